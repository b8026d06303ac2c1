set_option maxRecDepth 100000 in
def c227_3 (rec : Nat → List Value → Mem → XA) (a0 : Option Nat) (a1 : Int32) (a2 : Int64) (M0 : Mem) (j31 : Int32 → XA) (j40 : Unit → XA) : (Int32) → ((Int32) → XA) → XA := fun s3 j3 =>
  gtP (13, 157) M0 a0 3 fun x4 =>
  alI 100 M0 x4 a1 fun x5 =>
  if x5 ≤ s3 then (
    j40 ()) else (
    gtP (13, 157) M0 a0 4 fun x6 =>
    alL M0 x6 ((((8 : Int32)) * a1) + s3) fun x7 =>
    if (lg_cmp x7 a2) = 0 then (
      j31 s3) else (
      lt (s3 + (1 : Int32)) fun (x8 : Int32) =>
      j3 x8))
set_option maxRecDepth 100000 in
def c227 (rec : Nat → List Value → Mem → XA) (a0 : Option Nat) (a1 : Int32) (a2 : Int64) (M0 : Mem) : XA :=
  jn (fun (s1 : Int32) =>
    some (.int s1, M0)) fun j31 =>
  jn (fun (s2 : Unit) =>
    some (.int ((-1 : Int32)), M0)) fun j40 =>
  lp (c227_3 rec a0 a1 a2 M0 j31 j40) 4294967296 ((0 : Int32))
def b227 (rec : Nat → List Value → Mem → XA) (as : List Value) (M0 : Mem) : XA := aR as fun a0 as => aI as fun a1 as => aL as fun a2 as => aZ as (c227 rec a0 a1 a2 M0)
set_option maxRecDepth 100000 in
set_option maxHeartbeats 4000000 in
theorem k227 {S : XS} {G : XG} {K : Nat × Nat} {l : Launch} {d : Nat} {rec : Nat → List Value → Mem → XA} (hs : XSnd l xmt rec d) (a0 : Option Nat) (a1 : Int32) (a2 : Int64) (M0 : Mem) : Xe S G K l (yX12_unitOf, cX12_unitOf, 5, some .int) d 0 [some (va_rf a0), some (.int a1), some (.long a2), none, none] [] M0 (c227 rec a0 a1 a2 M0) := by
  unfold c227
  refine x_iconst (v := 0) dX12_unitOf_0 (by decide) ?_
  refine x_istore (lo' := [some (va_rf a0), some (.int a1), some (.long a2), none, some (.int ((0 : Int32)))]) dX12_unitOf_1 (by decide) rfl rfl ?_
  refine x_jn (σ := Int32) 31 (fun s1 => [none, none, none, none, some (.int s1)]) (fun s1 => []) (fun s1 => M0) (fun s1 => ?_) (fun j31 hj31 => ?_)
  · refine x_iload dX12_unitOf_31 rfl ?_
    exact x_iret rfl dX12_unitOf_33
  refine x_jn (σ := Unit) 40 (fun s2 => [none, none, none, none, none]) (fun s2 => []) (fun s2 => M0) (fun s2 => ?_) (fun j40 hj40 => ?_)
  · refine x_iconst (v := -1) dX12_unitOf_40 (by decide) ?_
    exact x_iret rfl dX12_unitOf_41
  refine x_weak (by exact ⟨rfl, ⟨rfl, ⟨rfl, ⟨rfl, trivial⟩⟩⟩⟩) (x_lp (σ := Int32) 3 (fun s3 => [some (va_rf a0), some (.int a1), some (.long a2), none, some (.int s3)]) (fun s3 => []) (fun s3 => M0) (fun s3 j3 hj3 => ?_) 4294967296 ((0 : Int32)))
  · refine x_iload dX12_unitOf_3 rfl ?_
    refine x_aload_n dX12_unitOf_5 rfl ?_
    refine gfX12_13 rfl dX12_unitOf_6 (fun x4 => ?_)
    refine x_iload_n dX12_unitOf_9 rfl ?_
    refine x_iald dX12_unitOf_10 (fun x5 => ?_)
    refine x_icmp_ge (tgt := 40) dX12_unitOf_11 (by decide) (fun _ => ?_) (fun _ => ?_)
    · exact x_weak (by exact trivial) (hj40 ())
    · refine x_aload_n dX12_unitOf_14 rfl ?_
      refine gfX12_17 rfl dX12_unitOf_15 (fun x6 => ?_)
      refine x_bipush (v := 8) dX12_unitOf_18 (by decide) ?_
      refine x_iload_n dX12_unitOf_20 rfl ?_
      refine x_imul dX12_unitOf_21 ?_
      refine x_iload dX12_unitOf_22 rfl ?_
      refine x_iadd dX12_unitOf_24 ?_
      refine x_lald dX12_unitOf_25 (fun x7 => ?_)
      refine x_lload_n dX12_unitOf_26 rfl ?_
      refine x_lcmp dX12_unitOf_27 ?_
      refine x_if_ne (tgt := 34) dX12_unitOf_28 (by decide) (fun _ => ?_) (fun _ => ?_)
      · exact x_weak (by exact ⟨rfl, trivial⟩) (hj31 s3)
      · refine x_iincN (v := 1) (lo' := fun x8 => [some (va_rf a0), some (.int a1), some (.long a2), none, some (.int x8)]) (by decide) dX12_unitOf_34 rfl (by decide) rfl (fun _ => rfl) (fun x8 => ?_)
        refine x_goto (tgt := 3) dX12_unitOf_37 (by decide) ?_
        exact x_weak (by exact ⟨rfl, ⟨rfl, ⟨rfl, ⟨rfl, trivial⟩⟩⟩⟩) (hj3 x8)
theorem s227 {l : Launch} {d : Nat} {rec : Nat → List Value → Mem → XA} (hS : Nonempty XS) (hs : XSnd l xmt rec d) : Snd1 l 227 (b227 rec) d := by
  intro as M r M' h0
  unfold b227 at h0
  obtain ⟨a0, l1, e1, h1⟩ := aR_inv h0
  obtain ⟨a1, l2, e2, h2⟩ := aI_inv h1
  obtain ⟨a2, l3, e3, h3⟩ := aL_inv h2
  obtain ⟨ez, h⟩ := aZ_inv h3
  subst ez
  subst e3
  subst e2
  subst e1
  exact xmet (M := M) (as := [va_rf a0, .int a1, .long a2]) (lo := [some (va_rf a0), some (.int a1), some (.long a2)]) 227 xq227 xm227 (by rw [xargs_rf, xargs_i, xargs_l, xargs_nil]; exact ⟨rfl, ⟨rfl, ⟨rfl, trivial⟩⟩⟩) (by rw [xargs_rf, xargs_i, xargs_l, xargs_nil]; exact Nat.le_of_ble_eq_true rfl) (fun S G K => x_weak (by exact ⟨rfl, ⟨rfl, ⟨rfl, trivial⟩⟩⟩) (k227 hs a0 a1 a2 M)) h hS
set_option maxRecDepth 100000 in
def c228_3 (rec : Nat → List Value → Mem → XA) (a0 : Option Nat) (a1 : Int32) (a2 : Int32) (a3 : Int64) (M0 : Mem) (j47 : Int32 → XA) (j56 : Unit → XA) : (Int32) → ((Int32) → XA) → XA := fun s3 j3 =>
  gtP (13, 157) M0 a0 10 fun x4 =>
  alI 100 M0 x4 a1 fun x5 =>
  if x5 ≤ s3 then (
    j56 ()) else (
    gtP (13, 157) M0 a0 12 fun x6 =>
    alI 100 M0 x6 ((((96 : Int32)) * a1) + s3) fun x7 =>
    jn (fun (s8 : Unit) =>
      lt (s3 + (1 : Int32)) fun (x9 : Int32) =>
      j3 x9) fun j50 =>
    if x7 = a2 then (
      gtP (13, 157) M0 a0 11 fun x10 =>
      alL M0 x10 ((((96 : Int32)) * a1) + s3) fun x11 =>
      if (lg_cmp x11 a3) = 0 then (
        j47 s3) else (
        j50 ())) else (
      j50 ()))
set_option maxRecDepth 100000 in
def c228 (rec : Nat → List Value → Mem → XA) (a0 : Option Nat) (a1 : Int32) (a2 : Int32) (a3 : Int64) (M0 : Mem) : XA :=
  jn (fun (s1 : Int32) =>
    some (.int s1, M0)) fun j47 =>
  jn (fun (s2 : Unit) =>
    some (.int ((-1 : Int32)), M0)) fun j56 =>
  lp (c228_3 rec a0 a1 a2 a3 M0 j47 j56) 4294967296 ((0 : Int32))
def b228 (rec : Nat → List Value → Mem → XA) (as : List Value) (M0 : Mem) : XA := aR as fun a0 as => aI as fun a1 as => aI as fun a2 as => aL as fun a3 as => aZ as (c228 rec a0 a1 a2 a3 M0)
set_option maxRecDepth 100000 in
set_option maxHeartbeats 4000000 in
theorem k228 {S : XS} {G : XG} {K : Nat × Nat} {l : Launch} {d : Nat} {rec : Nat → List Value → Mem → XA} (hs : XSnd l xmt rec d) (a0 : Option Nat) (a1 : Int32) (a2 : Int32) (a3 : Int64) (M0 : Mem) : Xe S G K l (yX12_memberOf, cX12_memberOf, 6, some .int) d 0 [some (va_rf a0), some (.int a1), some (.int a2), some (.long a3), none, none] [] M0 (c228 rec a0 a1 a2 a3 M0) := by
  unfold c228
  refine x_iconst (v := 0) dX12_memberOf_0 (by decide) ?_
  refine x_istore (lo' := [some (va_rf a0), some (.int a1), some (.int a2), some (.long a3), none, some (.int ((0 : Int32)))]) dX12_memberOf_1 (by decide) rfl rfl ?_
  refine x_jn (σ := Int32) 47 (fun s1 => [none, none, none, none, none, some (.int s1)]) (fun s1 => []) (fun s1 => M0) (fun s1 => ?_) (fun j47 hj47 => ?_)
  · refine x_iload dX12_memberOf_47 rfl ?_
    exact x_iret rfl dX12_memberOf_49
  refine x_jn (σ := Unit) 56 (fun s2 => [none, none, none, none, none, none]) (fun s2 => []) (fun s2 => M0) (fun s2 => ?_) (fun j56 hj56 => ?_)
  · refine x_iconst (v := -1) dX12_memberOf_56 (by decide) ?_
    exact x_iret rfl dX12_memberOf_57
  refine x_weak (by exact ⟨rfl, ⟨rfl, ⟨rfl, ⟨rfl, ⟨rfl, trivial⟩⟩⟩⟩⟩) (x_lp (σ := Int32) 3 (fun s3 => [some (va_rf a0), some (.int a1), some (.int a2), some (.long a3), none, some (.int s3)]) (fun s3 => []) (fun s3 => M0) (fun s3 j3 hj3 => ?_) 4294967296 ((0 : Int32)))
  · refine x_iload dX12_memberOf_3 rfl ?_
    refine x_aload_n dX12_memberOf_5 rfl ?_
    refine gfX12_36 rfl dX12_memberOf_6 (fun x4 => ?_)
    refine x_iload_n dX12_memberOf_9 rfl ?_
    refine x_iald dX12_memberOf_10 (fun x5 => ?_)
    refine x_icmp_ge (tgt := 56) dX12_memberOf_11 (by decide) (fun _ => ?_) (fun _ => ?_)
    · exact x_weak (by exact trivial) (hj56 ())
    · refine x_aload_n dX12_memberOf_14 rfl ?_
      refine gfX12_42 rfl dX12_memberOf_15 (fun x6 => ?_)
      refine x_bipush (v := 96) dX12_memberOf_18 (by decide) ?_
      refine x_iload_n dX12_memberOf_20 rfl ?_
      refine x_imul dX12_memberOf_21 ?_
      refine x_iload dX12_memberOf_22 rfl ?_
      refine x_iadd dX12_memberOf_24 ?_
      refine x_iald dX12_memberOf_25 (fun x7 => ?_)
      refine x_iload_n dX12_memberOf_26 rfl ?_
      refine x_jn (σ := Unit) 50 (fun s8 => [some (va_rf a0), some (.int a1), some (.int a2), some (.long a3), none, some (.int s3)]) (fun s8 => []) (fun s8 => M0) (fun s8 => ?_) (fun j50 hj50 => ?_)
      · refine x_iincN (v := 1) (lo' := fun x9 => [some (va_rf a0), some (.int a1), some (.int a2), some (.long a3), none, some (.int x9)]) (by decide) dX12_memberOf_50 rfl (by decide) rfl (fun _ => rfl) (fun x9 => ?_)
        refine x_goto (tgt := 3) dX12_memberOf_53 (by decide) ?_
        exact x_weak (by exact ⟨rfl, ⟨rfl, ⟨rfl, ⟨rfl, ⟨rfl, trivial⟩⟩⟩⟩⟩) (hj3 x9)
      refine x_icmp_ne (tgt := 50) dX12_memberOf_27 (by decide) (fun _ => ?_) (fun _ => ?_)
      · refine x_aload_n dX12_memberOf_30 rfl ?_
        refine gfX12_39 rfl dX12_memberOf_31 (fun x10 => ?_)
        refine x_bipush (v := 96) dX12_memberOf_34 (by decide) ?_
        refine x_iload_n dX12_memberOf_36 rfl ?_
        refine x_imul dX12_memberOf_37 ?_
        refine x_iload dX12_memberOf_38 rfl ?_
        refine x_iadd dX12_memberOf_40 ?_
        refine x_lald dX12_memberOf_41 (fun x11 => ?_)
        refine x_lload_n dX12_memberOf_42 rfl ?_
        refine x_lcmp dX12_memberOf_43 ?_
        refine x_if_ne (tgt := 50) dX12_memberOf_44 (by decide) (fun _ => ?_) (fun _ => ?_)
        · exact x_weak (by exact ⟨rfl, trivial⟩) (hj47 s3)
        · exact x_weak (by exact ⟨rfl, ⟨rfl, ⟨rfl, ⟨rfl, ⟨rfl, trivial⟩⟩⟩⟩⟩) (hj50 ())
      · exact x_weak (by exact ⟨rfl, ⟨rfl, ⟨rfl, ⟨rfl, ⟨rfl, trivial⟩⟩⟩⟩⟩) (hj50 ())
theorem s228 {l : Launch} {d : Nat} {rec : Nat → List Value → Mem → XA} (hS : Nonempty XS) (hs : XSnd l xmt rec d) : Snd1 l 228 (b228 rec) d := by
  intro as M r M' h0
  unfold b228 at h0
  obtain ⟨a0, l1, e1, h1⟩ := aR_inv h0
  obtain ⟨a1, l2, e2, h2⟩ := aI_inv h1
  obtain ⟨a2, l3, e3, h3⟩ := aI_inv h2
  obtain ⟨a3, l4, e4, h4⟩ := aL_inv h3
  obtain ⟨ez, h⟩ := aZ_inv h4
  subst ez
  subst e4
  subst e3
  subst e2
  subst e1
  exact xmet (M := M) (as := [va_rf a0, .int a1, .int a2, .long a3]) (lo := [some (va_rf a0), some (.int a1), some (.int a2), some (.long a3)]) 228 xq228 xm228 (by rw [xargs_rf, xargs_i, xargs_i, xargs_l, xargs_nil]; exact ⟨rfl, ⟨rfl, ⟨rfl, ⟨rfl, trivial⟩⟩⟩⟩) (by rw [xargs_rf, xargs_i, xargs_i, xargs_l, xargs_nil]; exact Nat.le_of_ble_eq_true rfl) (fun S G K => x_weak (by exact ⟨rfl, ⟨rfl, ⟨rfl, ⟨rfl, trivial⟩⟩⟩⟩) (k228 hs a0 a1 a2 a3 M)) h hS
set_option maxRecDepth 100000 in
def c229_159 (rec : Nat → List Value → Mem → XA) (a0 : Option Nat) (a1 : Int32) (j183 : Mem → XA) : (Mem) → ((Mem) → XA) → XA := fun s42 j159 =>
  gtI (13, 157) s42 a0 41 fun x43 =>
  if x43 = 0 then (
    gtI (13, 157) s42 a0 36 fun x44 =>
    if x44 = ((125 : Int32)) then (
      j183 s42) else (
      vC (13, 157) s42 a0 <|
      cV (rec 221 [va_rf a0, .int a1] s42) fun M45 =>
      j159 M45)) else (
    j183 s42)
set_option maxRecDepth 100000 in
def c229 (rec : Nat → List Value → Mem → XA) (a0 : Option Nat) (a1 : Int32) (M0 : Mem) : XA :=
  vC (13, 157) M0 a0 <|
  cV (rec 191 [va_rf a0] M0) fun M1 =>
  gtI (13, 157) M1 a0 41 fun x2 =>
  jn (fun (s3 : Mem) =>
    some (.null, s3)) fun j81 =>
  if x2 = 0 then (
    gtI (13, 157) M1 a0 36 fun x4 =>
    jn (fun (s5 : Int32) =>
      vC (13, 157) M1 a0 <|
      cI (rec 193 [va_rf a0, .int s5] M1) fun x7 M6 =>
      if x7 = 0 then (
        j81 M6) else (
        gtL (13, 157) M6 a0 39 fun x8 =>
        vC (13, 157) M6 a0 <|
        cI (rec 227 [va_rf a0, .int a1, .long x8] M6) fun x10 M9 =>
        jn (fun (s11 : Int32) =>
          vC (13, 157) M9 a0 <|
          cI (rec 194 [va_rf a0, .int s11, .int ((3 : Int32))] M9) fun x13 M12 =>
          if x13 = 0 then (
            j81 M12) else (
            gtP (13, 157) M12 a0 3 fun x14 =>
            alI 100 M12 x14 a1 fun x15 =>
            jn (fun (s16 : Int32) =>
              vC (13, 157) M12 a0 <|
              cI (rec 194 [va_rf a0, .int s16, .int ((6 : Int32))] M12) fun x18 M17 =>
              if x18 = 0 then (
                j81 M17) else (
                gtP (13, 157) M17 a0 3 fun x19 =>
                alI 100 M17 x19 a1 fun x20 =>
                ptI (13, 157) M17 a0 49 x20 fun M21 =>
                gtI (13, 157) M21 a0 49 fun x22 =>
                lt ((((8 : Int32)) * a1) + x22) fun (x23 : Int32) =>
                gtP (13, 157) M21 a0 4 fun x24 =>
                gtL (13, 157) M21 a0 39 fun x25 =>
                asL M21 x24 x23 x25 fun M26 =>
                gtP (13, 157) M26 a0 5 fun x27 =>
                asI 100 M26 x27 x23 (((-1 : Int32))) fun M28 =>
                gtP (13, 157) M28 a0 6 fun x29 =>
                asI 100 M28 x29 x23 (((0 : Int32))) fun M30 =>
                gtP (13, 157) M30 a0 8 fun x31 =>
                asI 100 M30 x31 x23 (((0 : Int32))) fun M32 =>
                ptI (13, 157) M32 a0 64 ((0 : Int32)) fun M33 =>
                gtP (13, 157) M33 a0 3 fun x34 =>
                alI 100 M33 x34 a1 fun x35 =>
                asI 100 M33 x34 a1 ((x35 + ((1 : Int32)))) fun M36 =>
                vC (13, 157) M36 a0 <|
                cV (rec 191 [va_rf a0] M36) fun M37 =>
                vC (13, 157) M37 a0 <|
                cI (rec 195 [va_rf a0, .int ((123 : Int32))] M37) fun x39 M38 =>
                jn (fun (s40 : Mem) =>
                  vC (13, 157) s40 a0 <|
                  cV (rec 191 [va_rf a0] s40) fun M41 =>
                  some (.null, M41)) fun j183 =>
                lp (c229_159 rec a0 a1 j183) 4294967296 M38)) fun j73 =>
            if ((8 : Int32)) ≤ x15 then (
              j73 ((0 : Int32))) else (
              j73 ((1 : Int32))))) fun j49 =>
        if 0 ≤ x10 then (
          j49 ((0 : Int32))) else (
          j49 ((1 : Int32))))) fun j25 =>
    if x4 = ((1 : Int32)) then (
      j25 ((1 : Int32))) else (
      j25 ((0 : Int32)))) else (
    j81 M1)
def b229 (rec : Nat → List Value → Mem → XA) (as : List Value) (M0 : Mem) : XA := aR as fun a0 as => aI as fun a1 as => aZ as (c229 rec a0 a1 M0)
set_option maxRecDepth 100000 in
set_option maxHeartbeats 4000000 in
theorem k229 {S : XS} {G : XG} {K : Nat × Nat} {l : Launch} {d : Nat} {rec : Nat → List Value → Mem → XA} (hs : XSnd l xmt rec d) (a0 : Option Nat) (a1 : Int32) (M0 : Mem) : Xe S G K l (yX12_readUnit, cX12_readUnit, 3, none) d 0 [some (va_rf a0), some (.int a1), none] [] M0 (c229 rec a0 a1 M0) := by
  unfold c229
  refine x_aload_n dX12_readUnit_0 rfl ?_
  refine cmX12_436 rfl hs (Nat.le_of_ble_eq_true rfl) dX12_readUnit_1 (fun M1 => ?_)
  refine x_aload_n dX12_readUnit_4 rfl ?_
  refine gfX12_395 rfl dX12_readUnit_5 (fun x2 => ?_)
  refine x_jn (σ := Mem) 81 (fun s3 => [none, none, none]) (fun s3 => []) (fun s3 => s3) (fun s3 => ?_) (fun j81 hj81 => ?_)
  · exact x_vret rfl dX12_readUnit_81
  refine x_if_ne (tgt := 81) dX12_readUnit_8 (by decide) (fun _ => ?_) (fun _ => ?_)
  · refine x_aload_n dX12_readUnit_11 rfl ?_
    refine x_aload_n dX12_readUnit_12 rfl ?_
    refine gfX12_408 rfl dX12_readUnit_13 (fun x4 => ?_)
    refine x_iconst (v := 1) dX12_readUnit_16 (by decide) ?_
    refine x_jn (σ := Int32) 25 (fun s5 => [some (va_rf a0), some (.int a1), none]) (fun s5 => [.int s5, va_rf a0]) (fun s5 => M1) (fun s5 => ?_) (fun j25 hj25 => ?_)
    · refine cmX12_432 rfl hs (Nat.le_of_ble_eq_true rfl) dX12_readUnit_25 (fun x7 M6 => ?_)
      refine x_if_eq (tgt := 81) dX12_readUnit_28 (by decide) (fun _ => ?_) (fun _ => ?_)
      · exact x_weak (by exact trivial) (hj81 M6)
      · refine x_aload_n dX12_readUnit_31 rfl ?_
        refine x_aload_n dX12_readUnit_32 rfl ?_
        refine x_iload_n dX12_readUnit_33 rfl ?_
        refine x_aload_n dX12_readUnit_34 rfl ?_
        refine gfX12_415 rfl dX12_readUnit_35 (fun x8 => ?_)
        refine cmX12_571 rfl hs (Nat.le_of_ble_eq_true rfl) dX12_readUnit_38 (fun x10 M9 => ?_)
        refine x_jn (σ := Int32) 49 (fun s11 => [some (va_rf a0), some (.int a1), none]) (fun s11 => [.int s11, va_rf a0]) (fun s11 => M9) (fun s11 => ?_) (fun j49 hj49 => ?_)
        · refine x_iconst (v := 3) dX12_readUnit_49 (by decide) ?_
          refine cmX12_455 rfl hs (Nat.le_of_ble_eq_true rfl) dX12_readUnit_50 (fun x13 M12 => ?_)
          refine x_if_eq (tgt := 81) dX12_readUnit_53 (by decide) (fun _ => ?_) (fun _ => ?_)
          · exact x_weak (by exact trivial) (hj81 M12)
          · refine x_aload_n dX12_readUnit_56 rfl ?_
            refine x_aload_n dX12_readUnit_57 rfl ?_
            refine gfX12_13 rfl dX12_readUnit_58 (fun x14 => ?_)
            refine x_iload_n dX12_readUnit_61 rfl ?_
            refine x_iald dX12_readUnit_62 (fun x15 => ?_)
            refine x_bipush (v := 8) dX12_readUnit_63 (by decide) ?_
            refine x_jn (σ := Int32) 73 (fun s16 => [some (va_rf a0), some (.int a1), none]) (fun s16 => [.int s16, va_rf a0]) (fun s16 => M12) (fun s16 => ?_) (fun j73 hj73 => ?_)
            · refine x_bipush (v := 6) dX12_readUnit_73 (by decide) ?_
              refine cmX12_455 rfl hs (Nat.le_of_ble_eq_true rfl) dX12_readUnit_75 (fun x18 M17 => ?_)
              refine x_if_ne (tgt := 82) dX12_readUnit_78 (by decide) (fun _ => ?_) (fun _ => ?_)
              · exact x_weak (by exact trivial) (hj81 M17)
              · refine x_aload_n dX12_readUnit_82 rfl ?_
                refine x_aload_n dX12_readUnit_83 rfl ?_
                refine gfX12_13 rfl dX12_readUnit_84 (fun x19 => ?_)
                refine x_iload_n dX12_readUnit_87 rfl ?_
                refine x_iald dX12_readUnit_88 (fun x20 => ?_)
                refine pfX12_442 rfl dX12_readUnit_89 (fun M21 => ?_)
                refine x_bipush (v := 8) dX12_readUnit_92 (by decide) ?_
                refine x_iload_n dX12_readUnit_94 rfl ?_
                refine x_imul dX12_readUnit_95 ?_
                refine x_aload_n dX12_readUnit_96 rfl ?_
                refine gfX12_442 rfl dX12_readUnit_97 (fun x22 => ?_)
                refine x_iadd dX12_readUnit_100 ?_
                refine x_ltI (fun x23 => ?_)
                refine x_istore_n (lo' := [some (va_rf a0), some (.int a1), some (.int x23)]) dX12_readUnit_101 (by decide) rfl rfl ?_
                refine x_aload_n dX12_readUnit_102 rfl ?_
                refine gfX12_17 rfl dX12_readUnit_103 (fun x24 => ?_)
                refine x_iload_n dX12_readUnit_106 rfl ?_
                refine x_aload_n dX12_readUnit_107 rfl ?_
                refine gfX12_415 rfl dX12_readUnit_108 (fun x25 => ?_)
                refine x_last dX12_readUnit_111 (fun M26 => ?_)
                refine x_aload_n dX12_readUnit_112 rfl ?_
                refine gfX12_21 rfl dX12_readUnit_113 (fun x27 => ?_)
                refine x_iload_n dX12_readUnit_116 rfl ?_
                refine x_iconst (v := -1) dX12_readUnit_117 (by decide) ?_
                refine x_iast dX12_readUnit_118 (fun M28 => ?_)
                refine x_aload_n dX12_readUnit_119 rfl ?_
                refine gfX12_24 rfl dX12_readUnit_120 (fun x29 => ?_)
                refine x_iload_n dX12_readUnit_123 rfl ?_
                refine x_iconst (v := 0) dX12_readUnit_124 (by decide) ?_
                refine x_iast dX12_readUnit_125 (fun M30 => ?_)
                refine x_aload_n dX12_readUnit_126 rfl ?_
                refine gfX12_30 rfl dX12_readUnit_127 (fun x31 => ?_)
                refine x_iload_n dX12_readUnit_130 rfl ?_
                refine x_iconst (v := 0) dX12_readUnit_131 (by decide) ?_
                refine x_iast dX12_readUnit_132 (fun M32 => ?_)
                refine x_aload_n dX12_readUnit_133 rfl ?_
                refine x_iconst (v := 0) dX12_readUnit_134 (by decide) ?_
                refine pfX12_555 rfl dX12_readUnit_135 (fun M33 => ?_)
                refine x_aload_n dX12_readUnit_138 rfl ?_
                refine gfX12_13 rfl dX12_readUnit_139 (fun x34 => ?_)
                refine x_iload_n dX12_readUnit_142 rfl ?_
                refine x_dup2 dX12_readUnit_143 (xc1_i _) (xc1_r _) ?_
                refine x_iald dX12_readUnit_144 (fun x35 => ?_)
                refine x_iconst (v := 1) dX12_readUnit_145 (by decide) ?_
                refine x_iadd dX12_readUnit_146 ?_
                refine x_iast dX12_readUnit_147 (fun M36 => ?_)
                refine x_aload_n dX12_readUnit_148 rfl ?_
                refine cmX12_436 rfl hs (Nat.le_of_ble_eq_true rfl) dX12_readUnit_149 (fun M37 => ?_)
                refine x_aload_n dX12_readUnit_152 rfl ?_
                refine x_bipush (v := 123) dX12_readUnit_153 (by decide) ?_
                refine cmX12_517 rfl hs (Nat.le_of_ble_eq_true rfl) dX12_readUnit_155 (fun x39 M38 => ?_)
                refine x_pop dX12_readUnit_158 (xc1_i _) ?_
                refine x_jn (σ := Mem) 183 (fun s40 => [some (va_rf a0), none, none]) (fun s40 => []) (fun s40 => s40) (fun s40 => ?_) (fun j183 hj183 => ?_)
                · refine x_aload_n dX12_readUnit_183 rfl ?_
                  refine cmX12_436 rfl hs (Nat.le_of_ble_eq_true rfl) dX12_readUnit_184 (fun M41 => ?_)
                  exact x_vret rfl dX12_readUnit_187
                refine x_weak (by exact ⟨rfl, ⟨rfl, trivial⟩⟩) (x_lp (σ := Mem) 159 (fun s42 => [some (va_rf a0), some (.int a1), none]) (fun s42 => []) (fun s42 => s42) (fun s42 j159 hj159 => ?_) 4294967296 M38)
                · refine x_aload_n dX12_readUnit_159 rfl ?_
                  refine gfX12_395 rfl dX12_readUnit_160 (fun x43 => ?_)
                  refine x_if_ne (tgt := 183) dX12_readUnit_163 (by decide) (fun _ => ?_) (fun _ => ?_)
                  · refine x_aload_n dX12_readUnit_166 rfl ?_
                    refine gfX12_408 rfl dX12_readUnit_167 (fun x44 => ?_)
                    refine x_bipush (v := 125) dX12_readUnit_170 (by decide) ?_
                    refine x_icmp_eq (tgt := 183) dX12_readUnit_172 (by decide) (fun _ => ?_) (fun _ => ?_)
                    · exact x_weak (by exact ⟨rfl, trivial⟩) (hj183 s42)
                    · refine x_aload_n dX12_readUnit_175 rfl ?_
                      refine x_iload_n dX12_readUnit_176 rfl ?_
                      refine cmX12_575 rfl hs (Nat.le_of_ble_eq_true rfl) dX12_readUnit_177 (fun M45 => ?_)
                      refine x_goto (tgt := 159) dX12_readUnit_180 (by decide) ?_
                      exact x_weak (by exact ⟨rfl, ⟨rfl, trivial⟩⟩) (hj159 M45)
                  · exact x_weak (by exact ⟨rfl, trivial⟩) (hj183 s42)
            refine x_icmp_ge (tgt := 72) dX12_readUnit_65 (by decide) (fun _ => ?_) (fun _ => ?_)
            · refine x_iconst (v := 0) dX12_readUnit_72 (by decide) ?_
              exact x_weak (by exact ⟨rfl, ⟨rfl, trivial⟩⟩) (hj73 ((0 : Int32)))
            · refine x_iconst (v := 1) dX12_readUnit_68 (by decide) ?_
              refine x_goto (tgt := 73) dX12_readUnit_69 (by decide) ?_
              exact x_weak (by exact ⟨rfl, ⟨rfl, trivial⟩⟩) (hj73 ((1 : Int32)))
        refine x_if_ge (tgt := 48) dX12_readUnit_41 (by decide) (fun _ => ?_) (fun _ => ?_)
        · refine x_iconst (v := 0) dX12_readUnit_48 (by decide) ?_
          exact x_weak (by exact ⟨rfl, ⟨rfl, trivial⟩⟩) (hj49 ((0 : Int32)))
        · refine x_iconst (v := 1) dX12_readUnit_44 (by decide) ?_
          refine x_goto (tgt := 49) dX12_readUnit_45 (by decide) ?_
          exact x_weak (by exact ⟨rfl, ⟨rfl, trivial⟩⟩) (hj49 ((1 : Int32)))
    refine x_icmp_ne (tgt := 24) dX12_readUnit_17 (by decide) (fun _ => ?_) (fun _ => ?_)
    · refine x_iconst (v := 1) dX12_readUnit_20 (by decide) ?_
      refine x_goto (tgt := 25) dX12_readUnit_21 (by decide) ?_
      exact x_weak (by exact ⟨rfl, ⟨rfl, trivial⟩⟩) (hj25 ((1 : Int32)))
    · refine x_iconst (v := 0) dX12_readUnit_24 (by decide) ?_
      exact x_weak (by exact ⟨rfl, ⟨rfl, trivial⟩⟩) (hj25 ((0 : Int32)))
  · exact x_weak (by exact trivial) (hj81 M1)
theorem s229 {l : Launch} {d : Nat} {rec : Nat → List Value → Mem → XA} (hS : Nonempty XS) (hs : XSnd l xmt rec d) : Snd1 l 229 (b229 rec) d := by
  intro as M r M' h0
  unfold b229 at h0
  obtain ⟨a0, l1, e1, h1⟩ := aR_inv h0
  obtain ⟨a1, l2, e2, h2⟩ := aI_inv h1
  obtain ⟨ez, h⟩ := aZ_inv h2
  subst ez
  subst e2
  subst e1
  exact xmet (M := M) (as := [va_rf a0, .int a1]) (lo := [some (va_rf a0), some (.int a1)]) 229 xq229 xm229 (by rw [xargs_rf, xargs_i, xargs_nil]; exact ⟨rfl, ⟨rfl, trivial⟩⟩) (by rw [xargs_rf, xargs_i, xargs_nil]; exact Nat.le_of_ble_eq_true rfl) (fun S G K => x_weak (by exact ⟨rfl, ⟨rfl, trivial⟩⟩) (k229 hs a0 a1 M)) h hS
set_option maxRecDepth 100000 in
def c230_2 (rec : Nat → List Value → Mem → XA) (a0 : Option Nat) (a1 : Int32) (j53 : Int32 × Mem → XA) (j250 : Int32 × Mem → XA) (j335 : Mem → XA) : (Int32 × Mem) → ((Int32 × Mem) → XA) → XA := fun s10 j2 =>
  gtI (13, 157) s10.2 a0 53 fun x11 =>
  if x11 ≤ s10.1 then (
    j335 s10.2) else (
    gtI (13, 157) s10.2 a0 41 fun x12 =>
    if x12 = 0 then (
      gtP (13, 157) s10.2 a0 56 fun x13 =>
      alL s10.2 x13 s10.1 fun x14 =>
      jn (fun (s15 : Int32 × Mem) =>
        if 0 ≤ s15.1 then (
          gtP (13, 157) s15.2 a0 58 fun x16 =>
          alL s15.2 x16 s10.1 fun x17 =>
          vC (13, 157) s15.2 a0 <|
          cI (rec 228 [va_rf a0, .int a1, .int s15.1, .long x17] s15.2) fun x19 M18 =>
          lt ((((96 : Int32)) * a1) + x19) fun (x20 : Int32) =>
          jn (fun (s21 : Int32) =>
            jn (fun (s22 : Int32) =>
              gtP (13, 157) M18 a0 55 fun x23 =>
              alI 100 M18 x23 s10.1 fun x24 =>
              jn (fun (s25 : Int32 × Mem) =>
                if s25.1 = 0 then (
                  j250 (s10.1, s25.2)) else (
                  jn (fun (s26 : Int32) =>
                    gtP (13, 157) s25.2 a0 54 fun x27 =>
                    alI 100 s25.2 x27 s10.1 fun x28 =>
                    gtP (13, 157) s25.2 a0 44 fun x29 =>
                    jn (fun (s30 : Int32) =>
                      asI 101 s25.2 x29 x28 (s30.toInt8.toInt32) fun M31 =>
                      gtP (13, 157) M31 a0 45 fun x32 =>
                      jn (fun (s33 : Int32) =>
                        asI 100 M31 x32 x28 s33 fun M34 =>
                        lt (s10.1 + (1 : Int32)) fun (x35 : Int32) =>
                        j2 (x35, M34)) fun j328 =>
                      if s26 = 0 then (
                        j328 x19) else (
                        gtP (13, 157) M31 a0 15 fun x36 =>
                        alI 100 M31 x36 x20 fun x37 =>
                        j328 x37)) fun j304 =>
                    if s26 = 0 then (
                      gtP (13, 157) s25.2 a0 44 fun x38 =>
                      alI 101 s25.2 x38 x28 fun x39 =>
                      j304 x39) else (
                      j304 ((0 : Int32)))) fun j272 =>
                  if s22 = 0 then (
                    j272 ((1 : Int32))) else (
                    j272 ((0 : Int32))))) fun j245 =>
              swI x24 [
               ((0 : Int32), (
                  cI (rec 184 [.int s22, .int ((0 : Int32)), .int ((2 : Int32))] M18) fun x41 M40 =>
                  j245 (x41, M40))),
               ((1 : Int32), (
                  cI (rec 184 [.int s22, .int ((1 : Int32)), .int ((2 : Int32))] M18) fun x43 M42 =>
                  j245 (x43, M42))),
               ((2 : Int32), (
                  jn (fun (s44 : Int32) =>
                    j245 (s44, M18)) fun j211 =>
                  if s22 = ((3 : Int32)) then (
                    j211 ((1 : Int32))) else (
                    j211 ((0 : Int32))))),
               ((3 : Int32), (
                  jn (fun (s45 : Int32) =>
                    j245 (s45, M18)) fun j211 =>
                  if s22 = ((3 : Int32)) then (
                    j211 ((1 : Int32))) else (
                    j211 ((0 : Int32)))))] (
                jn (fun (s46 : Int32) =>
                  j245 (s46, M18)) fun j243 =>
                jn (fun (s47 : Unit) =>
                  j243 ((0 : Int32))) fun j242 =>
                if s22 = ((4 : Int32)) then (
                  gtP (13, 157) M18 a0 15 fun x48 =>
                  alI 100 M18 x48 x20 fun x49 =>
                  gtP (13, 157) M18 a0 60 fun x50 =>
                  alI 100 M18 x50 s10.1 fun x51 =>
                  if x49 = x51 then (
                    j243 ((1 : Int32))) else (
                    j242 ())) else (
                  j242 ()))) fun j136 =>
            if s21 = 0 then (
              j136 ((-1 : Int32))) else (
              gtP (13, 157) M18 a0 13 fun x52 =>
              alI 100 M18 x52 x20 fun x53 =>
              j136 x53)) fun j118 =>
          jn (fun (s54 : Unit) =>
            j118 ((0 : Int32))) fun j117 =>
          if x19 < 0 then (
            j117 ()) else (
            gtP (13, 157) M18 a0 14 fun x55 =>
            alX 102 M18 x55 x20 fun x56 =>
            jn (fun (s57 : Unit) =>
              j118 ((1 : Int32))) fun j113 =>
            if x56 = 0 then (
              j113 ()) else (
              gtP (13, 157) M18 a0 61 fun x58 =>
              alI 100 M18 x58 s10.1 fun x59 =>
              if s15.1 = x59 then (
                j113 ()) else (
                j117 ())))) else (
          j53 (s10.1, s15.2))) fun j48 =>
      if (lg_cmp x14 ((0 : Int64))) = 0 then (
        gtP (13, 157) s10.2 a0 61 fun x60 =>
        alI 100 s10.2 x60 s10.1 fun x61 =>
        j48 (x61, s10.2)) else (
        gtP (13, 157) s10.2 a0 56 fun x62 =>
        alL s10.2 x62 s10.1 fun x63 =>
        vC (13, 157) s10.2 a0 <|
        cI (rec 227 [va_rf a0, .int a1, .long x63] s10.2) fun x65 M64 =>
        j48 (x65, M64))) else (
      j335 s10.2))
set_option maxRecDepth 100000 in
def c230 (rec : Nat → List Value → Mem → XA) (a0 : Option Nat) (a1 : Int32) (M0 : Mem) : XA :=
  jn (fun (s1 : Int32 × Mem) =>
    gtP (13, 157) s1.2 a0 57 fun x2 =>
    alI 100 s1.2 x2 s1.1 fun x3 =>
    vC (13, 157) s1.2 a0 <|
    cV (rec 192 [va_rf a0, .int ((4 : Int32)), .int x3] s1.2) fun M4 =>
    some (.null, M4)) fun j53 =>
  jn (fun (s5 : Int32 × Mem) =>
    gtP (13, 157) s5.2 a0 59 fun x6 =>
    alI 100 s5.2 x6 s5.1 fun x7 =>
    vC (13, 157) s5.2 a0 <|
    cV (rec 192 [va_rf a0, .int ((4 : Int32)), .int x7] s5.2) fun M8 =>
    some (.null, M8)) fun j250 =>
  jn (fun (s9 : Mem) =>
    some (.null, s9)) fun j335 =>
  lp (c230_2 rec a0 a1 j53 j250 j335) 4294967296 ((0 : Int32), M0)
def b230 (rec : Nat → List Value → Mem → XA) (as : List Value) (M0 : Mem) : XA := aR as fun a0 as => aI as fun a1 as => aZ as (c230 rec a0 a1 M0)
set_option maxRecDepth 100000 in
set_option maxHeartbeats 4000000 in
theorem k230 {S : XS} {G : XG} {K : Nat × Nat} {l : Launch} {d : Nat} {rec : Nat → List Value → Mem → XA} (hs : XSnd l xmt rec d) (a0 : Option Nat) (a1 : Int32) (M0 : Mem) : Xe S G K l (yX12_lookUp, cX12_lookUp, 10, none) d 0 [some (va_rf a0), some (.int a1), none, none, none, none, none, none, none, none] [] M0 (c230 rec a0 a1 M0) := by
  unfold c230
  refine x_iconst (v := 0) dX12_lookUp_0 (by decide) ?_
  refine x_istore_n (lo' := [some (va_rf a0), some (.int a1), some (.int ((0 : Int32))), none, none, none, none, none, none, none]) dX12_lookUp_1 (by decide) rfl rfl ?_
  refine x_jn (σ := Int32 × Mem) 53 (fun s1 => [some (va_rf a0), none, some (.int s1.1), none, none, none, none, none, none, none]) (fun s1 => []) (fun s1 => s1.2) (fun s1 => ?_) (fun j53 hj53 => ?_)
  · refine x_aload_n dX12_lookUp_53 rfl ?_
    refine x_iconst (v := 4) dX12_lookUp_54 (by decide) ?_
    refine x_aload_n dX12_lookUp_55 rfl ?_
    refine gfX12_200 rfl dX12_lookUp_56 (fun x2 => ?_)
    refine x_iload_n dX12_lookUp_59 rfl ?_
    refine x_iald dX12_lookUp_60 (fun x3 => ?_)
    refine cmX12_428 rfl hs (Nat.le_of_ble_eq_true rfl) dX12_lookUp_61 (fun M4 => ?_)
    exact x_vret rfl dX12_lookUp_64
  refine x_jn (σ := Int32 × Mem) 250 (fun s5 => [some (va_rf a0), none, some (.int s5.1), none, none, none, none, none, none, none]) (fun s5 => []) (fun s5 => s5.2) (fun s5 => ?_) (fun j250 hj250 => ?_)
  · refine x_aload_n dX12_lookUp_250 rfl ?_
    refine x_iconst (v := 4) dX12_lookUp_251 (by decide) ?_
    refine x_aload_n dX12_lookUp_252 rfl ?_
    refine gfX12_206 rfl dX12_lookUp_253 (fun x6 => ?_)
    refine x_iload_n dX12_lookUp_256 rfl ?_
    refine x_iald dX12_lookUp_257 (fun x7 => ?_)
    refine cmX12_428 rfl hs (Nat.le_of_ble_eq_true rfl) dX12_lookUp_258 (fun M8 => ?_)
    exact x_vret rfl dX12_lookUp_261
  refine x_jn (σ := Mem) 335 (fun s9 => [none, none, none, none, none, none, none, none, none, none]) (fun s9 => []) (fun s9 => s9) (fun s9 => ?_) (fun j335 hj335 => ?_)
  · exact x_vret rfl dX12_lookUp_335
  refine x_weak (by exact ⟨rfl, ⟨rfl, ⟨rfl, trivial⟩⟩⟩) (x_lp (σ := Int32 × Mem) 2 (fun s10 => [some (va_rf a0), some (.int a1), some (.int s10.1), none, none, none, none, none, none, none]) (fun s10 => []) (fun s10 => s10.2) (fun s10 j2 hj2 => ?_) 4294967296 ((0 : Int32), M0))
  · refine x_iload_n dX12_lookUp_2 rfl ?_
    refine x_aload_n dX12_lookUp_3 rfl ?_
    refine gfX12_462 rfl dX12_lookUp_4 (fun x11 => ?_)
    refine x_icmp_ge (tgt := 335) dX12_lookUp_7 (by decide) (fun _ => ?_) (fun _ => ?_)
    · exact x_weak (by exact trivial) (hj335 s10.2)
    · refine x_aload_n dX12_lookUp_10 rfl ?_
      refine gfX12_395 rfl dX12_lookUp_11 (fun x12 => ?_)
      refine x_if_ne (tgt := 335) dX12_lookUp_14 (by decide) (fun _ => ?_) (fun _ => ?_)
      · refine x_aload_n dX12_lookUp_17 rfl ?_
        refine gfX12_197 rfl dX12_lookUp_18 (fun x13 => ?_)
        refine x_iload_n dX12_lookUp_21 rfl ?_
        refine x_lald dX12_lookUp_22 (fun x14 => ?_)
        refine x_lconst (v := 0) dX12_lookUp_23 (by decide) ?_
        refine x_lcmp dX12_lookUp_24 ?_
        refine x_jn (σ := Int32 × Mem) 48 (fun s15 => [some (va_rf a0), some (.int a1), some (.int s10.1), none, none, none, none, none, none, none]) (fun s15 => [.int s15.1]) (fun s15 => s15.2) (fun s15 => ?_) (fun j48 hj48 => ?_)
        · refine x_istore_n (lo' := [some (va_rf a0), some (.int a1), some (.int s10.1), some (.int s15.1), none, none, none, none, none, none]) dX12_lookUp_48 (by decide) rfl rfl ?_
          refine x_iload_n dX12_lookUp_49 rfl ?_
          refine x_if_ge (tgt := 65) dX12_lookUp_50 (by decide) (fun _ => ?_) (fun _ => ?_)
          · refine x_aload_n dX12_lookUp_65 rfl ?_
            refine x_iload_n dX12_lookUp_66 rfl ?_
            refine x_iload_n dX12_lookUp_67 rfl ?_
            refine x_aload_n dX12_lookUp_68 rfl ?_
            refine gfX12_203 rfl dX12_lookUp_69 (fun x16 => ?_)
            refine x_iload_n dX12_lookUp_72 rfl ?_
            refine x_lald dX12_lookUp_73 (fun x17 => ?_)
            refine cmX12_578 rfl hs (Nat.le_of_ble_eq_true rfl) dX12_lookUp_74 (fun x19 M18 => ?_)
            refine x_istore (lo' := [some (va_rf a0), some (.int a1), some (.int s10.1), some (.int s15.1), some (.int x19), none, none, none, none, none]) dX12_lookUp_77 (by decide) rfl rfl ?_
            refine x_bipush (v := 96) dX12_lookUp_79 (by decide) ?_
            refine x_iload_n dX12_lookUp_81 rfl ?_
            refine x_imul dX12_lookUp_82 ?_
            refine x_iload dX12_lookUp_83 rfl ?_
            refine x_iadd dX12_lookUp_85 ?_
            refine x_ltI (fun x20 => ?_)
            refine x_istore (lo' := [some (va_rf a0), some (.int a1), some (.int s10.1), some (.int s15.1), some (.int x19), some (.int x20), none, none, none, none]) dX12_lookUp_86 (by decide) rfl rfl ?_
            refine x_iload dX12_lookUp_88 rfl ?_
            refine x_jn (σ := Int32) 118 (fun s21 => [some (va_rf a0), some (.int a1), some (.int s10.1), none, some (.int x19), some (.int x20), none, none, none, none]) (fun s21 => [.int s21]) (fun s21 => M18) (fun s21 => ?_) (fun j118 hj118 => ?_)
            · refine x_istore (lo' := [some (va_rf a0), some (.int a1), some (.int s10.1), none, some (.int x19), some (.int x20), some (.int s21), none, none, none]) dX12_lookUp_118 (by decide) rfl rfl ?_
              refine x_iload dX12_lookUp_120 rfl ?_
              refine x_jn (σ := Int32) 136 (fun s22 => [some (va_rf a0), some (.int a1), some (.int s10.1), none, some (.int x19), some (.int x20), none, none, none, none]) (fun s22 => [.int s22]) (fun s22 => M18) (fun s22 => ?_) (fun j136 hj136 => ?_)
              · refine x_istore (lo' := [some (va_rf a0), some (.int a1), some (.int s10.1), none, some (.int x19), some (.int x20), none, some (.int s22), none, none]) dX12_lookUp_136 (by decide) rfl rfl ?_
                refine x_aload_n dX12_lookUp_138 rfl ?_
                refine gfX12_194 rfl dX12_lookUp_139 (fun x23 => ?_)
                refine x_iload_n dX12_lookUp_142 rfl ?_
                refine x_iald dX12_lookUp_143 (fun x24 => ?_)
                refine x_jn (σ := Int32 × Mem) 245 (fun s25 => [some (va_rf a0), some (.int a1), some (.int s10.1), none, some (.int x19), some (.int x20), some (.int s25.1), some (.int s22), none, none]) (fun s25 => []) (fun s25 => s25.2) (fun s25 => ?_) (fun j245 hj245 => ?_)
                · refine x_iload dX12_lookUp_245 rfl ?_
                  refine x_if_ne (tgt := 262) dX12_lookUp_247 (by decide) (fun _ => ?_) (fun _ => ?_)
                  · exact x_weak (by exact ⟨rfl, ⟨rfl, trivial⟩⟩) (hj250 (s10.1, s25.2))
                  · refine x_iload dX12_lookUp_262 rfl ?_
                    refine x_jn (σ := Int32) 272 (fun s26 => [some (va_rf a0), some (.int a1), some (.int s10.1), none, some (.int x19), some (.int x20), none, none, none, none]) (fun s26 => [.int s26]) (fun s26 => s25.2) (fun s26 => ?_) (fun j272 hj272 => ?_)
                    · refine x_istore (lo' := [some (va_rf a0), some (.int a1), some (.int s10.1), none, some (.int x19), some (.int x20), none, none, some (.int s26), none]) dX12_lookUp_272 (by decide) rfl rfl ?_
                      refine x_aload_n dX12_lookUp_274 rfl ?_
                      refine gfX12_191 rfl dX12_lookUp_275 (fun x27 => ?_)
                      refine x_iload_n dX12_lookUp_278 rfl ?_
                      refine x_iald dX12_lookUp_279 (fun x28 => ?_)
                      refine x_istore (lo' := [some (va_rf a0), some (.int a1), some (.int s10.1), none, some (.int x19), some (.int x20), none, none, some (.int s26), some (.int x28)]) dX12_lookUp_280 (by decide) rfl rfl ?_
                      refine x_aload_n dX12_lookUp_282 rfl ?_
                      refine gfX12_176 rfl dX12_lookUp_283 (fun x29 => ?_)
                      refine x_iload dX12_lookUp_286 rfl ?_
                      refine x_iload dX12_lookUp_288 rfl ?_
                      refine x_jn (σ := Int32) 304 (fun s30 => [some (va_rf a0), some (.int a1), some (.int s10.1), none, some (.int x19), some (.int x20), none, none, some (.int s26), some (.int x28)]) (fun s30 => [.int s30, .int x28, va_rf x29]) (fun s30 => s25.2) (fun s30 => ?_) (fun j304 hj304 => ?_)
                      · refine x_bast dX12_lookUp_304 (fun M31 => ?_)
                        refine x_aload_n dX12_lookUp_305 rfl ?_
                        refine gfX12_179 rfl dX12_lookUp_306 (fun x32 => ?_)
                        refine x_iload dX12_lookUp_309 rfl ?_
                        refine x_iload dX12_lookUp_311 rfl ?_
                        refine x_jn (σ := Int32) 328 (fun s33 => [some (va_rf a0), some (.int a1), some (.int s10.1), none, none, none, none, none, none, none]) (fun s33 => [.int s33, .int x28, va_rf x32]) (fun s33 => M31) (fun s33 => ?_) (fun j328 hj328 => ?_)
                        · refine x_iast dX12_lookUp_328 (fun M34 => ?_)
                          refine x_iincN (v := 1) (lo' := fun x35 => [some (va_rf a0), some (.int a1), some (.int x35), none, none, none, none, none, none, none]) (by decide) dX12_lookUp_329 rfl (by decide) rfl (fun _ => rfl) (fun x35 => ?_)
                          refine x_goto (tgt := 2) dX12_lookUp_332 (by decide) ?_
                          exact x_weak (by exact ⟨rfl, ⟨rfl, ⟨rfl, trivial⟩⟩⟩) (hj2 (x35, M34))
                        refine x_if_eq (tgt := 326) dX12_lookUp_313 (by decide) (fun _ => ?_) (fun _ => ?_)
                        · refine x_iload dX12_lookUp_326 rfl ?_
                          exact x_weak (by exact ⟨rfl, ⟨rfl, ⟨rfl, trivial⟩⟩⟩) (hj328 x19)
                        · refine x_aload_n dX12_lookUp_316 rfl ?_
                          refine gfX12_52 rfl dX12_lookUp_317 (fun x36 => ?_)
                          refine x_iload dX12_lookUp_320 rfl ?_
                          refine x_iald dX12_lookUp_322 (fun x37 => ?_)
                          refine x_goto (tgt := 328) dX12_lookUp_323 (by decide) ?_
                          exact x_weak (by exact ⟨rfl, ⟨rfl, ⟨rfl, trivial⟩⟩⟩) (hj328 x37)
                      refine x_if_eq (tgt := 297) dX12_lookUp_290 (by decide) (fun _ => ?_) (fun _ => ?_)
                      · refine x_aload_n dX12_lookUp_297 rfl ?_
                        refine gfX12_176 rfl dX12_lookUp_298 (fun x38 => ?_)
                        refine x_iload dX12_lookUp_301 rfl ?_
                        refine x_bald dX12_lookUp_303 (fun x39 => ?_)
                        exact x_weak (by exact ⟨rfl, ⟨rfl, ⟨rfl, ⟨rfl, ⟨rfl, ⟨rfl, ⟨rfl, trivial⟩⟩⟩⟩⟩⟩⟩) (hj304 x39)
                      · refine x_iconst (v := 0) dX12_lookUp_293 (by decide) ?_
                        refine x_goto (tgt := 304) dX12_lookUp_294 (by decide) ?_
                        exact x_weak (by exact ⟨rfl, ⟨rfl, ⟨rfl, ⟨rfl, ⟨rfl, ⟨rfl, ⟨rfl, trivial⟩⟩⟩⟩⟩⟩⟩) (hj304 ((0 : Int32)))
                    refine x_if_ne (tgt := 271) dX12_lookUp_264 (by decide) (fun _ => ?_) (fun _ => ?_)
                    · refine x_iconst (v := 1) dX12_lookUp_267 (by decide) ?_
                      refine x_goto (tgt := 272) dX12_lookUp_268 (by decide) ?_
                      exact x_weak (by exact ⟨rfl, ⟨rfl, ⟨rfl, ⟨rfl, ⟨rfl, trivial⟩⟩⟩⟩⟩) (hj272 ((1 : Int32)))
                    · refine x_iconst (v := 0) dX12_lookUp_271 (by decide) ?_
                      exact x_weak (by exact ⟨rfl, ⟨rfl, ⟨rfl, ⟨rfl, ⟨rfl, trivial⟩⟩⟩⟩⟩) (hj272 ((0 : Int32)))
                refine x_table (tgt := 216) dX12_lookUp_144 [(0, 176), (1, 188), (2, 200), (3, 200)] (by decide +kernel) (by decide +kernel) (by decide) ?_ ?_
                · refine swG_d (by decide) ?_ (swG_d (by decide) ?_ (swG_d (by decide) ?_ (swG_d (by decide) ?_ (trivial))))
                  · refine x_iload dX12_lookUp_176 rfl ?_
                    refine x_iconst (v := 0) dX12_lookUp_178 (by decide) ?_
                    refine x_iconst (v := 2) dX12_lookUp_179 (by decide) ?_
                    refine cmX12_381 rfl hs (Nat.le_of_ble_eq_true rfl) dX12_lookUp_180 (fun x41 M40 => ?_)
                    refine x_istore (lo' := [some (va_rf a0), some (.int a1), some (.int s10.1), none, some (.int x19), some (.int x20), some (.int x41), some (.int s22), none, none]) dX12_lookUp_183 (by decide) rfl rfl ?_
                    refine x_goto (tgt := 245) dX12_lookUp_185 (by decide) ?_
                    exact x_weak (by exact ⟨rfl, ⟨rfl, ⟨rfl, ⟨rfl, ⟨rfl, ⟨rfl, ⟨rfl, trivial⟩⟩⟩⟩⟩⟩⟩) (hj245 (x41, M40))
                  · refine x_iload dX12_lookUp_188 rfl ?_
                    refine x_iconst (v := 1) dX12_lookUp_190 (by decide) ?_
                    refine x_iconst (v := 2) dX12_lookUp_191 (by decide) ?_
                    refine cmX12_381 rfl hs (Nat.le_of_ble_eq_true rfl) dX12_lookUp_192 (fun x43 M42 => ?_)
                    refine x_istore (lo' := [some (va_rf a0), some (.int a1), some (.int s10.1), none, some (.int x19), some (.int x20), some (.int x43), some (.int s22), none, none]) dX12_lookUp_195 (by decide) rfl rfl ?_
                    refine x_goto (tgt := 245) dX12_lookUp_197 (by decide) ?_
                    exact x_weak (by exact ⟨rfl, ⟨rfl, ⟨rfl, ⟨rfl, ⟨rfl, ⟨rfl, ⟨rfl, trivial⟩⟩⟩⟩⟩⟩⟩) (hj245 (x43, M42))
                  · refine x_iload dX12_lookUp_200 rfl ?_
                    refine x_iconst (v := 3) dX12_lookUp_202 (by decide) ?_
                    refine x_jn (σ := Int32) 211 (fun s44 => [some (va_rf a0), some (.int a1), some (.int s10.1), none, some (.int x19), some (.int x20), none, some (.int s22), none, none]) (fun s44 => [.int s44]) (fun s44 => M18) (fun s44 => ?_) (fun j211 hj211 => ?_)
                    · refine x_istore (lo' := [some (va_rf a0), some (.int a1), some (.int s10.1), none, some (.int x19), some (.int x20), some (.int s44), some (.int s22), none, none]) dX12_lookUp_211 (by decide) rfl rfl ?_
                      refine x_goto (tgt := 245) dX12_lookUp_213 (by decide) ?_
                      exact x_weak (by exact ⟨rfl, ⟨rfl, ⟨rfl, ⟨rfl, ⟨rfl, ⟨rfl, ⟨rfl, trivial⟩⟩⟩⟩⟩⟩⟩) (hj245 (s44, M18))
                    refine x_icmp_ne (tgt := 210) dX12_lookUp_203 (by decide) (fun _ => ?_) (fun _ => ?_)
                    · refine x_iconst (v := 1) dX12_lookUp_206 (by decide) ?_
                      refine x_goto (tgt := 211) dX12_lookUp_207 (by decide) ?_
                      exact x_weak (by exact ⟨rfl, ⟨rfl, ⟨rfl, ⟨rfl, ⟨rfl, ⟨rfl, trivial⟩⟩⟩⟩⟩⟩) (hj211 ((1 : Int32)))
                    · refine x_iconst (v := 0) dX12_lookUp_210 (by decide) ?_
                      exact x_weak (by exact ⟨rfl, ⟨rfl, ⟨rfl, ⟨rfl, ⟨rfl, ⟨rfl, trivial⟩⟩⟩⟩⟩⟩) (hj211 ((0 : Int32)))
                  · refine x_iload dX12_lookUp_200 rfl ?_
                    refine x_iconst (v := 3) dX12_lookUp_202 (by decide) ?_
                    refine x_jn (σ := Int32) 211 (fun s45 => [some (va_rf a0), some (.int a1), some (.int s10.1), none, some (.int x19), some (.int x20), none, some (.int s22), none, none]) (fun s45 => [.int s45]) (fun s45 => M18) (fun s45 => ?_) (fun j211 hj211 => ?_)
                    · refine x_istore (lo' := [some (va_rf a0), some (.int a1), some (.int s10.1), none, some (.int x19), some (.int x20), some (.int s45), some (.int s22), none, none]) dX12_lookUp_211 (by decide) rfl rfl ?_
                      refine x_goto (tgt := 245) dX12_lookUp_213 (by decide) ?_
                      exact x_weak (by exact ⟨rfl, ⟨rfl, ⟨rfl, ⟨rfl, ⟨rfl, ⟨rfl, ⟨rfl, trivial⟩⟩⟩⟩⟩⟩⟩) (hj245 (s45, M18))
                    refine x_icmp_ne (tgt := 210) dX12_lookUp_203 (by decide) (fun _ => ?_) (fun _ => ?_)
                    · refine x_iconst (v := 1) dX12_lookUp_206 (by decide) ?_
                      refine x_goto (tgt := 211) dX12_lookUp_207 (by decide) ?_
                      exact x_weak (by exact ⟨rfl, ⟨rfl, ⟨rfl, ⟨rfl, ⟨rfl, ⟨rfl, trivial⟩⟩⟩⟩⟩⟩) (hj211 ((1 : Int32)))
                    · refine x_iconst (v := 0) dX12_lookUp_210 (by decide) ?_
                      exact x_weak (by exact ⟨rfl, ⟨rfl, ⟨rfl, ⟨rfl, ⟨rfl, ⟨rfl, trivial⟩⟩⟩⟩⟩⟩) (hj211 ((0 : Int32)))
                · refine x_iload dX12_lookUp_216 rfl ?_
                  refine x_iconst (v := 4) dX12_lookUp_218 (by decide) ?_
                  refine x_jn (σ := Int32) 243 (fun s46 => [some (va_rf a0), some (.int a1), some (.int s10.1), none, some (.int x19), some (.int x20), none, some (.int s22), none, none]) (fun s46 => [.int s46]) (fun s46 => M18) (fun s46 => ?_) (fun j243 hj243 => ?_)
                  · refine x_istore (lo' := [some (va_rf a0), some (.int a1), some (.int s10.1), none, some (.int x19), some (.int x20), some (.int s46), some (.int s22), none, none]) dX12_lookUp_243 (by decide) rfl rfl ?_
                    exact x_weak (by exact ⟨rfl, ⟨rfl, ⟨rfl, ⟨rfl, ⟨rfl, ⟨rfl, ⟨rfl, trivial⟩⟩⟩⟩⟩⟩⟩) (hj245 (s46, M18))
                  refine x_jn (σ := Unit) 242 (fun s47 => [some (va_rf a0), some (.int a1), some (.int s10.1), none, some (.int x19), some (.int x20), none, some (.int s22), none, none]) (fun s47 => []) (fun s47 => M18) (fun s47 => ?_) (fun j242 hj242 => ?_)
                  · refine x_iconst (v := 0) dX12_lookUp_242 (by decide) ?_
                    exact x_weak (by exact ⟨rfl, ⟨rfl, ⟨rfl, ⟨rfl, ⟨rfl, ⟨rfl, trivial⟩⟩⟩⟩⟩⟩) (hj243 ((0 : Int32)))
                  refine x_icmp_ne (tgt := 242) dX12_lookUp_219 (by decide) (fun _ => ?_) (fun _ => ?_)
                  · refine x_aload_n dX12_lookUp_222 rfl ?_
                    refine gfX12_52 rfl dX12_lookUp_223 (fun x48 => ?_)
                    refine x_iload dX12_lookUp_226 rfl ?_
                    refine x_iald dX12_lookUp_228 (fun x49 => ?_)
                    refine x_aload_n dX12_lookUp_229 rfl ?_
                    refine gfX12_209 rfl dX12_lookUp_230 (fun x50 => ?_)
                    refine x_iload_n dX12_lookUp_233 rfl ?_
                    refine x_iald dX12_lookUp_234 (fun x51 => ?_)
                    refine x_icmp_ne (tgt := 242) dX12_lookUp_235 (by decide) (fun _ => ?_) (fun _ => ?_)
                    · refine x_iconst (v := 1) dX12_lookUp_238 (by decide) ?_
                      refine x_goto (tgt := 243) dX12_lookUp_239 (by decide) ?_
                      exact x_weak (by exact ⟨rfl, ⟨rfl, ⟨rfl, ⟨rfl, ⟨rfl, ⟨rfl, trivial⟩⟩⟩⟩⟩⟩) (hj243 ((1 : Int32)))
                    · exact x_weak (by exact ⟨rfl, ⟨rfl, ⟨rfl, ⟨rfl, ⟨rfl, ⟨rfl, trivial⟩⟩⟩⟩⟩⟩) (hj242 ())
                  · exact x_weak (by exact ⟨rfl, ⟨rfl, ⟨rfl, ⟨rfl, ⟨rfl, ⟨rfl, trivial⟩⟩⟩⟩⟩⟩) (hj242 ())
              refine x_if_eq (tgt := 135) dX12_lookUp_122 (by decide) (fun _ => ?_) (fun _ => ?_)
              · refine x_iconst (v := -1) dX12_lookUp_135 (by decide) ?_
                exact x_weak (by exact ⟨rfl, ⟨rfl, ⟨rfl, ⟨rfl, ⟨rfl, trivial⟩⟩⟩⟩⟩) (hj136 ((-1 : Int32)))
              · refine x_aload_n dX12_lookUp_125 rfl ?_
                refine gfX12_45 rfl dX12_lookUp_126 (fun x52 => ?_)
                refine x_iload dX12_lookUp_129 rfl ?_
                refine x_iald dX12_lookUp_131 (fun x53 => ?_)
                refine x_goto (tgt := 136) dX12_lookUp_132 (by decide) ?_
                exact x_weak (by exact ⟨rfl, ⟨rfl, ⟨rfl, ⟨rfl, ⟨rfl, trivial⟩⟩⟩⟩⟩) (hj136 x53)
            refine x_jn (σ := Unit) 117 (fun s54 => [some (va_rf a0), some (.int a1), some (.int s10.1), none, some (.int x19), some (.int x20), none, none, none, none]) (fun s54 => []) (fun s54 => M18) (fun s54 => ?_) (fun j117 hj117 => ?_)
            · refine x_iconst (v := 0) dX12_lookUp_117 (by decide) ?_
              exact x_weak (by exact ⟨rfl, ⟨rfl, ⟨rfl, ⟨rfl, ⟨rfl, trivial⟩⟩⟩⟩⟩) (hj118 ((0 : Int32)))
            refine x_if_lt (tgt := 117) dX12_lookUp_90 (by decide) (fun _ => ?_) (fun _ => ?_)
            · exact x_weak (by exact ⟨rfl, ⟨rfl, ⟨rfl, ⟨rfl, ⟨rfl, trivial⟩⟩⟩⟩⟩) (hj117 ())
            · refine x_aload_n dX12_lookUp_93 rfl ?_
              refine gfX12_48 rfl dX12_lookUp_94 (fun x55 => ?_)
              refine x_iload dX12_lookUp_97 rfl ?_
              refine x_zald dX12_lookUp_99 (fun x56 => ?_)
              refine x_jn (σ := Unit) 113 (fun s57 => [some (va_rf a0), some (.int a1), some (.int s10.1), none, some (.int x19), some (.int x20), none, none, none, none]) (fun s57 => []) (fun s57 => M18) (fun s57 => ?_) (fun j113 hj113 => ?_)
              · refine x_iconst (v := 1) dX12_lookUp_113 (by decide) ?_
                refine x_goto (tgt := 118) dX12_lookUp_114 (by decide) ?_
                exact x_weak (by exact ⟨rfl, ⟨rfl, ⟨rfl, ⟨rfl, ⟨rfl, trivial⟩⟩⟩⟩⟩) (hj118 ((1 : Int32)))
              refine x_if_eq (tgt := 113) dX12_lookUp_100 (by decide) (fun _ => ?_) (fun _ => ?_)
              · exact x_weak (by exact ⟨rfl, ⟨rfl, ⟨rfl, ⟨rfl, ⟨rfl, trivial⟩⟩⟩⟩⟩) (hj113 ())
              · refine x_iload_n dX12_lookUp_103 rfl ?_
                refine x_aload_n dX12_lookUp_104 rfl ?_
                refine gfX12_212 rfl dX12_lookUp_105 (fun x58 => ?_)
                refine x_iload_n dX12_lookUp_108 rfl ?_
                refine x_iald dX12_lookUp_109 (fun x59 => ?_)
                refine x_icmp_ne (tgt := 117) dX12_lookUp_110 (by decide) (fun _ => ?_) (fun _ => ?_)
                · exact x_weak (by exact ⟨rfl, ⟨rfl, ⟨rfl, ⟨rfl, ⟨rfl, trivial⟩⟩⟩⟩⟩) (hj113 ())
                · exact x_weak (by exact ⟨rfl, ⟨rfl, ⟨rfl, ⟨rfl, ⟨rfl, trivial⟩⟩⟩⟩⟩) (hj117 ())
          · exact x_weak (by exact ⟨rfl, ⟨rfl, trivial⟩⟩) (hj53 (s10.1, s15.2))
        refine x_if_ne (tgt := 37) dX12_lookUp_25 (by decide) (fun _ => ?_) (fun _ => ?_)
        · refine x_aload_n dX12_lookUp_28 rfl ?_
          refine gfX12_212 rfl dX12_lookUp_29 (fun x60 => ?_)
          refine x_iload_n dX12_lookUp_32 rfl ?_
          refine x_iald dX12_lookUp_33 (fun x61 => ?_)
          refine x_goto (tgt := 48) dX12_lookUp_34 (by decide) ?_
          exact x_weak (by exact ⟨rfl, ⟨rfl, ⟨rfl, trivial⟩⟩⟩) (hj48 (x61, s10.2))
        · refine x_aload_n dX12_lookUp_37 rfl ?_
          refine x_iload_n dX12_lookUp_38 rfl ?_
          refine x_aload_n dX12_lookUp_39 rfl ?_
          refine gfX12_197 rfl dX12_lookUp_40 (fun x62 => ?_)
          refine x_iload_n dX12_lookUp_43 rfl ?_
          refine x_lald dX12_lookUp_44 (fun x63 => ?_)
          refine cmX12_571 rfl hs (Nat.le_of_ble_eq_true rfl) dX12_lookUp_45 (fun x65 M64 => ?_)
          exact x_weak (by exact ⟨rfl, ⟨rfl, ⟨rfl, trivial⟩⟩⟩) (hj48 (x65, M64))
      · exact x_weak (by exact trivial) (hj335 s10.2)
theorem s230 {l : Launch} {d : Nat} {rec : Nat → List Value → Mem → XA} (hS : Nonempty XS) (hs : XSnd l xmt rec d) : Snd1 l 230 (b230 rec) d := by
  intro as M r M' h0
  unfold b230 at h0
  obtain ⟨a0, l1, e1, h1⟩ := aR_inv h0
  obtain ⟨a1, l2, e2, h2⟩ := aI_inv h1
  obtain ⟨ez, h⟩ := aZ_inv h2
  subst ez
  subst e2
  subst e1
  exact xmet (M := M) (as := [va_rf a0, .int a1]) (lo := [some (va_rf a0), some (.int a1)]) 230 xq230 xm230 (by rw [xargs_rf, xargs_i, xargs_nil]; exact ⟨rfl, ⟨rfl, trivial⟩⟩) (by rw [xargs_rf, xargs_i, xargs_nil]; exact Nat.le_of_ble_eq_true rfl) (fun S G K => x_weak (by exact ⟨rfl, ⟨rfl, trivial⟩⟩) (k230 hs a0 a1 M)) h hS
set_option maxRecDepth 100000 in
def c231_71 (rec : Nat → List Value → Mem → XA) (a0 : Option Nat) (j132 : Mem → XA) (x2 : Int32) : (Int32 × Mem) → ((Int32 × Mem) → XA) → XA := fun s28 j71 =>
  if s28.1 = 0 then (
    j132 s28.2) else (
    gtI (13, 157) s28.2 a0 41 fun x29 =>
    jn (fun (s30 : Mem) =>
      gtI (13, 157) s30 a0 41 fun x31 =>
      jn (fun (s32 : Int32) =>
        j71 (s32, s30)) fun j128 =>
      jn (fun (s33 : Unit) =>
        j128 ((0 : Int32))) fun j127 =>
      if x31 = 0 then (
        gtI (13, 157) s30 a0 36 fun x34 =>
        if x34 = 0 then (
          j127 ()) else (
          j128 ((1 : Int32)))) else (
        j127 ())) fun j109 =>
    if x29 = 0 then (
      gtI (13, 157) s28.2 a0 36 fun x35 =>
      jn (fun (s36 : Int32) =>
        vC (13, 157) s28.2 a0 <|
        cI (rec 193 [va_rf a0, .int s36] s28.2) fun x38 M37 =>
        if x38 = 0 then (
          j109 M37) else (
          vC (13, 157) M37 a0 <|
          cV (rec 229 [va_rf a0, .int x2] M37) fun M39 =>
          j109 M39)) fun j98 =>
      if x35 = ((401 : Int32)) then (
        j98 ((1 : Int32))) else (
        j98 ((0 : Int32)))) else (
      j109 s28.2))
set_option maxRecDepth 100000 in
def c231 (rec : Nat → List Value → Mem → XA) (a0 : Option Nat) (M0 : Mem) : XA :=
  gtI (13, 157) M0 a0 2 fun x1 =>
  if x1 = ((8 : Int32)) then (
    some (.int ((-3 : Int32)), M0)) else (
    gtI (13, 157) M0 a0 2 fun x2 =>
    gtP (13, 157) M0 a0 3 fun x3 =>
    asI 100 M0 x3 x2 (((0 : Int32))) fun M4 =>
    gtP (13, 157) M4 a0 10 fun x5 =>
    asI 100 M4 x5 x2 (((0 : Int32))) fun M6 =>
    gtP (13, 157) M6 a0 17 fun x7 =>
    asI 100 M6 x7 x2 (((0 : Int32))) fun M8 =>
    gtP (13, 157) M8 a0 25 fun x9 =>
    asI 100 M8 x9 x2 (((0 : Int32))) fun M10 =>
    ptI (13, 157) M10 a0 43 ((0 : Int32)) fun M11 =>
    ptI (13, 157) M11 a0 53 ((0 : Int32)) fun M12 =>
    ptI (13, 157) M12 a0 41 ((0 : Int32)) fun M13 =>
    ptI (13, 157) M13 a0 38 ((0 : Int32)) fun M14 =>
    vC (13, 157) M14 a0 <|
    cV (rec 191 [va_rf a0] M14) fun M15 =>
    jn (fun (s16 : Mem) =>
      gtI (13, 157) s16 a0 41 fun x17 =>
      jn (fun (s18 : Mem) =>
        ptI (13, 157) s18 a0 1 ((0 : Int32)) fun M19 =>
        gtI (13, 157) M19 a0 41 fun x20 =>
        ptI (13, 157) M19 a0 65 x20 fun M21 =>
        gtI (13, 157) M21 a0 41 fun x22 =>
        if x22 = 0 then (
          vC (13, 157) M21 a0 <|
          cV (rec 232 [va_rf a0, .int x2] M21) fun M23 =>
          gtI (13, 157) M23 a0 2 fun x24 =>
          ptI (13, 157) M23 a0 2 (x24 + ((1 : Int32))) fun M25 =>
          some (.int x2, M25)) else (
          gtI (13, 157) M21 a0 42 fun x26 =>
          some (.int (((-10 : Int32)) - x26), M21))) fun j144 =>
      if x17 = 0 then (
        vC (13, 157) s16 a0 <|
        cV (rec 230 [va_rf a0, .int x2] s16) fun M27 =>
        j144 M27) else (
        j144 s16)) fun j132 =>
    lp (c231_71 rec a0 j132 x2) 4294967296 ((1 : Int32), M15))
def b231 (rec : Nat → List Value → Mem → XA) (as : List Value) (M0 : Mem) : XA := aR as fun a0 as => aZ as (c231 rec a0 M0)
set_option maxRecDepth 100000 in
set_option maxHeartbeats 4000000 in
theorem k231 {S : XS} {G : XG} {K : Nat × Nat} {l : Launch} {d : Nat} {rec : Nat → List Value → Mem → XA} (hs : XSnd l xmt rec d) (a0 : Option Nat) (M0 : Mem) : Xe S G K l (yX12_parcel, cX12_parcel, 3, some .int) d 0 [some (va_rf a0), none, none] [] M0 (c231 rec a0 M0) := by
  unfold c231
  refine x_aload_n dX12_parcel_0 rfl ?_
  refine gfX12_582 rfl dX12_parcel_1 (fun x1 => ?_)
  refine x_bipush (v := 8) dX12_parcel_4 (by decide) ?_
  refine x_icmp_ne (tgt := 12) dX12_parcel_6 (by decide) (fun _ => ?_) (fun _ => ?_)
  · refine x_bipush (v := -3) dX12_parcel_9 (by decide) ?_
    exact x_iret rfl dX12_parcel_11
  · refine x_aload_n dX12_parcel_12 rfl ?_
    refine gfX12_582 rfl dX12_parcel_13 (fun x2 => ?_)
    refine x_istore_n (lo' := [some (va_rf a0), some (.int x2), none]) dX12_parcel_16 (by decide) (xok_r rfl) rfl ?_
    refine x_aload_n dX12_parcel_17 rfl ?_
    refine gfX12_13 rfl dX12_parcel_18 (fun x3 => ?_)
    refine x_iload_n dX12_parcel_21 rfl ?_
    refine x_iconst (v := 0) dX12_parcel_22 (by decide) ?_
    refine x_iast dX12_parcel_23 (fun M4 => ?_)
    refine x_aload_n dX12_parcel_24 rfl ?_
    refine gfX12_36 rfl dX12_parcel_25 (fun x5 => ?_)
    refine x_iload_n dX12_parcel_28 rfl ?_
    refine x_iconst (v := 0) dX12_parcel_29 (by decide) ?_
    refine x_iast dX12_parcel_30 (fun M6 => ?_)
    refine x_aload_n dX12_parcel_31 rfl ?_
    refine gfX12_58 rfl dX12_parcel_32 (fun x7 => ?_)
    refine x_iload_n dX12_parcel_35 rfl ?_
    refine x_iconst (v := 0) dX12_parcel_36 (by decide) ?_
    refine x_iast dX12_parcel_37 (fun M8 => ?_)
    refine x_aload_n dX12_parcel_38 rfl ?_
    refine gfX12_82 rfl dX12_parcel_39 (fun x9 => ?_)
    refine x_iload_n dX12_parcel_42 rfl ?_
    refine x_iconst (v := 0) dX12_parcel_43 (by decide) ?_
    refine x_iast dX12_parcel_44 (fun M10 => ?_)
    refine x_aload_n dX12_parcel_45 rfl ?_
    refine x_iconst (v := 0) dX12_parcel_46 (by decide) ?_
    refine pfX12_439 rfl dX12_parcel_47 (fun M11 => ?_)
    refine x_aload_n dX12_parcel_50 rfl ?_
    refine x_iconst (v := 0) dX12_parcel_51 (by decide) ?_
    refine pfX12_462 rfl dX12_parcel_52 (fun M12 => ?_)
    refine x_aload_n dX12_parcel_55 rfl ?_
    refine x_iconst (v := 0) dX12_parcel_56 (by decide) ?_
    refine pfX12_395 rfl dX12_parcel_57 (fun M13 => ?_)
    refine x_aload_n dX12_parcel_60 rfl ?_
    refine x_iconst (v := 0) dX12_parcel_61 (by decide) ?_
    refine pfX12_398 rfl dX12_parcel_62 (fun M14 => ?_)
    refine x_aload_n dX12_parcel_65 rfl ?_
    refine cmX12_436 rfl hs (Nat.le_of_ble_eq_true rfl) dX12_parcel_66 (fun M15 => ?_)
    refine x_iconst (v := 1) dX12_parcel_69 (by decide) ?_
    refine x_istore_n (lo' := [some (va_rf a0), some (.int x2), some (.int ((1 : Int32)))]) dX12_parcel_70 (by decide) rfl rfl ?_
    refine x_jn (σ := Mem) 132 (fun s16 => [some (va_rf a0), some (.int x2), none]) (fun s16 => []) (fun s16 => s16) (fun s16 => ?_) (fun j132 hj132 => ?_)
    · refine x_aload_n dX12_parcel_132 rfl ?_
      refine gfX12_395 rfl dX12_parcel_133 (fun x17 => ?_)
      refine x_jn (σ := Mem) 144 (fun s18 => [some (va_rf a0), some (.int x2), none]) (fun s18 => []) (fun s18 => s18) (fun s18 => ?_) (fun j144 hj144 => ?_)
      · refine x_aload_n dX12_parcel_144 rfl ?_
        refine x_iconst (v := 0) dX12_parcel_145 (by decide) ?_
        refine pfX12_378 rfl dX12_parcel_146 (fun M19 => ?_)
        refine x_aload_n dX12_parcel_149 rfl ?_
        refine x_aload_n dX12_parcel_150 rfl ?_
        refine gfX12_395 rfl dX12_parcel_151 (fun x20 => ?_)
        refine pfX12_591 rfl dX12_parcel_154 (fun M21 => ?_)
        refine x_aload_n dX12_parcel_157 rfl ?_
        refine gfX12_395 rfl dX12_parcel_158 (fun x22 => ?_)
        refine x_if_eq (tgt := 172) dX12_parcel_161 (by decide) (fun _ => ?_) (fun _ => ?_)
        · refine x_aload_n dX12_parcel_172 rfl ?_
          refine x_iload_n dX12_parcel_173 rfl ?_
          refine cmX12_594 rfl hs (Nat.le_of_ble_eq_true rfl) dX12_parcel_174 (fun M23 => ?_)
          refine x_aload_n dX12_parcel_177 rfl ?_
          refine x_dup dX12_parcel_178 (xc1_r _) ?_
          refine gfX12_582 rfl dX12_parcel_179 (fun x24 => ?_)
          refine x_iconst (v := 1) dX12_parcel_182 (by decide) ?_
          refine x_iadd dX12_parcel_183 ?_
          refine pfX12_582 rfl dX12_parcel_184 (fun M25 => ?_)
          refine x_iload_n dX12_parcel_187 rfl ?_
          exact x_iret rfl dX12_parcel_188
        · refine x_bipush (v := -10) dX12_parcel_164 (by decide) ?_
          refine x_aload_n dX12_parcel_166 rfl ?_
          refine gfX12_425 rfl dX12_parcel_167 (fun x26 => ?_)
          refine x_isub dX12_parcel_170 ?_
          exact x_iret rfl dX12_parcel_171
      refine x_if_ne (tgt := 144) dX12_parcel_136 (by decide) (fun _ => ?_) (fun _ => ?_)
      · refine x_aload_n dX12_parcel_139 rfl ?_
        refine x_iload_n dX12_parcel_140 rfl ?_
        refine cmX12_588 rfl hs (Nat.le_of_ble_eq_true rfl) dX12_parcel_141 (fun M27 => ?_)
        exact x_weak (by exact ⟨rfl, ⟨rfl, trivial⟩⟩) (hj144 M27)
      · exact x_weak (by exact ⟨rfl, ⟨rfl, trivial⟩⟩) (hj144 s16)
    refine x_weak (by exact ⟨rfl, ⟨rfl, ⟨rfl, trivial⟩⟩⟩) (x_lp (σ := Int32 × Mem) 71 (fun s28 => [some (va_rf a0), some (.int x2), some (.int s28.1)]) (fun s28 => []) (fun s28 => s28.2) (fun s28 j71 hj71 => ?_) 4294967296 ((1 : Int32), M15))
    · refine x_iload_n dX12_parcel_71 rfl ?_
      refine x_if_eq (tgt := 132) dX12_parcel_72 (by decide) (fun _ => ?_) (fun _ => ?_)
      · exact x_weak (by exact ⟨rfl, ⟨rfl, trivial⟩⟩) (hj132 s28.2)
      · refine x_aload_n dX12_parcel_75 rfl ?_
        refine gfX12_395 rfl dX12_parcel_76 (fun x29 => ?_)
        refine x_jn (σ := Mem) 109 (fun s30 => [some (va_rf a0), some (.int x2), none]) (fun s30 => []) (fun s30 => s30) (fun s30 => ?_) (fun j109 hj109 => ?_)
        · refine x_aload_n dX12_parcel_109 rfl ?_
          refine gfX12_395 rfl dX12_parcel_110 (fun x31 => ?_)
          refine x_jn (σ := Int32) 128 (fun s32 => [some (va_rf a0), some (.int x2), none]) (fun s32 => [.int s32]) (fun s32 => s30) (fun s32 => ?_) (fun j128 hj128 => ?_)
          · refine x_istore_n (lo' := [some (va_rf a0), some (.int x2), some (.int s32)]) dX12_parcel_128 (by decide) rfl rfl ?_
            refine x_goto (tgt := 71) dX12_parcel_129 (by decide) ?_
            exact x_weak (by exact ⟨rfl, ⟨rfl, ⟨rfl, trivial⟩⟩⟩) (hj71 (s32, s30))
          refine x_jn (σ := Unit) 127 (fun s33 => [some (va_rf a0), some (.int x2), none]) (fun s33 => []) (fun s33 => s30) (fun s33 => ?_) (fun j127 hj127 => ?_)
          · refine x_iconst (v := 0) dX12_parcel_127 (by decide) ?_
            exact x_weak (by exact ⟨rfl, ⟨rfl, trivial⟩⟩) (hj128 ((0 : Int32)))
          refine x_if_ne (tgt := 127) dX12_parcel_113 (by decide) (fun _ => ?_) (fun _ => ?_)
          · refine x_aload_n dX12_parcel_116 rfl ?_
            refine gfX12_408 rfl dX12_parcel_117 (fun x34 => ?_)
            refine x_if_eq (tgt := 127) dX12_parcel_120 (by decide) (fun _ => ?_) (fun _ => ?_)
            · exact x_weak (by exact ⟨rfl, ⟨rfl, trivial⟩⟩) (hj127 ())
            · refine x_iconst (v := 1) dX12_parcel_123 (by decide) ?_
              refine x_goto (tgt := 128) dX12_parcel_124 (by decide) ?_
              exact x_weak (by exact ⟨rfl, ⟨rfl, trivial⟩⟩) (hj128 ((1 : Int32)))
          · exact x_weak (by exact ⟨rfl, ⟨rfl, trivial⟩⟩) (hj127 ())
        refine x_if_ne (tgt := 109) dX12_parcel_79 (by decide) (fun _ => ?_) (fun _ => ?_)
        · refine x_aload_n dX12_parcel_82 rfl ?_
          refine x_aload_n dX12_parcel_83 rfl ?_
          refine gfX12_408 rfl dX12_parcel_84 (fun x35 => ?_)
          refine x_sipush (v := 401) dX12_parcel_87 (by decide) ?_
          refine x_jn (σ := Int32) 98 (fun s36 => [some (va_rf a0), some (.int x2), none]) (fun s36 => [.int s36, va_rf a0]) (fun s36 => s28.2) (fun s36 => ?_) (fun j98 hj98 => ?_)
          · refine cmX12_432 rfl hs (Nat.le_of_ble_eq_true rfl) dX12_parcel_98 (fun x38 M37 => ?_)
            refine x_if_eq (tgt := 109) dX12_parcel_101 (by decide) (fun _ => ?_) (fun _ => ?_)
            · exact x_weak (by exact ⟨rfl, ⟨rfl, trivial⟩⟩) (hj109 M37)
            · refine x_aload_n dX12_parcel_104 rfl ?_
              refine x_iload_n dX12_parcel_105 rfl ?_
              refine cmX12_585 rfl hs (Nat.le_of_ble_eq_true rfl) dX12_parcel_106 (fun M39 => ?_)
              exact x_weak (by exact ⟨rfl, ⟨rfl, trivial⟩⟩) (hj109 M39)
          refine x_icmp_ne (tgt := 97) dX12_parcel_90 (by decide) (fun _ => ?_) (fun _ => ?_)
          · refine x_iconst (v := 1) dX12_parcel_93 (by decide) ?_
            refine x_goto (tgt := 98) dX12_parcel_94 (by decide) ?_
            exact x_weak (by exact ⟨rfl, ⟨rfl, trivial⟩⟩) (hj98 ((1 : Int32)))
          · refine x_iconst (v := 0) dX12_parcel_97 (by decide) ?_
            exact x_weak (by exact ⟨rfl, ⟨rfl, trivial⟩⟩) (hj98 ((0 : Int32)))
        · exact x_weak (by exact ⟨rfl, ⟨rfl, trivial⟩⟩) (hj109 s28.2)
theorem s231 {l : Launch} {d : Nat} {rec : Nat → List Value → Mem → XA} (hS : Nonempty XS) (hs : XSnd l xmt rec d) : Snd1 l 231 (b231 rec) d := by
  intro as M r M' h0
  unfold b231 at h0
  obtain ⟨a0, l1, e1, h1⟩ := aR_inv h0
  obtain ⟨ez, h⟩ := aZ_inv h1
  subst ez
  subst e1
  exact xmet (M := M) (as := [va_rf a0]) (lo := [some (va_rf a0)]) 231 xq231 xm231 (by rw [xargs_rf, xargs_nil]; exact ⟨rfl, trivial⟩) (by rw [xargs_rf, xargs_nil]; exact Nat.le_of_ble_eq_true rfl) (fun S G K => x_weak (by exact ⟨rfl, trivial⟩) (k231 hs a0 M)) h hS
set_option maxRecDepth 100000 in
def c232_139 (rec : Nat → List Value → Mem → XA) (a0 : Option Nat) (a1 : Int32) (j163 : Mem → XA) : (Int32 × Mem) → ((Int32 × Mem) → XA) → XA := fun s12 j139 =>
  if ((16 : Int32)) ≤ s12.1 then (
    j163 s12.2) else (
    gtP (13, 157) s12.2 a0 24 fun x13 =>
    asI 100 s12.2 x13 ((((16 : Int32)) * a1) + s12.1) s12.1 fun M14 =>
    lt (s12.1 + (1 : Int32)) fun (x15 : Int32) =>
    j139 (x15, M14))
set_option maxRecDepth 100000 in
def c232_19 (rec : Nat → List Value → Mem → XA) (a0 : Option Nat) (a1 : Int32) (j137 : Mem → XA) : (Int32 × Mem) → ((Int32 × Mem) → XA) → XA := fun s16 j19 =>
  gtI (13, 157) s16.2 a0 43 fun x17 =>
  if x17 ≤ s16.1 then (
    j137 s16.2) else (
    gtP (13, 157) s16.2 a0 30 fun x18 =>
    gtP (13, 157) s16.2 a0 44 fun x19 =>
    alI 101 s16.2 x19 s16.1 fun x20 =>
    asI 101 s16.2 x18 ((((1000 : Int32)) * a1) + s16.1) (x20.toInt8.toInt32) fun M21 =>
    gtP (13, 157) M21 a0 31 fun x22 =>
    gtP (13, 157) M21 a0 45 fun x23 =>
    alI 100 M21 x23 s16.1 fun x24 =>
    asI 100 M21 x22 ((((1000 : Int32)) * a1) + s16.1) x24 fun M25 =>
    gtP (13, 157) M25 a0 32 fun x26 =>
    gtP (13, 157) M25 a0 46 fun x27 =>
    alI 101 M25 x27 s16.1 fun x28 =>
    asI 101 M25 x26 ((((1000 : Int32)) * a1) + s16.1) (x28.toInt8.toInt32) fun M29 =>
    gtP (13, 157) M29 a0 47 fun x30 =>
    alX 102 M29 x30 s16.1 fun x31 =>
    jn (fun (s32 : Mem) =>
      lt (s16.1 + (1 : Int32)) fun (x33 : Int32) =>
      j19 (x33, s32)) fun j131 =>
    if x31 = 0 then (
      j131 M29) else (
      gtP (13, 157) M29 a0 44 fun x34 =>
      alI 101 M29 x34 s16.1 fun x35 =>
      cI (rec 233 [.int x35] M29) fun x37 M36 =>
      if x37 < 0 then (
        j131 M36) else (
        gtP (13, 157) M36 a0 34 fun x38 =>
        gtP (13, 157) M36 a0 33 fun x39 =>
        alI 100 M36 x39 a1 fun x40 =>
        asI 103 M36 x38 ((((1000 : Int32)) * a1) + x40) (s16.1.toInt16.toInt32.toInt16.toInt32) fun M41 =>
        gtP (13, 157) M41 a0 33 fun x42 =>
        alI 100 M41 x42 a1 fun x43 =>
        asI 100 M41 x42 a1 ((x43 + ((1 : Int32)))) fun M44 =>
        j131 M44)))
set_option maxRecDepth 100000 in
def c232 (rec : Nat → List Value → Mem → XA) (a0 : Option Nat) (a1 : Int32) (M0 : Mem) : XA :=
  gtP (13, 157) M0 a0 29 fun x1 =>
  gtI (13, 157) M0 a0 43 fun x2 =>
  asI 100 M0 x1 a1 x2 fun M3 =>
  gtP (13, 157) M3 a0 33 fun x4 =>
  asI 100 M3 x4 a1 (((0 : Int32))) fun M5 =>
  jn (fun (s6 : Mem) =>
    jn (fun (s7 : Mem) =>
      gtP (13, 157) s7 a0 104 fun x8 =>
      asI 102 s7 x8 a1 ((znar ((0 : Int32)))) fun M9 =>
      gtP (13, 157) M9 a0 123 fun x10 =>
      asI 102 M9 x10 a1 ((znar ((0 : Int32)))) fun M11 =>
      some (.null, M11)) fun j163 =>
    lp (c232_139 rec a0 a1 j163) 4294967296 ((0 : Int32), s6)) fun j137 =>
  lp (c232_19 rec a0 a1 j137) 4294967296 ((0 : Int32), M5)
def b232 (rec : Nat → List Value → Mem → XA) (as : List Value) (M0 : Mem) : XA := aR as fun a0 as => aI as fun a1 as => aZ as (c232 rec a0 a1 M0)
set_option maxRecDepth 100000 in
set_option maxHeartbeats 4000000 in
theorem k232 {S : XS} {G : XG} {K : Nat × Nat} {l : Launch} {d : Nat} {rec : Nat → List Value → Mem → XA} (hs : XSnd l xmt rec d) (a0 : Option Nat) (a1 : Int32) (M0 : Mem) : Xe S G K l (yX12_keep, cX12_keep, 3, none) d 0 [some (va_rf a0), some (.int a1), none] [] M0 (c232 rec a0 a1 M0) := by
  unfold c232
  refine x_aload_n dX12_keep_0 rfl ?_
  refine gfX12_94 rfl dX12_keep_1 (fun x1 => ?_)
  refine x_iload_n dX12_keep_4 rfl ?_
  refine x_aload_n dX12_keep_5 rfl ?_
  refine gfX12_439 rfl dX12_keep_6 (fun x2 => ?_)
  refine x_iast dX12_keep_9 (fun M3 => ?_)
  refine x_aload_n dX12_keep_10 rfl ?_
  refine gfX12_106 rfl dX12_keep_11 (fun x4 => ?_)
  refine x_iload_n dX12_keep_14 rfl ?_
  refine x_iconst (v := 0) dX12_keep_15 (by decide) ?_
  refine x_iast dX12_keep_16 (fun M5 => ?_)
  refine x_iconst (v := 0) dX12_keep_17 (by decide) ?_
  refine x_istore_n (lo' := [some (va_rf a0), some (.int a1), some (.int ((0 : Int32)))]) dX12_keep_18 (by decide) rfl rfl ?_
  refine x_jn (σ := Mem) 137 (fun s6 => [some (va_rf a0), some (.int a1), none]) (fun s6 => []) (fun s6 => s6) (fun s6 => ?_) (fun j137 hj137 => ?_)
  · refine x_iconst (v := 0) dX12_keep_137 (by decide) ?_
    refine x_istore_n (lo' := [some (va_rf a0), some (.int a1), some (.int ((0 : Int32)))]) dX12_keep_138 (by decide) rfl rfl ?_
    refine x_jn (σ := Mem) 163 (fun s7 => [some (va_rf a0), some (.int a1), none]) (fun s7 => []) (fun s7 => s7) (fun s7 => ?_) (fun j163 hj163 => ?_)
    · refine x_aload_n dX12_keep_163 rfl ?_
      refine gfX12_264 rfl dX12_keep_164 (fun x8 => ?_)
      refine x_iload_n dX12_keep_167 rfl ?_
      refine x_iconst (v := 0) dX12_keep_168 (by decide) ?_
      refine x_zast dX12_keep_169 (fun M9 => ?_)
      refine x_aload_n dX12_keep_170 rfl ?_
      refine gfX12_315 rfl dX12_keep_171 (fun x10 => ?_)
      refine x_iload_n dX12_keep_174 rfl ?_
      refine x_iconst (v := 0) dX12_keep_175 (by decide) ?_
      refine x_zast dX12_keep_176 (fun M11 => ?_)
      exact x_vret rfl dX12_keep_177
    refine x_weak (by exact ⟨rfl, ⟨rfl, ⟨rfl, trivial⟩⟩⟩) (x_lp (σ := Int32 × Mem) 139 (fun s12 => [some (va_rf a0), some (.int a1), some (.int s12.1)]) (fun s12 => []) (fun s12 => s12.2) (fun s12 j139 hj139 => ?_) 4294967296 ((0 : Int32), s6))
    · refine x_iload_n dX12_keep_139 rfl ?_
      refine x_bipush (v := 16) dX12_keep_140 (by decide) ?_
      refine x_icmp_ge (tgt := 163) dX12_keep_142 (by decide) (fun _ => ?_) (fun _ => ?_)
      · exact x_weak (by exact ⟨rfl, ⟨rfl, trivial⟩⟩) (hj163 s12.2)
      · refine x_aload_n dX12_keep_145 rfl ?_
        refine gfX12_79 rfl dX12_keep_146 (fun x13 => ?_)
        refine x_bipush (v := 16) dX12_keep_149 (by decide) ?_
        refine x_iload_n dX12_keep_151 rfl ?_
        refine x_imul dX12_keep_152 ?_
        refine x_iload_n dX12_keep_153 rfl ?_
        refine x_iadd dX12_keep_154 ?_
        refine x_iload_n dX12_keep_155 rfl ?_
        refine x_iast dX12_keep_156 (fun M14 => ?_)
        refine x_iincN (v := 1) (lo' := fun x15 => [some (va_rf a0), some (.int a1), some (.int x15)]) (by decide) dX12_keep_157 rfl (by decide) rfl (fun _ => rfl) (fun x15 => ?_)
        refine x_goto (tgt := 139) dX12_keep_160 (by decide) ?_
        exact x_weak (by exact ⟨rfl, ⟨rfl, ⟨rfl, trivial⟩⟩⟩) (hj139 (x15, M14))
  refine x_weak (by exact ⟨rfl, ⟨rfl, ⟨rfl, trivial⟩⟩⟩) (x_lp (σ := Int32 × Mem) 19 (fun s16 => [some (va_rf a0), some (.int a1), some (.int s16.1)]) (fun s16 => []) (fun s16 => s16.2) (fun s16 j19 hj19 => ?_) 4294967296 ((0 : Int32), M5))
  · refine x_iload_n dX12_keep_19 rfl ?_
    refine x_aload_n dX12_keep_20 rfl ?_
    refine gfX12_439 rfl dX12_keep_21 (fun x17 => ?_)
    refine x_icmp_ge (tgt := 137) dX12_keep_24 (by decide) (fun _ => ?_) (fun _ => ?_)
    · exact x_weak (by exact ⟨rfl, ⟨rfl, trivial⟩⟩) (hj137 s16.2)
    · refine x_aload_n dX12_keep_27 rfl ?_
      refine gfX12_97 rfl dX12_keep_28 (fun x18 => ?_)
      refine x_sipush (v := 1000) dX12_keep_31 (by decide) ?_
      refine x_iload_n dX12_keep_34 rfl ?_
      refine x_imul dX12_keep_35 ?_
      refine x_iload_n dX12_keep_36 rfl ?_
      refine x_iadd dX12_keep_37 ?_
      refine x_aload_n dX12_keep_38 rfl ?_
      refine gfX12_176 rfl dX12_keep_39 (fun x19 => ?_)
      refine x_iload_n dX12_keep_42 rfl ?_
      refine x_bald dX12_keep_43 (fun x20 => ?_)
      refine x_bast dX12_keep_44 (fun M21 => ?_)
      refine x_aload_n dX12_keep_45 rfl ?_
      refine gfX12_100 rfl dX12_keep_46 (fun x22 => ?_)
      refine x_sipush (v := 1000) dX12_keep_49 (by decide) ?_
      refine x_iload_n dX12_keep_52 rfl ?_
      refine x_imul dX12_keep_53 ?_
      refine x_iload_n dX12_keep_54 rfl ?_
      refine x_iadd dX12_keep_55 ?_
      refine x_aload_n dX12_keep_56 rfl ?_
      refine gfX12_179 rfl dX12_keep_57 (fun x23 => ?_)
      refine x_iload_n dX12_keep_60 rfl ?_
      refine x_iald dX12_keep_61 (fun x24 => ?_)
      refine x_iast dX12_keep_62 (fun M25 => ?_)
      refine x_aload_n dX12_keep_63 rfl ?_
      refine gfX12_103 rfl dX12_keep_64 (fun x26 => ?_)
      refine x_sipush (v := 1000) dX12_keep_67 (by decide) ?_
      refine x_iload_n dX12_keep_70 rfl ?_
      refine x_imul dX12_keep_71 ?_
      refine x_iload_n dX12_keep_72 rfl ?_
      refine x_iadd dX12_keep_73 ?_
      refine x_aload_n dX12_keep_74 rfl ?_
      refine gfX12_182 rfl dX12_keep_75 (fun x27 => ?_)
      refine x_iload_n dX12_keep_78 rfl ?_
      refine x_bald dX12_keep_79 (fun x28 => ?_)
      refine x_bast dX12_keep_80 (fun M29 => ?_)
      refine x_aload_n dX12_keep_81 rfl ?_
      refine gfX12_185 rfl dX12_keep_82 (fun x30 => ?_)
      refine x_iload_n dX12_keep_85 rfl ?_
      refine x_zald dX12_keep_86 (fun x31 => ?_)
      refine x_jn (σ := Mem) 131 (fun s32 => [some (va_rf a0), some (.int a1), some (.int s16.1)]) (fun s32 => []) (fun s32 => s32) (fun s32 => ?_) (fun j131 hj131 => ?_)
      · refine x_iincN (v := 1) (lo' := fun x33 => [some (va_rf a0), some (.int a1), some (.int x33)]) (by decide) dX12_keep_131 rfl (by decide) rfl (fun _ => rfl) (fun x33 => ?_)
        refine x_goto (tgt := 19) dX12_keep_134 (by decide) ?_
        exact x_weak (by exact ⟨rfl, ⟨rfl, ⟨rfl, trivial⟩⟩⟩) (hj19 (x33, s32))
      refine x_if_eq (tgt := 131) dX12_keep_87 (by decide) (fun _ => ?_) (fun _ => ?_)
      · exact x_weak (by exact ⟨rfl, ⟨rfl, ⟨rfl, trivial⟩⟩⟩) (hj131 M29)
      · refine x_aload_n dX12_keep_90 rfl ?_
        refine gfX12_176 rfl dX12_keep_91 (fun x34 => ?_)
        refine x_iload_n dX12_keep_94 rfl ?_
        refine x_bald dX12_keep_95 (fun x35 => ?_)
        refine cmX12_597 rfl hs (Nat.le_of_ble_eq_true rfl) dX12_keep_96 (fun x37 M36 => ?_)
        refine x_if_lt (tgt := 131) dX12_keep_99 (by decide) (fun _ => ?_) (fun _ => ?_)
        · exact x_weak (by exact ⟨rfl, ⟨rfl, ⟨rfl, trivial⟩⟩⟩) (hj131 M36)
        · refine x_aload_n dX12_keep_102 rfl ?_
          refine gfX12_109 rfl dX12_keep_103 (fun x38 => ?_)
          refine x_sipush (v := 1000) dX12_keep_106 (by decide) ?_
          refine x_iload_n dX12_keep_109 rfl ?_
          refine x_imul dX12_keep_110 ?_
          refine x_aload_n dX12_keep_111 rfl ?_
          refine gfX12_106 rfl dX12_keep_112 (fun x39 => ?_)
          refine x_iload_n dX12_keep_115 rfl ?_
          refine x_iald dX12_keep_116 (fun x40 => ?_)
          refine x_iadd dX12_keep_117 ?_
          refine x_iload_n dX12_keep_118 rfl ?_
          refine x_i2s dX12_keep_119 ?_
          refine x_sast dX12_keep_120 (fun M41 => ?_)
          refine x_aload_n dX12_keep_121 rfl ?_
          refine gfX12_106 rfl dX12_keep_122 (fun x42 => ?_)
          refine x_iload_n dX12_keep_125 rfl ?_
          refine x_dup2 dX12_keep_126 (xc1_i _) (xc1_r _) ?_
          refine x_iald dX12_keep_127 (fun x43 => ?_)
          refine x_iconst (v := 1) dX12_keep_128 (by decide) ?_
          refine x_iadd dX12_keep_129 ?_
          refine x_iast dX12_keep_130 (fun M44 => ?_)
          exact x_weak (by exact ⟨rfl, ⟨rfl, ⟨rfl, trivial⟩⟩⟩) (hj131 M44)
theorem s232 {l : Launch} {d : Nat} {rec : Nat → List Value → Mem → XA} (hS : Nonempty XS) (hs : XSnd l xmt rec d) : Snd1 l 232 (b232 rec) d := by
  intro as M r M' h0
  unfold b232 at h0
  obtain ⟨a0, l1, e1, h1⟩ := aR_inv h0
  obtain ⟨a1, l2, e2, h2⟩ := aI_inv h1
  obtain ⟨ez, h⟩ := aZ_inv h2
  subst ez
  subst e2
  subst e1
  exact xmet (M := M) (as := [va_rf a0, .int a1]) (lo := [some (va_rf a0), some (.int a1)]) 232 xq232 xm232 (by rw [xargs_rf, xargs_i, xargs_nil]; exact ⟨rfl, ⟨rfl, trivial⟩⟩) (by rw [xargs_rf, xargs_i, xargs_nil]; exact Nat.le_of_ble_eq_true rfl) (fun S G K => x_weak (by exact ⟨rfl, ⟨rfl, trivial⟩⟩) (k232 hs a0 a1 M)) h hS
set_option maxRecDepth 100000 in
def c233 (rec : Nat → List Value → Mem → XA) (a0 : Int32) (M0 : Mem) : XA :=
  swI a0 [
   ((0 : Int32), (
      some (.int ((0 : Int32)), M0))),
   ((1 : Int32), (
      some (.int ((-1 : Int32)), M0))),
   ((2 : Int32), (
      some (.int ((-1 : Int32)), M0))),
   ((3 : Int32), (
      some (.int ((-1 : Int32)), M0))),
   ((4 : Int32), (
      some (.int ((9 : Int32)), M0))),
   ((5 : Int32), (
      some (.int ((-1 : Int32)), M0))),
   ((6 : Int32), (
      some (.int ((33 : Int32)), M0))),
   ((7 : Int32), (
      some (.int ((32 : Int32)), M0))),
   ((8 : Int32), (
      some (.int ((34 : Int32)), M0))),
   ((9 : Int32), (
      some (.int ((-1 : Int32)), M0))),
   ((10 : Int32), (
      some (.int ((11 : Int32)), M0))),
   ((11 : Int32), (
      some (.int ((10 : Int32)), M0))),
   ((12 : Int32), (
      some (.int ((13 : Int32)), M0))),
   ((13 : Int32), (
      some (.int ((12 : Int32)), M0))),
   ((14 : Int32), (
      some (.int ((12 : Int32)), M0))),
   ((15 : Int32), (
      some (.int ((16 : Int32)), M0))),
   ((16 : Int32), (
      some (.int ((15 : Int32)), M0))),
   ((17 : Int32), (
      some (.int ((18 : Int32)), M0))),
   ((18 : Int32), (
      some (.int ((17 : Int32)), M0))),
   ((19 : Int32), (
      some (.int ((20 : Int32)), M0))),
   ((20 : Int32), (
      some (.int ((19 : Int32)), M0))),
   ((21 : Int32), (
      some (.int ((30 : Int32)), M0))),
   ((22 : Int32), (
      some (.int ((30 : Int32)), M0))),
   ((23 : Int32), (
      some (.int ((-1 : Int32)), M0))),
   ((24 : Int32), (
      some (.int ((31 : Int32)), M0))),
   ((25 : Int32), (
      some (.int ((-1 : Int32)), M0))),
   ((26 : Int32), (
      some (.int ((-1 : Int32)), M0))),
   ((27 : Int32), (
      some (.int ((-1 : Int32)), M0))),
   ((28 : Int32), (
      some (.int ((9 : Int32)), M0))),
   ((29 : Int32), (
      some (.int ((9 : Int32)), M0)))] (
    some (.int ((-1 : Int32)), M0))
def b233 (rec : Nat → List Value → Mem → XA) (as : List Value) (M0 : Mem) : XA := aI as fun a0 as => aZ as (c233 rec a0 M0)
set_option maxRecDepth 100000 in
set_option maxHeartbeats 4000000 in
theorem k233 {S : XS} {G : XG} {K : Nat × Nat} {l : Launch} {d : Nat} {rec : Nat → List Value → Mem → XA} (hs : XSnd l xmt rec d) (a0 : Int32) (M0 : Mem) : Xe S G K l (yX12_changed, cX12_changed, 1, some .int) d 0 [some (.int a0)] [] M0 (c233 rec a0 M0) := by
  unfold c233
  refine x_iload_n dX12_changed_0 rfl ?_
  refine x_table (tgt := 186) dX12_changed_1 [(0, 136), (1, 186), (2, 186), (3, 186), (4, 174), (5, 186), (6, 177), (7, 180), (8, 183), (9, 186), (10, 138), (11, 141), (12, 144), (13, 147), (14, 147), (15, 150), (16, 153), (17, 156), (18, 159), (19, 162), (20, 165), (21, 168), (22, 168), (23, 186), (24, 171), (25, 186), (26, 186), (27, 186), (28, 174), (29, 174)] (by decide +kernel) (by decide +kernel) (by decide) ?_ ?_
  · refine swG_d (by decide) ?_ (swG_d (by decide) ?_ (swG_d (by decide) ?_ (swG_d (by decide) ?_ (swG_d (by decide) ?_ (swG_d (by decide) ?_ (swG_d (by decide) ?_ (swG_d (by decide) ?_ (swG_d (by decide) ?_ (swG_d (by decide) ?_ (swG_d (by decide) ?_ (swG_d (by decide) ?_ (swG_d (by decide) ?_ (swG_d (by decide) ?_ (swG_d (by decide) ?_ (swG_d (by decide) ?_ (swG_d (by decide) ?_ (swG_d (by decide) ?_ (swG_d (by decide) ?_ (swG_d (by decide) ?_ (swG_d (by decide) ?_ (swG_d (by decide) ?_ (swG_d (by decide) ?_ (swG_d (by decide) ?_ (swG_d (by decide) ?_ (swG_d (by decide) ?_ (swG_d (by decide) ?_ (swG_d (by decide) ?_ (swG_d (by decide) ?_ (swG_d (by decide) ?_ (trivial))))))))))))))))))))))))))))))
    · refine x_iconst (v := 0) dX12_changed_136 (by decide) ?_
      exact x_iret rfl dX12_changed_137
    · refine x_iconst (v := -1) dX12_changed_186 (by decide) ?_
      exact x_iret rfl dX12_changed_187
    · refine x_iconst (v := -1) dX12_changed_186 (by decide) ?_
      exact x_iret rfl dX12_changed_187
    · refine x_iconst (v := -1) dX12_changed_186 (by decide) ?_
      exact x_iret rfl dX12_changed_187
    · refine x_bipush (v := 9) dX12_changed_174 (by decide) ?_
      exact x_iret rfl dX12_changed_176
    · refine x_iconst (v := -1) dX12_changed_186 (by decide) ?_
      exact x_iret rfl dX12_changed_187
    · refine x_bipush (v := 33) dX12_changed_177 (by decide) ?_
      exact x_iret rfl dX12_changed_179
    · refine x_bipush (v := 32) dX12_changed_180 (by decide) ?_
      exact x_iret rfl dX12_changed_182
    · refine x_bipush (v := 34) dX12_changed_183 (by decide) ?_
      exact x_iret rfl dX12_changed_185
    · refine x_iconst (v := -1) dX12_changed_186 (by decide) ?_
      exact x_iret rfl dX12_changed_187
    · refine x_bipush (v := 11) dX12_changed_138 (by decide) ?_
      exact x_iret rfl dX12_changed_140
    · refine x_bipush (v := 10) dX12_changed_141 (by decide) ?_
      exact x_iret rfl dX12_changed_143
    · refine x_bipush (v := 13) dX12_changed_144 (by decide) ?_
      exact x_iret rfl dX12_changed_146
    · refine x_bipush (v := 12) dX12_changed_147 (by decide) ?_
      exact x_iret rfl dX12_changed_149
    · refine x_bipush (v := 12) dX12_changed_147 (by decide) ?_
      exact x_iret rfl dX12_changed_149
    · refine x_bipush (v := 16) dX12_changed_150 (by decide) ?_
      exact x_iret rfl dX12_changed_152
    · refine x_bipush (v := 15) dX12_changed_153 (by decide) ?_
      exact x_iret rfl dX12_changed_155
    · refine x_bipush (v := 18) dX12_changed_156 (by decide) ?_
      exact x_iret rfl dX12_changed_158
    · refine x_bipush (v := 17) dX12_changed_159 (by decide) ?_
      exact x_iret rfl dX12_changed_161
    · refine x_bipush (v := 20) dX12_changed_162 (by decide) ?_
      exact x_iret rfl dX12_changed_164
    · refine x_bipush (v := 19) dX12_changed_165 (by decide) ?_
      exact x_iret rfl dX12_changed_167
    · refine x_bipush (v := 30) dX12_changed_168 (by decide) ?_
      exact x_iret rfl dX12_changed_170
    · refine x_bipush (v := 30) dX12_changed_168 (by decide) ?_
      exact x_iret rfl dX12_changed_170
    · refine x_iconst (v := -1) dX12_changed_186 (by decide) ?_
      exact x_iret rfl dX12_changed_187
    · refine x_bipush (v := 31) dX12_changed_171 (by decide) ?_
      exact x_iret rfl dX12_changed_173
    · refine x_iconst (v := -1) dX12_changed_186 (by decide) ?_
      exact x_iret rfl dX12_changed_187
    · refine x_iconst (v := -1) dX12_changed_186 (by decide) ?_
      exact x_iret rfl dX12_changed_187
    · refine x_iconst (v := -1) dX12_changed_186 (by decide) ?_
      exact x_iret rfl dX12_changed_187
    · refine x_bipush (v := 9) dX12_changed_174 (by decide) ?_
      exact x_iret rfl dX12_changed_176
    · refine x_bipush (v := 9) dX12_changed_174 (by decide) ?_
      exact x_iret rfl dX12_changed_176
  · refine x_iconst (v := -1) dX12_changed_186 (by decide) ?_
    exact x_iret rfl dX12_changed_187
theorem s233 {l : Launch} {d : Nat} {rec : Nat → List Value → Mem → XA} (hS : Nonempty XS) (hs : XSnd l xmt rec d) : Snd1 l 233 (b233 rec) d := by
  intro as M r M' h0
  unfold b233 at h0
  obtain ⟨a0, l1, e1, h1⟩ := aI_inv h0
  obtain ⟨ez, h⟩ := aZ_inv h1
  subst ez
  subst e1
  exact xmet (M := M) (as := [.int a0]) (lo := [some (.int a0)]) 233 xq233 xm233 (by rw [xargs_i, xargs_nil]; exact ⟨rfl, trivial⟩) (by rw [xargs_i, xargs_nil]; exact Nat.le_of_ble_eq_true rfl) (fun S G K => x_weak (by exact ⟨rfl, trivial⟩) (k233 hs a0 M)) h hS
set_option maxRecDepth 100000 in
def c234 (rec : Nat → List Value → Mem → XA) (a0 : Option Nat) (M0 : Mem) : XA :=
  gtI (13, 157) M0 a0 65 fun x1 =>
  some (.int x1, M0)
def b234 (rec : Nat → List Value → Mem → XA) (as : List Value) (M0 : Mem) : XA := aR as fun a0 as => aZ as (c234 rec a0 M0)
set_option maxRecDepth 100000 in
set_option maxHeartbeats 4000000 in
theorem k234 {S : XS} {G : XG} {K : Nat × Nat} {l : Launch} {d : Nat} {rec : Nat → List Value → Mem → XA} (hs : XSnd l xmt rec d) (a0 : Option Nat) (M0 : Mem) : Xe S G K l (yX12_fault, cX12_fault, 1, some .int) d 0 [some (va_rf a0)] [] M0 (c234 rec a0 M0) := by
  unfold c234
  refine x_aload_n dX12_fault_0 rfl ?_
  refine gfX12_591 rfl dX12_fault_1 (fun x1 => ?_)
  exact x_iret rfl dX12_fault_4
theorem s234 {l : Launch} {d : Nat} {rec : Nat → List Value → Mem → XA} (hS : Nonempty XS) (hs : XSnd l xmt rec d) : Snd1 l 234 (b234 rec) d := by
  intro as M r M' h0
  unfold b234 at h0
  obtain ⟨a0, l1, e1, h1⟩ := aR_inv h0
  obtain ⟨ez, h⟩ := aZ_inv h1
  subst ez
  subst e1
  exact xmet (M := M) (as := [va_rf a0]) (lo := [some (va_rf a0)]) 234 xq234 xm234 (by rw [xargs_rf, xargs_nil]; exact ⟨rfl, trivial⟩) (by rw [xargs_rf, xargs_nil]; exact Nat.le_of_ble_eq_true rfl) (fun S G K => x_weak (by exact ⟨rfl, trivial⟩) (k234 hs a0 M)) h hS
set_option maxRecDepth 100000 in
def c235_114 (rec : Nat → List Value → Mem → XA) (a0 : Option Nat) (a2 : Int32) (j173 : Mem → XA) : (Int32 × Mem) → ((Int32 × Mem) → XA) → XA := fun s6 j114 =>
  if a2 < 0 then (
    j173 s6.2) else (
    gtP (13, 157) s6.2 a0 10 fun x7 =>
    alI 100 s6.2 x7 a2 fun x8 =>
    if x8 ≤ s6.1 then (
      j173 s6.2) else (
      gtP (13, 157) s6.2 a0 70 fun x9 =>
      gtP (13, 157) s6.2 a0 13 fun x10 =>
      alI 100 s6.2 x10 ((((96 : Int32)) * a2) + s6.1) fun x11 =>
      jn (fun (s12 : Int32) =>
        asI 100 s6.2 x9 (((96 : Int32)) + s6.1) s12 fun M13 =>
        lt (s6.1 + (1 : Int32)) fun (x14 : Int32) =>
        j114 (x14, M13)) fun j166 =>
      if x11 = ((2 : Int32)) then (
        gtP (13, 157) s6.2 a0 15 fun x15 =>
        alI 100 s6.2 x15 ((((96 : Int32)) * a2) + s6.1) fun x16 =>
        j166 x16) else (
        j166 ((0 : Int32)))))
set_option maxRecDepth 100000 in
def c235_60 (rec : Nat → List Value → Mem → XA) (a0 : Option Nat) (a1 : Int32) (j112 : Mem → XA) : (Int32 × Mem) → ((Int32 × Mem) → XA) → XA := fun s17 j60 =>
  gtP (13, 157) s17.2 a0 10 fun x18 =>
  alI 100 s17.2 x18 a1 fun x19 =>
  if x19 ≤ s17.1 then (
    j112 s17.2) else (
    gtP (13, 157) s17.2 a0 70 fun x20 =>
    gtP (13, 157) s17.2 a0 13 fun x21 =>
    alI 100 s17.2 x21 ((((96 : Int32)) * a1) + s17.1) fun x22 =>
    jn (fun (s23 : Int32) =>
      asI 100 s17.2 x20 s17.1 s23 fun M24 =>
      lt (s17.1 + (1 : Int32)) fun (x25 : Int32) =>
      j60 (x25, M24)) fun j105 =>
    if x22 = ((2 : Int32)) then (
      gtP (13, 157) s17.2 a0 15 fun x26 =>
      alI 100 s17.2 x26 ((((96 : Int32)) * a1) + s17.1) fun x27 =>
      j105 x27) else (
      j105 ((0 : Int32))))
set_option maxRecDepth 100000 in
def c235_12 (rec : Nat → List Value → Mem → XA) (a0 : Option Nat) (a1 : Int32) (a2 : Int32) (j58 : Mem → XA) : (Int32 × Mem) → ((Int32 × Mem) → XA) → XA := fun s28 j12 =>
  gtP (13, 157) s28.2 a0 3 fun x29 =>
  alI 100 s28.2 x29 a1 fun x30 =>
  if x30 ≤ s28.1 then (
    j58 s28.2) else (
    gtP (13, 157) s28.2 a0 68 fun x31 =>
    jn (fun (s32 : Int32 × Mem) =>
      asI 100 s32.2 x31 s28.1 s32.1 fun M33 =>
      lt (s28.1 + (1 : Int32)) fun (x34 : Int32) =>
      j12 (x34, M33)) fun j51 =>
    if 0 ≤ a2 then (
      gtP (13, 157) s28.2 a0 4 fun x35 =>
      alL s28.2 x35 ((((8 : Int32)) * a1) + s28.1) fun x36 =>
      vC (13, 157) s28.2 a0 <|
      cI (rec 227 [va_rf a0, .int a2, .long x36] s28.2) fun x38 M37 =>
      j51 (x38, M37)) else (
      j51 ((-1 : Int32), s28.2)))
set_option maxRecDepth 100000 in
def c235 (rec : Nat → List Value → Mem → XA) (a0 : Option Nat) (a1 : Int32) (a2 : Int32) (M0 : Mem) : XA :=
  ptI (13, 157) M0 a0 66 a1 fun M1 =>
  ptI (13, 157) M1 a0 67 a2 fun M2 =>
  jn (fun (s3 : Mem) =>
    jn (fun (s4 : Mem) =>
      jn (fun (s5 : Mem) =>
        some (.null, s5)) fun j173 =>
      lp (c235_114 rec a0 a2 j173) 4294967296 ((0 : Int32), s4)) fun j112 =>
    lp (c235_60 rec a0 a1 j112) 4294967296 ((0 : Int32), s3)) fun j58 =>
  lp (c235_12 rec a0 a1 a2 j58) 4294967296 ((0 : Int32), M2)
def b235 (rec : Nat → List Value → Mem → XA) (as : List Value) (M0 : Mem) : XA := aR as fun a0 as => aI as fun a1 as => aI as fun a2 as => aZ as (c235 rec a0 a1 a2 M0)
set_option maxRecDepth 100000 in
set_option maxHeartbeats 4000000 in
theorem k235 {S : XS} {G : XG} {K : Nat × Nat} {l : Launch} {d : Nat} {rec : Nat → List Value → Mem → XA} (hs : XSnd l xmt rec d) (a0 : Option Nat) (a1 : Int32) (a2 : Int32) (M0 : Mem) : Xe S G K l (yX12_machine, cX12_machine, 4, none) d 0 [some (va_rf a0), some (.int a1), some (.int a2), none] [] M0 (c235 rec a0 a1 a2 M0) := by
  unfold c235
  refine x_aload_n dX12_machine_0 rfl ?_
  refine x_iload_n dX12_machine_1 rfl ?_
  refine pfX12_600 rfl dX12_machine_2 (fun M1 => ?_)
  refine x_aload_n dX12_machine_5 rfl ?_
  refine x_iload_n dX12_machine_6 rfl ?_
  refine pfX12_603 rfl dX12_machine_7 (fun M2 => ?_)
  refine x_iconst (v := 0) dX12_machine_10 (by decide) ?_
  refine x_istore_n (lo' := [some (va_rf a0), some (.int a1), some (.int a2), some (.int ((0 : Int32)))]) dX12_machine_11 (by decide) rfl rfl ?_
  refine x_jn (σ := Mem) 58 (fun s3 => [some (va_rf a0), some (.int a1), some (.int a2), none]) (fun s3 => []) (fun s3 => s3) (fun s3 => ?_) (fun j58 hj58 => ?_)
  · refine x_iconst (v := 0) dX12_machine_58 (by decide) ?_
    refine x_istore_n (lo' := [some (va_rf a0), some (.int a1), some (.int a2), some (.int ((0 : Int32)))]) dX12_machine_59 (by decide) rfl rfl ?_
    refine x_jn (σ := Mem) 112 (fun s4 => [some (va_rf a0), none, some (.int a2), none]) (fun s4 => []) (fun s4 => s4) (fun s4 => ?_) (fun j112 hj112 => ?_)
    · refine x_iconst (v := 0) dX12_machine_112 (by decide) ?_
      refine x_istore_n (lo' := [some (va_rf a0), none, some (.int a2), some (.int ((0 : Int32)))]) dX12_machine_113 (by decide) rfl rfl ?_
      refine x_jn (σ := Mem) 173 (fun s5 => [none, none, none, none]) (fun s5 => []) (fun s5 => s5) (fun s5 => ?_) (fun j173 hj173 => ?_)
      · exact x_vret rfl dX12_machine_173
      refine x_weak (by exact ⟨rfl, ⟨rfl, ⟨rfl, trivial⟩⟩⟩) (x_lp (σ := Int32 × Mem) 114 (fun s6 => [some (va_rf a0), none, some (.int a2), some (.int s6.1)]) (fun s6 => []) (fun s6 => s6.2) (fun s6 j114 hj114 => ?_) 4294967296 ((0 : Int32), s4))
      · refine x_iload_n dX12_machine_114 rfl ?_
        refine x_if_lt (tgt := 173) dX12_machine_115 (by decide) (fun _ => ?_) (fun _ => ?_)
        · exact x_weak (by exact trivial) (hj173 s6.2)
        · refine x_iload_n dX12_machine_118 rfl ?_
          refine x_aload_n dX12_machine_119 rfl ?_
          refine gfX12_36 rfl dX12_machine_120 (fun x7 => ?_)
          refine x_iload_n dX12_machine_123 rfl ?_
          refine x_iald dX12_machine_124 (fun x8 => ?_)
          refine x_icmp_ge (tgt := 173) dX12_machine_125 (by decide) (fun _ => ?_) (fun _ => ?_)
          · exact x_weak (by exact trivial) (hj173 s6.2)
          · refine x_aload_n dX12_machine_128 rfl ?_
            refine gfX12_224 rfl dX12_machine_129 (fun x9 => ?_)
            refine x_bipush (v := 96) dX12_machine_132 (by decide) ?_
            refine x_iload_n dX12_machine_134 rfl ?_
            refine x_iadd dX12_machine_135 ?_
            refine x_aload_n dX12_machine_136 rfl ?_
            refine gfX12_45 rfl dX12_machine_137 (fun x10 => ?_)
            refine x_bipush (v := 96) dX12_machine_140 (by decide) ?_
            refine x_iload_n dX12_machine_142 rfl ?_
            refine x_imul dX12_machine_143 ?_
            refine x_iload_n dX12_machine_144 rfl ?_
            refine x_iadd dX12_machine_145 ?_
            refine x_iald dX12_machine_146 (fun x11 => ?_)
            refine x_iconst (v := 2) dX12_machine_147 (by decide) ?_
            refine x_jn (σ := Int32) 166 (fun s12 => [some (va_rf a0), none, some (.int a2), some (.int s6.1)]) (fun s12 => [.int s12, .int (((96 : Int32)) + s6.1), va_rf x9]) (fun s12 => s6.2) (fun s12 => ?_) (fun j166 hj166 => ?_)
            · refine x_iast dX12_machine_166 (fun M13 => ?_)
              refine x_iincN (v := 1) (lo' := fun x14 => [some (va_rf a0), none, some (.int a2), some (.int x14)]) (by decide) dX12_machine_167 rfl (by decide) rfl (fun _ => rfl) (fun x14 => ?_)
              refine x_goto (tgt := 114) dX12_machine_170 (by decide) ?_
              exact x_weak (by exact ⟨rfl, ⟨rfl, ⟨rfl, trivial⟩⟩⟩) (hj114 (x14, M13))
            refine x_icmp_ne (tgt := 165) dX12_machine_148 (by decide) (fun _ => ?_) (fun _ => ?_)
            · refine x_aload_n dX12_machine_151 rfl ?_
              refine gfX12_52 rfl dX12_machine_152 (fun x15 => ?_)
              refine x_bipush (v := 96) dX12_machine_155 (by decide) ?_
              refine x_iload_n dX12_machine_157 rfl ?_
              refine x_imul dX12_machine_158 ?_
              refine x_iload_n dX12_machine_159 rfl ?_
              refine x_iadd dX12_machine_160 ?_
              refine x_iald dX12_machine_161 (fun x16 => ?_)
              refine x_goto (tgt := 166) dX12_machine_162 (by decide) ?_
              exact x_weak (by exact ⟨rfl, ⟨rfl, ⟨rfl, trivial⟩⟩⟩) (hj166 x16)
            · refine x_iconst (v := 0) dX12_machine_165 (by decide) ?_
              exact x_weak (by exact ⟨rfl, ⟨rfl, ⟨rfl, trivial⟩⟩⟩) (hj166 ((0 : Int32)))
    refine x_weak (by exact ⟨rfl, ⟨rfl, ⟨rfl, ⟨rfl, trivial⟩⟩⟩⟩) (x_lp (σ := Int32 × Mem) 60 (fun s17 => [some (va_rf a0), some (.int a1), some (.int a2), some (.int s17.1)]) (fun s17 => []) (fun s17 => s17.2) (fun s17 j60 hj60 => ?_) 4294967296 ((0 : Int32), s3))
    · refine x_iload_n dX12_machine_60 rfl ?_
      refine x_aload_n dX12_machine_61 rfl ?_
      refine gfX12_36 rfl dX12_machine_62 (fun x18 => ?_)
      refine x_iload_n dX12_machine_65 rfl ?_
      refine x_iald dX12_machine_66 (fun x19 => ?_)
      refine x_icmp_ge (tgt := 112) dX12_machine_67 (by decide) (fun _ => ?_) (fun _ => ?_)
      · exact x_weak (by exact ⟨rfl, ⟨rfl, trivial⟩⟩) (hj112 s17.2)
      · refine x_aload_n dX12_machine_70 rfl ?_
        refine gfX12_224 rfl dX12_machine_71 (fun x20 => ?_)
        refine x_iload_n dX12_machine_74 rfl ?_
        refine x_aload_n dX12_machine_75 rfl ?_
        refine gfX12_45 rfl dX12_machine_76 (fun x21 => ?_)
        refine x_bipush (v := 96) dX12_machine_79 (by decide) ?_
        refine x_iload_n dX12_machine_81 rfl ?_
        refine x_imul dX12_machine_82 ?_
        refine x_iload_n dX12_machine_83 rfl ?_
        refine x_iadd dX12_machine_84 ?_
        refine x_iald dX12_machine_85 (fun x22 => ?_)
        refine x_iconst (v := 2) dX12_machine_86 (by decide) ?_
        refine x_jn (σ := Int32) 105 (fun s23 => [some (va_rf a0), some (.int a1), some (.int a2), some (.int s17.1)]) (fun s23 => [.int s23, .int s17.1, va_rf x20]) (fun s23 => s17.2) (fun s23 => ?_) (fun j105 hj105 => ?_)
        · refine x_iast dX12_machine_105 (fun M24 => ?_)
          refine x_iincN (v := 1) (lo' := fun x25 => [some (va_rf a0), some (.int a1), some (.int a2), some (.int x25)]) (by decide) dX12_machine_106 rfl (by decide) rfl (fun _ => rfl) (fun x25 => ?_)
          refine x_goto (tgt := 60) dX12_machine_109 (by decide) ?_
          exact x_weak (by exact ⟨rfl, ⟨rfl, ⟨rfl, ⟨rfl, trivial⟩⟩⟩⟩) (hj60 (x25, M24))
        refine x_icmp_ne (tgt := 104) dX12_machine_87 (by decide) (fun _ => ?_) (fun _ => ?_)
        · refine x_aload_n dX12_machine_90 rfl ?_
          refine gfX12_52 rfl dX12_machine_91 (fun x26 => ?_)
          refine x_bipush (v := 96) dX12_machine_94 (by decide) ?_
          refine x_iload_n dX12_machine_96 rfl ?_
          refine x_imul dX12_machine_97 ?_
          refine x_iload_n dX12_machine_98 rfl ?_
          refine x_iadd dX12_machine_99 ?_
          refine x_iald dX12_machine_100 (fun x27 => ?_)
          refine x_goto (tgt := 105) dX12_machine_101 (by decide) ?_
          exact x_weak (by exact ⟨rfl, ⟨rfl, ⟨rfl, ⟨rfl, trivial⟩⟩⟩⟩) (hj105 x27)
        · refine x_iconst (v := 0) dX12_machine_104 (by decide) ?_
          exact x_weak (by exact ⟨rfl, ⟨rfl, ⟨rfl, ⟨rfl, trivial⟩⟩⟩⟩) (hj105 ((0 : Int32)))
  refine x_weak (by exact ⟨rfl, ⟨rfl, ⟨rfl, ⟨rfl, trivial⟩⟩⟩⟩) (x_lp (σ := Int32 × Mem) 12 (fun s28 => [some (va_rf a0), some (.int a1), some (.int a2), some (.int s28.1)]) (fun s28 => []) (fun s28 => s28.2) (fun s28 j12 hj12 => ?_) 4294967296 ((0 : Int32), M2))
  · refine x_iload_n dX12_machine_12 rfl ?_
    refine x_aload_n dX12_machine_13 rfl ?_
    refine gfX12_13 rfl dX12_machine_14 (fun x29 => ?_)
    refine x_iload_n dX12_machine_17 rfl ?_
    refine x_iald dX12_machine_18 (fun x30 => ?_)
    refine x_icmp_ge (tgt := 58) dX12_machine_19 (by decide) (fun _ => ?_) (fun _ => ?_)
    · exact x_weak (by exact ⟨rfl, ⟨rfl, ⟨rfl, trivial⟩⟩⟩) (hj58 s28.2)
    · refine x_aload_n dX12_machine_22 rfl ?_
      refine gfX12_218 rfl dX12_machine_23 (fun x31 => ?_)
      refine x_iload_n dX12_machine_26 rfl ?_
      refine x_iload_n dX12_machine_27 rfl ?_
      refine x_jn (σ := Int32 × Mem) 51 (fun s32 => [some (va_rf a0), some (.int a1), some (.int a2), some (.int s28.1)]) (fun s32 => [.int s32.1, .int s28.1, va_rf x31]) (fun s32 => s32.2) (fun s32 => ?_) (fun j51 hj51 => ?_)
      · refine x_iast dX12_machine_51 (fun M33 => ?_)
        refine x_iincN (v := 1) (lo' := fun x34 => [some (va_rf a0), some (.int a1), some (.int a2), some (.int x34)]) (by decide) dX12_machine_52 rfl (by decide) rfl (fun _ => rfl) (fun x34 => ?_)
        refine x_goto (tgt := 12) dX12_machine_55 (by decide) ?_
        exact x_weak (by exact ⟨rfl, ⟨rfl, ⟨rfl, ⟨rfl, trivial⟩⟩⟩⟩) (hj12 (x34, M33))
      refine x_if_ge (tgt := 35) dX12_machine_28 (by decide) (fun _ => ?_) (fun _ => ?_)
      · refine x_aload_n dX12_machine_35 rfl ?_
        refine x_iload_n dX12_machine_36 rfl ?_
        refine x_aload_n dX12_machine_37 rfl ?_
        refine gfX12_17 rfl dX12_machine_38 (fun x35 => ?_)
        refine x_bipush (v := 8) dX12_machine_41 (by decide) ?_
        refine x_iload_n dX12_machine_43 rfl ?_
        refine x_imul dX12_machine_44 ?_
        refine x_iload_n dX12_machine_45 rfl ?_
        refine x_iadd dX12_machine_46 ?_
        refine x_lald dX12_machine_47 (fun x36 => ?_)
        refine cmX12_571 rfl hs (Nat.le_of_ble_eq_true rfl) dX12_machine_48 (fun x38 M37 => ?_)
        exact x_weak (by exact ⟨rfl, ⟨rfl, ⟨rfl, ⟨rfl, trivial⟩⟩⟩⟩) (hj51 (x38, M37))
      · refine x_iconst (v := -1) dX12_machine_31 (by decide) ?_
        refine x_goto (tgt := 51) dX12_machine_32 (by decide) ?_
        exact x_weak (by exact ⟨rfl, ⟨rfl, ⟨rfl, ⟨rfl, trivial⟩⟩⟩⟩) (hj51 ((-1 : Int32), s28.2))
theorem s235 {l : Launch} {d : Nat} {rec : Nat → List Value → Mem → XA} (hS : Nonempty XS) (hs : XSnd l xmt rec d) : Snd1 l 235 (b235 rec) d := by
  intro as M r M' h0
  unfold b235 at h0
  obtain ⟨a0, l1, e1, h1⟩ := aR_inv h0
  obtain ⟨a1, l2, e2, h2⟩ := aI_inv h1
  obtain ⟨a2, l3, e3, h3⟩ := aI_inv h2
  obtain ⟨ez, h⟩ := aZ_inv h3
  subst ez
  subst e3
  subst e2
  subst e1
  exact xmet (M := M) (as := [va_rf a0, .int a1, .int a2]) (lo := [some (va_rf a0), some (.int a1), some (.int a2)]) 235 xq235 xm235 (by rw [xargs_rf, xargs_i, xargs_i, xargs_nil]; exact ⟨rfl, ⟨rfl, ⟨rfl, trivial⟩⟩⟩) (by rw [xargs_rf, xargs_i, xargs_i, xargs_nil]; exact Nat.le_of_ble_eq_true rfl) (fun S G K => x_weak (by exact ⟨rfl, ⟨rfl, ⟨rfl, trivial⟩⟩⟩) (k235 hs a0 a1 a2 M)) h hS
