set_option maxRecDepth 100000 in
def c285 (rec : Nat → List Value → Mem → XA) (a0 : Int32) (a1 : Int32) (M0 : Mem) : XA :=
  lt (a0 ^^^ a1) fun (x1 : Int32) =>
  jn (fun (s2 : Int32 × Mem) =>
    rtZ s2.1 s2.2) fun j22 =>
  jn (fun (s3 : Mem) =>
    j22 ((0 : Int32), s3)) fun j21 =>
  if x1 = 0 then (
    j21 M0) else (
    cI (rec 313 [.int x1] M0) fun x5 M4 =>
    if (a0 &&& x5) = 0 then (
      j21 M4) else (
      j22 ((1 : Int32), M4)))
def b285 (rec : Nat → List Value → Mem → XA) (as : List Value) (M0 : Mem) : XA := aI as fun a0 as => aI as fun a1 as => aZ as (c285 rec a0 a1 M0)
set_option maxRecDepth 100000 in
set_option maxHeartbeats 4000000 in
theorem k285 {S : XS} {G : XG} {K : Nat × Nat} {l : Launch} {d : Nat} {rec : Nat → List Value → Mem → XA} (hs : XSnd l xmt rec d) (a0 : Int32) (a1 : Int32) (M0 : Mem) : Xe S G K l (yX12_isAhead, cX12_isAhead, 3, some .boolean) d 0 [some (.int a0), some (.int a1), none] [] M0 (c285 rec a0 a1 M0) := by
  unfold c285
  refine x_iload_n dX12_isAhead_0 rfl ?_
  refine x_iload_n dX12_isAhead_1 rfl ?_
  refine x_ixor dX12_isAhead_2 ?_
  refine x_ltI (fun x1 => ?_)
  refine x_istore_n (lo' := [some (.int a0), some (.int a1), some (.int x1)]) dX12_isAhead_3 (by decide) rfl rfl ?_
  refine x_iload_n dX12_isAhead_4 rfl ?_
  refine x_jn (σ := Int32 × Mem) 22 (fun s2 => [none, none, none]) (fun s2 => [.int s2.1]) (fun s2 => s2.2) (fun s2 => ?_) (fun j22 hj22 => ?_)
  · exact x_zret rfl dX12_isAhead_22
  refine x_jn (σ := Mem) 21 (fun s3 => [none, none, none]) (fun s3 => []) (fun s3 => s3) (fun s3 => ?_) (fun j21 hj21 => ?_)
  · refine x_iconst (v := 0) dX12_isAhead_21 (by decide) ?_
    exact x_weak (by exact trivial) (hj22 ((0 : Int32), s3))
  refine x_if_eq (tgt := 21) dX12_isAhead_5 (by decide) (fun _ => ?_) (fun _ => ?_)
  · exact x_weak (by exact trivial) (hj21 M0)
  · refine x_iload_n dX12_isAhead_8 rfl ?_
    refine x_iload_n dX12_isAhead_9 rfl ?_
    refine cmX12_781 rfl hs (Nat.le_of_ble_eq_true rfl) dX12_isAhead_10 (fun x5 M4 => ?_)
    refine x_iand dX12_isAhead_13 ?_
    refine x_if_eq (tgt := 21) dX12_isAhead_14 (by decide) (fun _ => ?_) (fun _ => ?_)
    · exact x_weak (by exact trivial) (hj21 M4)
    · refine x_iconst (v := 1) dX12_isAhead_17 (by decide) ?_
      refine x_goto (tgt := 22) dX12_isAhead_18 (by decide) ?_
      exact x_weak (by exact trivial) (hj22 ((1 : Int32), M4))
theorem s285 {l : Launch} {d : Nat} {rec : Nat → List Value → Mem → XA} (hS : Nonempty XS) (hs : XSnd l xmt rec d) : Snd1 l 285 (b285 rec) d := by
  intro as M r M' h0
  unfold b285 at h0
  obtain ⟨a0, l1, e1, h1⟩ := aI_inv h0
  obtain ⟨a1, l2, e2, h2⟩ := aI_inv h1
  obtain ⟨ez, h⟩ := aZ_inv h2
  subst ez
  subst e2
  subst e1
  exact xmet (M := M) (as := [.int a0, .int a1]) (lo := [some (.int a0), some (.int a1)]) 285 xq285 xm285 (by rw [xargs_i, xargs_i, xargs_nil]; exact ⟨rfl, ⟨rfl, trivial⟩⟩) (by rw [xargs_i, xargs_i, xargs_nil]; exact Nat.le_of_ble_eq_true rfl) (fun S G K => x_weak (by exact ⟨rfl, ⟨rfl, trivial⟩⟩) (k285 hs a0 a1 M)) h hS
set_option maxRecDepth 100000 in
def c286 (rec : Nat → List Value → Mem → XA) (a0 : Option Nat) (a1 : Int32) (a2 : Int32) (a3 : Int32) (M0 : Mem) : XA :=
  vC (13, 157) M0 a0 <|
  cI (rec 256 [va_rf a0, .int a1, .int a3] M0) fun x2 M1 =>
  jn (fun (s3 : Mem) =>
    some (.int ((-1 : Int32)), s3)) fun j25 =>
  if x2 = 0 then (
    j25 M1) else (
    gtP (13, 157) M1 a0 33 fun x4 =>
    alI 100 M1 x4 a1 fun x5 =>
    cI (rec 184 [.int a2, .int ((0 : Int32)), .int (x5 - ((1 : Int32)))] M1) fun x7 M6 =>
    if x7 = 0 then (
      j25 M6) else (
      gtP (13, 157) M6 a0 123 fun x8 =>
      alX 102 M6 x8 a1 fun x9 =>
      jn (fun (s10 : Int32) =>
        some (.int s10, M6)) fun j57 =>
      if x9 = 0 then (
        j57 ((-2 : Int32))) else (
        gtP (13, 157) M6 a0 124 fun x11 =>
        alI 100 M6 x11 ((((1000 : Int32)) * a1) + a2) fun x12 =>
        j57 ((x12 >>> (a3 &&& 31)) &&& ((1 : Int32))))))
def b286 (rec : Nat → List Value → Mem → XA) (as : List Value) (M0 : Mem) : XA := aR as fun a0 as => aI as fun a1 as => aI as fun a2 as => aI as fun a3 as => aZ as (c286 rec a0 a1 a2 a3 M0)
set_option maxRecDepth 100000 in
set_option maxHeartbeats 4000000 in
theorem k286 {S : XS} {G : XG} {K : Nat × Nat} {l : Launch} {d : Nat} {rec : Nat → List Value → Mem → XA} (hs : XSnd l xmt rec d) (a0 : Option Nat) (a1 : Int32) (a2 : Int32) (a3 : Int32) (M0 : Mem) : Xe S G K l (yX12_killed, cX12_killed, 4, some .int) d 0 [some (va_rf a0), some (.int a1), some (.int a2), some (.int a3)] [] M0 (c286 rec a0 a1 a2 a3 M0) := by
  unfold c286
  refine x_aload_n dX12_killed_0 rfl ?_
  refine x_iload_n dX12_killed_1 rfl ?_
  refine x_iload_n dX12_killed_2 rfl ?_
  refine cmX12_747 rfl hs (Nat.le_of_ble_eq_true rfl) dX12_killed_3 (fun x2 M1 => ?_)
  refine x_jn (σ := Mem) 25 (fun s3 => [none, none, none, none]) (fun s3 => []) (fun s3 => s3) (fun s3 => ?_) (fun j25 hj25 => ?_)
  · refine x_iconst (v := -1) dX12_killed_25 (by decide) ?_
    exact x_iret rfl dX12_killed_26
  refine x_if_eq (tgt := 25) dX12_killed_6 (by decide) (fun _ => ?_) (fun _ => ?_)
  · exact x_weak (by exact trivial) (hj25 M1)
  · refine x_iload_n dX12_killed_9 rfl ?_
    refine x_iconst (v := 0) dX12_killed_10 (by decide) ?_
    refine x_aload_n dX12_killed_11 rfl ?_
    refine gfX12_106 rfl dX12_killed_12 (fun x4 => ?_)
    refine x_iload_n dX12_killed_15 rfl ?_
    refine x_iald dX12_killed_16 (fun x5 => ?_)
    refine x_iconst (v := 1) dX12_killed_17 (by decide) ?_
    refine x_isub dX12_killed_18 ?_
    refine cmX12_381 rfl hs (Nat.le_of_ble_eq_true rfl) dX12_killed_19 (fun x7 M6 => ?_)
    refine x_if_ne (tgt := 27) dX12_killed_22 (by decide) (fun _ => ?_) (fun _ => ?_)
    · exact x_weak (by exact trivial) (hj25 M6)
    · refine x_aload_n dX12_killed_27 rfl ?_
      refine gfX12_315 rfl dX12_killed_28 (fun x8 => ?_)
      refine x_iload_n dX12_killed_31 rfl ?_
      refine x_zald dX12_killed_32 (fun x9 => ?_)
      refine x_jn (σ := Int32) 57 (fun s10 => [none, none, none, none]) (fun s10 => [.int s10]) (fun s10 => M6) (fun s10 => ?_) (fun j57 hj57 => ?_)
      · exact x_iret rfl dX12_killed_57
      refine x_if_eq (tgt := 55) dX12_killed_33 (by decide) (fun _ => ?_) (fun _ => ?_)
      · refine x_bipush (v := -2) dX12_killed_55 (by decide) ?_
        exact x_weak (by exact trivial) (hj57 ((-2 : Int32)))
      · refine x_aload_n dX12_killed_36 rfl ?_
        refine gfX12_318 rfl dX12_killed_37 (fun x11 => ?_)
        refine x_sipush (v := 1000) dX12_killed_40 (by decide) ?_
        refine x_iload_n dX12_killed_43 rfl ?_
        refine x_imul dX12_killed_44 ?_
        refine x_iload_n dX12_killed_45 rfl ?_
        refine x_iadd dX12_killed_46 ?_
        refine x_iald dX12_killed_47 (fun x12 => ?_)
        refine x_iload_n dX12_killed_48 rfl ?_
        refine x_ishr dX12_killed_49 ?_
        refine x_iconst (v := 1) dX12_killed_50 (by decide) ?_
        refine x_iand dX12_killed_51 ?_
        refine x_goto (tgt := 57) dX12_killed_52 (by decide) ?_
        exact x_weak (by exact trivial) (hj57 ((x12 >>> (a3 &&& 31)) &&& ((1 : Int32))))
theorem s286 {l : Launch} {d : Nat} {rec : Nat → List Value → Mem → XA} (hS : Nonempty XS) (hs : XSnd l xmt rec d) : Snd1 l 286 (b286 rec) d := by
  intro as M r M' h0
  unfold b286 at h0
  obtain ⟨a0, l1, e1, h1⟩ := aR_inv h0
  obtain ⟨a1, l2, e2, h2⟩ := aI_inv h1
  obtain ⟨a2, l3, e3, h3⟩ := aI_inv h2
  obtain ⟨a3, l4, e4, h4⟩ := aI_inv h3
  obtain ⟨ez, h⟩ := aZ_inv h4
  subst ez
  subst e4
  subst e3
  subst e2
  subst e1
  exact xmet (M := M) (as := [va_rf a0, .int a1, .int a2, .int a3]) (lo := [some (va_rf a0), some (.int a1), some (.int a2), some (.int a3)]) 286 xq286 xm286 (by rw [xargs_rf, xargs_i, xargs_i, xargs_i, xargs_nil]; exact ⟨rfl, ⟨rfl, ⟨rfl, ⟨rfl, trivial⟩⟩⟩⟩) (by rw [xargs_rf, xargs_i, xargs_i, xargs_i, xargs_nil]; exact Nat.le_of_ble_eq_true rfl) (fun S G K => x_weak (by exact ⟨rfl, ⟨rfl, ⟨rfl, ⟨rfl, trivial⟩⟩⟩⟩) (k286 hs a0 a1 a2 a3 M)) h hS
set_option maxRecDepth 100000 in
def c287_49 (rec : Nat → List Value → Mem → XA) (a0 : Option Nat) (a1 : Int32) (M8 : Mem) (j76 : Int32 → XA) (j88 : Unit → XA) : (Int32 × Int32) → ((Int32 × Int32) → XA) → XA := fun s12 j49 =>
  if ((16 : Int32)) ≤ s12.2 then (
    j88 ()) else (
    gtP (13, 157) M8 a0 126 fun x13 =>
    alI 100 M8 x13 a1 fun x14 =>
    jn (fun (s15 : Int32) =>
      lt (s12.2 + (1 : Int32)) fun (x16 : Int32) =>
      j49 (s15, x16)) fun j82 =>
    if ((x14 >>> (s12.2 &&& 31)) &&& ((1 : Int32))) = ((1 : Int32)) then (
      if s12.1 = 0 then (
        j76 s12.2) else (
        lt (s12.1 + (-1 : Int32)) fun (x17 : Int32) =>
        j82 x17)) else (
      j82 s12.1))
set_option maxRecDepth 100000 in
def c287 (rec : Nat → List Value → Mem → XA) (a0 : Option Nat) (a1 : Int32) (a2 : Int32) (M0 : Mem) : XA :=
  vC (13, 157) M0 a0 <|
  cI (rec 255 [va_rf a0, .int a1] M0) fun x2 M1 =>
  jn (fun (s3 : Unit) =>
    some (.int ((-1 : Int32)), M1)) fun j13 =>
  if x2 = 0 then (
    j13 ()) else (
    if ((-1 : Int32)) ≤ a2 then (
      gtP (13, 157) M1 a0 123 fun x4 =>
      alX 102 M1 x4 a1 fun x5 =>
      if x5 = 0 then (
        some (.int ((-2 : Int32)), M1)) else (
        gtP (13, 157) M1 a0 126 fun x6 =>
        alI 100 M1 x6 a1 fun x7 =>
        cI (rec 315 [.int x7] M1) fun x9 M8 =>
        if 0 ≤ a2 then (
          jn (fun (s10 : Int32) =>
            some (.int s10, M8)) fun j76 =>
          jn (fun (s11 : Unit) =>
            some (.int ((-1 : Int32)), M8)) fun j88 =>
          lp (c287_49 rec a0 a1 M8 j76 j88) 4294967296 (a2, (0 : Int32))) else (
          some (.int x9, M8)))) else (
      j13 ()))
def b287 (rec : Nat → List Value → Mem → XA) (as : List Value) (M0 : Mem) : XA := aR as fun a0 as => aI as fun a1 as => aI as fun a2 as => aZ as (c287 rec a0 a1 a2 M0)
set_option maxRecDepth 100000 in
set_option maxHeartbeats 4000000 in
theorem k287 {S : XS} {G : XG} {K : Nat × Nat} {l : Launch} {d : Nat} {rec : Nat → List Value → Mem → XA} (hs : XSnd l xmt rec d) (a0 : Option Nat) (a1 : Int32) (a2 : Int32) (M0 : Mem) : Xe S G K l (yX12_least, cX12_least, 6, some .int) d 0 [some (va_rf a0), some (.int a1), some (.int a2), none, none, none] [] M0 (c287 rec a0 a1 a2 M0) := by
  unfold c287
  refine x_aload_n dX12_least_0 rfl ?_
  refine x_iload_n dX12_least_1 rfl ?_
  refine cmX12_735 rfl hs (Nat.le_of_ble_eq_true rfl) dX12_least_2 (fun x2 M1 => ?_)
  refine x_jn (σ := Unit) 13 (fun s3 => [none, none, none, none, none, none]) (fun s3 => []) (fun s3 => M1) (fun s3 => ?_) (fun j13 hj13 => ?_)
  · refine x_iconst (v := -1) dX12_least_13 (by decide) ?_
    exact x_iret rfl dX12_least_14
  refine x_if_eq (tgt := 13) dX12_least_5 (by decide) (fun _ => ?_) (fun _ => ?_)
  · exact x_weak (by exact trivial) (hj13 ())
  · refine x_iload_n dX12_least_8 rfl ?_
    refine x_iconst (v := -1) dX12_least_9 (by decide) ?_
    refine x_icmp_ge (tgt := 15) dX12_least_10 (by decide) (fun _ => ?_) (fun _ => ?_)
    · refine x_aload_n dX12_least_15 rfl ?_
      refine gfX12_315 rfl dX12_least_16 (fun x4 => ?_)
      refine x_iload_n dX12_least_19 rfl ?_
      refine x_zald dX12_least_20 (fun x5 => ?_)
      refine x_if_ne (tgt := 27) dX12_least_21 (by decide) (fun _ => ?_) (fun _ => ?_)
      · refine x_bipush (v := -2) dX12_least_24 (by decide) ?_
        exact x_iret rfl dX12_least_26
      · refine x_aload_n dX12_least_27 rfl ?_
        refine gfX12_324 rfl dX12_least_28 (fun x6 => ?_)
        refine x_iload_n dX12_least_31 rfl ?_
        refine x_iald dX12_least_32 (fun x7 => ?_)
        refine cmX12_766 rfl hs (Nat.le_of_ble_eq_true rfl) dX12_least_33 (fun x9 M8 => ?_)
        refine x_istore_n (lo' := [some (va_rf a0), some (.int a1), some (.int a2), some (.int x9), none, none]) dX12_least_36 (by decide) rfl rfl ?_
        refine x_iload_n dX12_least_37 rfl ?_
        refine x_if_ge (tgt := 43) dX12_least_38 (by decide) (fun _ => ?_) (fun _ => ?_)
        · refine x_iload_n dX12_least_43 rfl ?_
          refine x_istore (lo' := [some (va_rf a0), some (.int a1), some (.int a2), some (.int x9), some (.int a2), none]) dX12_least_44 (by decide) rfl rfl ?_
          refine x_iconst (v := 0) dX12_least_46 (by decide) ?_
          refine x_istore (lo' := [some (va_rf a0), some (.int a1), some (.int a2), some (.int x9), some (.int a2), some (.int ((0 : Int32)))]) dX12_least_47 (by decide) rfl rfl ?_
          refine x_jn (σ := Int32) 76 (fun s10 => [none, none, none, none, none, some (.int s10)]) (fun s10 => []) (fun s10 => M8) (fun s10 => ?_) (fun j76 hj76 => ?_)
          · refine x_iload dX12_least_76 rfl ?_
            exact x_iret rfl dX12_least_78
          refine x_jn (σ := Unit) 88 (fun s11 => [none, none, none, none, none, none]) (fun s11 => []) (fun s11 => M8) (fun s11 => ?_) (fun j88 hj88 => ?_)
          · refine x_iconst (v := -1) dX12_least_88 (by decide) ?_
            exact x_iret rfl dX12_least_89
          refine x_weak (by exact ⟨rfl, ⟨rfl, ⟨rfl, ⟨rfl, trivial⟩⟩⟩⟩) (x_lp (σ := Int32 × Int32) 49 (fun s12 => [some (va_rf a0), some (.int a1), none, none, some (.int s12.1), some (.int s12.2)]) (fun s12 => []) (fun s12 => M8) (fun s12 j49 hj49 => ?_) 4294967296 (a2, (0 : Int32)))
          · refine x_iload dX12_least_49 rfl ?_
            refine x_bipush (v := 16) dX12_least_51 (by decide) ?_
            refine x_icmp_ge (tgt := 88) dX12_least_53 (by decide) (fun _ => ?_) (fun _ => ?_)
            · exact x_weak (by exact trivial) (hj88 ())
            · refine x_aload_n dX12_least_56 rfl ?_
              refine gfX12_324 rfl dX12_least_57 (fun x13 => ?_)
              refine x_iload_n dX12_least_60 rfl ?_
              refine x_iald dX12_least_61 (fun x14 => ?_)
              refine x_iload dX12_least_62 rfl ?_
              refine x_ishr dX12_least_64 ?_
              refine x_iconst (v := 1) dX12_least_65 (by decide) ?_
              refine x_iand dX12_least_66 ?_
              refine x_iconst (v := 1) dX12_least_67 (by decide) ?_
              refine x_jn (σ := Int32) 82 (fun s15 => [some (va_rf a0), some (.int a1), none, none, some (.int s15), some (.int s12.2)]) (fun s15 => []) (fun s15 => M8) (fun s15 => ?_) (fun j82 hj82 => ?_)
              · refine x_iincN (v := 1) (lo' := fun x16 => [some (va_rf a0), some (.int a1), none, none, some (.int s15), some (.int x16)]) (by decide) dX12_least_82 rfl (by decide) rfl (fun _ => rfl) (fun x16 => ?_)
                refine x_goto (tgt := 49) dX12_least_85 (by decide) ?_
                exact x_weak (by exact ⟨rfl, ⟨rfl, ⟨rfl, ⟨rfl, trivial⟩⟩⟩⟩) (hj49 (s15, x16))
              refine x_icmp_ne (tgt := 82) dX12_least_68 (by decide) (fun _ => ?_) (fun _ => ?_)
              · refine x_iload dX12_least_71 rfl ?_
                refine x_if_ne (tgt := 79) dX12_least_73 (by decide) (fun _ => ?_) (fun _ => ?_)
                · exact x_weak (by exact ⟨rfl, trivial⟩) (hj76 s12.2)
                · refine x_iincN (v := -1) (lo' := fun x17 => [some (va_rf a0), some (.int a1), none, none, some (.int x17), some (.int s12.2)]) (by decide) dX12_least_79 rfl (by decide) rfl (fun _ => rfl) (fun x17 => ?_)
                  exact x_weak (by exact ⟨rfl, ⟨rfl, ⟨rfl, ⟨rfl, trivial⟩⟩⟩⟩) (hj82 x17)
              · exact x_weak (by exact ⟨rfl, ⟨rfl, ⟨rfl, ⟨rfl, trivial⟩⟩⟩⟩) (hj82 s12.1)
        · refine x_iload_n dX12_least_41 rfl ?_
          exact x_iret rfl dX12_least_42
    · exact x_weak (by exact trivial) (hj13 ())
theorem s287 {l : Launch} {d : Nat} {rec : Nat → List Value → Mem → XA} (hS : Nonempty XS) (hs : XSnd l xmt rec d) : Snd1 l 287 (b287 rec) d := by
  intro as M r M' h0
  unfold b287 at h0
  obtain ⟨a0, l1, e1, h1⟩ := aR_inv h0
  obtain ⟨a1, l2, e2, h2⟩ := aI_inv h1
  obtain ⟨a2, l3, e3, h3⟩ := aI_inv h2
  obtain ⟨ez, h⟩ := aZ_inv h3
  subst ez
  subst e3
  subst e2
  subst e1
  exact xmet (M := M) (as := [va_rf a0, .int a1, .int a2]) (lo := [some (va_rf a0), some (.int a1), some (.int a2)]) 287 xq287 xm287 (by rw [xargs_rf, xargs_i, xargs_i, xargs_nil]; exact ⟨rfl, ⟨rfl, ⟨rfl, trivial⟩⟩⟩) (by rw [xargs_rf, xargs_i, xargs_i, xargs_nil]; exact Nat.le_of_ble_eq_true rfl) (fun S G K => x_weak (by exact ⟨rfl, ⟨rfl, ⟨rfl, trivial⟩⟩⟩) (k287 hs a0 a1 a2 M)) h hS
set_option maxRecDepth 100000 in
def c288_17 (rec : Nat → List Value → Mem → XA) (a0 : Option Nat) (a1 : Int32) (a2 : Int32) (j48 : Mem → XA) : (Int32 × Mem) → ((Int32 × Mem) → XA) → XA := fun s13 j17 =>
  gtP (13, 157) s13.2 a0 27 fun x14 =>
  alI 100 s13.2 x14 ((((6 : Int32)) * a1) + a2) fun x15 =>
  if x15 ≤ s13.1 then (
    j48 s13.2) else (
    gtP (13, 157) s13.2 a0 135 fun x16 =>
    alI 100 s13.2 x16 s13.1 fun x17 =>
    vC (13, 157) s13.2 a0 <|
    cV (rec 241 [va_rf a0, .int x17] s13.2) fun M18 =>
    lt (s13.1 + (1 : Int32)) fun (x19 : Int32) =>
    j17 (x19, M18))
set_option maxRecDepth 100000 in
def c288 (rec : Nat → List Value → Mem → XA) (a0 : Option Nat) (a1 : Int32) (a2 : Int32) (M0 : Mem) : XA :=
  vC (13, 157) M0 a0 <|
  cV (rec 235 [va_rf a0, .int a1, .int ((-1 : Int32))] M0) fun M1 =>
  vC (13, 157) M1 a0 <|
  cV (rec 251 [va_rf a0] M1) fun M2 =>
  ptI (13, 157) M2 a0 73 ((0 : Int32)) fun M3 =>
  jn (fun (s4 : Mem) =>
    gtI (13, 157) s4 a0 136 fun x5 =>
    ptI (13, 157) s4 a0 136 (x5 + ((1 : Int32))) fun M6 =>
    gtP (13, 157) M6 a0 28 fun x7 =>
    alI 100 M6 x7 ((((6 : Int32)) * a1) + a2) fun x8 =>
    gtP (13, 157) M6 a0 27 fun x9 =>
    alI 100 M6 x9 ((((6 : Int32)) * a1) + a2) fun x10 =>
    vC (13, 157) M6 a0 <|
    cI (rec 252 [va_rf a0, .int x8, .int x10] M6) fun x12 M11 =>
    rtZ x12 M11) fun j48 =>
  lp (c288_17 rec a0 a1 a2 j48) 4294967296 ((0 : Int32), M3)
def b288 (rec : Nat → List Value → Mem → XA) (as : List Value) (M0 : Mem) : XA := aR as fun a0 as => aI as fun a1 as => aI as fun a2 as => aZ as (c288 rec a0 a1 a2 M0)
set_option maxRecDepth 100000 in
set_option maxHeartbeats 4000000 in
theorem k288 {S : XS} {G : XG} {K : Nat × Nat} {l : Launch} {d : Nat} {rec : Nat → List Value → Mem → XA} (hs : XSnd l xmt rec d) (a0 : Option Nat) (a1 : Int32) (a2 : Int32) (M0 : Mem) : Xe S G K l (yX12_breaks, cX12_breaks, 4, some .boolean) d 0 [some (va_rf a0), some (.int a1), some (.int a2), none] [] M0 (c288 rec a0 a1 a2 M0) := by
  unfold c288
  refine x_aload_n dX12_breaks_0 rfl ?_
  refine x_iload_n dX12_breaks_1 rfl ?_
  refine x_iconst (v := -1) dX12_breaks_2 (by decide) ?_
  refine cmX12_738 rfl hs (Nat.le_of_ble_eq_true rfl) dX12_breaks_3 (fun M1 => ?_)
  refine x_aload_n dX12_breaks_6 rfl ?_
  refine cmX12_726 rfl hs (Nat.le_of_ble_eq_true rfl) dX12_breaks_7 (fun M2 => ?_)
  refine x_aload_n dX12_breaks_10 rfl ?_
  refine x_iconst (v := 0) dX12_breaks_11 (by decide) ?_
  refine pfX12_638 rfl dX12_breaks_12 (fun M3 => ?_)
  refine x_iconst (v := 0) dX12_breaks_15 (by decide) ?_
  refine x_istore_n (lo' := [some (va_rf a0), some (.int a1), some (.int a2), some (.int ((0 : Int32)))]) dX12_breaks_16 (by decide) rfl rfl ?_
  refine x_jn (σ := Mem) 48 (fun s4 => [some (va_rf a0), some (.int a1), some (.int a2), none]) (fun s4 => []) (fun s4 => s4) (fun s4 => ?_) (fun j48 hj48 => ?_)
  · refine x_aload_n dX12_breaks_48 rfl ?_
    refine x_dup dX12_breaks_49 (xc1_r _) ?_
    refine gfX12_784 rfl dX12_breaks_50 (fun x5 => ?_)
    refine x_iconst (v := 1) dX12_breaks_53 (by decide) ?_
    refine x_iadd dX12_breaks_54 ?_
    refine pfX12_784 rfl dX12_breaks_55 (fun M6 => ?_)
    refine x_aload_n dX12_breaks_58 rfl ?_
    refine x_aload_n dX12_breaks_59 rfl ?_
    refine gfX12_91 rfl dX12_breaks_60 (fun x7 => ?_)
    refine x_bipush (v := 6) dX12_breaks_63 (by decide) ?_
    refine x_iload_n dX12_breaks_65 rfl ?_
    refine x_imul dX12_breaks_66 ?_
    refine x_iload_n dX12_breaks_67 rfl ?_
    refine x_iadd dX12_breaks_68 ?_
    refine x_iald dX12_breaks_69 (fun x8 => ?_)
    refine x_aload_n dX12_breaks_70 rfl ?_
    refine gfX12_88 rfl dX12_breaks_71 (fun x9 => ?_)
    refine x_bipush (v := 6) dX12_breaks_74 (by decide) ?_
    refine x_iload_n dX12_breaks_76 rfl ?_
    refine x_imul dX12_breaks_77 ?_
    refine x_iload_n dX12_breaks_78 rfl ?_
    refine x_iadd dX12_breaks_79 ?_
    refine x_iald dX12_breaks_80 (fun x10 => ?_)
    refine cmX12_729 rfl hs (Nat.le_of_ble_eq_true rfl) dX12_breaks_81 (fun x12 M11 => ?_)
    exact x_zret rfl dX12_breaks_84
  refine x_weak (by exact ⟨rfl, ⟨rfl, ⟨rfl, ⟨rfl, trivial⟩⟩⟩⟩) (x_lp (σ := Int32 × Mem) 17 (fun s13 => [some (va_rf a0), some (.int a1), some (.int a2), some (.int s13.1)]) (fun s13 => []) (fun s13 => s13.2) (fun s13 j17 hj17 => ?_) 4294967296 ((0 : Int32), M3))
  · refine x_iload_n dX12_breaks_17 rfl ?_
    refine x_aload_n dX12_breaks_18 rfl ?_
    refine gfX12_88 rfl dX12_breaks_19 (fun x14 => ?_)
    refine x_bipush (v := 6) dX12_breaks_22 (by decide) ?_
    refine x_iload_n dX12_breaks_24 rfl ?_
    refine x_imul dX12_breaks_25 ?_
    refine x_iload_n dX12_breaks_26 rfl ?_
    refine x_iadd dX12_breaks_27 ?_
    refine x_iald dX12_breaks_28 (fun x15 => ?_)
    refine x_icmp_ge (tgt := 48) dX12_breaks_29 (by decide) (fun _ => ?_) (fun _ => ?_)
    · exact x_weak (by exact ⟨rfl, ⟨rfl, ⟨rfl, trivial⟩⟩⟩) (hj48 s13.2)
    · refine x_aload_n dX12_breaks_32 rfl ?_
      refine x_aload_n dX12_breaks_33 rfl ?_
      refine gfX12_336 rfl dX12_breaks_34 (fun x16 => ?_)
      refine x_iload_n dX12_breaks_37 rfl ?_
      refine x_iald dX12_breaks_38 (fun x17 => ?_)
      refine cmX12_659 rfl hs (Nat.le_of_ble_eq_true rfl) dX12_breaks_39 (fun M18 => ?_)
      refine x_iincN (v := 1) (lo' := fun x19 => [some (va_rf a0), some (.int a1), some (.int a2), some (.int x19)]) (by decide) dX12_breaks_42 rfl (by decide) rfl (fun _ => rfl) (fun x19 => ?_)
      refine x_goto (tgt := 17) dX12_breaks_45 (by decide) ?_
      exact x_weak (by exact ⟨rfl, ⟨rfl, ⟨rfl, ⟨rfl, trivial⟩⟩⟩⟩) (hj17 (x19, M18))
theorem s288 {l : Launch} {d : Nat} {rec : Nat → List Value → Mem → XA} (hS : Nonempty XS) (hs : XSnd l xmt rec d) : Snd1 l 288 (b288 rec) d := by
  intro as M r M' h0
  unfold b288 at h0
  obtain ⟨a0, l1, e1, h1⟩ := aR_inv h0
  obtain ⟨a1, l2, e2, h2⟩ := aI_inv h1
  obtain ⟨a2, l3, e3, h3⟩ := aI_inv h2
  obtain ⟨ez, h⟩ := aZ_inv h3
  subst ez
  subst e3
  subst e2
  subst e1
  exact xmet (M := M) (as := [va_rf a0, .int a1, .int a2]) (lo := [some (va_rf a0), some (.int a1), some (.int a2)]) 288 xq288 xm288 (by rw [xargs_rf, xargs_i, xargs_i, xargs_nil]; exact ⟨rfl, ⟨rfl, ⟨rfl, trivial⟩⟩⟩) (by rw [xargs_rf, xargs_i, xargs_i, xargs_nil]; exact Nat.le_of_ble_eq_true rfl) (fun S G K => x_weak (by exact ⟨rfl, ⟨rfl, ⟨rfl, trivial⟩⟩⟩) (k288 hs a0 a1 a2 M)) h hS
set_option maxRecDepth 100000 in
def c289_398 (rec : Nat → List Value → Mem → XA) (a0 : Option Nat) (j425 : Mem → XA) (x11 : Int32) : (Int32 × Mem) → ((Int32 × Mem) → XA) → XA := fun s31 j398 =>
  if x11 ≤ s31.1 then (
    j425 s31.2) else (
    gtP (13, 157) s31.2 a0 134 fun x32 =>
    gtP (13, 157) s31.2 a0 135 fun x33 =>
    alI 100 s31.2 x33 s31.1 fun x34 =>
    asI 100 s31.2 x32 s31.1 x34 fun M35 =>
    lt (s31.1 + (1 : Int32)) fun (x36 : Int32) =>
    j398 (x36, M35))
set_option maxRecDepth 100000 in
def c289_234 (rec : Nat → List Value → Mem → XA) (a0 : Option Nat) (a1 : Int32) (a2 : Int32) (j307 : Int32 × Int32 × Mem → XA) (s41 : Int32 × Int32 × Int32 × Mem) (x43 : Int32) : (Int32 × Int32 × Int32 × Int32 × Mem) → ((Int32 × Int32 × Int32 × Int32 × Mem) → XA) → XA := fun s51 j234 =>
  if s51.2.2.1 = 0 then (
    j307 (s51.1, s51.2.1, s51.2.2.2.2)) else (
    if s51.2.1 = 0 then (
      gtI (13, 157) s51.2.2.2.2 a0 84 fun x52 =>
      if x52 = 0 then (
        vC (13, 157) s51.2.2.2.2 a0 <|
        cI (rec 291 [va_rf a0, .int x43, .int s51.2.2.2.1] s51.2.2.2.2) fun x54 M53 =>
        jn (fun (s55 : Int32 × Int32 × Mem) =>
          lt (s51.2.2.2.1 + (1 : Int32)) fun (x56 : Int32) =>
          j234 (s55.1, s55.2.1, x54, x56, s55.2.2)) fun j301 =>
        if x54 = 0 then (
          j301 (s51.1, s51.2.1, M53)) else (
          gtP (13, 157) M53 a0 135 fun x57 =>
          gtI (13, 157) M53 a0 137 fun x58 =>
          asI 100 M53 x57 s41.2.2.1 x58 fun M59 =>
          vC (13, 157) M59 a0 <|
          cI (rec 288 [va_rf a0, .int a1, .int a2] M59) fun x61 M60 =>
          jn (fun (s62 : Int32) =>
            j301 (s62, x61, M60)) fun j299 =>
          if x61 = 0 then (
            j299 s51.1) else (
            gtI (13, 157) M60 a0 88 fun x63 =>
            j299 x63))) else (
        j307 (s51.1, s51.2.1, s51.2.2.2.2))) else (
      j307 (s51.1, s51.2.1, s51.2.2.2.2)))
set_option maxRecDepth 100000 in
def c289_207 (rec : Nat → List Value → Mem → XA) (a0 : Option Nat) (a1 : Int32) (a2 : Int32) (j337 : Int32 × Int32 × Mem → XA) (x11 : Int32) : (Int32 × Int32 × Int32 × Mem) → ((Int32 × Int32 × Int32 × Mem) → XA) → XA := fun s41 j207 =>
  if x11 ≤ s41.2.2.1 then (
    j337 (s41.1, s41.2.1, s41.2.2.2)) else (
    if s41.2.1 = 0 then (
      gtP (13, 157) s41.2.2.2 a0 135 fun x42 =>
      alI 100 s41.2.2.2 x42 s41.2.2.1 fun x43 =>
      jn (fun (s44 : Int32 × Int32 × Mem) =>
        gtP (13, 157) s44.2.2 a0 135 fun x45 =>
        jn (fun (s46 : Int32) =>
          asI 100 s44.2.2 x45 s41.2.2.1 s46 fun M47 =>
          lt (s41.2.2.1 + (1 : Int32)) fun (x48 : Int32) =>
          j207 (s44.1, s44.2.1, x48, M47)) fun j330 =>
        if s44.2.1 = 0 then (
          j330 x43) else (
          gtP (13, 157) s44.2.2 a0 135 fun x49 =>
          alI 100 s44.2.2 x49 s41.2.2.1 fun x50 =>
          j330 x50)) fun j307 =>
      lp (c289_234 rec a0 a1 a2 j307 s41 x43) 4294967296 (s41.1, s41.2.1, (1 : Int32), (0 : Int32), s41.2.2.2)) else (
      j337 (s41.1, s41.2.1, s41.2.2.2)))
set_option maxRecDepth 100000 in
def c289_189 (rec : Nat → List Value → Mem → XA) (a0 : Option Nat) (a1 : Int32) (a2 : Int32) (j340 : Int32 × Mem → XA) (x11 : Int32) : (Int32 × Int32 × Mem) → ((Int32 × Int32 × Mem) → XA) → XA := fun s38 j189 =>
  if s38.2.1 = 0 then (
    j340 (s38.1, s38.2.2)) else (
    gtI (13, 157) s38.2.2 a0 84 fun x39 =>
    if x39 = 0 then (
      jn (fun (s40 : Int32 × Int32 × Mem) =>
        j189 (s40.1, s40.2.1, s40.2.2)) fun j337 =>
      lp (c289_207 rec a0 a1 a2 j337 x11) 4294967296 (s38.1, (0 : Int32), (0 : Int32), s38.2.2)) else (
      j340 (s38.1, s38.2.2)))
set_option maxRecDepth 100000 in
def c289_102 (rec : Nat → List Value → Mem → XA) (a0 : Option Nat) (j149 : Int32 × Mem → XA) (x11 : Int32) (x65 : Int32) : (Int32 × Int32 × Mem) → ((Int32 × Int32 × Mem) → XA) → XA := fun s71 j102 =>
  if x11 ≤ s71.2.1 then (
    j149 (s71.1, s71.2.2)) else (
    lt ((s71.1 * ((1103515245 : Int32))) + ((12345 : Int32))) fun (x72 : Int32) =>
    gtP (13, 157) s71.2.2 a0 135 fun x73 =>
    if ((((2 : Int32)) * x65) + ((1 : Int32))) = 0 then none else
    asI 100 s71.2.2 x73 s71.2.1 (((xrem ((Int32.toUInt32 x72 >>> (Int32.toUInt32 ((16 : Int32)) &&& Int32.toUInt32 31)).toInt32) ((((2 : Int32)) * x65) + ((1 : Int32)))) - x65)) fun M74 =>
    lt (s71.2.1 + (1 : Int32)) fun (x75 : Int32) =>
    j102 (x72, x75, M74))
set_option maxRecDepth 100000 in
def c289_79 (rec : Nat → List Value → Mem → XA) (a0 : Option Nat) (a1 : Int32) (a2 : Int32) (a3 : Int32) (j171 : Int32 × Mem → XA) (x11 : Int32) : (Int32 × Int32 × Int32 × Mem) → ((Int32 × Int32 × Int32 × Mem) → XA) → XA := fun s64 j79 =>
  if a3 ≤ s64.2.2.1 then (
    j171 (s64.2.1, s64.2.2.2)) else (
    if s64.2.1 = 0 then (
      j171 (s64.2.1, s64.2.2.2)) else (
      lt (if ((60 : Int32)) < s64.2.2.1 then ((60 : Int32)) else s64.2.2.1) fun x65 =>
      jn (fun (s66 : Int32 × Mem) =>
        vC (13, 157) s66.2 a0 <|
        cI (rec 288 [va_rf a0, .int a1, .int a2] s66.2) fun x68 M67 =>
        jn (fun (s69 : Int32) =>
          lt (s64.2.2.1 + (1 : Int32)) fun (x70 : Int32) =>
          j79 (s66.1, s69, x70, M67)) fun j163 =>
        if x68 = 0 then (
          j163 ((1 : Int32))) else (
          j163 ((0 : Int32)))) fun j149 =>
      lp (c289_102 rec a0 j149 x11 x65) 4294967296 (s64.1, (0 : Int32), s64.2.2.2)))
set_option maxRecDepth 100000 in
def c289 (rec : Nat → List Value → Mem → XA) (a0 : Option Nat) (a1 : Int32) (a2 : Int32) (a3 : Int32) (M0 : Mem) : XA :=
  vC (13, 157) M0 a0 <|
  cI (rec 255 [va_rf a0, .int a1] M0) fun x2 M1 =>
  jn (fun (s3 : Mem) =>
    some (.int ((-1 : Int32)), s3)) fun j35 =>
  if x2 = 0 then (
    j35 M1) else (
    gtP (13, 157) M1 a0 25 fun x4 =>
    alI 100 M1 x4 a1 fun x5 =>
    cI (rec 184 [.int a2, .int ((0 : Int32)), .int (x5 - ((1 : Int32)))] M1) fun x7 M6 =>
    if x7 = 0 then (
      j35 M6) else (
      cI (rec 184 [.int a3, .int ((1 : Int32)), .int ((200 : Int32))] M6) fun x9 M8 =>
      if x9 = 0 then (
        j35 M8) else (
        gtP (13, 157) M8 a0 27 fun x10 =>
        alI 100 M8 x10 ((((6 : Int32)) * a1) + a2) fun x11 =>
        ptI (13, 157) M8 a0 83 ((20000 : Int32)) fun M12 =>
        ptZ (13, 157) M12 a0 84 ((0 : Int32)) fun M13 =>
        ptI (13, 157) M13 a0 136 ((0 : Int32)) fun M14 =>
        gtI (13, 157) M14 a0 78 fun x15 =>
        jn (fun (s16 : Int32 × Mem) =>
          gtI (13, 157) s16.2 a0 88 fun x17 =>
          jn (fun (s18 : Int32) =>
            jn (fun (s19 : Int32 × Mem) =>
              gtI (13, 157) s19.2 a0 84 fun x20 =>
              if x20 = 0 then (
                ptZ (13, 157) s19.2 a0 129 ((1 : Int32)) fun M21 =>
                ptZ (13, 157) M21 a0 130 s16.1 fun M22 =>
                ptI (13, 157) M22 a0 131 x11 fun M23 =>
                gtI (13, 157) M23 a0 136 fun x24 =>
                ptI (13, 157) M23 a0 132 x24 fun M25 =>
                jn (fun (s26 : Int32) =>
                  ptI (13, 157) M25 a0 133 s26 fun M27 =>
                  jn (fun (s28 : Mem) =>
                    cI (rec 245 [.int s16.1] s28) fun x30 M29 =>
                    some (.int x30, M29)) fun j425 =>
                  lp (c289_398 rec a0 j425 x11) 4294967296 ((0 : Int32), M27)) fun j392 =>
                if s16.1 = 0 then (
                  j392 s19.1) else (
                  j392 ((0 : Int32)))) else (
                ptZ (13, 157) s19.2 a0 84 ((0 : Int32)) fun M37 =>
                some (.int ((-4 : Int32)), M37))) fun j340 =>
            lp (c289_189 rec a0 a1 a2 j340 x11) 4294967296 (x17, s18, s16.2)) fun j187 =>
          if s16.1 = 0 then (
            j187 ((1 : Int32))) else (
            j187 ((0 : Int32)))) fun j171 =>
        lp (c289_79 rec a0 a1 a2 a3 j171 x11) 4294967296 (x15, (1 : Int32), (0 : Int32), M14))))
def b289 (rec : Nat → List Value → Mem → XA) (as : List Value) (M0 : Mem) : XA := aR as fun a0 as => aI as fun a1 as => aI as fun a2 as => aI as fun a3 as => aZ as (c289 rec a0 a1 a2 a3 M0)
set_option maxRecDepth 100000 in
set_option maxHeartbeats 4000000 in
theorem k289 {S : XS} {G : XG} {K : Nat × Nat} {l : Launch} {d : Nat} {rec : Nat → List Value → Mem → XA} (hs : XSnd l xmt rec d) (a0 : Option Nat) (a1 : Int32) (a2 : Int32) (a3 : Int32) (M0 : Mem) : Xe S G K l (yX12_property, cX12_property, 13, some .int) d 0 [some (va_rf a0), some (.int a1), some (.int a2), some (.int a3), none, none, none, none, none, none, none, none, none] [] M0 (c289 rec a0 a1 a2 a3 M0) := by
  unfold c289
  refine x_aload_n dX12_property_0 rfl ?_
  refine x_iload_n dX12_property_1 rfl ?_
  refine cmX12_735 rfl hs (Nat.le_of_ble_eq_true rfl) dX12_property_2 (fun x2 M1 => ?_)
  refine x_jn (σ := Mem) 35 (fun s3 => [none, none, none, none, none, none, none, none, none, none, none, none, none]) (fun s3 => []) (fun s3 => s3) (fun s3 => ?_) (fun j35 hj35 => ?_)
  · refine x_iconst (v := -1) dX12_property_35 (by decide) ?_
    exact x_iret rfl dX12_property_36
  refine x_if_eq (tgt := 35) dX12_property_5 (by decide) (fun _ => ?_) (fun _ => ?_)
  · exact x_weak (by exact trivial) (hj35 M1)
  · refine x_iload_n dX12_property_8 rfl ?_
    refine x_iconst (v := 0) dX12_property_9 (by decide) ?_
    refine x_aload_n dX12_property_10 rfl ?_
    refine gfX12_82 rfl dX12_property_11 (fun x4 => ?_)
    refine x_iload_n dX12_property_14 rfl ?_
    refine x_iald dX12_property_15 (fun x5 => ?_)
    refine x_iconst (v := 1) dX12_property_16 (by decide) ?_
    refine x_isub dX12_property_17 ?_
    refine cmX12_381 rfl hs (Nat.le_of_ble_eq_true rfl) dX12_property_18 (fun x7 M6 => ?_)
    refine x_if_eq (tgt := 35) dX12_property_21 (by decide) (fun _ => ?_) (fun _ => ?_)
    · exact x_weak (by exact trivial) (hj35 M6)
    · refine x_iload_n dX12_property_24 rfl ?_
      refine x_iconst (v := 1) dX12_property_25 (by decide) ?_
      refine x_sipush (v := 200) dX12_property_26 (by decide) ?_
      refine cmX12_381 rfl hs (Nat.le_of_ble_eq_true rfl) dX12_property_29 (fun x9 M8 => ?_)
      refine x_if_ne (tgt := 37) dX12_property_32 (by decide) (fun _ => ?_) (fun _ => ?_)
      · exact x_weak (by exact trivial) (hj35 M8)
      · refine x_aload_n dX12_property_37 rfl ?_
        refine gfX12_88 rfl dX12_property_38 (fun x10 => ?_)
        refine x_bipush (v := 6) dX12_property_41 (by decide) ?_
        refine x_iload_n dX12_property_43 rfl ?_
        refine x_imul dX12_property_44 ?_
        refine x_iload_n dX12_property_45 rfl ?_
        refine x_iadd dX12_property_46 ?_
        refine x_iald dX12_property_47 (fun x11 => ?_)
        refine x_istore (lo' := [some (va_rf a0), some (.int a1), some (.int a2), some (.int a3), some (.int x11), none, none, none, none, none, none, none, none]) dX12_property_48 (by decide) rfl rfl ?_
        refine x_aload_n dX12_property_50 rfl ?_
        refine x_sipush (v := 20000) dX12_property_51 (by decide) ?_
        refine pfX12_644 rfl dX12_property_54 (fun M12 => ?_)
        refine x_aload_n dX12_property_57 rfl ?_
        refine x_iconst (v := 0) dX12_property_58 (by decide) ?_
        refine pfX12_647 rfl dX12_property_59 (fun M13 => ?_)
        refine x_aload_n dX12_property_62 rfl ?_
        refine x_iconst (v := 0) dX12_property_63 (by decide) ?_
        refine pfX12_784 rfl dX12_property_64 (fun M14 => ?_)
        refine x_aload_n dX12_property_67 rfl ?_
        refine gfX12_243 rfl dX12_property_68 (fun x15 => ?_)
        refine x_istore (lo' := [some (va_rf a0), some (.int a1), some (.int a2), some (.int a3), some (.int x11), some (.int x15), none, none, none, none, none, none, none]) dX12_property_71 (by decide) rfl rfl ?_
        refine x_iconst (v := 1) dX12_property_73 (by decide) ?_
        refine x_istore (lo' := [some (va_rf a0), some (.int a1), some (.int a2), some (.int a3), some (.int x11), some (.int x15), some (.int ((1 : Int32))), none, none, none, none, none, none]) dX12_property_74 (by decide) rfl rfl ?_
        refine x_iconst (v := 0) dX12_property_76 (by decide) ?_
        refine x_istore (lo' := [some (va_rf a0), some (.int a1), some (.int a2), some (.int a3), some (.int x11), some (.int x15), some (.int ((1 : Int32))), some (.int ((0 : Int32))), none, none, none, none, none]) dX12_property_77 (by decide) rfl rfl ?_
        refine x_jn (σ := Int32 × Mem) 171 (fun s16 => [some (va_rf a0), some (.int a1), some (.int a2), none, some (.int x11), none, some (.int s16.1), none, none, none, none, none, none]) (fun s16 => []) (fun s16 => s16.2) (fun s16 => ?_) (fun j171 hj171 => ?_)
        · refine x_aload_n dX12_property_171 rfl ?_
          refine gfX12_613 rfl dX12_property_172 (fun x17 => ?_)
          refine x_istore (lo' := [some (va_rf a0), some (.int a1), some (.int a2), none, some (.int x11), none, some (.int s16.1), some (.int x17), none, none, none, none, none]) dX12_property_175 (by decide) rfl rfl ?_
          refine x_iload dX12_property_177 rfl ?_
          refine x_jn (σ := Int32) 187 (fun s18 => [some (va_rf a0), some (.int a1), some (.int a2), none, some (.int x11), none, some (.int s16.1), some (.int x17), none, none, none, none, none]) (fun s18 => [.int s18]) (fun s18 => s16.2) (fun s18 => ?_) (fun j187 hj187 => ?_)
          · refine x_istore (lo' := [some (va_rf a0), some (.int a1), some (.int a2), none, some (.int x11), none, some (.int s16.1), some (.int x17), some (.int s18), none, none, none, none]) dX12_property_187 (by decide) rfl rfl ?_
            refine x_jn (σ := Int32 × Mem) 340 (fun s19 => [some (va_rf a0), none, none, none, some (.int x11), none, some (.int s16.1), some (.int s19.1), none, none, none, none, none]) (fun s19 => []) (fun s19 => s19.2) (fun s19 => ?_) (fun j340 hj340 => ?_)
            · refine x_aload_n dX12_property_340 rfl ?_
              refine gfX12_647 rfl dX12_property_341 (fun x20 => ?_)
              refine x_if_eq (tgt := 355) dX12_property_344 (by decide) (fun _ => ?_) (fun _ => ?_)
              · refine x_aload_n dX12_property_355 rfl ?_
                refine x_iconst (v := 1) dX12_property_356 (by decide) ?_
                refine pfX12_801 rfl dX12_property_357 (fun M21 => ?_)
                refine x_aload_n dX12_property_360 rfl ?_
                refine x_iload dX12_property_361 rfl ?_
                refine pfX12_804 rfl dX12_property_363 (fun M22 => ?_)
                refine x_aload_n dX12_property_366 rfl ?_
                refine x_iload dX12_property_367 rfl ?_
                refine pfX12_807 rfl dX12_property_369 (fun M23 => ?_)
                refine x_aload_n dX12_property_372 rfl ?_
                refine x_aload_n dX12_property_373 rfl ?_
                refine gfX12_784 rfl dX12_property_374 (fun x24 => ?_)
                refine pfX12_810 rfl dX12_property_377 (fun M25 => ?_)
                refine x_aload_n dX12_property_380 rfl ?_
                refine x_iload dX12_property_381 rfl ?_
                refine x_jn (σ := Int32) 392 (fun s26 => [some (va_rf a0), none, none, none, some (.int x11), none, some (.int s16.1), none, none, none, none, none, none]) (fun s26 => [.int s26, va_rf a0]) (fun s26 => M25) (fun s26 => ?_) (fun j392 hj392 => ?_)
                · refine pfX12_813 rfl dX12_property_392 (fun M27 => ?_)
                  refine x_iconst (v := 0) dX12_property_395 (by decide) ?_
                  refine x_istore (lo' := [some (va_rf a0), none, none, none, some (.int x11), none, some (.int s16.1), none, none, some (.int ((0 : Int32))), none, none, none]) dX12_property_396 (by decide) rfl rfl ?_
                  refine x_jn (σ := Mem) 425 (fun s28 => [none, none, none, none, none, none, some (.int s16.1), none, none, none, none, none, none]) (fun s28 => []) (fun s28 => s28) (fun s28 => ?_) (fun j425 hj425 => ?_)
                  · refine x_iload dX12_property_425 rfl ?_
                    refine cmX12_677 rfl hs (Nat.le_of_ble_eq_true rfl) dX12_property_427 (fun x30 M29 => ?_)
                    exact x_iret rfl dX12_property_430
                  refine x_weak (by exact ⟨rfl, ⟨rfl, ⟨rfl, ⟨rfl, trivial⟩⟩⟩⟩) (x_lp (σ := Int32 × Mem) 398 (fun s31 => [some (va_rf a0), none, none, none, some (.int x11), none, some (.int s16.1), none, none, some (.int s31.1), none, none, none]) (fun s31 => []) (fun s31 => s31.2) (fun s31 j398 hj398 => ?_) 4294967296 ((0 : Int32), M27))
                  · refine x_iload dX12_property_398 rfl ?_
                    refine x_iload dX12_property_400 rfl ?_
                    refine x_icmp_ge (tgt := 425) dX12_property_402 (by decide) (fun _ => ?_) (fun _ => ?_)
                    · exact x_weak (by exact ⟨rfl, trivial⟩) (hj425 s31.2)
                    · refine x_aload_n dX12_property_405 rfl ?_
                      refine gfX12_333 rfl dX12_property_406 (fun x32 => ?_)
                      refine x_iload dX12_property_409 rfl ?_
                      refine x_aload_n dX12_property_411 rfl ?_
                      refine gfX12_336 rfl dX12_property_412 (fun x33 => ?_)
                      refine x_iload dX12_property_415 rfl ?_
                      refine x_iald dX12_property_417 (fun x34 => ?_)
                      refine x_iast dX12_property_418 (fun M35 => ?_)
                      refine x_iincN (v := 1) (lo' := fun x36 => [some (va_rf a0), none, none, none, some (.int x11), none, some (.int s16.1), none, none, some (.int x36), none, none, none]) (by decide) dX12_property_419 rfl (by decide) rfl (fun _ => rfl) (fun x36 => ?_)
                      refine x_goto (tgt := 398) dX12_property_422 (by decide) ?_
                      exact x_weak (by exact ⟨rfl, ⟨rfl, ⟨rfl, ⟨rfl, trivial⟩⟩⟩⟩) (hj398 (x36, M35))
                refine x_if_eq (tgt := 390) dX12_property_383 (by decide) (fun _ => ?_) (fun _ => ?_)
                · refine x_iload dX12_property_390 rfl ?_
                  exact x_weak (by exact ⟨rfl, ⟨rfl, ⟨rfl, trivial⟩⟩⟩) (hj392 s19.1)
                · refine x_iconst (v := 0) dX12_property_386 (by decide) ?_
                  refine x_goto (tgt := 392) dX12_property_387 (by decide) ?_
                  exact x_weak (by exact ⟨rfl, ⟨rfl, ⟨rfl, trivial⟩⟩⟩) (hj392 ((0 : Int32)))
              · refine x_aload_n dX12_property_347 rfl ?_
                refine x_iconst (v := 0) dX12_property_348 (by decide) ?_
                refine pfX12_647 rfl dX12_property_349 (fun M37 => ?_)
                refine x_bipush (v := -4) dX12_property_352 (by decide) ?_
                exact x_iret rfl dX12_property_354
            refine x_weak (by exact ⟨rfl, ⟨rfl, ⟨rfl, ⟨rfl, ⟨rfl, ⟨rfl, ⟨rfl, trivial⟩⟩⟩⟩⟩⟩⟩) (x_lp (σ := Int32 × Int32 × Mem) 189 (fun s38 => [some (va_rf a0), some (.int a1), some (.int a2), none, some (.int x11), none, some (.int s16.1), some (.int s38.1), some (.int s38.2.1), none, none, none, none]) (fun s38 => []) (fun s38 => s38.2.2) (fun s38 j189 hj189 => ?_) 4294967296 (x17, s18, s16.2))
            · refine x_iload dX12_property_189 rfl ?_
              refine x_if_eq (tgt := 340) dX12_property_191 (by decide) (fun _ => ?_) (fun _ => ?_)
              · exact x_weak (by exact ⟨rfl, ⟨rfl, ⟨rfl, ⟨rfl, trivial⟩⟩⟩⟩) (hj340 (s38.1, s38.2.2))
              · refine x_aload_n dX12_property_194 rfl ?_
                refine gfX12_647 rfl dX12_property_195 (fun x39 => ?_)
                refine x_if_ne (tgt := 340) dX12_property_198 (by decide) (fun _ => ?_) (fun _ => ?_)
                · refine x_iconst (v := 0) dX12_property_201 (by decide) ?_
                  refine x_istore (lo' := [some (va_rf a0), some (.int a1), some (.int a2), none, some (.int x11), none, some (.int s16.1), some (.int s38.1), some (.int ((0 : Int32))), none, none, none, none]) dX12_property_202 (by decide) rfl rfl ?_
                  refine x_iconst (v := 0) dX12_property_204 (by decide) ?_
                  refine x_istore (lo' := [some (va_rf a0), some (.int a1), some (.int a2), none, some (.int x11), none, some (.int s16.1), some (.int s38.1), some (.int ((0 : Int32))), some (.int ((0 : Int32))), none, none, none]) dX12_property_205 (by decide) rfl rfl ?_
                  refine x_jn (σ := Int32 × Int32 × Mem) 337 (fun s40 => [some (va_rf a0), some (.int a1), some (.int a2), none, some (.int x11), none, some (.int s16.1), some (.int s40.1), some (.int s40.2.1), none, none, none, none]) (fun s40 => []) (fun s40 => s40.2.2) (fun s40 => ?_) (fun j337 hj337 => ?_)
                  · refine x_goto (tgt := 189) dX12_property_337 (by decide) ?_
                    exact x_weak (by exact ⟨rfl, ⟨rfl, ⟨rfl, ⟨rfl, ⟨rfl, ⟨rfl, ⟨rfl, trivial⟩⟩⟩⟩⟩⟩⟩) (hj189 (s40.1, s40.2.1, s40.2.2))
                  refine x_weak (by exact ⟨rfl, ⟨rfl, ⟨rfl, ⟨rfl, ⟨rfl, ⟨rfl, ⟨rfl, ⟨rfl, trivial⟩⟩⟩⟩⟩⟩⟩⟩) (x_lp (σ := Int32 × Int32 × Int32 × Mem) 207 (fun s41 => [some (va_rf a0), some (.int a1), some (.int a2), none, some (.int x11), none, some (.int s16.1), some (.int s41.1), some (.int s41.2.1), some (.int s41.2.2.1), none, none, none]) (fun s41 => []) (fun s41 => s41.2.2.2) (fun s41 j207 hj207 => ?_) 4294967296 (s38.1, (0 : Int32), (0 : Int32), s38.2.2))
                  · refine x_iload dX12_property_207 rfl ?_
                    refine x_iload dX12_property_209 rfl ?_
                    refine x_icmp_ge (tgt := 337) dX12_property_211 (by decide) (fun _ => ?_) (fun _ => ?_)
                    · exact x_weak (by exact ⟨rfl, ⟨rfl, ⟨rfl, ⟨rfl, ⟨rfl, ⟨rfl, ⟨rfl, trivial⟩⟩⟩⟩⟩⟩⟩) (hj337 (s41.1, s41.2.1, s41.2.2.2))
                    · refine x_iload dX12_property_214 rfl ?_
                      refine x_if_ne (tgt := 337) dX12_property_216 (by decide) (fun _ => ?_) (fun _ => ?_)
                      · refine x_aload_n dX12_property_219 rfl ?_
                        refine gfX12_336 rfl dX12_property_220 (fun x42 => ?_)
                        refine x_iload dX12_property_223 rfl ?_
                        refine x_iald dX12_property_225 (fun x43 => ?_)
                        refine x_istore (lo' := [some (va_rf a0), some (.int a1), some (.int a2), none, some (.int x11), none, some (.int s16.1), some (.int s41.1), some (.int s41.2.1), some (.int s41.2.2.1), some (.int x43), none, none]) dX12_property_226 (by decide) rfl rfl ?_
                        refine x_iconst (v := 1) dX12_property_228 (by decide) ?_
                        refine x_istore (lo' := [some (va_rf a0), some (.int a1), some (.int a2), none, some (.int x11), none, some (.int s16.1), some (.int s41.1), some (.int s41.2.1), some (.int s41.2.2.1), some (.int x43), some (.int ((1 : Int32))), none]) dX12_property_229 (by decide) rfl rfl ?_
                        refine x_iconst (v := 0) dX12_property_231 (by decide) ?_
                        refine x_istore (lo' := [some (va_rf a0), some (.int a1), some (.int a2), none, some (.int x11), none, some (.int s16.1), some (.int s41.1), some (.int s41.2.1), some (.int s41.2.2.1), some (.int x43), some (.int ((1 : Int32))), some (.int ((0 : Int32)))]) dX12_property_232 (by decide) rfl rfl ?_
                        refine x_jn (σ := Int32 × Int32 × Mem) 307 (fun s44 => [some (va_rf a0), some (.int a1), some (.int a2), none, some (.int x11), none, some (.int s16.1), some (.int s44.1), some (.int s44.2.1), some (.int s41.2.2.1), some (.int x43), none, none]) (fun s44 => []) (fun s44 => s44.2.2) (fun s44 => ?_) (fun j307 hj307 => ?_)
                        · refine x_aload_n dX12_property_307 rfl ?_
                          refine gfX12_336 rfl dX12_property_308 (fun x45 => ?_)
                          refine x_iload dX12_property_311 rfl ?_
                          refine x_iload dX12_property_313 rfl ?_
                          refine x_jn (σ := Int32) 330 (fun s46 => [some (va_rf a0), some (.int a1), some (.int a2), none, some (.int x11), none, some (.int s16.1), some (.int s44.1), some (.int s44.2.1), some (.int s41.2.2.1), none, none, none]) (fun s46 => [.int s46, .int s41.2.2.1, va_rf x45]) (fun s46 => s44.2.2) (fun s46 => ?_) (fun j330 hj330 => ?_)
                          · refine x_iast dX12_property_330 (fun M47 => ?_)
                            refine x_iincN (v := 1) (lo' := fun x48 => [some (va_rf a0), some (.int a1), some (.int a2), none, some (.int x11), none, some (.int s16.1), some (.int s44.1), some (.int s44.2.1), some (.int x48), none, none, none]) (by decide) dX12_property_331 rfl (by decide) rfl (fun _ => rfl) (fun x48 => ?_)
                            refine x_goto (tgt := 207) dX12_property_334 (by decide) ?_
                            exact x_weak (by exact ⟨rfl, ⟨rfl, ⟨rfl, ⟨rfl, ⟨rfl, ⟨rfl, ⟨rfl, ⟨rfl, trivial⟩⟩⟩⟩⟩⟩⟩⟩) (hj207 (s44.1, s44.2.1, x48, M47))
                          refine x_if_eq (tgt := 328) dX12_property_315 (by decide) (fun _ => ?_) (fun _ => ?_)
                          · refine x_iload dX12_property_328 rfl ?_
                            exact x_weak (by exact ⟨rfl, ⟨rfl, ⟨rfl, ⟨rfl, ⟨rfl, ⟨rfl, ⟨rfl, ⟨rfl, trivial⟩⟩⟩⟩⟩⟩⟩⟩) (hj330 x43)
                          · refine x_aload_n dX12_property_318 rfl ?_
                            refine gfX12_336 rfl dX12_property_319 (fun x49 => ?_)
                            refine x_iload dX12_property_322 rfl ?_
                            refine x_iald dX12_property_324 (fun x50 => ?_)
                            refine x_goto (tgt := 330) dX12_property_325 (by decide) ?_
                            exact x_weak (by exact ⟨rfl, ⟨rfl, ⟨rfl, ⟨rfl, ⟨rfl, ⟨rfl, ⟨rfl, ⟨rfl, trivial⟩⟩⟩⟩⟩⟩⟩⟩) (hj330 x50)
                        refine x_weak (by exact ⟨rfl, ⟨rfl, ⟨rfl, ⟨rfl, ⟨rfl, ⟨rfl, ⟨rfl, ⟨rfl, ⟨rfl, ⟨rfl, ⟨rfl, trivial⟩⟩⟩⟩⟩⟩⟩⟩⟩⟩⟩) (x_lp (σ := Int32 × Int32 × Int32 × Int32 × Mem) 234 (fun s51 => [some (va_rf a0), some (.int a1), some (.int a2), none, some (.int x11), none, some (.int s16.1), some (.int s51.1), some (.int s51.2.1), some (.int s41.2.2.1), some (.int x43), some (.int s51.2.2.1), some (.int s51.2.2.2.1)]) (fun s51 => []) (fun s51 => s51.2.2.2.2) (fun s51 j234 hj234 => ?_) 4294967296 (s41.1, s41.2.1, (1 : Int32), (0 : Int32), s41.2.2.2))
                        · refine x_iload dX12_property_234 rfl ?_
                          refine x_if_eq (tgt := 307) dX12_property_236 (by decide) (fun _ => ?_) (fun _ => ?_)
                          · exact x_weak (by exact ⟨rfl, ⟨rfl, ⟨rfl, ⟨rfl, ⟨rfl, ⟨rfl, ⟨rfl, ⟨rfl, ⟨rfl, trivial⟩⟩⟩⟩⟩⟩⟩⟩⟩) (hj307 (s51.1, s51.2.1, s51.2.2.2.2))
                          · refine x_iload dX12_property_239 rfl ?_
                            refine x_if_ne (tgt := 307) dX12_property_241 (by decide) (fun _ => ?_) (fun _ => ?_)
                            · refine x_aload_n dX12_property_244 rfl ?_
                              refine gfX12_647 rfl dX12_property_245 (fun x52 => ?_)
                              refine x_if_ne (tgt := 307) dX12_property_248 (by decide) (fun _ => ?_) (fun _ => ?_)
                              · refine x_aload_n dX12_property_251 rfl ?_
                                refine x_iload dX12_property_252 rfl ?_
                                refine x_iload dX12_property_254 rfl ?_
                                refine cmX12_795 rfl hs (Nat.le_of_ble_eq_true rfl) dX12_property_256 (fun x54 M53 => ?_)
                                refine x_istore (lo' := [some (va_rf a0), some (.int a1), some (.int a2), none, some (.int x11), none, some (.int s16.1), some (.int s51.1), some (.int s51.2.1), some (.int s41.2.2.1), some (.int x43), some (.int x54), some (.int s51.2.2.2.1)]) dX12_property_259 (by decide) rfl rfl ?_
                                refine x_iload dX12_property_261 rfl ?_
                                refine x_jn (σ := Int32 × Int32 × Mem) 301 (fun s55 => [some (va_rf a0), some (.int a1), some (.int a2), none, some (.int x11), none, some (.int s16.1), some (.int s55.1), some (.int s55.2.1), some (.int s41.2.2.1), some (.int x43), some (.int x54), some (.int s51.2.2.2.1)]) (fun s55 => []) (fun s55 => s55.2.2) (fun s55 => ?_) (fun j301 hj301 => ?_)
                                · refine x_iincN (v := 1) (lo' := fun x56 => [some (va_rf a0), some (.int a1), some (.int a2), none, some (.int x11), none, some (.int s16.1), some (.int s55.1), some (.int s55.2.1), some (.int s41.2.2.1), some (.int x43), some (.int x54), some (.int x56)]) (by decide) dX12_property_301 rfl (by decide) rfl (fun _ => rfl) (fun x56 => ?_)
                                  refine x_goto (tgt := 234) dX12_property_304 (by decide) ?_
                                  exact x_weak (by exact ⟨rfl, ⟨rfl, ⟨rfl, ⟨rfl, ⟨rfl, ⟨rfl, ⟨rfl, ⟨rfl, ⟨rfl, ⟨rfl, ⟨rfl, trivial⟩⟩⟩⟩⟩⟩⟩⟩⟩⟩⟩) (hj234 (s55.1, s55.2.1, x54, x56, s55.2.2))
                                refine x_if_eq (tgt := 301) dX12_property_263 (by decide) (fun _ => ?_) (fun _ => ?_)
                                · exact x_weak (by exact ⟨rfl, ⟨rfl, ⟨rfl, ⟨rfl, ⟨rfl, ⟨rfl, ⟨rfl, ⟨rfl, ⟨rfl, ⟨rfl, ⟨rfl, trivial⟩⟩⟩⟩⟩⟩⟩⟩⟩⟩⟩) (hj301 (s51.1, s51.2.1, M53))
                                · refine x_aload_n dX12_property_266 rfl ?_
                                  refine gfX12_336 rfl dX12_property_267 (fun x57 => ?_)
                                  refine x_iload dX12_property_270 rfl ?_
                                  refine x_aload_n dX12_property_272 rfl ?_
                                  refine gfX12_798 rfl dX12_property_273 (fun x58 => ?_)
                                  refine x_iast dX12_property_276 (fun M59 => ?_)
                                  refine x_aload_n dX12_property_277 rfl ?_
                                  refine x_iload_n dX12_property_278 rfl ?_
                                  refine x_iload_n dX12_property_279 rfl ?_
                                  refine cmX12_792 rfl hs (Nat.le_of_ble_eq_true rfl) dX12_property_280 (fun x61 M60 => ?_)
                                  refine x_istore (lo' := [some (va_rf a0), some (.int a1), some (.int a2), none, some (.int x11), none, some (.int s16.1), some (.int s51.1), some (.int x61), some (.int s41.2.2.1), some (.int x43), some (.int x54), some (.int s51.2.2.2.1)]) dX12_property_283 (by decide) rfl rfl ?_
                                  refine x_iload dX12_property_285 rfl ?_
                                  refine x_jn (σ := Int32) 299 (fun s62 => [some (va_rf a0), some (.int a1), some (.int a2), none, some (.int x11), none, some (.int s16.1), none, some (.int x61), some (.int s41.2.2.1), some (.int x43), some (.int x54), some (.int s51.2.2.2.1)]) (fun s62 => [.int s62]) (fun s62 => M60) (fun s62 => ?_) (fun j299 hj299 => ?_)
                                  · refine x_istore (lo' := [some (va_rf a0), some (.int a1), some (.int a2), none, some (.int x11), none, some (.int s16.1), some (.int s62), some (.int x61), some (.int s41.2.2.1), some (.int x43), some (.int x54), some (.int s51.2.2.2.1)]) dX12_property_299 (by decide) rfl rfl ?_
                                    exact x_weak (by exact ⟨rfl, ⟨rfl, ⟨rfl, ⟨rfl, ⟨rfl, ⟨rfl, ⟨rfl, ⟨rfl, ⟨rfl, ⟨rfl, ⟨rfl, trivial⟩⟩⟩⟩⟩⟩⟩⟩⟩⟩⟩) (hj301 (s62, x61, M60))
                                  refine x_if_eq (tgt := 297) dX12_property_287 (by decide) (fun _ => ?_) (fun _ => ?_)
                                  · refine x_iload dX12_property_297 rfl ?_
                                    exact x_weak (by exact ⟨rfl, ⟨rfl, ⟨rfl, ⟨rfl, ⟨rfl, ⟨rfl, ⟨rfl, ⟨rfl, ⟨rfl, ⟨rfl, trivial⟩⟩⟩⟩⟩⟩⟩⟩⟩⟩) (hj299 s51.1)
                                  · refine x_aload_n dX12_property_290 rfl ?_
                                    refine gfX12_613 rfl dX12_property_291 (fun x63 => ?_)
                                    refine x_goto (tgt := 299) dX12_property_294 (by decide) ?_
                                    exact x_weak (by exact ⟨rfl, ⟨rfl, ⟨rfl, ⟨rfl, ⟨rfl, ⟨rfl, ⟨rfl, ⟨rfl, ⟨rfl, ⟨rfl, trivial⟩⟩⟩⟩⟩⟩⟩⟩⟩⟩) (hj299 x63)
                              · exact x_weak (by exact ⟨rfl, ⟨rfl, ⟨rfl, ⟨rfl, ⟨rfl, ⟨rfl, ⟨rfl, ⟨rfl, ⟨rfl, trivial⟩⟩⟩⟩⟩⟩⟩⟩⟩) (hj307 (s51.1, s51.2.1, s51.2.2.2.2))
                            · exact x_weak (by exact ⟨rfl, ⟨rfl, ⟨rfl, ⟨rfl, ⟨rfl, ⟨rfl, ⟨rfl, ⟨rfl, ⟨rfl, trivial⟩⟩⟩⟩⟩⟩⟩⟩⟩) (hj307 (s51.1, s51.2.1, s51.2.2.2.2))
                      · exact x_weak (by exact ⟨rfl, ⟨rfl, ⟨rfl, ⟨rfl, ⟨rfl, ⟨rfl, ⟨rfl, trivial⟩⟩⟩⟩⟩⟩⟩) (hj337 (s41.1, s41.2.1, s41.2.2.2))
                · exact x_weak (by exact ⟨rfl, ⟨rfl, ⟨rfl, ⟨rfl, trivial⟩⟩⟩⟩) (hj340 (s38.1, s38.2.2))
          refine x_if_ne (tgt := 186) dX12_property_179 (by decide) (fun _ => ?_) (fun _ => ?_)
          · refine x_iconst (v := 1) dX12_property_182 (by decide) ?_
            refine x_goto (tgt := 187) dX12_property_183 (by decide) ?_
            exact x_weak (by exact ⟨rfl, ⟨rfl, ⟨rfl, ⟨rfl, ⟨rfl, ⟨rfl, trivial⟩⟩⟩⟩⟩⟩) (hj187 ((1 : Int32)))
          · refine x_iconst (v := 0) dX12_property_186 (by decide) ?_
            exact x_weak (by exact ⟨rfl, ⟨rfl, ⟨rfl, ⟨rfl, ⟨rfl, ⟨rfl, trivial⟩⟩⟩⟩⟩⟩) (hj187 ((0 : Int32)))
        refine x_weak (by exact ⟨rfl, ⟨rfl, ⟨rfl, ⟨rfl, ⟨rfl, ⟨rfl, ⟨rfl, ⟨rfl, trivial⟩⟩⟩⟩⟩⟩⟩⟩) (x_lp (σ := Int32 × Int32 × Int32 × Mem) 79 (fun s64 => [some (va_rf a0), some (.int a1), some (.int a2), some (.int a3), some (.int x11), some (.int s64.1), some (.int s64.2.1), some (.int s64.2.2.1), none, none, none, none, none]) (fun s64 => []) (fun s64 => s64.2.2.2) (fun s64 j79 hj79 => ?_) 4294967296 (x15, (1 : Int32), (0 : Int32), M14))
        · refine x_iload dX12_property_79 rfl ?_
          refine x_iload_n dX12_property_81 rfl ?_
          refine x_icmp_ge (tgt := 171) dX12_property_82 (by decide) (fun _ => ?_) (fun _ => ?_)
          · exact x_weak (by exact ⟨rfl, ⟨rfl, ⟨rfl, ⟨rfl, ⟨rfl, trivial⟩⟩⟩⟩⟩) (hj171 (s64.2.1, s64.2.2.2))
          · refine x_iload dX12_property_85 rfl ?_
            refine x_if_eq (tgt := 171) dX12_property_87 (by decide) (fun _ => ?_) (fun _ => ?_)
            · exact x_weak (by exact ⟨rfl, ⟨rfl, ⟨rfl, ⟨rfl, ⟨rfl, trivial⟩⟩⟩⟩⟩) (hj171 (s64.2.1, s64.2.2.2))
            · refine x_iload dX12_property_90 rfl ?_
              refine x_bipush (v := 60) dX12_property_92 (by decide) ?_
              refine x_mmin lk_methodLink_X12_787 w_mmin1 w_mi w_mmin2 (Nat.le_of_ble_eq_true rfl) dX12_property_94 (fun x65 => ?_)
              refine x_istore (lo' := [some (va_rf a0), some (.int a1), some (.int a2), some (.int a3), some (.int x11), some (.int s64.1), some (.int s64.2.1), some (.int s64.2.2.1), some (.int x65), none, none, none, none]) dX12_property_97 (by decide) rfl rfl ?_
              refine x_iconst (v := 0) dX12_property_99 (by decide) ?_
              refine x_istore (lo' := [some (va_rf a0), some (.int a1), some (.int a2), some (.int a3), some (.int x11), some (.int s64.1), some (.int s64.2.1), some (.int s64.2.2.1), some (.int x65), some (.int ((0 : Int32))), none, none, none]) dX12_property_100 (by decide) rfl rfl ?_
              refine x_jn (σ := Int32 × Mem) 149 (fun s66 => [some (va_rf a0), some (.int a1), some (.int a2), some (.int a3), some (.int x11), some (.int s66.1), none, some (.int s64.2.2.1), none, none, none, none, none]) (fun s66 => []) (fun s66 => s66.2) (fun s66 => ?_) (fun j149 hj149 => ?_)
              · refine x_aload_n dX12_property_149 rfl ?_
                refine x_iload_n dX12_property_150 rfl ?_
                refine x_iload_n dX12_property_151 rfl ?_
                refine cmX12_792 rfl hs (Nat.le_of_ble_eq_true rfl) dX12_property_152 (fun x68 M67 => ?_)
                refine x_jn (σ := Int32) 163 (fun s69 => [some (va_rf a0), some (.int a1), some (.int a2), some (.int a3), some (.int x11), some (.int s66.1), none, some (.int s64.2.2.1), none, none, none, none, none]) (fun s69 => [.int s69]) (fun s69 => M67) (fun s69 => ?_) (fun j163 hj163 => ?_)
                · refine x_istore (lo' := [some (va_rf a0), some (.int a1), some (.int a2), some (.int a3), some (.int x11), some (.int s66.1), some (.int s69), some (.int s64.2.2.1), none, none, none, none, none]) dX12_property_163 (by decide) rfl rfl ?_
                  refine x_iincN (v := 1) (lo' := fun x70 => [some (va_rf a0), some (.int a1), some (.int a2), some (.int a3), some (.int x11), some (.int s66.1), some (.int s69), some (.int x70), none, none, none, none, none]) (by decide) dX12_property_165 rfl (by decide) rfl (fun _ => rfl) (fun x70 => ?_)
                  refine x_goto (tgt := 79) dX12_property_168 (by decide) ?_
                  exact x_weak (by exact ⟨rfl, ⟨rfl, ⟨rfl, ⟨rfl, ⟨rfl, ⟨rfl, ⟨rfl, ⟨rfl, trivial⟩⟩⟩⟩⟩⟩⟩⟩) (hj79 (s66.1, s69, x70, M67))
                refine x_if_ne (tgt := 162) dX12_property_155 (by decide) (fun _ => ?_) (fun _ => ?_)
                · refine x_iconst (v := 1) dX12_property_158 (by decide) ?_
                  refine x_goto (tgt := 163) dX12_property_159 (by decide) ?_
                  exact x_weak (by exact ⟨rfl, ⟨rfl, ⟨rfl, ⟨rfl, ⟨rfl, ⟨rfl, ⟨rfl, trivial⟩⟩⟩⟩⟩⟩⟩) (hj163 ((1 : Int32)))
                · refine x_iconst (v := 0) dX12_property_162 (by decide) ?_
                  exact x_weak (by exact ⟨rfl, ⟨rfl, ⟨rfl, ⟨rfl, ⟨rfl, ⟨rfl, ⟨rfl, trivial⟩⟩⟩⟩⟩⟩⟩) (hj163 ((0 : Int32)))
              refine x_weak (by exact ⟨rfl, ⟨rfl, ⟨rfl, ⟨rfl, ⟨rfl, ⟨rfl, ⟨rfl, ⟨rfl, ⟨rfl, trivial⟩⟩⟩⟩⟩⟩⟩⟩⟩) (x_lp (σ := Int32 × Int32 × Mem) 102 (fun s71 => [some (va_rf a0), some (.int a1), some (.int a2), some (.int a3), some (.int x11), some (.int s71.1), none, some (.int s64.2.2.1), some (.int x65), some (.int s71.2.1), none, none, none]) (fun s71 => []) (fun s71 => s71.2.2) (fun s71 j102 hj102 => ?_) 4294967296 (s64.1, (0 : Int32), s64.2.2.2))
              · refine x_iload dX12_property_102 rfl ?_
                refine x_iload dX12_property_104 rfl ?_
                refine x_icmp_ge (tgt := 149) dX12_property_106 (by decide) (fun _ => ?_) (fun _ => ?_)
                · exact x_weak (by exact ⟨rfl, ⟨rfl, ⟨rfl, ⟨rfl, ⟨rfl, ⟨rfl, ⟨rfl, trivial⟩⟩⟩⟩⟩⟩⟩) (hj149 (s71.1, s71.2.2))
                · refine x_iload dX12_property_109 rfl ?_
                  refine x_ldcw (v := 1103515245) dX12_property_111 lk_constant_X12_694 ?_
                  refine x_imul dX12_property_114 ?_
                  refine x_sipush (v := 12345) dX12_property_115 (by decide) ?_
                  refine x_iadd dX12_property_118 ?_
                  refine x_ltI (fun x72 => ?_)
                  refine x_istore (lo' := [some (va_rf a0), some (.int a1), some (.int a2), some (.int a3), some (.int x11), some (.int x72), none, some (.int s64.2.2.1), some (.int x65), some (.int s71.2.1), none, none, none]) dX12_property_119 (by decide) rfl rfl ?_
                  refine x_aload_n dX12_property_121 rfl ?_
                  refine gfX12_336 rfl dX12_property_122 (fun x73 => ?_)
                  refine x_iload dX12_property_125 rfl ?_
                  refine x_iload dX12_property_127 rfl ?_
                  refine x_bipush (v := 16) dX12_property_129 (by decide) ?_
                  refine x_iushr dX12_property_131 ?_
                  refine x_iconst (v := 2) dX12_property_132 (by decide) ?_
                  refine x_iload dX12_property_133 rfl ?_
                  refine x_imul dX12_property_135 ?_
                  refine x_iconst (v := 1) dX12_property_136 (by decide) ?_
                  refine x_iadd dX12_property_137 ?_
                  refine x_irem dX12_property_138 (fun _ => ?_)
                  refine x_iload dX12_property_139 rfl ?_
                  refine x_isub dX12_property_141 ?_
                  refine x_iast dX12_property_142 (fun M74 => ?_)
                  refine x_iincN (v := 1) (lo' := fun x75 => [some (va_rf a0), some (.int a1), some (.int a2), some (.int a3), some (.int x11), some (.int x72), none, some (.int s64.2.2.1), some (.int x65), some (.int x75), none, none, none]) (by decide) dX12_property_143 rfl (by decide) rfl (fun _ => rfl) (fun x75 => ?_)
                  refine x_goto (tgt := 102) dX12_property_146 (by decide) ?_
                  exact x_weak (by exact ⟨rfl, ⟨rfl, ⟨rfl, ⟨rfl, ⟨rfl, ⟨rfl, ⟨rfl, ⟨rfl, ⟨rfl, trivial⟩⟩⟩⟩⟩⟩⟩⟩⟩) (hj102 (x72, x75, M74))
theorem s289 {l : Launch} {d : Nat} {rec : Nat → List Value → Mem → XA} (hS : Nonempty XS) (hs : XSnd l xmt rec d) : Snd1 l 289 (b289 rec) d := by
  intro as M r M' h0
  unfold b289 at h0
  obtain ⟨a0, l1, e1, h1⟩ := aR_inv h0
  obtain ⟨a1, l2, e2, h2⟩ := aI_inv h1
  obtain ⟨a2, l3, e3, h3⟩ := aI_inv h2
  obtain ⟨a3, l4, e4, h4⟩ := aI_inv h3
  obtain ⟨ez, h⟩ := aZ_inv h4
  subst ez
  subst e4
  subst e3
  subst e2
  subst e1
  exact xmet (M := M) (as := [va_rf a0, .int a1, .int a2, .int a3]) (lo := [some (va_rf a0), some (.int a1), some (.int a2), some (.int a3)]) 289 xq289 xm289 (by rw [xargs_rf, xargs_i, xargs_i, xargs_i, xargs_nil]; exact ⟨rfl, ⟨rfl, ⟨rfl, ⟨rfl, trivial⟩⟩⟩⟩) (by rw [xargs_rf, xargs_i, xargs_i, xargs_i, xargs_nil]; exact Nat.le_of_ble_eq_true rfl) (fun S G K => x_weak (by exact ⟨rfl, ⟨rfl, ⟨rfl, ⟨rfl, trivial⟩⟩⟩⟩) (k289 hs a0 a1 a2 a3 M)) h hS
set_option maxRecDepth 100000 in
def c290 (rec : Nat → List Value → Mem → XA) (a0 : Option Nat) (a1 : Int32) (M0 : Mem) : XA :=
  gtI (13, 157) M0 a0 129 fun x1 =>
  jn (fun (s2 : Unit) =>
    some (.int ((-1 : Int32)), M0)) fun j13 =>
  if x1 = 0 then (
    j13 ()) else (
    if ((-2 : Int32)) ≤ a1 then (
      if 0 ≤ a1 then (
        gtI (13, 157) M0 a0 130 fun x3 =>
        jn (fun (s4 : Int32) =>
          some (.int s4, M0)) fun j61 =>
        jn (fun (s5 : Unit) =>
          j61 ((-1 : Int32))) fun j51 =>
        if x3 = 0 then (
          gtI (13, 157) M0 a0 131 fun x6 =>
          if a1 < x6 then (
            gtP (13, 157) M0 a0 134 fun x7 =>
            alI 100 M0 x7 a1 fun x8 =>
            j61 x8) else (
            j51 ())) else (
          j51 ())) else (
        jn (fun (s9 : Int32) =>
          some (.int s9, M0)) fun j35 =>
        if a1 = ((-1 : Int32)) then (
          gtI (13, 157) M0 a0 133 fun x10 =>
          j35 x10) else (
          gtI (13, 157) M0 a0 132 fun x11 =>
          j35 x11))) else (
      j13 ()))
def b290 (rec : Nat → List Value → Mem → XA) (as : List Value) (M0 : Mem) : XA := aR as fun a0 as => aI as fun a1 as => aZ as (c290 rec a0 a1 M0)
set_option maxRecDepth 100000 in
set_option maxHeartbeats 4000000 in
theorem k290 {S : XS} {G : XG} {K : Nat × Nat} {l : Launch} {d : Nat} {rec : Nat → List Value → Mem → XA} (hs : XSnd l xmt rec d) (a0 : Option Nat) (a1 : Int32) (M0 : Mem) : Xe S G K l (yX12_small, cX12_small, 2, some .int) d 0 [some (va_rf a0), some (.int a1)] [] M0 (c290 rec a0 a1 M0) := by
  unfold c290
  refine x_aload_n dX12_small_0 rfl ?_
  refine gfX12_801 rfl dX12_small_1 (fun x1 => ?_)
  refine x_jn (σ := Unit) 13 (fun s2 => [none, none]) (fun s2 => []) (fun s2 => M0) (fun s2 => ?_) (fun j13 hj13 => ?_)
  · refine x_iconst (v := -1) dX12_small_13 (by decide) ?_
    exact x_iret rfl dX12_small_14
  refine x_if_eq (tgt := 13) dX12_small_4 (by decide) (fun _ => ?_) (fun _ => ?_)
  · exact x_weak (by exact trivial) (hj13 ())
  · refine x_iload_n dX12_small_7 rfl ?_
    refine x_bipush (v := -2) dX12_small_8 (by decide) ?_
    refine x_icmp_ge (tgt := 15) dX12_small_10 (by decide) (fun _ => ?_) (fun _ => ?_)
    · refine x_iload_n dX12_small_15 rfl ?_
      refine x_if_ge (tgt := 36) dX12_small_16 (by decide) (fun _ => ?_) (fun _ => ?_)
      · refine x_aload_n dX12_small_36 rfl ?_
        refine gfX12_804 rfl dX12_small_37 (fun x3 => ?_)
        refine x_jn (σ := Int32) 61 (fun s4 => [none, none]) (fun s4 => [.int s4]) (fun s4 => M0) (fun s4 => ?_) (fun j61 hj61 => ?_)
        · exact x_iret rfl dX12_small_61
        refine x_jn (σ := Unit) 51 (fun s5 => [none, none]) (fun s5 => []) (fun s5 => M0) (fun s5 => ?_) (fun j51 hj51 => ?_)
        · refine x_iconst (v := -1) dX12_small_51 (by decide) ?_
          refine x_goto (tgt := 61) dX12_small_52 (by decide) ?_
          exact x_weak (by exact trivial) (hj61 ((-1 : Int32)))
        refine x_if_ne (tgt := 51) dX12_small_40 (by decide) (fun _ => ?_) (fun _ => ?_)
        · refine x_iload_n dX12_small_43 rfl ?_
          refine x_aload_n dX12_small_44 rfl ?_
          refine gfX12_807 rfl dX12_small_45 (fun x6 => ?_)
          refine x_icmp_lt (tgt := 55) dX12_small_48 (by decide) (fun _ => ?_) (fun _ => ?_)
          · refine x_aload_n dX12_small_55 rfl ?_
            refine gfX12_333 rfl dX12_small_56 (fun x7 => ?_)
            refine x_iload_n dX12_small_59 rfl ?_
            refine x_iald dX12_small_60 (fun x8 => ?_)
            exact x_weak (by exact trivial) (hj61 x8)
          · exact x_weak (by exact trivial) (hj51 ())
        · exact x_weak (by exact trivial) (hj51 ())
      · refine x_iload_n dX12_small_19 rfl ?_
        refine x_iconst (v := -1) dX12_small_20 (by decide) ?_
        refine x_jn (σ := Int32) 35 (fun s9 => [none, none]) (fun s9 => [.int s9]) (fun s9 => M0) (fun s9 => ?_) (fun j35 hj35 => ?_)
        · exact x_iret rfl dX12_small_35
        refine x_icmp_ne (tgt := 31) dX12_small_21 (by decide) (fun _ => ?_) (fun _ => ?_)
        · refine x_aload_n dX12_small_24 rfl ?_
          refine gfX12_813 rfl dX12_small_25 (fun x10 => ?_)
          refine x_goto (tgt := 35) dX12_small_28 (by decide) ?_
          exact x_weak (by exact trivial) (hj35 x10)
        · refine x_aload_n dX12_small_31 rfl ?_
          refine gfX12_810 rfl dX12_small_32 (fun x11 => ?_)
          exact x_weak (by exact trivial) (hj35 x11)
    · exact x_weak (by exact trivial) (hj13 ())
theorem s290 {l : Launch} {d : Nat} {rec : Nat → List Value → Mem → XA} (hS : Nonempty XS) (hs : XSnd l xmt rec d) : Snd1 l 290 (b290 rec) d := by
  intro as M r M' h0
  unfold b290 at h0
  obtain ⟨a0, l1, e1, h1⟩ := aR_inv h0
  obtain ⟨a1, l2, e2, h2⟩ := aI_inv h1
  obtain ⟨ez, h⟩ := aZ_inv h2
  subst ez
  subst e2
  subst e1
  exact xmet (M := M) (as := [va_rf a0, .int a1]) (lo := [some (va_rf a0), some (.int a1)]) 290 xq290 xm290 (by rw [xargs_rf, xargs_i, xargs_nil]; exact ⟨rfl, ⟨rfl, trivial⟩⟩) (by rw [xargs_rf, xargs_i, xargs_nil]; exact Nat.le_of_ble_eq_true rfl) (fun S G K => x_weak (by exact ⟨rfl, ⟨rfl, trivial⟩⟩) (k290 hs a0 a1 M)) h hS
set_option maxRecDepth 100000 in
def c291_50 (rec : Nat → List Value → Mem → XA) (j73 : Int32 → XA) (s4 : Int32 × Mem) : (Int32 × Int32) → ((Int32 × Int32) → XA) → XA := fun s8 j50 =>
  if s4.1 < s8.2 then (
    j73 s8.1) else (
    if s8.1 = 0 then (
      j73 s8.1) else (
      if ((2 : Int32)) = 0 then none else
      lt (s8.1 / ((2 : Int32))) fun (x9 : Int32) =>
      lt (s8.2 + (1 : Int32)) fun (x10 : Int32) =>
      j50 (x9, x10)))
set_option maxRecDepth 100000 in
def c291 (rec : Nat → List Value → Mem → XA) (a0 : Option Nat) (a1 : Int32) (a2 : Int32) (M0 : Mem) : XA :=
  jn (fun (s1 : Unit) =>
    rtZ ((0 : Int32)) M0) fun j8 =>
  if a1 = 0 then (
    j8 ()) else (
    if 0 ≤ a2 then (
      ptI (13, 157) M0 a0 137 ((0 : Int32)) fun M2 =>
      if a2 = 0 then (
        rtZ ((1 : Int32)) M2) else (
        lt (a2 - ((1 : Int32))) fun (x3 : Int32) =>
        jn (fun (s4 : Int32 × Mem) =>
          jn (fun (s5 : Int32) =>
            ptI (13, 157) s4.2 a0 137 (a1 - s5) fun M6 =>
            jn (fun (s7 : Int32) =>
              rtZ s7 M6) fun j91 =>
            if s5 = 0 then (
              j91 ((0 : Int32))) else (
              j91 ((1 : Int32)))) fun j73 =>
          lp (c291_50 rec j73 s4) 4294967296 (a1, (0 : Int32))) fun j44 =>
        if 0 ≤ a1 then (
          j44 (x3, M2)) else (
          ptI (13, 157) M2 a0 137 (-a1) fun M11 =>
          if x3 = 0 then (
            rtZ ((1 : Int32)) M11) else (
            lt (x3 + (-1 : Int32)) fun (x12 : Int32) =>
            j44 (x12, M11))))) else (
      j8 ()))
def b291 (rec : Nat → List Value → Mem → XA) (as : List Value) (M0 : Mem) : XA := aR as fun a0 as => aI as fun a1 as => aI as fun a2 as => aZ as (c291 rec a0 a1 a2 M0)
set_option maxRecDepth 100000 in
set_option maxHeartbeats 4000000 in
theorem k291 {S : XS} {G : XG} {K : Nat × Nat} {l : Launch} {d : Nat} {rec : Nat → List Value → Mem → XA} (hs : XSnd l xmt rec d) (a0 : Option Nat) (a1 : Int32) (a2 : Int32) (M0 : Mem) : Xe S G K l (yX12_isSmaller, cX12_isSmaller, 6, some .boolean) d 0 [some (va_rf a0), some (.int a1), some (.int a2), none, none, none] [] M0 (c291 rec a0 a1 a2 M0) := by
  unfold c291
  refine x_iload_n dX12_isSmaller_0 rfl ?_
  refine x_jn (σ := Unit) 8 (fun s1 => [none, none, none, none, none, none]) (fun s1 => []) (fun s1 => M0) (fun s1 => ?_) (fun j8 hj8 => ?_)
  · refine x_iconst (v := 0) dX12_isSmaller_8 (by decide) ?_
    exact x_zret rfl dX12_isSmaller_9
  refine x_if_eq (tgt := 8) dX12_isSmaller_1 (by decide) (fun _ => ?_) (fun _ => ?_)
  · exact x_weak (by exact trivial) (hj8 ())
  · refine x_iload_n dX12_isSmaller_4 rfl ?_
    refine x_if_ge (tgt := 10) dX12_isSmaller_5 (by decide) (fun _ => ?_) (fun _ => ?_)
    · refine x_aload_n dX12_isSmaller_10 rfl ?_
      refine x_iconst (v := 0) dX12_isSmaller_11 (by decide) ?_
      refine pfX12_798 rfl dX12_isSmaller_12 (fun M2 => ?_)
      refine x_iload_n dX12_isSmaller_15 rfl ?_
      refine x_if_ne (tgt := 21) dX12_isSmaller_16 (by decide) (fun _ => ?_) (fun _ => ?_)
      · refine x_iconst (v := 1) dX12_isSmaller_19 (by decide) ?_
        exact x_zret rfl dX12_isSmaller_20
      · refine x_iload_n dX12_isSmaller_21 rfl ?_
        refine x_iconst (v := 1) dX12_isSmaller_22 (by decide) ?_
        refine x_isub dX12_isSmaller_23 ?_
        refine x_ltI (fun x3 => ?_)
        refine x_istore_n (lo' := [some (va_rf a0), some (.int a1), some (.int a2), some (.int x3), none, none]) dX12_isSmaller_24 (by decide) rfl rfl ?_
        refine x_iload_n dX12_isSmaller_25 rfl ?_
        refine x_jn (σ := Int32 × Mem) 44 (fun s4 => [some (va_rf a0), some (.int a1), none, some (.int s4.1), none, none]) (fun s4 => []) (fun s4 => s4.2) (fun s4 => ?_) (fun j44 hj44 => ?_)
        · refine x_iload_n dX12_isSmaller_44 rfl ?_
          refine x_istore (lo' := [some (va_rf a0), some (.int a1), none, some (.int s4.1), some (.int a1), none]) dX12_isSmaller_45 (by decide) rfl rfl ?_
          refine x_iconst (v := 0) dX12_isSmaller_47 (by decide) ?_
          refine x_istore (lo' := [some (va_rf a0), some (.int a1), none, some (.int s4.1), some (.int a1), some (.int ((0 : Int32)))]) dX12_isSmaller_48 (by decide) rfl rfl ?_
          refine x_jn (σ := Int32) 73 (fun s5 => [some (va_rf a0), some (.int a1), none, none, some (.int s5), none]) (fun s5 => []) (fun s5 => s4.2) (fun s5 => ?_) (fun j73 hj73 => ?_)
          · refine x_aload_n dX12_isSmaller_73 rfl ?_
            refine x_iload_n dX12_isSmaller_74 rfl ?_
            refine x_iload dX12_isSmaller_75 rfl ?_
            refine x_isub dX12_isSmaller_77 ?_
            refine pfX12_798 rfl dX12_isSmaller_78 (fun M6 => ?_)
            refine x_iload dX12_isSmaller_81 rfl ?_
            refine x_jn (σ := Int32) 91 (fun s7 => [none, none, none, none, none, none]) (fun s7 => [.int s7]) (fun s7 => M6) (fun s7 => ?_) (fun j91 hj91 => ?_)
            · exact x_zret rfl dX12_isSmaller_91
            refine x_if_eq (tgt := 90) dX12_isSmaller_83 (by decide) (fun _ => ?_) (fun _ => ?_)
            · refine x_iconst (v := 0) dX12_isSmaller_90 (by decide) ?_
              exact x_weak (by exact trivial) (hj91 ((0 : Int32)))
            · refine x_iconst (v := 1) dX12_isSmaller_86 (by decide) ?_
              refine x_goto (tgt := 91) dX12_isSmaller_87 (by decide) ?_
              exact x_weak (by exact trivial) (hj91 ((1 : Int32)))
          refine x_weak (by exact ⟨rfl, ⟨rfl, ⟨rfl, ⟨rfl, ⟨rfl, trivial⟩⟩⟩⟩⟩) (x_lp (σ := Int32 × Int32) 50 (fun s8 => [some (va_rf a0), some (.int a1), none, some (.int s4.1), some (.int s8.1), some (.int s8.2)]) (fun s8 => []) (fun s8 => s4.2) (fun s8 j50 hj50 => ?_) 4294967296 (a1, (0 : Int32)))
          · refine x_iload dX12_isSmaller_50 rfl ?_
            refine x_iload_n dX12_isSmaller_52 rfl ?_
            refine x_icmp_gt (tgt := 73) dX12_isSmaller_53 (by decide) (fun _ => ?_) (fun _ => ?_)
            · exact x_weak (by exact ⟨rfl, ⟨rfl, ⟨rfl, trivial⟩⟩⟩) (hj73 s8.1)
            · refine x_iload dX12_isSmaller_56 rfl ?_
              refine x_if_eq (tgt := 73) dX12_isSmaller_58 (by decide) (fun _ => ?_) (fun _ => ?_)
              · exact x_weak (by exact ⟨rfl, ⟨rfl, ⟨rfl, trivial⟩⟩⟩) (hj73 s8.1)
              · refine x_iload dX12_isSmaller_61 rfl ?_
                refine x_iconst (v := 2) dX12_isSmaller_63 (by decide) ?_
                refine x_idiv dX12_isSmaller_64 (fun _ => ?_)
                refine x_ltI (fun x9 => ?_)
                refine x_istore (lo' := [some (va_rf a0), some (.int a1), none, some (.int s4.1), some (.int x9), some (.int s8.2)]) dX12_isSmaller_65 (by decide) rfl rfl ?_
                refine x_iincN (v := 1) (lo' := fun x10 => [some (va_rf a0), some (.int a1), none, some (.int s4.1), some (.int x9), some (.int x10)]) (by decide) dX12_isSmaller_67 rfl (by decide) rfl (fun _ => rfl) (fun x10 => ?_)
                refine x_goto (tgt := 50) dX12_isSmaller_70 (by decide) ?_
                exact x_weak (by exact ⟨rfl, ⟨rfl, ⟨rfl, ⟨rfl, ⟨rfl, trivial⟩⟩⟩⟩⟩) (hj50 (x9, x10))
        refine x_if_ge (tgt := 44) dX12_isSmaller_26 (by decide) (fun _ => ?_) (fun _ => ?_)
        · exact x_weak (by exact ⟨rfl, ⟨rfl, ⟨rfl, trivial⟩⟩⟩) (hj44 (x3, M2))
        · refine x_aload_n dX12_isSmaller_29 rfl ?_
          refine x_iload_n dX12_isSmaller_30 rfl ?_
          refine x_ineg dX12_isSmaller_31 ?_
          refine pfX12_798 rfl dX12_isSmaller_32 (fun M11 => ?_)
          refine x_iload_n dX12_isSmaller_35 rfl ?_
          refine x_if_ne (tgt := 41) dX12_isSmaller_36 (by decide) (fun _ => ?_) (fun _ => ?_)
          · refine x_iconst (v := 1) dX12_isSmaller_39 (by decide) ?_
            exact x_zret rfl dX12_isSmaller_40
          · refine x_iincN (v := -1) (lo' := fun x12 => [some (va_rf a0), some (.int a1), some (.int a2), some (.int x12), none, none]) (by decide) dX12_isSmaller_41 rfl (by decide) rfl (fun _ => rfl) (fun x12 => ?_)
            exact x_weak (by exact ⟨rfl, ⟨rfl, ⟨rfl, trivial⟩⟩⟩) (hj44 (x12, M11))
    · exact x_weak (by exact trivial) (hj8 ())
theorem s291 {l : Launch} {d : Nat} {rec : Nat → List Value → Mem → XA} (hS : Nonempty XS) (hs : XSnd l xmt rec d) : Snd1 l 291 (b291 rec) d := by
  intro as M r M' h0
  unfold b291 at h0
  obtain ⟨a0, l1, e1, h1⟩ := aR_inv h0
  obtain ⟨a1, l2, e2, h2⟩ := aI_inv h1
  obtain ⟨a2, l3, e3, h3⟩ := aI_inv h2
  obtain ⟨ez, h⟩ := aZ_inv h3
  subst ez
  subst e3
  subst e2
  subst e1
  exact xmet (M := M) (as := [va_rf a0, .int a1, .int a2]) (lo := [some (va_rf a0), some (.int a1), some (.int a2)]) 291 xq291 xm291 (by rw [xargs_rf, xargs_i, xargs_i, xargs_nil]; exact ⟨rfl, ⟨rfl, ⟨rfl, trivial⟩⟩⟩) (by rw [xargs_rf, xargs_i, xargs_i, xargs_nil]; exact Nat.le_of_ble_eq_true rfl) (fun S G K => x_weak (by exact ⟨rfl, ⟨rfl, ⟨rfl, trivial⟩⟩⟩) (k291 hs a0 a1 a2 M)) h hS
set_option maxRecDepth 100000 in
def c292 (rec : Nat → List Value → Mem → XA) (a0 : Option Nat) (a1 : Int32) (a2 : Int32) (M0 : Mem) : XA :=
  vC (13, 157) M0 a0 <|
  cI (rec 291 [va_rf a0, .int a1, .int a2] M0) fun x2 M1 =>
  jn (fun (s3 : Int32) =>
    some (.int s3, M1)) fun j18 =>
  if x2 = 0 then (
    j18 ((-2 : Int32))) else (
    gtI (13, 157) M1 a0 137 fun x4 =>
    j18 x4)
def b292 (rec : Nat → List Value → Mem → XA) (as : List Value) (M0 : Mem) : XA := aR as fun a0 as => aI as fun a1 as => aI as fun a2 as => aZ as (c292 rec a0 a1 a2 M0)
set_option maxRecDepth 100000 in
set_option maxHeartbeats 4000000 in
theorem k292 {S : XS} {G : XG} {K : Nat × Nat} {l : Launch} {d : Nat} {rec : Nat → List Value → Mem → XA} (hs : XSnd l xmt rec d) (a0 : Option Nat) (a1 : Int32) (a2 : Int32) (M0 : Mem) : Xe S G K l (yX12_smaller, cX12_smaller, 3, some .int) d 0 [some (va_rf a0), some (.int a1), some (.int a2)] [] M0 (c292 rec a0 a1 a2 M0) := by
  unfold c292
  refine x_aload_n dX12_smaller_0 rfl ?_
  refine x_iload_n dX12_smaller_1 rfl ?_
  refine x_iload_n dX12_smaller_2 rfl ?_
  refine cmX12_795 rfl hs (Nat.le_of_ble_eq_true rfl) dX12_smaller_3 (fun x2 M1 => ?_)
  refine x_jn (σ := Int32) 18 (fun s3 => [none, none, none]) (fun s3 => [.int s3]) (fun s3 => M1) (fun s3 => ?_) (fun j18 hj18 => ?_)
  · exact x_iret rfl dX12_smaller_18
  refine x_if_eq (tgt := 16) dX12_smaller_6 (by decide) (fun _ => ?_) (fun _ => ?_)
  · refine x_bipush (v := -2) dX12_smaller_16 (by decide) ?_
    exact x_weak (by exact trivial) (hj18 ((-2 : Int32)))
  · refine x_aload_n dX12_smaller_9 rfl ?_
    refine gfX12_798 rfl dX12_smaller_10 (fun x4 => ?_)
    refine x_goto (tgt := 18) dX12_smaller_13 (by decide) ?_
    exact x_weak (by exact trivial) (hj18 x4)
theorem s292 {l : Launch} {d : Nat} {rec : Nat → List Value → Mem → XA} (hS : Nonempty XS) (hs : XSnd l xmt rec d) : Snd1 l 292 (b292 rec) d := by
  intro as M r M' h0
  unfold b292 at h0
  obtain ⟨a0, l1, e1, h1⟩ := aR_inv h0
  obtain ⟨a1, l2, e2, h2⟩ := aI_inv h1
  obtain ⟨a2, l3, e3, h3⟩ := aI_inv h2
  obtain ⟨ez, h⟩ := aZ_inv h3
  subst ez
  subst e3
  subst e2
  subst e1
  exact xmet (M := M) (as := [va_rf a0, .int a1, .int a2]) (lo := [some (va_rf a0), some (.int a1), some (.int a2)]) 292 xq292 xm292 (by rw [xargs_rf, xargs_i, xargs_i, xargs_nil]; exact ⟨rfl, ⟨rfl, ⟨rfl, trivial⟩⟩⟩) (by rw [xargs_rf, xargs_i, xargs_i, xargs_nil]; exact Nat.le_of_ble_eq_true rfl) (fun S G K => x_weak (by exact ⟨rfl, ⟨rfl, ⟨rfl, trivial⟩⟩⟩) (k292 hs a0 a1 a2 M)) h hS
set_option maxRecDepth 100000 in
def c293 (rec : Nat → List Value → Mem → XA) (a0 : Option Nat) (a1 : Int32) (M0 : Mem) : XA :=
  cI (rec 184 [.int a1, .int ((0 : Int32)), .int ((2 : Int32))] M0) fun x2 M1 =>
  if x2 = 0 then (
    some (.int ((-1 : Int32)), M1)) else (
    gtI (13, 157) M1 a0 138 fun x3 =>
    if x3 = ((8 : Int32)) then (
      some (.int ((-3 : Int32)), M1)) else (
      gtP (13, 157) M1 a0 139 fun x4 =>
      gtI (13, 157) M1 a0 138 fun x5 =>
      asI 100 M1 x4 x5 a1 fun M6 =>
      gtP (13, 157) M6 a0 140 fun x7 =>
      gtI (13, 157) M6 a0 138 fun x8 =>
      asI 100 M6 x7 x8 (((0 : Int32))) fun M9 =>
      gtI (13, 157) M9 a0 138 fun x10 =>
      ptI (13, 157) M9 a0 138 (x10 + ((1 : Int32))) fun M11 =>
      gtI (13, 157) M11 a0 138 fun x12 =>
      some (.int (x12 - ((1 : Int32))), M11)))
def b293 (rec : Nat → List Value → Mem → XA) (as : List Value) (M0 : Mem) : XA := aR as fun a0 as => aI as fun a1 as => aZ as (c293 rec a0 a1 M0)
set_option maxRecDepth 100000 in
set_option maxHeartbeats 4000000 in
theorem k293 {S : XS} {G : XG} {K : Nat × Nat} {l : Launch} {d : Nat} {rec : Nat → List Value → Mem → XA} (hs : XSnd l xmt rec d) (a0 : Option Nat) (a1 : Int32) (M0 : Mem) : Xe S G K l (yX12_history, cX12_history, 2, some .int) d 0 [some (va_rf a0), some (.int a1)] [] M0 (c293 rec a0 a1 M0) := by
  unfold c293
  refine x_iload_n dX12_history_0 rfl ?_
  refine x_iconst (v := 0) dX12_history_1 (by decide) ?_
  refine x_iconst (v := 2) dX12_history_2 (by decide) ?_
  refine cmX12_381 rfl hs (Nat.le_of_ble_eq_true rfl) dX12_history_3 (fun x2 M1 => ?_)
  refine x_if_ne (tgt := 11) dX12_history_6 (by decide) (fun _ => ?_) (fun _ => ?_)
  · refine x_iconst (v := -1) dX12_history_9 (by decide) ?_
    exact x_iret rfl dX12_history_10
  · refine x_aload_n dX12_history_11 rfl ?_
    refine gfX12_816 rfl dX12_history_12 (fun x3 => ?_)
    refine x_bipush (v := 8) dX12_history_15 (by decide) ?_
    refine x_icmp_ne (tgt := 23) dX12_history_17 (by decide) (fun _ => ?_) (fun _ => ?_)
    · refine x_bipush (v := -3) dX12_history_20 (by decide) ?_
      exact x_iret rfl dX12_history_22
    · refine x_aload_n dX12_history_23 rfl ?_
      refine gfX12_339 rfl dX12_history_24 (fun x4 => ?_)
      refine x_aload_n dX12_history_27 rfl ?_
      refine gfX12_816 rfl dX12_history_28 (fun x5 => ?_)
      refine x_iload_n dX12_history_31 rfl ?_
      refine x_iast dX12_history_32 (fun M6 => ?_)
      refine x_aload_n dX12_history_33 rfl ?_
      refine gfX12_342 rfl dX12_history_34 (fun x7 => ?_)
      refine x_aload_n dX12_history_37 rfl ?_
      refine gfX12_816 rfl dX12_history_38 (fun x8 => ?_)
      refine x_iconst (v := 0) dX12_history_41 (by decide) ?_
      refine x_iast dX12_history_42 (fun M9 => ?_)
      refine x_aload_n dX12_history_43 rfl ?_
      refine x_dup dX12_history_44 (xc1_r _) ?_
      refine gfX12_816 rfl dX12_history_45 (fun x10 => ?_)
      refine x_iconst (v := 1) dX12_history_48 (by decide) ?_
      refine x_iadd dX12_history_49 ?_
      refine pfX12_816 rfl dX12_history_50 (fun M11 => ?_)
      refine x_aload_n dX12_history_53 rfl ?_
      refine gfX12_816 rfl dX12_history_54 (fun x12 => ?_)
      refine x_iconst (v := 1) dX12_history_57 (by decide) ?_
      refine x_isub dX12_history_58 ?_
      exact x_iret rfl dX12_history_59
theorem s293 {l : Launch} {d : Nat} {rec : Nat → List Value → Mem → XA} (hS : Nonempty XS) (hs : XSnd l xmt rec d) : Snd1 l 293 (b293 rec) d := by
  intro as M r M' h0
  unfold b293 at h0
  obtain ⟨a0, l1, e1, h1⟩ := aR_inv h0
  obtain ⟨a1, l2, e2, h2⟩ := aI_inv h1
  obtain ⟨ez, h⟩ := aZ_inv h2
  subst ez
  subst e2
  subst e1
  exact xmet (M := M) (as := [va_rf a0, .int a1]) (lo := [some (va_rf a0), some (.int a1)]) 293 xq293 xm293 (by rw [xargs_rf, xargs_i, xargs_nil]; exact ⟨rfl, ⟨rfl, trivial⟩⟩) (by rw [xargs_rf, xargs_i, xargs_nil]; exact Nat.le_of_ble_eq_true rfl) (fun S G K => x_weak (by exact ⟨rfl, ⟨rfl, trivial⟩⟩) (k293 hs a0 a1 M)) h hS
set_option maxRecDepth 100000 in
def c294 (rec : Nat → List Value → Mem → XA) (a0 : Option Nat) (a1 : Int32) (a2 : Int32) (a3 : Int32) (a4 : Int32) (a5 : Int32) (a6 : Int32) (M0 : Mem) : XA :=
  gtI (13, 157) M0 a0 138 fun x1 =>
  cI (rec 184 [.int a1, .int ((0 : Int32)), .int (x1 - ((1 : Int32)))] M0) fun x3 M2 =>
  jn (fun (s4 : Mem) =>
    some (.int ((-1 : Int32)), s4)) fun j48 =>
  if x3 = 0 then (
    j48 M2) else (
    cI (rec 184 [.int a2, .int ((0 : Int32)), .int ((1 : Int32))] M2) fun x6 M5 =>
    if x6 = 0 then (
      j48 M5) else (
      cI (rec 184 [.int a5, .int ((0 : Int32)), .int ((1000 : Int32))] M5) fun x8 M7 =>
      if x8 = 0 then (
        j48 M7) else (
        cI (rec 184 [.int a6, .int a5, .int ((1000 : Int32))] M7) fun x10 M9 =>
        if x10 = 0 then (
          j48 M9) else (
          gtP (13, 157) M9 a0 140 fun x11 =>
          alI 100 M9 x11 a1 fun x12 =>
          if x12 = ((8 : Int32)) then (
            some (.int ((-3 : Int32)), M9)) else (
            gtP (13, 157) M9 a0 140 fun x13 =>
            alI 100 M9 x13 a1 fun x14 =>
            lt ((((8 : Int32)) * a1) + x14) fun (x15 : Int32) =>
            gtP (13, 157) M9 a0 141 fun x16 =>
            asI 100 M9 x16 x15 a2 fun M17 =>
            gtP (13, 157) M17 a0 142 fun x18 =>
            asI 100 M17 x18 x15 a3 fun M19 =>
            gtP (13, 157) M19 a0 143 fun x20 =>
            asI 100 M19 x20 x15 a4 fun M21 =>
            gtP (13, 157) M21 a0 144 fun x22 =>
            asI 100 M21 x22 x15 a5 fun M23 =>
            gtP (13, 157) M23 a0 145 fun x24 =>
            asI 100 M23 x24 x15 a6 fun M25 =>
            gtP (13, 157) M25 a0 140 fun x26 =>
            alI 100 M25 x26 a1 fun x27 =>
            asI 100 M25 x26 a1 ((x27 + ((1 : Int32)))) fun M28 =>
            gtP (13, 157) M28 a0 140 fun x29 =>
            alI 100 M28 x29 a1 fun x30 =>
            some (.int x30, M28))))))
def b294 (rec : Nat → List Value → Mem → XA) (as : List Value) (M0 : Mem) : XA := aR as fun a0 as => aI as fun a1 as => aI as fun a2 as => aI as fun a3 as => aI as fun a4 as => aI as fun a5 as => aI as fun a6 as => aZ as (c294 rec a0 a1 a2 a3 a4 a5 a6 M0)
set_option maxRecDepth 100000 in
set_option maxHeartbeats 4000000 in
theorem k294 {S : XS} {G : XG} {K : Nat × Nat} {l : Launch} {d : Nat} {rec : Nat → List Value → Mem → XA} (hs : XSnd l xmt rec d) (a0 : Option Nat) (a1 : Int32) (a2 : Int32) (a3 : Int32) (a4 : Int32) (a5 : Int32) (a6 : Int32) (M0 : Mem) : Xe S G K l (yX12_op, cX12_op, 8, some .int) d 0 [some (va_rf a0), some (.int a1), some (.int a2), some (.int a3), some (.int a4), some (.int a5), some (.int a6), none] [] M0 (c294 rec a0 a1 a2 a3 a4 a5 a6 M0) := by
  unfold c294
  refine x_iload_n dX12_op_0 rfl ?_
  refine x_iconst (v := 0) dX12_op_1 (by decide) ?_
  refine x_aload_n dX12_op_2 rfl ?_
  refine gfX12_816 rfl dX12_op_3 (fun x1 => ?_)
  refine x_iconst (v := 1) dX12_op_6 (by decide) ?_
  refine x_isub dX12_op_7 ?_
  refine cmX12_381 rfl hs (Nat.le_of_ble_eq_true rfl) dX12_op_8 (fun x3 M2 => ?_)
  refine x_jn (σ := Mem) 48 (fun s4 => [none, none, none, none, none, none, none, none]) (fun s4 => []) (fun s4 => s4) (fun s4 => ?_) (fun j48 hj48 => ?_)
  · refine x_iconst (v := -1) dX12_op_48 (by decide) ?_
    exact x_iret rfl dX12_op_49
  refine x_if_eq (tgt := 48) dX12_op_11 (by decide) (fun _ => ?_) (fun _ => ?_)
  · exact x_weak (by exact trivial) (hj48 M2)
  · refine x_iload_n dX12_op_14 rfl ?_
    refine x_iconst (v := 0) dX12_op_15 (by decide) ?_
    refine x_iconst (v := 1) dX12_op_16 (by decide) ?_
    refine cmX12_381 rfl hs (Nat.le_of_ble_eq_true rfl) dX12_op_17 (fun x6 M5 => ?_)
    refine x_if_eq (tgt := 48) dX12_op_20 (by decide) (fun _ => ?_) (fun _ => ?_)
    · exact x_weak (by exact trivial) (hj48 M5)
    · refine x_iload dX12_op_23 rfl ?_
      refine x_iconst (v := 0) dX12_op_25 (by decide) ?_
      refine x_sipush (v := 1000) dX12_op_26 (by decide) ?_
      refine cmX12_381 rfl hs (Nat.le_of_ble_eq_true rfl) dX12_op_29 (fun x8 M7 => ?_)
      refine x_if_eq (tgt := 48) dX12_op_32 (by decide) (fun _ => ?_) (fun _ => ?_)
      · exact x_weak (by exact trivial) (hj48 M7)
      · refine x_iload dX12_op_35 rfl ?_
        refine x_iload dX12_op_37 rfl ?_
        refine x_sipush (v := 1000) dX12_op_39 (by decide) ?_
        refine cmX12_381 rfl hs (Nat.le_of_ble_eq_true rfl) dX12_op_42 (fun x10 M9 => ?_)
        refine x_if_ne (tgt := 50) dX12_op_45 (by decide) (fun _ => ?_) (fun _ => ?_)
        · exact x_weak (by exact trivial) (hj48 M9)
        · refine x_aload_n dX12_op_50 rfl ?_
          refine gfX12_342 rfl dX12_op_51 (fun x11 => ?_)
          refine x_iload_n dX12_op_54 rfl ?_
          refine x_iald dX12_op_55 (fun x12 => ?_)
          refine x_bipush (v := 8) dX12_op_56 (by decide) ?_
          refine x_icmp_ne (tgt := 64) dX12_op_58 (by decide) (fun _ => ?_) (fun _ => ?_)
          · refine x_bipush (v := -3) dX12_op_61 (by decide) ?_
            exact x_iret rfl dX12_op_63
          · refine x_bipush (v := 8) dX12_op_64 (by decide) ?_
            refine x_iload_n dX12_op_66 rfl ?_
            refine x_imul dX12_op_67 ?_
            refine x_aload_n dX12_op_68 rfl ?_
            refine gfX12_342 rfl dX12_op_69 (fun x13 => ?_)
            refine x_iload_n dX12_op_72 rfl ?_
            refine x_iald dX12_op_73 (fun x14 => ?_)
            refine x_iadd dX12_op_74 ?_
            refine x_ltI (fun x15 => ?_)
            refine x_istore (lo' := [some (va_rf a0), some (.int a1), some (.int a2), some (.int a3), some (.int a4), some (.int a5), some (.int a6), some (.int x15)]) dX12_op_75 (by decide) rfl rfl ?_
            refine x_aload_n dX12_op_77 rfl ?_
            refine gfX12_345 rfl dX12_op_78 (fun x16 => ?_)
            refine x_iload dX12_op_81 rfl ?_
            refine x_iload_n dX12_op_83 rfl ?_
            refine x_iast dX12_op_84 (fun M17 => ?_)
            refine x_aload_n dX12_op_85 rfl ?_
            refine gfX12_348 rfl dX12_op_86 (fun x18 => ?_)
            refine x_iload dX12_op_89 rfl ?_
            refine x_iload_n dX12_op_91 rfl ?_
            refine x_iast dX12_op_92 (fun M19 => ?_)
            refine x_aload_n dX12_op_93 rfl ?_
            refine gfX12_351 rfl dX12_op_94 (fun x20 => ?_)
            refine x_iload dX12_op_97 rfl ?_
            refine x_iload dX12_op_99 rfl ?_
            refine x_iast dX12_op_101 (fun M21 => ?_)
            refine x_aload_n dX12_op_102 rfl ?_
            refine gfX12_354 rfl dX12_op_103 (fun x22 => ?_)
            refine x_iload dX12_op_106 rfl ?_
            refine x_iload dX12_op_108 rfl ?_
            refine x_iast dX12_op_110 (fun M23 => ?_)
            refine x_aload_n dX12_op_111 rfl ?_
            refine gfX12_357 rfl dX12_op_112 (fun x24 => ?_)
            refine x_iload dX12_op_115 rfl ?_
            refine x_iload dX12_op_117 rfl ?_
            refine x_iast dX12_op_119 (fun M25 => ?_)
            refine x_aload_n dX12_op_120 rfl ?_
            refine gfX12_342 rfl dX12_op_121 (fun x26 => ?_)
            refine x_iload_n dX12_op_124 rfl ?_
            refine x_dup2 dX12_op_125 (xc1_i _) (xc1_r _) ?_
            refine x_iald dX12_op_126 (fun x27 => ?_)
            refine x_iconst (v := 1) dX12_op_127 (by decide) ?_
            refine x_iadd dX12_op_128 ?_
            refine x_iast dX12_op_129 (fun M28 => ?_)
            refine x_aload_n dX12_op_130 rfl ?_
            refine gfX12_342 rfl dX12_op_131 (fun x29 => ?_)
            refine x_iload_n dX12_op_134 rfl ?_
            refine x_iald dX12_op_135 (fun x30 => ?_)
            exact x_iret rfl dX12_op_136
theorem s294 {l : Launch} {d : Nat} {rec : Nat → List Value → Mem → XA} (hS : Nonempty XS) (hs : XSnd l xmt rec d) : Snd1 l 294 (b294 rec) d := by
  intro as M r M' h0
  unfold b294 at h0
  obtain ⟨a0, l1, e1, h1⟩ := aR_inv h0
  obtain ⟨a1, l2, e2, h2⟩ := aI_inv h1
  obtain ⟨a2, l3, e3, h3⟩ := aI_inv h2
  obtain ⟨a3, l4, e4, h4⟩ := aI_inv h3
  obtain ⟨a4, l5, e5, h5⟩ := aI_inv h4
  obtain ⟨a5, l6, e6, h6⟩ := aI_inv h5
  obtain ⟨a6, l7, e7, h7⟩ := aI_inv h6
  obtain ⟨ez, h⟩ := aZ_inv h7
  subst ez
  subst e7
  subst e6
  subst e5
  subst e4
  subst e3
  subst e2
  subst e1
  exact xmet (M := M) (as := [va_rf a0, .int a1, .int a2, .int a3, .int a4, .int a5, .int a6]) (lo := [some (va_rf a0), some (.int a1), some (.int a2), some (.int a3), some (.int a4), some (.int a5), some (.int a6)]) 294 xq294 xm294 (by rw [xargs_rf, xargs_i, xargs_i, xargs_i, xargs_i, xargs_i, xargs_i, xargs_nil]; exact ⟨rfl, ⟨rfl, ⟨rfl, ⟨rfl, ⟨rfl, ⟨rfl, ⟨rfl, trivial⟩⟩⟩⟩⟩⟩⟩) (by rw [xargs_rf, xargs_i, xargs_i, xargs_i, xargs_i, xargs_i, xargs_i, xargs_nil]; exact Nat.le_of_ble_eq_true rfl) (fun S G K => x_weak (by exact ⟨rfl, ⟨rfl, ⟨rfl, ⟨rfl, ⟨rfl, ⟨rfl, ⟨rfl, trivial⟩⟩⟩⟩⟩⟩⟩) (k294 hs a0 a1 a2 a3 a4 a5 a6 M)) h hS
set_option maxRecDepth 100000 in
def c295_14 (rec : Nat → List Value → Mem → XA) (a0 : Option Nat) (a1 : Int32) (a2 : Int32) (j211 : Int32 × Mem → XA) : (Int32 × Int32 × Int32 × Int32 × Int32 × Mem) → ((Int32 × Int32 × Int32 × Int32 × Int32 × Mem) → XA) → XA := fun s2 j14 =>
  if a2 ≤ s2.2.2.2.2.1 then (
    j211 (s2.2.2.2.1, s2.2.2.2.2.2)) else (
    gtP (13, 157) s2.2.2.2.2.2 a0 146 fun x3 =>
    alI 100 s2.2.2.2.2.2 x3 s2.2.2.2.2.1 fun x4 =>
    lt ((((8 : Int32)) * a1) + x4) fun (x5 : Int32) =>
    gtP (13, 157) s2.2.2.2.2.2 a0 139 fun x6 =>
    alI 100 s2.2.2.2.2.2 x6 a1 fun x7 =>
    jn (fun (s8 : Int32 × Int32 × Int32 × Int32 × Mem) =>
      jn (fun (s9 : Int32) =>
        lt (s2.2.2.2.2.1 + (1 : Int32)) fun (x10 : Int32) =>
        j14 (s8.1, s8.2.1, s8.2.2.1, s9, x10, s8.2.2.2.2)) fun j203 =>
      jn (fun (s11 : Unit) =>
        j203 ((0 : Int32))) fun j202 =>
      if s2.2.2.2.1 = 0 then (
        j202 ()) else (
        gtP (13, 157) s8.2.2.2.2 a0 143 fun x12 =>
        alI 100 s8.2.2.2.2 x12 x5 fun x13 =>
        if s8.2.2.2.1 = x13 then (
          j203 ((1 : Int32))) else (
          j202 ()))) fun j181 =>
    if x7 = ((2 : Int32)) then (
      gtP (13, 157) s2.2.2.2.2.2 a0 141 fun x14 =>
      alI 100 s2.2.2.2.2.2 x14 x5 fun x15 =>
      if x15 = 0 then (
        gtP (13, 157) s2.2.2.2.2.2 a0 147 fun x16 =>
        gtP (13, 157) s2.2.2.2.2.2 a0 142 fun x17 =>
        alI 100 s2.2.2.2.2.2 x17 x5 fun x18 =>
        asI 100 s2.2.2.2.2.2 x16 s2.2.2.1 x18 fun M19 =>
        lt (s2.2.2.1 + (1 : Int32)) fun (x20 : Int32) =>
        j181 (s2.1, s2.2.1, x20, (0 : Int32), M19)) else (
        jn (fun (s21 : Int32) =>
          jn (fun (s22 : Int32) =>
            lt (s2.2.1 + s22) fun (x23 : Int32) =>
            j181 (s2.1, x23, s2.2.2.1, s21, s2.2.2.2.2.2)) fun j111 =>
          if s2.2.1 = s2.2.2.1 then (
            j111 ((0 : Int32))) else (
            j111 ((1 : Int32)))) fun j95 =>
        if s2.2.1 = s2.2.2.1 then (
          j95 ((-1 : Int32))) else (
          gtP (13, 157) s2.2.2.2.2.2 a0 147 fun x24 =>
          alI 100 s2.2.2.2.2.2 x24 s2.2.1 fun x25 =>
          j95 x25))) else (
      gtP (13, 157) s2.2.2.2.2.2 a0 141 fun x26 =>
      alI 100 s2.2.2.2.2.2 x26 x5 fun x27 =>
      if x27 = ((1 : Int32)) then (
        j181 (s2.1, s2.2.1, s2.2.2.1, s2.1, s2.2.2.2.2.2)) else (
        gtP (13, 157) s2.2.2.2.2.2 a0 139 fun x28 =>
        alI 100 s2.2.2.2.2.2 x28 a1 fun x29 =>
        jn (fun (s30 : Int32) =>
          gtP (13, 157) s2.2.2.2.2.2 a0 139 fun x31 =>
          alI 100 s2.2.2.2.2.2 x31 a1 fun x32 =>
          jn (fun (s33 : Int32) =>
            j181 (s30, s2.2.1, s2.2.2.1, s33, s2.2.2.2.2.2)) fun j179 =>
          if x32 = ((1 : Int32)) then (
            j179 s30) else (
            j179 ((0 : Int32)))) fun j163 =>
        if x29 = ((1 : Int32)) then (
          gtP (13, 157) s2.2.2.2.2.2 a0 142 fun x34 =>
          alI 100 s2.2.2.2.2.2 x34 x5 fun x35 =>
          j163 (s2.1 + x35)) else (
          gtP (13, 157) s2.2.2.2.2.2 a0 142 fun x36 =>
          alI 100 s2.2.2.2.2.2 x36 x5 fun x37 =>
          j163 x37))))
set_option maxRecDepth 100000 in
def c295 (rec : Nat → List Value → Mem → XA) (a0 : Option Nat) (a1 : Int32) (a2 : Int32) (M0 : Mem) : XA :=
  jn (fun (s1 : Int32 × Mem) =>
    rtZ s1.1 s1.2) fun j211 =>
  lp (c295_14 rec a0 a1 a2 j211) 4294967296 ((0 : Int32), (0 : Int32), (0 : Int32), (1 : Int32), (0 : Int32), M0)
def b295 (rec : Nat → List Value → Mem → XA) (as : List Value) (M0 : Mem) : XA := aR as fun a0 as => aI as fun a1 as => aI as fun a2 as => aZ as (c295 rec a0 a1 a2 M0)
set_option maxRecDepth 100000 in
set_option maxHeartbeats 4000000 in
theorem k295 {S : XS} {G : XG} {K : Nat × Nat} {l : Launch} {d : Nat} {rec : Nat → List Value → Mem → XA} (hs : XSnd l xmt rec d) (a0 : Option Nat) (a1 : Int32) (a2 : Int32) (M0 : Mem) : Xe S G K l (yX12_answers, cX12_answers, 10, some .boolean) d 0 [some (va_rf a0), some (.int a1), some (.int a2), none, none, none, none, none, none, none] [] M0 (c295 rec a0 a1 a2 M0) := by
  unfold c295
  refine x_iconst (v := 0) dX12_answers_0 (by decide) ?_
  refine x_istore_n (lo' := [some (va_rf a0), some (.int a1), some (.int a2), some (.int ((0 : Int32))), none, none, none, none, none, none]) dX12_answers_1 (by decide) rfl rfl ?_
  refine x_iconst (v := 0) dX12_answers_2 (by decide) ?_
  refine x_istore (lo' := [some (va_rf a0), some (.int a1), some (.int a2), some (.int ((0 : Int32))), some (.int ((0 : Int32))), none, none, none, none, none]) dX12_answers_3 (by decide) rfl rfl ?_
  refine x_iconst (v := 0) dX12_answers_5 (by decide) ?_
  refine x_istore (lo' := [some (va_rf a0), some (.int a1), some (.int a2), some (.int ((0 : Int32))), some (.int ((0 : Int32))), some (.int ((0 : Int32))), none, none, none, none]) dX12_answers_6 (by decide) rfl rfl ?_
  refine x_iconst (v := 1) dX12_answers_8 (by decide) ?_
  refine x_istore (lo' := [some (va_rf a0), some (.int a1), some (.int a2), some (.int ((0 : Int32))), some (.int ((0 : Int32))), some (.int ((0 : Int32))), some (.int ((1 : Int32))), none, none, none]) dX12_answers_9 (by decide) rfl rfl ?_
  refine x_iconst (v := 0) dX12_answers_11 (by decide) ?_
  refine x_istore (lo' := [some (va_rf a0), some (.int a1), some (.int a2), some (.int ((0 : Int32))), some (.int ((0 : Int32))), some (.int ((0 : Int32))), some (.int ((1 : Int32))), some (.int ((0 : Int32))), none, none]) dX12_answers_12 (by decide) rfl rfl ?_
  refine x_jn (σ := Int32 × Mem) 211 (fun s1 => [none, none, none, none, none, none, some (.int s1.1), none, none, none]) (fun s1 => []) (fun s1 => s1.2) (fun s1 => ?_) (fun j211 hj211 => ?_)
  · refine x_iload dX12_answers_211 rfl ?_
    exact x_zret rfl dX12_answers_213
  refine x_weak (by exact ⟨rfl, ⟨rfl, ⟨rfl, ⟨rfl, ⟨rfl, ⟨rfl, ⟨rfl, ⟨rfl, trivial⟩⟩⟩⟩⟩⟩⟩⟩) (x_lp (σ := Int32 × Int32 × Int32 × Int32 × Int32 × Mem) 14 (fun s2 => [some (va_rf a0), some (.int a1), some (.int a2), some (.int s2.1), some (.int s2.2.1), some (.int s2.2.2.1), some (.int s2.2.2.2.1), some (.int s2.2.2.2.2.1), none, none]) (fun s2 => []) (fun s2 => s2.2.2.2.2.2) (fun s2 j14 hj14 => ?_) 4294967296 ((0 : Int32), (0 : Int32), (0 : Int32), (1 : Int32), (0 : Int32), M0))
  · refine x_iload dX12_answers_14 rfl ?_
    refine x_iload_n dX12_answers_16 rfl ?_
    refine x_icmp_ge (tgt := 211) dX12_answers_17 (by decide) (fun _ => ?_) (fun _ => ?_)
    · exact x_weak (by exact ⟨rfl, trivial⟩) (hj211 (s2.2.2.2.1, s2.2.2.2.2.2))
    · refine x_bipush (v := 8) dX12_answers_20 (by decide) ?_
      refine x_iload_n dX12_answers_22 rfl ?_
      refine x_imul dX12_answers_23 ?_
      refine x_aload_n dX12_answers_24 rfl ?_
      refine gfX12_360 rfl dX12_answers_25 (fun x3 => ?_)
      refine x_iload dX12_answers_28 rfl ?_
      refine x_iald dX12_answers_30 (fun x4 => ?_)
      refine x_iadd dX12_answers_31 ?_
      refine x_ltI (fun x5 => ?_)
      refine x_istore (lo' := [some (va_rf a0), some (.int a1), some (.int a2), some (.int s2.1), some (.int s2.2.1), some (.int s2.2.2.1), some (.int s2.2.2.2.1), some (.int s2.2.2.2.2.1), some (.int x5), none]) dX12_answers_32 (by decide) rfl rfl ?_
      refine x_iconst (v := 0) dX12_answers_34 (by decide) ?_
      refine x_istore (lo' := [some (va_rf a0), some (.int a1), some (.int a2), some (.int s2.1), some (.int s2.2.1), some (.int s2.2.2.1), some (.int s2.2.2.2.1), some (.int s2.2.2.2.2.1), some (.int x5), some (.int ((0 : Int32)))]) dX12_answers_35 (by decide) rfl rfl ?_
      refine x_aload_n dX12_answers_37 rfl ?_
      refine gfX12_339 rfl dX12_answers_38 (fun x6 => ?_)
      refine x_iload_n dX12_answers_41 rfl ?_
      refine x_iald dX12_answers_42 (fun x7 => ?_)
      refine x_iconst (v := 2) dX12_answers_43 (by decide) ?_
      refine x_jn (σ := Int32 × Int32 × Int32 × Int32 × Mem) 181 (fun s8 => [some (va_rf a0), some (.int a1), some (.int a2), some (.int s8.1), some (.int s8.2.1), some (.int s8.2.2.1), some (.int s2.2.2.2.1), some (.int s2.2.2.2.2.1), some (.int x5), some (.int s8.2.2.2.1)]) (fun s8 => []) (fun s8 => s8.2.2.2.2) (fun s8 => ?_) (fun j181 hj181 => ?_)
      · refine x_iload dX12_answers_181 rfl ?_
        refine x_jn (σ := Int32) 203 (fun s9 => [some (va_rf a0), some (.int a1), some (.int a2), some (.int s8.1), some (.int s8.2.1), some (.int s8.2.2.1), none, some (.int s2.2.2.2.2.1), none, none]) (fun s9 => [.int s9]) (fun s9 => s8.2.2.2.2) (fun s9 => ?_) (fun j203 hj203 => ?_)
        · refine x_istore (lo' := [some (va_rf a0), some (.int a1), some (.int a2), some (.int s8.1), some (.int s8.2.1), some (.int s8.2.2.1), some (.int s9), some (.int s2.2.2.2.2.1), none, none]) dX12_answers_203 (by decide) rfl rfl ?_
          refine x_iincN (v := 1) (lo' := fun x10 => [some (va_rf a0), some (.int a1), some (.int a2), some (.int s8.1), some (.int s8.2.1), some (.int s8.2.2.1), some (.int s9), some (.int x10), none, none]) (by decide) dX12_answers_205 rfl (by decide) rfl (fun _ => rfl) (fun x10 => ?_)
          refine x_goto (tgt := 14) dX12_answers_208 (by decide) ?_
          exact x_weak (by exact ⟨rfl, ⟨rfl, ⟨rfl, ⟨rfl, ⟨rfl, ⟨rfl, ⟨rfl, ⟨rfl, trivial⟩⟩⟩⟩⟩⟩⟩⟩) (hj14 (s8.1, s8.2.1, s8.2.2.1, s9, x10, s8.2.2.2.2))
        refine x_jn (σ := Unit) 202 (fun s11 => [some (va_rf a0), some (.int a1), some (.int a2), some (.int s8.1), some (.int s8.2.1), some (.int s8.2.2.1), none, some (.int s2.2.2.2.2.1), none, none]) (fun s11 => []) (fun s11 => s8.2.2.2.2) (fun s11 => ?_) (fun j202 hj202 => ?_)
        · refine x_iconst (v := 0) dX12_answers_202 (by decide) ?_
          exact x_weak (by exact ⟨rfl, ⟨rfl, ⟨rfl, ⟨rfl, ⟨rfl, ⟨rfl, ⟨rfl, trivial⟩⟩⟩⟩⟩⟩⟩) (hj203 ((0 : Int32)))
        refine x_if_eq (tgt := 202) dX12_answers_183 (by decide) (fun _ => ?_) (fun _ => ?_)
        · exact x_weak (by exact ⟨rfl, ⟨rfl, ⟨rfl, ⟨rfl, ⟨rfl, ⟨rfl, ⟨rfl, trivial⟩⟩⟩⟩⟩⟩⟩) (hj202 ())
        · refine x_iload dX12_answers_186 rfl ?_
          refine x_aload_n dX12_answers_188 rfl ?_
          refine gfX12_351 rfl dX12_answers_189 (fun x12 => ?_)
          refine x_iload dX12_answers_192 rfl ?_
          refine x_iald dX12_answers_194 (fun x13 => ?_)
          refine x_icmp_ne (tgt := 202) dX12_answers_195 (by decide) (fun _ => ?_) (fun _ => ?_)
          · refine x_iconst (v := 1) dX12_answers_198 (by decide) ?_
            refine x_goto (tgt := 203) dX12_answers_199 (by decide) ?_
            exact x_weak (by exact ⟨rfl, ⟨rfl, ⟨rfl, ⟨rfl, ⟨rfl, ⟨rfl, ⟨rfl, trivial⟩⟩⟩⟩⟩⟩⟩) (hj203 ((1 : Int32)))
          · exact x_weak (by exact ⟨rfl, ⟨rfl, ⟨rfl, ⟨rfl, ⟨rfl, ⟨rfl, ⟨rfl, trivial⟩⟩⟩⟩⟩⟩⟩) (hj202 ())
      refine x_icmp_ne (tgt := 117) dX12_answers_44 (by decide) (fun _ => ?_) (fun _ => ?_)
      · refine x_aload_n dX12_answers_47 rfl ?_
        refine gfX12_345 rfl dX12_answers_48 (fun x14 => ?_)
        refine x_iload dX12_answers_51 rfl ?_
        refine x_iald dX12_answers_53 (fun x15 => ?_)
        refine x_if_ne (tgt := 77) dX12_answers_54 (by decide) (fun _ => ?_) (fun _ => ?_)
        · refine x_aload_n dX12_answers_57 rfl ?_
          refine gfX12_363 rfl dX12_answers_58 (fun x16 => ?_)
          refine x_iload dX12_answers_61 rfl ?_
          refine x_aload_n dX12_answers_63 rfl ?_
          refine gfX12_348 rfl dX12_answers_64 (fun x17 => ?_)
          refine x_iload dX12_answers_67 rfl ?_
          refine x_iald dX12_answers_69 (fun x18 => ?_)
          refine x_iast dX12_answers_70 (fun M19 => ?_)
          refine x_iincN (v := 1) (lo' := fun x20 => [some (va_rf a0), some (.int a1), some (.int a2), some (.int s2.1), some (.int s2.2.1), some (.int x20), some (.int s2.2.2.2.1), some (.int s2.2.2.2.2.1), some (.int x5), some (.int ((0 : Int32)))]) (by decide) dX12_answers_71 rfl (by decide) rfl (fun _ => rfl) (fun x20 => ?_)
          refine x_goto (tgt := 181) dX12_answers_74 (by decide) ?_
          exact x_weak (by exact ⟨rfl, ⟨rfl, ⟨rfl, ⟨rfl, ⟨rfl, ⟨rfl, ⟨rfl, ⟨rfl, ⟨rfl, ⟨rfl, trivial⟩⟩⟩⟩⟩⟩⟩⟩⟩⟩) (hj181 (s2.1, s2.2.1, x20, (0 : Int32), M19))
        · refine x_iload dX12_answers_77 rfl ?_
          refine x_iload dX12_answers_79 rfl ?_
          refine x_jn (σ := Int32) 95 (fun s21 => [some (va_rf a0), some (.int a1), some (.int a2), some (.int s2.1), some (.int s2.2.1), some (.int s2.2.2.1), some (.int s2.2.2.2.1), some (.int s2.2.2.2.2.1), some (.int x5), none]) (fun s21 => [.int s21]) (fun s21 => s2.2.2.2.2.2) (fun s21 => ?_) (fun j95 hj95 => ?_)
          · refine x_istore (lo' := [some (va_rf a0), some (.int a1), some (.int a2), some (.int s2.1), some (.int s2.2.1), some (.int s2.2.2.1), some (.int s2.2.2.2.1), some (.int s2.2.2.2.2.1), some (.int x5), some (.int s21)]) dX12_answers_95 (by decide) rfl rfl ?_
            refine x_iload dX12_answers_97 rfl ?_
            refine x_iload dX12_answers_99 rfl ?_
            refine x_iload dX12_answers_101 rfl ?_
            refine x_jn (σ := Int32) 111 (fun s22 => [some (va_rf a0), some (.int a1), some (.int a2), some (.int s2.1), none, some (.int s2.2.2.1), some (.int s2.2.2.2.1), some (.int s2.2.2.2.2.1), some (.int x5), some (.int s21)]) (fun s22 => [.int s22, .int s2.2.1]) (fun s22 => s2.2.2.2.2.2) (fun s22 => ?_) (fun j111 hj111 => ?_)
            · refine x_iadd dX12_answers_111 ?_
              refine x_ltI (fun x23 => ?_)
              refine x_istore (lo' := [some (va_rf a0), some (.int a1), some (.int a2), some (.int s2.1), some (.int x23), some (.int s2.2.2.1), some (.int s2.2.2.2.1), some (.int s2.2.2.2.2.1), some (.int x5), some (.int s21)]) dX12_answers_112 (by decide) rfl rfl ?_
              refine x_goto (tgt := 181) dX12_answers_114 (by decide) ?_
              exact x_weak (by exact ⟨rfl, ⟨rfl, ⟨rfl, ⟨rfl, ⟨rfl, ⟨rfl, ⟨rfl, ⟨rfl, ⟨rfl, ⟨rfl, trivial⟩⟩⟩⟩⟩⟩⟩⟩⟩⟩) (hj181 (s2.1, x23, s2.2.2.1, s21, s2.2.2.2.2.2))
            refine x_icmp_ne (tgt := 110) dX12_answers_103 (by decide) (fun _ => ?_) (fun _ => ?_)
            · refine x_iconst (v := 0) dX12_answers_106 (by decide) ?_
              refine x_goto (tgt := 111) dX12_answers_107 (by decide) ?_
              exact x_weak (by exact ⟨rfl, ⟨rfl, ⟨rfl, ⟨rfl, ⟨rfl, ⟨rfl, ⟨rfl, ⟨rfl, ⟨rfl, trivial⟩⟩⟩⟩⟩⟩⟩⟩⟩) (hj111 ((0 : Int32)))
            · refine x_iconst (v := 1) dX12_answers_110 (by decide) ?_
              exact x_weak (by exact ⟨rfl, ⟨rfl, ⟨rfl, ⟨rfl, ⟨rfl, ⟨rfl, ⟨rfl, ⟨rfl, ⟨rfl, trivial⟩⟩⟩⟩⟩⟩⟩⟩⟩) (hj111 ((1 : Int32)))
          refine x_icmp_ne (tgt := 88) dX12_answers_81 (by decide) (fun _ => ?_) (fun _ => ?_)
          · refine x_iconst (v := -1) dX12_answers_84 (by decide) ?_
            refine x_goto (tgt := 95) dX12_answers_85 (by decide) ?_
            exact x_weak (by exact ⟨rfl, ⟨rfl, ⟨rfl, ⟨rfl, ⟨rfl, ⟨rfl, ⟨rfl, ⟨rfl, ⟨rfl, trivial⟩⟩⟩⟩⟩⟩⟩⟩⟩) (hj95 ((-1 : Int32)))
          · refine x_aload_n dX12_answers_88 rfl ?_
            refine gfX12_363 rfl dX12_answers_89 (fun x24 => ?_)
            refine x_iload dX12_answers_92 rfl ?_
            refine x_iald dX12_answers_94 (fun x25 => ?_)
            exact x_weak (by exact ⟨rfl, ⟨rfl, ⟨rfl, ⟨rfl, ⟨rfl, ⟨rfl, ⟨rfl, ⟨rfl, ⟨rfl, trivial⟩⟩⟩⟩⟩⟩⟩⟩⟩) (hj95 x25)
      · refine x_aload_n dX12_answers_117 rfl ?_
        refine gfX12_345 rfl dX12_answers_118 (fun x26 => ?_)
        refine x_iload dX12_answers_121 rfl ?_
        refine x_iald dX12_answers_123 (fun x27 => ?_)
        refine x_iconst (v := 1) dX12_answers_124 (by decide) ?_
        refine x_icmp_ne (tgt := 134) dX12_answers_125 (by decide) (fun _ => ?_) (fun _ => ?_)
        · refine x_iload_n dX12_answers_128 rfl ?_
          refine x_istore (lo' := [some (va_rf a0), some (.int a1), some (.int a2), some (.int s2.1), some (.int s2.2.1), some (.int s2.2.2.1), some (.int s2.2.2.2.1), some (.int s2.2.2.2.2.1), some (.int x5), some (.int s2.1)]) dX12_answers_129 (by decide) rfl rfl ?_
          refine x_goto (tgt := 181) dX12_answers_131 (by decide) ?_
          exact x_weak (by exact ⟨rfl, ⟨rfl, ⟨rfl, ⟨rfl, ⟨rfl, ⟨rfl, ⟨rfl, ⟨rfl, ⟨rfl, ⟨rfl, trivial⟩⟩⟩⟩⟩⟩⟩⟩⟩⟩) (hj181 (s2.1, s2.2.1, s2.2.2.1, s2.1, s2.2.2.2.2.2))
        · refine x_aload_n dX12_answers_134 rfl ?_
          refine gfX12_339 rfl dX12_answers_135 (fun x28 => ?_)
          refine x_iload_n dX12_answers_138 rfl ?_
          refine x_iald dX12_answers_139 (fun x29 => ?_)
          refine x_iconst (v := 1) dX12_answers_140 (by decide) ?_
          refine x_jn (σ := Int32) 163 (fun s30 => [some (va_rf a0), some (.int a1), some (.int a2), none, some (.int s2.2.1), some (.int s2.2.2.1), some (.int s2.2.2.2.1), some (.int s2.2.2.2.2.1), some (.int x5), none]) (fun s30 => [.int s30]) (fun s30 => s2.2.2.2.2.2) (fun s30 => ?_) (fun j163 hj163 => ?_)
          · refine x_istore_n (lo' := [some (va_rf a0), some (.int a1), some (.int a2), some (.int s30), some (.int s2.2.1), some (.int s2.2.2.1), some (.int s2.2.2.2.1), some (.int s2.2.2.2.2.1), some (.int x5), none]) dX12_answers_163 (by decide) rfl rfl ?_
            refine x_aload_n dX12_answers_164 rfl ?_
            refine gfX12_339 rfl dX12_answers_165 (fun x31 => ?_)
            refine x_iload_n dX12_answers_168 rfl ?_
            refine x_iald dX12_answers_169 (fun x32 => ?_)
            refine x_iconst (v := 1) dX12_answers_170 (by decide) ?_
            refine x_jn (σ := Int32) 179 (fun s33 => [some (va_rf a0), some (.int a1), some (.int a2), some (.int s30), some (.int s2.2.1), some (.int s2.2.2.1), some (.int s2.2.2.2.1), some (.int s2.2.2.2.2.1), some (.int x5), none]) (fun s33 => [.int s33]) (fun s33 => s2.2.2.2.2.2) (fun s33 => ?_) (fun j179 hj179 => ?_)
            · refine x_istore (lo' := [some (va_rf a0), some (.int a1), some (.int a2), some (.int s30), some (.int s2.2.1), some (.int s2.2.2.1), some (.int s2.2.2.2.1), some (.int s2.2.2.2.2.1), some (.int x5), some (.int s33)]) dX12_answers_179 (by decide) rfl rfl ?_
              exact x_weak (by exact ⟨rfl, ⟨rfl, ⟨rfl, ⟨rfl, ⟨rfl, ⟨rfl, ⟨rfl, ⟨rfl, ⟨rfl, ⟨rfl, trivial⟩⟩⟩⟩⟩⟩⟩⟩⟩⟩) (hj181 (s30, s2.2.1, s2.2.2.1, s33, s2.2.2.2.2.2))
            refine x_icmp_ne (tgt := 178) dX12_answers_171 (by decide) (fun _ => ?_) (fun _ => ?_)
            · refine x_iload_n dX12_answers_174 rfl ?_
              refine x_goto (tgt := 179) dX12_answers_175 (by decide) ?_
              exact x_weak (by exact ⟨rfl, ⟨rfl, ⟨rfl, ⟨rfl, ⟨rfl, ⟨rfl, ⟨rfl, ⟨rfl, ⟨rfl, trivial⟩⟩⟩⟩⟩⟩⟩⟩⟩) (hj179 s30)
            · refine x_iconst (v := 0) dX12_answers_178 (by decide) ?_
              exact x_weak (by exact ⟨rfl, ⟨rfl, ⟨rfl, ⟨rfl, ⟨rfl, ⟨rfl, ⟨rfl, ⟨rfl, ⟨rfl, trivial⟩⟩⟩⟩⟩⟩⟩⟩⟩) (hj179 ((0 : Int32)))
          refine x_icmp_ne (tgt := 156) dX12_answers_141 (by decide) (fun _ => ?_) (fun _ => ?_)
          · refine x_iload_n dX12_answers_144 rfl ?_
            refine x_aload_n dX12_answers_145 rfl ?_
            refine gfX12_348 rfl dX12_answers_146 (fun x34 => ?_)
            refine x_iload dX12_answers_149 rfl ?_
            refine x_iald dX12_answers_151 (fun x35 => ?_)
            refine x_iadd dX12_answers_152 ?_
            refine x_goto (tgt := 163) dX12_answers_153 (by decide) ?_
            exact x_weak (by exact ⟨rfl, ⟨rfl, ⟨rfl, ⟨rfl, ⟨rfl, ⟨rfl, ⟨rfl, ⟨rfl, trivial⟩⟩⟩⟩⟩⟩⟩⟩) (hj163 (s2.1 + x35))
          · refine x_aload_n dX12_answers_156 rfl ?_
            refine gfX12_348 rfl dX12_answers_157 (fun x36 => ?_)
            refine x_iload dX12_answers_160 rfl ?_
            refine x_iald dX12_answers_162 (fun x37 => ?_)
            exact x_weak (by exact ⟨rfl, ⟨rfl, ⟨rfl, ⟨rfl, ⟨rfl, ⟨rfl, ⟨rfl, ⟨rfl, trivial⟩⟩⟩⟩⟩⟩⟩⟩) (hj163 x37)
theorem s295 {l : Launch} {d : Nat} {rec : Nat → List Value → Mem → XA} (hS : Nonempty XS) (hs : XSnd l xmt rec d) : Snd1 l 295 (b295 rec) d := by
  intro as M r M' h0
  unfold b295 at h0
  obtain ⟨a0, l1, e1, h1⟩ := aR_inv h0
  obtain ⟨a1, l2, e2, h2⟩ := aI_inv h1
  obtain ⟨a2, l3, e3, h3⟩ := aI_inv h2
  obtain ⟨ez, h⟩ := aZ_inv h3
  subst ez
  subst e3
  subst e2
  subst e1
  exact xmet (M := M) (as := [va_rf a0, .int a1, .int a2]) (lo := [some (va_rf a0), some (.int a1), some (.int a2)]) 295 xq295 xm295 (by rw [xargs_rf, xargs_i, xargs_i, xargs_nil]; exact ⟨rfl, ⟨rfl, ⟨rfl, trivial⟩⟩⟩) (by rw [xargs_rf, xargs_i, xargs_i, xargs_nil]; exact Nat.le_of_ble_eq_true rfl) (fun S G K => x_weak (by exact ⟨rfl, ⟨rfl, ⟨rfl, trivial⟩⟩⟩) (k295 hs a0 a1 a2 M)) h hS
set_option maxRecDepth 100000 in
def c296_66 (rec : Nat → List Value → Mem → XA) (a0 : Option Nat) (a2 : Int32) (M0 : Mem) (j102 : Int32 → XA) (s3 : Int32 × Int32) : (Int32 × Int32) → ((Int32 × Int32) → XA) → XA := fun s14 j66 =>
  if a2 ≤ s14.2 then (
    j102 s14.1) else (
    jn (fun (s15 : Int32) =>
      lt (s14.2 + (1 : Int32)) fun (x16 : Int32) =>
      j66 (s15, x16)) fun j94 =>
    jn (fun (s17 : Unit) =>
      j94 ((1 : Int32))) fun j89 =>
    if s14.1 = 0 then (
      gtP (13, 157) M0 a0 146 fun x18 =>
      alI 100 M0 x18 s14.2 fun x19 =>
      if x19 = s3.2 then (
        j89 ()) else (
        j94 ((0 : Int32)))) else (
      j89 ()))
set_option maxRecDepth 100000 in
def c296_44 (rec : Nat → List Value → Mem → XA) (a0 : Option Nat) (a1 : Int32) (a2 : Int32) (a3 : Int32) (M0 : Mem) (j152 : Int32 → XA) : (Int32 × Int32) → ((Int32 × Int32) → XA) → XA := fun s3 j44 =>
  gtP (13, 157) M0 a0 140 fun x4 =>
  alI 100 M0 x4 a1 fun x5 =>
  if x5 ≤ s3.2 then (
    j152 s3.1) else (
    if s3.1 = 0 then (
      j152 s3.1) else (
      jn (fun (s6 : Int32) =>
        jn (fun (s7 : Int32) =>
          lt (s3.2 + (1 : Int32)) fun (x8 : Int32) =>
          j44 (s7, x8)) fun j144 =>
        jn (fun (s9 : Unit) =>
          j144 ((1 : Int32))) fun j139 =>
        if s6 = 0 then (
          if s3.2 = a3 then (
            j139 ()) else (
            gtP (13, 157) M0 a0 145 fun x10 =>
            alI 100 M0 x10 ((((8 : Int32)) * a1) + s3.2) fun x11 =>
            gtP (13, 157) M0 a0 144 fun x12 =>
            alI 100 M0 x12 ((((8 : Int32)) * a1) + a3) fun x13 =>
            if x11 < x13 then (
              j144 ((0 : Int32))) else (
              j139 ()))) else (
          j139 ())) fun j102 =>
      lp (c296_66 rec a0 a2 M0 j102 s3) 4294967296 ((0 : Int32), (0 : Int32))))
set_option maxRecDepth 100000 in
def c296_6 (rec : Nat → List Value → Mem → XA) (a0 : Option Nat) (a2 : Int32) (a3 : Int32) (M0 : Mem) (j41 : Int32 → XA) : (Int32 × Int32) → ((Int32 × Int32) → XA) → XA := fun s20 j6 =>
  if a2 ≤ s20.2 then (
    j41 s20.1) else (
    jn (fun (s21 : Int32) =>
      lt (s20.2 + (1 : Int32)) fun (x22 : Int32) =>
      j6 (s21, x22)) fun j33 =>
    jn (fun (s23 : Unit) =>
      j33 ((0 : Int32))) fun j32 =>
    if s20.1 = 0 then (
      j32 ()) else (
      gtP (13, 157) M0 a0 146 fun x24 =>
      alI 100 M0 x24 s20.2 fun x25 =>
      if x25 = a3 then (
        j32 ()) else (
        j33 ((1 : Int32)))))
set_option maxRecDepth 100000 in
def c296 (rec : Nat → List Value → Mem → XA) (a0 : Option Nat) (a1 : Int32) (a2 : Int32) (a3 : Int32) (M0 : Mem) : XA :=
  jn (fun (s1 : Int32) =>
    jn (fun (s2 : Int32) =>
      rtZ s2 M0) fun j152 =>
    lp (c296_44 rec a0 a1 a2 a3 M0 j152) 4294967296 (s1, (0 : Int32))) fun j41 =>
  lp (c296_6 rec a0 a2 a3 M0 j41) 4294967296 ((1 : Int32), (0 : Int32))
def b296 (rec : Nat → List Value → Mem → XA) (as : List Value) (M0 : Mem) : XA := aR as fun a0 as => aI as fun a1 as => aI as fun a2 as => aI as fun a3 as => aZ as (c296 rec a0 a1 a2 a3 M0)
set_option maxRecDepth 100000 in
set_option maxHeartbeats 4000000 in
theorem k296 {S : XS} {G : XG} {K : Nat × Nat} {l : Launch} {d : Nat} {rec : Nat → List Value → Mem → XA} (hs : XSnd l xmt rec d) (a0 : Option Nat) (a1 : Int32) (a2 : Int32) (a3 : Int32) (M0 : Mem) : Xe S G K l (yX12_mayStand, cX12_mayStand, 8, some .boolean) d 0 [some (va_rf a0), some (.int a1), some (.int a2), some (.int a3), none, none, none, none] [] M0 (c296 rec a0 a1 a2 a3 M0) := by
  unfold c296
  refine x_iconst (v := 1) dX12_mayStand_0 (by decide) ?_
  refine x_istore (lo' := [some (va_rf a0), some (.int a1), some (.int a2), some (.int a3), some (.int ((1 : Int32))), none, none, none]) dX12_mayStand_1 (by decide) rfl rfl ?_
  refine x_iconst (v := 0) dX12_mayStand_3 (by decide) ?_
  refine x_istore (lo' := [some (va_rf a0), some (.int a1), some (.int a2), some (.int a3), some (.int ((1 : Int32))), some (.int ((0 : Int32))), none, none]) dX12_mayStand_4 (by decide) rfl rfl ?_
  refine x_jn (σ := Int32) 41 (fun s1 => [some (va_rf a0), some (.int a1), some (.int a2), some (.int a3), some (.int s1), none, none, none]) (fun s1 => []) (fun s1 => M0) (fun s1 => ?_) (fun j41 hj41 => ?_)
  · refine x_iconst (v := 0) dX12_mayStand_41 (by decide) ?_
    refine x_istore (lo' := [some (va_rf a0), some (.int a1), some (.int a2), some (.int a3), some (.int s1), some (.int ((0 : Int32))), none, none]) dX12_mayStand_42 (by decide) rfl rfl ?_
    refine x_jn (σ := Int32) 152 (fun s2 => [none, none, none, none, some (.int s2), none, none, none]) (fun s2 => []) (fun s2 => M0) (fun s2 => ?_) (fun j152 hj152 => ?_)
    · refine x_iload dX12_mayStand_152 rfl ?_
      exact x_zret rfl dX12_mayStand_154
    refine x_weak (by exact ⟨rfl, ⟨rfl, ⟨rfl, ⟨rfl, ⟨rfl, ⟨rfl, trivial⟩⟩⟩⟩⟩⟩) (x_lp (σ := Int32 × Int32) 44 (fun s3 => [some (va_rf a0), some (.int a1), some (.int a2), some (.int a3), some (.int s3.1), some (.int s3.2), none, none]) (fun s3 => []) (fun s3 => M0) (fun s3 j44 hj44 => ?_) 4294967296 (s1, (0 : Int32)))
    · refine x_iload dX12_mayStand_44 rfl ?_
      refine x_aload_n dX12_mayStand_46 rfl ?_
      refine gfX12_342 rfl dX12_mayStand_47 (fun x4 => ?_)
      refine x_iload_n dX12_mayStand_50 rfl ?_
      refine x_iald dX12_mayStand_51 (fun x5 => ?_)
      refine x_icmp_ge (tgt := 152) dX12_mayStand_52 (by decide) (fun _ => ?_) (fun _ => ?_)
      · exact x_weak (by exact ⟨rfl, trivial⟩) (hj152 s3.1)
      · refine x_iload dX12_mayStand_55 rfl ?_
        refine x_if_eq (tgt := 152) dX12_mayStand_57 (by decide) (fun _ => ?_) (fun _ => ?_)
        · exact x_weak (by exact ⟨rfl, trivial⟩) (hj152 s3.1)
        · refine x_iconst (v := 0) dX12_mayStand_60 (by decide) ?_
          refine x_istore (lo' := [some (va_rf a0), some (.int a1), some (.int a2), some (.int a3), some (.int s3.1), some (.int s3.2), some (.int ((0 : Int32))), none]) dX12_mayStand_61 (by decide) rfl rfl ?_
          refine x_iconst (v := 0) dX12_mayStand_63 (by decide) ?_
          refine x_istore (lo' := [some (va_rf a0), some (.int a1), some (.int a2), some (.int a3), some (.int s3.1), some (.int s3.2), some (.int ((0 : Int32))), some (.int ((0 : Int32)))]) dX12_mayStand_64 (by decide) rfl rfl ?_
          refine x_jn (σ := Int32) 102 (fun s6 => [some (va_rf a0), some (.int a1), some (.int a2), some (.int a3), none, some (.int s3.2), some (.int s6), none]) (fun s6 => []) (fun s6 => M0) (fun s6 => ?_) (fun j102 hj102 => ?_)
          · refine x_iload dX12_mayStand_102 rfl ?_
            refine x_jn (σ := Int32) 144 (fun s7 => [some (va_rf a0), some (.int a1), some (.int a2), some (.int a3), none, some (.int s3.2), none, none]) (fun s7 => [.int s7]) (fun s7 => M0) (fun s7 => ?_) (fun j144 hj144 => ?_)
            · refine x_istore (lo' := [some (va_rf a0), some (.int a1), some (.int a2), some (.int a3), some (.int s7), some (.int s3.2), none, none]) dX12_mayStand_144 (by decide) rfl rfl ?_
              refine x_iincN (v := 1) (lo' := fun x8 => [some (va_rf a0), some (.int a1), some (.int a2), some (.int a3), some (.int s7), some (.int x8), none, none]) (by decide) dX12_mayStand_146 rfl (by decide) rfl (fun _ => rfl) (fun x8 => ?_)
              refine x_goto (tgt := 44) dX12_mayStand_149 (by decide) ?_
              exact x_weak (by exact ⟨rfl, ⟨rfl, ⟨rfl, ⟨rfl, ⟨rfl, ⟨rfl, trivial⟩⟩⟩⟩⟩⟩) (hj44 (s7, x8))
            refine x_jn (σ := Unit) 139 (fun s9 => [some (va_rf a0), some (.int a1), some (.int a2), some (.int a3), none, some (.int s3.2), none, none]) (fun s9 => []) (fun s9 => M0) (fun s9 => ?_) (fun j139 hj139 => ?_)
            · refine x_iconst (v := 1) dX12_mayStand_139 (by decide) ?_
              refine x_goto (tgt := 144) dX12_mayStand_140 (by decide) ?_
              exact x_weak (by exact ⟨rfl, ⟨rfl, ⟨rfl, ⟨rfl, ⟨rfl, trivial⟩⟩⟩⟩⟩) (hj144 ((1 : Int32)))
            refine x_if_ne (tgt := 139) dX12_mayStand_104 (by decide) (fun _ => ?_) (fun _ => ?_)
            · refine x_iload dX12_mayStand_107 rfl ?_
              refine x_iload_n dX12_mayStand_109 rfl ?_
              refine x_icmp_eq (tgt := 139) dX12_mayStand_110 (by decide) (fun _ => ?_) (fun _ => ?_)
              · exact x_weak (by exact ⟨rfl, ⟨rfl, ⟨rfl, ⟨rfl, ⟨rfl, trivial⟩⟩⟩⟩⟩) (hj139 ())
              · refine x_aload_n dX12_mayStand_113 rfl ?_
                refine gfX12_357 rfl dX12_mayStand_114 (fun x10 => ?_)
                refine x_bipush (v := 8) dX12_mayStand_117 (by decide) ?_
                refine x_iload_n dX12_mayStand_119 rfl ?_
                refine x_imul dX12_mayStand_120 ?_
                refine x_iload dX12_mayStand_121 rfl ?_
                refine x_iadd dX12_mayStand_123 ?_
                refine x_iald dX12_mayStand_124 (fun x11 => ?_)
                refine x_aload_n dX12_mayStand_125 rfl ?_
                refine gfX12_354 rfl dX12_mayStand_126 (fun x12 => ?_)
                refine x_bipush (v := 8) dX12_mayStand_129 (by decide) ?_
                refine x_iload_n dX12_mayStand_131 rfl ?_
                refine x_imul dX12_mayStand_132 ?_
                refine x_iload_n dX12_mayStand_133 rfl ?_
                refine x_iadd dX12_mayStand_134 ?_
                refine x_iald dX12_mayStand_135 (fun x13 => ?_)
                refine x_icmp_lt (tgt := 143) dX12_mayStand_136 (by decide) (fun _ => ?_) (fun _ => ?_)
                · refine x_iconst (v := 0) dX12_mayStand_143 (by decide) ?_
                  exact x_weak (by exact ⟨rfl, ⟨rfl, ⟨rfl, ⟨rfl, ⟨rfl, trivial⟩⟩⟩⟩⟩) (hj144 ((0 : Int32)))
                · exact x_weak (by exact ⟨rfl, ⟨rfl, ⟨rfl, ⟨rfl, ⟨rfl, trivial⟩⟩⟩⟩⟩) (hj139 ())
            · exact x_weak (by exact ⟨rfl, ⟨rfl, ⟨rfl, ⟨rfl, ⟨rfl, trivial⟩⟩⟩⟩⟩) (hj139 ())
          refine x_weak (by exact ⟨rfl, ⟨rfl, ⟨rfl, ⟨rfl, ⟨rfl, ⟨rfl, ⟨rfl, trivial⟩⟩⟩⟩⟩⟩⟩) (x_lp (σ := Int32 × Int32) 66 (fun s14 => [some (va_rf a0), some (.int a1), some (.int a2), some (.int a3), none, some (.int s3.2), some (.int s14.1), some (.int s14.2)]) (fun s14 => []) (fun s14 => M0) (fun s14 j66 hj66 => ?_) 4294967296 ((0 : Int32), (0 : Int32)))
          · refine x_iload dX12_mayStand_66 rfl ?_
            refine x_iload_n dX12_mayStand_68 rfl ?_
            refine x_icmp_ge (tgt := 102) dX12_mayStand_69 (by decide) (fun _ => ?_) (fun _ => ?_)
            · exact x_weak (by exact ⟨rfl, ⟨rfl, ⟨rfl, ⟨rfl, ⟨rfl, ⟨rfl, trivial⟩⟩⟩⟩⟩⟩) (hj102 s14.1)
            · refine x_iload dX12_mayStand_72 rfl ?_
              refine x_jn (σ := Int32) 94 (fun s15 => [some (va_rf a0), some (.int a1), some (.int a2), some (.int a3), none, some (.int s3.2), none, some (.int s14.2)]) (fun s15 => [.int s15]) (fun s15 => M0) (fun s15 => ?_) (fun j94 hj94 => ?_)
              · refine x_istore (lo' := [some (va_rf a0), some (.int a1), some (.int a2), some (.int a3), none, some (.int s3.2), some (.int s15), some (.int s14.2)]) dX12_mayStand_94 (by decide) rfl rfl ?_
                refine x_iincN (v := 1) (lo' := fun x16 => [some (va_rf a0), some (.int a1), some (.int a2), some (.int a3), none, some (.int s3.2), some (.int s15), some (.int x16)]) (by decide) dX12_mayStand_96 rfl (by decide) rfl (fun _ => rfl) (fun x16 => ?_)
                refine x_goto (tgt := 66) dX12_mayStand_99 (by decide) ?_
                exact x_weak (by exact ⟨rfl, ⟨rfl, ⟨rfl, ⟨rfl, ⟨rfl, ⟨rfl, ⟨rfl, trivial⟩⟩⟩⟩⟩⟩⟩) (hj66 (s15, x16))
              refine x_jn (σ := Unit) 89 (fun s17 => [some (va_rf a0), some (.int a1), some (.int a2), some (.int a3), none, some (.int s3.2), none, some (.int s14.2)]) (fun s17 => []) (fun s17 => M0) (fun s17 => ?_) (fun j89 hj89 => ?_)
              · refine x_iconst (v := 1) dX12_mayStand_89 (by decide) ?_
                refine x_goto (tgt := 94) dX12_mayStand_90 (by decide) ?_
                exact x_weak (by exact ⟨rfl, ⟨rfl, ⟨rfl, ⟨rfl, ⟨rfl, ⟨rfl, trivial⟩⟩⟩⟩⟩⟩) (hj94 ((1 : Int32)))
              refine x_if_ne (tgt := 89) dX12_mayStand_74 (by decide) (fun _ => ?_) (fun _ => ?_)
              · refine x_aload_n dX12_mayStand_77 rfl ?_
                refine gfX12_360 rfl dX12_mayStand_78 (fun x18 => ?_)
                refine x_iload dX12_mayStand_81 rfl ?_
                refine x_iald dX12_mayStand_83 (fun x19 => ?_)
                refine x_iload dX12_mayStand_84 rfl ?_
                refine x_icmp_ne (tgt := 93) dX12_mayStand_86 (by decide) (fun _ => ?_) (fun _ => ?_)
                · exact x_weak (by exact ⟨rfl, ⟨rfl, ⟨rfl, ⟨rfl, ⟨rfl, ⟨rfl, trivial⟩⟩⟩⟩⟩⟩) (hj89 ())
                · refine x_iconst (v := 0) dX12_mayStand_93 (by decide) ?_
                  exact x_weak (by exact ⟨rfl, ⟨rfl, ⟨rfl, ⟨rfl, ⟨rfl, ⟨rfl, trivial⟩⟩⟩⟩⟩⟩) (hj94 ((0 : Int32)))
              · exact x_weak (by exact ⟨rfl, ⟨rfl, ⟨rfl, ⟨rfl, ⟨rfl, ⟨rfl, trivial⟩⟩⟩⟩⟩⟩) (hj89 ())
  refine x_weak (by exact ⟨rfl, ⟨rfl, ⟨rfl, ⟨rfl, ⟨rfl, ⟨rfl, trivial⟩⟩⟩⟩⟩⟩) (x_lp (σ := Int32 × Int32) 6 (fun s20 => [some (va_rf a0), some (.int a1), some (.int a2), some (.int a3), some (.int s20.1), some (.int s20.2), none, none]) (fun s20 => []) (fun s20 => M0) (fun s20 j6 hj6 => ?_) 4294967296 ((1 : Int32), (0 : Int32)))
  · refine x_iload dX12_mayStand_6 rfl ?_
    refine x_iload_n dX12_mayStand_8 rfl ?_
    refine x_icmp_ge (tgt := 41) dX12_mayStand_9 (by decide) (fun _ => ?_) (fun _ => ?_)
    · exact x_weak (by exact ⟨rfl, ⟨rfl, ⟨rfl, ⟨rfl, ⟨rfl, trivial⟩⟩⟩⟩⟩) (hj41 s20.1)
    · refine x_iload dX12_mayStand_12 rfl ?_
      refine x_jn (σ := Int32) 33 (fun s21 => [some (va_rf a0), some (.int a1), some (.int a2), some (.int a3), none, some (.int s20.2), none, none]) (fun s21 => [.int s21]) (fun s21 => M0) (fun s21 => ?_) (fun j33 hj33 => ?_)
      · refine x_istore (lo' := [some (va_rf a0), some (.int a1), some (.int a2), some (.int a3), some (.int s21), some (.int s20.2), none, none]) dX12_mayStand_33 (by decide) rfl rfl ?_
        refine x_iincN (v := 1) (lo' := fun x22 => [some (va_rf a0), some (.int a1), some (.int a2), some (.int a3), some (.int s21), some (.int x22), none, none]) (by decide) dX12_mayStand_35 rfl (by decide) rfl (fun _ => rfl) (fun x22 => ?_)
        refine x_goto (tgt := 6) dX12_mayStand_38 (by decide) ?_
        exact x_weak (by exact ⟨rfl, ⟨rfl, ⟨rfl, ⟨rfl, ⟨rfl, ⟨rfl, trivial⟩⟩⟩⟩⟩⟩) (hj6 (s21, x22))
      refine x_jn (σ := Unit) 32 (fun s23 => [some (va_rf a0), some (.int a1), some (.int a2), some (.int a3), none, some (.int s20.2), none, none]) (fun s23 => []) (fun s23 => M0) (fun s23 => ?_) (fun j32 hj32 => ?_)
      · refine x_iconst (v := 0) dX12_mayStand_32 (by decide) ?_
        exact x_weak (by exact ⟨rfl, ⟨rfl, ⟨rfl, ⟨rfl, ⟨rfl, trivial⟩⟩⟩⟩⟩) (hj33 ((0 : Int32)))
      refine x_if_eq (tgt := 32) dX12_mayStand_14 (by decide) (fun _ => ?_) (fun _ => ?_)
      · exact x_weak (by exact ⟨rfl, ⟨rfl, ⟨rfl, ⟨rfl, ⟨rfl, trivial⟩⟩⟩⟩⟩) (hj32 ())
      · refine x_aload_n dX12_mayStand_17 rfl ?_
        refine gfX12_360 rfl dX12_mayStand_18 (fun x24 => ?_)
        refine x_iload dX12_mayStand_21 rfl ?_
        refine x_iald dX12_mayStand_23 (fun x25 => ?_)
        refine x_iload_n dX12_mayStand_24 rfl ?_
        refine x_icmp_eq (tgt := 32) dX12_mayStand_25 (by decide) (fun _ => ?_) (fun _ => ?_)
        · exact x_weak (by exact ⟨rfl, ⟨rfl, ⟨rfl, ⟨rfl, ⟨rfl, trivial⟩⟩⟩⟩⟩) (hj32 ())
        · refine x_iconst (v := 1) dX12_mayStand_28 (by decide) ?_
          refine x_goto (tgt := 33) dX12_mayStand_29 (by decide) ?_
          exact x_weak (by exact ⟨rfl, ⟨rfl, ⟨rfl, ⟨rfl, ⟨rfl, trivial⟩⟩⟩⟩⟩) (hj33 ((1 : Int32)))
theorem s296 {l : Launch} {d : Nat} {rec : Nat → List Value → Mem → XA} (hS : Nonempty XS) (hs : XSnd l xmt rec d) : Snd1 l 296 (b296 rec) d := by
  intro as M r M' h0
  unfold b296 at h0
  obtain ⟨a0, l1, e1, h1⟩ := aR_inv h0
  obtain ⟨a1, l2, e2, h2⟩ := aI_inv h1
  obtain ⟨a2, l3, e3, h3⟩ := aI_inv h2
  obtain ⟨a3, l4, e4, h4⟩ := aI_inv h3
  obtain ⟨ez, h⟩ := aZ_inv h4
  subst ez
  subst e4
  subst e3
  subst e2
  subst e1
  exact xmet (M := M) (as := [va_rf a0, .int a1, .int a2, .int a3]) (lo := [some (va_rf a0), some (.int a1), some (.int a2), some (.int a3)]) 296 xq296 xm296 (by rw [xargs_rf, xargs_i, xargs_i, xargs_i, xargs_nil]; exact ⟨rfl, ⟨rfl, ⟨rfl, ⟨rfl, trivial⟩⟩⟩⟩) (by rw [xargs_rf, xargs_i, xargs_i, xargs_i, xargs_nil]; exact Nat.le_of_ble_eq_true rfl) (fun S G K => x_weak (by exact ⟨rfl, ⟨rfl, ⟨rfl, ⟨rfl, trivial⟩⟩⟩⟩) (k296 hs a0 a1 a2 a3 M)) h hS
