set_option maxRecDepth 100000 in
def c202 (rec : Nat → List Value → Mem → XA) (a0 : Option Nat) (a1 : Int32) (a2 : Int32) (a3 : Int32) (M0 : Mem) : XA :=
  gtP (13, 157) M0 a0 55 fun x1 =>
  asI 100 M0 x1 a1 a2 fun M2 =>
  gtP (13, 157) M2 a0 54 fun x3 =>
  vC (13, 157) M2 a0 <|
  cI (rec 196 [va_rf a0, .int a3, .int a1] M2) fun x5 M4 =>
  asI 100 M4 x3 a1 x5 fun M6 =>
  some (.null, M6)
def b202 (rec : Nat → List Value → Mem → XA) (as : List Value) (M0 : Mem) : XA := aR as fun a0 as => aI as fun a1 as => aI as fun a2 as => aI as fun a3 as => aZ as (c202 rec a0 a1 a2 a3 M0)
set_option maxRecDepth 100000 in
set_option maxHeartbeats 4000000 in
theorem k202 {S : XS} {G : XG} {K : Nat × Nat} {l : Launch} {d : Nat} {rec : Nat → List Value → Mem → XA} (hs : XSnd l xmt rec d) (a0 : Option Nat) (a1 : Int32) (a2 : Int32) (a3 : Int32) (M0 : Mem) : Xe S G K l (yX12_used, cX12_used, 4, none) d 0 [some (va_rf a0), some (.int a1), some (.int a2), some (.int a3)] [] M0 (c202 rec a0 a1 a2 a3 M0) := by
  unfold c202
  refine x_aload_n dX12_used_0 rfl ?_
  refine gfX12_194 rfl dX12_used_1 (fun x1 => ?_)
  refine x_iload_n dX12_used_4 rfl ?_
  refine x_iload_n dX12_used_5 rfl ?_
  refine x_iast dX12_used_6 (fun M2 => ?_)
  refine x_aload_n dX12_used_7 rfl ?_
  refine gfX12_191 rfl dX12_used_8 (fun x3 => ?_)
  refine x_iload_n dX12_used_11 rfl ?_
  refine x_aload_n dX12_used_12 rfl ?_
  refine x_iload_n dX12_used_13 rfl ?_
  refine x_iload_n dX12_used_14 rfl ?_
  refine cmX12_465 rfl hs (Nat.le_of_ble_eq_true rfl) dX12_used_15 (fun x5 M4 => ?_)
  refine x_iast dX12_used_18 (fun M6 => ?_)
  exact x_vret rfl dX12_used_19
theorem s202 {l : Launch} {d : Nat} {rec : Nat → List Value → Mem → XA} (hS : Nonempty XS) (hs : XSnd l xmt rec d) : Snd1 l 202 (b202 rec) d := by
  intro as M r M' h0
  unfold b202 at h0
  obtain ⟨a0, l1, e1, h1⟩ := aR_inv h0
  obtain ⟨a1, l2, e2, h2⟩ := aI_inv h1
  obtain ⟨a2, l3, e3, h3⟩ := aI_inv h2
  obtain ⟨a3, l4, e4, h4⟩ := aI_inv h3
  obtain ⟨ez, h⟩ := aZ_inv h4
  subst ez
  subst e4
  subst e3
  subst e2
  subst e1
  exact xmet (M := M) (as := [va_rf a0, .int a1, .int a2, .int a3]) (lo := [some (va_rf a0), some (.int a1), some (.int a2), some (.int a3)]) 202 xq202 xm202 (by rw [xargs_rf, xargs_i, xargs_i, xargs_i, xargs_nil]; exact ⟨rfl, ⟨rfl, ⟨rfl, ⟨rfl, trivial⟩⟩⟩⟩) (by rw [xargs_rf, xargs_i, xargs_i, xargs_i, xargs_nil]; exact Nat.le_of_ble_eq_true rfl) (fun S G K => x_weak (by exact ⟨rfl, ⟨rfl, ⟨rfl, ⟨rfl, trivial⟩⟩⟩⟩) (k202 hs a0 a1 a2 a3 M)) h hS
set_option maxRecDepth 100000 in
def c203 (rec : Nat → List Value → Mem → XA) (a0 : Option Nat) (M0 : Mem) : XA :=
  vC (13, 157) M0 a0 <|
  cI (rec 200 [va_rf a0] M0) fun x2 M1 =>
  jn (fun (s3 : Mem) =>
    some (.null, s3)) fun j57 =>
  if x2 = 0 then (
    j57 M1) else (
    vC (13, 157) M1 a0 <|
    cV (rec 191 [va_rf a0] M1) fun M4 =>
    vC (13, 157) M4 a0 <|
    cV (rec 211 [va_rf a0] M4) fun M5 =>
    gtI (13, 157) M5 a0 41 fun x6 =>
    if x6 = 0 then (
      gtI (13, 157) M5 a0 36 fun x7 =>
      jn (fun (s8 : Int32) =>
        vC (13, 157) M5 a0 <|
        cI (rec 193 [va_rf a0, .int s8] M5) fun x10 M9 =>
        if x10 = 0 then (
          j57 M9) else (
          gtI (13, 157) M9 a0 50 fun x11 =>
          ptI (13, 157) M9 a0 50 (x11 - ((1 : Int32))) fun M12 =>
          vC (13, 157) M12 a0 <|
          cV (rec 191 [va_rf a0] M12) fun M13 =>
          j57 M13)) fun j37 =>
      if x7 = ((93 : Int32)) then (
        j37 ((1 : Int32))) else (
        j37 ((0 : Int32)))) else (
      j57 M5))
def b203 (rec : Nat → List Value → Mem → XA) (as : List Value) (M0 : Mem) : XA := aR as fun a0 as => aZ as (c203 rec a0 M0)
set_option maxRecDepth 100000 in
set_option maxHeartbeats 4000000 in
theorem k203 {S : XS} {G : XG} {K : Nat × Nat} {l : Launch} {d : Nat} {rec : Nat → List Value → Mem → XA} (hs : XSnd l xmt rec d) (a0 : Option Nat) (M0 : Mem) : Xe S G K l (yX12_index, cX12_index, 1, none) d 0 [some (va_rf a0)] [] M0 (c203 rec a0 M0) := by
  unfold c203
  refine x_aload_n dX12_index_0 rfl ?_
  refine cmX12_469 rfl hs (Nat.le_of_ble_eq_true rfl) dX12_index_1 (fun x2 M1 => ?_)
  refine x_jn (σ := Mem) 57 (fun s3 => [none]) (fun s3 => []) (fun s3 => s3) (fun s3 => ?_) (fun j57 hj57 => ?_)
  · exact x_vret rfl dX12_index_57
  refine x_if_eq (tgt := 57) dX12_index_4 (by decide) (fun _ => ?_) (fun _ => ?_)
  · exact x_weak (by exact trivial) (hj57 M1)
  · refine x_aload_n dX12_index_7 rfl ?_
    refine cmX12_436 rfl hs (Nat.le_of_ble_eq_true rfl) dX12_index_8 (fun M4 => ?_)
    refine x_aload_n dX12_index_11 rfl ?_
    refine cmX12_473 rfl hs (Nat.le_of_ble_eq_true rfl) dX12_index_12 (fun M5 => ?_)
    refine x_aload_n dX12_index_15 rfl ?_
    refine gfX12_395 rfl dX12_index_16 (fun x6 => ?_)
    refine x_if_ne (tgt := 57) dX12_index_19 (by decide) (fun _ => ?_) (fun _ => ?_)
    · refine x_aload_n dX12_index_22 rfl ?_
      refine x_aload_n dX12_index_23 rfl ?_
      refine gfX12_408 rfl dX12_index_24 (fun x7 => ?_)
      refine x_bipush (v := 93) dX12_index_27 (by decide) ?_
      refine x_jn (σ := Int32) 37 (fun s8 => [some (va_rf a0)]) (fun s8 => [.int s8, va_rf a0]) (fun s8 => M5) (fun s8 => ?_) (fun j37 hj37 => ?_)
      · refine cmX12_432 rfl hs (Nat.le_of_ble_eq_true rfl) dX12_index_37 (fun x10 M9 => ?_)
        refine x_if_eq (tgt := 57) dX12_index_40 (by decide) (fun _ => ?_) (fun _ => ?_)
        · exact x_weak (by exact trivial) (hj57 M9)
        · refine x_aload_n dX12_index_43 rfl ?_
          refine x_dup dX12_index_44 (xc1_r _) ?_
          refine gfX12_459 rfl dX12_index_45 (fun x11 => ?_)
          refine x_iconst (v := 1) dX12_index_48 (by decide) ?_
          refine x_isub dX12_index_49 ?_
          refine pfX12_459 rfl dX12_index_50 (fun M12 => ?_)
          refine x_aload_n dX12_index_53 rfl ?_
          refine cmX12_436 rfl hs (Nat.le_of_ble_eq_true rfl) dX12_index_54 (fun M13 => ?_)
          exact x_weak (by exact trivial) (hj57 M13)
      refine x_icmp_ne (tgt := 36) dX12_index_29 (by decide) (fun _ => ?_) (fun _ => ?_)
      · refine x_iconst (v := 1) dX12_index_32 (by decide) ?_
        refine x_goto (tgt := 37) dX12_index_33 (by decide) ?_
        exact x_weak (by exact ⟨rfl, trivial⟩) (hj37 ((1 : Int32)))
      · refine x_iconst (v := 0) dX12_index_36 (by decide) ?_
        exact x_weak (by exact ⟨rfl, trivial⟩) (hj37 ((0 : Int32)))
    · exact x_weak (by exact trivial) (hj57 M5)
theorem s203 {l : Launch} {d : Nat} {rec : Nat → List Value → Mem → XA} (hS : Nonempty XS) (hs : XSnd l xmt rec d) : Snd1 l 203 (b203 rec) d := by
  intro as M r M' h0
  unfold b203 at h0
  obtain ⟨a0, l1, e1, h1⟩ := aR_inv h0
  obtain ⟨ez, h⟩ := aZ_inv h1
  subst ez
  subst e1
  exact xmet (M := M) (as := [va_rf a0]) (lo := [some (va_rf a0)]) 203 xq203 xm203 (by rw [xargs_rf, xargs_nil]; exact ⟨rfl, trivial⟩) (by rw [xargs_rf, xargs_nil]; exact Nat.le_of_ble_eq_true rfl) (fun S G K => x_weak (by exact ⟨rfl, trivial⟩) (k203 hs a0 M)) h hS
set_option maxRecDepth 100000 in
def c204 (rec : Nat → List Value → Mem → XA) (a0 : Option Nat) (a1 : Int32) (M0 : Mem) : XA :=
  vC (13, 157) M0 a0 <|
  cI (rec 200 [va_rf a0] M0) fun x2 M1 =>
  jn (fun (s3 : Int32 × Mem) =>
    gtP (13, 157) s3.2 a0 60 fun x4 =>
    asI 100 s3.2 x4 a1 s3.1 fun M5 =>
    vC (13, 157) M5 a0 <|
    cV (rec 202 [va_rf a0, .int a1, .int ((4 : Int32)), .int ((7 : Int32))] M5) fun M6 =>
    some (.null, M6)) fun j121 =>
  if x2 = 0 then (
    j121 ((0 : Int32), M1)) else (
    vC (13, 157) M1 a0 <|
    cV (rec 191 [va_rf a0] M1) fun M7 =>
    gtI (13, 157) M7 a0 41 fun x8 =>
    jn (fun (s9 : Int32) =>
      lp (fun (s10 : Int32 × Int32 × Mem) j35 =>
        if s10.2.1 = 0 then (
          gtI (13, 157) s10.2.2 a0 41 fun x11 =>
          if x11 = 0 then (
            gtI (13, 157) s10.2.2 a0 36 fun x12 =>
            jn (fun (s13 : Int32) =>
              vC (13, 157) s10.2.2 a0 <|
              cI (rec 193 [va_rf a0, .int s13] s10.2.2) fun x15 M14 =>
              if x15 = 0 then (
                j121 (s10.1, M14)) else (
                gtI (13, 157) M14 a0 50 fun x16 =>
                ptI (13, 157) M14 a0 50 (x16 - ((1 : Int32))) fun M17 =>
                vC (13, 157) M17 a0 <|
                cV (rec 191 [va_rf a0] M17) fun M18 =>
                j121 (s10.1, M18))) fun j101 =>
            if x12 = ((41 : Int32)) then (
              j101 ((1 : Int32))) else (
              j101 ((0 : Int32)))) else (
            j121 (s10.1, s10.2.2))) else (
          vC (13, 157) s10.2.2 a0 <|
          cV (rec 211 [va_rf a0] s10.2.2) fun M19 =>
          lt (s10.1 + (1 : Int32)) fun (x20 : Int32) =>
          gtI (13, 157) M19 a0 41 fun x21 =>
          jn (fun (s22 : Int32) =>
            if s22 = 0 then (
              j35 (x20, s22, M19)) else (
              vC (13, 157) M19 a0 <|
              cV (rec 191 [va_rf a0] M19) fun M23 =>
              j35 (x20, s22, M23))) fun j67 =>
          jn (fun (s24 : Unit) =>
            j67 ((0 : Int32))) fun j66 =>
          if x21 = 0 then (
            gtI (13, 157) M19 a0 36 fun x25 =>
            if x25 = ((44 : Int32)) then (
              j67 ((1 : Int32))) else (
              j66 ())) else (
            j66 ()))) 4294967296 ((0 : Int32), s9, M7)) fun j34 =>
    jn (fun (s26 : Unit) =>
      j34 ((0 : Int32))) fun j33 =>
    if x8 = 0 then (
      gtI (13, 157) M7 a0 36 fun x27 =>
      if x27 = ((41 : Int32)) then (
        j33 ()) else (
        j34 ((1 : Int32)))) else (
      j33 ()))
def b204 (rec : Nat → List Value → Mem → XA) (as : List Value) (M0 : Mem) : XA := aR as fun a0 as => aI as fun a1 as => aZ as (c204 rec a0 a1 M0)
set_option maxRecDepth 100000 in
set_option maxHeartbeats 4000000 in
theorem k204 {S : XS} {G : XG} {K : Nat × Nat} {l : Launch} {d : Nat} {rec : Nat → List Value → Mem → XA} (hs : XSnd l xmt rec d) (a0 : Option Nat) (a1 : Int32) (M0 : Mem) : Xe S G K l (yX12_call, cX12_call, 4, none) d 0 [some (va_rf a0), some (.int a1), none, none] [] M0 (c204 rec a0 a1 M0) := by
  unfold c204
  refine x_iconst (v := 0) dX12_call_0 (by decide) ?_
  refine x_istore_n (lo' := [some (va_rf a0), some (.int a1), some (.int ((0 : Int32))), none]) dX12_call_1 (by decide) rfl rfl ?_
  refine x_aload_n dX12_call_2 rfl ?_
  refine cmX12_469 rfl hs (Nat.le_of_ble_eq_true rfl) dX12_call_3 (fun x2 M1 => ?_)
  refine x_jn (σ := Int32 × Mem) 121 (fun s3 => [some (va_rf a0), some (.int a1), some (.int s3.1), none]) (fun s3 => []) (fun s3 => s3.2) (fun s3 => ?_) (fun j121 hj121 => ?_)
  · refine x_aload_n dX12_call_121 rfl ?_
    refine gfX12_209 rfl dX12_call_122 (fun x4 => ?_)
    refine x_iload_n dX12_call_125 rfl ?_
    refine x_iload_n dX12_call_126 rfl ?_
    refine x_iast dX12_call_127 (fun M5 => ?_)
    refine x_aload_n dX12_call_128 rfl ?_
    refine x_iload_n dX12_call_129 rfl ?_
    refine x_iconst (v := 4) dX12_call_130 (by decide) ?_
    refine x_bipush (v := 7) dX12_call_131 (by decide) ?_
    refine cmX12_476 rfl hs (Nat.le_of_ble_eq_true rfl) dX12_call_133 (fun M6 => ?_)
    exact x_vret rfl dX12_call_136
  refine x_if_eq (tgt := 121) dX12_call_6 (by decide) (fun _ => ?_) (fun _ => ?_)
  · exact x_weak (by exact ⟨rfl, ⟨rfl, ⟨rfl, trivial⟩⟩⟩) (hj121 ((0 : Int32), M1))
  · refine x_aload_n dX12_call_9 rfl ?_
    refine cmX12_436 rfl hs (Nat.le_of_ble_eq_true rfl) dX12_call_10 (fun M7 => ?_)
    refine x_aload_n dX12_call_13 rfl ?_
    refine gfX12_395 rfl dX12_call_14 (fun x8 => ?_)
    refine x_jn (σ := Int32) 34 (fun s9 => [some (va_rf a0), some (.int a1), some (.int ((0 : Int32))), none]) (fun s9 => [.int s9]) (fun s9 => M7) (fun s9 => ?_) (fun j34 hj34 => ?_)
    · refine x_istore_n (lo' := [some (va_rf a0), some (.int a1), some (.int ((0 : Int32))), some (.int s9)]) dX12_call_34 (by decide) rfl rfl ?_
      refine x_weak (by exact ⟨rfl, ⟨rfl, ⟨rfl, ⟨rfl, trivial⟩⟩⟩⟩) (x_lp (σ := Int32 × Int32 × Mem) 35 (fun s10 => [some (va_rf a0), some (.int a1), some (.int s10.1), some (.int s10.2.1)]) (fun s10 => []) (fun s10 => s10.2.2) (fun s10 j35 hj35 => ?_) 4294967296 ((0 : Int32), s9, M7))
      · refine x_iload_n dX12_call_35 rfl ?_
        refine x_if_eq (tgt := 79) dX12_call_36 (by decide) (fun _ => ?_) (fun _ => ?_)
        · refine x_aload_n dX12_call_79 rfl ?_
          refine gfX12_395 rfl dX12_call_80 (fun x11 => ?_)
          refine x_if_ne (tgt := 121) dX12_call_83 (by decide) (fun _ => ?_) (fun _ => ?_)
          · refine x_aload_n dX12_call_86 rfl ?_
            refine x_aload_n dX12_call_87 rfl ?_
            refine gfX12_408 rfl dX12_call_88 (fun x12 => ?_)
            refine x_bipush (v := 41) dX12_call_91 (by decide) ?_
            refine x_jn (σ := Int32) 101 (fun s13 => [some (va_rf a0), some (.int a1), some (.int s10.1), none]) (fun s13 => [.int s13, va_rf a0]) (fun s13 => s10.2.2) (fun s13 => ?_) (fun j101 hj101 => ?_)
            · refine cmX12_432 rfl hs (Nat.le_of_ble_eq_true rfl) dX12_call_101 (fun x15 M14 => ?_)
              refine x_if_eq (tgt := 121) dX12_call_104 (by decide) (fun _ => ?_) (fun _ => ?_)
              · exact x_weak (by exact ⟨rfl, ⟨rfl, ⟨rfl, trivial⟩⟩⟩) (hj121 (s10.1, M14))
              · refine x_aload_n dX12_call_107 rfl ?_
                refine x_dup dX12_call_108 (xc1_r _) ?_
                refine gfX12_459 rfl dX12_call_109 (fun x16 => ?_)
                refine x_iconst (v := 1) dX12_call_112 (by decide) ?_
                refine x_isub dX12_call_113 ?_
                refine pfX12_459 rfl dX12_call_114 (fun M17 => ?_)
                refine x_aload_n dX12_call_117 rfl ?_
                refine cmX12_436 rfl hs (Nat.le_of_ble_eq_true rfl) dX12_call_118 (fun M18 => ?_)
                exact x_weak (by exact ⟨rfl, ⟨rfl, ⟨rfl, trivial⟩⟩⟩) (hj121 (s10.1, M18))
            refine x_icmp_ne (tgt := 100) dX12_call_93 (by decide) (fun _ => ?_) (fun _ => ?_)
            · refine x_iconst (v := 1) dX12_call_96 (by decide) ?_
              refine x_goto (tgt := 101) dX12_call_97 (by decide) ?_
              exact x_weak (by exact ⟨rfl, ⟨rfl, ⟨rfl, trivial⟩⟩⟩) (hj101 ((1 : Int32)))
            · refine x_iconst (v := 0) dX12_call_100 (by decide) ?_
              exact x_weak (by exact ⟨rfl, ⟨rfl, ⟨rfl, trivial⟩⟩⟩) (hj101 ((0 : Int32)))
          · exact x_weak (by exact ⟨rfl, ⟨rfl, ⟨rfl, trivial⟩⟩⟩) (hj121 (s10.1, s10.2.2))
        · refine x_aload_n dX12_call_39 rfl ?_
          refine cmX12_473 rfl hs (Nat.le_of_ble_eq_true rfl) dX12_call_40 (fun M19 => ?_)
          refine x_iincN (v := 1) (lo' := fun x20 => [some (va_rf a0), some (.int a1), some (.int x20), some (.int s10.2.1)]) (by decide) dX12_call_43 rfl (by decide) rfl (fun _ => rfl) (fun x20 => ?_)
          refine x_aload_n dX12_call_46 rfl ?_
          refine gfX12_395 rfl dX12_call_47 (fun x21 => ?_)
          refine x_jn (σ := Int32) 67 (fun s22 => [some (va_rf a0), some (.int a1), some (.int x20), none]) (fun s22 => [.int s22]) (fun s22 => M19) (fun s22 => ?_) (fun j67 hj67 => ?_)
          · refine x_istore_n (lo' := [some (va_rf a0), some (.int a1), some (.int x20), some (.int s22)]) dX12_call_67 (by decide) rfl rfl ?_
            refine x_iload_n dX12_call_68 rfl ?_
            refine x_if_eq (tgt := 35) dX12_call_69 (by decide) (fun _ => ?_) (fun _ => ?_)
            · exact x_weak (by exact ⟨rfl, ⟨rfl, ⟨rfl, ⟨rfl, trivial⟩⟩⟩⟩) (hj35 (x20, s22, M19))
            · refine x_aload_n dX12_call_72 rfl ?_
              refine cmX12_436 rfl hs (Nat.le_of_ble_eq_true rfl) dX12_call_73 (fun M23 => ?_)
              refine x_goto (tgt := 35) dX12_call_76 (by decide) ?_
              exact x_weak (by exact ⟨rfl, ⟨rfl, ⟨rfl, ⟨rfl, trivial⟩⟩⟩⟩) (hj35 (x20, s22, M23))
          refine x_jn (σ := Unit) 66 (fun s24 => [some (va_rf a0), some (.int a1), some (.int x20), none]) (fun s24 => []) (fun s24 => M19) (fun s24 => ?_) (fun j66 hj66 => ?_)
          · refine x_iconst (v := 0) dX12_call_66 (by decide) ?_
            exact x_weak (by exact ⟨rfl, ⟨rfl, ⟨rfl, trivial⟩⟩⟩) (hj67 ((0 : Int32)))
          refine x_if_ne (tgt := 66) dX12_call_50 (by decide) (fun _ => ?_) (fun _ => ?_)
          · refine x_aload_n dX12_call_53 rfl ?_
            refine gfX12_408 rfl dX12_call_54 (fun x25 => ?_)
            refine x_bipush (v := 44) dX12_call_57 (by decide) ?_
            refine x_icmp_ne (tgt := 66) dX12_call_59 (by decide) (fun _ => ?_) (fun _ => ?_)
            · refine x_iconst (v := 1) dX12_call_62 (by decide) ?_
              refine x_goto (tgt := 67) dX12_call_63 (by decide) ?_
              exact x_weak (by exact ⟨rfl, ⟨rfl, ⟨rfl, trivial⟩⟩⟩) (hj67 ((1 : Int32)))
            · exact x_weak (by exact ⟨rfl, ⟨rfl, ⟨rfl, trivial⟩⟩⟩) (hj66 ())
          · exact x_weak (by exact ⟨rfl, ⟨rfl, ⟨rfl, trivial⟩⟩⟩) (hj66 ())
    refine x_jn (σ := Unit) 33 (fun s26 => [some (va_rf a0), some (.int a1), some (.int ((0 : Int32))), none]) (fun s26 => []) (fun s26 => M7) (fun s26 => ?_) (fun j33 hj33 => ?_)
    · refine x_iconst (v := 0) dX12_call_33 (by decide) ?_
      exact x_weak (by exact ⟨rfl, ⟨rfl, ⟨rfl, trivial⟩⟩⟩) (hj34 ((0 : Int32)))
    refine x_if_ne (tgt := 33) dX12_call_17 (by decide) (fun _ => ?_) (fun _ => ?_)
    · refine x_aload_n dX12_call_20 rfl ?_
      refine gfX12_408 rfl dX12_call_21 (fun x27 => ?_)
      refine x_bipush (v := 41) dX12_call_24 (by decide) ?_
      refine x_icmp_eq (tgt := 33) dX12_call_26 (by decide) (fun _ => ?_) (fun _ => ?_)
      · exact x_weak (by exact ⟨rfl, ⟨rfl, ⟨rfl, trivial⟩⟩⟩) (hj33 ())
      · refine x_iconst (v := 1) dX12_call_29 (by decide) ?_
        refine x_goto (tgt := 34) dX12_call_30 (by decide) ?_
        exact x_weak (by exact ⟨rfl, ⟨rfl, ⟨rfl, trivial⟩⟩⟩) (hj34 ((1 : Int32)))
    · exact x_weak (by exact ⟨rfl, ⟨rfl, ⟨rfl, trivial⟩⟩⟩) (hj33 ())
theorem s204 {l : Launch} {d : Nat} {rec : Nat → List Value → Mem → XA} (hS : Nonempty XS) (hs : XSnd l xmt rec d) : Snd1 l 204 (b204 rec) d := by
  intro as M r M' h0
  unfold b204 at h0
  obtain ⟨a0, l1, e1, h1⟩ := aR_inv h0
  obtain ⟨a1, l2, e2, h2⟩ := aI_inv h1
  obtain ⟨ez, h⟩ := aZ_inv h2
  subst ez
  subst e2
  subst e1
  exact xmet (M := M) (as := [va_rf a0, .int a1]) (lo := [some (va_rf a0), some (.int a1)]) 204 xq204 xm204 (by rw [xargs_rf, xargs_i, xargs_nil]; exact ⟨rfl, ⟨rfl, trivial⟩⟩) (by rw [xargs_rf, xargs_i, xargs_nil]; exact Nat.le_of_ble_eq_true rfl) (fun S G K => x_weak (by exact ⟨rfl, ⟨rfl, trivial⟩⟩) (k204 hs a0 a1 M)) h hS
set_option maxRecDepth 100000 in
def c205 (rec : Nat → List Value → Mem → XA) (a0 : Option Nat) (M0 : Mem) : XA :=
  vC (13, 157) M0 a0 <|
  cI (rec 201 [va_rf a0] M0) fun x2 M1 =>
  gtI (13, 157) M1 a0 41 fun x3 =>
  if x3 = 0 then (
    gtP (13, 157) M1 a0 56 fun x4 =>
    alL M1 x4 x2 fun x5 =>
    jn (fun (s6 : Int32 × Mem) =>
      gtI (13, 157) s6.2 a0 36 fun x7 =>
      jn (fun (s8 : Mem) =>
        some (.null, s8)) fun j110 =>
      if x7 = ((40 : Int32)) then (
        vC (13, 157) s6.2 a0 <|
        cV (rec 204 [va_rf a0, .int x2] s6.2) fun M9 =>
        j110 M9) else (
        gtI (13, 157) s6.2 a0 36 fun x10 =>
        if x10 = ((91 : Int32)) then (
          vC (13, 157) s6.2 a0 <|
          cV (rec 203 [va_rf a0] s6.2) fun M11 =>
          vC (13, 157) M11 a0 <|
          cV (rec 202 [va_rf a0, .int x2, .int ((2 : Int32)), .int ((5 : Int32))] M11) fun M12 =>
          j110 M12) else (
          if s6.1 < 0 then (
            vC (13, 157) s6.2 a0 <|
            cV (rec 202 [va_rf a0, .int x2, .int ((0 : Int32)), .int ((3 : Int32))] s6.2) fun M13 =>
            j110 M13) else (
            gtI (13, 157) s6.2 a0 53 fun x14 =>
            ptI (13, 157) s6.2 a0 53 (x14 - ((1 : Int32))) fun M15 =>
            vC (13, 157) M15 a0 <|
            cI (rec 196 [va_rf a0, .int ((1 : Int32)), .int s6.1] M15) fun x17 M16 =>
            j110 M16)))) fun j38 =>
    if (lg_cmp x5 ((0 : Int64))) = 0 then (
      gtP (13, 157) M1 a0 58 fun x18 =>
      alL M1 x18 x2 fun x19 =>
      vC (13, 157) M1 a0 <|
      cI (rec 197 [va_rf a0, .long x19] M1) fun x21 M20 =>
      j38 (x21, M20)) else (
      j38 ((-1 : Int32), M1))) else (
    some (.null, M1))
def b205 (rec : Nat → List Value → Mem → XA) (as : List Value) (M0 : Mem) : XA := aR as fun a0 as => aZ as (c205 rec a0 M0)
set_option maxRecDepth 100000 in
set_option maxHeartbeats 4000000 in
theorem k205 {S : XS} {G : XG} {K : Nat × Nat} {l : Launch} {d : Nat} {rec : Nat → List Value → Mem → XA} (hs : XSnd l xmt rec d) (a0 : Option Nat) (M0 : Mem) : Xe S G K l (yX12_value, cX12_value, 3, none) d 0 [some (va_rf a0), none, none] [] M0 (c205 rec a0 M0) := by
  unfold c205
  refine x_aload_n dX12_value_0 rfl ?_
  refine cmX12_480 rfl hs (Nat.le_of_ble_eq_true rfl) dX12_value_1 (fun x2 M1 => ?_)
  refine x_istore_n (lo' := [some (va_rf a0), some (.int x2), none]) dX12_value_4 (by decide) (xok_r rfl) rfl ?_
  refine x_aload_n dX12_value_5 rfl ?_
  refine gfX12_395 rfl dX12_value_6 (fun x3 => ?_)
  refine x_if_eq (tgt := 13) dX12_value_9 (by decide) (fun _ => ?_) (fun _ => ?_)
  · refine x_aload_n dX12_value_13 rfl ?_
    refine gfX12_197 rfl dX12_value_14 (fun x4 => ?_)
    refine x_iload_n dX12_value_17 rfl ?_
    refine x_lald dX12_value_18 (fun x5 => ?_)
    refine x_lconst (v := 0) dX12_value_19 (by decide) ?_
    refine x_lcmp dX12_value_20 ?_
    refine x_jn (σ := Int32 × Mem) 38 (fun s6 => [some (va_rf a0), some (.int x2), none]) (fun s6 => [.int s6.1]) (fun s6 => s6.2) (fun s6 => ?_) (fun j38 hj38 => ?_)
    · refine x_istore_n (lo' := [some (va_rf a0), some (.int x2), some (.int s6.1)]) dX12_value_38 (by decide) rfl rfl ?_
      refine x_aload_n dX12_value_39 rfl ?_
      refine gfX12_408 rfl dX12_value_40 (fun x7 => ?_)
      refine x_bipush (v := 40) dX12_value_43 (by decide) ?_
      refine x_jn (σ := Mem) 110 (fun s8 => [none, none, none]) (fun s8 => []) (fun s8 => s8) (fun s8 => ?_) (fun j110 hj110 => ?_)
      · exact x_vret rfl dX12_value_110
      refine x_icmp_ne (tgt := 56) dX12_value_45 (by decide) (fun _ => ?_) (fun _ => ?_)
      · refine x_aload_n dX12_value_48 rfl ?_
        refine x_iload_n dX12_value_49 rfl ?_
        refine cmX12_483 rfl hs (Nat.le_of_ble_eq_true rfl) dX12_value_50 (fun M9 => ?_)
        refine x_goto (tgt := 110) dX12_value_53 (by decide) ?_
        exact x_weak (by exact trivial) (hj110 M9)
      · refine x_aload_n dX12_value_56 rfl ?_
        refine gfX12_408 rfl dX12_value_57 (fun x10 => ?_)
        refine x_bipush (v := 91) dX12_value_60 (by decide) ?_
        refine x_icmp_ne (tgt := 79) dX12_value_62 (by decide) (fun _ => ?_) (fun _ => ?_)
        · refine x_aload_n dX12_value_65 rfl ?_
          refine cmX12_487 rfl hs (Nat.le_of_ble_eq_true rfl) dX12_value_66 (fun M11 => ?_)
          refine x_aload_n dX12_value_69 rfl ?_
          refine x_iload_n dX12_value_70 rfl ?_
          refine x_iconst (v := 2) dX12_value_71 (by decide) ?_
          refine x_iconst (v := 5) dX12_value_72 (by decide) ?_
          refine cmX12_476 rfl hs (Nat.le_of_ble_eq_true rfl) dX12_value_73 (fun M12 => ?_)
          refine x_goto (tgt := 110) dX12_value_76 (by decide) ?_
          exact x_weak (by exact trivial) (hj110 M12)
        · refine x_iload_n dX12_value_79 rfl ?_
          refine x_if_lt (tgt := 103) dX12_value_80 (by decide) (fun _ => ?_) (fun _ => ?_)
          · refine x_aload_n dX12_value_103 rfl ?_
            refine x_iload_n dX12_value_104 rfl ?_
            refine x_iconst (v := 0) dX12_value_105 (by decide) ?_
            refine x_iconst (v := 3) dX12_value_106 (by decide) ?_
            refine cmX12_476 rfl hs (Nat.le_of_ble_eq_true rfl) dX12_value_107 (fun M13 => ?_)
            exact x_weak (by exact trivial) (hj110 M13)
          · refine x_aload_n dX12_value_83 rfl ?_
            refine x_dup dX12_value_84 (xc1_r _) ?_
            refine gfX12_462 rfl dX12_value_85 (fun x14 => ?_)
            refine x_iconst (v := 1) dX12_value_88 (by decide) ?_
            refine x_isub dX12_value_89 ?_
            refine pfX12_462 rfl dX12_value_90 (fun M15 => ?_)
            refine x_aload_n dX12_value_93 rfl ?_
            refine x_iconst (v := 1) dX12_value_94 (by decide) ?_
            refine x_iload_n dX12_value_95 rfl ?_
            refine cmX12_465 rfl hs (Nat.le_of_ble_eq_true rfl) dX12_value_96 (fun x17 M16 => ?_)
            refine x_pop dX12_value_99 (xc1_i _) ?_
            refine x_goto (tgt := 110) dX12_value_100 (by decide) ?_
            exact x_weak (by exact trivial) (hj110 M16)
    refine x_if_ne (tgt := 37) dX12_value_21 (by decide) (fun _ => ?_) (fun _ => ?_)
    · refine x_aload_n dX12_value_24 rfl ?_
      refine x_aload_n dX12_value_25 rfl ?_
      refine gfX12_203 rfl dX12_value_26 (fun x18 => ?_)
      refine x_iload_n dX12_value_29 rfl ?_
      refine x_lald dX12_value_30 (fun x19 => ?_)
      refine cmX12_451 rfl hs (Nat.le_of_ble_eq_true rfl) dX12_value_31 (fun x21 M20 => ?_)
      refine x_goto (tgt := 38) dX12_value_34 (by decide) ?_
      exact x_weak (by exact ⟨rfl, ⟨rfl, trivial⟩⟩) (hj38 (x21, M20))
    · refine x_iconst (v := -1) dX12_value_37 (by decide) ?_
      exact x_weak (by exact ⟨rfl, ⟨rfl, trivial⟩⟩) (hj38 ((-1 : Int32), M1))
  · exact x_vret rfl dX12_value_12
theorem s205 {l : Launch} {d : Nat} {rec : Nat → List Value → Mem → XA} (hS : Nonempty XS) (hs : XSnd l xmt rec d) : Snd1 l 205 (b205 rec) d := by
  intro as M r M' h0
  unfold b205 at h0
  obtain ⟨a0, l1, e1, h1⟩ := aR_inv h0
  obtain ⟨ez, h⟩ := aZ_inv h1
  subst ez
  subst e1
  exact xmet (M := M) (as := [va_rf a0]) (lo := [some (va_rf a0)]) 205 xq205 xm205 (by rw [xargs_rf, xargs_nil]; exact ⟨rfl, trivial⟩) (by rw [xargs_rf, xargs_nil]; exact Nat.le_of_ble_eq_true rfl) (fun S G K => x_weak (by exact ⟨rfl, trivial⟩) (k205 hs a0 M)) h hS
set_option maxRecDepth 100000 in
def c206 (rec : Nat → List Value → Mem → XA) (a0 : Option Nat) (M0 : Mem) : XA :=
  gtI (13, 157) M0 a0 41 fun x1 =>
  jn (fun (s2 : Mem) =>
    some (.null, s2)) fun j63 =>
  if x1 = 0 then (
    gtI (13, 157) M0 a0 36 fun x3 =>
    jn (fun (s4 : Int32) =>
      vC (13, 157) M0 a0 <|
      cI (rec 193 [va_rf a0, .int s4] M0) fun x6 M5 =>
      if x6 = 0 then (
        j63 M5) else (
        gtI (13, 157) M5 a0 36 fun x7 =>
        jn (fun (s8 : Mem) =>
          some (.null, s8)) fun j202 =>
        if x7 = ((2 : Int32)) then (
          gtI (13, 157) M5 a0 40 fun x9 =>
          vC (13, 157) M5 a0 <|
          cI (rec 196 [va_rf a0, .int ((0 : Int32)), .int x9] M5) fun x11 M10 =>
          vC (13, 157) M10 a0 <|
          cV (rec 191 [va_rf a0] M10) fun M12 =>
          j202 M12) else (
          if x7 = ((1 : Int32)) then (
            vC (13, 157) M5 a0 <|
            cV (rec 205 [va_rf a0] M5) fun M13 =>
            j202 M13) else (
            vC (13, 157) M5 a0 <|
            cI (rec 200 [va_rf a0] M5) fun x15 M14 =>
            if x15 = 0 then (
              j202 M14) else (
              vC (13, 157) M14 a0 <|
              cV (rec 191 [va_rf a0] M14) fun M16 =>
              if x7 = ((40 : Int32)) then (
                vC (13, 157) M16 a0 <|
                cV (rec 211 [va_rf a0] M16) fun M17 =>
                gtI (13, 157) M17 a0 41 fun x18 =>
                if x18 = 0 then (
                  gtI (13, 157) M17 a0 36 fun x19 =>
                  jn (fun (s20 : Int32) =>
                    vC (13, 157) M17 a0 <|
                    cI (rec 193 [va_rf a0, .int s20] M17) fun x22 M21 =>
                    if x22 = 0 then (
                      j202 M21) else (
                      gtI (13, 157) M21 a0 50 fun x23 =>
                      ptI (13, 157) M21 a0 50 (x23 - ((1 : Int32))) fun M24 =>
                      vC (13, 157) M24 a0 <|
                      cV (rec 191 [va_rf a0] M24) fun M25 =>
                      j202 M25)) fun j146 =>
                  if x19 = ((41 : Int32)) then (
                    j146 ((1 : Int32))) else (
                    j146 ((0 : Int32)))) else (
                  j202 M17)) else (
                vC (13, 157) M16 a0 <|
                cV (rec 206 [va_rf a0] M16) fun M26 =>
                gtI (13, 157) M26 a0 50 fun x27 =>
                ptI (13, 157) M26 a0 50 (x27 - ((1 : Int32))) fun M28 =>
                jn (fun (s29 : Int32) =>
                  vC (13, 157) M28 a0 <|
                  cI (rec 196 [va_rf a0, .int s29, .int ((0 : Int32))] M28) fun x31 M30 =>
                  j202 M30) fun j197 =>
                if x7 = ((45 : Int32)) then (
                  j197 ((22 : Int32))) else (
                  j197 ((23 : Int32))))))))) fun j57 =>
    jn (fun (s32 : Unit) =>
      j57 ((1 : Int32))) fun j52 =>
    if x3 = ((2 : Int32)) then (
      j52 ()) else (
      gtI (13, 157) M0 a0 36 fun x33 =>
      if x33 = ((45 : Int32)) then (
        j52 ()) else (
        gtI (13, 157) M0 a0 36 fun x34 =>
        if x34 = ((425 : Int32)) then (
          j52 ()) else (
          gtI (13, 157) M0 a0 36 fun x35 =>
          if x35 = ((40 : Int32)) then (
            j52 ()) else (
            gtI (13, 157) M0 a0 36 fun x36 =>
            if x36 = ((1 : Int32)) then (
              j52 ()) else (
              j57 ((0 : Int32)))))))) else (
    j63 M0)
def b206 (rec : Nat → List Value → Mem → XA) (as : List Value) (M0 : Mem) : XA := aR as fun a0 as => aZ as (c206 rec a0 M0)
set_option maxRecDepth 100000 in
set_option maxHeartbeats 4000000 in
theorem k206 {S : XS} {G : XG} {K : Nat × Nat} {l : Launch} {d : Nat} {rec : Nat → List Value → Mem → XA} (hs : XSnd l xmt rec d) (a0 : Option Nat) (M0 : Mem) : Xe S G K l (yX12_factor, cX12_factor, 2, none) d 0 [some (va_rf a0), none] [] M0 (c206 rec a0 M0) := by
  unfold c206
  refine x_aload_n dX12_factor_0 rfl ?_
  refine gfX12_395 rfl dX12_factor_1 (fun x1 => ?_)
  refine x_jn (σ := Mem) 63 (fun s2 => [none, none]) (fun s2 => []) (fun s2 => s2) (fun s2 => ?_) (fun j63 hj63 => ?_)
  · exact x_vret rfl dX12_factor_63
  refine x_if_ne (tgt := 63) dX12_factor_4 (by decide) (fun _ => ?_) (fun _ => ?_)
  · refine x_aload_n dX12_factor_7 rfl ?_
    refine x_aload_n dX12_factor_8 rfl ?_
    refine gfX12_408 rfl dX12_factor_9 (fun x3 => ?_)
    refine x_iconst (v := 2) dX12_factor_12 (by decide) ?_
    refine x_jn (σ := Int32) 57 (fun s4 => [some (va_rf a0), none]) (fun s4 => [.int s4, va_rf a0]) (fun s4 => M0) (fun s4 => ?_) (fun j57 hj57 => ?_)
    · refine cmX12_432 rfl hs (Nat.le_of_ble_eq_true rfl) dX12_factor_57 (fun x6 M5 => ?_)
      refine x_if_ne (tgt := 64) dX12_factor_60 (by decide) (fun _ => ?_) (fun _ => ?_)
      · exact x_weak (by exact trivial) (hj63 M5)
      · refine x_aload_n dX12_factor_64 rfl ?_
        refine gfX12_408 rfl dX12_factor_65 (fun x7 => ?_)
        refine x_istore_n (lo' := [some (va_rf a0), some (.int x7)]) dX12_factor_68 (by decide) (xok_r rfl) rfl ?_
        refine x_iload_n dX12_factor_69 rfl ?_
        refine x_iconst (v := 2) dX12_factor_70 (by decide) ?_
        refine x_jn (σ := Mem) 202 (fun s8 => [none, none]) (fun s8 => []) (fun s8 => s8) (fun s8 => ?_) (fun j202 hj202 => ?_)
        · exact x_vret rfl dX12_factor_202
        refine x_icmp_ne (tgt := 91) dX12_factor_71 (by decide) (fun _ => ?_) (fun _ => ?_)
        · refine x_aload_n dX12_factor_74 rfl ?_
          refine x_iconst (v := 0) dX12_factor_75 (by decide) ?_
          refine x_aload_n dX12_factor_76 rfl ?_
          refine gfX12_422 rfl dX12_factor_77 (fun x9 => ?_)
          refine cmX12_465 rfl hs (Nat.le_of_ble_eq_true rfl) dX12_factor_80 (fun x11 M10 => ?_)
          refine x_pop dX12_factor_83 (xc1_i _) ?_
          refine x_aload_n dX12_factor_84 rfl ?_
          refine cmX12_436 rfl hs (Nat.le_of_ble_eq_true rfl) dX12_factor_85 (fun M12 => ?_)
          refine x_goto (tgt := 202) dX12_factor_88 (by decide) ?_
          exact x_weak (by exact trivial) (hj202 M12)
        · refine x_iload_n dX12_factor_91 rfl ?_
          refine x_iconst (v := 1) dX12_factor_92 (by decide) ?_
          refine x_icmp_ne (tgt := 103) dX12_factor_93 (by decide) (fun _ => ?_) (fun _ => ?_)
          · refine x_aload_n dX12_factor_96 rfl ?_
            refine cmX12_490 rfl hs (Nat.le_of_ble_eq_true rfl) dX12_factor_97 (fun M13 => ?_)
            refine x_goto (tgt := 202) dX12_factor_100 (by decide) ?_
            exact x_weak (by exact trivial) (hj202 M13)
          · refine x_aload_n dX12_factor_103 rfl ?_
            refine cmX12_469 rfl hs (Nat.le_of_ble_eq_true rfl) dX12_factor_104 (fun x15 M14 => ?_)
            refine x_if_eq (tgt := 202) dX12_factor_107 (by decide) (fun _ => ?_) (fun _ => ?_)
            · exact x_weak (by exact trivial) (hj202 M14)
            · refine x_aload_n dX12_factor_110 rfl ?_
              refine cmX12_436 rfl hs (Nat.le_of_ble_eq_true rfl) dX12_factor_111 (fun M16 => ?_)
              refine x_iload_n dX12_factor_114 rfl ?_
              refine x_bipush (v := 40) dX12_factor_115 (by decide) ?_
              refine x_icmp_ne (tgt := 169) dX12_factor_117 (by decide) (fun _ => ?_) (fun _ => ?_)
              · refine x_aload_n dX12_factor_120 rfl ?_
                refine cmX12_473 rfl hs (Nat.le_of_ble_eq_true rfl) dX12_factor_121 (fun M17 => ?_)
                refine x_aload_n dX12_factor_124 rfl ?_
                refine gfX12_395 rfl dX12_factor_125 (fun x18 => ?_)
                refine x_if_ne (tgt := 202) dX12_factor_128 (by decide) (fun _ => ?_) (fun _ => ?_)
                · refine x_aload_n dX12_factor_131 rfl ?_
                  refine x_aload_n dX12_factor_132 rfl ?_
                  refine gfX12_408 rfl dX12_factor_133 (fun x19 => ?_)
                  refine x_bipush (v := 41) dX12_factor_136 (by decide) ?_
                  refine x_jn (σ := Int32) 146 (fun s20 => [some (va_rf a0), none]) (fun s20 => [.int s20, va_rf a0]) (fun s20 => M17) (fun s20 => ?_) (fun j146 hj146 => ?_)
                  · refine cmX12_432 rfl hs (Nat.le_of_ble_eq_true rfl) dX12_factor_146 (fun x22 M21 => ?_)
                    refine x_if_eq (tgt := 202) dX12_factor_149 (by decide) (fun _ => ?_) (fun _ => ?_)
                    · exact x_weak (by exact trivial) (hj202 M21)
                    · refine x_aload_n dX12_factor_152 rfl ?_
                      refine x_dup dX12_factor_153 (xc1_r _) ?_
                      refine gfX12_459 rfl dX12_factor_154 (fun x23 => ?_)
                      refine x_iconst (v := 1) dX12_factor_157 (by decide) ?_
                      refine x_isub dX12_factor_158 ?_
                      refine pfX12_459 rfl dX12_factor_159 (fun M24 => ?_)
                      refine x_aload_n dX12_factor_162 rfl ?_
                      refine cmX12_436 rfl hs (Nat.le_of_ble_eq_true rfl) dX12_factor_163 (fun M25 => ?_)
                      refine x_goto (tgt := 202) dX12_factor_166 (by decide) ?_
                      exact x_weak (by exact trivial) (hj202 M25)
                  refine x_icmp_ne (tgt := 145) dX12_factor_138 (by decide) (fun _ => ?_) (fun _ => ?_)
                  · refine x_iconst (v := 1) dX12_factor_141 (by decide) ?_
                    refine x_goto (tgt := 146) dX12_factor_142 (by decide) ?_
                    exact x_weak (by exact ⟨rfl, trivial⟩) (hj146 ((1 : Int32)))
                  · refine x_iconst (v := 0) dX12_factor_145 (by decide) ?_
                    exact x_weak (by exact ⟨rfl, trivial⟩) (hj146 ((0 : Int32)))
                · exact x_weak (by exact trivial) (hj202 M17)
              · refine x_aload_n dX12_factor_169 rfl ?_
                refine cmX12_493 rfl hs (Nat.le_of_ble_eq_true rfl) dX12_factor_170 (fun M26 => ?_)
                refine x_aload_n dX12_factor_173 rfl ?_
                refine x_dup dX12_factor_174 (xc1_r _) ?_
                refine gfX12_459 rfl dX12_factor_175 (fun x27 => ?_)
                refine x_iconst (v := 1) dX12_factor_178 (by decide) ?_
                refine x_isub dX12_factor_179 ?_
                refine pfX12_459 rfl dX12_factor_180 (fun M28 => ?_)
                refine x_aload_n dX12_factor_183 rfl ?_
                refine x_iload_n dX12_factor_184 rfl ?_
                refine x_bipush (v := 45) dX12_factor_185 (by decide) ?_
                refine x_jn (σ := Int32) 197 (fun s29 => [none, none]) (fun s29 => [.int s29, va_rf a0]) (fun s29 => M28) (fun s29 => ?_) (fun j197 hj197 => ?_)
                · refine x_iconst (v := 0) dX12_factor_197 (by decide) ?_
                  refine cmX12_465 rfl hs (Nat.le_of_ble_eq_true rfl) dX12_factor_198 (fun x31 M30 => ?_)
                  refine x_pop dX12_factor_201 (xc1_i _) ?_
                  exact x_weak (by exact trivial) (hj202 M30)
                refine x_icmp_ne (tgt := 195) dX12_factor_187 (by decide) (fun _ => ?_) (fun _ => ?_)
                · refine x_bipush (v := 22) dX12_factor_190 (by decide) ?_
                  refine x_goto (tgt := 197) dX12_factor_192 (by decide) ?_
                  exact x_weak (by exact trivial) (hj197 ((22 : Int32)))
                · refine x_bipush (v := 23) dX12_factor_195 (by decide) ?_
                  exact x_weak (by exact trivial) (hj197 ((23 : Int32)))
    refine x_jn (σ := Unit) 52 (fun s32 => [some (va_rf a0), none]) (fun s32 => [va_rf a0]) (fun s32 => M0) (fun s32 => ?_) (fun j52 hj52 => ?_)
    · refine x_iconst (v := 1) dX12_factor_52 (by decide) ?_
      refine x_goto (tgt := 57) dX12_factor_53 (by decide) ?_
      exact x_weak (by exact ⟨rfl, trivial⟩) (hj57 ((1 : Int32)))
    refine x_icmp_eq (tgt := 52) dX12_factor_13 (by decide) (fun _ => ?_) (fun _ => ?_)
    · exact x_weak (by exact ⟨rfl, trivial⟩) (hj52 ())
    · refine x_aload_n dX12_factor_16 rfl ?_
      refine gfX12_408 rfl dX12_factor_17 (fun x33 => ?_)
      refine x_bipush (v := 45) dX12_factor_20 (by decide) ?_
      refine x_icmp_eq (tgt := 52) dX12_factor_22 (by decide) (fun _ => ?_) (fun _ => ?_)
      · exact x_weak (by exact ⟨rfl, trivial⟩) (hj52 ())
      · refine x_aload_n dX12_factor_25 rfl ?_
        refine gfX12_408 rfl dX12_factor_26 (fun x34 => ?_)
        refine x_sipush (v := 425) dX12_factor_29 (by decide) ?_
        refine x_icmp_eq (tgt := 52) dX12_factor_32 (by decide) (fun _ => ?_) (fun _ => ?_)
        · exact x_weak (by exact ⟨rfl, trivial⟩) (hj52 ())
        · refine x_aload_n dX12_factor_35 rfl ?_
          refine gfX12_408 rfl dX12_factor_36 (fun x35 => ?_)
          refine x_bipush (v := 40) dX12_factor_39 (by decide) ?_
          refine x_icmp_eq (tgt := 52) dX12_factor_41 (by decide) (fun _ => ?_) (fun _ => ?_)
          · exact x_weak (by exact ⟨rfl, trivial⟩) (hj52 ())
          · refine x_aload_n dX12_factor_44 rfl ?_
            refine gfX12_408 rfl dX12_factor_45 (fun x36 => ?_)
            refine x_iconst (v := 1) dX12_factor_48 (by decide) ?_
            refine x_icmp_ne (tgt := 56) dX12_factor_49 (by decide) (fun _ => ?_) (fun _ => ?_)
            · exact x_weak (by exact ⟨rfl, trivial⟩) (hj52 ())
            · refine x_iconst (v := 0) dX12_factor_56 (by decide) ?_
              exact x_weak (by exact ⟨rfl, trivial⟩) (hj57 ((0 : Int32)))
  · exact x_weak (by exact trivial) (hj63 M0)
theorem s206 {l : Launch} {d : Nat} {rec : Nat → List Value → Mem → XA} (hS : Nonempty XS) (hs : XSnd l xmt rec d) : Snd1 l 206 (b206 rec) d := by
  intro as M r M' h0
  unfold b206 at h0
  obtain ⟨a0, l1, e1, h1⟩ := aR_inv h0
  obtain ⟨ez, h⟩ := aZ_inv h1
  subst ez
  subst e1
  exact xmet (M := M) (as := [va_rf a0]) (lo := [some (va_rf a0)]) 206 xq206 xm206 (by rw [xargs_rf, xargs_nil]; exact ⟨rfl, trivial⟩) (by rw [xargs_rf, xargs_nil]; exact Nat.le_of_ble_eq_true rfl) (fun S G K => x_weak (by exact ⟨rfl, trivial⟩) (k206 hs a0 M)) h hS
set_option maxRecDepth 100000 in
def c207 (rec : Nat → List Value → Mem → XA) (a0 : Option Nat) (M0 : Mem) : XA :=
  vC (13, 157) M0 a0 <|
  cV (rec 206 [va_rf a0] M0) fun M1 =>
  lp (fun (s2 : Mem) j4 =>
    gtI (13, 157) s2 a0 41 fun x3 =>
    jn (fun (s4 : Unit) =>
      some (.null, s2)) fun j87 =>
    if x3 = 0 then (
      gtI (13, 157) s2 a0 36 fun x5 =>
      jn (fun (s6 : Unit) =>
        gtI (13, 157) s2 a0 36 fun x7 =>
        jn (fun (s8 : Int32) =>
          vC (13, 157) s2 a0 <|
          cV (rec 191 [va_rf a0] s2) fun M9 =>
          vC (13, 157) M9 a0 <|
          cV (rec 206 [va_rf a0] M9) fun M10 =>
          vC (13, 157) M10 a0 <|
          cI (rec 196 [va_rf a0, .int s8, .int ((0 : Int32))] M10) fun x12 M11 =>
          j4 M11) fun j68 =>
        if x7 = ((42 : Int32)) then (
          j68 ((12 : Int32))) else (
          gtI (13, 157) s2 a0 36 fun x13 =>
          if x13 = ((47 : Int32)) then (
            j68 ((13 : Int32))) else (
            j68 ((14 : Int32))))) fun j38 =>
      if x5 = ((42 : Int32)) then (
        j38 ()) else (
        gtI (13, 157) s2 a0 36 fun x14 =>
        if x14 = ((47 : Int32)) then (
          j38 ()) else (
          gtI (13, 157) s2 a0 36 fun x15 =>
          if x15 = ((37 : Int32)) then (
            j38 ()) else (
            j87 ())))) else (
      j87 ())) 4294967296 M1
def b207 (rec : Nat → List Value → Mem → XA) (as : List Value) (M0 : Mem) : XA := aR as fun a0 as => aZ as (c207 rec a0 M0)
set_option maxRecDepth 100000 in
set_option maxHeartbeats 4000000 in
theorem k207 {S : XS} {G : XG} {K : Nat × Nat} {l : Launch} {d : Nat} {rec : Nat → List Value → Mem → XA} (hs : XSnd l xmt rec d) (a0 : Option Nat) (M0 : Mem) : Xe S G K l (yX12_product, cX12_product, 2, none) d 0 [some (va_rf a0), none] [] M0 (c207 rec a0 M0) := by
  unfold c207
  refine x_aload_n dX12_product_0 rfl ?_
  refine cmX12_493 rfl hs (Nat.le_of_ble_eq_true rfl) dX12_product_1 (fun M1 => ?_)
  refine x_weak (by exact ⟨rfl, trivial⟩) (x_lp (σ := Mem) 4 (fun s2 => [some (va_rf a0), none]) (fun s2 => []) (fun s2 => s2) (fun s2 j4 hj4 => ?_) 4294967296 M1)
  · refine x_aload_n dX12_product_4 rfl ?_
    refine gfX12_395 rfl dX12_product_5 (fun x3 => ?_)
    refine x_jn (σ := Unit) 87 (fun s4 => [none, none]) (fun s4 => []) (fun s4 => s2) (fun s4 => ?_) (fun j87 hj87 => ?_)
    · exact x_vret rfl dX12_product_87
    refine x_if_ne (tgt := 87) dX12_product_8 (by decide) (fun _ => ?_) (fun _ => ?_)
    · refine x_aload_n dX12_product_11 rfl ?_
      refine gfX12_408 rfl dX12_product_12 (fun x5 => ?_)
      refine x_bipush (v := 42) dX12_product_15 (by decide) ?_
      refine x_jn (σ := Unit) 38 (fun s6 => [some (va_rf a0), none]) (fun s6 => []) (fun s6 => s2) (fun s6 => ?_) (fun j38 hj38 => ?_)
      · refine x_aload_n dX12_product_38 rfl ?_
        refine gfX12_408 rfl dX12_product_39 (fun x7 => ?_)
        refine x_bipush (v := 42) dX12_product_42 (by decide) ?_
        refine x_jn (σ := Int32) 68 (fun s8 => [some (va_rf a0), none]) (fun s8 => [.int s8]) (fun s8 => s2) (fun s8 => ?_) (fun j68 hj68 => ?_)
        · refine x_istore_n (lo' := [some (va_rf a0), some (.int s8)]) dX12_product_68 (by decide) (xok_r rfl) rfl ?_
          refine x_aload_n dX12_product_69 rfl ?_
          refine cmX12_436 rfl hs (Nat.le_of_ble_eq_true rfl) dX12_product_70 (fun M9 => ?_)
          refine x_aload_n dX12_product_73 rfl ?_
          refine cmX12_493 rfl hs (Nat.le_of_ble_eq_true rfl) dX12_product_74 (fun M10 => ?_)
          refine x_aload_n dX12_product_77 rfl ?_
          refine x_iload_n dX12_product_78 rfl ?_
          refine x_iconst (v := 0) dX12_product_79 (by decide) ?_
          refine cmX12_465 rfl hs (Nat.le_of_ble_eq_true rfl) dX12_product_80 (fun x12 M11 => ?_)
          refine x_pop dX12_product_83 (xc1_i _) ?_
          refine x_goto (tgt := 4) dX12_product_84 (by decide) ?_
          exact x_weak (by exact ⟨rfl, trivial⟩) (hj4 M11)
        refine x_icmp_ne (tgt := 52) dX12_product_44 (by decide) (fun _ => ?_) (fun _ => ?_)
        · refine x_bipush (v := 12) dX12_product_47 (by decide) ?_
          refine x_goto (tgt := 68) dX12_product_49 (by decide) ?_
          exact x_weak (by exact ⟨rfl, trivial⟩) (hj68 ((12 : Int32)))
        · refine x_aload_n dX12_product_52 rfl ?_
          refine gfX12_408 rfl dX12_product_53 (fun x13 => ?_)
          refine x_bipush (v := 47) dX12_product_56 (by decide) ?_
          refine x_icmp_ne (tgt := 66) dX12_product_58 (by decide) (fun _ => ?_) (fun _ => ?_)
          · refine x_bipush (v := 13) dX12_product_61 (by decide) ?_
            refine x_goto (tgt := 68) dX12_product_63 (by decide) ?_
            exact x_weak (by exact ⟨rfl, trivial⟩) (hj68 ((13 : Int32)))
          · refine x_bipush (v := 14) dX12_product_66 (by decide) ?_
            exact x_weak (by exact ⟨rfl, trivial⟩) (hj68 ((14 : Int32)))
      refine x_icmp_eq (tgt := 38) dX12_product_17 (by decide) (fun _ => ?_) (fun _ => ?_)
      · exact x_weak (by exact ⟨rfl, trivial⟩) (hj38 ())
      · refine x_aload_n dX12_product_20 rfl ?_
        refine gfX12_408 rfl dX12_product_21 (fun x14 => ?_)
        refine x_bipush (v := 47) dX12_product_24 (by decide) ?_
        refine x_icmp_eq (tgt := 38) dX12_product_26 (by decide) (fun _ => ?_) (fun _ => ?_)
        · exact x_weak (by exact ⟨rfl, trivial⟩) (hj38 ())
        · refine x_aload_n dX12_product_29 rfl ?_
          refine gfX12_408 rfl dX12_product_30 (fun x15 => ?_)
          refine x_bipush (v := 37) dX12_product_33 (by decide) ?_
          refine x_icmp_ne (tgt := 87) dX12_product_35 (by decide) (fun _ => ?_) (fun _ => ?_)
          · exact x_weak (by exact ⟨rfl, trivial⟩) (hj38 ())
          · exact x_weak (by exact trivial) (hj87 ())
    · exact x_weak (by exact trivial) (hj87 ())
theorem s207 {l : Launch} {d : Nat} {rec : Nat → List Value → Mem → XA} (hS : Nonempty XS) (hs : XSnd l xmt rec d) : Snd1 l 207 (b207 rec) d := by
  intro as M r M' h0
  unfold b207 at h0
  obtain ⟨a0, l1, e1, h1⟩ := aR_inv h0
  obtain ⟨ez, h⟩ := aZ_inv h1
  subst ez
  subst e1
  exact xmet (M := M) (as := [va_rf a0]) (lo := [some (va_rf a0)]) 207 xq207 xm207 (by rw [xargs_rf, xargs_nil]; exact ⟨rfl, trivial⟩) (by rw [xargs_rf, xargs_nil]; exact Nat.le_of_ble_eq_true rfl) (fun S G K => x_weak (by exact ⟨rfl, trivial⟩) (k207 hs a0 M)) h hS
set_option maxRecDepth 100000 in
def c208 (rec : Nat → List Value → Mem → XA) (a0 : Option Nat) (M0 : Mem) : XA :=
  vC (13, 157) M0 a0 <|
  cV (rec 207 [va_rf a0] M0) fun M1 =>
  lp (fun (s2 : Mem) j4 =>
    gtI (13, 157) s2 a0 41 fun x3 =>
    jn (fun (s4 : Unit) =>
      some (.null, s2)) fun j64 =>
    if x3 = 0 then (
      gtI (13, 157) s2 a0 36 fun x5 =>
      jn (fun (s6 : Unit) =>
        gtI (13, 157) s2 a0 36 fun x7 =>
        jn (fun (s8 : Int32) =>
          vC (13, 157) s2 a0 <|
          cV (rec 191 [va_rf a0] s2) fun M9 =>
          vC (13, 157) M9 a0 <|
          cV (rec 207 [va_rf a0] M9) fun M10 =>
          vC (13, 157) M10 a0 <|
          cI (rec 196 [va_rf a0, .int s8, .int ((0 : Int32))] M10) fun x12 M11 =>
          j4 M11) fun j45 =>
        if x7 = ((43 : Int32)) then (
          j45 ((10 : Int32))) else (
          j45 ((11 : Int32)))) fun j29 =>
      if x5 = ((43 : Int32)) then (
        j29 ()) else (
        gtI (13, 157) s2 a0 36 fun x13 =>
        if x13 = ((45 : Int32)) then (
          j29 ()) else (
          j64 ()))) else (
      j64 ())) 4294967296 M1
def b208 (rec : Nat → List Value → Mem → XA) (as : List Value) (M0 : Mem) : XA := aR as fun a0 as => aZ as (c208 rec a0 M0)
set_option maxRecDepth 100000 in
set_option maxHeartbeats 4000000 in
theorem k208 {S : XS} {G : XG} {K : Nat × Nat} {l : Launch} {d : Nat} {rec : Nat → List Value → Mem → XA} (hs : XSnd l xmt rec d) (a0 : Option Nat) (M0 : Mem) : Xe S G K l (yX12_sum, cX12_sum, 2, none) d 0 [some (va_rf a0), none] [] M0 (c208 rec a0 M0) := by
  unfold c208
  refine x_aload_n dX12_sum_0 rfl ?_
  refine cmX12_496 rfl hs (Nat.le_of_ble_eq_true rfl) dX12_sum_1 (fun M1 => ?_)
  refine x_weak (by exact ⟨rfl, trivial⟩) (x_lp (σ := Mem) 4 (fun s2 => [some (va_rf a0), none]) (fun s2 => []) (fun s2 => s2) (fun s2 j4 hj4 => ?_) 4294967296 M1)
  · refine x_aload_n dX12_sum_4 rfl ?_
    refine gfX12_395 rfl dX12_sum_5 (fun x3 => ?_)
    refine x_jn (σ := Unit) 64 (fun s4 => [none, none]) (fun s4 => []) (fun s4 => s2) (fun s4 => ?_) (fun j64 hj64 => ?_)
    · exact x_vret rfl dX12_sum_64
    refine x_if_ne (tgt := 64) dX12_sum_8 (by decide) (fun _ => ?_) (fun _ => ?_)
    · refine x_aload_n dX12_sum_11 rfl ?_
      refine gfX12_408 rfl dX12_sum_12 (fun x5 => ?_)
      refine x_bipush (v := 43) dX12_sum_15 (by decide) ?_
      refine x_jn (σ := Unit) 29 (fun s6 => [some (va_rf a0), none]) (fun s6 => []) (fun s6 => s2) (fun s6 => ?_) (fun j29 hj29 => ?_)
      · refine x_aload_n dX12_sum_29 rfl ?_
        refine gfX12_408 rfl dX12_sum_30 (fun x7 => ?_)
        refine x_bipush (v := 43) dX12_sum_33 (by decide) ?_
        refine x_jn (σ := Int32) 45 (fun s8 => [some (va_rf a0), none]) (fun s8 => [.int s8]) (fun s8 => s2) (fun s8 => ?_) (fun j45 hj45 => ?_)
        · refine x_istore_n (lo' := [some (va_rf a0), some (.int s8)]) dX12_sum_45 (by decide) (xok_r rfl) rfl ?_
          refine x_aload_n dX12_sum_46 rfl ?_
          refine cmX12_436 rfl hs (Nat.le_of_ble_eq_true rfl) dX12_sum_47 (fun M9 => ?_)
          refine x_aload_n dX12_sum_50 rfl ?_
          refine cmX12_496 rfl hs (Nat.le_of_ble_eq_true rfl) dX12_sum_51 (fun M10 => ?_)
          refine x_aload_n dX12_sum_54 rfl ?_
          refine x_iload_n dX12_sum_55 rfl ?_
          refine x_iconst (v := 0) dX12_sum_56 (by decide) ?_
          refine cmX12_465 rfl hs (Nat.le_of_ble_eq_true rfl) dX12_sum_57 (fun x12 M11 => ?_)
          refine x_pop dX12_sum_60 (xc1_i _) ?_
          refine x_goto (tgt := 4) dX12_sum_61 (by decide) ?_
          exact x_weak (by exact ⟨rfl, trivial⟩) (hj4 M11)
        refine x_icmp_ne (tgt := 43) dX12_sum_35 (by decide) (fun _ => ?_) (fun _ => ?_)
        · refine x_bipush (v := 10) dX12_sum_38 (by decide) ?_
          refine x_goto (tgt := 45) dX12_sum_40 (by decide) ?_
          exact x_weak (by exact ⟨rfl, trivial⟩) (hj45 ((10 : Int32)))
        · refine x_bipush (v := 11) dX12_sum_43 (by decide) ?_
          exact x_weak (by exact ⟨rfl, trivial⟩) (hj45 ((11 : Int32)))
      refine x_icmp_eq (tgt := 29) dX12_sum_17 (by decide) (fun _ => ?_) (fun _ => ?_)
      · exact x_weak (by exact ⟨rfl, trivial⟩) (hj29 ())
      · refine x_aload_n dX12_sum_20 rfl ?_
        refine gfX12_408 rfl dX12_sum_21 (fun x13 => ?_)
        refine x_bipush (v := 45) dX12_sum_24 (by decide) ?_
        refine x_icmp_ne (tgt := 64) dX12_sum_26 (by decide) (fun _ => ?_) (fun _ => ?_)
        · exact x_weak (by exact ⟨rfl, trivial⟩) (hj29 ())
        · exact x_weak (by exact trivial) (hj64 ())
    · exact x_weak (by exact trivial) (hj64 ())
theorem s208 {l : Launch} {d : Nat} {rec : Nat → List Value → Mem → XA} (hS : Nonempty XS) (hs : XSnd l xmt rec d) : Snd1 l 208 (b208 rec) d := by
  intro as M r M' h0
  unfold b208 at h0
  obtain ⟨a0, l1, e1, h1⟩ := aR_inv h0
  obtain ⟨ez, h⟩ := aZ_inv h1
  subst ez
  subst e1
  exact xmet (M := M) (as := [va_rf a0]) (lo := [some (va_rf a0)]) 208 xq208 xm208 (by rw [xargs_rf, xargs_nil]; exact ⟨rfl, trivial⟩) (by rw [xargs_rf, xargs_nil]; exact Nat.le_of_ble_eq_true rfl) (fun S G K => x_weak (by exact ⟨rfl, trivial⟩) (k208 hs a0 M)) h hS
set_option maxRecDepth 100000 in
def c209 (rec : Nat → List Value → Mem → XA) (a0 : Option Nat) (M0 : Mem) : XA :=
  gtI (13, 157) M0 a0 41 fun x1 =>
  jn (fun (s2 : Unit) =>
    vC (13, 157) M0 a0 <|
    cV (rec 208 [va_rf a0] M0) fun M3 =>
    gtI (13, 157) M3 a0 36 fun x4 =>
    jn (fun (s5 : Int32) =>
      gtI (13, 157) M3 a0 41 fun x6 =>
      jn (fun (s7 : Mem) =>
        some (.null, s7)) fun j142 =>
      if x6 = 0 then (
        if s5 < 0 then (
          j142 M3) else (
          vC (13, 157) M3 a0 <|
          cV (rec 191 [va_rf a0] M3) fun M8 =>
          vC (13, 157) M8 a0 <|
          cV (rec 208 [va_rf a0] M8) fun M9 =>
          vC (13, 157) M9 a0 <|
          cI (rec 196 [va_rf a0, .int s5, .int ((0 : Int32))] M9) fun x11 M10 =>
          j142 M10)) else (
        j142 M3)) fun j115 =>
    if x4 = ((60 : Int32)) then (
      j115 ((15 : Int32))) else (
      gtI (13, 157) M3 a0 36 fun x12 =>
      if x12 = ((300 : Int32)) then (
        j115 ((16 : Int32))) else (
        gtI (13, 157) M3 a0 36 fun x13 =>
        if x13 = ((301 : Int32)) then (
          j115 ((17 : Int32))) else (
          gtI (13, 157) M3 a0 36 fun x14 =>
          if x14 = ((302 : Int32)) then (
            j115 ((18 : Int32))) else (
            j115 ((-1 : Int32))))))) fun j51 =>
  if x1 = 0 then (
    gtI (13, 157) M0 a0 36 fun x15 =>
    if x15 = ((428 : Int32)) then (
      vC (13, 157) M0 a0 <|
      cI (rec 200 [va_rf a0] M0) fun x17 M16 =>
      jn (fun (s18 : Mem) =>
        some (.null, s18)) fun j50 =>
      if x17 = 0 then (
        j50 M16) else (
        vC (13, 157) M16 a0 <|
        cV (rec 191 [va_rf a0] M16) fun M19 =>
        vC (13, 157) M19 a0 <|
        cV (rec 209 [va_rf a0] M19) fun M20 =>
        gtI (13, 157) M20 a0 50 fun x21 =>
        ptI (13, 157) M20 a0 50 (x21 - ((1 : Int32))) fun M22 =>
        vC (13, 157) M22 a0 <|
        cI (rec 196 [va_rf a0, .int ((21 : Int32)), .int ((0 : Int32))] M22) fun x24 M23 =>
        j50 M23)) else (
      j51 ())) else (
    j51 ())
def b209 (rec : Nat → List Value → Mem → XA) (as : List Value) (M0 : Mem) : XA := aR as fun a0 as => aZ as (c209 rec a0 M0)
set_option maxRecDepth 100000 in
set_option maxHeartbeats 4000000 in
theorem k209 {S : XS} {G : XG} {K : Nat × Nat} {l : Launch} {d : Nat} {rec : Nat → List Value → Mem → XA} (hs : XSnd l xmt rec d) (a0 : Option Nat) (M0 : Mem) : Xe S G K l (yX12_denied, cX12_denied, 2, none) d 0 [some (va_rf a0), none] [] M0 (c209 rec a0 M0) := by
  unfold c209
  refine x_aload_n dX12_denied_0 rfl ?_
  refine gfX12_395 rfl dX12_denied_1 (fun x1 => ?_)
  refine x_jn (σ := Unit) 51 (fun s2 => [some (va_rf a0), none]) (fun s2 => []) (fun s2 => M0) (fun s2 => ?_) (fun j51 hj51 => ?_)
  · refine x_aload_n dX12_denied_51 rfl ?_
    refine cmX12_502 rfl hs (Nat.le_of_ble_eq_true rfl) dX12_denied_52 (fun M3 => ?_)
    refine x_aload_n dX12_denied_55 rfl ?_
    refine gfX12_408 rfl dX12_denied_56 (fun x4 => ?_)
    refine x_bipush (v := 60) dX12_denied_59 (by decide) ?_
    refine x_jn (σ := Int32) 115 (fun s5 => [some (va_rf a0), none]) (fun s5 => [.int s5]) (fun s5 => M3) (fun s5 => ?_) (fun j115 hj115 => ?_)
    · refine x_istore_n (lo' := [some (va_rf a0), some (.int s5)]) dX12_denied_115 (by decide) (xok_r rfl) rfl ?_
      refine x_aload_n dX12_denied_116 rfl ?_
      refine gfX12_395 rfl dX12_denied_117 (fun x6 => ?_)
      refine x_jn (σ := Mem) 142 (fun s7 => [none, none]) (fun s7 => []) (fun s7 => s7) (fun s7 => ?_) (fun j142 hj142 => ?_)
      · exact x_vret rfl dX12_denied_142
      refine x_if_ne (tgt := 142) dX12_denied_120 (by decide) (fun _ => ?_) (fun _ => ?_)
      · refine x_iload_n dX12_denied_123 rfl ?_
        refine x_if_lt (tgt := 142) dX12_denied_124 (by decide) (fun _ => ?_) (fun _ => ?_)
        · exact x_weak (by exact trivial) (hj142 M3)
        · refine x_aload_n dX12_denied_127 rfl ?_
          refine cmX12_436 rfl hs (Nat.le_of_ble_eq_true rfl) dX12_denied_128 (fun M8 => ?_)
          refine x_aload_n dX12_denied_131 rfl ?_
          refine cmX12_502 rfl hs (Nat.le_of_ble_eq_true rfl) dX12_denied_132 (fun M9 => ?_)
          refine x_aload_n dX12_denied_135 rfl ?_
          refine x_iload_n dX12_denied_136 rfl ?_
          refine x_iconst (v := 0) dX12_denied_137 (by decide) ?_
          refine cmX12_465 rfl hs (Nat.le_of_ble_eq_true rfl) dX12_denied_138 (fun x11 M10 => ?_)
          refine x_pop dX12_denied_141 (xc1_i _) ?_
          exact x_weak (by exact trivial) (hj142 M10)
      · exact x_weak (by exact trivial) (hj142 M3)
    refine x_icmp_ne (tgt := 69) dX12_denied_61 (by decide) (fun _ => ?_) (fun _ => ?_)
    · refine x_bipush (v := 15) dX12_denied_64 (by decide) ?_
      refine x_goto (tgt := 115) dX12_denied_66 (by decide) ?_
      exact x_weak (by exact ⟨rfl, trivial⟩) (hj115 ((15 : Int32)))
    · refine x_aload_n dX12_denied_69 rfl ?_
      refine gfX12_408 rfl dX12_denied_70 (fun x12 => ?_)
      refine x_sipush (v := 300) dX12_denied_73 (by decide) ?_
      refine x_icmp_ne (tgt := 84) dX12_denied_76 (by decide) (fun _ => ?_) (fun _ => ?_)
      · refine x_bipush (v := 16) dX12_denied_79 (by decide) ?_
        refine x_goto (tgt := 115) dX12_denied_81 (by decide) ?_
        exact x_weak (by exact ⟨rfl, trivial⟩) (hj115 ((16 : Int32)))
      · refine x_aload_n dX12_denied_84 rfl ?_
        refine gfX12_408 rfl dX12_denied_85 (fun x13 => ?_)
        refine x_sipush (v := 301) dX12_denied_88 (by decide) ?_
        refine x_icmp_ne (tgt := 99) dX12_denied_91 (by decide) (fun _ => ?_) (fun _ => ?_)
        · refine x_bipush (v := 17) dX12_denied_94 (by decide) ?_
          refine x_goto (tgt := 115) dX12_denied_96 (by decide) ?_
          exact x_weak (by exact ⟨rfl, trivial⟩) (hj115 ((17 : Int32)))
        · refine x_aload_n dX12_denied_99 rfl ?_
          refine gfX12_408 rfl dX12_denied_100 (fun x14 => ?_)
          refine x_sipush (v := 302) dX12_denied_103 (by decide) ?_
          refine x_icmp_ne (tgt := 114) dX12_denied_106 (by decide) (fun _ => ?_) (fun _ => ?_)
          · refine x_bipush (v := 18) dX12_denied_109 (by decide) ?_
            refine x_goto (tgt := 115) dX12_denied_111 (by decide) ?_
            exact x_weak (by exact ⟨rfl, trivial⟩) (hj115 ((18 : Int32)))
          · refine x_iconst (v := -1) dX12_denied_114 (by decide) ?_
            exact x_weak (by exact ⟨rfl, trivial⟩) (hj115 ((-1 : Int32)))
  refine x_if_ne (tgt := 51) dX12_denied_4 (by decide) (fun _ => ?_) (fun _ => ?_)
  · refine x_aload_n dX12_denied_7 rfl ?_
    refine gfX12_408 rfl dX12_denied_8 (fun x15 => ?_)
    refine x_sipush (v := 428) dX12_denied_11 (by decide) ?_
    refine x_icmp_ne (tgt := 51) dX12_denied_14 (by decide) (fun _ => ?_) (fun _ => ?_)
    · refine x_aload_n dX12_denied_17 rfl ?_
      refine cmX12_469 rfl hs (Nat.le_of_ble_eq_true rfl) dX12_denied_18 (fun x17 M16 => ?_)
      refine x_jn (σ := Mem) 50 (fun s18 => [none, none]) (fun s18 => []) (fun s18 => s18) (fun s18 => ?_) (fun j50 hj50 => ?_)
      · exact x_vret rfl dX12_denied_50
      refine x_if_eq (tgt := 50) dX12_denied_21 (by decide) (fun _ => ?_) (fun _ => ?_)
      · exact x_weak (by exact trivial) (hj50 M16)
      · refine x_aload_n dX12_denied_24 rfl ?_
        refine cmX12_436 rfl hs (Nat.le_of_ble_eq_true rfl) dX12_denied_25 (fun M19 => ?_)
        refine x_aload_n dX12_denied_28 rfl ?_
        refine cmX12_499 rfl hs (Nat.le_of_ble_eq_true rfl) dX12_denied_29 (fun M20 => ?_)
        refine x_aload_n dX12_denied_32 rfl ?_
        refine x_dup dX12_denied_33 (xc1_r _) ?_
        refine gfX12_459 rfl dX12_denied_34 (fun x21 => ?_)
        refine x_iconst (v := 1) dX12_denied_37 (by decide) ?_
        refine x_isub dX12_denied_38 ?_
        refine pfX12_459 rfl dX12_denied_39 (fun M22 => ?_)
        refine x_aload_n dX12_denied_42 rfl ?_
        refine x_bipush (v := 21) dX12_denied_43 (by decide) ?_
        refine x_iconst (v := 0) dX12_denied_45 (by decide) ?_
        refine cmX12_465 rfl hs (Nat.le_of_ble_eq_true rfl) dX12_denied_46 (fun x24 M23 => ?_)
        refine x_pop dX12_denied_49 (xc1_i _) ?_
        exact x_weak (by exact trivial) (hj50 M23)
    · exact x_weak (by exact ⟨rfl, trivial⟩) (hj51 ())
  · exact x_weak (by exact ⟨rfl, trivial⟩) (hj51 ())
theorem s209 {l : Launch} {d : Nat} {rec : Nat → List Value → Mem → XA} (hS : Nonempty XS) (hs : XSnd l xmt rec d) : Snd1 l 209 (b209 rec) d := by
  intro as M r M' h0
  unfold b209 at h0
  obtain ⟨a0, l1, e1, h1⟩ := aR_inv h0
  obtain ⟨ez, h⟩ := aZ_inv h1
  subst ez
  subst e1
  exact xmet (M := M) (as := [va_rf a0]) (lo := [some (va_rf a0)]) 209 xq209 xm209 (by rw [xargs_rf, xargs_nil]; exact ⟨rfl, trivial⟩) (by rw [xargs_rf, xargs_nil]; exact Nat.le_of_ble_eq_true rfl) (fun S G K => x_weak (by exact ⟨rfl, trivial⟩) (k209 hs a0 M)) h hS
set_option maxRecDepth 100000 in
def c210 (rec : Nat → List Value → Mem → XA) (a0 : Option Nat) (M0 : Mem) : XA :=
  vC (13, 157) M0 a0 <|
  cV (rec 209 [va_rf a0] M0) fun M1 =>
  lp (fun (s2 : Mem) j4 =>
    gtI (13, 157) s2 a0 41 fun x3 =>
    jn (fun (s4 : Unit) =>
      some (.null, s2)) fun j40 =>
    if x3 = 0 then (
      gtI (13, 157) s2 a0 36 fun x5 =>
      if x5 = ((426 : Int32)) then (
        vC (13, 157) s2 a0 <|
        cV (rec 191 [va_rf a0] s2) fun M6 =>
        vC (13, 157) M6 a0 <|
        cV (rec 209 [va_rf a0] M6) fun M7 =>
        vC (13, 157) M7 a0 <|
        cI (rec 196 [va_rf a0, .int ((19 : Int32)), .int ((0 : Int32))] M7) fun x9 M8 =>
        j4 M8) else (
        j40 ())) else (
      j40 ())) 4294967296 M1
def b210 (rec : Nat → List Value → Mem → XA) (as : List Value) (M0 : Mem) : XA := aR as fun a0 as => aZ as (c210 rec a0 M0)
set_option maxRecDepth 100000 in
set_option maxHeartbeats 4000000 in
theorem k210 {S : XS} {G : XG} {K : Nat × Nat} {l : Launch} {d : Nat} {rec : Nat → List Value → Mem → XA} (hs : XSnd l xmt rec d) (a0 : Option Nat) (M0 : Mem) : Xe S G K l (yX12_both, cX12_both, 1, none) d 0 [some (va_rf a0)] [] M0 (c210 rec a0 M0) := by
  unfold c210
  refine x_aload_n dX12_both_0 rfl ?_
  refine cmX12_499 rfl hs (Nat.le_of_ble_eq_true rfl) dX12_both_1 (fun M1 => ?_)
  refine x_weak (by exact ⟨rfl, trivial⟩) (x_lp (σ := Mem) 4 (fun s2 => [some (va_rf a0)]) (fun s2 => []) (fun s2 => s2) (fun s2 j4 hj4 => ?_) 4294967296 M1)
  · refine x_aload_n dX12_both_4 rfl ?_
    refine gfX12_395 rfl dX12_both_5 (fun x3 => ?_)
    refine x_jn (σ := Unit) 40 (fun s4 => [none]) (fun s4 => []) (fun s4 => s2) (fun s4 => ?_) (fun j40 hj40 => ?_)
    · exact x_vret rfl dX12_both_40
    refine x_if_ne (tgt := 40) dX12_both_8 (by decide) (fun _ => ?_) (fun _ => ?_)
    · refine x_aload_n dX12_both_11 rfl ?_
      refine gfX12_408 rfl dX12_both_12 (fun x5 => ?_)
      refine x_sipush (v := 426) dX12_both_15 (by decide) ?_
      refine x_icmp_ne (tgt := 40) dX12_both_18 (by decide) (fun _ => ?_) (fun _ => ?_)
      · refine x_aload_n dX12_both_21 rfl ?_
        refine cmX12_436 rfl hs (Nat.le_of_ble_eq_true rfl) dX12_both_22 (fun M6 => ?_)
        refine x_aload_n dX12_both_25 rfl ?_
        refine cmX12_499 rfl hs (Nat.le_of_ble_eq_true rfl) dX12_both_26 (fun M7 => ?_)
        refine x_aload_n dX12_both_29 rfl ?_
        refine x_bipush (v := 19) dX12_both_30 (by decide) ?_
        refine x_iconst (v := 0) dX12_both_32 (by decide) ?_
        refine cmX12_465 rfl hs (Nat.le_of_ble_eq_true rfl) dX12_both_33 (fun x9 M8 => ?_)
        refine x_pop dX12_both_36 (xc1_i _) ?_
        refine x_goto (tgt := 4) dX12_both_37 (by decide) ?_
        exact x_weak (by exact ⟨rfl, trivial⟩) (hj4 M8)
      · exact x_weak (by exact trivial) (hj40 ())
    · exact x_weak (by exact trivial) (hj40 ())
theorem s210 {l : Launch} {d : Nat} {rec : Nat → List Value → Mem → XA} (hS : Nonempty XS) (hs : XSnd l xmt rec d) : Snd1 l 210 (b210 rec) d := by
  intro as M r M' h0
  unfold b210 at h0
  obtain ⟨a0, l1, e1, h1⟩ := aR_inv h0
  obtain ⟨ez, h⟩ := aZ_inv h1
  subst ez
  subst e1
  exact xmet (M := M) (as := [va_rf a0]) (lo := [some (va_rf a0)]) 210 xq210 xm210 (by rw [xargs_rf, xargs_nil]; exact ⟨rfl, trivial⟩) (by rw [xargs_rf, xargs_nil]; exact Nat.le_of_ble_eq_true rfl) (fun S G K => x_weak (by exact ⟨rfl, trivial⟩) (k210 hs a0 M)) h hS
set_option maxRecDepth 100000 in
def c211 (rec : Nat → List Value → Mem → XA) (a0 : Option Nat) (M0 : Mem) : XA :=
  vC (13, 157) M0 a0 <|
  cV (rec 210 [va_rf a0] M0) fun M1 =>
  lp (fun (s2 : Mem) j4 =>
    gtI (13, 157) s2 a0 41 fun x3 =>
    jn (fun (s4 : Unit) =>
      some (.null, s2)) fun j40 =>
    if x3 = 0 then (
      gtI (13, 157) s2 a0 36 fun x5 =>
      if x5 = ((427 : Int32)) then (
        vC (13, 157) s2 a0 <|
        cV (rec 191 [va_rf a0] s2) fun M6 =>
        vC (13, 157) M6 a0 <|
        cV (rec 210 [va_rf a0] M6) fun M7 =>
        vC (13, 157) M7 a0 <|
        cI (rec 196 [va_rf a0, .int ((20 : Int32)), .int ((0 : Int32))] M7) fun x9 M8 =>
        j4 M8) else (
        j40 ())) else (
      j40 ())) 4294967296 M1
def b211 (rec : Nat → List Value → Mem → XA) (as : List Value) (M0 : Mem) : XA := aR as fun a0 as => aZ as (c211 rec a0 M0)
set_option maxRecDepth 100000 in
set_option maxHeartbeats 4000000 in
theorem k211 {S : XS} {G : XG} {K : Nat × Nat} {l : Launch} {d : Nat} {rec : Nat → List Value → Mem → XA} (hs : XSnd l xmt rec d) (a0 : Option Nat) (M0 : Mem) : Xe S G K l (yX12_expr, cX12_expr, 1, none) d 0 [some (va_rf a0)] [] M0 (c211 rec a0 M0) := by
  unfold c211
  refine x_aload_n dX12_expr_0 rfl ?_
  refine cmX12_505 rfl hs (Nat.le_of_ble_eq_true rfl) dX12_expr_1 (fun M1 => ?_)
  refine x_weak (by exact ⟨rfl, trivial⟩) (x_lp (σ := Mem) 4 (fun s2 => [some (va_rf a0)]) (fun s2 => []) (fun s2 => s2) (fun s2 j4 hj4 => ?_) 4294967296 M1)
  · refine x_aload_n dX12_expr_4 rfl ?_
    refine gfX12_395 rfl dX12_expr_5 (fun x3 => ?_)
    refine x_jn (σ := Unit) 40 (fun s4 => [none]) (fun s4 => []) (fun s4 => s2) (fun s4 => ?_) (fun j40 hj40 => ?_)
    · exact x_vret rfl dX12_expr_40
    refine x_if_ne (tgt := 40) dX12_expr_8 (by decide) (fun _ => ?_) (fun _ => ?_)
    · refine x_aload_n dX12_expr_11 rfl ?_
      refine gfX12_408 rfl dX12_expr_12 (fun x5 => ?_)
      refine x_sipush (v := 427) dX12_expr_15 (by decide) ?_
      refine x_icmp_ne (tgt := 40) dX12_expr_18 (by decide) (fun _ => ?_) (fun _ => ?_)
      · refine x_aload_n dX12_expr_21 rfl ?_
        refine cmX12_436 rfl hs (Nat.le_of_ble_eq_true rfl) dX12_expr_22 (fun M6 => ?_)
        refine x_aload_n dX12_expr_25 rfl ?_
        refine cmX12_505 rfl hs (Nat.le_of_ble_eq_true rfl) dX12_expr_26 (fun M7 => ?_)
        refine x_aload_n dX12_expr_29 rfl ?_
        refine x_bipush (v := 20) dX12_expr_30 (by decide) ?_
        refine x_iconst (v := 0) dX12_expr_32 (by decide) ?_
        refine cmX12_465 rfl hs (Nat.le_of_ble_eq_true rfl) dX12_expr_33 (fun x9 M8 => ?_)
        refine x_pop dX12_expr_36 (xc1_i _) ?_
        refine x_goto (tgt := 4) dX12_expr_37 (by decide) ?_
        exact x_weak (by exact ⟨rfl, trivial⟩) (hj4 M8)
      · exact x_weak (by exact trivial) (hj40 ())
    · exact x_weak (by exact trivial) (hj40 ())
theorem s211 {l : Launch} {d : Nat} {rec : Nat → List Value → Mem → XA} (hS : Nonempty XS) (hs : XSnd l xmt rec d) : Snd1 l 211 (b211 rec) d := by
  intro as M r M' h0
  unfold b211 at h0
  obtain ⟨a0, l1, e1, h1⟩ := aR_inv h0
  obtain ⟨ez, h⟩ := aZ_inv h1
  subst ez
  subst e1
  exact xmet (M := M) (as := [va_rf a0]) (lo := [some (va_rf a0)]) 211 xq211 xm211 (by rw [xargs_rf, xargs_nil]; exact ⟨rfl, trivial⟩) (by rw [xargs_rf, xargs_nil]; exact Nat.le_of_ble_eq_true rfl) (fun S G K => x_weak (by exact ⟨rfl, trivial⟩) (k211 hs a0 M)) h hS
set_option maxRecDepth 100000 in
def c212 (rec : Nat → List Value → Mem → XA) (a0 : Option Nat) (M0 : Mem) : XA :=
  gtI (13, 157) M0 a0 41 fun x1 =>
  jn (fun (s2 : Mem) =>
    some (.null, s2)) fun j35 =>
  if x1 = 0 then (
    gtI (13, 157) M0 a0 36 fun x3 =>
    jn (fun (s4 : Int32) =>
      vC (13, 157) M0 a0 <|
      cI (rec 193 [va_rf a0, .int s4] M0) fun x6 M5 =>
      if x6 = 0 then (
        j35 M5) else (
        vC (13, 157) M5 a0 <|
        cI (rec 200 [va_rf a0] M5) fun x8 M7 =>
        if x8 = 0 then (
          j35 M7) else (
          gtI (13, 157) M7 a0 51 fun x9 =>
          vC (13, 157) M7 a0 <|
          cV (rec 191 [va_rf a0] M7) fun M10 =>
          lp (fun (s11 : Mem) j45 =>
            gtI (13, 157) s11 a0 41 fun x12 =>
            jn (fun (s13 : Unit) =>
              gtI (13, 157) s11 a0 50 fun x14 =>
              ptI (13, 157) s11 a0 50 (x14 - ((1 : Int32))) fun M15 =>
              ptI (13, 157) M15 a0 51 x9 fun M16 =>
              some (.null, M16)) fun j68 =>
            if x12 = 0 then (
              gtI (13, 157) s11 a0 36 fun x17 =>
              if x17 = ((125 : Int32)) then (
                j68 ()) else (
                vC (13, 157) s11 a0 <|
                cV (rec 214 [va_rf a0] s11) fun M18 =>
                j45 M18)) else (
              j68 ())) 4294967296 M10))) fun j22 =>
    if x3 = ((123 : Int32)) then (
      j22 ((1 : Int32))) else (
      j22 ((0 : Int32)))) else (
    j35 M0)
def b212 (rec : Nat → List Value → Mem → XA) (as : List Value) (M0 : Mem) : XA := aR as fun a0 as => aZ as (c212 rec a0 M0)
set_option maxRecDepth 100000 in
set_option maxHeartbeats 4000000 in
theorem k212 {S : XS} {G : XG} {K : Nat × Nat} {l : Launch} {d : Nat} {rec : Nat → List Value → Mem → XA} (hs : XSnd l xmt rec d) (a0 : Option Nat) (M0 : Mem) : Xe S G K l (yX12_block, cX12_block, 2, none) d 0 [some (va_rf a0), none] [] M0 (c212 rec a0 M0) := by
  unfold c212
  refine x_aload_n dX12_block_0 rfl ?_
  refine gfX12_395 rfl dX12_block_1 (fun x1 => ?_)
  refine x_jn (σ := Mem) 35 (fun s2 => [none, none]) (fun s2 => []) (fun s2 => s2) (fun s2 => ?_) (fun j35 hj35 => ?_)
  · exact x_vret rfl dX12_block_35
  refine x_if_ne (tgt := 35) dX12_block_4 (by decide) (fun _ => ?_) (fun _ => ?_)
  · refine x_aload_n dX12_block_7 rfl ?_
    refine x_aload_n dX12_block_8 rfl ?_
    refine gfX12_408 rfl dX12_block_9 (fun x3 => ?_)
    refine x_bipush (v := 123) dX12_block_12 (by decide) ?_
    refine x_jn (σ := Int32) 22 (fun s4 => [some (va_rf a0), none]) (fun s4 => [.int s4, va_rf a0]) (fun s4 => M0) (fun s4 => ?_) (fun j22 hj22 => ?_)
    · refine cmX12_432 rfl hs (Nat.le_of_ble_eq_true rfl) dX12_block_22 (fun x6 M5 => ?_)
      refine x_if_eq (tgt := 35) dX12_block_25 (by decide) (fun _ => ?_) (fun _ => ?_)
      · exact x_weak (by exact trivial) (hj35 M5)
      · refine x_aload_n dX12_block_28 rfl ?_
        refine cmX12_469 rfl hs (Nat.le_of_ble_eq_true rfl) dX12_block_29 (fun x8 M7 => ?_)
        refine x_if_ne (tgt := 36) dX12_block_32 (by decide) (fun _ => ?_) (fun _ => ?_)
        · exact x_weak (by exact trivial) (hj35 M7)
        · refine x_aload_n dX12_block_36 rfl ?_
          refine gfX12_448 rfl dX12_block_37 (fun x9 => ?_)
          refine x_istore_n (lo' := [some (va_rf a0), some (.int x9)]) dX12_block_40 (by decide) (xok_r rfl) rfl ?_
          refine x_aload_n dX12_block_41 rfl ?_
          refine cmX12_436 rfl hs (Nat.le_of_ble_eq_true rfl) dX12_block_42 (fun M10 => ?_)
          refine x_weak (by exact ⟨rfl, ⟨rfl, trivial⟩⟩) (x_lp (σ := Mem) 45 (fun s11 => [some (va_rf a0), some (.int x9)]) (fun s11 => []) (fun s11 => s11) (fun s11 j45 hj45 => ?_) 4294967296 M10)
          · refine x_aload_n dX12_block_45 rfl ?_
            refine gfX12_395 rfl dX12_block_46 (fun x12 => ?_)
            refine x_jn (σ := Unit) 68 (fun s13 => [some (va_rf a0), some (.int x9)]) (fun s13 => []) (fun s13 => s11) (fun s13 => ?_) (fun j68 hj68 => ?_)
            · refine x_aload_n dX12_block_68 rfl ?_
              refine x_dup dX12_block_69 (xc1_r _) ?_
              refine gfX12_459 rfl dX12_block_70 (fun x14 => ?_)
              refine x_iconst (v := 1) dX12_block_73 (by decide) ?_
              refine x_isub dX12_block_74 ?_
              refine pfX12_459 rfl dX12_block_75 (fun M15 => ?_)
              refine x_aload_n dX12_block_78 rfl ?_
              refine x_iload_n dX12_block_79 rfl ?_
              refine pfX12_448 rfl dX12_block_80 (fun M16 => ?_)
              exact x_vret rfl dX12_block_83
            refine x_if_ne (tgt := 68) dX12_block_49 (by decide) (fun _ => ?_) (fun _ => ?_)
            · refine x_aload_n dX12_block_52 rfl ?_
              refine gfX12_408 rfl dX12_block_53 (fun x17 => ?_)
              refine x_bipush (v := 125) dX12_block_56 (by decide) ?_
              refine x_icmp_eq (tgt := 68) dX12_block_58 (by decide) (fun _ => ?_) (fun _ => ?_)
              · exact x_weak (by exact ⟨rfl, ⟨rfl, trivial⟩⟩) (hj68 ())
              · refine x_aload_n dX12_block_61 rfl ?_
                refine cmX12_508 rfl hs (Nat.le_of_ble_eq_true rfl) dX12_block_62 (fun M18 => ?_)
                refine x_goto (tgt := 45) dX12_block_65 (by decide) ?_
                exact x_weak (by exact ⟨rfl, ⟨rfl, trivial⟩⟩) (hj45 M18)
            · exact x_weak (by exact ⟨rfl, ⟨rfl, trivial⟩⟩) (hj68 ())
    refine x_icmp_ne (tgt := 21) dX12_block_14 (by decide) (fun _ => ?_) (fun _ => ?_)
    · refine x_iconst (v := 1) dX12_block_17 (by decide) ?_
      refine x_goto (tgt := 22) dX12_block_18 (by decide) ?_
      exact x_weak (by exact ⟨rfl, trivial⟩) (hj22 ((1 : Int32)))
    · refine x_iconst (v := 0) dX12_block_21 (by decide) ?_
      exact x_weak (by exact ⟨rfl, trivial⟩) (hj22 ((0 : Int32)))
  · exact x_weak (by exact trivial) (hj35 M0)
theorem s212 {l : Launch} {d : Nat} {rec : Nat → List Value → Mem → XA} (hS : Nonempty XS) (hs : XSnd l xmt rec d) : Snd1 l 212 (b212 rec) d := by
  intro as M r M' h0
  unfold b212 at h0
  obtain ⟨a0, l1, e1, h1⟩ := aR_inv h0
  obtain ⟨ez, h⟩ := aZ_inv h1
  subst ez
  subst e1
  exact xmet (M := M) (as := [va_rf a0]) (lo := [some (va_rf a0)]) 212 xq212 xm212 (by rw [xargs_rf, xargs_nil]; exact ⟨rfl, trivial⟩) (by rw [xargs_rf, xargs_nil]; exact Nat.le_of_ble_eq_true rfl) (fun S G K => x_weak (by exact ⟨rfl, trivial⟩) (k212 hs a0 M)) h hS
set_option maxRecDepth 100000 in
def c213 (rec : Nat → List Value → Mem → XA) (a0 : Option Nat) (M0 : Mem) : XA :=
  vC (13, 157) M0 a0 <|
  cV (rec 212 [va_rf a0] M0) fun M1 =>
  vC (13, 157) M1 a0 <|
  cV (rec 191 [va_rf a0] M1) fun M2 =>
  some (.null, M2)
def b213 (rec : Nat → List Value → Mem → XA) (as : List Value) (M0 : Mem) : XA := aR as fun a0 as => aZ as (c213 rec a0 M0)
set_option maxRecDepth 100000 in
set_option maxHeartbeats 4000000 in
theorem k213 {S : XS} {G : XG} {K : Nat × Nat} {l : Launch} {d : Nat} {rec : Nat → List Value → Mem → XA} (hs : XSnd l xmt rec d) (a0 : Option Nat) (M0 : Mem) : Xe S G K l (yX12_inner, cX12_inner, 1, none) d 0 [some (va_rf a0)] [] M0 (c213 rec a0 M0) := by
  unfold c213
  refine x_aload_n dX12_inner_0 rfl ?_
  refine cmX12_511 rfl hs (Nat.le_of_ble_eq_true rfl) dX12_inner_1 (fun M1 => ?_)
  refine x_aload_n dX12_inner_4 rfl ?_
  refine cmX12_436 rfl hs (Nat.le_of_ble_eq_true rfl) dX12_inner_5 (fun M2 => ?_)
  exact x_vret rfl dX12_inner_8
theorem s213 {l : Launch} {d : Nat} {rec : Nat → List Value → Mem → XA} (hS : Nonempty XS) (hs : XSnd l xmt rec d) : Snd1 l 213 (b213 rec) d := by
  intro as M r M' h0
  unfold b213 at h0
  obtain ⟨a0, l1, e1, h1⟩ := aR_inv h0
  obtain ⟨ez, h⟩ := aZ_inv h1
  subst ez
  subst e1
  exact xmet (M := M) (as := [va_rf a0]) (lo := [some (va_rf a0)]) 213 xq213 xm213 (by rw [xargs_rf, xargs_nil]; exact ⟨rfl, trivial⟩) (by rw [xargs_rf, xargs_nil]; exact Nat.le_of_ble_eq_true rfl) (fun S G K => x_weak (by exact ⟨rfl, trivial⟩) (k213 hs a0 M)) h hS
set_option maxRecDepth 100000 in
def c214 (rec : Nat → List Value → Mem → XA) (a0 : Option Nat) (M0 : Mem) : XA :=
  gtI (13, 157) M0 a0 36 fun x1 =>
  jn (fun (s2 : Mem) =>
    some (.null, s2)) fun j250 =>
  swI x1 [
   ((416 : Int32), (
      vC (13, 157) M0 a0 <|
      cV (rec 191 [va_rf a0] M0) fun M3 =>
      vC (13, 157) M3 a0 <|
      cI (rec 198 [va_rf a0] M3) fun x5 M4 =>
      if x5 = 0 then (
        j250 M4) else (
        gtL (13, 157) M4 a0 39 fun x6 =>
        vC (13, 157) M4 a0 <|
        cV (rec 191 [va_rf a0] M4) fun M7 =>
        vC (13, 157) M7 a0 <|
        cI (rec 195 [va_rf a0, .int ((61 : Int32))] M7) fun x9 M8 =>
        vC (13, 157) M8 a0 <|
        cV (rec 211 [va_rf a0] M8) fun M10 =>
        gtI (13, 157) M10 a0 51 fun x11 =>
        vC (13, 157) M10 a0 <|
        cI (rec 196 [va_rf a0, .int ((2 : Int32)), .int x11] M10) fun x13 M12 =>
        vC (13, 157) M12 a0 <|
        cI (rec 195 [va_rf a0, .int ((59 : Int32))] M12) fun x15 M14 =>
        vC (13, 157) M14 a0 <|
        cV (rec 199 [va_rf a0, .long x6] M14) fun M16 =>
        j250 M16))),
   ((417 : Int32), (
      vC (13, 157) M0 a0 <|
      cV (rec 215 [va_rf a0] M0) fun M17 =>
      j250 M17)),
   ((418 : Int32), (
      gtI (13, 157) M0 a0 36 fun x18 =>
      jn (fun (s19 : Int32) =>
        vC (13, 157) M0 a0 <|
        cI (rec 193 [va_rf a0, .int s19] M0) fun x21 M20 =>
        if x21 = 0 then (
          j250 M20) else (
          vC (13, 157) M20 a0 <|
          cV (rec 217 [va_rf a0] M20) fun M22 =>
          j250 M22)) fun j240 =>
      if x18 = ((1 : Int32)) then (
        j240 ((1 : Int32))) else (
        j240 ((0 : Int32))))),
   ((419 : Int32), (
      gtI (13, 157) M0 a0 43 fun x23 =>
      vC (13, 157) M0 a0 <|
      cV (rec 191 [va_rf a0] M0) fun M24 =>
      vC (13, 157) M24 a0 <|
      cV (rec 211 [va_rf a0] M24) fun M25 =>
      vC (13, 157) M25 a0 <|
      cI (rec 196 [va_rf a0, .int ((24 : Int32)), .int ((0 : Int32))] M25) fun x27 M26 =>
      vC (13, 157) M26 a0 <|
      cV (rec 213 [va_rf a0] M26) fun M28 =>
      vC (13, 157) M28 a0 <|
      cI (rec 196 [va_rf a0, .int ((25 : Int32)), .int x23] M28) fun x30 M29 =>
      gtP (13, 157) M29 a0 45 fun x31 =>
      gtI (13, 157) M29 a0 43 fun x32 =>
      asI 100 M29 x31 x27 x32 fun M33 =>
      j250 M33)),
   ((420 : Int32), (
      gtI (13, 157) M0 a0 36 fun x34 =>
      jn (fun (s35 : Int32) =>
        vC (13, 157) M0 a0 <|
        cV (rec 191 [va_rf a0] M0) fun M36 =>
        vC (13, 157) M36 a0 <|
        cV (rec 211 [va_rf a0] M36) fun M37 =>
        vC (13, 157) M37 a0 <|
        cI (rec 196 [va_rf a0, .int s35, .int ((0 : Int32))] M37) fun x39 M38 =>
        vC (13, 157) M38 a0 <|
        cI (rec 195 [va_rf a0, .int ((59 : Int32))] M38) fun x41 M40 =>
        j250 M40) fun j193 =>
      if x34 = ((420 : Int32)) then (
        j193 ((8 : Int32))) else (
        gtI (13, 157) M0 a0 36 fun x42 =>
        if x42 = ((421 : Int32)) then (
          j193 ((28 : Int32))) else (
          j193 ((29 : Int32)))))),
   ((421 : Int32), (
      gtI (13, 157) M0 a0 36 fun x43 =>
      jn (fun (s44 : Int32) =>
        vC (13, 157) M0 a0 <|
        cV (rec 191 [va_rf a0] M0) fun M45 =>
        vC (13, 157) M45 a0 <|
        cV (rec 211 [va_rf a0] M45) fun M46 =>
        vC (13, 157) M46 a0 <|
        cI (rec 196 [va_rf a0, .int s44, .int ((0 : Int32))] M46) fun x48 M47 =>
        vC (13, 157) M47 a0 <|
        cI (rec 195 [va_rf a0, .int ((59 : Int32))] M47) fun x50 M49 =>
        j250 M49) fun j193 =>
      if x43 = ((420 : Int32)) then (
        j193 ((8 : Int32))) else (
        gtI (13, 157) M0 a0 36 fun x51 =>
        if x51 = ((421 : Int32)) then (
          j193 ((28 : Int32))) else (
          j193 ((29 : Int32)))))),
   ((422 : Int32), (
      gtI (13, 157) M0 a0 36 fun x52 =>
      jn (fun (s53 : Int32) =>
        vC (13, 157) M0 a0 <|
        cV (rec 191 [va_rf a0] M0) fun M54 =>
        vC (13, 157) M54 a0 <|
        cV (rec 211 [va_rf a0] M54) fun M55 =>
        vC (13, 157) M55 a0 <|
        cI (rec 196 [va_rf a0, .int s53, .int ((0 : Int32))] M55) fun x57 M56 =>
        vC (13, 157) M56 a0 <|
        cI (rec 195 [va_rf a0, .int ((59 : Int32))] M56) fun x59 M58 =>
        j250 M58) fun j193 =>
      if x52 = ((420 : Int32)) then (
        j193 ((8 : Int32))) else (
        gtI (13, 157) M0 a0 36 fun x60 =>
        if x60 = ((421 : Int32)) then (
          j193 ((28 : Int32))) else (
          j193 ((29 : Int32)))))),
   ((423 : Int32), (
      vC (13, 157) M0 a0 <|
      cV (rec 216 [va_rf a0] M0) fun M61 =>
      j250 M61))] (
    gtI (13, 157) M0 a0 36 fun x62 =>
    jn (fun (s63 : Int32) =>
      vC (13, 157) M0 a0 <|
      cI (rec 193 [va_rf a0, .int s63] M0) fun x65 M64 =>
      if x65 = 0 then (
        j250 M64) else (
        vC (13, 157) M64 a0 <|
        cV (rec 217 [va_rf a0] M64) fun M66 =>
        j250 M66)) fun j240 =>
    if x62 = ((1 : Int32)) then (
      j240 ((1 : Int32))) else (
      j240 ((0 : Int32))))
def b214 (rec : Nat → List Value → Mem → XA) (as : List Value) (M0 : Mem) : XA := aR as fun a0 as => aZ as (c214 rec a0 M0)
set_option maxRecDepth 100000 in
set_option maxHeartbeats 4000000 in
theorem k214 {S : XS} {G : XG} {K : Nat × Nat} {l : Launch} {d : Nat} {rec : Nat → List Value → Mem → XA} (hs : XSnd l xmt rec d) (a0 : Option Nat) (M0 : Mem) : Xe S G K l (yX12_statement, cX12_statement, 4, none) d 0 [some (va_rf a0), none, none, none] [] M0 (c214 rec a0 M0) := by
  unfold c214
  refine x_aload_n dX12_statement_0 rfl ?_
  refine gfX12_408 rfl dX12_statement_1 (fun x1 => ?_)
  refine x_jn (σ := Mem) 250 (fun s2 => [none, none, none, none]) (fun s2 => []) (fun s2 => s2) (fun s2 => ?_) (fun j250 hj250 => ?_)
  · exact x_vret rfl dX12_statement_250
  refine x_table (tgt := 226) dX12_statement_4 [(416, 52), (417, 108), (418, 226), (419, 115), (420, 161), (421, 161), (422, 161), (423, 219)] (by decide +kernel) (by decide +kernel) (by decide) ?_ ?_
  · refine swG_d (by decide) ?_ (swG_d (by decide) ?_ (swG_d (by decide) ?_ (swG_d (by decide) ?_ (swG_d (by decide) ?_ (swG_d (by decide) ?_ (swG_d (by decide) ?_ (swG_d (by decide) ?_ (trivial))))))))
    · refine x_aload_n dX12_statement_52 rfl ?_
      refine cmX12_436 rfl hs (Nat.le_of_ble_eq_true rfl) dX12_statement_53 (fun M3 => ?_)
      refine x_aload_n dX12_statement_56 rfl ?_
      refine cmX12_514 rfl hs (Nat.le_of_ble_eq_true rfl) dX12_statement_57 (fun x5 M4 => ?_)
      refine x_if_eq (tgt := 250) dX12_statement_60 (by decide) (fun _ => ?_) (fun _ => ?_)
      · exact x_weak (by exact trivial) (hj250 M4)
      · refine x_aload_n dX12_statement_63 rfl ?_
        refine gfX12_415 rfl dX12_statement_64 (fun x6 => ?_)
        refine x_lstore_n (lo' := [some (va_rf a0), some (.long x6), none, none]) dX12_statement_67 (by decide) (xok_r rfl) rfl ?_
        refine x_aload_n dX12_statement_68 rfl ?_
        refine cmX12_436 rfl hs (Nat.le_of_ble_eq_true rfl) dX12_statement_69 (fun M7 => ?_)
        refine x_aload_n dX12_statement_72 rfl ?_
        refine x_bipush (v := 61) dX12_statement_73 (by decide) ?_
        refine cmX12_517 rfl hs (Nat.le_of_ble_eq_true rfl) dX12_statement_75 (fun x9 M8 => ?_)
        refine x_pop dX12_statement_78 (xc1_i _) ?_
        refine x_aload_n dX12_statement_79 rfl ?_
        refine cmX12_473 rfl hs (Nat.le_of_ble_eq_true rfl) dX12_statement_80 (fun M10 => ?_)
        refine x_aload_n dX12_statement_83 rfl ?_
        refine x_iconst (v := 2) dX12_statement_84 (by decide) ?_
        refine x_aload_n dX12_statement_85 rfl ?_
        refine gfX12_448 rfl dX12_statement_86 (fun x11 => ?_)
        refine cmX12_465 rfl hs (Nat.le_of_ble_eq_true rfl) dX12_statement_89 (fun x13 M12 => ?_)
        refine x_pop dX12_statement_92 (xc1_i _) ?_
        refine x_aload_n dX12_statement_93 rfl ?_
        refine x_bipush (v := 59) dX12_statement_94 (by decide) ?_
        refine cmX12_517 rfl hs (Nat.le_of_ble_eq_true rfl) dX12_statement_96 (fun x15 M14 => ?_)
        refine x_pop dX12_statement_99 (xc1_i _) ?_
        refine x_aload_n dX12_statement_100 rfl ?_
        refine x_lload_n dX12_statement_101 rfl ?_
        refine cmX12_520 rfl hs (Nat.le_of_ble_eq_true rfl) dX12_statement_102 (fun M16 => ?_)
        refine x_goto (tgt := 250) dX12_statement_105 (by decide) ?_
        exact x_weak (by exact trivial) (hj250 M16)
    · refine x_aload_n dX12_statement_108 rfl ?_
      refine cmX12_524 rfl hs (Nat.le_of_ble_eq_true rfl) dX12_statement_109 (fun M17 => ?_)
      refine x_goto (tgt := 250) dX12_statement_112 (by decide) ?_
      exact x_weak (by exact trivial) (hj250 M17)
    · refine x_aload_n dX12_statement_226 rfl ?_
      refine x_aload_n dX12_statement_227 rfl ?_
      refine gfX12_408 rfl dX12_statement_228 (fun x18 => ?_)
      refine x_iconst (v := 1) dX12_statement_231 (by decide) ?_
      refine x_jn (σ := Int32) 240 (fun s19 => [some (va_rf a0), none, none, none]) (fun s19 => [.int s19, va_rf a0]) (fun s19 => M0) (fun s19 => ?_) (fun j240 hj240 => ?_)
      · refine cmX12_432 rfl hs (Nat.le_of_ble_eq_true rfl) dX12_statement_240 (fun x21 M20 => ?_)
        refine x_if_eq (tgt := 250) dX12_statement_243 (by decide) (fun _ => ?_) (fun _ => ?_)
        · exact x_weak (by exact trivial) (hj250 M20)
        · refine x_aload_n dX12_statement_246 rfl ?_
          refine cmX12_533 rfl hs (Nat.le_of_ble_eq_true rfl) dX12_statement_247 (fun M22 => ?_)
          exact x_weak (by exact trivial) (hj250 M22)
      refine x_icmp_ne (tgt := 239) dX12_statement_232 (by decide) (fun _ => ?_) (fun _ => ?_)
      · refine x_iconst (v := 1) dX12_statement_235 (by decide) ?_
        refine x_goto (tgt := 240) dX12_statement_236 (by decide) ?_
        exact x_weak (by exact ⟨rfl, trivial⟩) (hj240 ((1 : Int32)))
      · refine x_iconst (v := 0) dX12_statement_239 (by decide) ?_
        exact x_weak (by exact ⟨rfl, trivial⟩) (hj240 ((0 : Int32)))
    · refine x_aload_n dX12_statement_115 rfl ?_
      refine gfX12_439 rfl dX12_statement_116 (fun x23 => ?_)
      refine x_istore_n (lo' := [some (va_rf a0), some (.int x23), none, none]) dX12_statement_119 (by decide) (xok_r rfl) rfl ?_
      refine x_aload_n dX12_statement_120 rfl ?_
      refine cmX12_436 rfl hs (Nat.le_of_ble_eq_true rfl) dX12_statement_121 (fun M24 => ?_)
      refine x_aload_n dX12_statement_124 rfl ?_
      refine cmX12_473 rfl hs (Nat.le_of_ble_eq_true rfl) dX12_statement_125 (fun M25 => ?_)
      refine x_aload_n dX12_statement_128 rfl ?_
      refine x_bipush (v := 24) dX12_statement_129 (by decide) ?_
      refine x_iconst (v := 0) dX12_statement_131 (by decide) ?_
      refine cmX12_465 rfl hs (Nat.le_of_ble_eq_true rfl) dX12_statement_132 (fun x27 M26 => ?_)
      refine x_istore_n (lo' := [some (va_rf a0), some (.int x23), some (.int x27), none]) dX12_statement_135 (by decide) rfl rfl ?_
      refine x_aload_n dX12_statement_136 rfl ?_
      refine cmX12_527 rfl hs (Nat.le_of_ble_eq_true rfl) dX12_statement_137 (fun M28 => ?_)
      refine x_aload_n dX12_statement_140 rfl ?_
      refine x_bipush (v := 25) dX12_statement_141 (by decide) ?_
      refine x_iload_n dX12_statement_143 rfl ?_
      refine cmX12_465 rfl hs (Nat.le_of_ble_eq_true rfl) dX12_statement_144 (fun x30 M29 => ?_)
      refine x_pop dX12_statement_147 (xc1_i _) ?_
      refine x_aload_n dX12_statement_148 rfl ?_
      refine gfX12_179 rfl dX12_statement_149 (fun x31 => ?_)
      refine x_iload_n dX12_statement_152 rfl ?_
      refine x_aload_n dX12_statement_153 rfl ?_
      refine gfX12_439 rfl dX12_statement_154 (fun x32 => ?_)
      refine x_iast dX12_statement_157 (fun M33 => ?_)
      refine x_goto (tgt := 250) dX12_statement_158 (by decide) ?_
      exact x_weak (by exact trivial) (hj250 M33)
    · refine x_aload_n dX12_statement_161 rfl ?_
      refine gfX12_408 rfl dX12_statement_162 (fun x34 => ?_)
      refine x_sipush (v := 420) dX12_statement_165 (by decide) ?_
      refine x_jn (σ := Int32) 193 (fun s35 => [some (va_rf a0), none, none, none]) (fun s35 => [.int s35]) (fun s35 => M0) (fun s35 => ?_) (fun j193 hj193 => ?_)
      · refine x_istore_n (lo' := [some (va_rf a0), none, none, some (.int s35)]) dX12_statement_193 (by decide) rfl rfl ?_
        refine x_aload_n dX12_statement_194 rfl ?_
        refine cmX12_436 rfl hs (Nat.le_of_ble_eq_true rfl) dX12_statement_195 (fun M36 => ?_)
        refine x_aload_n dX12_statement_198 rfl ?_
        refine cmX12_473 rfl hs (Nat.le_of_ble_eq_true rfl) dX12_statement_199 (fun M37 => ?_)
        refine x_aload_n dX12_statement_202 rfl ?_
        refine x_iload_n dX12_statement_203 rfl ?_
        refine x_iconst (v := 0) dX12_statement_204 (by decide) ?_
        refine cmX12_465 rfl hs (Nat.le_of_ble_eq_true rfl) dX12_statement_205 (fun x39 M38 => ?_)
        refine x_pop dX12_statement_208 (xc1_i _) ?_
        refine x_aload_n dX12_statement_209 rfl ?_
        refine x_bipush (v := 59) dX12_statement_210 (by decide) ?_
        refine cmX12_517 rfl hs (Nat.le_of_ble_eq_true rfl) dX12_statement_212 (fun x41 M40 => ?_)
        refine x_pop dX12_statement_215 (xc1_i _) ?_
        refine x_goto (tgt := 250) dX12_statement_216 (by decide) ?_
        exact x_weak (by exact trivial) (hj250 M40)
      refine x_icmp_ne (tgt := 176) dX12_statement_168 (by decide) (fun _ => ?_) (fun _ => ?_)
      · refine x_bipush (v := 8) dX12_statement_171 (by decide) ?_
        refine x_goto (tgt := 193) dX12_statement_173 (by decide) ?_
        exact x_weak (by exact ⟨rfl, trivial⟩) (hj193 ((8 : Int32)))
      · refine x_aload_n dX12_statement_176 rfl ?_
        refine gfX12_408 rfl dX12_statement_177 (fun x42 => ?_)
        refine x_sipush (v := 421) dX12_statement_180 (by decide) ?_
        refine x_icmp_ne (tgt := 191) dX12_statement_183 (by decide) (fun _ => ?_) (fun _ => ?_)
        · refine x_bipush (v := 28) dX12_statement_186 (by decide) ?_
          refine x_goto (tgt := 193) dX12_statement_188 (by decide) ?_
          exact x_weak (by exact ⟨rfl, trivial⟩) (hj193 ((28 : Int32)))
        · refine x_bipush (v := 29) dX12_statement_191 (by decide) ?_
          exact x_weak (by exact ⟨rfl, trivial⟩) (hj193 ((29 : Int32)))
    · refine x_aload_n dX12_statement_161 rfl ?_
      refine gfX12_408 rfl dX12_statement_162 (fun x43 => ?_)
      refine x_sipush (v := 420) dX12_statement_165 (by decide) ?_
      refine x_jn (σ := Int32) 193 (fun s44 => [some (va_rf a0), none, none, none]) (fun s44 => [.int s44]) (fun s44 => M0) (fun s44 => ?_) (fun j193 hj193 => ?_)
      · refine x_istore_n (lo' := [some (va_rf a0), none, none, some (.int s44)]) dX12_statement_193 (by decide) rfl rfl ?_
        refine x_aload_n dX12_statement_194 rfl ?_
        refine cmX12_436 rfl hs (Nat.le_of_ble_eq_true rfl) dX12_statement_195 (fun M45 => ?_)
        refine x_aload_n dX12_statement_198 rfl ?_
        refine cmX12_473 rfl hs (Nat.le_of_ble_eq_true rfl) dX12_statement_199 (fun M46 => ?_)
        refine x_aload_n dX12_statement_202 rfl ?_
        refine x_iload_n dX12_statement_203 rfl ?_
        refine x_iconst (v := 0) dX12_statement_204 (by decide) ?_
        refine cmX12_465 rfl hs (Nat.le_of_ble_eq_true rfl) dX12_statement_205 (fun x48 M47 => ?_)
        refine x_pop dX12_statement_208 (xc1_i _) ?_
        refine x_aload_n dX12_statement_209 rfl ?_
        refine x_bipush (v := 59) dX12_statement_210 (by decide) ?_
        refine cmX12_517 rfl hs (Nat.le_of_ble_eq_true rfl) dX12_statement_212 (fun x50 M49 => ?_)
        refine x_pop dX12_statement_215 (xc1_i _) ?_
        refine x_goto (tgt := 250) dX12_statement_216 (by decide) ?_
        exact x_weak (by exact trivial) (hj250 M49)
      refine x_icmp_ne (tgt := 176) dX12_statement_168 (by decide) (fun _ => ?_) (fun _ => ?_)
      · refine x_bipush (v := 8) dX12_statement_171 (by decide) ?_
        refine x_goto (tgt := 193) dX12_statement_173 (by decide) ?_
        exact x_weak (by exact ⟨rfl, trivial⟩) (hj193 ((8 : Int32)))
      · refine x_aload_n dX12_statement_176 rfl ?_
        refine gfX12_408 rfl dX12_statement_177 (fun x51 => ?_)
        refine x_sipush (v := 421) dX12_statement_180 (by decide) ?_
        refine x_icmp_ne (tgt := 191) dX12_statement_183 (by decide) (fun _ => ?_) (fun _ => ?_)
        · refine x_bipush (v := 28) dX12_statement_186 (by decide) ?_
          refine x_goto (tgt := 193) dX12_statement_188 (by decide) ?_
          exact x_weak (by exact ⟨rfl, trivial⟩) (hj193 ((28 : Int32)))
        · refine x_bipush (v := 29) dX12_statement_191 (by decide) ?_
          exact x_weak (by exact ⟨rfl, trivial⟩) (hj193 ((29 : Int32)))
    · refine x_aload_n dX12_statement_161 rfl ?_
      refine gfX12_408 rfl dX12_statement_162 (fun x52 => ?_)
      refine x_sipush (v := 420) dX12_statement_165 (by decide) ?_
      refine x_jn (σ := Int32) 193 (fun s53 => [some (va_rf a0), none, none, none]) (fun s53 => [.int s53]) (fun s53 => M0) (fun s53 => ?_) (fun j193 hj193 => ?_)
      · refine x_istore_n (lo' := [some (va_rf a0), none, none, some (.int s53)]) dX12_statement_193 (by decide) rfl rfl ?_
        refine x_aload_n dX12_statement_194 rfl ?_
        refine cmX12_436 rfl hs (Nat.le_of_ble_eq_true rfl) dX12_statement_195 (fun M54 => ?_)
        refine x_aload_n dX12_statement_198 rfl ?_
        refine cmX12_473 rfl hs (Nat.le_of_ble_eq_true rfl) dX12_statement_199 (fun M55 => ?_)
        refine x_aload_n dX12_statement_202 rfl ?_
        refine x_iload_n dX12_statement_203 rfl ?_
        refine x_iconst (v := 0) dX12_statement_204 (by decide) ?_
        refine cmX12_465 rfl hs (Nat.le_of_ble_eq_true rfl) dX12_statement_205 (fun x57 M56 => ?_)
        refine x_pop dX12_statement_208 (xc1_i _) ?_
        refine x_aload_n dX12_statement_209 rfl ?_
        refine x_bipush (v := 59) dX12_statement_210 (by decide) ?_
        refine cmX12_517 rfl hs (Nat.le_of_ble_eq_true rfl) dX12_statement_212 (fun x59 M58 => ?_)
        refine x_pop dX12_statement_215 (xc1_i _) ?_
        refine x_goto (tgt := 250) dX12_statement_216 (by decide) ?_
        exact x_weak (by exact trivial) (hj250 M58)
      refine x_icmp_ne (tgt := 176) dX12_statement_168 (by decide) (fun _ => ?_) (fun _ => ?_)
      · refine x_bipush (v := 8) dX12_statement_171 (by decide) ?_
        refine x_goto (tgt := 193) dX12_statement_173 (by decide) ?_
        exact x_weak (by exact ⟨rfl, trivial⟩) (hj193 ((8 : Int32)))
      · refine x_aload_n dX12_statement_176 rfl ?_
        refine gfX12_408 rfl dX12_statement_177 (fun x60 => ?_)
        refine x_sipush (v := 421) dX12_statement_180 (by decide) ?_
        refine x_icmp_ne (tgt := 191) dX12_statement_183 (by decide) (fun _ => ?_) (fun _ => ?_)
        · refine x_bipush (v := 28) dX12_statement_186 (by decide) ?_
          refine x_goto (tgt := 193) dX12_statement_188 (by decide) ?_
          exact x_weak (by exact ⟨rfl, trivial⟩) (hj193 ((28 : Int32)))
        · refine x_bipush (v := 29) dX12_statement_191 (by decide) ?_
          exact x_weak (by exact ⟨rfl, trivial⟩) (hj193 ((29 : Int32)))
    · refine x_aload_n dX12_statement_219 rfl ?_
      refine cmX12_530 rfl hs (Nat.le_of_ble_eq_true rfl) dX12_statement_220 (fun M61 => ?_)
      refine x_goto (tgt := 250) dX12_statement_223 (by decide) ?_
      exact x_weak (by exact trivial) (hj250 M61)
  · refine x_aload_n dX12_statement_226 rfl ?_
    refine x_aload_n dX12_statement_227 rfl ?_
    refine gfX12_408 rfl dX12_statement_228 (fun x62 => ?_)
    refine x_iconst (v := 1) dX12_statement_231 (by decide) ?_
    refine x_jn (σ := Int32) 240 (fun s63 => [some (va_rf a0), none, none, none]) (fun s63 => [.int s63, va_rf a0]) (fun s63 => M0) (fun s63 => ?_) (fun j240 hj240 => ?_)
    · refine cmX12_432 rfl hs (Nat.le_of_ble_eq_true rfl) dX12_statement_240 (fun x65 M64 => ?_)
      refine x_if_eq (tgt := 250) dX12_statement_243 (by decide) (fun _ => ?_) (fun _ => ?_)
      · exact x_weak (by exact trivial) (hj250 M64)
      · refine x_aload_n dX12_statement_246 rfl ?_
        refine cmX12_533 rfl hs (Nat.le_of_ble_eq_true rfl) dX12_statement_247 (fun M66 => ?_)
        exact x_weak (by exact trivial) (hj250 M66)
    refine x_icmp_ne (tgt := 239) dX12_statement_232 (by decide) (fun _ => ?_) (fun _ => ?_)
    · refine x_iconst (v := 1) dX12_statement_235 (by decide) ?_
      refine x_goto (tgt := 240) dX12_statement_236 (by decide) ?_
      exact x_weak (by exact ⟨rfl, trivial⟩) (hj240 ((1 : Int32)))
    · refine x_iconst (v := 0) dX12_statement_239 (by decide) ?_
      exact x_weak (by exact ⟨rfl, trivial⟩) (hj240 ((0 : Int32)))
theorem s214 {l : Launch} {d : Nat} {rec : Nat → List Value → Mem → XA} (hS : Nonempty XS) (hs : XSnd l xmt rec d) : Snd1 l 214 (b214 rec) d := by
  intro as M r M' h0
  unfold b214 at h0
  obtain ⟨a0, l1, e1, h1⟩ := aR_inv h0
  obtain ⟨ez, h⟩ := aZ_inv h1
  subst ez
  subst e1
  exact xmet (M := M) (as := [va_rf a0]) (lo := [some (va_rf a0)]) 214 xq214 xm214 (by rw [xargs_rf, xargs_nil]; exact ⟨rfl, trivial⟩) (by rw [xargs_rf, xargs_nil]; exact Nat.le_of_ble_eq_true rfl) (fun S G K => x_weak (by exact ⟨rfl, trivial⟩) (k214 hs a0 M)) h hS
