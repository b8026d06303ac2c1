set_option maxRecDepth 100000 in
def c110 (rec : Nat → List Value → Mem → XA) (a0 : Option Nat) (a1 : Int64) (a2 : Int32) (a3 : Int32) (M0 : Mem) : XA :=
  nn a0 <|
  ptI (8, 9) M0 a0 5 ((-2 : Int32)) fun M1 =>
  ptL (8, 9) M1 a0 0 a1 fun M2 =>
  ptI (8, 9) M2 a0 1 a2 fun M3 =>
  ptI (8, 9) M3 a0 2 a3 fun M4 =>
  some (.null, M4)
def b110 (rec : Nat → List Value → Mem → XA) (as : List Value) (M0 : Mem) : XA := aR as fun a0 as => aL as fun a1 as => aI as fun a2 as => aI as fun a3 as => aZ as (c110 rec a0 a1 a2 a3 M0)
set_option maxRecDepth 100000 in
set_option maxHeartbeats 4000000 in
theorem k110 {S : XS} {G : XG} {K : Nat × Nat} {l : Launch} {d : Nat} {rec : Nat → List Value → Mem → XA} (hs : XSnd l xmt rec d) (a0 : Option Nat) (a1 : Int64) (a2 : Int32) (a3 : Int32) (M0 : Mem) : Xe S G K l (yX7_init, cX7_init, 5, none) d 0 [some (va_rf a0), some (.long a1), none, some (.int a2), some (.int a3)] [] M0 (c110 rec a0 a1 a2 a3 M0) := by
  unfold c110
  refine x_aload_n dX7_init_0 rfl ?_
  refine xoiX7 rfl (Nat.le_of_ble_eq_true rfl) dX7_init_1 ?_
  refine x_aload_n dX7_init_4 rfl ?_
  refine x_bipush (v := -2) dX7_init_5 (by decide) ?_
  refine pfX7_9 rfl dX7_init_7 (fun M1 => ?_)
  refine x_aload_n dX7_init_10 rfl ?_
  refine x_lload_n dX7_init_11 rfl ?_
  refine pfX7_15 rfl rfl dX7_init_12 (fun M2 => ?_)
  refine x_aload_n dX7_init_15 rfl ?_
  refine x_iload_n dX7_init_16 rfl ?_
  refine pfX7_19 rfl rfl dX7_init_17 (fun M3 => ?_)
  refine x_aload_n dX7_init_20 rfl ?_
  refine x_iload dX7_init_21 rfl ?_
  refine pfX7_22 rfl rfl dX7_init_23 (fun M4 => ?_)
  exact x_vret rfl dX7_init_26
theorem s110 {l : Launch} {d : Nat} {rec : Nat → List Value → Mem → XA} (hS : Nonempty XS) (hs : XSnd l xmt rec d) : Snd1 l 110 (b110 rec) d := by
  intro as M r M' h0
  unfold b110 at h0
  obtain ⟨a0, l1, e1, h1⟩ := aR_inv h0
  obtain ⟨a1, l2, e2, h2⟩ := aL_inv h1
  obtain ⟨a2, l3, e3, h3⟩ := aI_inv h2
  obtain ⟨a3, l4, e4, h4⟩ := aI_inv h3
  obtain ⟨ez, h⟩ := aZ_inv h4
  subst ez
  subst e4
  subst e3
  subst e2
  subst e1
  exact xmet (M := M) (as := [va_rf a0, .long a1, .int a2, .int a3]) (lo := [some (va_rf a0), some (.long a1), none, some (.int a2), some (.int a3)]) 110 xq110 xm110 (by rw [xargs_rf, xargs_l, xargs_i, xargs_i, xargs_nil]; exact ⟨rfl, ⟨rfl, ⟨rfl, ⟨rfl, trivial⟩⟩⟩⟩) (by rw [xargs_rf, xargs_l, xargs_i, xargs_i, xargs_nil]; exact Nat.le_of_ble_eq_true rfl) (fun S G K => x_weak (by exact ⟨rfl, ⟨rfl, ⟨rfl, ⟨rfl, trivial⟩⟩⟩⟩) (k110 hs a0 a1 a2 a3 M)) h hS
set_option maxRecDepth 100000 in
def c111_52 (rec : Nat → List Value → Mem → XA) (a0 : Option Nat) (j110 : Mem → XA) : (Int32 × Int32 × Mem) → ((Int32 × Int32 × Mem) → XA) → XA := fun s17 j52 =>
  vS ((some 3)) <|
  cI (rec 320 [va_rf ((some 3))] s17.2.2) fun x19 M18 =>
  if x19 ≤ s17.2.1 then (
    j110 M18) else (
    if ((28 : Int32)) ≤ s17.1 then (
      j110 M18) else (
      vS ((some 3)) <|
      cI (rec 321 [va_rf ((some 3)), .int s17.2.1] M18) fun x21 M20 =>
      jn (fun (s22 : Int32 × Mem) =>
        lt (s17.2.1 + (1 : Int32)) fun (x23 : Int32) =>
        j52 (s22.1, x23, s22.2)) fun j104 =>
      if x21 = ((32 : Int32)) then (
        lt (s17.1 + (1 : Int32)) fun (x24 : Int32) =>
        j104 (x24, M20)) else (
        gtP (9, 8) M20 a0 5 fun x25 =>
        gtP (9, 8) M20 a0 5 fun x26 =>
        alL M20 x26 s17.1 fun x27 =>
        asL M20 x25 s17.1 ((x27 <<< (Int32.toInt64 ((8 : Int32)) &&& 63)) ||| x21.toInt64) fun M28 =>
        j104 (s17.1, M28))))
set_option maxRecDepth 100000 in
def c111 (rec : Nat → List Value → Mem → XA) (a0 : Option Nat) (M0 : Mem) : XA :=
  nn a0 <|
  nA 101 M0 ((3000 : Int32)) fun x1 M2 =>
  ptP (9, 8) M2 a0 0 x1 fun M3 =>
  nA 100 M3 ((3001 : Int32)) fun x4 M5 =>
  ptP (9, 8) M5 a0 2 x4 fun M6 =>
  nA 100 M6 ((3001 : Int32)) fun x7 M8 =>
  ptP (9, 8) M8 a0 3 x7 fun M9 =>
  nA 104 M9 ((3001 : Int32)) fun x10 M11 =>
  ptP (9, 8) M11 a0 4 x10 fun M12 =>
  nA 104 M12 ((28 : Int32)) fun x13 M14 =>
  ptP (9, 8) M14 a0 5 x13 fun M15 =>
  jn (fun (s16 : Mem) =>
    some (.null, s16)) fun j110 =>
  lp (c111_52 rec a0 j110) 4294967296 ((0 : Int32), (0 : Int32), M15)
def b111 (rec : Nat → List Value → Mem → XA) (as : List Value) (M0 : Mem) : XA := aR as fun a0 as => aZ as (c111 rec a0 M0)
set_option maxRecDepth 100000 in
set_option maxHeartbeats 4000000 in
theorem k111 {S : XS} {G : XG} {K : Nat × Nat} {l : Launch} {d : Nat} {rec : Nat → List Value → Mem → XA} (hs : XSnd l xmt rec d) (a0 : Option Nat) (M0 : Mem) : Xe S G K l (yX8_init, cX8_init, 4, none) d 0 [some (va_rf a0), none, none, none] [] M0 (c111 rec a0 M0) := by
  unfold c111
  refine x_aload_n dX8_init_0 rfl ?_
  refine xoiX8 rfl (Nat.le_of_ble_eq_true rfl) dX8_init_1 ?_
  refine x_aload_n dX8_init_4 rfl ?_
  refine x_sipush (v := 3000) dX8_init_5 (by decide) ?_
  refine x_newa101 dX8_init_8 (fun x1 M2 => ?_)
  refine pfX8_9 rfl rfl dX8_init_10 (fun M3 => ?_)
  refine x_aload_n dX8_init_13 rfl ?_
  refine x_sipush (v := 3001) dX8_init_14 (by decide) ?_
  refine x_newa100 dX8_init_17 (fun x4 M5 => ?_)
  refine pfX8_15 rfl rfl dX8_init_19 (fun M6 => ?_)
  refine x_aload_n dX8_init_22 rfl ?_
  refine x_sipush (v := 3001) dX8_init_23 (by decide) ?_
  refine x_newa100 dX8_init_26 (fun x7 M8 => ?_)
  refine pfX8_19 rfl rfl dX8_init_28 (fun M9 => ?_)
  refine x_aload_n dX8_init_31 rfl ?_
  refine x_sipush (v := 3001) dX8_init_32 (by decide) ?_
  refine x_newa104 dX8_init_35 (fun x10 M11 => ?_)
  refine pfX8_22 rfl rfl dX8_init_37 (fun M12 => ?_)
  refine x_aload_n dX8_init_40 rfl ?_
  refine x_bipush (v := 28) dX8_init_41 (by decide) ?_
  refine x_newa104 dX8_init_43 (fun x13 M14 => ?_)
  refine pfX8_26 rfl rfl dX8_init_45 (fun M15 => ?_)
  refine x_iconst (v := 0) dX8_init_48 (by decide) ?_
  refine x_istore_n (lo' := [some (va_rf a0), some (.int ((0 : Int32))), none, none]) dX8_init_49 (by decide) (xok_r rfl) rfl ?_
  refine x_iconst (v := 0) dX8_init_50 (by decide) ?_
  refine x_istore_n (lo' := [some (va_rf a0), some (.int ((0 : Int32))), some (.int ((0 : Int32))), none]) dX8_init_51 (by decide) rfl rfl ?_
  refine x_jn (σ := Mem) 110 (fun s16 => [none, none, none, none]) (fun s16 => []) (fun s16 => s16) (fun s16 => ?_) (fun j110 hj110 => ?_)
  · exact x_vret rfl dX8_init_110
  refine x_weak (by exact ⟨rfl, ⟨rfl, ⟨rfl, trivial⟩⟩⟩) (x_lp (σ := Int32 × Int32 × Mem) 52 (fun s17 => [some (va_rf a0), some (.int s17.1), some (.int s17.2.1), none]) (fun s17 => []) (fun s17 => s17.2.2) (fun s17 j52 hj52 => ?_) 4294967296 ((0 : Int32), (0 : Int32), M15))
  · refine x_iload_n dX8_init_52 rfl ?_
    refine x_ldcS (i := 0) rfl (by decide) dX8_init_53 ?_
    refine cmX8_31 rfl hs (Nat.le_of_ble_eq_true rfl) dX8_init_55 (fun x19 M18 => ?_)
    refine x_icmp_ge (tgt := 110) dX8_init_58 (by decide) (fun _ => ?_) (fun _ => ?_)
    · exact x_weak (by exact trivial) (hj110 M18)
    · refine x_iload_n dX8_init_61 rfl ?_
      refine x_bipush (v := 28) dX8_init_62 (by decide) ?_
      refine x_icmp_ge (tgt := 110) dX8_init_64 (by decide) (fun _ => ?_) (fun _ => ?_)
      · exact x_weak (by exact trivial) (hj110 M18)
      · refine x_ldcS (i := 0) rfl (by decide) dX8_init_67 ?_
        refine x_iload_n dX8_init_69 rfl ?_
        refine cmX8_37 rfl hs (Nat.le_of_ble_eq_true rfl) dX8_init_70 (fun x21 M20 => ?_)
        refine x_istore_n (lo' := [some (va_rf a0), some (.int s17.1), some (.int s17.2.1), some (.int x21)]) dX8_init_73 (by decide) rfl rfl ?_
        refine x_iload_n dX8_init_74 rfl ?_
        refine x_bipush (v := 32) dX8_init_75 (by decide) ?_
        refine x_jn (σ := Int32 × Mem) 104 (fun s22 => [some (va_rf a0), some (.int s22.1), some (.int s17.2.1), none]) (fun s22 => []) (fun s22 => s22.2) (fun s22 => ?_) (fun j104 hj104 => ?_)
        · refine x_iincN (v := 1) (lo' := fun x23 => [some (va_rf a0), some (.int s22.1), some (.int x23), none]) (by decide) dX8_init_104 rfl (by decide) rfl (fun _ => rfl) (fun x23 => ?_)
          refine x_goto (tgt := 52) dX8_init_107 (by decide) ?_
          exact x_weak (by exact ⟨rfl, ⟨rfl, ⟨rfl, trivial⟩⟩⟩) (hj52 (s22.1, x23, s22.2))
        refine x_icmp_ne (tgt := 86) dX8_init_77 (by decide) (fun _ => ?_) (fun _ => ?_)
        · refine x_iincN (v := 1) (lo' := fun x24 => [some (va_rf a0), some (.int x24), some (.int s17.2.1), some (.int x21)]) (by decide) dX8_init_80 rfl (by decide) (xok_r rfl) (fun _ => rfl) (fun x24 => ?_)
          refine x_goto (tgt := 104) dX8_init_83 (by decide) ?_
          exact x_weak (by exact ⟨rfl, ⟨rfl, ⟨rfl, trivial⟩⟩⟩) (hj104 (x24, M20))
        · refine x_aload_n dX8_init_86 rfl ?_
          refine gfX8_26 rfl dX8_init_87 (fun x25 => ?_)
          refine x_iload_n dX8_init_90 rfl ?_
          refine x_aload_n dX8_init_91 rfl ?_
          refine gfX8_26 rfl dX8_init_92 (fun x26 => ?_)
          refine x_iload_n dX8_init_95 rfl ?_
          refine x_lald dX8_init_96 (fun x27 => ?_)
          refine x_bipush (v := 8) dX8_init_97 (by decide) ?_
          refine x_lshl dX8_init_99 ?_
          refine x_iload_n dX8_init_100 rfl ?_
          refine x_i2l dX8_init_101 ?_
          refine x_lor dX8_init_102 ?_
          refine x_last dX8_init_103 (fun M28 => ?_)
          exact x_weak (by exact ⟨rfl, ⟨rfl, ⟨rfl, trivial⟩⟩⟩) (hj104 (s17.1, M28))
theorem s111 {l : Launch} {d : Nat} {rec : Nat → List Value → Mem → XA} (hS : Nonempty XS) (hs : XSnd l xmt rec d) : Snd1 l 111 (b111 rec) d := by
  intro as M r M' h0
  unfold b111 at h0
  obtain ⟨a0, l1, e1, h1⟩ := aR_inv h0
  obtain ⟨ez, h⟩ := aZ_inv h1
  subst ez
  subst e1
  exact xmet (M := M) (as := [va_rf a0]) (lo := [some (va_rf a0)]) 111 xq111 xm111 (by rw [xargs_rf, xargs_nil]; exact ⟨rfl, trivial⟩) (by rw [xargs_rf, xargs_nil]; exact Nat.le_of_ble_eq_true rfl) (fun S G K => x_weak (by exact ⟨rfl, trivial⟩) (k111 hs a0 M)) h hS
set_option maxRecDepth 100000 in
def c112_3 (rec : Nat → List Value → Mem → XA) (a0 : Option Nat) (a1 : Int32) (j46 : Mem → XA) : (Int32 × Mem) → ((Int32 × Mem) → XA) → XA := fun s2 j3 =>
  if s2.1 < 0 then (
    j46 s2.2) else (
    gtI (9, 8) s2.2 a0 1 fun x3 =>
    if ((3000 : Int32)) ≤ x3 then (
      j46 s2.2) else (
      gtP (9, 8) s2.2 a0 0 fun x4 =>
      gtI (9, 8) s2.2 a0 1 fun x5 =>
      asI 101 s2.2 x4 x5 ((((Int32.toUInt32 a1 >>> (Int32.toUInt32 s2.1 &&& Int32.toUInt32 31)).toInt32).toInt8.toInt32).toInt8.toInt32) fun M6 =>
      gtI (9, 8) M6 a0 1 fun x7 =>
      ptI (9, 8) M6 a0 1 (x7 + ((1 : Int32))) fun M8 =>
      lt (s2.1 + (-8 : Int32)) fun (x9 : Int32) =>
      j3 (x9, M8)))
set_option maxRecDepth 100000 in
def c112 (rec : Nat → List Value → Mem → XA) (a0 : Option Nat) (a1 : Int32) (M0 : Mem) : XA :=
  jn (fun (s1 : Mem) =>
    some (.null, s1)) fun j46 =>
  lp (c112_3 rec a0 a1 j46) 4294967296 ((24 : Int32), M0)
def b112 (rec : Nat → List Value → Mem → XA) (as : List Value) (M0 : Mem) : XA := aR as fun a0 as => aI as fun a1 as => aZ as (c112 rec a0 a1 M0)
set_option maxRecDepth 100000 in
set_option maxHeartbeats 4000000 in
theorem k112 {S : XS} {G : XG} {K : Nat × Nat} {l : Launch} {d : Nat} {rec : Nat → List Value → Mem → XA} (hs : XSnd l xmt rec d) (a0 : Option Nat) (a1 : Int32) (M0 : Mem) : Xe S G K l (yX8_add, cX8_add, 3, none) d 0 [some (va_rf a0), some (.int a1), none] [] M0 (c112 rec a0 a1 M0) := by
  unfold c112
  refine x_bipush (v := 24) dX8_add_0 (by decide) ?_
  refine x_istore_n (lo' := [some (va_rf a0), some (.int a1), some (.int ((24 : Int32)))]) dX8_add_2 (by decide) rfl rfl ?_
  refine x_jn (σ := Mem) 46 (fun s1 => [none, none, none]) (fun s1 => []) (fun s1 => s1) (fun s1 => ?_) (fun j46 hj46 => ?_)
  · exact x_vret rfl dX8_add_46
  refine x_weak (by exact ⟨rfl, ⟨rfl, ⟨rfl, trivial⟩⟩⟩) (x_lp (σ := Int32 × Mem) 3 (fun s2 => [some (va_rf a0), some (.int a1), some (.int s2.1)]) (fun s2 => []) (fun s2 => s2.2) (fun s2 j3 hj3 => ?_) 4294967296 ((24 : Int32), M0))
  · refine x_iload_n dX8_add_3 rfl ?_
    refine x_if_lt (tgt := 46) dX8_add_4 (by decide) (fun _ => ?_) (fun _ => ?_)
    · exact x_weak (by exact trivial) (hj46 s2.2)
    · refine x_aload_n dX8_add_7 rfl ?_
      refine gfX8_41 rfl dX8_add_8 (fun x3 => ?_)
      refine x_sipush (v := 3000) dX8_add_11 (by decide) ?_
      refine x_icmp_ge (tgt := 46) dX8_add_14 (by decide) (fun _ => ?_) (fun _ => ?_)
      · exact x_weak (by exact trivial) (hj46 s2.2)
      · refine x_aload_n dX8_add_17 rfl ?_
        refine gfX8_9 rfl dX8_add_18 (fun x4 => ?_)
        refine x_aload_n dX8_add_21 rfl ?_
        refine gfX8_41 rfl dX8_add_22 (fun x5 => ?_)
        refine x_iload_n dX8_add_25 rfl ?_
        refine x_iload_n dX8_add_26 rfl ?_
        refine x_iushr dX8_add_27 ?_
        refine x_i2b dX8_add_28 ?_
        refine x_bast dX8_add_29 (fun M6 => ?_)
        refine x_aload_n dX8_add_30 rfl ?_
        refine x_dup dX8_add_31 (xc1_r _) ?_
        refine gfX8_41 rfl dX8_add_32 (fun x7 => ?_)
        refine x_iconst (v := 1) dX8_add_35 (by decide) ?_
        refine x_iadd dX8_add_36 ?_
        refine pfX8_41 rfl dX8_add_37 (fun M8 => ?_)
        refine x_iincN (v := -8) (lo' := fun x9 => [some (va_rf a0), some (.int a1), some (.int x9)]) (by decide) dX8_add_40 rfl (by decide) rfl (fun _ => rfl) (fun x9 => ?_)
        refine x_goto (tgt := 3) dX8_add_43 (by decide) ?_
        exact x_weak (by exact ⟨rfl, ⟨rfl, ⟨rfl, trivial⟩⟩⟩) (hj3 (x9, M8))
theorem s112 {l : Launch} {d : Nat} {rec : Nat → List Value → Mem → XA} (hS : Nonempty XS) (hs : XSnd l xmt rec d) : Snd1 l 112 (b112 rec) d := by
  intro as M r M' h0
  unfold b112 at h0
  obtain ⟨a0, l1, e1, h1⟩ := aR_inv h0
  obtain ⟨a1, l2, e2, h2⟩ := aI_inv h1
  obtain ⟨ez, h⟩ := aZ_inv h2
  subst ez
  subst e2
  subst e1
  exact xmet (M := M) (as := [va_rf a0, .int a1]) (lo := [some (va_rf a0), some (.int a1)]) 112 xq112 xm112 (by rw [xargs_rf, xargs_i, xargs_nil]; exact ⟨rfl, ⟨rfl, trivial⟩⟩) (by rw [xargs_rf, xargs_i, xargs_nil]; exact Nat.le_of_ble_eq_true rfl) (fun S G K => x_weak (by exact ⟨rfl, ⟨rfl, trivial⟩⟩) (k112 hs a0 a1 M)) h hS
set_option maxRecDepth 100000 in
def c113_14 (rec : Nat → List Value → Mem → XA) (a0 : Option Nat) (j163 : Mem → XA) : (Int32 × Int32 × Mem) → ((Int32 × Int32 × Mem) → XA) → XA := fun s4 j14 =>
  if ((3000 : Int32)) < s4.2.1 then (
    j163 s4.2.2) else (
    if s4.1 = 0 then (
      j163 s4.2.2) else (
      vC (9, 8) s4.2.2 a0 <|
      cV (rec 114 [va_rf a0] s4.2.2) fun M5 =>
      gtP (9, 8) M5 a0 3 fun x6 =>
      gtI (9, 8) M5 a0 6 fun x7 =>
      gtI (9, 8) M5 a0 7 fun x8 =>
      asI 100 M5 x6 x7 x8 fun M9 =>
      gtP (9, 8) M9 a0 4 fun x10 =>
      gtI (9, 8) M9 a0 6 fun x11 =>
      asL M9 x10 x11 ((0 : Int64)) fun M12 =>
      gtP (9, 8) M12 a0 2 fun x13 =>
      gtI (9, 8) M12 a0 6 fun x14 =>
      gtI (9, 8) M12 a0 7 fun x15 =>
      gtI (9, 8) M12 a0 1 fun x16 =>
      jn (fun (s17 : Int32 × Mem) =>
        asI 100 s17.2 x13 x14 s17.1 fun M18 =>
        gtP (9, 8) M18 a0 2 fun x19 =>
        gtI (9, 8) M18 a0 6 fun x20 =>
        alI 100 M18 x19 x20 fun x21 =>
        jn (fun (s22 : Int32) =>
          gtI (9, 8) M18 a0 6 fun x23 =>
          ptI (9, 8) M18 a0 6 (x23 + ((1 : Int32))) fun M24 =>
          lt (s4.2.1 + (1 : Int32)) fun (x25 : Int32) =>
          j14 (s22, x25, M24)) fun j146 =>
        jn (fun (s26 : Unit) =>
          j146 ((0 : Int32))) fun j145 =>
        if x21 = 0 then (
          j145 ()) else (
          gtP (9, 8) M18 a0 2 fun x27 =>
          gtI (9, 8) M18 a0 6 fun x28 =>
          alI 100 M18 x27 x28 fun x29 =>
          if x29 = ((1 : Int32)) then (
            j145 ()) else (
            j146 ((1 : Int32))))) fun j115 =>
      if x15 < x16 then (
        gtI (9, 8) M12 a0 7 fun x30 =>
        vC (9, 8) M12 a0 <|
        cI (rec 115 [va_rf a0, .int x30] M12) fun x32 M31 =>
        if x32 = 0 then (
          gtI (9, 8) M31 a0 7 fun x33 =>
          vC (9, 8) M31 a0 <|
          cI (rec 116 [va_rf a0, .int x33] M31) fun x35 M34 =>
          if x35 = 0 then (
            vC (9, 8) M34 a0 <|
            cI (rec 119 [va_rf a0] M34) fun x37 M36 =>
            j115 (x37, M36)) else (
            vC (9, 8) M34 a0 <|
            cI (rec 118 [va_rf a0] M34) fun x39 M38 =>
            j115 (x39, M38))) else (
          vC (9, 8) M31 a0 <|
          cI (rec 117 [va_rf a0] M31) fun x41 M40 =>
          j115 (x41, M40))) else (
        j115 ((0 : Int32), M12))))
set_option maxRecDepth 100000 in
def c113 (rec : Nat → List Value → Mem → XA) (a0 : Option Nat) (M0 : Mem) : XA :=
  ptI (9, 8) M0 a0 6 ((0 : Int32)) fun M1 =>
  ptI (9, 8) M1 a0 7 ((0 : Int32)) fun M2 =>
  jn (fun (s3 : Mem) =>
    some (.null, s3)) fun j163 =>
  lp (c113_14 rec a0 j163) 4294967296 ((1 : Int32), (0 : Int32), M2)
def b113 (rec : Nat → List Value → Mem → XA) (as : List Value) (M0 : Mem) : XA := aR as fun a0 as => aZ as (c113 rec a0 M0)
set_option maxRecDepth 100000 in
set_option maxHeartbeats 4000000 in
theorem k113 {S : XS} {G : XG} {K : Nat × Nat} {l : Launch} {d : Nat} {rec : Nat → List Value → Mem → XA} (hs : XSnd l xmt rec d) (a0 : Option Nat) (M0 : Mem) : Xe S G K l (yX8_scan, cX8_scan, 3, none) d 0 [some (va_rf a0), none, none] [] M0 (c113 rec a0 M0) := by
  unfold c113
  refine x_aload_n dX8_scan_0 rfl ?_
  refine x_iconst (v := 0) dX8_scan_1 (by decide) ?_
  refine pfX8_44 rfl dX8_scan_2 (fun M1 => ?_)
  refine x_aload_n dX8_scan_5 rfl ?_
  refine x_iconst (v := 0) dX8_scan_6 (by decide) ?_
  refine pfX8_47 rfl dX8_scan_7 (fun M2 => ?_)
  refine x_iconst (v := 1) dX8_scan_10 (by decide) ?_
  refine x_istore_n (lo' := [some (va_rf a0), some (.int ((1 : Int32))), none]) dX8_scan_11 (by decide) (xok_r rfl) rfl ?_
  refine x_iconst (v := 0) dX8_scan_12 (by decide) ?_
  refine x_istore_n (lo' := [some (va_rf a0), some (.int ((1 : Int32))), some (.int ((0 : Int32)))]) dX8_scan_13 (by decide) rfl rfl ?_
  refine x_jn (σ := Mem) 163 (fun s3 => [none, none, none]) (fun s3 => []) (fun s3 => s3) (fun s3 => ?_) (fun j163 hj163 => ?_)
  · exact x_vret rfl dX8_scan_163
  refine x_weak (by exact ⟨rfl, ⟨rfl, ⟨rfl, trivial⟩⟩⟩) (x_lp (σ := Int32 × Int32 × Mem) 14 (fun s4 => [some (va_rf a0), some (.int s4.1), some (.int s4.2.1)]) (fun s4 => []) (fun s4 => s4.2.2) (fun s4 j14 hj14 => ?_) 4294967296 ((1 : Int32), (0 : Int32), M2))
  · refine x_iload_n dX8_scan_14 rfl ?_
    refine x_sipush (v := 3000) dX8_scan_15 (by decide) ?_
    refine x_icmp_gt (tgt := 163) dX8_scan_18 (by decide) (fun _ => ?_) (fun _ => ?_)
    · exact x_weak (by exact trivial) (hj163 s4.2.2)
    · refine x_iload_n dX8_scan_21 rfl ?_
      refine x_if_eq (tgt := 163) dX8_scan_22 (by decide) (fun _ => ?_) (fun _ => ?_)
      · exact x_weak (by exact trivial) (hj163 s4.2.2)
      · refine x_aload_n dX8_scan_25 rfl ?_
        refine cmX8_50 rfl hs (Nat.le_of_ble_eq_true rfl) dX8_scan_26 (fun M5 => ?_)
        refine x_aload_n dX8_scan_29 rfl ?_
        refine gfX8_19 rfl dX8_scan_30 (fun x6 => ?_)
        refine x_aload_n dX8_scan_33 rfl ?_
        refine gfX8_44 rfl dX8_scan_34 (fun x7 => ?_)
        refine x_aload_n dX8_scan_37 rfl ?_
        refine gfX8_47 rfl dX8_scan_38 (fun x8 => ?_)
        refine x_iast dX8_scan_41 (fun M9 => ?_)
        refine x_aload_n dX8_scan_42 rfl ?_
        refine gfX8_22 rfl dX8_scan_43 (fun x10 => ?_)
        refine x_aload_n dX8_scan_46 rfl ?_
        refine gfX8_44 rfl dX8_scan_47 (fun x11 => ?_)
        refine x_lconst (v := 0) dX8_scan_50 (by decide) ?_
        refine x_last dX8_scan_51 (fun M12 => ?_)
        refine x_aload_n dX8_scan_52 rfl ?_
        refine gfX8_15 rfl dX8_scan_53 (fun x13 => ?_)
        refine x_aload_n dX8_scan_56 rfl ?_
        refine gfX8_44 rfl dX8_scan_57 (fun x14 => ?_)
        refine x_aload_n dX8_scan_60 rfl ?_
        refine gfX8_47 rfl dX8_scan_61 (fun x15 => ?_)
        refine x_aload_n dX8_scan_64 rfl ?_
        refine gfX8_41 rfl dX8_scan_65 (fun x16 => ?_)
        refine x_jn (σ := Int32 × Mem) 115 (fun s17 => [some (va_rf a0), none, some (.int s4.2.1)]) (fun s17 => [.int s17.1, .int x14, va_rf x13]) (fun s17 => s17.2) (fun s17 => ?_) (fun j115 hj115 => ?_)
        · refine x_iast dX8_scan_115 (fun M18 => ?_)
          refine x_aload_n dX8_scan_116 rfl ?_
          refine gfX8_15 rfl dX8_scan_117 (fun x19 => ?_)
          refine x_aload_n dX8_scan_120 rfl ?_
          refine gfX8_44 rfl dX8_scan_121 (fun x20 => ?_)
          refine x_iald dX8_scan_124 (fun x21 => ?_)
          refine x_jn (σ := Int32) 146 (fun s22 => [some (va_rf a0), none, some (.int s4.2.1)]) (fun s22 => [.int s22]) (fun s22 => M18) (fun s22 => ?_) (fun j146 hj146 => ?_)
          · refine x_istore_n (lo' := [some (va_rf a0), some (.int s22), some (.int s4.2.1)]) dX8_scan_146 (by decide) (xok_r rfl) rfl ?_
            refine x_aload_n dX8_scan_147 rfl ?_
            refine x_dup dX8_scan_148 (xc1_r _) ?_
            refine gfX8_44 rfl dX8_scan_149 (fun x23 => ?_)
            refine x_iconst (v := 1) dX8_scan_152 (by decide) ?_
            refine x_iadd dX8_scan_153 ?_
            refine pfX8_44 rfl dX8_scan_154 (fun M24 => ?_)
            refine x_iincN (v := 1) (lo' := fun x25 => [some (va_rf a0), some (.int s22), some (.int x25)]) (by decide) dX8_scan_157 rfl (by decide) rfl (fun _ => rfl) (fun x25 => ?_)
            refine x_goto (tgt := 14) dX8_scan_160 (by decide) ?_
            exact x_weak (by exact ⟨rfl, ⟨rfl, ⟨rfl, trivial⟩⟩⟩) (hj14 (s22, x25, M24))
          refine x_jn (σ := Unit) 145 (fun s26 => [some (va_rf a0), none, some (.int s4.2.1)]) (fun s26 => []) (fun s26 => M18) (fun s26 => ?_) (fun j145 hj145 => ?_)
          · refine x_iconst (v := 0) dX8_scan_145 (by decide) ?_
            exact x_weak (by exact ⟨rfl, ⟨rfl, trivial⟩⟩) (hj146 ((0 : Int32)))
          refine x_if_eq (tgt := 145) dX8_scan_125 (by decide) (fun _ => ?_) (fun _ => ?_)
          · exact x_weak (by exact ⟨rfl, ⟨rfl, trivial⟩⟩) (hj145 ())
          · refine x_aload_n dX8_scan_128 rfl ?_
            refine gfX8_15 rfl dX8_scan_129 (fun x27 => ?_)
            refine x_aload_n dX8_scan_132 rfl ?_
            refine gfX8_44 rfl dX8_scan_133 (fun x28 => ?_)
            refine x_iald dX8_scan_136 (fun x29 => ?_)
            refine x_iconst (v := 1) dX8_scan_137 (by decide) ?_
            refine x_icmp_eq (tgt := 145) dX8_scan_138 (by decide) (fun _ => ?_) (fun _ => ?_)
            · exact x_weak (by exact ⟨rfl, ⟨rfl, trivial⟩⟩) (hj145 ())
            · refine x_iconst (v := 1) dX8_scan_141 (by decide) ?_
              refine x_goto (tgt := 146) dX8_scan_142 (by decide) ?_
              exact x_weak (by exact ⟨rfl, ⟨rfl, trivial⟩⟩) (hj146 ((1 : Int32)))
        refine x_icmp_lt (tgt := 75) dX8_scan_68 (by decide) (fun _ => ?_) (fun _ => ?_)
        · refine x_aload_n dX8_scan_75 rfl ?_
          refine x_aload_n dX8_scan_76 rfl ?_
          refine gfX8_47 rfl dX8_scan_77 (fun x30 => ?_)
          refine cmX8_53 rfl hs (Nat.le_of_ble_eq_true rfl) dX8_scan_80 (fun x32 M31 => ?_)
          refine x_if_eq (tgt := 93) dX8_scan_83 (by decide) (fun _ => ?_) (fun _ => ?_)
          · refine x_aload_n dX8_scan_93 rfl ?_
            refine x_aload_n dX8_scan_94 rfl ?_
            refine gfX8_47 rfl dX8_scan_95 (fun x33 => ?_)
            refine cmX8_60 rfl hs (Nat.le_of_ble_eq_true rfl) dX8_scan_98 (fun x35 M34 => ?_)
            refine x_if_eq (tgt := 111) dX8_scan_101 (by decide) (fun _ => ?_) (fun _ => ?_)
            · refine x_aload_n dX8_scan_111 rfl ?_
              refine cmX8_66 rfl hs (Nat.le_of_ble_eq_true rfl) dX8_scan_112 (fun x37 M36 => ?_)
              exact x_weak (by exact ⟨rfl, ⟨rfl, trivial⟩⟩) (hj115 (x37, M36))
            · refine x_aload_n dX8_scan_104 rfl ?_
              refine cmX8_63 rfl hs (Nat.le_of_ble_eq_true rfl) dX8_scan_105 (fun x39 M38 => ?_)
              refine x_goto (tgt := 115) dX8_scan_108 (by decide) ?_
              exact x_weak (by exact ⟨rfl, ⟨rfl, trivial⟩⟩) (hj115 (x39, M38))
          · refine x_aload_n dX8_scan_86 rfl ?_
            refine cmX8_57 rfl hs (Nat.le_of_ble_eq_true rfl) dX8_scan_87 (fun x41 M40 => ?_)
            refine x_goto (tgt := 115) dX8_scan_90 (by decide) ?_
            exact x_weak (by exact ⟨rfl, ⟨rfl, trivial⟩⟩) (hj115 (x41, M40))
        · refine x_iconst (v := 0) dX8_scan_71 (by decide) ?_
          refine x_goto (tgt := 115) dX8_scan_72 (by decide) ?_
          exact x_weak (by exact ⟨rfl, ⟨rfl, trivial⟩⟩) (hj115 ((0 : Int32), M12))
theorem s113 {l : Launch} {d : Nat} {rec : Nat → List Value → Mem → XA} (hS : Nonempty XS) (hs : XSnd l xmt rec d) : Snd1 l 113 (b113 rec) d := by
  intro as M r M' h0
  unfold b113 at h0
  obtain ⟨a0, l1, e1, h1⟩ := aR_inv h0
  obtain ⟨ez, h⟩ := aZ_inv h1
  subst ez
  subst e1
  exact xmet (M := M) (as := [va_rf a0]) (lo := [some (va_rf a0)]) 113 xq113 xm113 (by rw [xargs_rf, xargs_nil]; exact ⟨rfl, trivial⟩) (by rw [xargs_rf, xargs_nil]; exact Nat.le_of_ble_eq_true rfl) (fun S G K => x_weak (by exact ⟨rfl, trivial⟩) (k113 hs a0 M)) h hS
set_option maxRecDepth 100000 in
def c114_0 (rec : Nat → List Value → Mem → XA) (a0 : Option Nat) (j66 : Mem → XA) : (Mem) → ((Mem) → XA) → XA := fun s2 j0 =>
  gtI (9, 8) s2 a0 7 fun x3 =>
  gtI (9, 8) s2 a0 1 fun x4 =>
  if x4 ≤ x3 then (
    j66 s2) else (
    gtP (9, 8) s2 a0 0 fun x5 =>
    gtI (9, 8) s2 a0 7 fun x6 =>
    alI 101 s2 x5 x6 fun x7 =>
    jn (fun (s8 : Unit) =>
      gtI (9, 8) s2 a0 7 fun x9 =>
      ptI (9, 8) s2 a0 7 (x9 + ((1 : Int32))) fun M10 =>
      j0 M10) fun j53 =>
    if x7 = ((10 : Int32)) then (
      j53 ()) else (
      gtP (9, 8) s2 a0 0 fun x11 =>
      gtI (9, 8) s2 a0 7 fun x12 =>
      alI 101 s2 x11 x12 fun x13 =>
      if x13 = ((13 : Int32)) then (
        j53 ()) else (
        gtP (9, 8) s2 a0 0 fun x14 =>
        gtI (9, 8) s2 a0 7 fun x15 =>
        alI 101 s2 x14 x15 fun x16 =>
        if x16 = ((32 : Int32)) then (
          j53 ()) else (
          j66 s2))))
set_option maxRecDepth 100000 in
def c114 (rec : Nat → List Value → Mem → XA) (a0 : Option Nat) (M0 : Mem) : XA :=
  jn (fun (s1 : Mem) =>
    some (.null, s1)) fun j66 =>
  lp (c114_0 rec a0 j66) 4294967296 M0
def b114 (rec : Nat → List Value → Mem → XA) (as : List Value) (M0 : Mem) : XA := aR as fun a0 as => aZ as (c114 rec a0 M0)
set_option maxRecDepth 100000 in
set_option maxHeartbeats 4000000 in
theorem k114 {S : XS} {G : XG} {K : Nat × Nat} {l : Launch} {d : Nat} {rec : Nat → List Value → Mem → XA} (hs : XSnd l xmt rec d) (a0 : Option Nat) (M0 : Mem) : Xe S G K l (yX8_skipBlanks, cX8_skipBlanks, 1, none) d 0 [some (va_rf a0)] [] M0 (c114 rec a0 M0) := by
  unfold c114
  refine x_jn (σ := Mem) 66 (fun s1 => [none]) (fun s1 => []) (fun s1 => s1) (fun s1 => ?_) (fun j66 hj66 => ?_)
  · exact x_vret rfl dX8_skipBlanks_66
  refine x_weak (by exact ⟨rfl, trivial⟩) (x_lp (σ := Mem) 0 (fun s2 => [some (va_rf a0)]) (fun s2 => []) (fun s2 => s2) (fun s2 j0 hj0 => ?_) 4294967296 M0)
  · refine x_aload_n dX8_skipBlanks_0 rfl ?_
    refine gfX8_47 rfl dX8_skipBlanks_1 (fun x3 => ?_)
    refine x_aload_n dX8_skipBlanks_4 rfl ?_
    refine gfX8_41 rfl dX8_skipBlanks_5 (fun x4 => ?_)
    refine x_icmp_ge (tgt := 66) dX8_skipBlanks_8 (by decide) (fun _ => ?_) (fun _ => ?_)
    · exact x_weak (by exact trivial) (hj66 s2)
    · refine x_aload_n dX8_skipBlanks_11 rfl ?_
      refine gfX8_9 rfl dX8_skipBlanks_12 (fun x5 => ?_)
      refine x_aload_n dX8_skipBlanks_15 rfl ?_
      refine gfX8_47 rfl dX8_skipBlanks_16 (fun x6 => ?_)
      refine x_bald dX8_skipBlanks_19 (fun x7 => ?_)
      refine x_bipush (v := 10) dX8_skipBlanks_20 (by decide) ?_
      refine x_jn (σ := Unit) 53 (fun s8 => [some (va_rf a0)]) (fun s8 => []) (fun s8 => s2) (fun s8 => ?_) (fun j53 hj53 => ?_)
      · refine x_aload_n dX8_skipBlanks_53 rfl ?_
        refine x_dup dX8_skipBlanks_54 (xc1_r _) ?_
        refine gfX8_47 rfl dX8_skipBlanks_55 (fun x9 => ?_)
        refine x_iconst (v := 1) dX8_skipBlanks_58 (by decide) ?_
        refine x_iadd dX8_skipBlanks_59 ?_
        refine pfX8_47 rfl dX8_skipBlanks_60 (fun M10 => ?_)
        refine x_goto (tgt := 0) dX8_skipBlanks_63 (by decide) ?_
        exact x_weak (by exact ⟨rfl, trivial⟩) (hj0 M10)
      refine x_icmp_eq (tgt := 53) dX8_skipBlanks_22 (by decide) (fun _ => ?_) (fun _ => ?_)
      · exact x_weak (by exact ⟨rfl, trivial⟩) (hj53 ())
      · refine x_aload_n dX8_skipBlanks_25 rfl ?_
        refine gfX8_9 rfl dX8_skipBlanks_26 (fun x11 => ?_)
        refine x_aload_n dX8_skipBlanks_29 rfl ?_
        refine gfX8_47 rfl dX8_skipBlanks_30 (fun x12 => ?_)
        refine x_bald dX8_skipBlanks_33 (fun x13 => ?_)
        refine x_bipush (v := 13) dX8_skipBlanks_34 (by decide) ?_
        refine x_icmp_eq (tgt := 53) dX8_skipBlanks_36 (by decide) (fun _ => ?_) (fun _ => ?_)
        · exact x_weak (by exact ⟨rfl, trivial⟩) (hj53 ())
        · refine x_aload_n dX8_skipBlanks_39 rfl ?_
          refine gfX8_9 rfl dX8_skipBlanks_40 (fun x14 => ?_)
          refine x_aload_n dX8_skipBlanks_43 rfl ?_
          refine gfX8_47 rfl dX8_skipBlanks_44 (fun x15 => ?_)
          refine x_bald dX8_skipBlanks_47 (fun x16 => ?_)
          refine x_bipush (v := 32) dX8_skipBlanks_48 (by decide) ?_
          refine x_icmp_ne (tgt := 66) dX8_skipBlanks_50 (by decide) (fun _ => ?_) (fun _ => ?_)
          · exact x_weak (by exact ⟨rfl, trivial⟩) (hj53 ())
          · exact x_weak (by exact trivial) (hj66 s2)
theorem s114 {l : Launch} {d : Nat} {rec : Nat → List Value → Mem → XA} (hS : Nonempty XS) (hs : XSnd l xmt rec d) : Snd1 l 114 (b114 rec) d := by
  intro as M r M' h0
  unfold b114 at h0
  obtain ⟨a0, l1, e1, h1⟩ := aR_inv h0
  obtain ⟨ez, h⟩ := aZ_inv h1
  subst ez
  subst e1
  exact xmet (M := M) (as := [va_rf a0]) (lo := [some (va_rf a0)]) 114 xq114 xm114 (by rw [xargs_rf, xargs_nil]; exact ⟨rfl, trivial⟩) (by rw [xargs_rf, xargs_nil]; exact Nat.le_of_ble_eq_true rfl) (fun S G K => x_weak (by exact ⟨rfl, trivial⟩) (k114 hs a0 M)) h hS
set_option maxRecDepth 100000 in
def c115 (rec : Nat → List Value → Mem → XA) (a0 : Option Nat) (a1 : Int32) (M0 : Mem) : XA :=
  gtI (9, 8) M0 a0 1 fun x1 =>
  jn (fun (s2 : Int32) =>
    rtZ s2 M0) fun j35 =>
  jn (fun (s3 : Unit) =>
    j35 ((0 : Int32))) fun j34 =>
  if x1 ≤ a1 then (
    j34 ()) else (
    gtP (9, 8) M0 a0 0 fun x4 =>
    alI 101 M0 x4 a1 fun x5 =>
    if x5 < ((97 : Int32)) then (
      j34 ()) else (
      gtP (9, 8) M0 a0 0 fun x6 =>
      alI 101 M0 x6 a1 fun x7 =>
      if ((122 : Int32)) < x7 then (
        j34 ()) else (
        j35 ((1 : Int32)))))
def b115 (rec : Nat → List Value → Mem → XA) (as : List Value) (M0 : Mem) : XA := aR as fun a0 as => aI as fun a1 as => aZ as (c115 rec a0 a1 M0)
set_option maxRecDepth 100000 in
set_option maxHeartbeats 4000000 in
theorem k115 {S : XS} {G : XG} {K : Nat × Nat} {l : Launch} {d : Nat} {rec : Nat → List Value → Mem → XA} (hs : XSnd l xmt rec d) (a0 : Option Nat) (a1 : Int32) (M0 : Mem) : Xe S G K l (yX8_isLetter, cX8_isLetter, 2, some .boolean) d 0 [some (va_rf a0), some (.int a1)] [] M0 (c115 rec a0 a1 M0) := by
  unfold c115
  refine x_iload_n dX8_isLetter_0 rfl ?_
  refine x_aload_n dX8_isLetter_1 rfl ?_
  refine gfX8_41 rfl dX8_isLetter_2 (fun x1 => ?_)
  refine x_jn (σ := Int32) 35 (fun s2 => [none, none]) (fun s2 => [.int s2]) (fun s2 => M0) (fun s2 => ?_) (fun j35 hj35 => ?_)
  · exact x_zret rfl dX8_isLetter_35
  refine x_jn (σ := Unit) 34 (fun s3 => [none, none]) (fun s3 => []) (fun s3 => M0) (fun s3 => ?_) (fun j34 hj34 => ?_)
  · refine x_iconst (v := 0) dX8_isLetter_34 (by decide) ?_
    exact x_weak (by exact trivial) (hj35 ((0 : Int32)))
  refine x_icmp_ge (tgt := 34) dX8_isLetter_5 (by decide) (fun _ => ?_) (fun _ => ?_)
  · exact x_weak (by exact trivial) (hj34 ())
  · refine x_aload_n dX8_isLetter_8 rfl ?_
    refine gfX8_9 rfl dX8_isLetter_9 (fun x4 => ?_)
    refine x_iload_n dX8_isLetter_12 rfl ?_
    refine x_bald dX8_isLetter_13 (fun x5 => ?_)
    refine x_bipush (v := 97) dX8_isLetter_14 (by decide) ?_
    refine x_icmp_lt (tgt := 34) dX8_isLetter_16 (by decide) (fun _ => ?_) (fun _ => ?_)
    · exact x_weak (by exact trivial) (hj34 ())
    · refine x_aload_n dX8_isLetter_19 rfl ?_
      refine gfX8_9 rfl dX8_isLetter_20 (fun x6 => ?_)
      refine x_iload_n dX8_isLetter_23 rfl ?_
      refine x_bald dX8_isLetter_24 (fun x7 => ?_)
      refine x_bipush (v := 122) dX8_isLetter_25 (by decide) ?_
      refine x_icmp_gt (tgt := 34) dX8_isLetter_27 (by decide) (fun _ => ?_) (fun _ => ?_)
      · exact x_weak (by exact trivial) (hj34 ())
      · refine x_iconst (v := 1) dX8_isLetter_30 (by decide) ?_
        refine x_goto (tgt := 35) dX8_isLetter_31 (by decide) ?_
        exact x_weak (by exact trivial) (hj35 ((1 : Int32)))
theorem s115 {l : Launch} {d : Nat} {rec : Nat → List Value → Mem → XA} (hS : Nonempty XS) (hs : XSnd l xmt rec d) : Snd1 l 115 (b115 rec) d := by
  intro as M r M' h0
  unfold b115 at h0
  obtain ⟨a0, l1, e1, h1⟩ := aR_inv h0
  obtain ⟨a1, l2, e2, h2⟩ := aI_inv h1
  obtain ⟨ez, h⟩ := aZ_inv h2
  subst ez
  subst e2
  subst e1
  exact xmet (M := M) (as := [va_rf a0, .int a1]) (lo := [some (va_rf a0), some (.int a1)]) 115 xq115 xm115 (by rw [xargs_rf, xargs_i, xargs_nil]; exact ⟨rfl, ⟨rfl, trivial⟩⟩) (by rw [xargs_rf, xargs_i, xargs_nil]; exact Nat.le_of_ble_eq_true rfl) (fun S G K => x_weak (by exact ⟨rfl, ⟨rfl, trivial⟩⟩) (k115 hs a0 a1 M)) h hS
set_option maxRecDepth 100000 in
def c116 (rec : Nat → List Value → Mem → XA) (a0 : Option Nat) (a1 : Int32) (M0 : Mem) : XA :=
  gtI (9, 8) M0 a0 1 fun x1 =>
  jn (fun (s2 : Int32) =>
    rtZ s2 M0) fun j35 =>
  jn (fun (s3 : Unit) =>
    j35 ((0 : Int32))) fun j34 =>
  if x1 ≤ a1 then (
    j34 ()) else (
    gtP (9, 8) M0 a0 0 fun x4 =>
    alI 101 M0 x4 a1 fun x5 =>
    if x5 < ((48 : Int32)) then (
      j34 ()) else (
      gtP (9, 8) M0 a0 0 fun x6 =>
      alI 101 M0 x6 a1 fun x7 =>
      if ((57 : Int32)) < x7 then (
        j34 ()) else (
        j35 ((1 : Int32)))))
def b116 (rec : Nat → List Value → Mem → XA) (as : List Value) (M0 : Mem) : XA := aR as fun a0 as => aI as fun a1 as => aZ as (c116 rec a0 a1 M0)
set_option maxRecDepth 100000 in
set_option maxHeartbeats 4000000 in
theorem k116 {S : XS} {G : XG} {K : Nat × Nat} {l : Launch} {d : Nat} {rec : Nat → List Value → Mem → XA} (hs : XSnd l xmt rec d) (a0 : Option Nat) (a1 : Int32) (M0 : Mem) : Xe S G K l (yX8_isDigit, cX8_isDigit, 2, some .boolean) d 0 [some (va_rf a0), some (.int a1)] [] M0 (c116 rec a0 a1 M0) := by
  unfold c116
  refine x_iload_n dX8_isDigit_0 rfl ?_
  refine x_aload_n dX8_isDigit_1 rfl ?_
  refine gfX8_41 rfl dX8_isDigit_2 (fun x1 => ?_)
  refine x_jn (σ := Int32) 35 (fun s2 => [none, none]) (fun s2 => [.int s2]) (fun s2 => M0) (fun s2 => ?_) (fun j35 hj35 => ?_)
  · exact x_zret rfl dX8_isDigit_35
  refine x_jn (σ := Unit) 34 (fun s3 => [none, none]) (fun s3 => []) (fun s3 => M0) (fun s3 => ?_) (fun j34 hj34 => ?_)
  · refine x_iconst (v := 0) dX8_isDigit_34 (by decide) ?_
    exact x_weak (by exact trivial) (hj35 ((0 : Int32)))
  refine x_icmp_ge (tgt := 34) dX8_isDigit_5 (by decide) (fun _ => ?_) (fun _ => ?_)
  · exact x_weak (by exact trivial) (hj34 ())
  · refine x_aload_n dX8_isDigit_8 rfl ?_
    refine gfX8_9 rfl dX8_isDigit_9 (fun x4 => ?_)
    refine x_iload_n dX8_isDigit_12 rfl ?_
    refine x_bald dX8_isDigit_13 (fun x5 => ?_)
    refine x_bipush (v := 48) dX8_isDigit_14 (by decide) ?_
    refine x_icmp_lt (tgt := 34) dX8_isDigit_16 (by decide) (fun _ => ?_) (fun _ => ?_)
    · exact x_weak (by exact trivial) (hj34 ())
    · refine x_aload_n dX8_isDigit_19 rfl ?_
      refine gfX8_9 rfl dX8_isDigit_20 (fun x6 => ?_)
      refine x_iload_n dX8_isDigit_23 rfl ?_
      refine x_bald dX8_isDigit_24 (fun x7 => ?_)
      refine x_bipush (v := 57) dX8_isDigit_25 (by decide) ?_
      refine x_icmp_gt (tgt := 34) dX8_isDigit_27 (by decide) (fun _ => ?_) (fun _ => ?_)
      · exact x_weak (by exact trivial) (hj34 ())
      · refine x_iconst (v := 1) dX8_isDigit_30 (by decide) ?_
        refine x_goto (tgt := 35) dX8_isDigit_31 (by decide) ?_
        exact x_weak (by exact trivial) (hj35 ((1 : Int32)))
theorem s116 {l : Launch} {d : Nat} {rec : Nat → List Value → Mem → XA} (hS : Nonempty XS) (hs : XSnd l xmt rec d) : Snd1 l 116 (b116 rec) d := by
  intro as M r M' h0
  unfold b116 at h0
  obtain ⟨a0, l1, e1, h1⟩ := aR_inv h0
  obtain ⟨a1, l2, e2, h2⟩ := aI_inv h1
  obtain ⟨ez, h⟩ := aZ_inv h2
  subst ez
  subst e2
  subst e1
  exact xmet (M := M) (as := [va_rf a0, .int a1]) (lo := [some (va_rf a0), some (.int a1)]) 116 xq116 xm116 (by rw [xargs_rf, xargs_i, xargs_nil]; exact ⟨rfl, ⟨rfl, trivial⟩⟩) (by rw [xargs_rf, xargs_i, xargs_nil]; exact Nat.le_of_ble_eq_true rfl) (fun S G K => x_weak (by exact ⟨rfl, ⟨rfl, trivial⟩⟩) (k116 hs a0 a1 M)) h hS
set_option maxRecDepth 100000 in
def c117_95 (rec : Nat → List Value → Mem → XA) (a0 : Option Nat) (M6 : Mem) (j114 : Int32 → XA) (j127 : Unit → XA) (s2 : Int64 × Mem) : (Int32) → ((Int32) → XA) → XA := fun s9 j95 =>
  if ((28 : Int32)) ≤ s9 then (
    j127 ()) else (
    gtP (9, 8) M6 a0 5 fun x10 =>
    alL M6 x10 s9 fun x11 =>
    if (lg_cmp x11 s2.1) = 0 then (
      j114 s9) else (
      lt (s9 + (1 : Int32)) fun (x12 : Int32) =>
      j95 x12))
set_option maxRecDepth 100000 in
def c117_7 (rec : Nat → List Value → Mem → XA) (a0 : Option Nat) (j69 : Int64 × Mem → XA) : (Int64 × Mem) → ((Int64 × Mem) → XA) → XA := fun s13 j7 =>
  gtI (9, 8) s13.2 a0 7 fun x14 =>
  gtI (9, 8) s13.2 a0 1 fun x15 =>
  if x15 ≤ x14 then (
    j69 (s13.1, s13.2)) else (
    gtI (9, 8) s13.2 a0 7 fun x16 =>
    vC (9, 8) s13.2 a0 <|
    cI (rec 115 [va_rf a0, .int x16] s13.2) fun x18 M17 =>
    jn (fun (s19 : Mem) =>
      gtP (9, 8) s19 a0 0 fun x20 =>
      gtI (9, 8) s19 a0 7 fun x21 =>
      alI 101 s19 x20 x21 fun x22 =>
      lt ((s13.1 <<< (Int32.toInt64 ((8 : Int32)) &&& 63)) ||| x22.toInt64) fun (x23 : Int64) =>
      gtI (9, 8) s19 a0 7 fun x24 =>
      ptI (9, 8) s19 a0 7 (x24 + ((1 : Int32))) fun M25 =>
      j7 (x23, M25)) fun j40 =>
    if x18 = 0 then (
      gtI (9, 8) M17 a0 7 fun x26 =>
      vC (9, 8) M17 a0 <|
      cI (rec 116 [va_rf a0, .int x26] M17) fun x28 M27 =>
      if x28 = 0 then (
        j69 (s13.1, M27)) else (
        j40 M27)) else (
      j40 M17))
set_option maxRecDepth 100000 in
def c117 (rec : Nat → List Value → Mem → XA) (a0 : Option Nat) (M0 : Mem) : XA :=
  gtI (9, 8) M0 a0 7 fun x1 =>
  jn (fun (s2 : Int64 × Mem) =>
    gtI (9, 8) s2.2 a0 7 fun x3 =>
    if (x3 - x1) ≤ ((8 : Int32)) then (
      gtP (9, 8) s2.2 a0 4 fun x4 =>
      gtI (9, 8) s2.2 a0 6 fun x5 =>
      asL s2.2 x4 x5 s2.1 fun M6 =>
      jn (fun (s7 : Int32) =>
        some (.int (((200 : Int32)) + s7), M6)) fun j114 =>
      jn (fun (s8 : Unit) =>
        some (.int ((3 : Int32)), M6)) fun j127 =>
      lp (c117_95 rec a0 M6 j114 j127 s2) 4294967296 ((0 : Int32))) else (
      some (.int ((1 : Int32)), s2.2))) fun j69 =>
  lp (c117_7 rec a0 j69) 4294967296 ((0 : Int64), M0)
def b117 (rec : Nat → List Value → Mem → XA) (as : List Value) (M0 : Mem) : XA := aR as fun a0 as => aZ as (c117 rec a0 M0)
set_option maxRecDepth 100000 in
set_option maxHeartbeats 4000000 in
theorem k117 {S : XS} {G : XG} {K : Nat × Nat} {l : Launch} {d : Nat} {rec : Nat → List Value → Mem → XA} (hs : XSnd l xmt rec d) (a0 : Option Nat) (M0 : Mem) : Xe S G K l (yX8_wordHere, cX8_wordHere, 5, some .int) d 0 [some (va_rf a0), none, none, none, none] [] M0 (c117 rec a0 M0) := by
  unfold c117
  refine x_aload_n dX8_wordHere_0 rfl ?_
  refine gfX8_47 rfl dX8_wordHere_1 (fun x1 => ?_)
  refine x_istore_n (lo' := [some (va_rf a0), some (.int x1), none, none, none]) dX8_wordHere_4 (by decide) (xok_r rfl) rfl ?_
  refine x_lconst (v := 0) dX8_wordHere_5 (by decide) ?_
  refine x_lstore_n (lo' := [some (va_rf a0), some (.int x1), some (.long ((0 : Int64))), none, none]) dX8_wordHere_6 (by decide) rfl rfl ?_
  refine x_jn (σ := Int64 × Mem) 69 (fun s2 => [some (va_rf a0), some (.int x1), some (.long s2.1), none, none]) (fun s2 => []) (fun s2 => s2.2) (fun s2 => ?_) (fun j69 hj69 => ?_)
  · refine x_aload_n dX8_wordHere_69 rfl ?_
    refine gfX8_47 rfl dX8_wordHere_70 (fun x3 => ?_)
    refine x_iload_n dX8_wordHere_73 rfl ?_
    refine x_isub dX8_wordHere_74 ?_
    refine x_bipush (v := 8) dX8_wordHere_75 (by decide) ?_
    refine x_icmp_le (tgt := 82) dX8_wordHere_77 (by decide) (fun _ => ?_) (fun _ => ?_)
    · refine x_aload_n dX8_wordHere_82 rfl ?_
      refine gfX8_22 rfl dX8_wordHere_83 (fun x4 => ?_)
      refine x_aload_n dX8_wordHere_86 rfl ?_
      refine gfX8_44 rfl dX8_wordHere_87 (fun x5 => ?_)
      refine x_lload_n dX8_wordHere_90 rfl ?_
      refine x_last dX8_wordHere_91 (fun M6 => ?_)
      refine x_iconst (v := 0) dX8_wordHere_92 (by decide) ?_
      refine x_istore (lo' := [some (va_rf a0), some (.int x1), some (.long s2.1), none, some (.int ((0 : Int32)))]) dX8_wordHere_93 (by decide) rfl rfl ?_
      refine x_jn (σ := Int32) 114 (fun s7 => [none, none, none, none, some (.int s7)]) (fun s7 => []) (fun s7 => M6) (fun s7 => ?_) (fun j114 hj114 => ?_)
      · refine x_sipush (v := 200) dX8_wordHere_114 (by decide) ?_
        refine x_iload dX8_wordHere_117 rfl ?_
        refine x_iadd dX8_wordHere_119 ?_
        exact x_iret rfl dX8_wordHere_120
      refine x_jn (σ := Unit) 127 (fun s8 => [none, none, none, none, none]) (fun s8 => []) (fun s8 => M6) (fun s8 => ?_) (fun j127 hj127 => ?_)
      · refine x_iconst (v := 3) dX8_wordHere_127 (by decide) ?_
        exact x_iret rfl dX8_wordHere_128
      refine x_weak (by exact ⟨rfl, ⟨rfl, ⟨rfl, trivial⟩⟩⟩) (x_lp (σ := Int32) 95 (fun s9 => [some (va_rf a0), none, some (.long s2.1), none, some (.int s9)]) (fun s9 => []) (fun s9 => M6) (fun s9 j95 hj95 => ?_) 4294967296 ((0 : Int32)))
      · refine x_iload dX8_wordHere_95 rfl ?_
        refine x_bipush (v := 28) dX8_wordHere_97 (by decide) ?_
        refine x_icmp_ge (tgt := 127) dX8_wordHere_99 (by decide) (fun _ => ?_) (fun _ => ?_)
        · exact x_weak (by exact trivial) (hj127 ())
        · refine x_aload_n dX8_wordHere_102 rfl ?_
          refine gfX8_26 rfl dX8_wordHere_103 (fun x10 => ?_)
          refine x_iload dX8_wordHere_106 rfl ?_
          refine x_lald dX8_wordHere_108 (fun x11 => ?_)
          refine x_lload_n dX8_wordHere_109 rfl ?_
          refine x_lcmp dX8_wordHere_110 ?_
          refine x_if_ne (tgt := 121) dX8_wordHere_111 (by decide) (fun _ => ?_) (fun _ => ?_)
          · exact x_weak (by exact ⟨rfl, trivial⟩) (hj114 s9)
          · refine x_iincN (v := 1) (lo' := fun x12 => [some (va_rf a0), none, some (.long s2.1), none, some (.int x12)]) (by decide) dX8_wordHere_121 rfl (by decide) rfl (fun _ => rfl) (fun x12 => ?_)
            refine x_goto (tgt := 95) dX8_wordHere_124 (by decide) ?_
            exact x_weak (by exact ⟨rfl, ⟨rfl, ⟨rfl, trivial⟩⟩⟩) (hj95 x12)
    · refine x_iconst (v := 1) dX8_wordHere_80 (by decide) ?_
      exact x_iret rfl dX8_wordHere_81
  refine x_weak (by exact ⟨rfl, ⟨rfl, ⟨rfl, trivial⟩⟩⟩) (x_lp (σ := Int64 × Mem) 7 (fun s13 => [some (va_rf a0), some (.int x1), some (.long s13.1), none, none]) (fun s13 => []) (fun s13 => s13.2) (fun s13 j7 hj7 => ?_) 4294967296 ((0 : Int64), M0))
  · refine x_aload_n dX8_wordHere_7 rfl ?_
    refine gfX8_47 rfl dX8_wordHere_8 (fun x14 => ?_)
    refine x_aload_n dX8_wordHere_11 rfl ?_
    refine gfX8_41 rfl dX8_wordHere_12 (fun x15 => ?_)
    refine x_icmp_ge (tgt := 69) dX8_wordHere_15 (by decide) (fun _ => ?_) (fun _ => ?_)
    · exact x_weak (by exact ⟨rfl, ⟨rfl, ⟨rfl, trivial⟩⟩⟩) (hj69 (s13.1, s13.2))
    · refine x_aload_n dX8_wordHere_18 rfl ?_
      refine x_aload_n dX8_wordHere_19 rfl ?_
      refine gfX8_47 rfl dX8_wordHere_20 (fun x16 => ?_)
      refine cmX8_53 rfl hs (Nat.le_of_ble_eq_true rfl) dX8_wordHere_23 (fun x18 M17 => ?_)
      refine x_jn (σ := Mem) 40 (fun s19 => [some (va_rf a0), some (.int x1), some (.long s13.1), none, none]) (fun s19 => []) (fun s19 => s19) (fun s19 => ?_) (fun j40 hj40 => ?_)
      · refine x_lload_n dX8_wordHere_40 rfl ?_
        refine x_bipush (v := 8) dX8_wordHere_41 (by decide) ?_
        refine x_lshl dX8_wordHere_43 ?_
        refine x_aload_n dX8_wordHere_44 rfl ?_
        refine gfX8_9 rfl dX8_wordHere_45 (fun x20 => ?_)
        refine x_aload_n dX8_wordHere_48 rfl ?_
        refine gfX8_47 rfl dX8_wordHere_49 (fun x21 => ?_)
        refine x_bald dX8_wordHere_52 (fun x22 => ?_)
        refine x_i2l dX8_wordHere_53 ?_
        refine x_lor dX8_wordHere_54 ?_
        refine x_ltL (fun x23 => ?_)
        refine x_lstore_n (lo' := [some (va_rf a0), some (.int x1), some (.long x23), none, none]) dX8_wordHere_55 (by decide) rfl rfl ?_
        refine x_aload_n dX8_wordHere_56 rfl ?_
        refine x_dup dX8_wordHere_57 (xc1_r _) ?_
        refine gfX8_47 rfl dX8_wordHere_58 (fun x24 => ?_)
        refine x_iconst (v := 1) dX8_wordHere_61 (by decide) ?_
        refine x_iadd dX8_wordHere_62 ?_
        refine pfX8_47 rfl dX8_wordHere_63 (fun M25 => ?_)
        refine x_goto (tgt := 7) dX8_wordHere_66 (by decide) ?_
        exact x_weak (by exact ⟨rfl, ⟨rfl, ⟨rfl, trivial⟩⟩⟩) (hj7 (x23, M25))
      refine x_if_ne (tgt := 40) dX8_wordHere_26 (by decide) (fun _ => ?_) (fun _ => ?_)
      · refine x_aload_n dX8_wordHere_29 rfl ?_
        refine x_aload_n dX8_wordHere_30 rfl ?_
        refine gfX8_47 rfl dX8_wordHere_31 (fun x26 => ?_)
        refine cmX8_60 rfl hs (Nat.le_of_ble_eq_true rfl) dX8_wordHere_34 (fun x28 M27 => ?_)
        refine x_if_eq (tgt := 69) dX8_wordHere_37 (by decide) (fun _ => ?_) (fun _ => ?_)
        · exact x_weak (by exact ⟨rfl, ⟨rfl, ⟨rfl, trivial⟩⟩⟩) (hj69 (s13.1, M27))
        · exact x_weak (by exact ⟨rfl, ⟨rfl, ⟨rfl, trivial⟩⟩⟩) (hj40 M27)
      · exact x_weak (by exact ⟨rfl, ⟨rfl, ⟨rfl, trivial⟩⟩⟩) (hj40 M17)
theorem s117 {l : Launch} {d : Nat} {rec : Nat → List Value → Mem → XA} (hS : Nonempty XS) (hs : XSnd l xmt rec d) : Snd1 l 117 (b117 rec) d := by
  intro as M r M' h0
  unfold b117 at h0
  obtain ⟨a0, l1, e1, h1⟩ := aR_inv h0
  obtain ⟨ez, h⟩ := aZ_inv h1
  subst ez
  subst e1
  exact xmet (M := M) (as := [va_rf a0]) (lo := [some (va_rf a0)]) 117 xq117 xm117 (by rw [xargs_rf, xargs_nil]; exact ⟨rfl, trivial⟩) (by rw [xargs_rf, xargs_nil]; exact Nat.le_of_ble_eq_true rfl) (fun S G K => x_weak (by exact ⟨rfl, trivial⟩) (k117 hs a0 M)) h hS
set_option maxRecDepth 100000 in
def c118_7 (rec : Nat → List Value → Mem → XA) (a0 : Option Nat) (j62 : Int64 × Mem → XA) : (Int64 × Mem) → ((Int64 × Mem) → XA) → XA := fun s11 j7 =>
  gtI (9, 8) s11.2 a0 7 fun x12 =>
  gtI (9, 8) s11.2 a0 1 fun x13 =>
  if x13 ≤ x12 then (
    j62 (s11.1, s11.2)) else (
    gtI (9, 8) s11.2 a0 7 fun x14 =>
    vC (9, 8) s11.2 a0 <|
    cI (rec 116 [va_rf a0, .int x14] s11.2) fun x16 M15 =>
    if x16 = 0 then (
      j62 (s11.1, M15)) else (
      gtP (9, 8) M15 a0 0 fun x17 =>
      gtI (9, 8) M15 a0 7 fun x18 =>
      alI 101 M15 x17 x18 fun x19 =>
      lt ((s11.1 * ((10 : Int64))) + ((x19 - ((48 : Int32))).toInt64)) fun (x20 : Int64) =>
      gtI (9, 8) M15 a0 7 fun x21 =>
      ptI (9, 8) M15 a0 7 (x21 + ((1 : Int32))) fun M22 =>
      j7 (x20, M22)))
set_option maxRecDepth 100000 in
def c118 (rec : Nat → List Value → Mem → XA) (a0 : Option Nat) (M0 : Mem) : XA :=
  gtI (9, 8) M0 a0 7 fun x1 =>
  jn (fun (s2 : Int64 × Mem) =>
    gtI (9, 8) s2.2 a0 7 fun x3 =>
    jn (fun (s4 : Mem) =>
      some (.int ((1 : Int32)), s4)) fun j84 =>
    if ((9 : Int32)) < (x3 - x1) then (
      j84 s2.2) else (
      gtI (9, 8) s2.2 a0 7 fun x5 =>
      vC (9, 8) s2.2 a0 <|
      cI (rec 115 [va_rf a0, .int x5] s2.2) fun x7 M6 =>
      if x7 = 0 then (
        gtP (9, 8) M6 a0 4 fun x8 =>
        gtI (9, 8) M6 a0 6 fun x9 =>
        asL M6 x8 x9 s2.1 fun M10 =>
        some (.int ((4 : Int32)), M10)) else (
        j84 M6))) fun j62 =>
  lp (c118_7 rec a0 j62) 4294967296 ((0 : Int64), M0)
def b118 (rec : Nat → List Value → Mem → XA) (as : List Value) (M0 : Mem) : XA := aR as fun a0 as => aZ as (c118 rec a0 M0)
set_option maxRecDepth 100000 in
set_option maxHeartbeats 4000000 in
theorem k118 {S : XS} {G : XG} {K : Nat × Nat} {l : Launch} {d : Nat} {rec : Nat → List Value → Mem → XA} (hs : XSnd l xmt rec d) (a0 : Option Nat) (M0 : Mem) : Xe S G K l (yX8_numberHere, cX8_numberHere, 4, some .int) d 0 [some (va_rf a0), none, none, none] [] M0 (c118 rec a0 M0) := by
  unfold c118
  refine x_aload_n dX8_numberHere_0 rfl ?_
  refine gfX8_47 rfl dX8_numberHere_1 (fun x1 => ?_)
  refine x_istore_n (lo' := [some (va_rf a0), some (.int x1), none, none]) dX8_numberHere_4 (by decide) (xok_r rfl) rfl ?_
  refine x_lconst (v := 0) dX8_numberHere_5 (by decide) ?_
  refine x_lstore_n (lo' := [some (va_rf a0), some (.int x1), some (.long ((0 : Int64))), none]) dX8_numberHere_6 (by decide) rfl rfl ?_
  refine x_jn (σ := Int64 × Mem) 62 (fun s2 => [some (va_rf a0), some (.int x1), some (.long s2.1), none]) (fun s2 => []) (fun s2 => s2.2) (fun s2 => ?_) (fun j62 hj62 => ?_)
  · refine x_aload_n dX8_numberHere_62 rfl ?_
    refine gfX8_47 rfl dX8_numberHere_63 (fun x3 => ?_)
    refine x_iload_n dX8_numberHere_66 rfl ?_
    refine x_isub dX8_numberHere_67 ?_
    refine x_bipush (v := 9) dX8_numberHere_68 (by decide) ?_
    refine x_jn (σ := Mem) 84 (fun s4 => [none, none, none, none]) (fun s4 => []) (fun s4 => s4) (fun s4 => ?_) (fun j84 hj84 => ?_)
    · refine x_iconst (v := 1) dX8_numberHere_84 (by decide) ?_
      exact x_iret rfl dX8_numberHere_85
    refine x_icmp_gt (tgt := 84) dX8_numberHere_70 (by decide) (fun _ => ?_) (fun _ => ?_)
    · exact x_weak (by exact trivial) (hj84 s2.2)
    · refine x_aload_n dX8_numberHere_73 rfl ?_
      refine x_aload_n dX8_numberHere_74 rfl ?_
      refine gfX8_47 rfl dX8_numberHere_75 (fun x5 => ?_)
      refine cmX8_53 rfl hs (Nat.le_of_ble_eq_true rfl) dX8_numberHere_78 (fun x7 M6 => ?_)
      refine x_if_eq (tgt := 86) dX8_numberHere_81 (by decide) (fun _ => ?_) (fun _ => ?_)
      · refine x_aload_n dX8_numberHere_86 rfl ?_
        refine gfX8_22 rfl dX8_numberHere_87 (fun x8 => ?_)
        refine x_aload_n dX8_numberHere_90 rfl ?_
        refine gfX8_44 rfl dX8_numberHere_91 (fun x9 => ?_)
        refine x_lload_n dX8_numberHere_94 rfl ?_
        refine x_last dX8_numberHere_95 (fun M10 => ?_)
        refine x_iconst (v := 4) dX8_numberHere_96 (by decide) ?_
        exact x_iret rfl dX8_numberHere_97
      · exact x_weak (by exact trivial) (hj84 M6)
  refine x_weak (by exact ⟨rfl, ⟨rfl, ⟨rfl, trivial⟩⟩⟩) (x_lp (σ := Int64 × Mem) 7 (fun s11 => [some (va_rf a0), some (.int x1), some (.long s11.1), none]) (fun s11 => []) (fun s11 => s11.2) (fun s11 j7 hj7 => ?_) 4294967296 ((0 : Int64), M0))
  · refine x_aload_n dX8_numberHere_7 rfl ?_
    refine gfX8_47 rfl dX8_numberHere_8 (fun x12 => ?_)
    refine x_aload_n dX8_numberHere_11 rfl ?_
    refine gfX8_41 rfl dX8_numberHere_12 (fun x13 => ?_)
    refine x_icmp_ge (tgt := 62) dX8_numberHere_15 (by decide) (fun _ => ?_) (fun _ => ?_)
    · exact x_weak (by exact ⟨rfl, ⟨rfl, ⟨rfl, trivial⟩⟩⟩) (hj62 (s11.1, s11.2))
    · refine x_aload_n dX8_numberHere_18 rfl ?_
      refine x_aload_n dX8_numberHere_19 rfl ?_
      refine gfX8_47 rfl dX8_numberHere_20 (fun x14 => ?_)
      refine cmX8_60 rfl hs (Nat.le_of_ble_eq_true rfl) dX8_numberHere_23 (fun x16 M15 => ?_)
      refine x_if_eq (tgt := 62) dX8_numberHere_26 (by decide) (fun _ => ?_) (fun _ => ?_)
      · exact x_weak (by exact ⟨rfl, ⟨rfl, ⟨rfl, trivial⟩⟩⟩) (hj62 (s11.1, M15))
      · refine x_lload_n dX8_numberHere_29 rfl ?_
        refine x_ldc2 (v := 10) dX8_numberHere_30 lk_constantLong_X8_69 ?_
        refine x_lmul dX8_numberHere_33 ?_
        refine x_aload_n dX8_numberHere_34 rfl ?_
        refine gfX8_9 rfl dX8_numberHere_35 (fun x17 => ?_)
        refine x_aload_n dX8_numberHere_38 rfl ?_
        refine gfX8_47 rfl dX8_numberHere_39 (fun x18 => ?_)
        refine x_bald dX8_numberHere_42 (fun x19 => ?_)
        refine x_bipush (v := 48) dX8_numberHere_43 (by decide) ?_
        refine x_isub dX8_numberHere_45 ?_
        refine x_i2l dX8_numberHere_46 ?_
        refine x_ladd dX8_numberHere_47 ?_
        refine x_ltL (fun x20 => ?_)
        refine x_lstore_n (lo' := [some (va_rf a0), some (.int x1), some (.long x20), none]) dX8_numberHere_48 (by decide) rfl rfl ?_
        refine x_aload_n dX8_numberHere_49 rfl ?_
        refine x_dup dX8_numberHere_50 (xc1_r _) ?_
        refine gfX8_47 rfl dX8_numberHere_51 (fun x21 => ?_)
        refine x_iconst (v := 1) dX8_numberHere_54 (by decide) ?_
        refine x_iadd dX8_numberHere_55 ?_
        refine pfX8_47 rfl dX8_numberHere_56 (fun M22 => ?_)
        refine x_goto (tgt := 7) dX8_numberHere_59 (by decide) ?_
        exact x_weak (by exact ⟨rfl, ⟨rfl, ⟨rfl, trivial⟩⟩⟩) (hj7 (x20, M22))
theorem s118 {l : Launch} {d : Nat} {rec : Nat → List Value → Mem → XA} (hS : Nonempty XS) (hs : XSnd l xmt rec d) : Snd1 l 118 (b118 rec) d := by
  intro as M r M' h0
  unfold b118 at h0
  obtain ⟨a0, l1, e1, h1⟩ := aR_inv h0
  obtain ⟨ez, h⟩ := aZ_inv h1
  subst ez
  subst e1
  exact xmet (M := M) (as := [va_rf a0]) (lo := [some (va_rf a0)]) 118 xq118 xm118 (by rw [xargs_rf, xargs_nil]; exact ⟨rfl, trivial⟩) (by rw [xargs_rf, xargs_nil]; exact Nat.le_of_ble_eq_true rfl) (fun S G K => x_weak (by exact ⟨rfl, trivial⟩) (k118 hs a0 M)) h hS
set_option maxRecDepth 100000 in
def c119 (rec : Nat → List Value → Mem → XA) (a0 : Option Nat) (M0 : Mem) : XA :=
  gtP (9, 8) M0 a0 0 fun x1 =>
  gtI (9, 8) M0 a0 7 fun x2 =>
  alI 101 M0 x1 x2 fun x3 =>
  gtI (9, 8) M0 a0 7 fun x4 =>
  gtI (9, 8) M0 a0 1 fun x5 =>
  jn (fun (s6 : Int32) =>
    gtI (9, 8) M0 a0 7 fun x7 =>
    ptI (9, 8) M0 a0 7 (x7 + ((1 : Int32))) fun M8 =>
    jn (fun (s9 : Unit) =>
      jn (fun (s10 : Int32 × Mem) =>
        some (.int s10.1, s10.2)) fun j134 =>
      jn (fun (s11 : Mem) =>
        j134 ((1 : Int32), s11)) fun j133 =>
      if x3 ≤ 0 then (
        j133 M8) else (
        vS ((some 4)) <|
        cI (rec 322 [va_rf ((some 4)), .int ((x3.toUInt32 % 65536).toInt32)] M8) fun x13 M12 =>
        if x13 < 0 then (
          j133 M12) else (
          j134 (x3, M12)))) fun j115 =>
    if s6 = 0 then (
      j115 ()) else (
      jn (fun (s14 : Unit) =>
        gtI (9, 8) M8 a0 7 fun x15 =>
        ptI (9, 8) M8 a0 7 (x15 + ((1 : Int32))) fun M16 =>
        jn (fun (s17 : Int32) =>
          some (.int s17, M16)) fun j114 =>
        if x3 = ((60 : Int32)) then (
          j114 ((128 : Int32))) else (
          if x3 = ((61 : Int32)) then (
            j114 ((129 : Int32))) else (
            j114 ((130 : Int32))))) fun j77 =>
      if x3 = ((60 : Int32)) then (
        j77 ()) else (
        if x3 = ((61 : Int32)) then (
          j77 ()) else (
          if x3 = ((33 : Int32)) then (
            j77 ()) else (
            j115 ()))))) fun j44 =>
  jn (fun (s18 : Unit) =>
    j44 ((0 : Int32))) fun j43 =>
  if x5 ≤ (x4 + ((1 : Int32))) then (
    j43 ()) else (
    gtP (9, 8) M0 a0 0 fun x19 =>
    gtI (9, 8) M0 a0 7 fun x20 =>
    alI 101 M0 x19 (x20 + ((1 : Int32))) fun x21 =>
    if x21 = ((61 : Int32)) then (
      j44 ((1 : Int32))) else (
      j43 ()))
def b119 (rec : Nat → List Value → Mem → XA) (as : List Value) (M0 : Mem) : XA := aR as fun a0 as => aZ as (c119 rec a0 M0)
set_option maxRecDepth 100000 in
set_option maxHeartbeats 4000000 in
theorem k119 {S : XS} {G : XG} {K : Nat × Nat} {l : Launch} {d : Nat} {rec : Nat → List Value → Mem → XA} (hs : XSnd l xmt rec d) (a0 : Option Nat) (M0 : Mem) : Xe S G K l (yX8_signHere, cX8_signHere, 3, some .int) d 0 [some (va_rf a0), none, none] [] M0 (c119 rec a0 M0) := by
  unfold c119
  refine x_aload_n dX8_signHere_0 rfl ?_
  refine gfX8_9 rfl dX8_signHere_1 (fun x1 => ?_)
  refine x_aload_n dX8_signHere_4 rfl ?_
  refine gfX8_47 rfl dX8_signHere_5 (fun x2 => ?_)
  refine x_bald dX8_signHere_8 (fun x3 => ?_)
  refine x_istore_n (lo' := [some (va_rf a0), some (.int x3), none]) dX8_signHere_9 (by decide) (xok_r rfl) rfl ?_
  refine x_aload_n dX8_signHere_10 rfl ?_
  refine gfX8_47 rfl dX8_signHere_11 (fun x4 => ?_)
  refine x_iconst (v := 1) dX8_signHere_14 (by decide) ?_
  refine x_iadd dX8_signHere_15 ?_
  refine x_aload_n dX8_signHere_16 rfl ?_
  refine gfX8_41 rfl dX8_signHere_17 (fun x5 => ?_)
  refine x_jn (σ := Int32) 44 (fun s6 => [some (va_rf a0), some (.int x3), none]) (fun s6 => [.int s6]) (fun s6 => M0) (fun s6 => ?_) (fun j44 hj44 => ?_)
  · refine x_istore_n (lo' := [some (va_rf a0), some (.int x3), some (.int s6)]) dX8_signHere_44 (by decide) rfl rfl ?_
    refine x_aload_n dX8_signHere_45 rfl ?_
    refine x_dup dX8_signHere_46 (xc1_r _) ?_
    refine gfX8_47 rfl dX8_signHere_47 (fun x7 => ?_)
    refine x_iconst (v := 1) dX8_signHere_50 (by decide) ?_
    refine x_iadd dX8_signHere_51 ?_
    refine pfX8_47 rfl dX8_signHere_52 (fun M8 => ?_)
    refine x_iload_n dX8_signHere_55 rfl ?_
    refine x_jn (σ := Unit) 115 (fun s9 => [none, some (.int x3), none]) (fun s9 => []) (fun s9 => M8) (fun s9 => ?_) (fun j115 hj115 => ?_)
    · refine x_iload_n dX8_signHere_115 rfl ?_
      refine x_jn (σ := Int32 × Mem) 134 (fun s10 => [none, none, none]) (fun s10 => [.int s10.1]) (fun s10 => s10.2) (fun s10 => ?_) (fun j134 hj134 => ?_)
      · exact x_iret rfl dX8_signHere_134
      refine x_jn (σ := Mem) 133 (fun s11 => [none, none, none]) (fun s11 => []) (fun s11 => s11) (fun s11 => ?_) (fun j133 hj133 => ?_)
      · refine x_iconst (v := 1) dX8_signHere_133 (by decide) ?_
        exact x_weak (by exact trivial) (hj134 ((1 : Int32), s11))
      refine x_if_le (tgt := 133) dX8_signHere_116 (by decide) (fun _ => ?_) (fun _ => ?_)
      · exact x_weak (by exact trivial) (hj133 M8)
      · refine x_ldcS (i := 1) rfl (by decide) dX8_signHere_119 ?_
        refine x_iload_n dX8_signHere_121 rfl ?_
        refine x_i2c dX8_signHere_122 ?_
        refine cmX8_73 rfl hs (Nat.le_of_ble_eq_true rfl) dX8_signHere_123 (fun x13 M12 => ?_)
        refine x_if_lt (tgt := 133) dX8_signHere_126 (by decide) (fun _ => ?_) (fun _ => ?_)
        · exact x_weak (by exact trivial) (hj133 M12)
        · refine x_iload_n dX8_signHere_129 rfl ?_
          refine x_goto (tgt := 134) dX8_signHere_130 (by decide) ?_
          exact x_weak (by exact trivial) (hj134 (x3, M12))
    refine x_if_eq (tgt := 115) dX8_signHere_56 (by decide) (fun _ => ?_) (fun _ => ?_)
    · exact x_weak (by exact ⟨rfl, trivial⟩) (hj115 ())
    · refine x_iload_n dX8_signHere_59 rfl ?_
      refine x_bipush (v := 60) dX8_signHere_60 (by decide) ?_
      refine x_jn (σ := Unit) 77 (fun s14 => [some (va_rf a0), some (.int x3), none]) (fun s14 => []) (fun s14 => M8) (fun s14 => ?_) (fun j77 hj77 => ?_)
      · refine x_aload_n dX8_signHere_77 rfl ?_
        refine x_dup dX8_signHere_78 (xc1_r _) ?_
        refine gfX8_47 rfl dX8_signHere_79 (fun x15 => ?_)
        refine x_iconst (v := 1) dX8_signHere_82 (by decide) ?_
        refine x_iadd dX8_signHere_83 ?_
        refine pfX8_47 rfl dX8_signHere_84 (fun M16 => ?_)
        refine x_iload_n dX8_signHere_87 rfl ?_
        refine x_bipush (v := 60) dX8_signHere_88 (by decide) ?_
        refine x_jn (σ := Int32) 114 (fun s17 => [none, none, none]) (fun s17 => [.int s17]) (fun s17 => M16) (fun s17 => ?_) (fun j114 hj114 => ?_)
        · exact x_iret rfl dX8_signHere_114
        refine x_icmp_ne (tgt := 99) dX8_signHere_90 (by decide) (fun _ => ?_) (fun _ => ?_)
        · refine x_sipush (v := 128) dX8_signHere_93 (by decide) ?_
          refine x_goto (tgt := 114) dX8_signHere_96 (by decide) ?_
          exact x_weak (by exact trivial) (hj114 ((128 : Int32)))
        · refine x_iload_n dX8_signHere_99 rfl ?_
          refine x_bipush (v := 61) dX8_signHere_100 (by decide) ?_
          refine x_icmp_ne (tgt := 111) dX8_signHere_102 (by decide) (fun _ => ?_) (fun _ => ?_)
          · refine x_sipush (v := 129) dX8_signHere_105 (by decide) ?_
            refine x_goto (tgt := 114) dX8_signHere_108 (by decide) ?_
            exact x_weak (by exact trivial) (hj114 ((129 : Int32)))
          · refine x_sipush (v := 130) dX8_signHere_111 (by decide) ?_
            exact x_weak (by exact trivial) (hj114 ((130 : Int32)))
      refine x_icmp_eq (tgt := 77) dX8_signHere_62 (by decide) (fun _ => ?_) (fun _ => ?_)
      · exact x_weak (by exact ⟨rfl, ⟨rfl, trivial⟩⟩) (hj77 ())
      · refine x_iload_n dX8_signHere_65 rfl ?_
        refine x_bipush (v := 61) dX8_signHere_66 (by decide) ?_
        refine x_icmp_eq (tgt := 77) dX8_signHere_68 (by decide) (fun _ => ?_) (fun _ => ?_)
        · exact x_weak (by exact ⟨rfl, ⟨rfl, trivial⟩⟩) (hj77 ())
        · refine x_iload_n dX8_signHere_71 rfl ?_
          refine x_bipush (v := 33) dX8_signHere_72 (by decide) ?_
          refine x_icmp_ne (tgt := 115) dX8_signHere_74 (by decide) (fun _ => ?_) (fun _ => ?_)
          · exact x_weak (by exact ⟨rfl, ⟨rfl, trivial⟩⟩) (hj77 ())
          · exact x_weak (by exact ⟨rfl, trivial⟩) (hj115 ())
  refine x_jn (σ := Unit) 43 (fun s18 => [some (va_rf a0), some (.int x3), none]) (fun s18 => []) (fun s18 => M0) (fun s18 => ?_) (fun j43 hj43 => ?_)
  · refine x_iconst (v := 0) dX8_signHere_43 (by decide) ?_
    exact x_weak (by exact ⟨rfl, ⟨rfl, trivial⟩⟩) (hj44 ((0 : Int32)))
  refine x_icmp_ge (tgt := 43) dX8_signHere_20 (by decide) (fun _ => ?_) (fun _ => ?_)
  · exact x_weak (by exact ⟨rfl, ⟨rfl, trivial⟩⟩) (hj43 ())
  · refine x_aload_n dX8_signHere_23 rfl ?_
    refine gfX8_9 rfl dX8_signHere_24 (fun x19 => ?_)
    refine x_aload_n dX8_signHere_27 rfl ?_
    refine gfX8_47 rfl dX8_signHere_28 (fun x20 => ?_)
    refine x_iconst (v := 1) dX8_signHere_31 (by decide) ?_
    refine x_iadd dX8_signHere_32 ?_
    refine x_bald dX8_signHere_33 (fun x21 => ?_)
    refine x_bipush (v := 61) dX8_signHere_34 (by decide) ?_
    refine x_icmp_ne (tgt := 43) dX8_signHere_36 (by decide) (fun _ => ?_) (fun _ => ?_)
    · refine x_iconst (v := 1) dX8_signHere_39 (by decide) ?_
      refine x_goto (tgt := 44) dX8_signHere_40 (by decide) ?_
      exact x_weak (by exact ⟨rfl, ⟨rfl, trivial⟩⟩) (hj44 ((1 : Int32)))
    · exact x_weak (by exact ⟨rfl, ⟨rfl, trivial⟩⟩) (hj43 ())
theorem s119 {l : Launch} {d : Nat} {rec : Nat → List Value → Mem → XA} (hS : Nonempty XS) (hs : XSnd l xmt rec d) : Snd1 l 119 (b119 rec) d := by
  intro as M r M' h0
  unfold b119 at h0
  obtain ⟨a0, l1, e1, h1⟩ := aR_inv h0
  obtain ⟨ez, h⟩ := aZ_inv h1
  subst ez
  subst e1
  exact xmet (M := M) (as := [va_rf a0]) (lo := [some (va_rf a0)]) 119 xq119 xm119 (by rw [xargs_rf, xargs_nil]; exact ⟨rfl, trivial⟩) (by rw [xargs_rf, xargs_nil]; exact Nat.le_of_ble_eq_true rfl) (fun S G K => x_weak (by exact ⟨rfl, trivial⟩) (k119 hs a0 M)) h hS
set_option maxRecDepth 100000 in
def c120 (rec : Nat → List Value → Mem → XA) (a0 : Option Nat) (M0 : Mem) : XA :=
  nn a0 <|
  ptI (10, 9) M0 a0 0 ((-2 : Int32)) fun M1 =>
  nA 100 M1 ((32 : Int32)) fun x2 M3 =>
  ptP (10, 9) M3 a0 3 x2 fun M4 =>
  nA 100 M4 ((200 : Int32)) fun x5 M6 =>
  ptP (10, 9) M6 a0 5 x5 fun M7 =>
  nA 100 M7 ((50 : Int32)) fun x8 M9 =>
  ptP (10, 9) M9 a0 6 x8 fun M10 =>
  some (.null, M10)
def b120 (rec : Nat → List Value → Mem → XA) (as : List Value) (M0 : Mem) : XA := aR as fun a0 as => aZ as (c120 rec a0 M0)
set_option maxRecDepth 100000 in
set_option maxHeartbeats 4000000 in
theorem k120 {S : XS} {G : XG} {K : Nat × Nat} {l : Launch} {d : Nat} {rec : Nat → List Value → Mem → XA} (hs : XSnd l xmt rec d) (a0 : Option Nat) (M0 : Mem) : Xe S G K l (yX9_init, cX9_init, 1, none) d 0 [some (va_rf a0)] [] M0 (c120 rec a0 M0) := by
  unfold c120
  refine x_aload_n dX9_init_0 rfl ?_
  refine xoiX9 rfl (Nat.le_of_ble_eq_true rfl) dX9_init_1 ?_
  refine x_aload_n dX9_init_4 rfl ?_
  refine x_bipush (v := -2) dX9_init_5 (by decide) ?_
  refine pfX9_9 rfl dX9_init_7 (fun M1 => ?_)
  refine x_aload_n dX9_init_10 rfl ?_
  refine x_bipush (v := 32) dX9_init_11 (by decide) ?_
  refine x_newa100 dX9_init_13 (fun x2 M3 => ?_)
  refine pfX9_15 rfl rfl dX9_init_15 (fun M4 => ?_)
  refine x_aload_n dX9_init_18 rfl ?_
  refine x_sipush (v := 200) dX9_init_19 (by decide) ?_
  refine x_newa100 dX9_init_22 (fun x5 M6 => ?_)
  refine pfX9_19 rfl rfl dX9_init_24 (fun M7 => ?_)
  refine x_aload_n dX9_init_27 rfl ?_
  refine x_bipush (v := 50) dX9_init_28 (by decide) ?_
  refine x_newa100 dX9_init_30 (fun x8 M9 => ?_)
  refine pfX9_22 rfl rfl dX9_init_32 (fun M10 => ?_)
  exact x_vret rfl dX9_init_35
theorem s120 {l : Launch} {d : Nat} {rec : Nat → List Value → Mem → XA} (hS : Nonempty XS) (hs : XSnd l xmt rec d) : Snd1 l 120 (b120 rec) d := by
  intro as M r M' h0
  unfold b120 at h0
  obtain ⟨a0, l1, e1, h1⟩ := aR_inv h0
  obtain ⟨ez, h⟩ := aZ_inv h1
  subst ez
  subst e1
  exact xmet (M := M) (as := [va_rf a0]) (lo := [some (va_rf a0)]) 120 xq120 xm120 (by rw [xargs_rf, xargs_nil]; exact ⟨rfl, trivial⟩) (by rw [xargs_rf, xargs_nil]; exact Nat.le_of_ble_eq_true rfl) (fun S G K => x_weak (by exact ⟨rfl, trivial⟩) (k120 hs a0 M)) h hS
set_option maxRecDepth 100000 in
def c121 (rec : Nat → List Value → Mem → XA) (a0 : Option Nat) (a1 : Int32) (a2 : Int32) (a3 : Int32) (a4 : Int32) (M0 : Mem) : XA :=
  ptI (10, 9) M0 a0 0 a1 fun M1 =>
  ptI (10, 9) M1 a0 7 a2 fun M2 =>
  ptI (10, 9) M2 a0 8 a3 fun M3 =>
  ptI (10, 9) M3 a0 1 a4 fun M4 =>
  ptI (10, 9) M4 a0 2 ((0 : Int32)) fun M5 =>
  ptI (10, 9) M5 a0 4 ((0 : Int32)) fun M6 =>
  some (.null, M6)
def b121 (rec : Nat → List Value → Mem → XA) (as : List Value) (M0 : Mem) : XA := aR as fun a0 as => aI as fun a1 as => aI as fun a2 as => aI as fun a3 as => aI as fun a4 as => aZ as (c121 rec a0 a1 a2 a3 a4 M0)
set_option maxRecDepth 100000 in
set_option maxHeartbeats 4000000 in
theorem k121 {S : XS} {G : XG} {K : Nat × Nat} {l : Launch} {d : Nat} {rec : Nat → List Value → Mem → XA} (hs : XSnd l xmt rec d) (a0 : Option Nat) (a1 : Int32) (a2 : Int32) (a3 : Int32) (a4 : Int32) (M0 : Mem) : Xe S G K l (yX9_begin, cX9_begin, 5, none) d 0 [some (va_rf a0), some (.int a1), some (.int a2), some (.int a3), some (.int a4)] [] M0 (c121 rec a0 a1 a2 a3 a4 M0) := by
  unfold c121
  refine x_aload_n dX9_begin_0 rfl ?_
  refine x_iload_n dX9_begin_1 rfl ?_
  refine pfX9_9 rfl dX9_begin_2 (fun M1 => ?_)
  refine x_aload_n dX9_begin_5 rfl ?_
  refine x_iload_n dX9_begin_6 rfl ?_
  refine pfX9_25 rfl dX9_begin_7 (fun M2 => ?_)
  refine x_aload_n dX9_begin_10 rfl ?_
  refine x_iload_n dX9_begin_11 rfl ?_
  refine pfX9_28 rfl dX9_begin_12 (fun M3 => ?_)
  refine x_aload_n dX9_begin_15 rfl ?_
  refine x_iload dX9_begin_16 rfl ?_
  refine pfX9_31 rfl dX9_begin_18 (fun M4 => ?_)
  refine x_aload_n dX9_begin_21 rfl ?_
  refine x_iconst (v := 0) dX9_begin_22 (by decide) ?_
  refine pfX9_34 rfl dX9_begin_23 (fun M5 => ?_)
  refine x_aload_n dX9_begin_26 rfl ?_
  refine x_iconst (v := 0) dX9_begin_27 (by decide) ?_
  refine pfX9_37 rfl dX9_begin_28 (fun M6 => ?_)
  exact x_vret rfl dX9_begin_31
theorem s121 {l : Launch} {d : Nat} {rec : Nat → List Value → Mem → XA} (hS : Nonempty XS) (hs : XSnd l xmt rec d) : Snd1 l 121 (b121 rec) d := by
  intro as M r M' h0
  unfold b121 at h0
  obtain ⟨a0, l1, e1, h1⟩ := aR_inv h0
  obtain ⟨a1, l2, e2, h2⟩ := aI_inv h1
  obtain ⟨a2, l3, e3, h3⟩ := aI_inv h2
  obtain ⟨a3, l4, e4, h4⟩ := aI_inv h3
  obtain ⟨a4, l5, e5, h5⟩ := aI_inv h4
  obtain ⟨ez, h⟩ := aZ_inv h5
  subst ez
  subst e5
  subst e4
  subst e3
  subst e2
  subst e1
  exact xmet (M := M) (as := [va_rf a0, .int a1, .int a2, .int a3, .int a4]) (lo := [some (va_rf a0), some (.int a1), some (.int a2), some (.int a3), some (.int a4)]) 121 xq121 xm121 (by rw [xargs_rf, xargs_i, xargs_i, xargs_i, xargs_i, xargs_nil]; exact ⟨rfl, ⟨rfl, ⟨rfl, ⟨rfl, ⟨rfl, trivial⟩⟩⟩⟩⟩) (by rw [xargs_rf, xargs_i, xargs_i, xargs_i, xargs_i, xargs_nil]; exact Nat.le_of_ble_eq_true rfl) (fun S G K => x_weak (by exact ⟨rfl, ⟨rfl, ⟨rfl, ⟨rfl, ⟨rfl, trivial⟩⟩⟩⟩⟩) (k121 hs a0 a1 a2 a3 a4 M)) h hS
set_option maxRecDepth 100000 in
def c122 (rec : Nat → List Value → Mem → XA) (a0 : Option Nat) (a1 : Int32) (a2 : Int32) (M0 : Mem) : XA :=
  gtI (10, 9) M0 a0 0 fun x1 =>
  jn (fun (s2 : Int32) =>
    rtZ s2 M0) fun j28 =>
  jn (fun (s3 : Unit) =>
    j28 ((0 : Int32))) fun j27 =>
  if x1 < 0 then (
    j27 ()) else (
    gtI (10, 9) M0 a0 7 fun x4 =>
    if x4 = a1 then (
      gtI (10, 9) M0 a0 8 fun x5 =>
      if x5 = a2 then (
        j28 ((1 : Int32))) else (
        j27 ())) else (
      j27 ()))
def b122 (rec : Nat → List Value → Mem → XA) (as : List Value) (M0 : Mem) : XA := aR as fun a0 as => aI as fun a1 as => aI as fun a2 as => aZ as (c122 rec a0 a1 a2 M0)
set_option maxRecDepth 100000 in
set_option maxHeartbeats 4000000 in
theorem k122 {S : XS} {G : XG} {K : Nat × Nat} {l : Launch} {d : Nat} {rec : Nat → List Value → Mem → XA} (hs : XSnd l xmt rec d) (a0 : Option Nat) (a1 : Int32) (a2 : Int32) (M0 : Mem) : Xe S G K l (yX9_standsFor, cX9_standsFor, 3, some .boolean) d 0 [some (va_rf a0), some (.int a1), some (.int a2)] [] M0 (c122 rec a0 a1 a2 M0) := by
  unfold c122
  refine x_aload_n dX9_standsFor_0 rfl ?_
  refine gfX9_9 rfl dX9_standsFor_1 (fun x1 => ?_)
  refine x_jn (σ := Int32) 28 (fun s2 => [none, none, none]) (fun s2 => [.int s2]) (fun s2 => M0) (fun s2 => ?_) (fun j28 hj28 => ?_)
  · exact x_zret rfl dX9_standsFor_28
  refine x_jn (σ := Unit) 27 (fun s3 => [none, none, none]) (fun s3 => []) (fun s3 => M0) (fun s3 => ?_) (fun j27 hj27 => ?_)
  · refine x_iconst (v := 0) dX9_standsFor_27 (by decide) ?_
    exact x_weak (by exact trivial) (hj28 ((0 : Int32)))
  refine x_if_lt (tgt := 27) dX9_standsFor_4 (by decide) (fun _ => ?_) (fun _ => ?_)
  · exact x_weak (by exact trivial) (hj27 ())
  · refine x_aload_n dX9_standsFor_7 rfl ?_
    refine gfX9_25 rfl dX9_standsFor_8 (fun x4 => ?_)
    refine x_iload_n dX9_standsFor_11 rfl ?_
    refine x_icmp_ne (tgt := 27) dX9_standsFor_12 (by decide) (fun _ => ?_) (fun _ => ?_)
    · refine x_aload_n dX9_standsFor_15 rfl ?_
      refine gfX9_28 rfl dX9_standsFor_16 (fun x5 => ?_)
      refine x_iload_n dX9_standsFor_19 rfl ?_
      refine x_icmp_ne (tgt := 27) dX9_standsFor_20 (by decide) (fun _ => ?_) (fun _ => ?_)
      · refine x_iconst (v := 1) dX9_standsFor_23 (by decide) ?_
        refine x_goto (tgt := 28) dX9_standsFor_24 (by decide) ?_
        exact x_weak (by exact trivial) (hj28 ((1 : Int32)))
      · exact x_weak (by exact trivial) (hj27 ())
    · exact x_weak (by exact trivial) (hj27 ())
theorem s122 {l : Launch} {d : Nat} {rec : Nat → List Value → Mem → XA} (hS : Nonempty XS) (hs : XSnd l xmt rec d) : Snd1 l 122 (b122 rec) d := by
  intro as M r M' h0
  unfold b122 at h0
  obtain ⟨a0, l1, e1, h1⟩ := aR_inv h0
  obtain ⟨a1, l2, e2, h2⟩ := aI_inv h1
  obtain ⟨a2, l3, e3, h3⟩ := aI_inv h2
  obtain ⟨ez, h⟩ := aZ_inv h3
  subst ez
  subst e3
  subst e2
  subst e1
  exact xmet (M := M) (as := [va_rf a0, .int a1, .int a2]) (lo := [some (va_rf a0), some (.int a1), some (.int a2)]) 122 xq122 xm122 (by rw [xargs_rf, xargs_i, xargs_i, xargs_nil]; exact ⟨rfl, ⟨rfl, ⟨rfl, trivial⟩⟩⟩) (by rw [xargs_rf, xargs_i, xargs_i, xargs_nil]; exact Nat.le_of_ble_eq_true rfl) (fun S G K => x_weak (by exact ⟨rfl, ⟨rfl, ⟨rfl, trivial⟩⟩⟩) (k122 hs a0 a1 a2 M)) h hS
set_option maxRecDepth 100000 in
def c123 (rec : Nat → List Value → Mem → XA) (a0 : Option Nat) (a1 : Int32) (a2 : Int32) (a3 : Int32) (a4 : Int32) (M0 : Mem) : XA :=
  gtI (10, 9) M0 a0 2 fun x1 =>
  lt (x1 * ((4 : Int32))) fun (x2 : Int32) =>
  gtP (10, 9) M0 a0 3 fun x3 =>
  asI 100 M0 x3 (x2 + ((0 : Int32))) a1 fun M4 =>
  gtP (10, 9) M4 a0 3 fun x5 =>
  asI 100 M4 x5 (x2 + ((1 : Int32))) a2 fun M6 =>
  gtP (10, 9) M6 a0 3 fun x7 =>
  jn (fun (s8 : Int32) =>
    asI 100 M6 x7 (x2 + ((2 : Int32))) s8 fun M9 =>
    gtP (10, 9) M9 a0 3 fun x10 =>
    asI 100 M9 x10 (x2 + ((3 : Int32))) a4 fun M11 =>
    gtI (10, 9) M11 a0 2 fun x12 =>
    ptI (10, 9) M11 a0 2 (x12 + ((1 : Int32))) fun M13 =>
    gtI (10, 9) M13 a0 2 fun x14 =>
    some (.int x14, M13)) fun j45 =>
  if a3 = 0 then (
    j45 ((0 : Int32))) else (
    j45 ((1 : Int32)))
def b123 (rec : Nat → List Value → Mem → XA) (as : List Value) (M0 : Mem) : XA := aR as fun a0 as => aI as fun a1 as => aI as fun a2 as => aI as fun a3 as => aI as fun a4 as => aZ as (c123 rec a0 a1 a2 a3 a4 M0)
set_option maxRecDepth 100000 in
set_option maxHeartbeats 4000000 in
theorem k123 {S : XS} {G : XG} {K : Nat × Nat} {l : Launch} {d : Nat} {rec : Nat → List Value → Mem → XA} (hs : XSnd l xmt rec d) (a0 : Option Nat) (a1 : Int32) (a2 : Int32) (a3 : Int32) (a4 : Int32) (M0 : Mem) : Xe S G K l (yX9_addRule, cX9_addRule, 6, some .int) d 0 [some (va_rf a0), some (.int a1), some (.int a2), some (.int a3), some (.int a4), none] [] M0 (c123 rec a0 a1 a2 a3 a4 M0) := by
  unfold c123
  refine x_aload_n dX9_addRule_0 rfl ?_
  refine gfX9_34 rfl dX9_addRule_1 (fun x1 => ?_)
  refine x_iconst (v := 4) dX9_addRule_4 (by decide) ?_
  refine x_imul dX9_addRule_5 ?_
  refine x_ltI (fun x2 => ?_)
  refine x_istore (lo' := [some (va_rf a0), some (.int a1), some (.int a2), some (.int a3), some (.int a4), some (.int x2)]) dX9_addRule_6 (by decide) rfl rfl ?_
  refine x_aload_n dX9_addRule_8 rfl ?_
  refine gfX9_15 rfl dX9_addRule_9 (fun x3 => ?_)
  refine x_iload dX9_addRule_12 rfl ?_
  refine x_iconst (v := 0) dX9_addRule_14 (by decide) ?_
  refine x_iadd dX9_addRule_15 ?_
  refine x_iload_n dX9_addRule_16 rfl ?_
  refine x_iast dX9_addRule_17 (fun M4 => ?_)
  refine x_aload_n dX9_addRule_18 rfl ?_
  refine gfX9_15 rfl dX9_addRule_19 (fun x5 => ?_)
  refine x_iload dX9_addRule_22 rfl ?_
  refine x_iconst (v := 1) dX9_addRule_24 (by decide) ?_
  refine x_iadd dX9_addRule_25 ?_
  refine x_iload_n dX9_addRule_26 rfl ?_
  refine x_iast dX9_addRule_27 (fun M6 => ?_)
  refine x_aload_n dX9_addRule_28 rfl ?_
  refine gfX9_15 rfl dX9_addRule_29 (fun x7 => ?_)
  refine x_iload dX9_addRule_32 rfl ?_
  refine x_iconst (v := 2) dX9_addRule_34 (by decide) ?_
  refine x_iadd dX9_addRule_35 ?_
  refine x_iload_n dX9_addRule_36 rfl ?_
  refine x_jn (σ := Int32) 45 (fun s8 => [some (va_rf a0), none, none, none, some (.int a4), some (.int x2)]) (fun s8 => [.int s8, .int (x2 + ((2 : Int32))), va_rf x7]) (fun s8 => M6) (fun s8 => ?_) (fun j45 hj45 => ?_)
  · refine x_iast dX9_addRule_45 (fun M9 => ?_)
    refine x_aload_n dX9_addRule_46 rfl ?_
    refine gfX9_15 rfl dX9_addRule_47 (fun x10 => ?_)
    refine x_iload dX9_addRule_50 rfl ?_
    refine x_iconst (v := 3) dX9_addRule_52 (by decide) ?_
    refine x_iadd dX9_addRule_53 ?_
    refine x_iload dX9_addRule_54 rfl ?_
    refine x_iast dX9_addRule_56 (fun M11 => ?_)
    refine x_aload_n dX9_addRule_57 rfl ?_
    refine x_dup dX9_addRule_58 (xc1_r _) ?_
    refine gfX9_34 rfl dX9_addRule_59 (fun x12 => ?_)
    refine x_iconst (v := 1) dX9_addRule_62 (by decide) ?_
    refine x_iadd dX9_addRule_63 ?_
    refine pfX9_34 rfl dX9_addRule_64 (fun M13 => ?_)
    refine x_aload_n dX9_addRule_67 rfl ?_
    refine gfX9_34 rfl dX9_addRule_68 (fun x14 => ?_)
    exact x_iret rfl dX9_addRule_71
  refine x_if_eq (tgt := 44) dX9_addRule_37 (by decide) (fun _ => ?_) (fun _ => ?_)
  · refine x_iconst (v := 0) dX9_addRule_44 (by decide) ?_
    exact x_weak (by exact ⟨rfl, ⟨rfl, ⟨rfl, trivial⟩⟩⟩) (hj45 ((0 : Int32)))
  · refine x_iconst (v := 1) dX9_addRule_40 (by decide) ?_
    refine x_goto (tgt := 45) dX9_addRule_41 (by decide) ?_
    exact x_weak (by exact ⟨rfl, ⟨rfl, ⟨rfl, trivial⟩⟩⟩) (hj45 ((1 : Int32)))
theorem s123 {l : Launch} {d : Nat} {rec : Nat → List Value → Mem → XA} (hS : Nonempty XS) (hs : XSnd l xmt rec d) : Snd1 l 123 (b123 rec) d := by
  intro as M r M' h0
  unfold b123 at h0
  obtain ⟨a0, l1, e1, h1⟩ := aR_inv h0
  obtain ⟨a1, l2, e2, h2⟩ := aI_inv h1
  obtain ⟨a2, l3, e3, h3⟩ := aI_inv h2
  obtain ⟨a3, l4, e4, h4⟩ := aI_inv h3
  obtain ⟨a4, l5, e5, h5⟩ := aI_inv h4
  obtain ⟨ez, h⟩ := aZ_inv h5
  subst ez
  subst e5
  subst e4
  subst e3
  subst e2
  subst e1
  exact xmet (M := M) (as := [va_rf a0, .int a1, .int a2, .int a3, .int a4]) (lo := [some (va_rf a0), some (.int a1), some (.int a2), some (.int a3), some (.int a4)]) 123 xq123 xm123 (by rw [xargs_rf, xargs_i, xargs_i, xargs_i, xargs_i, xargs_nil]; exact ⟨rfl, ⟨rfl, ⟨rfl, ⟨rfl, ⟨rfl, trivial⟩⟩⟩⟩⟩) (by rw [xargs_rf, xargs_i, xargs_i, xargs_i, xargs_i, xargs_nil]; exact Nat.le_of_ble_eq_true rfl) (fun S G K => x_weak (by exact ⟨rfl, ⟨rfl, ⟨rfl, ⟨rfl, ⟨rfl, trivial⟩⟩⟩⟩⟩) (k123 hs a0 a1 a2 a3 a4 M)) h hS
set_option maxRecDepth 100000 in
def c124_7 (rec : Nat → List Value → Mem → XA) (a0 : Option Nat) (a1 : Option Nat) (a2 : Int32) (M0 : Mem) (j68 : Int32 → XA) (j76 : Unit → XA) : (Int32) → ((Int32) → XA) → XA := fun s5 j7 =>
  if s5 < 0 then (
    j76 ()) else (
    gtP (10, 9) M0 a0 3 fun x6 =>
    alI 100 M0 x6 ((s5 * ((4 : Int32))) + ((0 : Int32))) fun x7 =>
    jn (fun (s8 : Int32) =>
      if s8 = 0 then (
        lt (s5 + (-1 : Int32)) fun (x9 : Int32) =>
        j7 x9) else (
        j68 s5)) fun j61 =>
    jn (fun (s10 : Unit) =>
      j61 ((1 : Int32))) fun j56 =>
    if x7 < 0 then (
      j56 ()) else (
      aln M0 a1 fun x11 =>
      jn (fun (s12 : Unit) =>
        j61 ((0 : Int32))) fun j60 =>
      if x11 ≤ (a2 + x7) then (
        j60 ()) else (
        alI 100 M0 a1 (a2 + x7) fun x13 =>
        gtP (10, 9) M0 a0 3 fun x14 =>
        alI 100 M0 x14 ((s5 * ((4 : Int32))) + ((1 : Int32))) fun x15 =>
        if x13 = x15 then (
          j56 ()) else (
          j60 ()))))
set_option maxRecDepth 100000 in
def c124 (rec : Nat → List Value → Mem → XA) (a0 : Option Nat) (a1 : Option Nat) (a2 : Int32) (M0 : Mem) : XA :=
  gtI (10, 9) M0 a0 2 fun x1 =>
  lt (x1 - ((1 : Int32))) fun (x2 : Int32) =>
  jn (fun (s3 : Int32) =>
    some (.int s3, M0)) fun j68 =>
  jn (fun (s4 : Unit) =>
    some (.int ((-2 : Int32)), M0)) fun j76 =>
  lp (c124_7 rec a0 a1 a2 M0 j68 j76) 4294967296 x2
def b124 (rec : Nat → List Value → Mem → XA) (as : List Value) (M0 : Mem) : XA := aR as fun a0 as => aR as fun a1 as => aI as fun a2 as => aZ as (c124 rec a0 a1 a2 M0)
set_option maxRecDepth 100000 in
set_option maxHeartbeats 4000000 in
theorem k124 {S : XS} {G : XG} {K : Nat × Nat} {l : Launch} {d : Nat} {rec : Nat → List Value → Mem → XA} (hs : XSnd l xmt rec d) (a0 : Option Nat) (a1 : Option Nat) (a2 : Int32) (M0 : Mem) : Xe S G K l (yX9_fitting, cX9_fitting, 6, some .int) d 0 [some (va_rf a0), some (va_rf a1), some (.int a2), none, none, none] [] M0 (c124 rec a0 a1 a2 M0) := by
  unfold c124
  refine x_aload_n dX9_fitting_0 rfl ?_
  refine gfX9_34 rfl dX9_fitting_1 (fun x1 => ?_)
  refine x_iconst (v := 1) dX9_fitting_4 (by decide) ?_
  refine x_isub dX9_fitting_5 ?_
  refine x_ltI (fun x2 => ?_)
  refine x_istore_n (lo' := [some (va_rf a0), some (va_rf a1), some (.int a2), some (.int x2), none, none]) dX9_fitting_6 (by decide) rfl rfl ?_
  refine x_jn (σ := Int32) 68 (fun s3 => [none, none, none, some (.int s3), none, none]) (fun s3 => []) (fun s3 => M0) (fun s3 => ?_) (fun j68 hj68 => ?_)
  · refine x_iload_n dX9_fitting_68 rfl ?_
    exact x_iret rfl dX9_fitting_69
  refine x_jn (σ := Unit) 76 (fun s4 => [none, none, none, none, none, none]) (fun s4 => []) (fun s4 => M0) (fun s4 => ?_) (fun j76 hj76 => ?_)
  · refine x_bipush (v := -2) dX9_fitting_76 (by decide) ?_
    exact x_iret rfl dX9_fitting_78
  refine x_weak (by exact ⟨rfl, ⟨rfl, ⟨rfl, ⟨rfl, trivial⟩⟩⟩⟩) (x_lp (σ := Int32) 7 (fun s5 => [some (va_rf a0), some (va_rf a1), some (.int a2), some (.int s5), none, none]) (fun s5 => []) (fun s5 => M0) (fun s5 j7 hj7 => ?_) 4294967296 x2)
  · refine x_iload_n dX9_fitting_7 rfl ?_
    refine x_if_lt (tgt := 76) dX9_fitting_8 (by decide) (fun _ => ?_) (fun _ => ?_)
    · exact x_weak (by exact trivial) (hj76 ())
    · refine x_aload_n dX9_fitting_11 rfl ?_
      refine gfX9_15 rfl dX9_fitting_12 (fun x6 => ?_)
      refine x_iload_n dX9_fitting_15 rfl ?_
      refine x_iconst (v := 4) dX9_fitting_16 (by decide) ?_
      refine x_imul dX9_fitting_17 ?_
      refine x_iconst (v := 0) dX9_fitting_18 (by decide) ?_
      refine x_iadd dX9_fitting_19 ?_
      refine x_iald dX9_fitting_20 (fun x7 => ?_)
      refine x_istore (lo' := [some (va_rf a0), some (va_rf a1), some (.int a2), some (.int s5), some (.int x7), none]) dX9_fitting_21 (by decide) rfl rfl ?_
      refine x_iload dX9_fitting_23 rfl ?_
      refine x_jn (σ := Int32) 61 (fun s8 => [some (va_rf a0), some (va_rf a1), some (.int a2), some (.int s5), none, none]) (fun s8 => [.int s8]) (fun s8 => M0) (fun s8 => ?_) (fun j61 hj61 => ?_)
      · refine x_istore (lo' := [some (va_rf a0), some (va_rf a1), some (.int a2), some (.int s5), none, some (.int s8)]) dX9_fitting_61 (by decide) rfl rfl ?_
        refine x_iload dX9_fitting_63 rfl ?_
        refine x_if_eq (tgt := 70) dX9_fitting_65 (by decide) (fun _ => ?_) (fun _ => ?_)
        · refine x_iincN (v := -1) (lo' := fun x9 => [some (va_rf a0), some (va_rf a1), some (.int a2), some (.int x9), none, some (.int s8)]) (by decide) dX9_fitting_70 rfl (by decide) rfl (fun _ => rfl) (fun x9 => ?_)
          refine x_goto (tgt := 7) dX9_fitting_73 (by decide) ?_
          exact x_weak (by exact ⟨rfl, ⟨rfl, ⟨rfl, ⟨rfl, trivial⟩⟩⟩⟩) (hj7 x9)
        · exact x_weak (by exact ⟨rfl, trivial⟩) (hj68 s5)
      refine x_jn (σ := Unit) 56 (fun s10 => [some (va_rf a0), some (va_rf a1), some (.int a2), some (.int s5), none, none]) (fun s10 => []) (fun s10 => M0) (fun s10 => ?_) (fun j56 hj56 => ?_)
      · refine x_iconst (v := 1) dX9_fitting_56 (by decide) ?_
        refine x_goto (tgt := 61) dX9_fitting_57 (by decide) ?_
        exact x_weak (by exact ⟨rfl, ⟨rfl, ⟨rfl, ⟨rfl, trivial⟩⟩⟩⟩) (hj61 ((1 : Int32)))
      refine x_if_lt (tgt := 56) dX9_fitting_25 (by decide) (fun _ => ?_) (fun _ => ?_)
      · exact x_weak (by exact ⟨rfl, ⟨rfl, ⟨rfl, ⟨rfl, trivial⟩⟩⟩⟩) (hj56 ())
      · refine x_iload_n dX9_fitting_28 rfl ?_
        refine x_iload dX9_fitting_29 rfl ?_
        refine x_iadd dX9_fitting_31 ?_
        refine x_aload_n dX9_fitting_32 rfl ?_
        refine x_alen dX9_fitting_33 (fun x11 => ?_)
        refine x_jn (σ := Unit) 60 (fun s12 => [some (va_rf a0), some (va_rf a1), some (.int a2), some (.int s5), none, none]) (fun s12 => []) (fun s12 => M0) (fun s12 => ?_) (fun j60 hj60 => ?_)
        · refine x_iconst (v := 0) dX9_fitting_60 (by decide) ?_
          exact x_weak (by exact ⟨rfl, ⟨rfl, ⟨rfl, ⟨rfl, trivial⟩⟩⟩⟩) (hj61 ((0 : Int32)))
        refine x_icmp_ge (tgt := 60) dX9_fitting_34 (by decide) (fun _ => ?_) (fun _ => ?_)
        · exact x_weak (by exact ⟨rfl, ⟨rfl, ⟨rfl, ⟨rfl, trivial⟩⟩⟩⟩) (hj60 ())
        · refine x_aload_n dX9_fitting_37 rfl ?_
          refine x_iload_n dX9_fitting_38 rfl ?_
          refine x_iload dX9_fitting_39 rfl ?_
          refine x_iadd dX9_fitting_41 ?_
          refine x_iald dX9_fitting_42 (fun x13 => ?_)
          refine x_aload_n dX9_fitting_43 rfl ?_
          refine gfX9_15 rfl dX9_fitting_44 (fun x14 => ?_)
          refine x_iload_n dX9_fitting_47 rfl ?_
          refine x_iconst (v := 4) dX9_fitting_48 (by decide) ?_
          refine x_imul dX9_fitting_49 ?_
          refine x_iconst (v := 1) dX9_fitting_50 (by decide) ?_
          refine x_iadd dX9_fitting_51 ?_
          refine x_iald dX9_fitting_52 (fun x15 => ?_)
          refine x_icmp_ne (tgt := 60) dX9_fitting_53 (by decide) (fun _ => ?_) (fun _ => ?_)
          · exact x_weak (by exact ⟨rfl, ⟨rfl, ⟨rfl, ⟨rfl, trivial⟩⟩⟩⟩) (hj56 ())
          · exact x_weak (by exact ⟨rfl, ⟨rfl, ⟨rfl, ⟨rfl, trivial⟩⟩⟩⟩) (hj60 ())
theorem s124 {l : Launch} {d : Nat} {rec : Nat → List Value → Mem → XA} (hS : Nonempty XS) (hs : XSnd l xmt rec d) : Snd1 l 124 (b124 rec) d := by
  intro as M r M' h0
  unfold b124 at h0
  obtain ⟨a0, l1, e1, h1⟩ := aR_inv h0
  obtain ⟨a1, l2, e2, h2⟩ := aR_inv h1
  obtain ⟨a2, l3, e3, h3⟩ := aI_inv h2
  obtain ⟨ez, h⟩ := aZ_inv h3
  subst ez
  subst e3
  subst e2
  subst e1
  exact xmet (M := M) (as := [va_rf a0, va_rf a1, .int a2]) (lo := [some (va_rf a0), some (va_rf a1), some (.int a2)]) 124 xq124 xm124 (by rw [xargs_rf, xargs_rf, xargs_i, xargs_nil]; exact ⟨rfl, ⟨rfl, ⟨rfl, trivial⟩⟩⟩) (by rw [xargs_rf, xargs_rf, xargs_i, xargs_nil]; exact Nat.le_of_ble_eq_true rfl) (fun S G K => x_weak (by exact ⟨rfl, ⟨rfl, ⟨rfl, trivial⟩⟩⟩) (k124 hs a0 a1 a2 M)) h hS
set_option maxRecDepth 100000 in
def c125_22 (rec : Nat → List Value → Mem → XA) (a0 : Option Nat) (a1 : Option Nat) (a2 : Int32) (j72 : Mem → XA) : (Int32 × Mem) → ((Int32 × Mem) → XA) → XA := fun s8 j22 =>
  gtI (10, 9) s8.2 a0 1 fun x9 =>
  if x9 ≤ s8.1 then (
    j72 s8.2) else (
    if ((4 : Int32)) ≤ s8.1 then (
      j72 s8.2) else (
      aln s8.2 a1 fun x10 =>
      if x10 ≤ (a2 + s8.1) then (
        j72 s8.2) else (
        gtP (10, 9) s8.2 a0 5 fun x11 =>
        gtI (10, 9) s8.2 a0 4 fun x12 =>
        alI 100 s8.2 a1 (a2 + s8.1) fun x13 =>
        asI 100 s8.2 x11 ((x12 * ((4 : Int32))) + s8.1) x13 fun M14 =>
        lt (s8.1 + (1 : Int32)) fun (x15 : Int32) =>
        j22 (x15, M14))))
set_option maxRecDepth 100000 in
def c125 (rec : Nat → List Value → Mem → XA) (a0 : Option Nat) (a1 : Option Nat) (a2 : Int32) (a3 : Int32) (M0 : Mem) : XA :=
  gtI (10, 9) M0 a0 4 fun x1 =>
  jn (fun (s2 : Mem) =>
    gtI (10, 9) s2 a0 4 fun x3 =>
    ptI (10, 9) s2 a0 4 (x3 + ((1 : Int32))) fun M4 =>
    some (.null, M4)) fun j72 =>
  if ((50 : Int32)) ≤ x1 then (
    j72 M0) else (
    gtP (10, 9) M0 a0 6 fun x5 =>
    gtI (10, 9) M0 a0 4 fun x6 =>
    asI 100 M0 x5 x6 a3 fun M7 =>
    lp (c125_22 rec a0 a1 a2 j72) 4294967296 ((0 : Int32), M7))
def b125 (rec : Nat → List Value → Mem → XA) (as : List Value) (M0 : Mem) : XA := aR as fun a0 as => aR as fun a1 as => aI as fun a2 as => aI as fun a3 as => aZ as (c125 rec a0 a1 a2 a3 M0)
set_option maxRecDepth 100000 in
set_option maxHeartbeats 4000000 in
theorem k125 {S : XS} {G : XG} {K : Nat × Nat} {l : Launch} {d : Nat} {rec : Nat → List Value → Mem → XA} (hs : XSnd l xmt rec d) (a0 : Option Nat) (a1 : Option Nat) (a2 : Int32) (a3 : Int32) (M0 : Mem) : Xe S G K l (yX9_note, cX9_note, 5, none) d 0 [some (va_rf a0), some (va_rf a1), some (.int a2), some (.int a3), none] [] M0 (c125 rec a0 a1 a2 a3 M0) := by
  unfold c125
  refine x_aload_n dX9_note_0 rfl ?_
  refine gfX9_37 rfl dX9_note_1 (fun x1 => ?_)
  refine x_bipush (v := 50) dX9_note_4 (by decide) ?_
  refine x_jn (σ := Mem) 72 (fun s2 => [some (va_rf a0), none, none, none, none]) (fun s2 => []) (fun s2 => s2) (fun s2 => ?_) (fun j72 hj72 => ?_)
  · refine x_aload_n dX9_note_72 rfl ?_
    refine x_dup dX9_note_73 (xc1_r _) ?_
    refine gfX9_37 rfl dX9_note_74 (fun x3 => ?_)
    refine x_iconst (v := 1) dX9_note_77 (by decide) ?_
    refine x_iadd dX9_note_78 ?_
    refine pfX9_37 rfl dX9_note_79 (fun M4 => ?_)
    exact x_vret rfl dX9_note_82
  refine x_icmp_ge (tgt := 72) dX9_note_6 (by decide) (fun _ => ?_) (fun _ => ?_)
  · exact x_weak (by exact ⟨rfl, trivial⟩) (hj72 M0)
  · refine x_aload_n dX9_note_9 rfl ?_
    refine gfX9_22 rfl dX9_note_10 (fun x5 => ?_)
    refine x_aload_n dX9_note_13 rfl ?_
    refine gfX9_37 rfl dX9_note_14 (fun x6 => ?_)
    refine x_iload_n dX9_note_17 rfl ?_
    refine x_iast dX9_note_18 (fun M7 => ?_)
    refine x_iconst (v := 0) dX9_note_19 (by decide) ?_
    refine x_istore (lo' := [some (va_rf a0), some (va_rf a1), some (.int a2), some (.int a3), some (.int ((0 : Int32)))]) dX9_note_20 (by decide) rfl rfl ?_
    refine x_weak (by exact ⟨rfl, ⟨rfl, ⟨rfl, ⟨rfl, trivial⟩⟩⟩⟩) (x_lp (σ := Int32 × Mem) 22 (fun s8 => [some (va_rf a0), some (va_rf a1), some (.int a2), none, some (.int s8.1)]) (fun s8 => []) (fun s8 => s8.2) (fun s8 j22 hj22 => ?_) 4294967296 ((0 : Int32), M7))
    · refine x_iload dX9_note_22 rfl ?_
      refine x_aload_n dX9_note_24 rfl ?_
      refine gfX9_31 rfl dX9_note_25 (fun x9 => ?_)
      refine x_icmp_ge (tgt := 72) dX9_note_28 (by decide) (fun _ => ?_) (fun _ => ?_)
      · exact x_weak (by exact ⟨rfl, trivial⟩) (hj72 s8.2)
      · refine x_iload dX9_note_31 rfl ?_
        refine x_iconst (v := 4) dX9_note_33 (by decide) ?_
        refine x_icmp_ge (tgt := 72) dX9_note_34 (by decide) (fun _ => ?_) (fun _ => ?_)
        · exact x_weak (by exact ⟨rfl, trivial⟩) (hj72 s8.2)
        · refine x_iload_n dX9_note_37 rfl ?_
          refine x_iload dX9_note_38 rfl ?_
          refine x_iadd dX9_note_40 ?_
          refine x_aload_n dX9_note_41 rfl ?_
          refine x_alen dX9_note_42 (fun x10 => ?_)
          refine x_icmp_ge (tgt := 72) dX9_note_43 (by decide) (fun _ => ?_) (fun _ => ?_)
          · exact x_weak (by exact ⟨rfl, trivial⟩) (hj72 s8.2)
          · refine x_aload_n dX9_note_46 rfl ?_
            refine gfX9_19 rfl dX9_note_47 (fun x11 => ?_)
            refine x_aload_n dX9_note_50 rfl ?_
            refine gfX9_37 rfl dX9_note_51 (fun x12 => ?_)
            refine x_iconst (v := 4) dX9_note_54 (by decide) ?_
            refine x_imul dX9_note_55 ?_
            refine x_iload dX9_note_56 rfl ?_
            refine x_iadd dX9_note_58 ?_
            refine x_aload_n dX9_note_59 rfl ?_
            refine x_iload_n dX9_note_60 rfl ?_
            refine x_iload dX9_note_61 rfl ?_
            refine x_iadd dX9_note_63 ?_
            refine x_iald dX9_note_64 (fun x13 => ?_)
            refine x_iast dX9_note_65 (fun M14 => ?_)
            refine x_iincN (v := 1) (lo' := fun x15 => [some (va_rf a0), some (va_rf a1), some (.int a2), none, some (.int x15)]) (by decide) dX9_note_66 rfl (by decide) rfl (fun _ => rfl) (fun x15 => ?_)
            refine x_goto (tgt := 22) dX9_note_69 (by decide) ?_
            exact x_weak (by exact ⟨rfl, ⟨rfl, ⟨rfl, ⟨rfl, trivial⟩⟩⟩⟩) (hj22 (x15, M14))
theorem s125 {l : Launch} {d : Nat} {rec : Nat → List Value → Mem → XA} (hS : Nonempty XS) (hs : XSnd l xmt rec d) : Snd1 l 125 (b125 rec) d := by
  intro as M r M' h0
  unfold b125 at h0
  obtain ⟨a0, l1, e1, h1⟩ := aR_inv h0
  obtain ⟨a1, l2, e2, h2⟩ := aR_inv h1
  obtain ⟨a2, l3, e3, h3⟩ := aI_inv h2
  obtain ⟨a3, l4, e4, h4⟩ := aI_inv h3
  obtain ⟨ez, h⟩ := aZ_inv h4
  subst ez
  subst e4
  subst e3
  subst e2
  subst e1
  exact xmet (M := M) (as := [va_rf a0, va_rf a1, .int a2, .int a3]) (lo := [some (va_rf a0), some (va_rf a1), some (.int a2), some (.int a3)]) 125 xq125 xm125 (by rw [xargs_rf, xargs_rf, xargs_i, xargs_i, xargs_nil]; exact ⟨rfl, ⟨rfl, ⟨rfl, ⟨rfl, trivial⟩⟩⟩⟩) (by rw [xargs_rf, xargs_rf, xargs_i, xargs_i, xargs_nil]; exact Nat.le_of_ble_eq_true rfl) (fun S G K => x_weak (by exact ⟨rfl, ⟨rfl, ⟨rfl, ⟨rfl, trivial⟩⟩⟩⟩) (k125 hs a0 a1 a2 a3 M)) h hS
set_option maxRecDepth 100000 in
def c126 (rec : Nat → List Value → Mem → XA) (a0 : Option Nat) (a1 : Int64) (a2 : Int32) (a3 : Int32) (M0 : Mem) : XA :=
  nn a0 <|
  ptI (11, 10) M0 a0 5 ((-2 : Int32)) fun M1 =>
  nA 100 M1 ((3 : Int32)) fun x2 M3 =>
  ptP (11, 10) M3 a0 6 x2 fun M4 =>
  nA 100 M4 ((3 : Int32)) fun x5 M6 =>
  ptP (11, 10) M6 a0 8 x5 fun M7 =>
  ptL (11, 10) M7 a0 0 a1 fun M8 =>
  ptI (11, 10) M8 a0 1 a2 fun M9 =>
  ptI (11, 10) M9 a0 2 a2 fun M10 =>
  ptI (11, 10) M10 a0 3 a3 fun M11 =>
  ptI (11, 10) M11 a0 4 a3 fun M12 =>
  some (.null, M12)
def b126 (rec : Nat → List Value → Mem → XA) (as : List Value) (M0 : Mem) : XA := aR as fun a0 as => aL as fun a1 as => aI as fun a2 as => aI as fun a3 as => aZ as (c126 rec a0 a1 a2 a3 M0)
set_option maxRecDepth 100000 in
set_option maxHeartbeats 4000000 in
theorem k126 {S : XS} {G : XG} {K : Nat × Nat} {l : Launch} {d : Nat} {rec : Nat → List Value → Mem → XA} (hs : XSnd l xmt rec d) (a0 : Option Nat) (a1 : Int64) (a2 : Int32) (a3 : Int32) (M0 : Mem) : Xe S G K l (yX10_init, cX10_init, 5, none) d 0 [some (va_rf a0), some (.long a1), none, some (.int a2), some (.int a3)] [] M0 (c126 rec a0 a1 a2 a3 M0) := by
  unfold c126
  refine x_aload_n dX10_init_0 rfl ?_
  refine xoiX10 rfl (Nat.le_of_ble_eq_true rfl) dX10_init_1 ?_
  refine x_aload_n dX10_init_4 rfl ?_
  refine x_bipush (v := -2) dX10_init_5 (by decide) ?_
  refine pfX10_9 rfl dX10_init_7 (fun M1 => ?_)
  refine x_aload_n dX10_init_10 rfl ?_
  refine x_iconst (v := 3) dX10_init_11 (by decide) ?_
  refine x_newa100 dX10_init_12 (fun x2 M3 => ?_)
  refine pfX10_15 rfl rfl dX10_init_14 (fun M4 => ?_)
  refine x_aload_n dX10_init_17 rfl ?_
  refine x_iconst (v := 3) dX10_init_18 (by decide) ?_
  refine x_newa100 dX10_init_19 (fun x5 M6 => ?_)
  refine pfX10_19 rfl rfl dX10_init_21 (fun M7 => ?_)
  refine x_aload_n dX10_init_24 rfl ?_
  refine x_lload_n dX10_init_25 rfl ?_
  refine pfX10_22 rfl rfl dX10_init_26 (fun M8 => ?_)
  refine x_aload_n dX10_init_29 rfl ?_
  refine x_iload_n dX10_init_30 rfl ?_
  refine pfX10_26 rfl rfl dX10_init_31 (fun M9 => ?_)
  refine x_aload_n dX10_init_34 rfl ?_
  refine x_iload_n dX10_init_35 rfl ?_
  refine pfX10_29 rfl dX10_init_36 (fun M10 => ?_)
  refine x_aload_n dX10_init_39 rfl ?_
  refine x_iload dX10_init_40 rfl ?_
  refine pfX10_32 rfl rfl dX10_init_42 (fun M11 => ?_)
  refine x_aload_n dX10_init_45 rfl ?_
  refine x_iload dX10_init_46 rfl ?_
  refine pfX10_35 rfl dX10_init_48 (fun M12 => ?_)
  exact x_vret rfl dX10_init_51
theorem s126 {l : Launch} {d : Nat} {rec : Nat → List Value → Mem → XA} (hS : Nonempty XS) (hs : XSnd l xmt rec d) : Snd1 l 126 (b126 rec) d := by
  intro as M r M' h0
  unfold b126 at h0
  obtain ⟨a0, l1, e1, h1⟩ := aR_inv h0
  obtain ⟨a1, l2, e2, h2⟩ := aL_inv h1
  obtain ⟨a2, l3, e3, h3⟩ := aI_inv h2
  obtain ⟨a3, l4, e4, h4⟩ := aI_inv h3
  obtain ⟨ez, h⟩ := aZ_inv h4
  subst ez
  subst e4
  subst e3
  subst e2
  subst e1
  exact xmet (M := M) (as := [va_rf a0, .long a1, .int a2, .int a3]) (lo := [some (va_rf a0), some (.long a1), none, some (.int a2), some (.int a3)]) 126 xq126 xm126 (by rw [xargs_rf, xargs_l, xargs_i, xargs_i, xargs_nil]; exact ⟨rfl, ⟨rfl, ⟨rfl, ⟨rfl, trivial⟩⟩⟩⟩) (by rw [xargs_rf, xargs_l, xargs_i, xargs_i, xargs_nil]; exact Nat.le_of_ble_eq_true rfl) (fun S G K => x_weak (by exact ⟨rfl, ⟨rfl, ⟨rfl, ⟨rfl, trivial⟩⟩⟩⟩) (k126 hs a0 a1 a2 a3 M)) h hS
