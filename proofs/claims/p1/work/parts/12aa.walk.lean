set_option maxRecDepth 100000 in
def c0_91 (rec : Nat → List Value → Mem → XA) (a0 : Option Nat) (a1 : Option Nat) (a2 : Option Nat) (j155 : Mem → XA) : (Int32 × Mem) → ((Int32 × Mem) → XA) → XA := fun s14 j91 =>
  gtP (1, 4) s14.2 a0 3 fun x15 =>
  aln s14.2 x15 fun x16 =>
  if x16 ≤ s14.1 then (
    j155 s14.2) else (
    gtP (6, 18) s14.2 a1 2 fun x17 =>
    vC (0, 3) s14.2 x17 <|
    cP (rec 348 [va_rf x17, .int s14.1] s14.2) fun x19 M18 =>
    cst (8, 9) M18 x19 <|
    gtP (1, 4) M18 a0 2 fun x20 =>
    gtI (8, 9) M18 x19 1 fun x21 =>
    alI 100 M18 x20 x21 fun x22 =>
    gtP (1, 4) M18 a0 3 fun x23 =>
    jn (fun (s24 : Int32 × Mem) =>
      asI 100 s24.2 x23 s14.1 s24.1 fun M25 =>
      lt (s14.1 + (1 : Int32)) fun (x26 : Int32) =>
      j91 (x26, M25)) fun j148 =>
    if 0 ≤ x22 then (
      cI (rec 2 [va_rf a2, .int x22, va_rf x19] M18) fun x28 M27 =>
      j148 (x28, M27)) else (
      j148 ((-2 : Int32), M18)))
set_option maxRecDepth 100000 in
def c0_24 (rec : Nat → List Value → Mem → XA) (a0 : Option Nat) (a1 : Option Nat) (a2 : Option Nat) (j76 : Mem → XA) : (Int32 × Mem) → ((Int32 × Mem) → XA) → XA := fun s29 j24 =>
  if ((8 : Int32)) ≤ s29.1 then (
    j76 s29.2) else (
    gtP (1, 4) s29.2 a0 2 fun x30 =>
    gtP (6, 18) s29.2 a1 1 fun x31 =>
    vC (0, 3) s29.2 x31 <|
    cI (rec 346 [va_rf x31] s29.2) fun x33 M32 =>
    jn (fun (s34 : Int32 × Mem) =>
      asI 100 s34.2 x30 s29.1 s34.1 fun M35 =>
      lt (s29.1 + (1 : Int32)) fun (x36 : Int32) =>
      j24 (x36, M35)) fun j69 =>
    if x33 ≤ s29.1 then (
      j69 ((-2 : Int32), M32)) else (
      gtP (6, 18) M32 a1 1 fun x37 =>
      vC (0, 3) M32 x37 <|
      cP (rec 348 [va_rf x37, .int s29.1] M32) fun x39 M38 =>
      cst (11, 10) M38 x39 <|
      gtL (11, 10) M38 x39 0 fun x40 =>
      cI (rec 1 [va_rf a2, .long x40] M38) fun x42 M41 =>
      j69 (x42, M41)))
set_option maxRecDepth 100000 in
def c0 (rec : Nat → List Value → Mem → XA) (a0 : Option Nat) (a1 : Option Nat) (a2 : Option Nat) (M0 : Mem) : XA :=
  nn a0 <|
  nA 100 M0 ((8 : Int32)) fun x1 M2 =>
  ptP (1, 4) M2 a0 2 x1 fun M3 =>
  ptP (1, 4) M3 a0 0 a1 fun M4 =>
  ptP (1, 4) M4 a0 1 a2 fun M5 =>
  jn (fun (s6 : Mem) =>
    gtP (6, 18) s6 a1 2 fun x7 =>
    vC (0, 3) s6 x7 <|
    cI (rec 346 [va_rf x7] s6) fun x9 M8 =>
    nA 100 M8 x9 fun x10 M11 =>
    ptP (1, 4) M11 a0 3 x10 fun M12 =>
    jn (fun (s13 : Mem) =>
      some (.null, s13)) fun j155 =>
    lp (c0_91 rec a0 a1 a2 j155) 4294967296 ((0 : Int32), M12)) fun j76 =>
  lp (c0_24 rec a0 a1 a2 j76) 4294967296 ((0 : Int32), M5)
def b0 (rec : Nat → List Value → Mem → XA) (as : List Value) (M0 : Mem) : XA := aR as fun a0 as => aR as fun a1 as => aR as fun a2 as => aZ as (c0 rec a0 a1 a2 M0)
set_option maxRecDepth 100000 in
set_option maxHeartbeats 4000000 in
theorem k0 {S : XS} {G : XG} {K : Nat × Nat} {l : Launch} {d : Nat} {rec : Nat → List Value → Mem → XA} (hs : XSnd l xmt rec d) (a0 : Option Nat) (a1 : Option Nat) (a2 : Option Nat) (M0 : Mem) : Xe S G K l (yX0_init, cX0_init, 6, none) d 0 [some (va_rf a0), some (va_rf a1), some (va_rf a2), none, none, none] [] M0 (c0 rec a0 a1 a2 M0) := by
  unfold c0
  refine x_aload_n dX0_init_0 rfl ?_
  refine xoiX0 rfl (Nat.le_of_ble_eq_true rfl) dX0_init_1 ?_
  refine x_aload_n dX0_init_4 rfl ?_
  refine x_bipush (v := 8) dX0_init_5 (by decide) ?_
  refine x_newa100 dX0_init_7 (fun x1 M2 => ?_)
  refine pfX0_9 rfl rfl dX0_init_9 (fun M3 => ?_)
  refine x_aload_n dX0_init_12 rfl ?_
  refine x_aload_n dX0_init_13 rfl ?_
  refine pfX0_15 rfl rfl dX0_init_14 (fun M4 => ?_)
  refine x_aload_n dX0_init_17 rfl ?_
  refine x_aload_n dX0_init_18 rfl ?_
  refine pfX0_19 rfl rfl dX0_init_19 (fun M5 => ?_)
  refine x_iconst (v := 0) dX0_init_22 (by decide) ?_
  refine x_istore_n (lo' := [some (va_rf a0), some (va_rf a1), some (va_rf a2), some (.int ((0 : Int32))), none, none]) dX0_init_23 (by decide) (xok_r rfl) rfl ?_
  refine x_jn (σ := Mem) 76 (fun s6 => [some (va_rf a0), some (va_rf a1), some (va_rf a2), none, none, none]) (fun s6 => []) (fun s6 => s6) (fun s6 => ?_) (fun j76 hj76 => ?_)
  · refine x_aload_n dX0_init_76 rfl ?_
    refine x_aload_n dX0_init_77 rfl ?_
    refine gfX0_48 rfl dX0_init_78 (fun x7 => ?_)
    refine cmX0_28 rfl hs (Nat.le_of_ble_eq_true rfl) dX0_init_81 (fun x9 M8 => ?_)
    refine x_newa100 dX0_init_84 (fun x10 M11 => ?_)
    refine pfX0_51 rfl rfl dX0_init_86 (fun M12 => ?_)
    refine x_iconst (v := 0) dX0_init_89 (by decide) ?_
    refine x_istore_n (lo' := [some (va_rf a0), some (va_rf a1), some (va_rf a2), some (.int ((0 : Int32))), none, none]) dX0_init_90 (by decide) (xok_r rfl) rfl ?_
    refine x_jn (σ := Mem) 155 (fun s13 => [none, none, none, none, none, none]) (fun s13 => []) (fun s13 => s13) (fun s13 => ?_) (fun j155 hj155 => ?_)
    · exact x_vret rfl dX0_init_155
    refine x_weak (by exact ⟨rfl, ⟨rfl, ⟨rfl, ⟨rfl, trivial⟩⟩⟩⟩) (x_lp (σ := Int32 × Mem) 91 (fun s14 => [some (va_rf a0), some (va_rf a1), some (va_rf a2), some (.int s14.1), none, none]) (fun s14 => []) (fun s14 => s14.2) (fun s14 j91 hj91 => ?_) 4294967296 ((0 : Int32), M12))
    · refine x_iload_n dX0_init_91 rfl ?_
      refine x_aload_n dX0_init_92 rfl ?_
      refine gfX0_51 rfl dX0_init_93 (fun x15 => ?_)
      refine x_alen dX0_init_96 (fun x16 => ?_)
      refine x_icmp_ge (tgt := 155) dX0_init_97 (by decide) (fun _ => ?_) (fun _ => ?_)
      · exact x_weak (by exact trivial) (hj155 s14.2)
      · refine x_aload_n dX0_init_100 rfl ?_
        refine gfX0_48 rfl dX0_init_101 (fun x17 => ?_)
        refine x_iload_n dX0_init_104 rfl ?_
        refine cmX0_34 rfl hs (Nat.le_of_ble_eq_true rfl) dX0_init_105 (fun x19 M18 => ?_)
        refine ccX0_54 rfl dX0_init_108 ?_
        refine x_astore (lo' := [some (va_rf a0), some (va_rf a1), some (va_rf a2), some (.int s14.1), some (va_rf x19), none]) dX0_init_111 (by decide) rfl rfl ?_
        refine x_aload_n dX0_init_113 rfl ?_
        refine gfX0_9 rfl dX0_init_114 (fun x20 => ?_)
        refine x_aload dX0_init_117 rfl ?_
        refine gfX0_56 rfl dX0_init_119 (fun x21 => ?_)
        refine x_iald dX0_init_122 (fun x22 => ?_)
        refine x_istore (lo' := [some (va_rf a0), some (va_rf a1), some (va_rf a2), some (.int s14.1), some (va_rf x19), some (.int x22)]) dX0_init_123 (by decide) (xok_r rfl) rfl ?_
        refine x_aload_n dX0_init_125 rfl ?_
        refine gfX0_51 rfl dX0_init_126 (fun x23 => ?_)
        refine x_iload_n dX0_init_129 rfl ?_
        refine x_iload dX0_init_130 rfl ?_
        refine x_jn (σ := Int32 × Mem) 148 (fun s24 => [some (va_rf a0), some (va_rf a1), some (va_rf a2), some (.int s14.1), none, none]) (fun s24 => [.int s24.1, .int s14.1, va_rf x23]) (fun s24 => s24.2) (fun s24 => ?_) (fun j148 hj148 => ?_)
        · refine x_iast dX0_init_148 (fun M25 => ?_)
          refine x_iincN (v := 1) (lo' := fun x26 => [some (va_rf a0), some (va_rf a1), some (va_rf a2), some (.int x26), none, none]) (by decide) dX0_init_149 rfl (by decide) (xok_r rfl) (fun _ => rfl) (fun x26 => ?_)
          refine x_goto (tgt := 91) dX0_init_152 (by decide) ?_
          exact x_weak (by exact ⟨rfl, ⟨rfl, ⟨rfl, ⟨rfl, trivial⟩⟩⟩⟩) (hj91 (x26, M25))
        refine x_if_ge (tgt := 140) dX0_init_132 (by decide) (fun _ => ?_) (fun _ => ?_)
        · refine x_aload_n dX0_init_140 rfl ?_
          refine x_iload dX0_init_141 rfl ?_
          refine x_aload dX0_init_143 rfl ?_
          refine cmX0_60 rfl hs (Nat.le_of_ble_eq_true rfl) dX0_init_145 (fun x28 M27 => ?_)
          exact x_weak (by exact ⟨rfl, ⟨rfl, ⟨rfl, ⟨rfl, trivial⟩⟩⟩⟩) (hj148 (x28, M27))
        · refine x_bipush (v := -2) dX0_init_135 (by decide) ?_
          refine x_goto (tgt := 148) dX0_init_137 (by decide) ?_
          exact x_weak (by exact ⟨rfl, ⟨rfl, ⟨rfl, ⟨rfl, trivial⟩⟩⟩⟩) (hj148 ((-2 : Int32), M18))
  refine x_weak (by exact ⟨rfl, ⟨rfl, ⟨rfl, ⟨rfl, trivial⟩⟩⟩⟩) (x_lp (σ := Int32 × Mem) 24 (fun s29 => [some (va_rf a0), some (va_rf a1), some (va_rf a2), some (.int s29.1), none, none]) (fun s29 => []) (fun s29 => s29.2) (fun s29 j24 hj24 => ?_) 4294967296 ((0 : Int32), M5))
  · refine x_iload_n dX0_init_24 rfl ?_
    refine x_bipush (v := 8) dX0_init_25 (by decide) ?_
    refine x_icmp_ge (tgt := 76) dX0_init_27 (by decide) (fun _ => ?_) (fun _ => ?_)
    · exact x_weak (by exact ⟨rfl, ⟨rfl, ⟨rfl, trivial⟩⟩⟩) (hj76 s29.2)
    · refine x_aload_n dX0_init_30 rfl ?_
      refine gfX0_9 rfl dX0_init_31 (fun x30 => ?_)
      refine x_iload_n dX0_init_34 rfl ?_
      refine x_iload_n dX0_init_35 rfl ?_
      refine x_aload_n dX0_init_36 rfl ?_
      refine gfX0_22 rfl dX0_init_37 (fun x31 => ?_)
      refine cmX0_28 rfl hs (Nat.le_of_ble_eq_true rfl) dX0_init_40 (fun x33 M32 => ?_)
      refine x_jn (σ := Int32 × Mem) 69 (fun s34 => [some (va_rf a0), some (va_rf a1), some (va_rf a2), some (.int s29.1), none, none]) (fun s34 => [.int s34.1, .int s29.1, va_rf x30]) (fun s34 => s34.2) (fun s34 => ?_) (fun j69 hj69 => ?_)
      · refine x_iast dX0_init_69 (fun M35 => ?_)
        refine x_iincN (v := 1) (lo' := fun x36 => [some (va_rf a0), some (va_rf a1), some (va_rf a2), some (.int x36), none, none]) (by decide) dX0_init_70 rfl (by decide) (xok_r rfl) (fun _ => rfl) (fun x36 => ?_)
        refine x_goto (tgt := 24) dX0_init_73 (by decide) ?_
        exact x_weak (by exact ⟨rfl, ⟨rfl, ⟨rfl, ⟨rfl, trivial⟩⟩⟩⟩) (hj24 (x36, M35))
      refine x_icmp_ge (tgt := 67) dX0_init_43 (by decide) (fun _ => ?_) (fun _ => ?_)
      · refine x_bipush (v := -2) dX0_init_67 (by decide) ?_
        exact x_weak (by exact ⟨rfl, ⟨rfl, ⟨rfl, ⟨rfl, trivial⟩⟩⟩⟩) (hj69 ((-2 : Int32), M32))
      · refine x_aload_n dX0_init_46 rfl ?_
        refine x_aload_n dX0_init_47 rfl ?_
        refine gfX0_22 rfl dX0_init_48 (fun x37 => ?_)
        refine x_iload_n dX0_init_51 rfl ?_
        refine cmX0_34 rfl hs (Nat.le_of_ble_eq_true rfl) dX0_init_52 (fun x39 M38 => ?_)
        refine ccX0_38 rfl dX0_init_55 ?_
        refine gfX0_40 rfl dX0_init_58 (fun x40 => ?_)
        refine cmX0_44 rfl hs (Nat.le_of_ble_eq_true rfl) dX0_init_61 (fun x42 M41 => ?_)
        refine x_goto (tgt := 69) dX0_init_64 (by decide) ?_
        exact x_weak (by exact ⟨rfl, ⟨rfl, ⟨rfl, ⟨rfl, trivial⟩⟩⟩⟩) (hj69 (x42, M41))
theorem s0 {l : Launch} {d : Nat} {rec : Nat → List Value → Mem → XA} (hS : Nonempty XS) (hs : XSnd l xmt rec d) : Snd1 l 0 (b0 rec) d := by
  intro as M r M' h0
  unfold b0 at h0
  obtain ⟨a0, l1, e1, h1⟩ := aR_inv h0
  obtain ⟨a1, l2, e2, h2⟩ := aR_inv h1
  obtain ⟨a2, l3, e3, h3⟩ := aR_inv h2
  obtain ⟨ez, h⟩ := aZ_inv h3
  subst ez
  subst e3
  subst e2
  subst e1
  exact xmet (M := M) (as := [va_rf a0, va_rf a1, va_rf a2]) (lo := [some (va_rf a0), some (va_rf a1), some (va_rf a2)]) 0 xq0 xm0 (by rw [xargs_rf, xargs_rf, xargs_rf, xargs_nil]; exact ⟨rfl, ⟨rfl, ⟨rfl, trivial⟩⟩⟩) (by rw [xargs_rf, xargs_rf, xargs_rf, xargs_nil]; exact Nat.le_of_ble_eq_true rfl) (fun S G K => x_weak (by exact ⟨rfl, ⟨rfl, ⟨rfl, trivial⟩⟩⟩) (k0 hs a0 a1 a2 M)) h hS
set_option maxRecDepth 100000 in
def c1_2 (rec : Nat → List Value → Mem → XA) (a0 : Option Nat) (a1 : Int64) (j32 : Int32 × Mem → XA) (j40 : Mem → XA) : (Int32 × Mem) → ((Int32 × Mem) → XA) → XA := fun s3 j2 =>
  gtP (6, 18) s3.2 a0 1 fun x4 =>
  vC (0, 3) s3.2 x4 <|
  cI (rec 346 [va_rf x4] s3.2) fun x6 M5 =>
  if x6 ≤ s3.1 then (
    j40 M5) else (
    gtP (6, 18) M5 a0 1 fun x7 =>
    vC (0, 3) M5 x7 <|
    cP (rec 348 [va_rf x7, .int s3.1] M5) fun x9 M8 =>
    cst (11, 10) M8 x9 <|
    gtL (11, 10) M8 x9 0 fun x10 =>
    if (lg_cmp x10 a1) = 0 then (
      j32 (s3.1, M8)) else (
      lt (s3.1 + (1 : Int32)) fun (x11 : Int32) =>
      j2 (x11, M8)))
set_option maxRecDepth 100000 in
def c1 (rec : Nat → List Value → Mem → XA) (a0 : Option Nat) (a1 : Int64) (M0 : Mem) : XA :=
  jn (fun (s1 : Int32 × Mem) =>
    some (.int s1.1, s1.2)) fun j32 =>
  jn (fun (s2 : Mem) =>
    some (.int ((-2 : Int32)), s2)) fun j40 =>
  lp (c1_2 rec a0 a1 j32 j40) 4294967296 ((0 : Int32), M0)
def b1 (rec : Nat → List Value → Mem → XA) (as : List Value) (M0 : Mem) : XA := aR as fun a0 as => aL as fun a1 as => aZ as (c1 rec a0 a1 M0)
set_option maxRecDepth 100000 in
set_option maxHeartbeats 4000000 in
theorem k1 {S : XS} {G : XG} {K : Nat × Nat} {l : Launch} {d : Nat} {rec : Nat → List Value → Mem → XA} (hs : XSnd l xmt rec d) (a0 : Option Nat) (a1 : Int64) (M0 : Mem) : Xe S G K l (yX0_unitNamed, cX0_unitNamed, 4, some .int) d 0 [some (va_rf a0), some (.long a1), none, none] [] M0 (c1 rec a0 a1 M0) := by
  unfold c1
  refine x_iconst (v := 0) dX0_unitNamed_0 (by decide) ?_
  refine x_istore_n (lo' := [some (va_rf a0), some (.long a1), none, some (.int ((0 : Int32)))]) dX0_unitNamed_1 (by decide) rfl rfl ?_
  refine x_jn (σ := Int32 × Mem) 32 (fun s1 => [none, none, none, some (.int s1.1)]) (fun s1 => []) (fun s1 => s1.2) (fun s1 => ?_) (fun j32 hj32 => ?_)
  · refine x_iload_n dX0_unitNamed_32 rfl ?_
    exact x_iret rfl dX0_unitNamed_33
  refine x_jn (σ := Mem) 40 (fun s2 => [none, none, none, none]) (fun s2 => []) (fun s2 => s2) (fun s2 => ?_) (fun j40 hj40 => ?_)
  · refine x_bipush (v := -2) dX0_unitNamed_40 (by decide) ?_
    exact x_iret rfl dX0_unitNamed_42
  refine x_weak (by exact ⟨rfl, ⟨rfl, ⟨rfl, trivial⟩⟩⟩) (x_lp (σ := Int32 × Mem) 2 (fun s3 => [some (va_rf a0), some (.long a1), none, some (.int s3.1)]) (fun s3 => []) (fun s3 => s3.2) (fun s3 j2 hj2 => ?_) 4294967296 ((0 : Int32), M0))
  · refine x_iload_n dX0_unitNamed_2 rfl ?_
    refine x_aload_n dX0_unitNamed_3 rfl ?_
    refine gfX0_22 rfl dX0_unitNamed_4 (fun x4 => ?_)
    refine cmX0_28 rfl hs (Nat.le_of_ble_eq_true rfl) dX0_unitNamed_7 (fun x6 M5 => ?_)
    refine x_icmp_ge (tgt := 40) dX0_unitNamed_10 (by decide) (fun _ => ?_) (fun _ => ?_)
    · exact x_weak (by exact trivial) (hj40 M5)
    · refine x_aload_n dX0_unitNamed_13 rfl ?_
      refine gfX0_22 rfl dX0_unitNamed_14 (fun x7 => ?_)
      refine x_iload_n dX0_unitNamed_17 rfl ?_
      refine cmX0_34 rfl hs (Nat.le_of_ble_eq_true rfl) dX0_unitNamed_18 (fun x9 M8 => ?_)
      refine ccX0_38 rfl dX0_unitNamed_21 ?_
      refine gfX0_40 rfl dX0_unitNamed_24 (fun x10 => ?_)
      refine x_lload_n dX0_unitNamed_27 rfl ?_
      refine x_lcmp dX0_unitNamed_28 ?_
      refine x_if_ne (tgt := 34) dX0_unitNamed_29 (by decide) (fun _ => ?_) (fun _ => ?_)
      · exact x_weak (by exact ⟨rfl, trivial⟩) (hj32 (s3.1, M8))
      · refine x_iincN (v := 1) (lo' := fun x11 => [some (va_rf a0), some (.long a1), none, some (.int x11)]) (by decide) dX0_unitNamed_34 rfl (by decide) rfl (fun _ => rfl) (fun x11 => ?_)
        refine x_goto (tgt := 2) dX0_unitNamed_37 (by decide) ?_
        exact x_weak (by exact ⟨rfl, ⟨rfl, ⟨rfl, trivial⟩⟩⟩) (hj2 (x11, M8))
theorem s1 {l : Launch} {d : Nat} {rec : Nat → List Value → Mem → XA} (hS : Nonempty XS) (hs : XSnd l xmt rec d) : Snd1 l 1 (b1 rec) d := by
  intro as M r M' h0
  unfold b1 at h0
  obtain ⟨a0, l1, e1, h1⟩ := aR_inv h0
  obtain ⟨a1, l2, e2, h2⟩ := aL_inv h1
  obtain ⟨ez, h⟩ := aZ_inv h2
  subst ez
  subst e2
  subst e1
  exact xmet (M := M) (as := [va_rf a0, .long a1]) (lo := [some (va_rf a0), some (.long a1)]) 1 xq1 xm1 (by rw [xargs_rf, xargs_l, xargs_nil]; exact ⟨rfl, ⟨rfl, trivial⟩⟩) (by rw [xargs_rf, xargs_l, xargs_nil]; exact Nat.le_of_ble_eq_true rfl) (fun S G K => x_weak (by exact ⟨rfl, ⟨rfl, trivial⟩⟩) (k1 hs a0 a1 M)) h hS
set_option maxRecDepth 100000 in
def c2_18 (rec : Nat → List Value → Mem → XA) (a0 : Option Nat) (a2 : Option Nat) (j54 : Int32 × Option Nat × Mem → XA) (j131 : Mem → XA) (x3 : Option Nat) : (Int32 × Mem) → ((Int32 × Mem) → XA) → XA := fun s16 j18 =>
  gtI (11, 10) s16.2 x3 2 fun x17 =>
  if x17 ≤ s16.1 then (
    j131 s16.2) else (
    gtP (6, 18) s16.2 a0 2 fun x18 =>
    vC (0, 3) s16.2 x18 <|
    cP (rec 348 [va_rf x18, .int s16.1] s16.2) fun x20 M19 =>
    cst (8, 9) M19 x20 <|
    gtL (8, 9) M19 x20 0 fun x21 =>
    gtL (8, 9) M19 a2 0 fun x22 =>
    if (lg_cmp x21 x22) = 0 then (
      j54 (s16.1, x20, M19)) else (
      lt (s16.1 + (1 : Int32)) fun (x23 : Int32) =>
      j18 (x23, M19)))
set_option maxRecDepth 100000 in
def c2 (rec : Nat → List Value → Mem → XA) (a0 : Option Nat) (a1 : Int32) (a2 : Option Nat) (M0 : Mem) : XA :=
  gtP (6, 18) M0 a0 1 fun x1 =>
  vC (0, 3) M0 x1 <|
  cP (rec 348 [va_rf x1, .int a1] M0) fun x3 M2 =>
  cst (11, 10) M2 x3 <|
  gtI (11, 10) M2 x3 1 fun x4 =>
  jn (fun (s5 : Int32 × Option Nat × Mem) =>
    gtI (8, 9) s5.2.2 s5.2.1 2 fun x6 =>
    jn (fun (s7 : Int32) =>
      gtI (8, 9) s5.2.2 s5.2.1 2 fun x8 =>
      gtI (8, 9) s5.2.2 a2 2 fun x9 =>
      jn (fun (s10 : Int32) =>
        some (.int s10, s5.2.2)) fun j124 =>
      if x8 = x9 then (
        gtI (8, 9) s5.2.2 s5.2.1 3 fun x11 =>
        if x11 = 0 then (
          if s7 = 0 then (
            j124 ((-13 : Int32))) else (
            j124 s5.1)) else (
          j124 ((-12 : Int32)))) else (
        j124 ((-11 : Int32)))) fun j80 =>
    jn (fun (s12 : Unit) =>
      j80 ((1 : Int32))) fun j75 =>
    if x6 = ((4 : Int32)) then (
      gtI (8, 9) s5.2.2 s5.2.1 4 fun x13 =>
      gtI (8, 9) s5.2.2 a2 4 fun x14 =>
      if x13 = x14 then (
        j75 ()) else (
        j80 ((0 : Int32)))) else (
      j75 ())) fun j54 =>
  jn (fun (s15 : Mem) =>
    some (.int ((-10 : Int32)), s15)) fun j131 =>
  lp (c2_18 rec a0 a2 j54 j131 x3) 4294967296 (x4, M2)
def b2 (rec : Nat → List Value → Mem → XA) (as : List Value) (M0 : Mem) : XA := aR as fun a0 as => aI as fun a1 as => aR as fun a2 as => aZ as (c2 rec a0 a1 a2 M0)
set_option maxRecDepth 100000 in
set_option maxHeartbeats 4000000 in
theorem k2 {S : XS} {G : XG} {K : Nat × Nat} {l : Launch} {d : Nat} {rec : Nat → List Value → Mem → XA} (hs : XSnd l xmt rec d) (a0 : Option Nat) (a1 : Int32) (a2 : Option Nat) (M0 : Mem) : Xe S G K l (yX0_linkTo, cX0_linkTo, 7, some .int) d 0 [some (va_rf a0), some (.int a1), some (va_rf a2), none, none, none, none] [] M0 (c2 rec a0 a1 a2 M0) := by
  unfold c2
  refine x_aload_n dX0_linkTo_0 rfl ?_
  refine gfX0_22 rfl dX0_linkTo_1 (fun x1 => ?_)
  refine x_iload_n dX0_linkTo_4 rfl ?_
  refine cmX0_34 rfl hs (Nat.le_of_ble_eq_true rfl) dX0_linkTo_5 (fun x3 M2 => ?_)
  refine ccX0_38 rfl dX0_linkTo_8 ?_
  refine x_astore_n (lo' := [some (va_rf a0), some (.int a1), some (va_rf a2), some (va_rf x3), none, none, none]) dX0_linkTo_11 (by decide) (xok_r rfl) rfl ?_
  refine x_aload_n dX0_linkTo_12 rfl ?_
  refine gfX0_64 rfl dX0_linkTo_13 (fun x4 => ?_)
  refine x_istore (lo' := [some (va_rf a0), some (.int a1), some (va_rf a2), some (va_rf x3), some (.int x4), none, none]) dX0_linkTo_16 (by decide) (xok_r rfl) rfl ?_
  refine x_jn (σ := Int32 × Option Nat × Mem) 54 (fun s5 => [none, none, some (va_rf a2), none, some (.int s5.1), some (va_rf s5.2.1), none]) (fun s5 => []) (fun s5 => s5.2.2) (fun s5 => ?_) (fun j54 hj54 => ?_)
  · refine x_aload dX0_linkTo_54 rfl ?_
    refine gfX0_71 rfl dX0_linkTo_56 (fun x6 => ?_)
    refine x_iconst (v := 4) dX0_linkTo_59 (by decide) ?_
    refine x_jn (σ := Int32) 80 (fun s7 => [none, none, some (va_rf a2), none, some (.int s5.1), some (va_rf s5.2.1), none]) (fun s7 => [.int s7]) (fun s7 => s5.2.2) (fun s7 => ?_) (fun j80 hj80 => ?_)
    · refine x_istore (lo' := [none, none, some (va_rf a2), none, some (.int s5.1), some (va_rf s5.2.1), some (.int s7)]) dX0_linkTo_80 (by decide) (xok_r rfl) rfl ?_
      refine x_aload dX0_linkTo_82 rfl ?_
      refine gfX0_71 rfl dX0_linkTo_84 (fun x8 => ?_)
      refine x_aload_n dX0_linkTo_87 rfl ?_
      refine gfX0_71 rfl dX0_linkTo_88 (fun x9 => ?_)
      refine x_jn (σ := Int32) 124 (fun s10 => [none, none, none, none, none, none, none]) (fun s10 => [.int s10]) (fun s10 => s5.2.2) (fun s10 => ?_) (fun j124 hj124 => ?_)
      · exact x_iret rfl dX0_linkTo_124
      refine x_icmp_eq (tgt := 99) dX0_linkTo_91 (by decide) (fun _ => ?_) (fun _ => ?_)
      · refine x_aload dX0_linkTo_99 rfl ?_
        refine gfX0_77 rfl dX0_linkTo_101 (fun x11 => ?_)
        refine x_if_eq (tgt := 112) dX0_linkTo_104 (by decide) (fun _ => ?_) (fun _ => ?_)
        · refine x_iload dX0_linkTo_112 rfl ?_
          refine x_if_eq (tgt := 122) dX0_linkTo_114 (by decide) (fun _ => ?_) (fun _ => ?_)
          · refine x_bipush (v := -13) dX0_linkTo_122 (by decide) ?_
            exact x_weak (by exact trivial) (hj124 ((-13 : Int32)))
          · refine x_iload dX0_linkTo_117 rfl ?_
            refine x_goto (tgt := 124) dX0_linkTo_119 (by decide) ?_
            exact x_weak (by exact trivial) (hj124 s5.1)
        · refine x_bipush (v := -12) dX0_linkTo_107 (by decide) ?_
          refine x_goto (tgt := 124) dX0_linkTo_109 (by decide) ?_
          exact x_weak (by exact trivial) (hj124 ((-12 : Int32)))
      · refine x_bipush (v := -11) dX0_linkTo_94 (by decide) ?_
        refine x_goto (tgt := 124) dX0_linkTo_96 (by decide) ?_
        exact x_weak (by exact trivial) (hj124 ((-11 : Int32)))
    refine x_jn (σ := Unit) 75 (fun s12 => [none, none, some (va_rf a2), none, some (.int s5.1), some (va_rf s5.2.1), none]) (fun s12 => []) (fun s12 => s5.2.2) (fun s12 => ?_) (fun j75 hj75 => ?_)
    · refine x_iconst (v := 1) dX0_linkTo_75 (by decide) ?_
      refine x_goto (tgt := 80) dX0_linkTo_76 (by decide) ?_
      exact x_weak (by exact ⟨rfl, ⟨rfl, ⟨rfl, trivial⟩⟩⟩) (hj80 ((1 : Int32)))
    refine x_icmp_ne (tgt := 75) dX0_linkTo_60 (by decide) (fun _ => ?_) (fun _ => ?_)
    · refine x_aload dX0_linkTo_63 rfl ?_
      refine gfX0_74 rfl dX0_linkTo_65 (fun x13 => ?_)
      refine x_aload_n dX0_linkTo_68 rfl ?_
      refine gfX0_74 rfl dX0_linkTo_69 (fun x14 => ?_)
      refine x_icmp_ne (tgt := 79) dX0_linkTo_72 (by decide) (fun _ => ?_) (fun _ => ?_)
      · exact x_weak (by exact ⟨rfl, ⟨rfl, ⟨rfl, trivial⟩⟩⟩) (hj75 ())
      · refine x_iconst (v := 0) dX0_linkTo_79 (by decide) ?_
        exact x_weak (by exact ⟨rfl, ⟨rfl, ⟨rfl, trivial⟩⟩⟩) (hj80 ((0 : Int32)))
    · exact x_weak (by exact ⟨rfl, ⟨rfl, ⟨rfl, trivial⟩⟩⟩) (hj75 ())
  refine x_jn (σ := Mem) 131 (fun s15 => [none, none, none, none, none, none, none]) (fun s15 => []) (fun s15 => s15) (fun s15 => ?_) (fun j131 hj131 => ?_)
  · refine x_bipush (v := -10) dX0_linkTo_131 (by decide) ?_
    exact x_iret rfl dX0_linkTo_133
  refine x_weak (by exact ⟨rfl, ⟨rfl, ⟨rfl, ⟨rfl, trivial⟩⟩⟩⟩) (x_lp (σ := Int32 × Mem) 18 (fun s16 => [some (va_rf a0), none, some (va_rf a2), some (va_rf x3), some (.int s16.1), none, none]) (fun s16 => []) (fun s16 => s16.2) (fun s16 j18 hj18 => ?_) 4294967296 (x4, M2))
  · refine x_iload dX0_linkTo_18 rfl ?_
    refine x_aload_n dX0_linkTo_20 rfl ?_
    refine gfX0_67 rfl dX0_linkTo_21 (fun x17 => ?_)
    refine x_icmp_ge (tgt := 131) dX0_linkTo_24 (by decide) (fun _ => ?_) (fun _ => ?_)
    · exact x_weak (by exact trivial) (hj131 s16.2)
    · refine x_aload_n dX0_linkTo_27 rfl ?_
      refine gfX0_48 rfl dX0_linkTo_28 (fun x18 => ?_)
      refine x_iload dX0_linkTo_31 rfl ?_
      refine cmX0_34 rfl hs (Nat.le_of_ble_eq_true rfl) dX0_linkTo_33 (fun x20 M19 => ?_)
      refine ccX0_54 rfl dX0_linkTo_36 ?_
      refine x_astore (lo' := [some (va_rf a0), none, some (va_rf a2), some (va_rf x3), some (.int s16.1), some (va_rf x20), none]) dX0_linkTo_39 (by decide) rfl rfl ?_
      refine x_aload dX0_linkTo_41 rfl ?_
      refine gfX0_70 rfl dX0_linkTo_43 (fun x21 => ?_)
      refine x_aload_n dX0_linkTo_46 rfl ?_
      refine gfX0_70 rfl dX0_linkTo_47 (fun x22 => ?_)
      refine x_lcmp dX0_linkTo_50 ?_
      refine x_if_ne (tgt := 125) dX0_linkTo_51 (by decide) (fun _ => ?_) (fun _ => ?_)
      · exact x_weak (by exact ⟨rfl, ⟨rfl, ⟨rfl, trivial⟩⟩⟩) (hj54 (s16.1, x20, M19))
      · refine x_iincN (v := 1) (lo' := fun x23 => [some (va_rf a0), none, some (va_rf a2), some (va_rf x3), some (.int x23), some (va_rf x20), none]) (by decide) dX0_linkTo_125 rfl (by decide) (xok_r rfl) (fun _ => rfl) (fun x23 => ?_)
        refine x_goto (tgt := 18) dX0_linkTo_128 (by decide) ?_
        exact x_weak (by exact ⟨rfl, ⟨rfl, ⟨rfl, ⟨rfl, trivial⟩⟩⟩⟩) (hj18 (x23, M19))
theorem s2 {l : Launch} {d : Nat} {rec : Nat → List Value → Mem → XA} (hS : Nonempty XS) (hs : XSnd l xmt rec d) : Snd1 l 2 (b2 rec) d := by
  intro as M r M' h0
  unfold b2 at h0
  obtain ⟨a0, l1, e1, h1⟩ := aR_inv h0
  obtain ⟨a1, l2, e2, h2⟩ := aI_inv h1
  obtain ⟨a2, l3, e3, h3⟩ := aR_inv h2
  obtain ⟨ez, h⟩ := aZ_inv h3
  subst ez
  subst e3
  subst e2
  subst e1
  exact xmet (M := M) (as := [va_rf a0, .int a1, va_rf a2]) (lo := [some (va_rf a0), some (.int a1), some (va_rf a2)]) 2 xq2 xm2 (by rw [xargs_rf, xargs_i, xargs_rf, xargs_nil]; exact ⟨rfl, ⟨rfl, ⟨rfl, trivial⟩⟩⟩) (by rw [xargs_rf, xargs_i, xargs_rf, xargs_nil]; exact Nat.le_of_ble_eq_true rfl) (fun S G K => x_weak (by exact ⟨rfl, ⟨rfl, ⟨rfl, trivial⟩⟩⟩) (k2 hs a0 a1 a2 M)) h hS
set_option maxRecDepth 100000 in
def c3 (rec : Nat → List Value → Mem → XA) (a0 : Option Nat) (a1 : Int32) (M0 : Mem) : XA :=
  jn (fun (s1 : Int32) =>
    rtZ s1 M0) fun j24 =>
  jn (fun (s2 : Unit) =>
    j24 ((0 : Int32))) fun j23 =>
  if a1 < 0 then (
    j23 ()) else (
    if ((8 : Int32)) ≤ a1 then (
      j23 ()) else (
      gtP (1, 4) M0 a0 2 fun x3 =>
      alI 100 M0 x3 a1 fun x4 =>
      if x4 < 0 then (
        j23 ()) else (
        j24 ((1 : Int32)))))
def b3 (rec : Nat → List Value → Mem → XA) (as : List Value) (M0 : Mem) : XA := aR as fun a0 as => aI as fun a1 as => aZ as (c3 rec a0 a1 M0)
set_option maxRecDepth 100000 in
set_option maxHeartbeats 4000000 in
theorem k3 {S : XS} {G : XG} {K : Nat × Nat} {l : Launch} {d : Nat} {rec : Nat → List Value → Mem → XA} (hs : XSnd l xmt rec d) (a0 : Option Nat) (a1 : Int32) (M0 : Mem) : Xe S G K l (yX0_isReplaced, cX0_isReplaced, 2, some .boolean) d 0 [some (va_rf a0), some (.int a1)] [] M0 (c3 rec a0 a1 M0) := by
  unfold c3
  refine x_iload_n dX0_isReplaced_0 rfl ?_
  refine x_jn (σ := Int32) 24 (fun s1 => [none, none]) (fun s1 => [.int s1]) (fun s1 => M0) (fun s1 => ?_) (fun j24 hj24 => ?_)
  · exact x_zret rfl dX0_isReplaced_24
  refine x_jn (σ := Unit) 23 (fun s2 => [none, none]) (fun s2 => []) (fun s2 => M0) (fun s2 => ?_) (fun j23 hj23 => ?_)
  · refine x_iconst (v := 0) dX0_isReplaced_23 (by decide) ?_
    exact x_weak (by exact trivial) (hj24 ((0 : Int32)))
  refine x_if_lt (tgt := 23) dX0_isReplaced_1 (by decide) (fun _ => ?_) (fun _ => ?_)
  · exact x_weak (by exact trivial) (hj23 ())
  · refine x_iload_n dX0_isReplaced_4 rfl ?_
    refine x_bipush (v := 8) dX0_isReplaced_5 (by decide) ?_
    refine x_icmp_ge (tgt := 23) dX0_isReplaced_7 (by decide) (fun _ => ?_) (fun _ => ?_)
    · exact x_weak (by exact trivial) (hj23 ())
    · refine x_aload_n dX0_isReplaced_10 rfl ?_
      refine gfX0_9 rfl dX0_isReplaced_11 (fun x3 => ?_)
      refine x_iload_n dX0_isReplaced_14 rfl ?_
      refine x_iald dX0_isReplaced_15 (fun x4 => ?_)
      refine x_if_lt (tgt := 23) dX0_isReplaced_16 (by decide) (fun _ => ?_) (fun _ => ?_)
      · exact x_weak (by exact trivial) (hj23 ())
      · refine x_iconst (v := 1) dX0_isReplaced_19 (by decide) ?_
        refine x_goto (tgt := 24) dX0_isReplaced_20 (by decide) ?_
        exact x_weak (by exact trivial) (hj24 ((1 : Int32)))
theorem s3 {l : Launch} {d : Nat} {rec : Nat → List Value → Mem → XA} (hS : Nonempty XS) (hs : XSnd l xmt rec d) : Snd1 l 3 (b3 rec) d := by
  intro as M r M' h0
  unfold b3 at h0
  obtain ⟨a0, l1, e1, h1⟩ := aR_inv h0
  obtain ⟨a1, l2, e2, h2⟩ := aI_inv h1
  obtain ⟨ez, h⟩ := aZ_inv h2
  subst ez
  subst e2
  subst e1
  exact xmet (M := M) (as := [va_rf a0, .int a1]) (lo := [some (va_rf a0), some (.int a1)]) 3 xq3 xm3 (by rw [xargs_rf, xargs_i, xargs_nil]; exact ⟨rfl, ⟨rfl, trivial⟩⟩) (by rw [xargs_rf, xargs_i, xargs_nil]; exact Nat.le_of_ble_eq_true rfl) (fun S G K => x_weak (by exact ⟨rfl, ⟨rfl, trivial⟩⟩) (k3 hs a0 a1 M)) h hS
set_option maxRecDepth 100000 in
def c4 (rec : Nat → List Value → Mem → XA) (a0 : Option Nat) (a1 : Int32) (M0 : Mem) : XA :=
  jn (fun (s1 : Int32) =>
    some (.int s1, M0)) fun j24 =>
  jn (fun (s2 : Unit) =>
    j24 ((-2 : Int32))) fun j13 =>
  if a1 < 0 then (
    j13 ()) else (
    gtP (1, 4) M0 a0 3 fun x3 =>
    aln M0 x3 fun x4 =>
    if a1 < x4 then (
      gtP (1, 4) M0 a0 3 fun x5 =>
      alI 100 M0 x5 a1 fun x6 =>
      j24 x6) else (
      j13 ()))
def b4 (rec : Nat → List Value → Mem → XA) (as : List Value) (M0 : Mem) : XA := aR as fun a0 as => aI as fun a1 as => aZ as (c4 rec a0 a1 M0)
set_option maxRecDepth 100000 in
set_option maxHeartbeats 4000000 in
theorem k4 {S : XS} {G : XG} {K : Nat × Nat} {l : Launch} {d : Nat} {rec : Nat → List Value → Mem → XA} (hs : XSnd l xmt rec d) (a0 : Option Nat) (a1 : Int32) (M0 : Mem) : Xe S G K l (yX0_linkOf, cX0_linkOf, 2, some .int) d 0 [some (va_rf a0), some (.int a1)] [] M0 (c4 rec a0 a1 M0) := by
  unfold c4
  refine x_iload_n dX0_linkOf_0 rfl ?_
  refine x_jn (σ := Int32) 24 (fun s1 => [none, none]) (fun s1 => [.int s1]) (fun s1 => M0) (fun s1 => ?_) (fun j24 hj24 => ?_)
  · exact x_iret rfl dX0_linkOf_24
  refine x_jn (σ := Unit) 13 (fun s2 => [none, none]) (fun s2 => []) (fun s2 => M0) (fun s2 => ?_) (fun j13 hj13 => ?_)
  · refine x_bipush (v := -2) dX0_linkOf_13 (by decide) ?_
    refine x_goto (tgt := 24) dX0_linkOf_15 (by decide) ?_
    exact x_weak (by exact trivial) (hj24 ((-2 : Int32)))
  refine x_if_lt (tgt := 13) dX0_linkOf_1 (by decide) (fun _ => ?_) (fun _ => ?_)
  · exact x_weak (by exact trivial) (hj13 ())
  · refine x_iload_n dX0_linkOf_4 rfl ?_
    refine x_aload_n dX0_linkOf_5 rfl ?_
    refine gfX0_51 rfl dX0_linkOf_6 (fun x3 => ?_)
    refine x_alen dX0_linkOf_9 (fun x4 => ?_)
    refine x_icmp_lt (tgt := 18) dX0_linkOf_10 (by decide) (fun _ => ?_) (fun _ => ?_)
    · refine x_aload_n dX0_linkOf_18 rfl ?_
      refine gfX0_51 rfl dX0_linkOf_19 (fun x5 => ?_)
      refine x_iload_n dX0_linkOf_22 rfl ?_
      refine x_iald dX0_linkOf_23 (fun x6 => ?_)
      exact x_weak (by exact trivial) (hj24 x6)
    · exact x_weak (by exact trivial) (hj13 ())
theorem s4 {l : Launch} {d : Nat} {rec : Nat → List Value → Mem → XA} (hS : Nonempty XS) (hs : XSnd l xmt rec d) : Snd1 l 4 (b4 rec) d := by
  intro as M r M' h0
  unfold b4 at h0
  obtain ⟨a0, l1, e1, h1⟩ := aR_inv h0
  obtain ⟨a1, l2, e2, h2⟩ := aI_inv h1
  obtain ⟨ez, h⟩ := aZ_inv h2
  subst ez
  subst e2
  subst e1
  exact xmet (M := M) (as := [va_rf a0, .int a1]) (lo := [some (va_rf a0), some (.int a1)]) 4 xq4 xm4 (by rw [xargs_rf, xargs_i, xargs_nil]; exact ⟨rfl, ⟨rfl, trivial⟩⟩) (by rw [xargs_rf, xargs_i, xargs_nil]; exact Nat.le_of_ble_eq_true rfl) (fun S G K => x_weak (by exact ⟨rfl, ⟨rfl, trivial⟩⟩) (k4 hs a0 a1 M)) h hS
set_option maxRecDepth 100000 in
def c5 (rec : Nat → List Value → Mem → XA) (a0 : Option Nat) (a1 : Int32) (M0 : Mem) : XA :=
  nn a0 <|
  nA 100 M0 ((8 : Int32)) fun x1 M2 =>
  ptP (2, 7) M2 a0 0 x1 fun M3 =>
  nAA 113 100 M3 ((5 : Int32)) ((8 : Int32)) fun x4 M5 =>
  ptP (2, 7) M5 a0 3 x4 fun M6 =>
  nA 100 M6 ((8 : Int32)) fun x7 M8 =>
  ptP (2, 7) M8 a0 4 x7 fun M9 =>
  ptI (2, 7) M9 a0 2 a1 fun M10 =>
  some (.null, M10)
def b5 (rec : Nat → List Value → Mem → XA) (as : List Value) (M0 : Mem) : XA := aR as fun a0 as => aI as fun a1 as => aZ as (c5 rec a0 a1 M0)
set_option maxRecDepth 100000 in
set_option maxHeartbeats 4000000 in
theorem k5 {S : XS} {G : XG} {K : Nat × Nat} {l : Launch} {d : Nat} {rec : Nat → List Value → Mem → XA} (hs : XSnd l xmt rec d) (a0 : Option Nat) (a1 : Int32) (M0 : Mem) : Xe S G K l (yX1_init, cX1_init, 2, none) d 0 [some (va_rf a0), some (.int a1)] [] M0 (c5 rec a0 a1 M0) := by
  unfold c5
  refine x_aload_n dX1_init_0 rfl ?_
  refine xoiX1 rfl (Nat.le_of_ble_eq_true rfl) dX1_init_1 ?_
  refine x_aload_n dX1_init_4 rfl ?_
  refine x_bipush (v := 8) dX1_init_5 (by decide) ?_
  refine x_newa100 dX1_init_7 (fun x1 M2 => ?_)
  refine pfX1_9 rfl rfl dX1_init_9 (fun M3 => ?_)
  refine x_aload_n dX1_init_12 rfl ?_
  refine x_iconst (v := 5) dX1_init_13 (by decide) ?_
  refine x_bipush (v := 8) dX1_init_14 (by decide) ?_
  refine x_mna113 lk_classLink_X1_15 dX1_init_16 (fun x4 M5 => ?_)
  refine pfX1_17 rfl rfl dX1_init_20 (fun M6 => ?_)
  refine x_aload_n dX1_init_23 rfl ?_
  refine x_bipush (v := 8) dX1_init_24 (by decide) ?_
  refine x_newa100 dX1_init_26 (fun x7 M8 => ?_)
  refine pfX1_20 rfl rfl dX1_init_28 (fun M9 => ?_)
  refine x_aload_n dX1_init_31 rfl ?_
  refine x_iload_n dX1_init_32 rfl ?_
  refine pfX1_23 rfl rfl dX1_init_33 (fun M10 => ?_)
  exact x_vret rfl dX1_init_36
theorem s5 {l : Launch} {d : Nat} {rec : Nat → List Value → Mem → XA} (hS : Nonempty XS) (hs : XSnd l xmt rec d) : Snd1 l 5 (b5 rec) d := by
  intro as M r M' h0
  unfold b5 at h0
  obtain ⟨a0, l1, e1, h1⟩ := aR_inv h0
  obtain ⟨a1, l2, e2, h2⟩ := aI_inv h1
  obtain ⟨ez, h⟩ := aZ_inv h2
  subst ez
  subst e2
  subst e1
  exact xmet (M := M) (as := [va_rf a0, .int a1]) (lo := [some (va_rf a0), some (.int a1)]) 5 xq5 xm5 (by rw [xargs_rf, xargs_i, xargs_nil]; exact ⟨rfl, ⟨rfl, trivial⟩⟩) (by rw [xargs_rf, xargs_i, xargs_nil]; exact Nat.le_of_ble_eq_true rfl) (fun S G K => x_weak (by exact ⟨rfl, ⟨rfl, trivial⟩⟩) (k5 hs a0 a1 M)) h hS
set_option maxRecDepth 100000 in
def c6 (rec : Nat → List Value → Mem → XA) (a0 : Option Nat) (a1 : Int32) (a2 : Int32) (a3 : Int32) (a4 : Int32) (a5 : Int32) (M0 : Mem) : XA :=
  gtP (2, 7) M0 a0 3 fun x1 =>
  alP 113 M0 x1 ((0 : Int32)) fun x2 =>
  gtI (2, 7) M0 a0 1 fun x3 =>
  asI 100 M0 x2 x3 a1 fun M4 =>
  gtP (2, 7) M4 a0 3 fun x5 =>
  alP 113 M4 x5 ((1 : Int32)) fun x6 =>
  gtI (2, 7) M4 a0 1 fun x7 =>
  asI 100 M4 x6 x7 a2 fun M8 =>
  gtP (2, 7) M8 a0 3 fun x9 =>
  alP 113 M8 x9 ((2 : Int32)) fun x10 =>
  gtI (2, 7) M8 a0 1 fun x11 =>
  asI 100 M8 x10 x11 a3 fun M12 =>
  gtP (2, 7) M12 a0 3 fun x13 =>
  alP 113 M12 x13 ((3 : Int32)) fun x14 =>
  gtI (2, 7) M12 a0 1 fun x15 =>
  asI 100 M12 x14 x15 a4 fun M16 =>
  gtP (2, 7) M16 a0 3 fun x17 =>
  alP 113 M16 x17 ((4 : Int32)) fun x18 =>
  gtI (2, 7) M16 a0 1 fun x19 =>
  asI 100 M16 x18 x19 a5 fun M20 =>
  gtI (2, 7) M20 a0 1 fun x21 =>
  ptI (2, 7) M20 a0 1 (x21 + ((1 : Int32))) fun M22 =>
  ptZ (2, 7) M22 a0 5 ((0 : Int32)) fun M23 =>
  gtI (2, 7) M23 a0 1 fun x24 =>
  some (.int x24, M23)
def b6 (rec : Nat → List Value → Mem → XA) (as : List Value) (M0 : Mem) : XA := aR as fun a0 as => aI as fun a1 as => aI as fun a2 as => aI as fun a3 as => aI as fun a4 as => aI as fun a5 as => aZ as (c6 rec a0 a1 a2 a3 a4 a5 M0)
set_option maxRecDepth 100000 in
set_option maxHeartbeats 4000000 in
theorem k6 {S : XS} {G : XG} {K : Nat × Nat} {l : Launch} {d : Nat} {rec : Nat → List Value → Mem → XA} (hs : XSnd l xmt rec d) (a0 : Option Nat) (a1 : Int32) (a2 : Int32) (a3 : Int32) (a4 : Int32) (a5 : Int32) (M0 : Mem) : Xe S G K l (yX1_add, cX1_add, 6, some .int) d 0 [some (va_rf a0), some (.int a1), some (.int a2), some (.int a3), some (.int a4), some (.int a5)] [] M0 (c6 rec a0 a1 a2 a3 a4 a5 M0) := by
  unfold c6
  refine x_aload_n dX1_add_0 rfl ?_
  refine gfX1_17 rfl dX1_add_1 (fun x1 => ?_)
  refine x_iconst (v := 0) dX1_add_4 (by decide) ?_
  refine x_aldg (t := 113) (tn := 8) (by decide) (by decide) rfl rfl dX1_add_5 (fun x2 => ?_)
  refine x_aload_n dX1_add_6 rfl ?_
  refine gfX1_27 rfl dX1_add_7 (fun x3 => ?_)
  refine x_iload_n dX1_add_10 rfl ?_
  refine x_iast dX1_add_11 (fun M4 => ?_)
  refine x_aload_n dX1_add_12 rfl ?_
  refine gfX1_17 rfl dX1_add_13 (fun x5 => ?_)
  refine x_iconst (v := 1) dX1_add_16 (by decide) ?_
  refine x_aldg (t := 113) (tn := 8) (by decide) (by decide) rfl rfl dX1_add_17 (fun x6 => ?_)
  refine x_aload_n dX1_add_18 rfl ?_
  refine gfX1_27 rfl dX1_add_19 (fun x7 => ?_)
  refine x_iload_n dX1_add_22 rfl ?_
  refine x_iast dX1_add_23 (fun M8 => ?_)
  refine x_aload_n dX1_add_24 rfl ?_
  refine gfX1_17 rfl dX1_add_25 (fun x9 => ?_)
  refine x_iconst (v := 2) dX1_add_28 (by decide) ?_
  refine x_aldg (t := 113) (tn := 8) (by decide) (by decide) rfl rfl dX1_add_29 (fun x10 => ?_)
  refine x_aload_n dX1_add_30 rfl ?_
  refine gfX1_27 rfl dX1_add_31 (fun x11 => ?_)
  refine x_iload_n dX1_add_34 rfl ?_
  refine x_iast dX1_add_35 (fun M12 => ?_)
  refine x_aload_n dX1_add_36 rfl ?_
  refine gfX1_17 rfl dX1_add_37 (fun x13 => ?_)
  refine x_iconst (v := 3) dX1_add_40 (by decide) ?_
  refine x_aldg (t := 113) (tn := 8) (by decide) (by decide) rfl rfl dX1_add_41 (fun x14 => ?_)
  refine x_aload_n dX1_add_42 rfl ?_
  refine gfX1_27 rfl dX1_add_43 (fun x15 => ?_)
  refine x_iload dX1_add_46 rfl ?_
  refine x_iast dX1_add_48 (fun M16 => ?_)
  refine x_aload_n dX1_add_49 rfl ?_
  refine gfX1_17 rfl dX1_add_50 (fun x17 => ?_)
  refine x_iconst (v := 4) dX1_add_53 (by decide) ?_
  refine x_aldg (t := 113) (tn := 8) (by decide) (by decide) rfl rfl dX1_add_54 (fun x18 => ?_)
  refine x_aload_n dX1_add_55 rfl ?_
  refine gfX1_27 rfl dX1_add_56 (fun x19 => ?_)
  refine x_iload dX1_add_59 rfl ?_
  refine x_iast dX1_add_61 (fun M20 => ?_)
  refine x_aload_n dX1_add_62 rfl ?_
  refine x_dup dX1_add_63 (xc1_r _) ?_
  refine gfX1_27 rfl dX1_add_64 (fun x21 => ?_)
  refine x_iconst (v := 1) dX1_add_67 (by decide) ?_
  refine x_iadd dX1_add_68 ?_
  refine pfX1_27 rfl dX1_add_69 (fun M22 => ?_)
  refine x_aload_n dX1_add_72 rfl ?_
  refine x_iconst (v := 0) dX1_add_73 (by decide) ?_
  refine pfX1_30 rfl dX1_add_74 (fun M23 => ?_)
  refine x_aload_n dX1_add_77 rfl ?_
  refine gfX1_27 rfl dX1_add_78 (fun x24 => ?_)
  exact x_iret rfl dX1_add_81
theorem s6 {l : Launch} {d : Nat} {rec : Nat → List Value → Mem → XA} (hS : Nonempty XS) (hs : XSnd l xmt rec d) : Snd1 l 6 (b6 rec) d := by
  intro as M r M' h0
  unfold b6 at h0
  obtain ⟨a0, l1, e1, h1⟩ := aR_inv h0
  obtain ⟨a1, l2, e2, h2⟩ := aI_inv h1
  obtain ⟨a2, l3, e3, h3⟩ := aI_inv h2
  obtain ⟨a3, l4, e4, h4⟩ := aI_inv h3
  obtain ⟨a4, l5, e5, h5⟩ := aI_inv h4
  obtain ⟨a5, l6, e6, h6⟩ := aI_inv h5
  obtain ⟨ez, h⟩ := aZ_inv h6
  subst ez
  subst e6
  subst e5
  subst e4
  subst e3
  subst e2
  subst e1
  exact xmet (M := M) (as := [va_rf a0, .int a1, .int a2, .int a3, .int a4, .int a5]) (lo := [some (va_rf a0), some (.int a1), some (.int a2), some (.int a3), some (.int a4), some (.int a5)]) 6 xq6 xm6 (by rw [xargs_rf, xargs_i, xargs_i, xargs_i, xargs_i, xargs_i, xargs_nil]; exact ⟨rfl, ⟨rfl, ⟨rfl, ⟨rfl, ⟨rfl, ⟨rfl, trivial⟩⟩⟩⟩⟩⟩) (by rw [xargs_rf, xargs_i, xargs_i, xargs_i, xargs_i, xargs_i, xargs_nil]; exact Nat.le_of_ble_eq_true rfl) (fun S G K => x_weak (by exact ⟨rfl, ⟨rfl, ⟨rfl, ⟨rfl, ⟨rfl, ⟨rfl, trivial⟩⟩⟩⟩⟩⟩) (k6 hs a0 a1 a2 a3 a4 a5 M)) h hS
set_option maxRecDepth 100000 in
def c7 (rec : Nat → List Value → Mem → XA) (a0 : Option Nat) (M0 : Mem) : XA :=
  gtI (2, 7) M0 a0 5 fun x1 =>
  jn (fun (s2 : Mem) =>
    gtI (2, 7) s2 a0 6 fun x3 =>
    rtZ x3 s2) fun j25 =>
  if x1 = 0 then (
    vC (2, 7) M0 a0 <|
    cI (rec 8 [va_rf a0, .int ((0 : Int32)), .int ((0 : Int32)), .int ((0 : Int32)), .int ((0 : Int32)), .int ((0 : Int32))] M0) fun x5 M4 =>
    ptZ (2, 7) M4 a0 6 x5 fun M6 =>
    ptZ (2, 7) M6 a0 5 ((1 : Int32)) fun M7 =>
    j25 M7) else (
    j25 M0)
def b7 (rec : Nat → List Value → Mem → XA) (as : List Value) (M0 : Mem) : XA := aR as fun a0 as => aZ as (c7 rec a0 M0)
set_option maxRecDepth 100000 in
set_option maxHeartbeats 4000000 in
theorem k7 {S : XS} {G : XG} {K : Nat × Nat} {l : Launch} {d : Nat} {rec : Nat → List Value → Mem → XA} (hs : XSnd l xmt rec d) (a0 : Option Nat) (M0 : Mem) : Xe S G K l (yX1_isLinear, cX1_isLinear, 1, some .boolean) d 0 [some (va_rf a0)] [] M0 (c7 rec a0 M0) := by
  unfold c7
  refine x_aload_n dX1_isLinear_0 rfl ?_
  refine gfX1_30 rfl dX1_isLinear_1 (fun x1 => ?_)
  refine x_jn (σ := Mem) 25 (fun s2 => [some (va_rf a0)]) (fun s2 => []) (fun s2 => s2) (fun s2 => ?_) (fun j25 hj25 => ?_)
  · refine x_aload_n dX1_isLinear_25 rfl ?_
    refine gfX1_38 rfl dX1_isLinear_26 (fun x3 => ?_)
    exact x_zret rfl dX1_isLinear_29
  refine x_if_ne (tgt := 25) dX1_isLinear_4 (by decide) (fun _ => ?_) (fun _ => ?_)
  · refine x_aload_n dX1_isLinear_7 rfl ?_
    refine x_aload_n dX1_isLinear_8 rfl ?_
    refine x_iconst (v := 0) dX1_isLinear_9 (by decide) ?_
    refine x_iconst (v := 0) dX1_isLinear_10 (by decide) ?_
    refine x_iconst (v := 0) dX1_isLinear_11 (by decide) ?_
    refine x_iconst (v := 0) dX1_isLinear_12 (by decide) ?_
    refine x_iconst (v := 0) dX1_isLinear_13 (by decide) ?_
    refine cmX1_34 rfl hs (Nat.le_of_ble_eq_true rfl) dX1_isLinear_14 (fun x5 M4 => ?_)
    refine pfX1_38 rfl dX1_isLinear_17 (fun M6 => ?_)
    refine x_aload_n dX1_isLinear_20 rfl ?_
    refine x_iconst (v := 1) dX1_isLinear_21 (by decide) ?_
    refine pfX1_30 rfl dX1_isLinear_22 (fun M7 => ?_)
    exact x_weak (by exact ⟨rfl, trivial⟩) (hj25 M7)
  · exact x_weak (by exact ⟨rfl, trivial⟩) (hj25 M0)
theorem s7 {l : Launch} {d : Nat} {rec : Nat → List Value → Mem → XA} (hS : Nonempty XS) (hs : XSnd l xmt rec d) : Snd1 l 7 (b7 rec) d := by
  intro as M r M' h0
  unfold b7 at h0
  obtain ⟨a0, l1, e1, h1⟩ := aR_inv h0
  obtain ⟨ez, h⟩ := aZ_inv h1
  subst ez
  subst e1
  exact xmet (M := M) (as := [va_rf a0]) (lo := [some (va_rf a0)]) 7 xq7 xm7 (by rw [xargs_rf, xargs_nil]; exact ⟨rfl, trivial⟩) (by rw [xargs_rf, xargs_nil]; exact Nat.le_of_ble_eq_true rfl) (fun S G K => x_weak (by exact ⟨rfl, trivial⟩) (k7 hs a0 M)) h hS
set_option maxRecDepth 100000 in
def c8_13 (rec : Nat → List Value → Mem → XA) (a0 : Option Nat) (a1 : Int32) (a2 : Int32) (a3 : Int32) (a4 : Int32) (a5 : Int32) (j73 : Mem → XA) (j81 : Mem → XA) : (Int32 × Mem) → ((Int32 × Mem) → XA) → XA := fun s4 j13 =>
  gtI (2, 7) s4.2 a0 1 fun x5 =>
  if x5 ≤ s4.1 then (
    j81 s4.2) else (
    jn (fun (s6 : Mem) =>
      lt (s4.1 + (1 : Int32)) fun (x7 : Int32) =>
      j13 (x7, s6)) fun j75 =>
    if ((a2 >>> (s4.1 &&& 31)) &&& ((1 : Int32))) = 0 then (
      vC (2, 7) s4.2 a0 <|
      cI (rec 10 [va_rf a0, .int s4.1, .int a2] s4.2) fun x9 M8 =>
      if x9 = 0 then (
        j75 M8) else (
        gtP (2, 7) M8 a0 0 fun x10 =>
        asI 100 M8 x10 a1 s4.1 fun M11 =>
        lt (a2 ||| (((1 : Int32)) <<< (s4.1 &&& 31))) fun (x12 : Int32) =>
        vC (2, 7) M11 a0 <|
        cI (rec 9 [va_rf a0, .int s4.1, .int x12, .int a3, .int a4, .int a5] M11) fun x14 M13 =>
        if x14 = 0 then (
          j75 M13) else (
          j73 M13))) else (
      j75 s4.2))
set_option maxRecDepth 100000 in
def c8 (rec : Nat → List Value → Mem → XA) (a0 : Option Nat) (a1 : Int32) (a2 : Int32) (a3 : Int32) (a4 : Int32) (a5 : Int32) (M0 : Mem) : XA :=
  gtI (2, 7) M0 a0 1 fun x1 =>
  if a1 < x1 then (
    jn (fun (s2 : Mem) =>
      rtZ ((1 : Int32)) s2) fun j73 =>
    jn (fun (s3 : Mem) =>
      rtZ ((0 : Int32)) s3) fun j81 =>
    lp (c8_13 rec a0 a1 a2 a3 a4 a5 j73 j81) 4294967296 ((0 : Int32), M0)) else (
    rtZ ((1 : Int32)) M0)
def b8 (rec : Nat → List Value → Mem → XA) (as : List Value) (M0 : Mem) : XA := aR as fun a0 as => aI as fun a1 as => aI as fun a2 as => aI as fun a3 as => aI as fun a4 as => aI as fun a5 as => aZ as (c8 rec a0 a1 a2 a3 a4 a5 M0)
set_option maxRecDepth 100000 in
set_option maxHeartbeats 4000000 in
theorem k8 {S : XS} {G : XG} {K : Nat × Nat} {l : Launch} {d : Nat} {rec : Nat → List Value → Mem → XA} (hs : XSnd l xmt rec d) (a0 : Option Nat) (a1 : Int32) (a2 : Int32) (a3 : Int32) (a4 : Int32) (a5 : Int32) (M0 : Mem) : Xe S G K l (yX1_completes, cX1_completes, 8, some .boolean) d 0 [some (va_rf a0), some (.int a1), some (.int a2), some (.int a3), some (.int a4), some (.int a5), none, none] [] M0 (c8 rec a0 a1 a2 a3 a4 a5 M0) := by
  unfold c8
  refine x_iload_n dX1_completes_0 rfl ?_
  refine x_aload_n dX1_completes_1 rfl ?_
  refine gfX1_27 rfl dX1_completes_2 (fun x1 => ?_)
  refine x_icmp_lt (tgt := 10) dX1_completes_5 (by decide) (fun _ => ?_) (fun _ => ?_)
  · refine x_iconst (v := 0) dX1_completes_10 (by decide) ?_
    refine x_istore (lo' := [some (va_rf a0), some (.int a1), some (.int a2), some (.int a3), some (.int a4), some (.int a5), some (.int ((0 : Int32))), none]) dX1_completes_11 (by decide) rfl rfl ?_
    refine x_jn (σ := Mem) 73 (fun s2 => [none, none, none, none, none, none, none, none]) (fun s2 => []) (fun s2 => s2) (fun s2 => ?_) (fun j73 hj73 => ?_)
    · refine x_iconst (v := 1) dX1_completes_73 (by decide) ?_
      exact x_zret rfl dX1_completes_74
    refine x_jn (σ := Mem) 81 (fun s3 => [none, none, none, none, none, none, none, none]) (fun s3 => []) (fun s3 => s3) (fun s3 => ?_) (fun j81 hj81 => ?_)
    · refine x_iconst (v := 0) dX1_completes_81 (by decide) ?_
      exact x_zret rfl dX1_completes_82
    refine x_weak (by exact ⟨rfl, ⟨rfl, ⟨rfl, ⟨rfl, ⟨rfl, ⟨rfl, ⟨rfl, trivial⟩⟩⟩⟩⟩⟩⟩) (x_lp (σ := Int32 × Mem) 13 (fun s4 => [some (va_rf a0), some (.int a1), some (.int a2), some (.int a3), some (.int a4), some (.int a5), some (.int s4.1), none]) (fun s4 => []) (fun s4 => s4.2) (fun s4 j13 hj13 => ?_) 4294967296 ((0 : Int32), M0))
    · refine x_iload dX1_completes_13 rfl ?_
      refine x_aload_n dX1_completes_15 rfl ?_
      refine gfX1_27 rfl dX1_completes_16 (fun x5 => ?_)
      refine x_icmp_ge (tgt := 81) dX1_completes_19 (by decide) (fun _ => ?_) (fun _ => ?_)
      · exact x_weak (by exact trivial) (hj81 s4.2)
      · refine x_iload_n dX1_completes_22 rfl ?_
        refine x_iload dX1_completes_23 rfl ?_
        refine x_ishr dX1_completes_25 ?_
        refine x_iconst (v := 1) dX1_completes_26 (by decide) ?_
        refine x_iand dX1_completes_27 ?_
        refine x_jn (σ := Mem) 75 (fun s6 => [some (va_rf a0), some (.int a1), some (.int a2), some (.int a3), some (.int a4), some (.int a5), some (.int s4.1), none]) (fun s6 => []) (fun s6 => s6) (fun s6 => ?_) (fun j75 hj75 => ?_)
        · refine x_iincN (v := 1) (lo' := fun x7 => [some (va_rf a0), some (.int a1), some (.int a2), some (.int a3), some (.int a4), some (.int a5), some (.int x7), none]) (by decide) dX1_completes_75 rfl (by decide) rfl (fun _ => rfl) (fun x7 => ?_)
          refine x_goto (tgt := 13) dX1_completes_78 (by decide) ?_
          exact x_weak (by exact ⟨rfl, ⟨rfl, ⟨rfl, ⟨rfl, ⟨rfl, ⟨rfl, ⟨rfl, trivial⟩⟩⟩⟩⟩⟩⟩) (hj13 (x7, s6))
        refine x_if_ne (tgt := 75) dX1_completes_28 (by decide) (fun _ => ?_) (fun _ => ?_)
        · refine x_aload_n dX1_completes_31 rfl ?_
          refine x_iload dX1_completes_32 rfl ?_
          refine x_iload_n dX1_completes_34 rfl ?_
          refine cmX1_41 rfl hs (Nat.le_of_ble_eq_true rfl) dX1_completes_35 (fun x9 M8 => ?_)
          refine x_if_eq (tgt := 75) dX1_completes_38 (by decide) (fun _ => ?_) (fun _ => ?_)
          · exact x_weak (by exact ⟨rfl, ⟨rfl, ⟨rfl, ⟨rfl, ⟨rfl, ⟨rfl, ⟨rfl, trivial⟩⟩⟩⟩⟩⟩⟩) (hj75 M8)
          · refine x_aload_n dX1_completes_41 rfl ?_
            refine gfX1_9 rfl dX1_completes_42 (fun x10 => ?_)
            refine x_iload_n dX1_completes_45 rfl ?_
            refine x_iload dX1_completes_46 rfl ?_
            refine x_iast dX1_completes_48 (fun M11 => ?_)
            refine x_iload_n dX1_completes_49 rfl ?_
            refine x_iconst (v := 1) dX1_completes_50 (by decide) ?_
            refine x_iload dX1_completes_51 rfl ?_
            refine x_ishl dX1_completes_53 ?_
            refine x_ior dX1_completes_54 ?_
            refine x_ltI (fun x12 => ?_)
            refine x_istore (lo' := [some (va_rf a0), some (.int a1), some (.int a2), some (.int a3), some (.int a4), some (.int a5), some (.int s4.1), some (.int x12)]) dX1_completes_55 (by decide) rfl rfl ?_
            refine x_aload_n dX1_completes_57 rfl ?_
            refine x_iload dX1_completes_58 rfl ?_
            refine x_iload dX1_completes_60 rfl ?_
            refine x_iload_n dX1_completes_62 rfl ?_
            refine x_iload dX1_completes_63 rfl ?_
            refine x_iload dX1_completes_65 rfl ?_
            refine cmX1_45 rfl hs (Nat.le_of_ble_eq_true rfl) dX1_completes_67 (fun x14 M13 => ?_)
            refine x_if_eq (tgt := 75) dX1_completes_70 (by decide) (fun _ => ?_) (fun _ => ?_)
            · exact x_weak (by exact ⟨rfl, ⟨rfl, ⟨rfl, ⟨rfl, ⟨rfl, ⟨rfl, ⟨rfl, trivial⟩⟩⟩⟩⟩⟩⟩) (hj75 M13)
            · exact x_weak (by exact trivial) (hj73 M13)
        · exact x_weak (by exact ⟨rfl, ⟨rfl, ⟨rfl, ⟨rfl, ⟨rfl, ⟨rfl, ⟨rfl, trivial⟩⟩⟩⟩⟩⟩⟩) (hj75 s4.2)
  · refine x_iconst (v := 1) dX1_completes_8 (by decide) ?_
    exact x_zret rfl dX1_completes_9
theorem s8 {l : Launch} {d : Nat} {rec : Nat → List Value → Mem → XA} (hS : Nonempty XS) (hs : XSnd l xmt rec d) : Snd1 l 8 (b8 rec) d := by
  intro as M r M' h0
  unfold b8 at h0
  obtain ⟨a0, l1, e1, h1⟩ := aR_inv h0
  obtain ⟨a1, l2, e2, h2⟩ := aI_inv h1
  obtain ⟨a2, l3, e3, h3⟩ := aI_inv h2
  obtain ⟨a3, l4, e4, h4⟩ := aI_inv h3
  obtain ⟨a4, l5, e5, h5⟩ := aI_inv h4
  obtain ⟨a5, l6, e6, h6⟩ := aI_inv h5
  obtain ⟨ez, h⟩ := aZ_inv h6
  subst ez
  subst e6
  subst e5
  subst e4
  subst e3
  subst e2
  subst e1
  exact xmet (M := M) (as := [va_rf a0, .int a1, .int a2, .int a3, .int a4, .int a5]) (lo := [some (va_rf a0), some (.int a1), some (.int a2), some (.int a3), some (.int a4), some (.int a5)]) 8 xq8 xm8 (by rw [xargs_rf, xargs_i, xargs_i, xargs_i, xargs_i, xargs_i, xargs_nil]; exact ⟨rfl, ⟨rfl, ⟨rfl, ⟨rfl, ⟨rfl, ⟨rfl, trivial⟩⟩⟩⟩⟩⟩) (by rw [xargs_rf, xargs_i, xargs_i, xargs_i, xargs_i, xargs_i, xargs_nil]; exact Nat.le_of_ble_eq_true rfl) (fun S G K => x_weak (by exact ⟨rfl, ⟨rfl, ⟨rfl, ⟨rfl, ⟨rfl, ⟨rfl, trivial⟩⟩⟩⟩⟩⟩) (k8 hs a0 a1 a2 a3 a4 a5 M)) h hS
set_option maxRecDepth 100000 in
def c9 (rec : Nat → List Value → Mem → XA) (a0 : Option Nat) (a1 : Int32) (a2 : Int32) (a3 : Int32) (a4 : Int32) (a5 : Int32) (M0 : Mem) : XA :=
  cI (rec 315 [.int a2] M0) fun x2 M1 =>
  gtP (2, 7) M1 a0 3 fun x3 =>
  alP 113 M1 x3 ((1 : Int32)) fun x4 =>
  alI 100 M1 x4 a1 fun x5 =>
  gtP (2, 7) M1 a0 3 fun x6 =>
  alP 113 M1 x6 ((2 : Int32)) fun x7 =>
  alI 100 M1 x7 a1 fun x8 =>
  gtP (2, 7) M1 a0 3 fun x9 =>
  alP 113 M1 x9 ((0 : Int32)) fun x10 =>
  alI 100 M1 x10 a1 fun x11 =>
  jn (fun (s12 : Int32) =>
    gtI (2, 7) M1 a0 2 fun x13 =>
    jn (fun (s14 : Unit) =>
      gtI (2, 7) M1 a0 2 fun x15 =>
      if x15 = ((2 : Int32)) then (
        jn (fun (s16 : Int32) =>
          jn (fun (s17 : Int32) =>
            jn (fun (s18 : Int32 × Mem) =>
              rtZ s18.1 s18.2) fun j169 =>
            jn (fun (s19 : Mem) =>
              j169 ((0 : Int32), s19)) fun j168 =>
            if x8 = s17 then (
              jn (fun (s20 : Int32) =>
                vC (2, 7) M1 a0 <|
                cI (rec 8 [va_rf a0, .int x2, .int a2, .int a3, .int s20, .int a5] M1) fun x22 M21 =>
                if x22 = 0 then (
                  j168 M21) else (
                  j169 ((1 : Int32), M21))) fun j156 =>
              if s16 = 0 then (
                j156 (a4 + ((1 : Int32)))) else (
                j156 a4)) else (
              j168 M1)) fun j134 =>
          if s16 = 0 then (
            gtP (2, 7) M1 a0 4 fun x23 =>
            alI 100 M1 x23 a4 fun x24 =>
            j134 x24) else (
            j134 ((-1 : Int32)))) fun j114 =>
        if a4 < a5 then (
          j114 ((0 : Int32))) else (
          j114 ((1 : Int32)))) else (
        jn (fun (s25 : Int32) =>
          jn (fun (s26 : Int32) =>
            jn (fun (s27 : Int32 × Mem) =>
              rtZ s27.1 s27.2) fun j246 =>
            jn (fun (s28 : Mem) =>
              j246 ((0 : Int32), s28)) fun j245 =>
            if x8 = s26 then (
              vC (2, 7) M1 a0 <|
              cI (rec 8 [va_rf a0, .int x2, .int a2, .int s25, .int a4, .int a5] M1) fun x30 M29 =>
              if x30 = 0 then (
                j245 M29) else (
                j246 ((1 : Int32), M29))) else (
              j245 M1)) fun j216 =>
          jn (fun (s31 : Unit) =>
            j216 s25) fun j214 =>
          if s12 = 0 then (
            j214 ()) else (
            gtI (2, 7) M1 a0 2 fun x32 =>
            if x32 = 0 then (
              j216 ((0 : Int32))) else (
              j214 ()))) fun j196 =>
        if s12 = 0 then (
          j196 a3) else (
          gtI (2, 7) M1 a0 2 fun x33 =>
          if x33 = ((1 : Int32)) then (
            j196 (a3 + x5)) else (
            j196 x5)))) fun j94 =>
    if x13 = ((2 : Int32)) then (
      if s12 = 0 then (
        j94 ()) else (
        gtP (2, 7) M1 a0 4 fun x34 =>
        asI 100 M1 x34 a5 x5 fun M35 =>
        jn (fun (s36 : Int32 × Mem) =>
          rtZ s36.1 s36.2) fun j93 =>
        jn (fun (s37 : Mem) =>
          j93 ((0 : Int32), s37)) fun j92 =>
        if x8 = 0 then (
          vC (2, 7) M35 a0 <|
          cI (rec 8 [va_rf a0, .int x2, .int a2, .int a3, .int a4, .int (a5 + ((1 : Int32)))] M35) fun x39 M38 =>
          if x39 = 0 then (
            j92 M38) else (
            j93 ((1 : Int32), M38))) else (
          j92 M35))) else (
      j94 ())) fun j42 =>
  if x11 = 0 then (
    j42 ((1 : Int32))) else (
    j42 ((0 : Int32)))
def b9 (rec : Nat → List Value → Mem → XA) (as : List Value) (M0 : Mem) : XA := aR as fun a0 as => aI as fun a1 as => aI as fun a2 as => aI as fun a3 as => aI as fun a4 as => aI as fun a5 as => aZ as (c9 rec a0 a1 a2 a3 a4 a5 M0)
set_option maxRecDepth 100000 in
set_option maxHeartbeats 4000000 in
theorem k9 {S : XS} {G : XG} {K : Nat × Nat} {l : Launch} {d : Nat} {rec : Nat → List Value → Mem → XA} (hs : XSnd l xmt rec d) (a0 : Option Nat) (a1 : Int32) (a2 : Int32) (a3 : Int32) (a4 : Int32) (a5 : Int32) (M0 : Mem) : Xe S G K l (yX1_completesBehind, cX1_completesBehind, 12, some .boolean) d 0 [some (va_rf a0), some (.int a1), some (.int a2), some (.int a3), some (.int a4), some (.int a5), none, none, none, none, none, none] [] M0 (c9 rec a0 a1 a2 a3 a4 a5 M0) := by
  unfold c9
  refine x_iload_n dX1_completesBehind_0 rfl ?_
  refine cmX1_48 rfl hs (Nat.le_of_ble_eq_true rfl) dX1_completesBehind_1 (fun x2 M1 => ?_)
  refine x_istore (lo' := [some (va_rf a0), some (.int a1), some (.int a2), some (.int a3), some (.int a4), some (.int a5), some (.int x2), none, none, none, none, none]) dX1_completesBehind_4 (by decide) rfl rfl ?_
  refine x_aload_n dX1_completesBehind_6 rfl ?_
  refine gfX1_17 rfl dX1_completesBehind_7 (fun x3 => ?_)
  refine x_iconst (v := 1) dX1_completesBehind_10 (by decide) ?_
  refine x_aldg (t := 113) (tn := 8) (by decide) (by decide) rfl rfl dX1_completesBehind_11 (fun x4 => ?_)
  refine x_iload_n dX1_completesBehind_12 rfl ?_
  refine x_iald dX1_completesBehind_13 (fun x5 => ?_)
  refine x_istore (lo' := [some (va_rf a0), some (.int a1), some (.int a2), some (.int a3), some (.int a4), some (.int a5), some (.int x2), some (.int x5), none, none, none, none]) dX1_completesBehind_14 (by decide) rfl rfl ?_
  refine x_aload_n dX1_completesBehind_16 rfl ?_
  refine gfX1_17 rfl dX1_completesBehind_17 (fun x6 => ?_)
  refine x_iconst (v := 2) dX1_completesBehind_20 (by decide) ?_
  refine x_aldg (t := 113) (tn := 8) (by decide) (by decide) rfl rfl dX1_completesBehind_21 (fun x7 => ?_)
  refine x_iload_n dX1_completesBehind_22 rfl ?_
  refine x_iald dX1_completesBehind_23 (fun x8 => ?_)
  refine x_istore (lo' := [some (va_rf a0), some (.int a1), some (.int a2), some (.int a3), some (.int a4), some (.int a5), some (.int x2), some (.int x5), some (.int x8), none, none, none]) dX1_completesBehind_24 (by decide) rfl rfl ?_
  refine x_aload_n dX1_completesBehind_26 rfl ?_
  refine gfX1_17 rfl dX1_completesBehind_27 (fun x9 => ?_)
  refine x_iconst (v := 0) dX1_completesBehind_30 (by decide) ?_
  refine x_aldg (t := 113) (tn := 8) (by decide) (by decide) rfl rfl dX1_completesBehind_31 (fun x10 => ?_)
  refine x_iload_n dX1_completesBehind_32 rfl ?_
  refine x_iald dX1_completesBehind_33 (fun x11 => ?_)
  refine x_jn (σ := Int32) 42 (fun s12 => [some (va_rf a0), none, some (.int a2), some (.int a3), some (.int a4), some (.int a5), some (.int x2), some (.int x5), some (.int x8), none, none, none]) (fun s12 => [.int s12]) (fun s12 => M1) (fun s12 => ?_) (fun j42 hj42 => ?_)
  · refine x_istore (lo' := [some (va_rf a0), none, some (.int a2), some (.int a3), some (.int a4), some (.int a5), some (.int x2), some (.int x5), some (.int x8), some (.int s12), none, none]) dX1_completesBehind_42 (by decide) rfl rfl ?_
    refine x_aload_n dX1_completesBehind_44 rfl ?_
    refine gfX1_23 rfl dX1_completesBehind_45 (fun x13 => ?_)
    refine x_iconst (v := 2) dX1_completesBehind_48 (by decide) ?_
    refine x_jn (σ := Unit) 94 (fun s14 => [some (va_rf a0), none, some (.int a2), some (.int a3), some (.int a4), some (.int a5), some (.int x2), some (.int x5), some (.int x8), some (.int s12), none, none]) (fun s14 => []) (fun s14 => M1) (fun s14 => ?_) (fun j94 hj94 => ?_)
    · refine x_aload_n dX1_completesBehind_94 rfl ?_
      refine gfX1_23 rfl dX1_completesBehind_95 (fun x15 => ?_)
      refine x_iconst (v := 2) dX1_completesBehind_98 (by decide) ?_
      refine x_icmp_ne (tgt := 170) dX1_completesBehind_99 (by decide) (fun _ => ?_) (fun _ => ?_)
      · refine x_iload dX1_completesBehind_102 rfl ?_
        refine x_iload dX1_completesBehind_104 rfl ?_
        refine x_jn (σ := Int32) 114 (fun s16 => [some (va_rf a0), none, some (.int a2), some (.int a3), some (.int a4), some (.int a5), some (.int x2), none, some (.int x8), none, none, none]) (fun s16 => [.int s16]) (fun s16 => M1) (fun s16 => ?_) (fun j114 hj114 => ?_)
        · refine x_istore (lo' := [some (va_rf a0), none, some (.int a2), some (.int a3), some (.int a4), some (.int a5), some (.int x2), none, some (.int x8), none, some (.int s16), none]) dX1_completesBehind_114 (by decide) rfl rfl ?_
          refine x_iload dX1_completesBehind_116 rfl ?_
          refine x_iload dX1_completesBehind_118 rfl ?_
          refine x_jn (σ := Int32) 134 (fun s17 => [some (va_rf a0), none, some (.int a2), some (.int a3), some (.int a4), some (.int a5), some (.int x2), none, none, none, some (.int s16), none]) (fun s17 => [.int s17, .int x8]) (fun s17 => M1) (fun s17 => ?_) (fun j134 hj134 => ?_)
          · refine x_jn (σ := Int32 × Mem) 169 (fun s18 => [none, none, none, none, none, none, none, none, none, none, none, none]) (fun s18 => [.int s18.1]) (fun s18 => s18.2) (fun s18 => ?_) (fun j169 hj169 => ?_)
            · exact x_zret rfl dX1_completesBehind_169
            refine x_jn (σ := Mem) 168 (fun s19 => [none, none, none, none, none, none, none, none, none, none, none, none]) (fun s19 => []) (fun s19 => s19) (fun s19 => ?_) (fun j168 hj168 => ?_)
            · refine x_iconst (v := 0) dX1_completesBehind_168 (by decide) ?_
              exact x_weak (by exact trivial) (hj169 ((0 : Int32), s19))
            refine x_icmp_ne (tgt := 168) dX1_completesBehind_134 (by decide) (fun _ => ?_) (fun _ => ?_)
            · refine x_aload_n dX1_completesBehind_137 rfl ?_
              refine x_iload dX1_completesBehind_138 rfl ?_
              refine x_iload_n dX1_completesBehind_140 rfl ?_
              refine x_iload_n dX1_completesBehind_141 rfl ?_
              refine x_iload dX1_completesBehind_142 rfl ?_
              refine x_jn (σ := Int32) 156 (fun s20 => [none, none, none, none, none, some (.int a5), none, none, none, none, none, none]) (fun s20 => [.int s20, .int a3, .int a2, .int x2, va_rf a0]) (fun s20 => M1) (fun s20 => ?_) (fun j156 hj156 => ?_)
              · refine x_iload dX1_completesBehind_156 rfl ?_
                refine cmX1_34 rfl hs (Nat.le_of_ble_eq_true rfl) dX1_completesBehind_158 (fun x22 M21 => ?_)
                refine x_if_eq (tgt := 168) dX1_completesBehind_161 (by decide) (fun _ => ?_) (fun _ => ?_)
                · exact x_weak (by exact trivial) (hj168 M21)
                · refine x_iconst (v := 1) dX1_completesBehind_164 (by decide) ?_
                  refine x_goto (tgt := 169) dX1_completesBehind_165 (by decide) ?_
                  exact x_weak (by exact trivial) (hj169 ((1 : Int32), M21))
              refine x_if_eq (tgt := 152) dX1_completesBehind_144 (by decide) (fun _ => ?_) (fun _ => ?_)
              · refine x_iload dX1_completesBehind_152 rfl ?_
                refine x_iconst (v := 1) dX1_completesBehind_154 (by decide) ?_
                refine x_iadd dX1_completesBehind_155 ?_
                exact x_weak (by exact ⟨rfl, trivial⟩) (hj156 (a4 + ((1 : Int32))))
              · refine x_iload dX1_completesBehind_147 rfl ?_
                refine x_goto (tgt := 156) dX1_completesBehind_149 (by decide) ?_
                exact x_weak (by exact ⟨rfl, trivial⟩) (hj156 a4)
            · exact x_weak (by exact trivial) (hj168 M1)
          refine x_if_eq (tgt := 127) dX1_completesBehind_120 (by decide) (fun _ => ?_) (fun _ => ?_)
          · refine x_aload_n dX1_completesBehind_127 rfl ?_
            refine gfX1_20 rfl dX1_completesBehind_128 (fun x23 => ?_)
            refine x_iload dX1_completesBehind_131 rfl ?_
            refine x_iald dX1_completesBehind_133 (fun x24 => ?_)
            exact x_weak (by exact ⟨rfl, ⟨rfl, ⟨rfl, ⟨rfl, ⟨rfl, ⟨rfl, ⟨rfl, trivial⟩⟩⟩⟩⟩⟩⟩) (hj134 x24)
          · refine x_iconst (v := -1) dX1_completesBehind_123 (by decide) ?_
            refine x_goto (tgt := 134) dX1_completesBehind_124 (by decide) ?_
            exact x_weak (by exact ⟨rfl, ⟨rfl, ⟨rfl, ⟨rfl, ⟨rfl, ⟨rfl, ⟨rfl, trivial⟩⟩⟩⟩⟩⟩⟩) (hj134 ((-1 : Int32)))
        refine x_icmp_lt (tgt := 113) dX1_completesBehind_106 (by decide) (fun _ => ?_) (fun _ => ?_)
        · refine x_iconst (v := 0) dX1_completesBehind_113 (by decide) ?_
          exact x_weak (by exact ⟨rfl, ⟨rfl, ⟨rfl, ⟨rfl, ⟨rfl, ⟨rfl, ⟨rfl, trivial⟩⟩⟩⟩⟩⟩⟩) (hj114 ((0 : Int32)))
        · refine x_iconst (v := 1) dX1_completesBehind_109 (by decide) ?_
          refine x_goto (tgt := 114) dX1_completesBehind_110 (by decide) ?_
          exact x_weak (by exact ⟨rfl, ⟨rfl, ⟨rfl, ⟨rfl, ⟨rfl, ⟨rfl, ⟨rfl, trivial⟩⟩⟩⟩⟩⟩⟩) (hj114 ((1 : Int32)))
      · refine x_iload dX1_completesBehind_170 rfl ?_
        refine x_jn (σ := Int32) 196 (fun s25 => [some (va_rf a0), none, some (.int a2), none, some (.int a4), some (.int a5), some (.int x2), none, some (.int x8), some (.int s12), none, none]) (fun s25 => [.int s25]) (fun s25 => M1) (fun s25 => ?_) (fun j196 hj196 => ?_)
        · refine x_istore (lo' := [some (va_rf a0), none, some (.int a2), none, some (.int a4), some (.int a5), some (.int x2), none, some (.int x8), some (.int s12), some (.int s25), none]) dX1_completesBehind_196 (by decide) rfl rfl ?_
          refine x_iload dX1_completesBehind_198 rfl ?_
          refine x_jn (σ := Int32) 216 (fun s26 => [some (va_rf a0), none, some (.int a2), none, some (.int a4), some (.int a5), some (.int x2), none, some (.int x8), none, some (.int s25), none]) (fun s26 => [.int s26]) (fun s26 => M1) (fun s26 => ?_) (fun j216 hj216 => ?_)
          · refine x_istore (lo' := [some (va_rf a0), none, some (.int a2), none, some (.int a4), some (.int a5), some (.int x2), none, some (.int x8), none, some (.int s25), some (.int s26)]) dX1_completesBehind_216 (by decide) rfl rfl ?_
            refine x_iload dX1_completesBehind_218 rfl ?_
            refine x_iload dX1_completesBehind_220 rfl ?_
            refine x_jn (σ := Int32 × Mem) 246 (fun s27 => [none, none, none, none, none, none, none, none, none, none, none, none]) (fun s27 => [.int s27.1]) (fun s27 => s27.2) (fun s27 => ?_) (fun j246 hj246 => ?_)
            · exact x_zret rfl dX1_completesBehind_246
            refine x_jn (σ := Mem) 245 (fun s28 => [none, none, none, none, none, none, none, none, none, none, none, none]) (fun s28 => []) (fun s28 => s28) (fun s28 => ?_) (fun j245 hj245 => ?_)
            · refine x_iconst (v := 0) dX1_completesBehind_245 (by decide) ?_
              exact x_weak (by exact trivial) (hj246 ((0 : Int32), s28))
            refine x_icmp_ne (tgt := 245) dX1_completesBehind_222 (by decide) (fun _ => ?_) (fun _ => ?_)
            · refine x_aload_n dX1_completesBehind_225 rfl ?_
              refine x_iload dX1_completesBehind_226 rfl ?_
              refine x_iload_n dX1_completesBehind_228 rfl ?_
              refine x_iload dX1_completesBehind_229 rfl ?_
              refine x_iload dX1_completesBehind_231 rfl ?_
              refine x_iload dX1_completesBehind_233 rfl ?_
              refine cmX1_34 rfl hs (Nat.le_of_ble_eq_true rfl) dX1_completesBehind_235 (fun x30 M29 => ?_)
              refine x_if_eq (tgt := 245) dX1_completesBehind_238 (by decide) (fun _ => ?_) (fun _ => ?_)
              · exact x_weak (by exact trivial) (hj245 M29)
              · refine x_iconst (v := 1) dX1_completesBehind_241 (by decide) ?_
                refine x_goto (tgt := 246) dX1_completesBehind_242 (by decide) ?_
                exact x_weak (by exact trivial) (hj246 ((1 : Int32), M29))
            · exact x_weak (by exact trivial) (hj245 M1)
          refine x_jn (σ := Unit) 214 (fun s31 => [some (va_rf a0), none, some (.int a2), none, some (.int a4), some (.int a5), some (.int x2), none, some (.int x8), none, some (.int s25), none]) (fun s31 => []) (fun s31 => M1) (fun s31 => ?_) (fun j214 hj214 => ?_)
          · refine x_iload dX1_completesBehind_214 rfl ?_
            exact x_weak (by exact ⟨rfl, ⟨rfl, ⟨rfl, ⟨rfl, ⟨rfl, ⟨rfl, ⟨rfl, trivial⟩⟩⟩⟩⟩⟩⟩) (hj216 s25)
          refine x_if_eq (tgt := 214) dX1_completesBehind_200 (by decide) (fun _ => ?_) (fun _ => ?_)
          · exact x_weak (by exact ⟨rfl, ⟨rfl, ⟨rfl, ⟨rfl, ⟨rfl, ⟨rfl, ⟨rfl, trivial⟩⟩⟩⟩⟩⟩⟩) (hj214 ())
          · refine x_aload_n dX1_completesBehind_203 rfl ?_
            refine gfX1_23 rfl dX1_completesBehind_204 (fun x32 => ?_)
            refine x_if_ne (tgt := 214) dX1_completesBehind_207 (by decide) (fun _ => ?_) (fun _ => ?_)
            · refine x_iconst (v := 0) dX1_completesBehind_210 (by decide) ?_
              refine x_goto (tgt := 216) dX1_completesBehind_211 (by decide) ?_
              exact x_weak (by exact ⟨rfl, ⟨rfl, ⟨rfl, ⟨rfl, ⟨rfl, ⟨rfl, ⟨rfl, trivial⟩⟩⟩⟩⟩⟩⟩) (hj216 ((0 : Int32)))
            · exact x_weak (by exact ⟨rfl, ⟨rfl, ⟨rfl, ⟨rfl, ⟨rfl, ⟨rfl, ⟨rfl, trivial⟩⟩⟩⟩⟩⟩⟩) (hj214 ())
        refine x_if_ne (tgt := 179) dX1_completesBehind_172 (by decide) (fun _ => ?_) (fun _ => ?_)
        · refine x_iload_n dX1_completesBehind_175 rfl ?_
          refine x_goto (tgt := 196) dX1_completesBehind_176 (by decide) ?_
          exact x_weak (by exact ⟨rfl, ⟨rfl, ⟨rfl, ⟨rfl, ⟨rfl, ⟨rfl, ⟨rfl, trivial⟩⟩⟩⟩⟩⟩⟩) (hj196 a3)
        · refine x_aload_n dX1_completesBehind_179 rfl ?_
          refine gfX1_23 rfl dX1_completesBehind_180 (fun x33 => ?_)
          refine x_iconst (v := 1) dX1_completesBehind_183 (by decide) ?_
          refine x_icmp_ne (tgt := 194) dX1_completesBehind_184 (by decide) (fun _ => ?_) (fun _ => ?_)
          · refine x_iload_n dX1_completesBehind_187 rfl ?_
            refine x_iload dX1_completesBehind_188 rfl ?_
            refine x_iadd dX1_completesBehind_190 ?_
            refine x_goto (tgt := 196) dX1_completesBehind_191 (by decide) ?_
            exact x_weak (by exact ⟨rfl, ⟨rfl, ⟨rfl, ⟨rfl, ⟨rfl, ⟨rfl, ⟨rfl, trivial⟩⟩⟩⟩⟩⟩⟩) (hj196 (a3 + x5))
          · refine x_iload dX1_completesBehind_194 rfl ?_
            exact x_weak (by exact ⟨rfl, ⟨rfl, ⟨rfl, ⟨rfl, ⟨rfl, ⟨rfl, ⟨rfl, trivial⟩⟩⟩⟩⟩⟩⟩) (hj196 x5)
    refine x_icmp_ne (tgt := 94) dX1_completesBehind_49 (by decide) (fun _ => ?_) (fun _ => ?_)
    · refine x_iload dX1_completesBehind_52 rfl ?_
      refine x_if_eq (tgt := 94) dX1_completesBehind_54 (by decide) (fun _ => ?_) (fun _ => ?_)
      · exact x_weak (by exact ⟨rfl, ⟨rfl, ⟨rfl, ⟨rfl, ⟨rfl, ⟨rfl, ⟨rfl, ⟨rfl, ⟨rfl, trivial⟩⟩⟩⟩⟩⟩⟩⟩⟩) (hj94 ())
      · refine x_aload_n dX1_completesBehind_57 rfl ?_
        refine gfX1_20 rfl dX1_completesBehind_58 (fun x34 => ?_)
        refine x_iload dX1_completesBehind_61 rfl ?_
        refine x_iload dX1_completesBehind_63 rfl ?_
        refine x_iast dX1_completesBehind_65 (fun M35 => ?_)
        refine x_iload dX1_completesBehind_66 rfl ?_
        refine x_jn (σ := Int32 × Mem) 93 (fun s36 => [none, none, none, none, none, none, none, none, none, none, none, none]) (fun s36 => [.int s36.1]) (fun s36 => s36.2) (fun s36 => ?_) (fun j93 hj93 => ?_)
        · exact x_zret rfl dX1_completesBehind_93
        refine x_jn (σ := Mem) 92 (fun s37 => [none, none, none, none, none, none, none, none, none, none, none, none]) (fun s37 => []) (fun s37 => s37) (fun s37 => ?_) (fun j92 hj92 => ?_)
        · refine x_iconst (v := 0) dX1_completesBehind_92 (by decide) ?_
          exact x_weak (by exact trivial) (hj93 ((0 : Int32), s37))
        refine x_if_ne (tgt := 92) dX1_completesBehind_68 (by decide) (fun _ => ?_) (fun _ => ?_)
        · refine x_aload_n dX1_completesBehind_71 rfl ?_
          refine x_iload dX1_completesBehind_72 rfl ?_
          refine x_iload_n dX1_completesBehind_74 rfl ?_
          refine x_iload_n dX1_completesBehind_75 rfl ?_
          refine x_iload dX1_completesBehind_76 rfl ?_
          refine x_iload dX1_completesBehind_78 rfl ?_
          refine x_iconst (v := 1) dX1_completesBehind_80 (by decide) ?_
          refine x_iadd dX1_completesBehind_81 ?_
          refine cmX1_34 rfl hs (Nat.le_of_ble_eq_true rfl) dX1_completesBehind_82 (fun x39 M38 => ?_)
          refine x_if_eq (tgt := 92) dX1_completesBehind_85 (by decide) (fun _ => ?_) (fun _ => ?_)
          · exact x_weak (by exact trivial) (hj92 M38)
          · refine x_iconst (v := 1) dX1_completesBehind_88 (by decide) ?_
            refine x_goto (tgt := 93) dX1_completesBehind_89 (by decide) ?_
            exact x_weak (by exact trivial) (hj93 ((1 : Int32), M38))
        · exact x_weak (by exact trivial) (hj92 M35)
    · exact x_weak (by exact ⟨rfl, ⟨rfl, ⟨rfl, ⟨rfl, ⟨rfl, ⟨rfl, ⟨rfl, ⟨rfl, ⟨rfl, trivial⟩⟩⟩⟩⟩⟩⟩⟩⟩) (hj94 ())
  refine x_if_ne (tgt := 41) dX1_completesBehind_34 (by decide) (fun _ => ?_) (fun _ => ?_)
  · refine x_iconst (v := 1) dX1_completesBehind_37 (by decide) ?_
    refine x_goto (tgt := 42) dX1_completesBehind_38 (by decide) ?_
    exact x_weak (by exact ⟨rfl, ⟨rfl, ⟨rfl, ⟨rfl, ⟨rfl, ⟨rfl, ⟨rfl, ⟨rfl, trivial⟩⟩⟩⟩⟩⟩⟩⟩) (hj42 ((1 : Int32)))
  · refine x_iconst (v := 0) dX1_completesBehind_41 (by decide) ?_
    exact x_weak (by exact ⟨rfl, ⟨rfl, ⟨rfl, ⟨rfl, ⟨rfl, ⟨rfl, ⟨rfl, ⟨rfl, trivial⟩⟩⟩⟩⟩⟩⟩⟩) (hj42 ((0 : Int32)))
theorem s9 {l : Launch} {d : Nat} {rec : Nat → List Value → Mem → XA} (hS : Nonempty XS) (hs : XSnd l xmt rec d) : Snd1 l 9 (b9 rec) d := by
  intro as M r M' h0
  unfold b9 at h0
  obtain ⟨a0, l1, e1, h1⟩ := aR_inv h0
  obtain ⟨a1, l2, e2, h2⟩ := aI_inv h1
  obtain ⟨a2, l3, e3, h3⟩ := aI_inv h2
  obtain ⟨a3, l4, e4, h4⟩ := aI_inv h3
  obtain ⟨a4, l5, e5, h5⟩ := aI_inv h4
  obtain ⟨a5, l6, e6, h6⟩ := aI_inv h5
  obtain ⟨ez, h⟩ := aZ_inv h6
  subst ez
  subst e6
  subst e5
  subst e4
  subst e3
  subst e2
  subst e1
  exact xmet (M := M) (as := [va_rf a0, .int a1, .int a2, .int a3, .int a4, .int a5]) (lo := [some (va_rf a0), some (.int a1), some (.int a2), some (.int a3), some (.int a4), some (.int a5)]) 9 xq9 xm9 (by rw [xargs_rf, xargs_i, xargs_i, xargs_i, xargs_i, xargs_i, xargs_nil]; exact ⟨rfl, ⟨rfl, ⟨rfl, ⟨rfl, ⟨rfl, ⟨rfl, trivial⟩⟩⟩⟩⟩⟩) (by rw [xargs_rf, xargs_i, xargs_i, xargs_i, xargs_i, xargs_i, xargs_nil]; exact Nat.le_of_ble_eq_true rfl) (fun S G K => x_weak (by exact ⟨rfl, ⟨rfl, ⟨rfl, ⟨rfl, ⟨rfl, ⟨rfl, trivial⟩⟩⟩⟩⟩⟩) (k9 hs a0 a1 a2 a3 a4 a5 M)) h hS
set_option maxRecDepth 100000 in
def c10_2 (rec : Nat → List Value → Mem → XA) (a0 : Option Nat) (a1 : Int32) (a2 : Int32) (M0 : Mem) (j37 : Unit → XA) (j45 : Unit → XA) : (Int32) → ((Int32) → XA) → XA := fun s3 j2 =>
  gtI (2, 7) M0 a0 1 fun x4 =>
  if x4 ≤ s3 then (
    j45 ()) else (
    jn (fun (s5 : Unit) =>
      lt (s3 + (1 : Int32)) fun (x6 : Int32) =>
      j2 x6) fun j39 =>
    if ((a2 >>> (s3 &&& 31)) &&& ((1 : Int32))) = 0 then (
      gtP (2, 7) M0 a0 3 fun x7 =>
      alP 113 M0 x7 ((4 : Int32)) fun x8 =>
      alI 100 M0 x8 s3 fun x9 =>
      gtP (2, 7) M0 a0 3 fun x10 =>
      alP 113 M0 x10 ((3 : Int32)) fun x11 =>
      alI 100 M0 x11 a1 fun x12 =>
      if x12 ≤ x9 then (
        j39 ()) else (
        j37 ())) else (
      j39 ()))
set_option maxRecDepth 100000 in
def c10 (rec : Nat → List Value → Mem → XA) (a0 : Option Nat) (a1 : Int32) (a2 : Int32) (M0 : Mem) : XA :=
  jn (fun (s1 : Unit) =>
    rtZ ((0 : Int32)) M0) fun j37 =>
  jn (fun (s2 : Unit) =>
    rtZ ((1 : Int32)) M0) fun j45 =>
  lp (c10_2 rec a0 a1 a2 M0 j37 j45) 4294967296 ((0 : Int32))
def b10 (rec : Nat → List Value → Mem → XA) (as : List Value) (M0 : Mem) : XA := aR as fun a0 as => aI as fun a1 as => aI as fun a2 as => aZ as (c10 rec a0 a1 a2 M0)
set_option maxRecDepth 100000 in
set_option maxHeartbeats 4000000 in
theorem k10 {S : XS} {G : XG} {K : Nat × Nat} {l : Launch} {d : Nat} {rec : Nat → List Value → Mem → XA} (hs : XSnd l xmt rec d) (a0 : Option Nat) (a1 : Int32) (a2 : Int32) (M0 : Mem) : Xe S G K l (yX1_mayBeNext, cX1_mayBeNext, 4, some .boolean) d 0 [some (va_rf a0), some (.int a1), some (.int a2), none] [] M0 (c10 rec a0 a1 a2 M0) := by
  unfold c10
  refine x_iconst (v := 0) dX1_mayBeNext_0 (by decide) ?_
  refine x_istore_n (lo' := [some (va_rf a0), some (.int a1), some (.int a2), some (.int ((0 : Int32)))]) dX1_mayBeNext_1 (by decide) rfl rfl ?_
  refine x_jn (σ := Unit) 37 (fun s1 => [none, none, none, none]) (fun s1 => []) (fun s1 => M0) (fun s1 => ?_) (fun j37 hj37 => ?_)
  · refine x_iconst (v := 0) dX1_mayBeNext_37 (by decide) ?_
    exact x_zret rfl dX1_mayBeNext_38
  refine x_jn (σ := Unit) 45 (fun s2 => [none, none, none, none]) (fun s2 => []) (fun s2 => M0) (fun s2 => ?_) (fun j45 hj45 => ?_)
  · refine x_iconst (v := 1) dX1_mayBeNext_45 (by decide) ?_
    exact x_zret rfl dX1_mayBeNext_46
  refine x_weak (by exact ⟨rfl, ⟨rfl, ⟨rfl, ⟨rfl, trivial⟩⟩⟩⟩) (x_lp (σ := Int32) 2 (fun s3 => [some (va_rf a0), some (.int a1), some (.int a2), some (.int s3)]) (fun s3 => []) (fun s3 => M0) (fun s3 j2 hj2 => ?_) 4294967296 ((0 : Int32)))
  · refine x_iload_n dX1_mayBeNext_2 rfl ?_
    refine x_aload_n dX1_mayBeNext_3 rfl ?_
    refine gfX1_27 rfl dX1_mayBeNext_4 (fun x4 => ?_)
    refine x_icmp_ge (tgt := 45) dX1_mayBeNext_7 (by decide) (fun _ => ?_) (fun _ => ?_)
    · exact x_weak (by exact trivial) (hj45 ())
    · refine x_iload_n dX1_mayBeNext_10 rfl ?_
      refine x_iload_n dX1_mayBeNext_11 rfl ?_
      refine x_ishr dX1_mayBeNext_12 ?_
      refine x_iconst (v := 1) dX1_mayBeNext_13 (by decide) ?_
      refine x_iand dX1_mayBeNext_14 ?_
      refine x_jn (σ := Unit) 39 (fun s5 => [some (va_rf a0), some (.int a1), some (.int a2), some (.int s3)]) (fun s5 => []) (fun s5 => M0) (fun s5 => ?_) (fun j39 hj39 => ?_)
      · refine x_iincN (v := 1) (lo' := fun x6 => [some (va_rf a0), some (.int a1), some (.int a2), some (.int x6)]) (by decide) dX1_mayBeNext_39 rfl (by decide) rfl (fun _ => rfl) (fun x6 => ?_)
        refine x_goto (tgt := 2) dX1_mayBeNext_42 (by decide) ?_
        exact x_weak (by exact ⟨rfl, ⟨rfl, ⟨rfl, ⟨rfl, trivial⟩⟩⟩⟩) (hj2 x6)
      refine x_if_ne (tgt := 39) dX1_mayBeNext_15 (by decide) (fun _ => ?_) (fun _ => ?_)
      · refine x_aload_n dX1_mayBeNext_18 rfl ?_
        refine gfX1_17 rfl dX1_mayBeNext_19 (fun x7 => ?_)
        refine x_iconst (v := 4) dX1_mayBeNext_22 (by decide) ?_
        refine x_aldg (t := 113) (tn := 8) (by decide) (by decide) rfl rfl dX1_mayBeNext_23 (fun x8 => ?_)
        refine x_iload_n dX1_mayBeNext_24 rfl ?_
        refine x_iald dX1_mayBeNext_25 (fun x9 => ?_)
        refine x_aload_n dX1_mayBeNext_26 rfl ?_
        refine gfX1_17 rfl dX1_mayBeNext_27 (fun x10 => ?_)
        refine x_iconst (v := 3) dX1_mayBeNext_30 (by decide) ?_
        refine x_aldg (t := 113) (tn := 8) (by decide) (by decide) rfl rfl dX1_mayBeNext_31 (fun x11 => ?_)
        refine x_iload_n dX1_mayBeNext_32 rfl ?_
        refine x_iald dX1_mayBeNext_33 (fun x12 => ?_)
        refine x_icmp_ge (tgt := 39) dX1_mayBeNext_34 (by decide) (fun _ => ?_) (fun _ => ?_)
        · exact x_weak (by exact ⟨rfl, ⟨rfl, ⟨rfl, ⟨rfl, trivial⟩⟩⟩⟩) (hj39 ())
        · exact x_weak (by exact trivial) (hj37 ())
      · exact x_weak (by exact ⟨rfl, ⟨rfl, ⟨rfl, ⟨rfl, trivial⟩⟩⟩⟩) (hj39 ())
theorem s10 {l : Launch} {d : Nat} {rec : Nat → List Value → Mem → XA} (hS : Nonempty XS) (hs : XSnd l xmt rec d) : Snd1 l 10 (b10 rec) d := by
  intro as M r M' h0
  unfold b10 at h0
  obtain ⟨a0, l1, e1, h1⟩ := aR_inv h0
  obtain ⟨a1, l2, e2, h2⟩ := aI_inv h1
  obtain ⟨a2, l3, e3, h3⟩ := aI_inv h2
  obtain ⟨ez, h⟩ := aZ_inv h3
  subst ez
  subst e3
  subst e2
  subst e1
  exact xmet (M := M) (as := [va_rf a0, .int a1, .int a2]) (lo := [some (va_rf a0), some (.int a1), some (.int a2)]) 10 xq10 xm10 (by rw [xargs_rf, xargs_i, xargs_i, xargs_nil]; exact ⟨rfl, ⟨rfl, ⟨rfl, trivial⟩⟩⟩) (by rw [xargs_rf, xargs_i, xargs_i, xargs_nil]; exact Nat.le_of_ble_eq_true rfl) (fun S G K => x_weak (by exact ⟨rfl, ⟨rfl, ⟨rfl, trivial⟩⟩⟩) (k10 hs a0 a1 a2 M)) h hS
set_option maxRecDepth 100000 in
def c11 (rec : Nat → List Value → Mem → XA) (a0 : Option Nat) (M0 : Mem) : XA :=
  nn a0 <|
  nA 100 M0 ((1000 : Int32)) fun x1 M2 =>
  ptP (3, 7) M2 a0 3 x1 fun M3 =>
  nA 100 M3 ((1000 : Int32)) fun x4 M5 =>
  ptP (3, 7) M5 a0 4 x4 fun M6 =>
  some (.null, M6)
def b11 (rec : Nat → List Value → Mem → XA) (as : List Value) (M0 : Mem) : XA := aR as fun a0 as => aZ as (c11 rec a0 M0)
set_option maxRecDepth 100000 in
set_option maxHeartbeats 4000000 in
theorem k11 {S : XS} {G : XG} {K : Nat × Nat} {l : Launch} {d : Nat} {rec : Nat → List Value → Mem → XA} (hs : XSnd l xmt rec d) (a0 : Option Nat) (M0 : Mem) : Xe S G K l (yX2_init, cX2_init, 1, none) d 0 [some (va_rf a0)] [] M0 (c11 rec a0 M0) := by
  unfold c11
  refine x_aload_n dX2_init_0 rfl ?_
  refine xoiX2 rfl (Nat.le_of_ble_eq_true rfl) dX2_init_1 ?_
  refine x_aload_n dX2_init_4 rfl ?_
  refine x_sipush (v := 1000) dX2_init_5 (by decide) ?_
  refine x_newa100 dX2_init_8 (fun x1 M2 => ?_)
  refine pfX2_9 rfl rfl dX2_init_10 (fun M3 => ?_)
  refine x_aload_n dX2_init_13 rfl ?_
  refine x_sipush (v := 1000) dX2_init_14 (by decide) ?_
  refine x_newa100 dX2_init_17 (fun x4 M5 => ?_)
  refine pfX2_15 rfl rfl dX2_init_19 (fun M6 => ?_)
  exact x_vret rfl dX2_init_22
theorem s11 {l : Launch} {d : Nat} {rec : Nat → List Value → Mem → XA} (hS : Nonempty XS) (hs : XSnd l xmt rec d) : Snd1 l 11 (b11 rec) d := by
  intro as M r M' h0
  unfold b11 at h0
  obtain ⟨a0, l1, e1, h1⟩ := aR_inv h0
  obtain ⟨ez, h⟩ := aZ_inv h1
  subst ez
  subst e1
  exact xmet (M := M) (as := [va_rf a0]) (lo := [some (va_rf a0)]) 11 xq11 xm11 (by rw [xargs_rf, xargs_nil]; exact ⟨rfl, trivial⟩) (by rw [xargs_rf, xargs_nil]; exact Nat.le_of_ble_eq_true rfl) (fun S G K => x_weak (by exact ⟨rfl, trivial⟩) (k11 hs a0 M)) h hS
set_option maxRecDepth 100000 in
def c12 (rec : Nat → List Value → Mem → XA) (a0 : Option Nat) (M0 : Mem) : XA :=
  ptL (3, 7) M0 a0 0 ((0 : Int64)) fun M1 =>
  ptL (3, 7) M1 a0 1 ((1 : Int64)) fun M2 =>
  ptZ (3, 7) M2 a0 2 ((0 : Int32)) fun M3 =>
  ptI (3, 7) M3 a0 5 ((0 : Int32)) fun M4 =>
  some (.null, M4)
def b12 (rec : Nat → List Value → Mem → XA) (as : List Value) (M0 : Mem) : XA := aR as fun a0 as => aZ as (c12 rec a0 M0)
set_option maxRecDepth 100000 in
set_option maxHeartbeats 4000000 in
theorem k12 {S : XS} {G : XG} {K : Nat × Nat} {l : Launch} {d : Nat} {rec : Nat → List Value → Mem → XA} (hs : XSnd l xmt rec d) (a0 : Option Nat) (M0 : Mem) : Xe S G K l (yX2_begin, cX2_begin, 1, none) d 0 [some (va_rf a0)] [] M0 (c12 rec a0 M0) := by
  unfold c12
  refine x_aload_n dX2_begin_0 rfl ?_
  refine x_lconst (v := 0) dX2_begin_1 (by decide) ?_
  refine pfX2_18 rfl dX2_begin_2 (fun M1 => ?_)
  refine x_aload_n dX2_begin_5 rfl ?_
  refine x_lconst (v := 1) dX2_begin_6 (by decide) ?_
  refine pfX2_22 rfl dX2_begin_7 (fun M2 => ?_)
  refine x_aload_n dX2_begin_10 rfl ?_
  refine x_iconst (v := 0) dX2_begin_11 (by decide) ?_
  refine pfX2_25 rfl dX2_begin_12 (fun M3 => ?_)
  refine x_aload_n dX2_begin_15 rfl ?_
  refine x_iconst (v := 0) dX2_begin_16 (by decide) ?_
  refine pfX2_29 rfl dX2_begin_17 (fun M4 => ?_)
  exact x_vret rfl dX2_begin_20
theorem s12 {l : Launch} {d : Nat} {rec : Nat → List Value → Mem → XA} (hS : Nonempty XS) (hs : XSnd l xmt rec d) : Snd1 l 12 (b12 rec) d := by
  intro as M r M' h0
  unfold b12 at h0
  obtain ⟨a0, l1, e1, h1⟩ := aR_inv h0
  obtain ⟨ez, h⟩ := aZ_inv h1
  subst ez
  subst e1
  exact xmet (M := M) (as := [va_rf a0]) (lo := [some (va_rf a0)]) 12 xq12 xm12 (by rw [xargs_rf, xargs_nil]; exact ⟨rfl, trivial⟩) (by rw [xargs_rf, xargs_nil]; exact Nat.le_of_ble_eq_true rfl) (fun S G K => x_weak (by exact ⟨rfl, trivial⟩) (k12 hs a0 M)) h hS
set_option maxRecDepth 100000 in
def c13 (rec : Nat → List Value → Mem → XA) (a0 : Option Nat) (M0 : Mem) : XA :=
  ptI (3, 7) M0 a0 6 ((0 : Int32)) fun M1 =>
  some (.null, M1)
def b13 (rec : Nat → List Value → Mem → XA) (as : List Value) (M0 : Mem) : XA := aR as fun a0 as => aZ as (c13 rec a0 M0)
set_option maxRecDepth 100000 in
set_option maxHeartbeats 4000000 in
theorem k13 {S : XS} {G : XG} {K : Nat × Nat} {l : Launch} {d : Nat} {rec : Nat → List Value → Mem → XA} (hs : XSnd l xmt rec d) (a0 : Option Nat) (M0 : Mem) : Xe S G K l (yX2_beginRow, cX2_beginRow, 1, none) d 0 [some (va_rf a0)] [] M0 (c13 rec a0 M0) := by
  unfold c13
  refine x_aload_n dX2_beginRow_0 rfl ?_
  refine x_iconst (v := 0) dX2_beginRow_1 (by decide) ?_
  refine pfX2_33 rfl dX2_beginRow_2 (fun M1 => ?_)
  exact x_vret rfl dX2_beginRow_5
theorem s13 {l : Launch} {d : Nat} {rec : Nat → List Value → Mem → XA} (hS : Nonempty XS) (hs : XSnd l xmt rec d) : Snd1 l 13 (b13 rec) d := by
  intro as M r M' h0
  unfold b13 at h0
  obtain ⟨a0, l1, e1, h1⟩ := aR_inv h0
  obtain ⟨ez, h⟩ := aZ_inv h1
  subst ez
  subst e1
  exact xmet (M := M) (as := [va_rf a0]) (lo := [some (va_rf a0)]) 13 xq13 xm13 (by rw [xargs_rf, xargs_nil]; exact ⟨rfl, trivial⟩) (by rw [xargs_rf, xargs_nil]; exact Nat.le_of_ble_eq_true rfl) (fun S G K => x_weak (by exact ⟨rfl, trivial⟩) (k13 hs a0 M)) h hS
set_option maxRecDepth 100000 in
def c14 (rec : Nat → List Value → Mem → XA) (a0 : Option Nat) (a1 : Int32) (M0 : Mem) : XA :=
  gtI (3, 7) M0 a0 6 fun x1 =>
  if x1 < ((1000 : Int32)) then (
    gtI (3, 7) M0 a0 6 fun x2 =>
    gtI (3, 7) M0 a0 5 fun x3 =>
    jn (fun (s4 : Mem) =>
      gtI (3, 7) s4 a0 6 fun x5 =>
      ptI (3, 7) s4 a0 6 (x5 + ((1 : Int32))) fun M6 =>
      gtP (3, 7) M6 a0 3 fun x7 =>
      gtI (3, 7) M6 a0 6 fun x8 =>
      alI 100 M6 x7 (x8 - ((1 : Int32))) fun x9 =>
      some (.int x9, M6)) fun j53 =>
    if x2 < x3 then (
      j53 M0) else (
      gtP (3, 7) M0 a0 3 fun x10 =>
      gtI (3, 7) M0 a0 6 fun x11 =>
      asI 100 M0 x10 x11 (((0 : Int32))) fun M12 =>
      gtP (3, 7) M12 a0 4 fun x13 =>
      gtI (3, 7) M12 a0 6 fun x14 =>
      asI 100 M12 x13 x14 a1 fun M15 =>
      gtI (3, 7) M15 a0 6 fun x16 =>
      ptI (3, 7) M15 a0 5 (x16 + ((1 : Int32))) fun M17 =>
      j53 M17)) else (
    some (.int ((0 : Int32)), M0))
def b14 (rec : Nat → List Value → Mem → XA) (as : List Value) (M0 : Mem) : XA := aR as fun a0 as => aI as fun a1 as => aZ as (c14 rec a0 a1 M0)
set_option maxRecDepth 100000 in
set_option maxHeartbeats 4000000 in
theorem k14 {S : XS} {G : XG} {K : Nat × Nat} {l : Launch} {d : Nat} {rec : Nat → List Value → Mem → XA} (hs : XSnd l xmt rec d) (a0 : Option Nat) (a1 : Int32) (M0 : Mem) : Xe S G K l (yX2_next, cX2_next, 2, some .int) d 0 [some (va_rf a0), some (.int a1)] [] M0 (c14 rec a0 a1 M0) := by
  unfold c14
  refine x_aload_n dX2_next_0 rfl ?_
  refine gfX2_33 rfl dX2_next_1 (fun x1 => ?_)
  refine x_sipush (v := 1000) dX2_next_4 (by decide) ?_
  refine x_icmp_lt (tgt := 12) dX2_next_7 (by decide) (fun _ => ?_) (fun _ => ?_)
  · refine x_aload_n dX2_next_12 rfl ?_
    refine gfX2_33 rfl dX2_next_13 (fun x2 => ?_)
    refine x_aload_n dX2_next_16 rfl ?_
    refine gfX2_29 rfl dX2_next_17 (fun x3 => ?_)
    refine x_jn (σ := Mem) 53 (fun s4 => [some (va_rf a0), none]) (fun s4 => []) (fun s4 => s4) (fun s4 => ?_) (fun j53 hj53 => ?_)
    · refine x_aload_n dX2_next_53 rfl ?_
      refine x_dup dX2_next_54 (xc1_r _) ?_
      refine gfX2_33 rfl dX2_next_55 (fun x5 => ?_)
      refine x_iconst (v := 1) dX2_next_58 (by decide) ?_
      refine x_iadd dX2_next_59 ?_
      refine pfX2_33 rfl dX2_next_60 (fun M6 => ?_)
      refine x_aload_n dX2_next_63 rfl ?_
      refine gfX2_9 rfl dX2_next_64 (fun x7 => ?_)
      refine x_aload_n dX2_next_67 rfl ?_
      refine gfX2_33 rfl dX2_next_68 (fun x8 => ?_)
      refine x_iconst (v := 1) dX2_next_71 (by decide) ?_
      refine x_isub dX2_next_72 ?_
      refine x_iald dX2_next_73 (fun x9 => ?_)
      exact x_iret rfl dX2_next_74
    refine x_icmp_lt (tgt := 53) dX2_next_20 (by decide) (fun _ => ?_) (fun _ => ?_)
    · exact x_weak (by exact ⟨rfl, trivial⟩) (hj53 M0)
    · refine x_aload_n dX2_next_23 rfl ?_
      refine gfX2_9 rfl dX2_next_24 (fun x10 => ?_)
      refine x_aload_n dX2_next_27 rfl ?_
      refine gfX2_33 rfl dX2_next_28 (fun x11 => ?_)
      refine x_iconst (v := 0) dX2_next_31 (by decide) ?_
      refine x_iast dX2_next_32 (fun M12 => ?_)
      refine x_aload_n dX2_next_33 rfl ?_
      refine gfX2_15 rfl dX2_next_34 (fun x13 => ?_)
      refine x_aload_n dX2_next_37 rfl ?_
      refine gfX2_33 rfl dX2_next_38 (fun x14 => ?_)
      refine x_iload_n dX2_next_41 rfl ?_
      refine x_iast dX2_next_42 (fun M15 => ?_)
      refine x_aload_n dX2_next_43 rfl ?_
      refine x_aload_n dX2_next_44 rfl ?_
      refine gfX2_33 rfl dX2_next_45 (fun x16 => ?_)
      refine x_iconst (v := 1) dX2_next_48 (by decide) ?_
      refine x_iadd dX2_next_49 ?_
      refine pfX2_29 rfl dX2_next_50 (fun M17 => ?_)
      exact x_weak (by exact ⟨rfl, trivial⟩) (hj53 M17)
  · refine x_iconst (v := 0) dX2_next_10 (by decide) ?_
    exact x_iret rfl dX2_next_11
theorem s14 {l : Launch} {d : Nat} {rec : Nat → List Value → Mem → XA} (hS : Nonempty XS) (hs : XSnd l xmt rec d) : Snd1 l 14 (b14 rec) d := by
  intro as M r M' h0
  unfold b14 at h0
  obtain ⟨a0, l1, e1, h1⟩ := aR_inv h0
  obtain ⟨a1, l2, e2, h2⟩ := aI_inv h1
  obtain ⟨ez, h⟩ := aZ_inv h2
  subst ez
  subst e2
  subst e1
  exact xmet (M := M) (as := [va_rf a0, .int a1]) (lo := [some (va_rf a0), some (.int a1)]) 14 xq14 xm14 (by rw [xargs_rf, xargs_i, xargs_nil]; exact ⟨rfl, ⟨rfl, trivial⟩⟩) (by rw [xargs_rf, xargs_i, xargs_nil]; exact Nat.le_of_ble_eq_true rfl) (fun S G K => x_weak (by exact ⟨rfl, ⟨rfl, trivial⟩⟩) (k14 hs a0 a1 M)) h hS
set_option maxRecDepth 100000 in
def c15_0 (rec : Nat → List Value → Mem → XA) (a0 : Option Nat) (j47 : Mem → XA) : (Mem) → ((Mem) → XA) → XA := fun s10 j0 =>
  gtI (3, 7) s10 a0 5 fun x11 =>
  if x11 ≤ 0 then (
    j47 s10) else (
    gtP (3, 7) s10 a0 3 fun x12 =>
    gtI (3, 7) s10 a0 5 fun x13 =>
    alI 100 s10 x12 (x13 - ((1 : Int32))) fun x14 =>
    gtP (3, 7) s10 a0 4 fun x15 =>
    gtI (3, 7) s10 a0 5 fun x16 =>
    alI 100 s10 x15 (x16 - ((1 : Int32))) fun x17 =>
    if (x14 + ((1 : Int32))) < x17 then (
      j47 s10) else (
      gtI (3, 7) s10 a0 5 fun x18 =>
      ptI (3, 7) s10 a0 5 (x18 - ((1 : Int32))) fun M19 =>
      j0 M19))
set_option maxRecDepth 100000 in
def c15 (rec : Nat → List Value → Mem → XA) (a0 : Option Nat) (M0 : Mem) : XA :=
  jn (fun (s1 : Mem) =>
    gtI (3, 7) s1 a0 5 fun x2 =>
    jn (fun (s3 : Mem) =>
      gtI (3, 7) s3 a0 5 fun x4 =>
      jn (fun (s5 : Int32) =>
        rtZ s5 s3) fun j81 =>
      if x4 ≤ 0 then (
        j81 ((0 : Int32))) else (
        j81 ((1 : Int32)))) fun j69 =>
    if x2 ≤ 0 then (
      j69 s1) else (
      gtP (3, 7) s1 a0 3 fun x6 =>
      gtI (3, 7) s1 a0 5 fun x7 =>
      alI 100 s1 x6 (x7 - ((1 : Int32))) fun x8 =>
      asI 100 s1 x6 (x7 - ((1 : Int32))) ((x8 + ((1 : Int32)))) fun M9 =>
      j69 M9)) fun j47 =>
  lp (c15_0 rec a0 j47) 4294967296 M0
def b15 (rec : Nat → List Value → Mem → XA) (as : List Value) (M0 : Mem) : XA := aR as fun a0 as => aZ as (c15 rec a0 M0)
set_option maxRecDepth 100000 in
set_option maxHeartbeats 4000000 in
theorem k15 {S : XS} {G : XG} {K : Nat × Nat} {l : Launch} {d : Nat} {rec : Nat → List Value → Mem → XA} (hs : XSnd l xmt rec d) (a0 : Option Nat) (M0 : Mem) : Xe S G K l (yX2_nextRow, cX2_nextRow, 1, some .boolean) d 0 [some (va_rf a0)] [] M0 (c15 rec a0 M0) := by
  unfold c15
  refine x_jn (σ := Mem) 47 (fun s1 => [some (va_rf a0)]) (fun s1 => []) (fun s1 => s1) (fun s1 => ?_) (fun j47 hj47 => ?_)
  · refine x_aload_n dX2_nextRow_47 rfl ?_
    refine gfX2_29 rfl dX2_nextRow_48 (fun x2 => ?_)
    refine x_jn (σ := Mem) 69 (fun s3 => [some (va_rf a0)]) (fun s3 => []) (fun s3 => s3) (fun s3 => ?_) (fun j69 hj69 => ?_)
    · refine x_aload_n dX2_nextRow_69 rfl ?_
      refine gfX2_29 rfl dX2_nextRow_70 (fun x4 => ?_)
      refine x_jn (σ := Int32) 81 (fun s5 => [none]) (fun s5 => [.int s5]) (fun s5 => s3) (fun s5 => ?_) (fun j81 hj81 => ?_)
      · exact x_zret rfl dX2_nextRow_81
      refine x_if_le (tgt := 80) dX2_nextRow_73 (by decide) (fun _ => ?_) (fun _ => ?_)
      · refine x_iconst (v := 0) dX2_nextRow_80 (by decide) ?_
        exact x_weak (by exact trivial) (hj81 ((0 : Int32)))
      · refine x_iconst (v := 1) dX2_nextRow_76 (by decide) ?_
        refine x_goto (tgt := 81) dX2_nextRow_77 (by decide) ?_
        exact x_weak (by exact trivial) (hj81 ((1 : Int32)))
    refine x_if_le (tgt := 69) dX2_nextRow_51 (by decide) (fun _ => ?_) (fun _ => ?_)
    · exact x_weak (by exact ⟨rfl, trivial⟩) (hj69 s1)
    · refine x_aload_n dX2_nextRow_54 rfl ?_
      refine gfX2_9 rfl dX2_nextRow_55 (fun x6 => ?_)
      refine x_aload_n dX2_nextRow_58 rfl ?_
      refine gfX2_29 rfl dX2_nextRow_59 (fun x7 => ?_)
      refine x_iconst (v := 1) dX2_nextRow_62 (by decide) ?_
      refine x_isub dX2_nextRow_63 ?_
      refine x_dup2 dX2_nextRow_64 (xc1_i _) (xc1_r _) ?_
      refine x_iald dX2_nextRow_65 (fun x8 => ?_)
      refine x_iconst (v := 1) dX2_nextRow_66 (by decide) ?_
      refine x_iadd dX2_nextRow_67 ?_
      refine x_iast dX2_nextRow_68 (fun M9 => ?_)
      exact x_weak (by exact ⟨rfl, trivial⟩) (hj69 M9)
  refine x_weak (by exact ⟨rfl, trivial⟩) (x_lp (σ := Mem) 0 (fun s10 => [some (va_rf a0)]) (fun s10 => []) (fun s10 => s10) (fun s10 j0 hj0 => ?_) 4294967296 M0)
  · refine x_aload_n dX2_nextRow_0 rfl ?_
    refine gfX2_29 rfl dX2_nextRow_1 (fun x11 => ?_)
    refine x_if_le (tgt := 47) dX2_nextRow_4 (by decide) (fun _ => ?_) (fun _ => ?_)
    · exact x_weak (by exact ⟨rfl, trivial⟩) (hj47 s10)
    · refine x_aload_n dX2_nextRow_7 rfl ?_
      refine gfX2_9 rfl dX2_nextRow_8 (fun x12 => ?_)
      refine x_aload_n dX2_nextRow_11 rfl ?_
      refine gfX2_29 rfl dX2_nextRow_12 (fun x13 => ?_)
      refine x_iconst (v := 1) dX2_nextRow_15 (by decide) ?_
      refine x_isub dX2_nextRow_16 ?_
      refine x_iald dX2_nextRow_17 (fun x14 => ?_)
      refine x_iconst (v := 1) dX2_nextRow_18 (by decide) ?_
      refine x_iadd dX2_nextRow_19 ?_
      refine x_aload_n dX2_nextRow_20 rfl ?_
      refine gfX2_15 rfl dX2_nextRow_21 (fun x15 => ?_)
      refine x_aload_n dX2_nextRow_24 rfl ?_
      refine gfX2_29 rfl dX2_nextRow_25 (fun x16 => ?_)
      refine x_iconst (v := 1) dX2_nextRow_28 (by decide) ?_
      refine x_isub dX2_nextRow_29 ?_
      refine x_iald dX2_nextRow_30 (fun x17 => ?_)
      refine x_icmp_lt (tgt := 47) dX2_nextRow_31 (by decide) (fun _ => ?_) (fun _ => ?_)
      · exact x_weak (by exact ⟨rfl, trivial⟩) (hj47 s10)
      · refine x_aload_n dX2_nextRow_34 rfl ?_
        refine x_dup dX2_nextRow_35 (xc1_r _) ?_
        refine gfX2_29 rfl dX2_nextRow_36 (fun x18 => ?_)
        refine x_iconst (v := 1) dX2_nextRow_39 (by decide) ?_
        refine x_isub dX2_nextRow_40 ?_
        refine pfX2_29 rfl dX2_nextRow_41 (fun M19 => ?_)
        refine x_goto (tgt := 0) dX2_nextRow_44 (by decide) ?_
        exact x_weak (by exact ⟨rfl, trivial⟩) (hj0 M19)
theorem s15 {l : Launch} {d : Nat} {rec : Nat → List Value → Mem → XA} (hS : Nonempty XS) (hs : XSnd l xmt rec d) : Snd1 l 15 (b15 rec) d := by
  intro as M r M' h0
  unfold b15 at h0
  obtain ⟨a0, l1, e1, h1⟩ := aR_inv h0
  obtain ⟨ez, h⟩ := aZ_inv h1
  subst ez
  subst e1
  exact xmet (M := M) (as := [va_rf a0]) (lo := [some (va_rf a0)]) 15 xq15 xm15 (by rw [xargs_rf, xargs_nil]; exact ⟨rfl, trivial⟩) (by rw [xargs_rf, xargs_nil]; exact Nat.le_of_ble_eq_true rfl) (fun S G K => x_weak (by exact ⟨rfl, trivial⟩) (k15 hs a0 M)) h hS
set_option maxRecDepth 100000 in
def c16_4 (rec : Nat → List Value → Mem → XA) (a0 : Option Nat) (M0 : Mem) (j36 : Int64 → XA) : (Int64 × Int32) → ((Int64 × Int32) → XA) → XA := fun s21 j4 =>
  gtI (3, 7) M0 a0 5 fun x22 =>
  if x22 ≤ s21.2 then (
    j36 s21.1) else (
    if 0 < (lg_cmp s21.1 ((1000000000 : Int64))) then (
      j36 s21.1) else (
      gtP (3, 7) M0 a0 4 fun x23 =>
      alI 100 M0 x23 s21.2 fun x24 =>
      lt (s21.1 * x24.toInt64) fun (x25 : Int64) =>
      lt (s21.2 + (1 : Int32)) fun (x26 : Int32) =>
      j4 (x25, x26)))
set_option maxRecDepth 100000 in
def c16 (rec : Nat → List Value → Mem → XA) (a0 : Option Nat) (M0 : Mem) : XA :=
  jn (fun (s1 : Int64) =>
    gtI (3, 7) M0 a0 2 fun x2 =>
    jn (fun (s3 : Int32) =>
      ptZ (3, 7) M0 a0 2 s3 fun M4 =>
      gtI (3, 7) M4 a0 2 fun x5 =>
      if x5 = 0 then (
        gtL (3, 7) M4 a0 0 fun x6 =>
        gtL (3, 7) M4 a0 1 fun x7 =>
        lt ((x6 * s1) + x7) fun (x8 : Int64) =>
        gtL (3, 7) M4 a0 1 fun x9 =>
        lt (x9 * s1) fun (x10 : Int64) =>
        cL (rec 17 [.long x8, .long x10] M4) fun x12 M11 =>
        jn (fun (s13 : Int64) =>
          ptL (3, 7) M11 a0 0 s13 fun M14 =>
          jn (fun (s15 : Int64) =>
            ptL (3, 7) M14 a0 1 s15 fun M16 =>
            gtL (3, 7) M16 a0 1 fun x17 =>
            jn (fun (s18 : Int32) =>
              ptZ (3, 7) M16 a0 2 s18 fun M19 =>
              some (.null, M19)) fun j153 =>
            if (lg_cmp x17 ((1000000000 : Int64))) ≤ 0 then (
              j153 ((0 : Int32))) else (
              j153 ((1 : Int32)))) fun j133 =>
          if (lg_cmp x12 ((0 : Int64))) = 0 then (
            j133 x10) else (
            if x12 = 0 then none else
            j133 (x10 / x12))) fun j112 =>
        if (lg_cmp x12 ((0 : Int64))) = 0 then (
          j112 x8) else (
          if x12 = 0 then none else
          j112 (x8 / x12))) else (
        some (.null, M4))) fun j57 =>
    jn (fun (s20 : Unit) =>
      j57 ((1 : Int32))) fun j52 =>
    if x2 = 0 then (
      if (lg_cmp s1 ((1000000000 : Int64))) ≤ 0 then (
        j57 ((0 : Int32))) else (
        j52 ())) else (
      j52 ())) fun j36 =>
  lp (c16_4 rec a0 M0 j36) 4294967296 ((1 : Int64), (0 : Int32))
def b16 (rec : Nat → List Value → Mem → XA) (as : List Value) (M0 : Mem) : XA := aR as fun a0 as => aZ as (c16 rec a0 M0)
set_option maxRecDepth 100000 in
set_option maxHeartbeats 4000000 in
theorem k16 {S : XS} {G : XG} {K : Nat × Nat} {l : Launch} {d : Nat} {rec : Nat → List Value → Mem → XA} (hs : XSnd l xmt rec d) (a0 : Option Nat) (M0 : Mem) : Xe S G K l (yX2_addRow, cX2_addRow, 9, none) d 0 [some (va_rf a0), none, none, none, none, none, none, none, none] [] M0 (c16 rec a0 M0) := by
  unfold c16
  refine x_lconst (v := 1) dX2_addRow_0 (by decide) ?_
  refine x_lstore_n (lo' := [some (va_rf a0), some (.long ((1 : Int64))), none, none, none, none, none, none, none]) dX2_addRow_1 (by decide) (xok_r rfl) rfl ?_
  refine x_iconst (v := 0) dX2_addRow_2 (by decide) ?_
  refine x_istore_n (lo' := [some (va_rf a0), some (.long ((1 : Int64))), none, some (.int ((0 : Int32))), none, none, none, none, none]) dX2_addRow_3 (by decide) rfl rfl ?_
  refine x_jn (σ := Int64) 36 (fun s1 => [some (va_rf a0), some (.long s1), none, none, none, none, none, none, none]) (fun s1 => []) (fun s1 => M0) (fun s1 => ?_) (fun j36 hj36 => ?_)
  · refine x_aload_n dX2_addRow_36 rfl ?_
    refine x_aload_n dX2_addRow_37 rfl ?_
    refine gfX2_25 rfl dX2_addRow_38 (fun x2 => ?_)
    refine x_jn (σ := Int32) 57 (fun s3 => [some (va_rf a0), some (.long s1), none, none, none, none, none, none, none]) (fun s3 => [.int s3, va_rf a0]) (fun s3 => M0) (fun s3 => ?_) (fun j57 hj57 => ?_)
    · refine pfX2_25 rfl dX2_addRow_57 (fun M4 => ?_)
      refine x_aload_n dX2_addRow_60 rfl ?_
      refine gfX2_25 rfl dX2_addRow_61 (fun x5 => ?_)
      refine x_if_eq (tgt := 68) dX2_addRow_64 (by decide) (fun _ => ?_) (fun _ => ?_)
      · refine x_aload_n dX2_addRow_68 rfl ?_
        refine gfX2_18 rfl dX2_addRow_69 (fun x6 => ?_)
        refine x_lload_n dX2_addRow_72 rfl ?_
        refine x_lmul dX2_addRow_73 ?_
        refine x_aload_n dX2_addRow_74 rfl ?_
        refine gfX2_22 rfl dX2_addRow_75 (fun x7 => ?_)
        refine x_ladd dX2_addRow_78 ?_
        refine x_ltL (fun x8 => ?_)
        refine x_lstore_n (lo' := [some (va_rf a0), some (.long s1), none, some (.long x8), none, none, none, none, none]) dX2_addRow_79 (by decide) rfl rfl ?_
        refine x_aload_n dX2_addRow_80 rfl ?_
        refine gfX2_22 rfl dX2_addRow_81 (fun x9 => ?_)
        refine x_lload_n dX2_addRow_84 rfl ?_
        refine x_lmul dX2_addRow_85 ?_
        refine x_ltL (fun x10 => ?_)
        refine x_lstore (lo' := [some (va_rf a0), some (.long s1), none, some (.long x8), none, some (.long x10), none, none, none]) dX2_addRow_86 (by decide) rfl rfl ?_
        refine x_lload_n dX2_addRow_88 rfl ?_
        refine x_lload dX2_addRow_89 rfl ?_
        refine cmX2_38 rfl hs (Nat.le_of_ble_eq_true rfl) dX2_addRow_91 (fun x12 M11 => ?_)
        refine x_lstore (lo' := [some (va_rf a0), some (.long s1), none, some (.long x8), none, some (.long x10), none, some (.long x12), none]) dX2_addRow_94 (by decide) rfl rfl ?_
        refine x_aload_n dX2_addRow_96 rfl ?_
        refine x_lload dX2_addRow_97 rfl ?_
        refine x_lconst (v := 0) dX2_addRow_99 (by decide) ?_
        refine x_lcmp dX2_addRow_100 ?_
        refine x_jn (σ := Int64) 112 (fun s13 => [some (va_rf a0), none, none, none, none, some (.long x10), none, some (.long x12), none]) (fun s13 => [.long s13, va_rf a0]) (fun s13 => M11) (fun s13 => ?_) (fun j112 hj112 => ?_)
        · refine pfX2_18 rfl dX2_addRow_112 (fun M14 => ?_)
          refine x_aload_n dX2_addRow_115 rfl ?_
          refine x_lload dX2_addRow_116 rfl ?_
          refine x_lconst (v := 0) dX2_addRow_118 (by decide) ?_
          refine x_lcmp dX2_addRow_119 ?_
          refine x_jn (σ := Int64) 133 (fun s15 => [some (va_rf a0), none, none, none, none, none, none, none, none]) (fun s15 => [.long s15, va_rf a0]) (fun s15 => M14) (fun s15 => ?_) (fun j133 hj133 => ?_)
          · refine pfX2_22 rfl dX2_addRow_133 (fun M16 => ?_)
            refine x_aload_n dX2_addRow_136 rfl ?_
            refine x_aload_n dX2_addRow_137 rfl ?_
            refine gfX2_22 rfl dX2_addRow_138 (fun x17 => ?_)
            refine x_ldc2 (v := 1000000000) dX2_addRow_141 lk_constantLong_X2_36 ?_
            refine x_lcmp dX2_addRow_144 ?_
            refine x_jn (σ := Int32) 153 (fun s18 => [none, none, none, none, none, none, none, none, none]) (fun s18 => [.int s18, va_rf a0]) (fun s18 => M16) (fun s18 => ?_) (fun j153 hj153 => ?_)
            · refine pfX2_25 rfl dX2_addRow_153 (fun M19 => ?_)
              exact x_vret rfl dX2_addRow_156
            refine x_if_le (tgt := 152) dX2_addRow_145 (by decide) (fun _ => ?_) (fun _ => ?_)
            · refine x_iconst (v := 0) dX2_addRow_152 (by decide) ?_
              exact x_weak (by exact trivial) (hj153 ((0 : Int32)))
            · refine x_iconst (v := 1) dX2_addRow_148 (by decide) ?_
              refine x_goto (tgt := 153) dX2_addRow_149 (by decide) ?_
              exact x_weak (by exact trivial) (hj153 ((1 : Int32)))
          refine x_if_ne (tgt := 128) dX2_addRow_120 (by decide) (fun _ => ?_) (fun _ => ?_)
          · refine x_lload dX2_addRow_123 rfl ?_
            refine x_goto (tgt := 133) dX2_addRow_125 (by decide) ?_
            exact x_weak (by exact ⟨rfl, trivial⟩) (hj133 x10)
          · refine x_lload dX2_addRow_128 rfl ?_
            refine x_lload dX2_addRow_130 rfl ?_
            refine x_ldiv dX2_addRow_132 (fun _ => ?_)
            exact x_weak (by exact ⟨rfl, trivial⟩) (hj133 (x10 / x12))
        refine x_if_ne (tgt := 108) dX2_addRow_101 (by decide) (fun _ => ?_) (fun _ => ?_)
        · refine x_lload_n dX2_addRow_104 rfl ?_
          refine x_goto (tgt := 112) dX2_addRow_105 (by decide) ?_
          exact x_weak (by exact ⟨rfl, ⟨rfl, ⟨rfl, trivial⟩⟩⟩) (hj112 x8)
        · refine x_lload_n dX2_addRow_108 rfl ?_
          refine x_lload dX2_addRow_109 rfl ?_
          refine x_ldiv dX2_addRow_111 (fun _ => ?_)
          exact x_weak (by exact ⟨rfl, ⟨rfl, ⟨rfl, trivial⟩⟩⟩) (hj112 (x8 / x12))
      · exact x_vret rfl dX2_addRow_67
    refine x_jn (σ := Unit) 52 (fun s20 => [some (va_rf a0), some (.long s1), none, none, none, none, none, none, none]) (fun s20 => [va_rf a0]) (fun s20 => M0) (fun s20 => ?_) (fun j52 hj52 => ?_)
    · refine x_iconst (v := 1) dX2_addRow_52 (by decide) ?_
      refine x_goto (tgt := 57) dX2_addRow_53 (by decide) ?_
      exact x_weak (by exact ⟨rfl, ⟨rfl, trivial⟩⟩) (hj57 ((1 : Int32)))
    refine x_if_ne (tgt := 52) dX2_addRow_41 (by decide) (fun _ => ?_) (fun _ => ?_)
    · refine x_lload_n dX2_addRow_44 rfl ?_
      refine x_ldc2 (v := 1000000000) dX2_addRow_45 lk_constantLong_X2_36 ?_
      refine x_lcmp dX2_addRow_48 ?_
      refine x_if_le (tgt := 56) dX2_addRow_49 (by decide) (fun _ => ?_) (fun _ => ?_)
      · refine x_iconst (v := 0) dX2_addRow_56 (by decide) ?_
        exact x_weak (by exact ⟨rfl, ⟨rfl, trivial⟩⟩) (hj57 ((0 : Int32)))
      · exact x_weak (by exact ⟨rfl, ⟨rfl, trivial⟩⟩) (hj52 ())
    · exact x_weak (by exact ⟨rfl, ⟨rfl, trivial⟩⟩) (hj52 ())
  refine x_weak (by exact ⟨rfl, ⟨rfl, ⟨rfl, trivial⟩⟩⟩) (x_lp (σ := Int64 × Int32) 4 (fun s21 => [some (va_rf a0), some (.long s21.1), none, some (.int s21.2), none, none, none, none, none]) (fun s21 => []) (fun s21 => M0) (fun s21 j4 hj4 => ?_) 4294967296 ((1 : Int64), (0 : Int32)))
  · refine x_iload_n dX2_addRow_4 rfl ?_
    refine x_aload_n dX2_addRow_5 rfl ?_
    refine gfX2_29 rfl dX2_addRow_6 (fun x22 => ?_)
    refine x_icmp_ge (tgt := 36) dX2_addRow_9 (by decide) (fun _ => ?_) (fun _ => ?_)
    · exact x_weak (by exact ⟨rfl, ⟨rfl, trivial⟩⟩) (hj36 s21.1)
    · refine x_lload_n dX2_addRow_12 rfl ?_
      refine x_ldc2 (v := 1000000000) dX2_addRow_13 lk_constantLong_X2_36 ?_
      refine x_lcmp dX2_addRow_16 ?_
      refine x_if_gt (tgt := 36) dX2_addRow_17 (by decide) (fun _ => ?_) (fun _ => ?_)
      · exact x_weak (by exact ⟨rfl, ⟨rfl, trivial⟩⟩) (hj36 s21.1)
      · refine x_lload_n dX2_addRow_20 rfl ?_
        refine x_aload_n dX2_addRow_21 rfl ?_
        refine gfX2_15 rfl dX2_addRow_22 (fun x23 => ?_)
        refine x_iload_n dX2_addRow_25 rfl ?_
        refine x_iald dX2_addRow_26 (fun x24 => ?_)
        refine x_i2l dX2_addRow_27 ?_
        refine x_lmul dX2_addRow_28 ?_
        refine x_ltL (fun x25 => ?_)
        refine x_lstore_n (lo' := [some (va_rf a0), some (.long x25), none, some (.int s21.2), none, none, none, none, none]) dX2_addRow_29 (by decide) (xok_r rfl) rfl ?_
        refine x_iincN (v := 1) (lo' := fun x26 => [some (va_rf a0), some (.long x25), none, some (.int x26), none, none, none, none, none]) (by decide) dX2_addRow_30 rfl (by decide) rfl (fun _ => rfl) (fun x26 => ?_)
        refine x_goto (tgt := 4) dX2_addRow_33 (by decide) ?_
        exact x_weak (by exact ⟨rfl, ⟨rfl, ⟨rfl, trivial⟩⟩⟩) (hj4 (x25, x26))
theorem s16 {l : Launch} {d : Nat} {rec : Nat → List Value → Mem → XA} (hS : Nonempty XS) (hs : XSnd l xmt rec d) : Snd1 l 16 (b16 rec) d := by
  intro as M r M' h0
  unfold b16 at h0
  obtain ⟨a0, l1, e1, h1⟩ := aR_inv h0
  obtain ⟨ez, h⟩ := aZ_inv h1
  subst ez
  subst e1
  exact xmet (M := M) (as := [va_rf a0]) (lo := [some (va_rf a0)]) 16 xq16 xm16 (by rw [xargs_rf, xargs_nil]; exact ⟨rfl, trivial⟩) (by rw [xargs_rf, xargs_nil]; exact Nat.le_of_ble_eq_true rfl) (fun S G K => x_weak (by exact ⟨rfl, trivial⟩) (k16 hs a0 M)) h hS
