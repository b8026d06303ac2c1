set_option maxRecDepth 100000 in
def c17_9 (rec : Nat → List Value → Mem → XA) (j44 : Int64 → XA) : (Int64 × Int64 × Int32) → ((Int64 × Int64 × Int32) → XA) → XA := fun s2 j9 =>
  if ((100 : Int32)) ≤ s2.2.2 then (
    j44 s2.1) else (
    if (lg_cmp s2.2.1 ((0 : Int64))) = 0 then (
      j44 s2.1) else (
      if s2.2.1 = 0 then none else
      lt (lrem s2.1 s2.2.1) fun (x3 : Int64) =>
      lt (s2.2.2 + (1 : Int32)) fun (x4 : Int32) =>
      j9 (s2.2.1, x3, x4)))
set_option maxRecDepth 100000 in
def c17 (rec : Nat → List Value → Mem → XA) (a0 : Int64) (a1 : Int64) (M0 : Mem) : XA :=
  jn (fun (s1 : Int64) =>
    some (.long s1, M0)) fun j44 =>
  lp (c17_9 rec j44) 4294967296 (a0, a1, (0 : Int32))
def b17 (rec : Nat → List Value → Mem → XA) (as : List Value) (M0 : Mem) : XA := aL as fun a0 as => aL as fun a1 as => aZ as (c17 rec a0 a1 M0)
set_option maxRecDepth 100000 in
set_option maxHeartbeats 4000000 in
theorem k17 {S : XS} {G : XG} {K : Nat × Nat} {l : Launch} {d : Nat} {rec : Nat → List Value → Mem → XA} (hs : XSnd l xmt rec d) (a0 : Int64) (a1 : Int64) (M0 : Mem) : Xe S G K l (yX2_commonDivisor, cX2_commonDivisor, 11, some .long) d 0 [some (.long a0), none, some (.long a1), none, none, none, none, none, none, none, none] [] M0 (c17 rec a0 a1 M0) := by
  unfold c17
  refine x_lload_n dX2_commonDivisor_0 rfl ?_
  refine x_lstore (lo' := [some (.long a0), none, some (.long a1), none, some (.long a0), none, none, none, none, none, none]) dX2_commonDivisor_1 (by decide) rfl rfl ?_
  refine x_lload_n dX2_commonDivisor_3 rfl ?_
  refine x_lstore (lo' := [some (.long a0), none, some (.long a1), none, some (.long a0), none, some (.long a1), none, none, none, none]) dX2_commonDivisor_4 (by decide) rfl rfl ?_
  refine x_iconst (v := 0) dX2_commonDivisor_6 (by decide) ?_
  refine x_istore (lo' := [some (.long a0), none, some (.long a1), none, some (.long a0), none, some (.long a1), none, some (.int ((0 : Int32))), none, none]) dX2_commonDivisor_7 (by decide) rfl rfl ?_
  refine x_jn (σ := Int64) 44 (fun s1 => [none, none, none, none, some (.long s1), none, none, none, none, none, none]) (fun s1 => []) (fun s1 => M0) (fun s1 => ?_) (fun j44 hj44 => ?_)
  · refine x_lload dX2_commonDivisor_44 rfl ?_
    exact x_lret rfl dX2_commonDivisor_46
  refine x_weak (by exact ⟨rfl, ⟨rfl, ⟨rfl, trivial⟩⟩⟩) (x_lp (σ := Int64 × Int64 × Int32) 9 (fun s2 => [none, none, none, none, some (.long s2.1), none, some (.long s2.2.1), none, some (.int s2.2.2), none, none]) (fun s2 => []) (fun s2 => M0) (fun s2 j9 hj9 => ?_) 4294967296 (a0, a1, (0 : Int32)))
  · refine x_iload dX2_commonDivisor_9 rfl ?_
    refine x_bipush (v := 100) dX2_commonDivisor_11 (by decide) ?_
    refine x_icmp_ge (tgt := 44) dX2_commonDivisor_13 (by decide) (fun _ => ?_) (fun _ => ?_)
    · exact x_weak (by exact ⟨rfl, trivial⟩) (hj44 s2.1)
    · refine x_lload dX2_commonDivisor_16 rfl ?_
      refine x_lconst (v := 0) dX2_commonDivisor_18 (by decide) ?_
      refine x_lcmp dX2_commonDivisor_19 ?_
      refine x_if_eq (tgt := 44) dX2_commonDivisor_20 (by decide) (fun _ => ?_) (fun _ => ?_)
      · exact x_weak (by exact ⟨rfl, trivial⟩) (hj44 s2.1)
      · refine x_lload dX2_commonDivisor_23 rfl ?_
        refine x_lload dX2_commonDivisor_25 rfl ?_
        refine x_lrem dX2_commonDivisor_27 (fun _ => ?_)
        refine x_ltL (fun x3 => ?_)
        refine x_lstore (lo' := [none, none, none, none, some (.long s2.1), none, some (.long s2.2.1), none, some (.int s2.2.2), some (.long x3), none]) dX2_commonDivisor_28 (by decide) rfl rfl ?_
        refine x_lload dX2_commonDivisor_30 rfl ?_
        refine x_lstore (lo' := [none, none, none, none, some (.long s2.2.1), none, some (.long s2.2.1), none, some (.int s2.2.2), some (.long x3), none]) dX2_commonDivisor_32 (by decide) rfl rfl ?_
        refine x_lload dX2_commonDivisor_34 rfl ?_
        refine x_lstore (lo' := [none, none, none, none, some (.long s2.2.1), none, some (.long x3), none, some (.int s2.2.2), some (.long x3), none]) dX2_commonDivisor_36 (by decide) rfl rfl ?_
        refine x_iincN (v := 1) (lo' := fun x4 => [none, none, none, none, some (.long s2.2.1), none, some (.long x3), none, some (.int x4), some (.long x3), none]) (by decide) dX2_commonDivisor_38 rfl (by decide) rfl (fun _ => rfl) (fun x4 => ?_)
        refine x_goto (tgt := 9) dX2_commonDivisor_41 (by decide) ?_
        exact x_weak (by exact ⟨rfl, ⟨rfl, ⟨rfl, trivial⟩⟩⟩) (hj9 (s2.2.1, x3, x4))
theorem s17 {l : Launch} {d : Nat} {rec : Nat → List Value → Mem → XA} (hS : Nonempty XS) (hs : XSnd l xmt rec d) : Snd1 l 17 (b17 rec) d := by
  intro as M r M' h0
  unfold b17 at h0
  obtain ⟨a0, l1, e1, h1⟩ := aL_inv h0
  obtain ⟨a1, l2, e2, h2⟩ := aL_inv h1
  obtain ⟨ez, h⟩ := aZ_inv h2
  subst ez
  subst e2
  subst e1
  exact xmet (M := M) (as := [.long a0, .long a1]) (lo := [some (.long a0), none, some (.long a1)]) 17 xq17 xm17 (by rw [xargs_l, xargs_l, xargs_nil]; exact ⟨rfl, ⟨rfl, trivial⟩⟩) (by rw [xargs_l, xargs_l, xargs_nil]; exact Nat.le_of_ble_eq_true rfl) (fun S G K => x_weak (by exact ⟨rfl, ⟨rfl, trivial⟩⟩) (k17 hs a0 a1 M)) h hS
set_option maxRecDepth 100000 in
def c18_83 (rec : Nat → List Value → Mem → XA) (a0 : Option Nat) (j108 : Mem → XA) : (Int32 × Mem) → ((Int32 × Mem) → XA) → XA := fun s26 j83 =>
  if ((8 : Int32)) ≤ s26.1 then (
    j108 s26.2) else (
    gtP (4, 22) s26.2 a0 7 fun x27 =>
    nO (10, 9) s26.2 fun x28 M29 =>
    vC (10, 9) M29 x28 <|
    cV (rec 120 [va_rf x28] M29) fun M30 =>
    asP 112 M30 x27 s26.1 x28 fun M31 =>
    lt (s26.1 + (1 : Int32)) fun (x32 : Int32) =>
    j83 (x32, M31))
set_option maxRecDepth 100000 in
def c18 (rec : Nat → List Value → Mem → XA) (a0 : Option Nat) (M0 : Mem) : XA :=
  nn a0 <|
  nO (5, 5) M0 fun x1 M2 =>
  vC (5, 5) M2 x1 <|
  cV (rec 47 [va_rf x1] M2) fun M3 =>
  ptP (4, 22) M3 a0 0 x1 fun M4 =>
  ptI (4, 22) M4 a0 1 ((200 : Int32)) fun M5 =>
  ptI (4, 22) M5 a0 2 ((1 : Int32)) fun M6 =>
  nA 112 M6 ((8 : Int32)) fun x7 M8 =>
  ptP (4, 22) M8 a0 7 x7 fun M9 =>
  nA 111 M9 ((2 : Int32)) fun x10 M11 =>
  ptP (4, 22) M11 a0 8 x10 fun M12 =>
  nA 100 M12 ((2520 : Int32)) fun x13 M14 =>
  ptP (4, 22) M14 a0 11 x13 fun M15 =>
  nAA 113 100 M15 ((12 : Int32)) ((4 : Int32)) fun x16 M17 =>
  ptP (4, 22) M17 a0 13 x16 fun M18 =>
  nA 100 M18 ((9600 : Int32)) fun x19 M20 =>
  ptP (4, 22) M20 a0 16 x19 fun M21 =>
  nA 100 M21 ((16 : Int32)) fun x22 M23 =>
  ptP (4, 22) M23 a0 17 x22 fun M24 =>
  jn (fun (s25 : Mem) =>
    some (.null, s25)) fun j108 =>
  lp (c18_83 rec a0 j108) 4294967296 ((0 : Int32), M24)
def b18 (rec : Nat → List Value → Mem → XA) (as : List Value) (M0 : Mem) : XA := aR as fun a0 as => aZ as (c18 rec a0 M0)
set_option maxRecDepth 100000 in
set_option maxHeartbeats 4000000 in
theorem k18 {S : XS} {G : XG} {K : Nat × Nat} {l : Launch} {d : Nat} {rec : Nat → List Value → Mem → XA} (hs : XSnd l xmt rec d) (a0 : Option Nat) (M0 : Mem) : Xe S G K l (yX3_init, cX3_init, 2, none) d 0 [some (va_rf a0), none] [] M0 (c18 rec a0 M0) := by
  unfold c18
  refine x_aload_n dX3_init_0 rfl ?_
  refine xoiX3 rfl (Nat.le_of_ble_eq_true rfl) dX3_init_1 ?_
  refine x_aload_n dX3_init_4 rfl ?_
  refine nwX3_9 rfl dX3_init_5 (fun x1 M2 => ?_)
  refine x_dup dX3_init_8 (xc1_r _) ?_
  refine cmX3_11 rfl hs (Nat.le_of_ble_eq_true rfl) dX3_init_9 (fun M3 => ?_)
  refine pfX3_12 rfl rfl dX3_init_12 (fun M4 => ?_)
  refine x_aload_n dX3_init_15 rfl ?_
  refine x_sipush (v := 200) dX3_init_16 (by decide) ?_
  refine pfX3_18 rfl dX3_init_19 (fun M5 => ?_)
  refine x_aload_n dX3_init_22 rfl ?_
  refine x_iconst (v := 1) dX3_init_23 (by decide) ?_
  refine pfX3_22 rfl dX3_init_24 (fun M6 => ?_)
  refine x_aload_n dX3_init_27 rfl ?_
  refine x_bipush (v := 8) dX3_init_28 (by decide) ?_
  refine x_newq (t := 112) (tn := 7) (C := "TestHouse$Twin") (by decide) (by decide) rfl lk_classLink_X3_25 xov112 dX3_init_30 (fun x7 M8 => ?_)
  refine pfX3_27 rfl rfl dX3_init_33 (fun M9 => ?_)
  refine x_aload_n dX3_init_36 rfl ?_
  refine x_iconst (v := 2) dX3_init_37 (by decide) ?_
  refine x_newq (t := 111) (tn := 6) (C := "TestHouse$Parcel") (by decide) (by decide) rfl lk_classLink_X3_31 xov111 dX3_init_38 (fun x10 M11 => ?_)
  refine pfX3_33 rfl rfl dX3_init_41 (fun M12 => ?_)
  refine x_aload_n dX3_init_44 rfl ?_
  refine x_sipush (v := 2520) dX3_init_45 (by decide) ?_
  refine x_newa100 dX3_init_48 (fun x13 M14 => ?_)
  refine pfX3_37 rfl rfl dX3_init_50 (fun M15 => ?_)
  refine x_aload_n dX3_init_53 rfl ?_
  refine x_bipush (v := 12) dX3_init_54 (by decide) ?_
  refine x_iconst (v := 4) dX3_init_56 (by decide) ?_
  refine x_mna113 lk_classLink_X3_41 dX3_init_57 (fun x16 M17 => ?_)
  refine pfX3_43 rfl rfl dX3_init_61 (fun M18 => ?_)
  refine x_aload_n dX3_init_64 rfl ?_
  refine x_sipush (v := 9600) dX3_init_65 (by decide) ?_
  refine x_newa100 dX3_init_68 (fun x19 M20 => ?_)
  refine pfX3_46 rfl rfl dX3_init_70 (fun M21 => ?_)
  refine x_aload_n dX3_init_73 rfl ?_
  refine x_bipush (v := 16) dX3_init_74 (by decide) ?_
  refine x_newa100 dX3_init_76 (fun x22 M23 => ?_)
  refine pfX3_49 rfl rfl dX3_init_78 (fun M24 => ?_)
  refine x_iconst (v := 0) dX3_init_81 (by decide) ?_
  refine x_istore_n (lo' := [some (va_rf a0), some (.int ((0 : Int32)))]) dX3_init_82 (by decide) (xok_r rfl) rfl ?_
  refine x_jn (σ := Mem) 108 (fun s25 => [none, none]) (fun s25 => []) (fun s25 => s25) (fun s25 => ?_) (fun j108 hj108 => ?_)
  · exact x_vret rfl dX3_init_108
  refine x_weak (by exact ⟨rfl, ⟨rfl, trivial⟩⟩) (x_lp (σ := Int32 × Mem) 83 (fun s26 => [some (va_rf a0), some (.int s26.1)]) (fun s26 => []) (fun s26 => s26.2) (fun s26 j83 hj83 => ?_) 4294967296 ((0 : Int32), M24))
  · refine x_iload_n dX3_init_83 rfl ?_
    refine x_bipush (v := 8) dX3_init_84 (by decide) ?_
    refine x_icmp_ge (tgt := 108) dX3_init_86 (by decide) (fun _ => ?_) (fun _ => ?_)
    · exact x_weak (by exact trivial) (hj108 s26.2)
    · refine x_aload_n dX3_init_89 rfl ?_
      refine gfX3_27 rfl dX3_init_90 (fun x27 => ?_)
      refine x_iload_n dX3_init_93 rfl ?_
      refine nwX3_25 rfl dX3_init_94 (fun x28 M29 => ?_)
      refine x_dup dX3_init_97 (xc1_r _) ?_
      refine cmX3_52 rfl hs (Nat.le_of_ble_eq_true rfl) dX3_init_98 (fun M30 => ?_)
      refine x_aast112 dX3_init_101 (fun M31 => ?_)
      refine x_iincN (v := 1) (lo' := fun x32 => [some (va_rf a0), some (.int x32)]) (by decide) dX3_init_102 rfl (by decide) (xok_r rfl) (fun _ => rfl) (fun x32 => ?_)
      refine x_goto (tgt := 83) dX3_init_105 (by decide) ?_
      exact x_weak (by exact ⟨rfl, ⟨rfl, trivial⟩⟩) (hj83 (x32, M31))
theorem s18 {l : Launch} {d : Nat} {rec : Nat → List Value → Mem → XA} (hS : Nonempty XS) (hs : XSnd l xmt rec d) : Snd1 l 18 (b18 rec) d := by
  intro as M r M' h0
  unfold b18 at h0
  obtain ⟨a0, l1, e1, h1⟩ := aR_inv h0
  obtain ⟨ez, h⟩ := aZ_inv h1
  subst ez
  subst e1
  exact xmet (M := M) (as := [va_rf a0]) (lo := [some (va_rf a0)]) 18 xq18 xm18 (by rw [xargs_rf, xargs_nil]; exact ⟨rfl, trivial⟩) (by rw [xargs_rf, xargs_nil]; exact Nat.le_of_ble_eq_true rfl) (fun S G K => x_weak (by exact ⟨rfl, trivial⟩) (k18 hs a0 M)) h hS
set_option maxRecDepth 100000 in
def c19 (rec : Nat → List Value → Mem → XA) (a0 : Option Nat) (a1 : Option Nat) (a2 : Int32) (M0 : Mem) : XA :=
  gtP (4, 22) M0 a0 8 fun x1 =>
  asP 111 M0 x1 ((0 : Int32)) a1 fun M2 =>
  gtP (4, 22) M2 a0 8 fun x3 =>
  asP 111 M2 x3 ((1 : Int32)) none fun M4 =>
  ptP (4, 22) M4 a0 9 none fun M5 =>
  ptI (4, 22) M5 a0 10 a2 fun M6 =>
  ptI (4, 22) M6 a0 3 ((-2 : Int32)) fun M7 =>
  ptP (4, 22) M7 a0 4 none fun M8 =>
  ptI (4, 22) M8 a0 6 ((0 : Int32)) fun M9 =>
  some (.null, M9)
def b19 (rec : Nat → List Value → Mem → XA) (as : List Value) (M0 : Mem) : XA := aR as fun a0 as => aR as fun a1 as => aI as fun a2 as => aZ as (c19 rec a0 a1 a2 M0)
set_option maxRecDepth 100000 in
set_option maxHeartbeats 4000000 in
theorem k19 {S : XS} {G : XG} {K : Nat × Nat} {l : Launch} {d : Nat} {rec : Nat → List Value → Mem → XA} (hs : XSnd l xmt rec d) (a0 : Option Nat) (a1 : Option Nat) (a2 : Int32) (M0 : Mem) : Xe S G K l (yX3_prepare, cX3_prepare, 3, none) d 0 [some (va_rf a0), some (va_rf a1), some (.int a2)] [] M0 (c19 rec a0 a1 a2 M0) := by
  unfold c19
  refine x_aload_n dX3_prepare_0 rfl ?_
  refine gfX3_33 rfl dX3_prepare_1 (fun x1 => ?_)
  refine x_iconst (v := 0) dX3_prepare_4 (by decide) ?_
  refine x_aload_n dX3_prepare_5 rfl ?_
  refine x_aast111 dX3_prepare_6 (fun M2 => ?_)
  refine x_aload_n dX3_prepare_7 rfl ?_
  refine gfX3_33 rfl dX3_prepare_8 (fun x3 => ?_)
  refine x_iconst (v := 1) dX3_prepare_11 (by decide) ?_
  refine x_null dX3_prepare_12 ?_
  refine x_aast111 dX3_prepare_13 (fun M4 => ?_)
  refine x_aload_n dX3_prepare_14 rfl ?_
  refine x_null dX3_prepare_15 ?_
  refine pfX3_53 rfl dX3_prepare_16 (fun M5 => ?_)
  refine x_aload_n dX3_prepare_19 rfl ?_
  refine x_iload_n dX3_prepare_20 rfl ?_
  refine pfX3_57 rfl dX3_prepare_21 (fun M6 => ?_)
  refine x_aload_n dX3_prepare_24 rfl ?_
  refine x_bipush (v := -2) dX3_prepare_25 (by decide) ?_
  refine pfX3_60 rfl dX3_prepare_27 (fun M7 => ?_)
  refine x_aload_n dX3_prepare_30 rfl ?_
  refine x_null dX3_prepare_31 ?_
  refine pfX3_63 rfl dX3_prepare_32 (fun M8 => ?_)
  refine x_aload_n dX3_prepare_35 rfl ?_
  refine x_iconst (v := 0) dX3_prepare_36 (by decide) ?_
  refine pfX3_67 rfl dX3_prepare_37 (fun M9 => ?_)
  exact x_vret rfl dX3_prepare_40
theorem s19 {l : Launch} {d : Nat} {rec : Nat → List Value → Mem → XA} (hS : Nonempty XS) (hs : XSnd l xmt rec d) : Snd1 l 19 (b19 rec) d := by
  intro as M r M' h0
  unfold b19 at h0
  obtain ⟨a0, l1, e1, h1⟩ := aR_inv h0
  obtain ⟨a1, l2, e2, h2⟩ := aR_inv h1
  obtain ⟨a2, l3, e3, h3⟩ := aI_inv h2
  obtain ⟨ez, h⟩ := aZ_inv h3
  subst ez
  subst e3
  subst e2
  subst e1
  exact xmet (M := M) (as := [va_rf a0, va_rf a1, .int a2]) (lo := [some (va_rf a0), some (va_rf a1), some (.int a2)]) 19 xq19 xm19 (by rw [xargs_rf, xargs_rf, xargs_i, xargs_nil]; exact ⟨rfl, ⟨rfl, ⟨rfl, trivial⟩⟩⟩) (by rw [xargs_rf, xargs_rf, xargs_i, xargs_nil]; exact Nat.le_of_ble_eq_true rfl) (fun S G K => x_weak (by exact ⟨rfl, ⟨rfl, ⟨rfl, trivial⟩⟩⟩) (k19 hs a0 a1 a2 M)) h hS
set_option maxRecDepth 100000 in
def c20 (rec : Nat → List Value → Mem → XA) (a0 : Option Nat) (a1 : Option Nat) (M0 : Mem) : XA :=
  ptP (4, 22) M0 a0 9 a1 fun M1 =>
  gtP (4, 22) M1 a0 8 fun x2 =>
  gtP (1, 4) M1 a1 1 fun x3 =>
  asP 111 M1 x2 ((1 : Int32)) x3 fun M4 =>
  some (.null, M4)
def b20 (rec : Nat → List Value → Mem → XA) (as : List Value) (M0 : Mem) : XA := aR as fun a0 as => aR as fun a1 as => aZ as (c20 rec a0 a1 M0)
set_option maxRecDepth 100000 in
set_option maxHeartbeats 4000000 in
theorem k20 {S : XS} {G : XG} {K : Nat × Nat} {l : Launch} {d : Nat} {rec : Nat → List Value → Mem → XA} (hs : XSnd l xmt rec d) (a0 : Option Nat) (a1 : Option Nat) (M0 : Mem) : Xe S G K l (yX3_takeBuild, cX3_takeBuild, 2, none) d 0 [some (va_rf a0), some (va_rf a1)] [] M0 (c20 rec a0 a1 M0) := by
  unfold c20
  refine x_aload_n dX3_takeBuild_0 rfl ?_
  refine x_aload_n dX3_takeBuild_1 rfl ?_
  refine pfX3_53 rfl dX3_takeBuild_2 (fun M1 => ?_)
  refine x_aload_n dX3_takeBuild_5 rfl ?_
  refine gfX3_33 rfl dX3_takeBuild_6 (fun x2 => ?_)
  refine x_iconst (v := 1) dX3_takeBuild_9 (by decide) ?_
  refine x_aload_n dX3_takeBuild_10 rfl ?_
  refine gfX3_70 rfl dX3_takeBuild_11 (fun x3 => ?_)
  refine x_aast111 dX3_takeBuild_14 (fun M4 => ?_)
  exact x_vret rfl dX3_takeBuild_15
theorem s20 {l : Launch} {d : Nat} {rec : Nat → List Value → Mem → XA} (hS : Nonempty XS) (hs : XSnd l xmt rec d) : Snd1 l 20 (b20 rec) d := by
  intro as M r M' h0
  unfold b20 at h0
  obtain ⟨a0, l1, e1, h1⟩ := aR_inv h0
  obtain ⟨a1, l2, e2, h2⟩ := aR_inv h1
  obtain ⟨ez, h⟩ := aZ_inv h2
  subst ez
  subst e2
  subst e1
  exact xmet (M := M) (as := [va_rf a0, va_rf a1]) (lo := [some (va_rf a0), some (va_rf a1)]) 20 xq20 xm20 (by rw [xargs_rf, xargs_rf, xargs_nil]; exact ⟨rfl, ⟨rfl, trivial⟩⟩) (by rw [xargs_rf, xargs_rf, xargs_nil]; exact Nat.le_of_ble_eq_true rfl) (fun S G K => x_weak (by exact ⟨rfl, ⟨rfl, trivial⟩⟩) (k20 hs a0 a1 M)) h hS
set_option maxRecDepth 100000 in
def c21_7 (rec : Nat → List Value → Mem → XA) (a0 : Option Nat) (j29 : Mem → XA) : (Int32 × Mem) → ((Int32 × Mem) → XA) → XA := fun s3 j7 =>
  if ((8 : Int32)) ≤ s3.1 then (
    j29 s3.2) else (
    gtP (4, 22) s3.2 a0 7 fun x4 =>
    alP 112 s3.2 x4 s3.1 fun x5 =>
    ptI (10, 9) s3.2 x5 4 ((0 : Int32)) fun M6 =>
    lt (s3.1 + (1 : Int32)) fun (x7 : Int32) =>
    j7 (x7, M6))
set_option maxRecDepth 100000 in
def c21 (rec : Nat → List Value → Mem → XA) (a0 : Option Nat) (a1 : Int32) (M0 : Mem) : XA :=
  ptI (4, 22) M0 a0 6 a1 fun M1 =>
  jn (fun (s2 : Mem) =>
    some (.null, s2)) fun j29 =>
  lp (c21_7 rec a0 j29) 4294967296 ((0 : Int32), M1)
def b21 (rec : Nat → List Value → Mem → XA) (as : List Value) (M0 : Mem) : XA := aR as fun a0 as => aI as fun a1 as => aZ as (c21 rec a0 a1 M0)
set_option maxRecDepth 100000 in
set_option maxHeartbeats 4000000 in
theorem k21 {S : XS} {G : XG} {K : Nat × Nat} {l : Launch} {d : Nat} {rec : Nat → List Value → Mem → XA} (hs : XSnd l xmt rec d) (a0 : Option Nat) (a1 : Int32) (M0 : Mem) : Xe S G K l (yX3_watch, cX3_watch, 3, none) d 0 [some (va_rf a0), some (.int a1), none] [] M0 (c21 rec a0 a1 M0) := by
  unfold c21
  refine x_aload_n dX3_watch_0 rfl ?_
  refine x_iload_n dX3_watch_1 rfl ?_
  refine pfX3_67 rfl dX3_watch_2 (fun M1 => ?_)
  refine x_iconst (v := 0) dX3_watch_5 (by decide) ?_
  refine x_istore_n (lo' := [some (va_rf a0), some (.int a1), some (.int ((0 : Int32)))]) dX3_watch_6 (by decide) rfl rfl ?_
  refine x_jn (σ := Mem) 29 (fun s2 => [none, none, none]) (fun s2 => []) (fun s2 => s2) (fun s2 => ?_) (fun j29 hj29 => ?_)
  · exact x_vret rfl dX3_watch_29
  refine x_weak (by exact ⟨rfl, ⟨rfl, trivial⟩⟩) (x_lp (σ := Int32 × Mem) 7 (fun s3 => [some (va_rf a0), none, some (.int s3.1)]) (fun s3 => []) (fun s3 => s3.2) (fun s3 j7 hj7 => ?_) 4294967296 ((0 : Int32), M1))
  · refine x_iload_n dX3_watch_7 rfl ?_
    refine x_bipush (v := 8) dX3_watch_8 (by decide) ?_
    refine x_icmp_ge (tgt := 29) dX3_watch_10 (by decide) (fun _ => ?_) (fun _ => ?_)
    · exact x_weak (by exact trivial) (hj29 s3.2)
    · refine x_aload_n dX3_watch_13 rfl ?_
      refine gfX3_27 rfl dX3_watch_14 (fun x4 => ?_)
      refine x_iload_n dX3_watch_17 rfl ?_
      refine x_aldq (t := 112) (tn := 7) (by decide) (by decide) rfl dX3_watch_18 (fun x5 => ?_)
      refine x_iconst (v := 0) dX3_watch_19 (by decide) ?_
      refine pfX3_76 rfl dX3_watch_20 (fun M6 => ?_)
      refine x_iincN (v := 1) (lo' := fun x7 => [some (va_rf a0), none, some (.int x7)]) (by decide) dX3_watch_23 rfl (by decide) rfl (fun _ => rfl) (fun x7 => ?_)
      refine x_goto (tgt := 7) dX3_watch_26 (by decide) ?_
      exact x_weak (by exact ⟨rfl, ⟨rfl, trivial⟩⟩) (hj7 (x7, M6))
theorem s21 {l : Launch} {d : Nat} {rec : Nat → List Value → Mem → XA} (hS : Nonempty XS) (hs : XSnd l xmt rec d) : Snd1 l 21 (b21 rec) d := by
  intro as M r M' h0
  unfold b21 at h0
  obtain ⟨a0, l1, e1, h1⟩ := aR_inv h0
  obtain ⟨a1, l2, e2, h2⟩ := aI_inv h1
  obtain ⟨ez, h⟩ := aZ_inv h2
  subst ez
  subst e2
  subst e1
  exact xmet (M := M) (as := [va_rf a0, .int a1]) (lo := [some (va_rf a0), some (.int a1)]) 21 xq21 xm21 (by rw [xargs_rf, xargs_i, xargs_nil]; exact ⟨rfl, ⟨rfl, trivial⟩⟩) (by rw [xargs_rf, xargs_i, xargs_nil]; exact Nat.le_of_ble_eq_true rfl) (fun S G K => x_weak (by exact ⟨rfl, ⟨rfl, trivial⟩⟩) (k21 hs a0 a1 M)) h hS
set_option maxRecDepth 100000 in
def c22 (rec : Nat → List Value → Mem → XA) (a0 : Option Nat) (M0 : Mem) : XA :=
  gtI (4, 22) M0 a0 10 fun x1 =>
  jn (fun (s2 : Int32) =>
    rtZ s2 M0) fun j12 =>
  if 0 ≤ x1 then (
    j12 ((0 : Int32))) else (
    j12 ((1 : Int32)))
def b22 (rec : Nat → List Value → Mem → XA) (as : List Value) (M0 : Mem) : XA := aR as fun a0 as => aZ as (c22 rec a0 M0)
set_option maxRecDepth 100000 in
set_option maxHeartbeats 4000000 in
theorem k22 {S : XS} {G : XG} {K : Nat × Nat} {l : Launch} {d : Nat} {rec : Nat → List Value → Mem → XA} (hs : XSnd l xmt rec d) (a0 : Option Nat) (M0 : Mem) : Xe S G K l (yX3_isSpent, cX3_isSpent, 1, some .boolean) d 0 [some (va_rf a0)] [] M0 (c22 rec a0 M0) := by
  unfold c22
  refine x_aload_n dX3_isSpent_0 rfl ?_
  refine gfX3_57 rfl dX3_isSpent_1 (fun x1 => ?_)
  refine x_jn (σ := Int32) 12 (fun s2 => [none]) (fun s2 => [.int s2]) (fun s2 => M0) (fun s2 => ?_) (fun j12 hj12 => ?_)
  · exact x_zret rfl dX3_isSpent_12
  refine x_if_ge (tgt := 11) dX3_isSpent_4 (by decide) (fun _ => ?_) (fun _ => ?_)
  · refine x_iconst (v := 0) dX3_isSpent_11 (by decide) ?_
    exact x_weak (by exact trivial) (hj12 ((0 : Int32)))
  · refine x_iconst (v := 1) dX3_isSpent_7 (by decide) ?_
    refine x_goto (tgt := 12) dX3_isSpent_8 (by decide) ?_
    exact x_weak (by exact trivial) (hj12 ((1 : Int32)))
theorem s22 {l : Launch} {d : Nat} {rec : Nat → List Value → Mem → XA} (hS : Nonempty XS) (hs : XSnd l xmt rec d) : Snd1 l 22 (b22 rec) d := by
  intro as M r M' h0
  unfold b22 at h0
  obtain ⟨a0, l1, e1, h1⟩ := aR_inv h0
  obtain ⟨ez, h⟩ := aZ_inv h1
  subst ez
  subst e1
  exact xmet (M := M) (as := [va_rf a0]) (lo := [some (va_rf a0)]) 22 xq22 xm22 (by rw [xargs_rf, xargs_nil]; exact ⟨rfl, trivial⟩) (by rw [xargs_rf, xargs_nil]; exact Nat.le_of_ble_eq_true rfl) (fun S G K => x_weak (by exact ⟨rfl, trivial⟩) (k22 hs a0 M)) h hS
set_option maxRecDepth 100000 in
def c23_16 (rec : Nat → List Value → Mem → XA) (a0 : Option Nat) (j80 : Mem → XA) (s2 : Int32 × Mem) (x4 : Option Nat) : (Int32 × Mem) → ((Int32 × Mem) → XA) → XA := fun s7 j16 =>
  if x4 = none then (
    j80 s7.2) else (
    gtP (6, 18) s7.2 x4 2 fun x8 =>
    vC (0, 3) s7.2 x8 <|
    cI (rec 346 [va_rf x8] s7.2) fun x10 M9 =>
    if x10 ≤ s7.1 then (
      j80 M9) else (
      gtP (6, 18) M9 x4 2 fun x11 =>
      vC (0, 3) M9 x11 <|
      cP (rec 348 [va_rf x11, .int s7.1] M9) fun x13 M12 =>
      cst (8, 9) M12 x13 <|
      gtI (8, 9) M12 x13 2 fun x14 =>
      jn (fun (s15 : Mem) =>
        lt (s7.1 + (1 : Int32)) fun (x16 : Int32) =>
        j16 (x16, s15)) fun j74 =>
      if x14 = ((2 : Int32)) then (
        gtP (4, 22) M12 a0 16 fun x17 =>
        gtI (8, 9) M12 x13 8 fun x18 =>
        gtI (8, 9) M12 x13 4 fun x19 =>
        asI 100 M12 x17 ((s2.1 * ((4800 : Int32))) + x18) x19 fun M20 =>
        j74 M20) else (
        j74 M12)))
set_option maxRecDepth 100000 in
def c23_2 (rec : Nat → List Value → Mem → XA) (a0 : Option Nat) (j86 : Mem → XA) : (Int32 × Mem) → ((Int32 × Mem) → XA) → XA := fun s2 j2 =>
  if ((2 : Int32)) ≤ s2.1 then (
    j86 s2.2) else (
    gtP (4, 22) s2.2 a0 8 fun x3 =>
    alP 111 s2.2 x3 s2.1 fun x4 =>
    jn (fun (s5 : Mem) =>
      lt (s2.1 + (1 : Int32)) fun (x6 : Int32) =>
      j2 (x6, s5)) fun j80 =>
    lp (c23_16 rec a0 j80 s2 x4) 4294967296 ((0 : Int32), s2.2))
set_option maxRecDepth 100000 in
def c23 (rec : Nat → List Value → Mem → XA) (a0 : Option Nat) (M0 : Mem) : XA :=
  jn (fun (s1 : Mem) =>
    some (.null, s1)) fun j86 =>
  lp (c23_2 rec a0 j86) 4294967296 ((0 : Int32), M0)
def b23 (rec : Nat → List Value → Mem → XA) (as : List Value) (M0 : Mem) : XA := aR as fun a0 as => aZ as (c23 rec a0 M0)
set_option maxRecDepth 100000 in
set_option maxHeartbeats 4000000 in
theorem k23 {S : XS} {G : XG} {K : Nat × Nat} {l : Launch} {d : Nat} {rec : Nat → List Value → Mem → XA} (hs : XSnd l xmt rec d) (a0 : Option Nat) (M0 : Mem) : Xe S G K l (yX3_beginRun, cX3_beginRun, 5, none) d 0 [some (va_rf a0), none, none, none, none] [] M0 (c23 rec a0 M0) := by
  unfold c23
  refine x_iconst (v := 0) dX3_beginRun_0 (by decide) ?_
  refine x_istore_n (lo' := [some (va_rf a0), some (.int ((0 : Int32))), none, none, none]) dX3_beginRun_1 (by decide) (xok_r rfl) rfl ?_
  refine x_jn (σ := Mem) 86 (fun s1 => [none, none, none, none, none]) (fun s1 => []) (fun s1 => s1) (fun s1 => ?_) (fun j86 hj86 => ?_)
  · exact x_vret rfl dX3_beginRun_86
  refine x_weak (by exact ⟨rfl, ⟨rfl, trivial⟩⟩) (x_lp (σ := Int32 × Mem) 2 (fun s2 => [some (va_rf a0), some (.int s2.1), none, none, none]) (fun s2 => []) (fun s2 => s2.2) (fun s2 j2 hj2 => ?_) 4294967296 ((0 : Int32), M0))
  · refine x_iload_n dX3_beginRun_2 rfl ?_
    refine x_iconst (v := 2) dX3_beginRun_3 (by decide) ?_
    refine x_icmp_ge (tgt := 86) dX3_beginRun_4 (by decide) (fun _ => ?_) (fun _ => ?_)
    · exact x_weak (by exact trivial) (hj86 s2.2)
    · refine x_aload_n dX3_beginRun_7 rfl ?_
      refine gfX3_33 rfl dX3_beginRun_8 (fun x3 => ?_)
      refine x_iload_n dX3_beginRun_11 rfl ?_
      refine x_aldq (t := 111) (tn := 6) (by decide) (by decide) rfl dX3_beginRun_12 (fun x4 => ?_)
      refine x_astore_n (lo' := [some (va_rf a0), some (.int s2.1), some (va_rf x4), none, none]) dX3_beginRun_13 (by decide) rfl rfl ?_
      refine x_iconst (v := 0) dX3_beginRun_14 (by decide) ?_
      refine x_istore_n (lo' := [some (va_rf a0), some (.int s2.1), some (va_rf x4), some (.int ((0 : Int32))), none]) dX3_beginRun_15 (by decide) (xok_r rfl) rfl ?_
      refine x_jn (σ := Mem) 80 (fun s5 => [some (va_rf a0), some (.int s2.1), none, none, none]) (fun s5 => []) (fun s5 => s5) (fun s5 => ?_) (fun j80 hj80 => ?_)
      · refine x_iincN (v := 1) (lo' := fun x6 => [some (va_rf a0), some (.int x6), none, none, none]) (by decide) dX3_beginRun_80 rfl (by decide) (xok_r rfl) (fun _ => rfl) (fun x6 => ?_)
        refine x_goto (tgt := 2) dX3_beginRun_83 (by decide) ?_
        exact x_weak (by exact ⟨rfl, ⟨rfl, trivial⟩⟩) (hj2 (x6, s5))
      refine x_weak (by exact ⟨rfl, ⟨rfl, ⟨rfl, ⟨rfl, trivial⟩⟩⟩⟩) (x_lp (σ := Int32 × Mem) 16 (fun s7 => [some (va_rf a0), some (.int s2.1), some (va_rf x4), some (.int s7.1), none]) (fun s7 => []) (fun s7 => s7.2) (fun s7 j16 hj16 => ?_) 4294967296 ((0 : Int32), s2.2))
      · refine x_aload_n dX3_beginRun_16 rfl ?_
        refine x_ifnull (tgt := 80) dX3_beginRun_17 (by decide) (fun _ => ?_) (fun _ => ?_)
        · exact x_weak (by exact ⟨rfl, ⟨rfl, trivial⟩⟩) (hj80 s7.2)
        · refine x_iload_n dX3_beginRun_20 rfl ?_
          refine x_aload_n dX3_beginRun_21 rfl ?_
          refine gfX3_79 rfl dX3_beginRun_22 (fun x8 => ?_)
          refine cmX3_83 rfl hs (Nat.le_of_ble_eq_true rfl) dX3_beginRun_25 (fun x10 M9 => ?_)
          refine x_icmp_ge (tgt := 80) dX3_beginRun_28 (by decide) (fun _ => ?_) (fun _ => ?_)
          · exact x_weak (by exact ⟨rfl, ⟨rfl, trivial⟩⟩) (hj80 M9)
          · refine x_aload_n dX3_beginRun_31 rfl ?_
            refine gfX3_79 rfl dX3_beginRun_32 (fun x11 => ?_)
            refine x_iload_n dX3_beginRun_35 rfl ?_
            refine cmX3_89 rfl hs (Nat.le_of_ble_eq_true rfl) dX3_beginRun_36 (fun x13 M12 => ?_)
            refine ccX3_93 rfl dX3_beginRun_39 ?_
            refine x_astore (lo' := [some (va_rf a0), some (.int s2.1), some (va_rf x4), some (.int s7.1), some (va_rf x13)]) dX3_beginRun_42 (by decide) rfl rfl ?_
            refine x_aload dX3_beginRun_44 rfl ?_
            refine gfX3_95 rfl dX3_beginRun_46 (fun x14 => ?_)
            refine x_iconst (v := 2) dX3_beginRun_49 (by decide) ?_
            refine x_jn (σ := Mem) 74 (fun s15 => [some (va_rf a0), some (.int s2.1), some (va_rf x4), some (.int s7.1), none]) (fun s15 => []) (fun s15 => s15) (fun s15 => ?_) (fun j74 hj74 => ?_)
            · refine x_iincN (v := 1) (lo' := fun x16 => [some (va_rf a0), some (.int s2.1), some (va_rf x4), some (.int x16), none]) (by decide) dX3_beginRun_74 rfl (by decide) (xok_r rfl) (fun _ => rfl) (fun x16 => ?_)
              refine x_goto (tgt := 16) dX3_beginRun_77 (by decide) ?_
              exact x_weak (by exact ⟨rfl, ⟨rfl, ⟨rfl, ⟨rfl, trivial⟩⟩⟩⟩) (hj16 (x16, s15))
            refine x_icmp_ne (tgt := 74) dX3_beginRun_50 (by decide) (fun _ => ?_) (fun _ => ?_)
            · refine x_aload_n dX3_beginRun_53 rfl ?_
              refine gfX3_46 rfl dX3_beginRun_54 (fun x17 => ?_)
              refine x_iload_n dX3_beginRun_57 rfl ?_
              refine x_sipush (v := 4800) dX3_beginRun_58 (by decide) ?_
              refine x_imul dX3_beginRun_61 ?_
              refine x_aload dX3_beginRun_62 rfl ?_
              refine gfX3_98 rfl dX3_beginRun_64 (fun x18 => ?_)
              refine x_iadd dX3_beginRun_67 ?_
              refine x_aload dX3_beginRun_68 rfl ?_
              refine gfX3_101 rfl dX3_beginRun_70 (fun x19 => ?_)
              refine x_iast dX3_beginRun_73 (fun M20 => ?_)
              exact x_weak (by exact ⟨rfl, ⟨rfl, ⟨rfl, ⟨rfl, trivial⟩⟩⟩⟩) (hj74 M20)
            · exact x_weak (by exact ⟨rfl, ⟨rfl, ⟨rfl, ⟨rfl, trivial⟩⟩⟩⟩) (hj74 M12)
theorem s23 {l : Launch} {d : Nat} {rec : Nat → List Value → Mem → XA} (hS : Nonempty XS) (hs : XSnd l xmt rec d) : Snd1 l 23 (b23 rec) d := by
  intro as M r M' h0
  unfold b23 at h0
  obtain ⟨a0, l1, e1, h1⟩ := aR_inv h0
  obtain ⟨ez, h⟩ := aZ_inv h1
  subst ez
  subst e1
  exact xmet (M := M) (as := [va_rf a0]) (lo := [some (va_rf a0)]) 23 xq23 xm23 (by rw [xargs_rf, xargs_nil]; exact ⟨rfl, trivial⟩) (by rw [xargs_rf, xargs_nil]; exact Nat.le_of_ble_eq_true rfl) (fun S G K => x_weak (by exact ⟨rfl, trivial⟩) (k23 hs a0 M)) h hS
set_option maxRecDepth 100000 in
def c24 (rec : Nat → List Value → Mem → XA) (a0 : Option Nat) (M0 : Mem) : XA :=
  gtP (4, 22) M0 a0 17 fun x1 =>
  cV (rec 352 [va_rf x1, .int ((0 : Int32))] M0) fun M2 =>
  gtI (4, 22) M2 a0 2 fun x3 =>
  ptI (4, 22) M2 a0 18 x3 fun M4 =>
  gtP (4, 22) M4 a0 0 fun x5 =>
  ptI (5, 5) M4 x5 3 ((0 : Int32)) fun M6 =>
  gtP (4, 22) M6 a0 0 fun x7 =>
  ptI (5, 5) M6 x7 4 ((0 : Int32)) fun M8 =>
  some (.null, M8)
def b24 (rec : Nat → List Value → Mem → XA) (as : List Value) (M0 : Mem) : XA := aR as fun a0 as => aZ as (c24 rec a0 M0)
set_option maxRecDepth 100000 in
set_option maxHeartbeats 4000000 in
theorem k24 {S : XS} {G : XG} {K : Nat × Nat} {l : Launch} {d : Nat} {rec : Nat → List Value → Mem → XA} (hs : XSnd l xmt rec d) (a0 : Option Nat) (M0 : Mem) : Xe S G K l (yX3_beginState, cX3_beginState, 1, none) d 0 [some (va_rf a0)] [] M0 (c24 rec a0 M0) := by
  unfold c24
  refine x_aload_n dX3_beginState_0 rfl ?_
  refine gfX3_49 rfl dX3_beginState_1 (fun x1 => ?_)
  refine x_iconst (v := 0) dX3_beginState_4 (by decide) ?_
  refine cmX3_104 rfl hs (Nat.le_of_ble_eq_true rfl) dX3_beginState_5 (fun M2 => ?_)
  refine x_aload_n dX3_beginState_8 rfl ?_
  refine x_aload_n dX3_beginState_9 rfl ?_
  refine gfX3_22 rfl dX3_beginState_10 (fun x3 => ?_)
  refine pfX3_110 rfl dX3_beginState_13 (fun M4 => ?_)
  refine x_aload_n dX3_beginState_16 rfl ?_
  refine gfX3_12 rfl dX3_beginState_17 (fun x5 => ?_)
  refine x_iconst (v := 0) dX3_beginState_20 (by decide) ?_
  refine pfX3_113 rfl dX3_beginState_21 (fun M6 => ?_)
  refine x_aload_n dX3_beginState_24 rfl ?_
  refine gfX3_12 rfl dX3_beginState_25 (fun x7 => ?_)
  refine x_iconst (v := 0) dX3_beginState_28 (by decide) ?_
  refine pfX3_116 rfl dX3_beginState_29 (fun M8 => ?_)
  exact x_vret rfl dX3_beginState_32
theorem s24 {l : Launch} {d : Nat} {rec : Nat → List Value → Mem → XA} (hS : Nonempty XS) (hs : XSnd l xmt rec d) : Snd1 l 24 (b24 rec) d := by
  intro as M r M' h0
  unfold b24 at h0
  obtain ⟨a0, l1, e1, h1⟩ := aR_inv h0
  obtain ⟨ez, h⟩ := aZ_inv h1
  subst ez
  subst e1
  exact xmet (M := M) (as := [va_rf a0]) (lo := [some (va_rf a0)]) 24 xq24 xm24 (by rw [xargs_rf, xargs_nil]; exact ⟨rfl, trivial⟩) (by rw [xargs_rf, xargs_nil]; exact Nat.le_of_ble_eq_true rfl) (fun S G K => x_weak (by exact ⟨rfl, trivial⟩) (k24 hs a0 M)) h hS
set_option maxRecDepth 100000 in
def c25_163 (rec : Nat → List Value → Mem → XA) (a0 : Option Nat) (j225 : Mem → XA) (x19 : Option Nat) : (Int32 × Mem) → ((Int32 × Mem) → XA) → XA := fun s25 j163 =>
  if s25.1 < 0 then (
    j225 s25.2) else (
    gtI (4, 22) s25.2 a0 19 fun x26 =>
    if x26 = ((3 : Int32)) then (
      j225 s25.2) else (
      gtP (11, 10) s25.2 x19 8 fun x27 =>
      alI 100 s25.2 x27 s25.1 fun x28 =>
      vC (4, 22) s25.2 a0 <|
      cI (rec 28 [va_rf a0, .int x28] s25.2) fun x30 M29 =>
      jn (fun (s31 : Mem) =>
        lt (s25.1 + (-1 : Int32)) fun (x32 : Int32) =>
        j163 (x32, s31)) fun j219 =>
      if x30 = 0 then (
        gtP (4, 22) M29 a0 0 fun x33 =>
        gtI (5, 5) M29 x33 0 fun x34 =>
        if x34 = ((1 : Int32)) then (
          gtP (4, 22) M29 a0 0 fun x35 =>
          gtI (4, 22) M29 a0 20 fun x36 =>
          gtI (4, 22) M29 a0 21 fun x37 =>
          vC (5, 5) M29 x35 <|
          cV (rec 48 [va_rf x35, .int ((4 : Int32)), .int x36, .int x37] M29) fun M38 =>
          j219 M38) else (
          j219 M29)) else (
        j219 M29)))
set_option maxRecDepth 100000 in
def c25_76 (rec : Nat → List Value → Mem → XA) (a0 : Option Nat) (j107 : Int32 × Mem → XA) (x19 : Option Nat) : (Int32 × Int32 × Mem) → ((Int32 × Int32 × Mem) → XA) → XA := fun s50 j76 =>
  gtI (11, 10) s50.2.2 x19 7 fun x51 =>
  if x51 ≤ s50.2.1 then (
    j107 (s50.1, s50.2.2)) else (
    if s50.1 = 0 then (
      j107 (s50.1, s50.2.2)) else (
      gtP (11, 10) s50.2.2 x19 6 fun x52 =>
      alI 100 s50.2.2 x52 s50.2.1 fun x53 =>
      vC (4, 22) s50.2.2 a0 <|
      cI (rec 28 [va_rf a0, .int x53] s50.2.2) fun x55 M54 =>
      lt (s50.2.1 + (1 : Int32)) fun (x56 : Int32) =>
      j76 (x55, x56, M54)))
set_option maxRecDepth 100000 in
def c25 (rec : Nat → List Value → Mem → XA) (a0 : Option Nat) (a1 : Option Nat) (M0 : Mem) : XA :=
  vC (4, 22) M0 a0 <|
  cV (rec 24 [va_rf a0] M0) fun M1 =>
  gtP (4, 22) M1 a0 0 fun x2 =>
  vC (5, 5) M1 x2 <|
  cV (rec 48 [va_rf x2, .int ((5 : Int32)), .int ((0 : Int32)), .int ((-2 : Int32))] M1) fun M3 =>
  gtI (8, 9) M3 a1 7 fun x4 =>
  jn (fun (s5 : Mem) =>
    some (.null, s5)) fun j50 =>
  if x4 = 0 then (
    gtP (4, 22) M3 a0 8 fun x6 =>
    alP 111 M3 x6 ((0 : Int32)) fun x7 =>
    if x7 = none then (
      j50 M3) else (
      gtI (8, 9) M3 a1 1 fun x8 =>
      gtP (4, 22) M3 a0 8 fun x9 =>
      alP 111 M3 x9 ((0 : Int32)) fun x10 =>
      gtP (6, 18) M3 x10 1 fun x11 =>
      vC (0, 3) M3 x11 <|
      cI (rec 346 [va_rf x11] M3) fun x13 M12 =>
      if x8 < x13 then (
        gtP (4, 22) M12 a0 8 fun x14 =>
        alP 111 M12 x14 ((0 : Int32)) fun x15 =>
        gtP (6, 18) M12 x15 1 fun x16 =>
        gtI (8, 9) M12 a1 1 fun x17 =>
        vC (0, 3) M12 x16 <|
        cP (rec 348 [va_rf x16, .int x17] M12) fun x19 M18 =>
        cst (11, 10) M18 x19 <|
        jn (fun (s20 : Int32 × Mem) =>
          jn (fun (s21 : Mem) =>
            gtI (11, 10) s21 x19 9 fun x22 =>
            lt (x22 - ((1 : Int32))) fun (x23 : Int32) =>
            jn (fun (s24 : Mem) =>
              some (.null, s24)) fun j225 =>
            lp (c25_163 rec a0 j225 x19) 4294967296 (x23, s21)) fun j155 =>
          if s20.1 = 0 then (
            gtP (4, 22) s20.2 a0 0 fun x39 =>
            gtI (4, 22) s20.2 a0 20 fun x40 =>
            gtI (4, 22) s20.2 a0 21 fun x41 =>
            vC (5, 5) s20.2 x39 <|
            cV (rec 48 [va_rf x39, .int ((3 : Int32)), .int x40, .int x41] s20.2) fun M42 =>
            j155 M42) else (
            gtP (4, 22) s20.2 a0 11 fun x43 =>
            gtI (8, 9) s20.2 a1 4 fun x44 =>
            asI 100 s20.2 x43 ((0 : Int32)) x44 fun M45 =>
            gtI (8, 9) M45 a1 5 fun x46 =>
            vC (4, 22) M45 a0 <|
            cI (rec 28 [va_rf a0, .int x46] M45) fun x48 M47 =>
            vC (4, 22) M47 a0 <|
            cV (rec 26 [va_rf a0, va_rf a1, .int x48] M47) fun M49 =>
            j155 M49)) fun j107 =>
        lp (c25_76 rec a0 j107 x19) 4294967296 ((1 : Int32), (0 : Int32), M18)) else (
        j50 M12))) else (
    j50 M3)
def b25 (rec : Nat → List Value → Mem → XA) (as : List Value) (M0 : Mem) : XA := aR as fun a0 as => aR as fun a1 as => aZ as (c25 rec a0 a1 M0)
set_option maxRecDepth 100000 in
set_option maxHeartbeats 4000000 in
theorem k25 {S : XS} {G : XG} {K : Nat × Nat} {l : Launch} {d : Nat} {rec : Nat → List Value → Mem → XA} (hs : XSnd l xmt rec d) (a0 : Option Nat) (a1 : Option Nat) (M0 : Mem) : Xe S G K l (yX3_live, cX3_live, 5, none) d 0 [some (va_rf a0), some (va_rf a1), none, none, none] [] M0 (c25 rec a0 a1 M0) := by
  unfold c25
  refine x_aload_n dX3_live_0 rfl ?_
  refine cmX3_119 rfl hs (Nat.le_of_ble_eq_true rfl) dX3_live_1 (fun M1 => ?_)
  refine x_aload_n dX3_live_4 rfl ?_
  refine gfX3_12 rfl dX3_live_5 (fun x2 => ?_)
  refine x_iconst (v := 5) dX3_live_8 (by decide) ?_
  refine x_iconst (v := 0) dX3_live_9 (by decide) ?_
  refine x_bipush (v := -2) dX3_live_10 (by decide) ?_
  refine cmX3_122 rfl hs (Nat.le_of_ble_eq_true rfl) dX3_live_12 (fun M3 => ?_)
  refine x_aload_n dX3_live_15 rfl ?_
  refine gfX3_126 rfl dX3_live_16 (fun x4 => ?_)
  refine x_jn (σ := Mem) 50 (fun s5 => [none, none, none, none, none]) (fun s5 => []) (fun s5 => s5) (fun s5 => ?_) (fun j50 hj50 => ?_)
  · exact x_vret rfl dX3_live_50
  refine x_if_ne (tgt := 50) dX3_live_19 (by decide) (fun _ => ?_) (fun _ => ?_)
  · refine x_aload_n dX3_live_22 rfl ?_
    refine gfX3_33 rfl dX3_live_23 (fun x6 => ?_)
    refine x_iconst (v := 0) dX3_live_26 (by decide) ?_
    refine x_aldq (t := 111) (tn := 6) (by decide) (by decide) rfl dX3_live_27 (fun x7 => ?_)
    refine x_ifnull (tgt := 50) dX3_live_28 (by decide) (fun _ => ?_) (fun _ => ?_)
    · exact x_weak (by exact trivial) (hj50 M3)
    · refine x_aload_n dX3_live_31 rfl ?_
      refine gfX3_130 rfl dX3_live_32 (fun x8 => ?_)
      refine x_aload_n dX3_live_35 rfl ?_
      refine gfX3_33 rfl dX3_live_36 (fun x9 => ?_)
      refine x_iconst (v := 0) dX3_live_39 (by decide) ?_
      refine x_aldq (t := 111) (tn := 6) (by decide) (by decide) rfl dX3_live_40 (fun x10 => ?_)
      refine gfX3_133 rfl dX3_live_41 (fun x11 => ?_)
      refine cmX3_83 rfl hs (Nat.le_of_ble_eq_true rfl) dX3_live_44 (fun x13 M12 => ?_)
      refine x_icmp_lt (tgt := 51) dX3_live_47 (by decide) (fun _ => ?_) (fun _ => ?_)
      · refine x_aload_n dX3_live_51 rfl ?_
        refine gfX3_33 rfl dX3_live_52 (fun x14 => ?_)
        refine x_iconst (v := 0) dX3_live_55 (by decide) ?_
        refine x_aldq (t := 111) (tn := 6) (by decide) (by decide) rfl dX3_live_56 (fun x15 => ?_)
        refine gfX3_133 rfl dX3_live_57 (fun x16 => ?_)
        refine x_aload_n dX3_live_60 rfl ?_
        refine gfX3_130 rfl dX3_live_61 (fun x17 => ?_)
        refine cmX3_89 rfl hs (Nat.le_of_ble_eq_true rfl) dX3_live_64 (fun x19 M18 => ?_)
        refine ccX3_136 rfl dX3_live_67 ?_
        refine x_astore_n (lo' := [some (va_rf a0), some (va_rf a1), some (va_rf x19), none, none]) dX3_live_70 (by decide) (xok_r rfl) rfl ?_
        refine x_iconst (v := 1) dX3_live_71 (by decide) ?_
        refine x_istore_n (lo' := [some (va_rf a0), some (va_rf a1), some (va_rf x19), some (.int ((1 : Int32))), none]) dX3_live_72 (by decide) (xok_r rfl) rfl ?_
        refine x_iconst (v := 0) dX3_live_73 (by decide) ?_
        refine x_istore (lo' := [some (va_rf a0), some (va_rf a1), some (va_rf x19), some (.int ((1 : Int32))), some (.int ((0 : Int32)))]) dX3_live_74 (by decide) rfl rfl ?_
        refine x_jn (σ := Int32 × Mem) 107 (fun s20 => [some (va_rf a0), some (va_rf a1), some (va_rf x19), some (.int s20.1), none]) (fun s20 => []) (fun s20 => s20.2) (fun s20 => ?_) (fun j107 hj107 => ?_)
        · refine x_iload_n dX3_live_107 rfl ?_
          refine x_jn (σ := Mem) 155 (fun s21 => [some (va_rf a0), none, some (va_rf x19), none, none]) (fun s21 => []) (fun s21 => s21) (fun s21 => ?_) (fun j155 hj155 => ?_)
          · refine x_aload_n dX3_live_155 rfl ?_
            refine gfX3_161 rfl dX3_live_156 (fun x22 => ?_)
            refine x_iconst (v := 1) dX3_live_159 (by decide) ?_
            refine x_isub dX3_live_160 ?_
            refine x_ltI (fun x23 => ?_)
            refine x_istore (lo' := [some (va_rf a0), none, some (va_rf x19), none, some (.int x23)]) dX3_live_161 (by decide) rfl rfl ?_
            refine x_jn (σ := Mem) 225 (fun s24 => [none, none, none, none, none]) (fun s24 => []) (fun s24 => s24) (fun s24 => ?_) (fun j225 hj225 => ?_)
            · exact x_vret rfl dX3_live_225
            refine x_weak (by exact ⟨rfl, ⟨rfl, ⟨rfl, trivial⟩⟩⟩) (x_lp (σ := Int32 × Mem) 163 (fun s25 => [some (va_rf a0), none, some (va_rf x19), none, some (.int s25.1)]) (fun s25 => []) (fun s25 => s25.2) (fun s25 j163 hj163 => ?_) 4294967296 (x23, s21))
            · refine x_iload dX3_live_163 rfl ?_
              refine x_if_lt (tgt := 225) dX3_live_165 (by decide) (fun _ => ?_) (fun _ => ?_)
              · exact x_weak (by exact trivial) (hj225 s25.2)
              · refine x_aload_n dX3_live_168 rfl ?_
                refine gfX3_164 rfl dX3_live_169 (fun x26 => ?_)
                refine x_iconst (v := 3) dX3_live_172 (by decide) ?_
                refine x_icmp_eq (tgt := 225) dX3_live_173 (by decide) (fun _ => ?_) (fun _ => ?_)
                · exact x_weak (by exact trivial) (hj225 s25.2)
                · refine x_aload_n dX3_live_176 rfl ?_
                  refine x_aload_n dX3_live_177 rfl ?_
                  refine gfX3_167 rfl dX3_live_178 (fun x27 => ?_)
                  refine x_iload dX3_live_181 rfl ?_
                  refine x_iald dX3_live_183 (fun x28 => ?_)
                  refine cmX3_144 rfl hs (Nat.le_of_ble_eq_true rfl) dX3_live_184 (fun x30 M29 => ?_)
                  refine x_istore_n (lo' := [some (va_rf a0), none, some (va_rf x19), some (.int x30), some (.int s25.1)]) dX3_live_187 (by decide) (xok_r rfl) rfl ?_
                  refine x_iload_n dX3_live_188 rfl ?_
                  refine x_jn (σ := Mem) 219 (fun s31 => [some (va_rf a0), none, some (va_rf x19), none, some (.int s25.1)]) (fun s31 => []) (fun s31 => s31) (fun s31 => ?_) (fun j219 hj219 => ?_)
                  · refine x_iincN (v := -1) (lo' := fun x32 => [some (va_rf a0), none, some (va_rf x19), none, some (.int x32)]) (by decide) dX3_live_219 rfl (by decide) rfl (fun _ => rfl) (fun x32 => ?_)
                    refine x_goto (tgt := 163) dX3_live_222 (by decide) ?_
                    exact x_weak (by exact ⟨rfl, ⟨rfl, ⟨rfl, trivial⟩⟩⟩) (hj163 (x32, s31))
                  refine x_if_ne (tgt := 219) dX3_live_189 (by decide) (fun _ => ?_) (fun _ => ?_)
                  · refine x_aload_n dX3_live_192 rfl ?_
                    refine gfX3_12 rfl dX3_live_193 (fun x33 => ?_)
                    refine gfX3_170 rfl dX3_live_196 (fun x34 => ?_)
                    refine x_iconst (v := 1) dX3_live_199 (by decide) ?_
                    refine x_icmp_ne (tgt := 219) dX3_live_200 (by decide) (fun _ => ?_) (fun _ => ?_)
                    · refine x_aload_n dX3_live_203 rfl ?_
                      refine gfX3_12 rfl dX3_live_204 (fun x35 => ?_)
                      refine x_iconst (v := 4) dX3_live_207 (by decide) ?_
                      refine x_aload_n dX3_live_208 rfl ?_
                      refine gfX3_155 rfl dX3_live_209 (fun x36 => ?_)
                      refine x_aload_n dX3_live_212 rfl ?_
                      refine gfX3_158 rfl dX3_live_213 (fun x37 => ?_)
                      refine cmX3_122 rfl hs (Nat.le_of_ble_eq_true rfl) dX3_live_216 (fun M38 => ?_)
                      exact x_weak (by exact ⟨rfl, ⟨rfl, ⟨rfl, trivial⟩⟩⟩) (hj219 M38)
                    · exact x_weak (by exact ⟨rfl, ⟨rfl, ⟨rfl, trivial⟩⟩⟩) (hj219 M29)
                  · exact x_weak (by exact ⟨rfl, ⟨rfl, ⟨rfl, trivial⟩⟩⟩) (hj219 M29)
          refine x_if_eq (tgt := 139) dX3_live_108 (by decide) (fun _ => ?_) (fun _ => ?_)
          · refine x_aload_n dX3_live_139 rfl ?_
            refine gfX3_12 rfl dX3_live_140 (fun x39 => ?_)
            refine x_iconst (v := 3) dX3_live_143 (by decide) ?_
            refine x_aload_n dX3_live_144 rfl ?_
            refine gfX3_155 rfl dX3_live_145 (fun x40 => ?_)
            refine x_aload_n dX3_live_148 rfl ?_
            refine gfX3_158 rfl dX3_live_149 (fun x41 => ?_)
            refine cmX3_122 rfl hs (Nat.le_of_ble_eq_true rfl) dX3_live_152 (fun M42 => ?_)
            exact x_weak (by exact ⟨rfl, ⟨rfl, trivial⟩⟩) (hj155 M42)
          · refine x_aload_n dX3_live_111 rfl ?_
            refine gfX3_37 rfl dX3_live_112 (fun x43 => ?_)
            refine x_iconst (v := 0) dX3_live_115 (by decide) ?_
            refine x_aload_n dX3_live_116 rfl ?_
            refine gfX3_101 rfl dX3_live_117 (fun x44 => ?_)
            refine x_iast dX3_live_120 (fun M45 => ?_)
            refine x_aload_n dX3_live_121 rfl ?_
            refine x_aload_n dX3_live_122 rfl ?_
            refine gfX3_148 rfl dX3_live_123 (fun x46 => ?_)
            refine cmX3_144 rfl hs (Nat.le_of_ble_eq_true rfl) dX3_live_126 (fun x48 M47 => ?_)
            refine x_istore_n (lo' := [some (va_rf a0), some (va_rf a1), some (va_rf x19), some (.int x48), none]) dX3_live_129 (by decide) (xok_r rfl) rfl ?_
            refine x_aload_n dX3_live_130 rfl ?_
            refine x_aload_n dX3_live_131 rfl ?_
            refine x_iload_n dX3_live_132 rfl ?_
            refine cmX3_151 rfl hs (Nat.le_of_ble_eq_true rfl) dX3_live_133 (fun M49 => ?_)
            refine x_goto (tgt := 155) dX3_live_136 (by decide) ?_
            exact x_weak (by exact ⟨rfl, ⟨rfl, trivial⟩⟩) (hj155 M49)
        refine x_weak (by exact ⟨rfl, ⟨rfl, ⟨rfl, ⟨rfl, ⟨rfl, trivial⟩⟩⟩⟩⟩) (x_lp (σ := Int32 × Int32 × Mem) 76 (fun s50 => [some (va_rf a0), some (va_rf a1), some (va_rf x19), some (.int s50.1), some (.int s50.2.1)]) (fun s50 => []) (fun s50 => s50.2.2) (fun s50 j76 hj76 => ?_) 4294967296 ((1 : Int32), (0 : Int32), M18))
        · refine x_iload dX3_live_76 rfl ?_
          refine x_aload_n dX3_live_78 rfl ?_
          refine gfX3_138 rfl dX3_live_79 (fun x51 => ?_)
          refine x_icmp_ge (tgt := 107) dX3_live_82 (by decide) (fun _ => ?_) (fun _ => ?_)
          · exact x_weak (by exact ⟨rfl, ⟨rfl, ⟨rfl, ⟨rfl, trivial⟩⟩⟩⟩) (hj107 (s50.1, s50.2.2))
          · refine x_iload_n dX3_live_85 rfl ?_
            refine x_if_eq (tgt := 107) dX3_live_86 (by decide) (fun _ => ?_) (fun _ => ?_)
            · exact x_weak (by exact ⟨rfl, ⟨rfl, ⟨rfl, ⟨rfl, trivial⟩⟩⟩⟩) (hj107 (s50.1, s50.2.2))
            · refine x_aload_n dX3_live_89 rfl ?_
              refine x_aload_n dX3_live_90 rfl ?_
              refine gfX3_141 rfl dX3_live_91 (fun x52 => ?_)
              refine x_iload dX3_live_94 rfl ?_
              refine x_iald dX3_live_96 (fun x53 => ?_)
              refine cmX3_144 rfl hs (Nat.le_of_ble_eq_true rfl) dX3_live_97 (fun x55 M54 => ?_)
              refine x_istore_n (lo' := [some (va_rf a0), some (va_rf a1), some (va_rf x19), some (.int x55), some (.int s50.2.1)]) dX3_live_100 (by decide) (xok_r rfl) rfl ?_
              refine x_iincN (v := 1) (lo' := fun x56 => [some (va_rf a0), some (va_rf a1), some (va_rf x19), some (.int x55), some (.int x56)]) (by decide) dX3_live_101 rfl (by decide) rfl (fun _ => rfl) (fun x56 => ?_)
              refine x_goto (tgt := 76) dX3_live_104 (by decide) ?_
              exact x_weak (by exact ⟨rfl, ⟨rfl, ⟨rfl, ⟨rfl, ⟨rfl, trivial⟩⟩⟩⟩⟩) (hj76 (x55, x56, M54))
      · exact x_weak (by exact trivial) (hj50 M12)
  · exact x_weak (by exact trivial) (hj50 M3)
theorem s25 {l : Launch} {d : Nat} {rec : Nat → List Value → Mem → XA} (hS : Nonempty XS) (hs : XSnd l xmt rec d) : Snd1 l 25 (b25 rec) d := by
  intro as M r M' h0
  unfold b25 at h0
  obtain ⟨a0, l1, e1, h1⟩ := aR_inv h0
  obtain ⟨a1, l2, e2, h2⟩ := aR_inv h1
  obtain ⟨ez, h⟩ := aZ_inv h2
  subst ez
  subst e2
  subst e1
  exact xmet (M := M) (as := [va_rf a0, va_rf a1]) (lo := [some (va_rf a0), some (va_rf a1)]) 25 xq25 xm25 (by rw [xargs_rf, xargs_rf, xargs_nil]; exact ⟨rfl, ⟨rfl, trivial⟩⟩) (by rw [xargs_rf, xargs_rf, xargs_nil]; exact Nat.le_of_ble_eq_true rfl) (fun S G K => x_weak (by exact ⟨rfl, ⟨rfl, trivial⟩⟩) (k25 hs a0 a1 M)) h hS
set_option maxRecDepth 100000 in
def c26 (rec : Nat → List Value → Mem → XA) (a0 : Option Nat) (a1 : Option Nat) (a2 : Int32) (M0 : Mem) : XA :=
  gtI (8, 9) M0 a1 6 fun x1 =>
  jn (fun (s2 : Int32) =>
    jn (fun (s3 : Mem) =>
      some (.null, s3)) fun j84 =>
    if s2 = 0 then (
      if a2 = 0 then (
        gtP (4, 22) M0 a0 0 fun x4 =>
        gtI (4, 22) M0 a0 20 fun x5 =>
        gtI (4, 22) M0 a0 21 fun x6 =>
        vC (5, 5) M0 x4 <|
        cV (rec 48 [va_rf x4, .int ((2 : Int32)), .int x5, .int x6] M0) fun M7 =>
        j84 M7) else (
        gtP (4, 22) M0 a0 0 fun x8 =>
        vC (5, 5) M0 x8 <|
        cV (rec 48 [va_rf x8, .int ((2 : Int32)), .int ((4 : Int32)), .int ((-2 : Int32))] M0) fun M9 =>
        j84 M9)) else (
      gtP (4, 22) M0 a0 0 fun x10 =>
      vC (5, 5) M0 x10 <|
      cV (rec 48 [va_rf x10, .int ((1 : Int32)), .int ((0 : Int32)), .int ((-2 : Int32))] M0) fun M11 =>
      j84 M11)) fun j31 =>
  if x1 = 0 then (
    j31 a2) else (
    jn (fun (s12 : Unit) =>
      j31 ((0 : Int32))) fun j30 =>
    if a2 = 0 then (
      gtI (4, 22) M0 a0 20 fun x13 =>
      gtI (8, 9) M0 a1 6 fun x14 =>
      if x13 = x14 then (
        j31 ((1 : Int32))) else (
        j30 ())) else (
      j30 ()))
def b26 (rec : Nat → List Value → Mem → XA) (as : List Value) (M0 : Mem) : XA := aR as fun a0 as => aR as fun a1 as => aI as fun a2 as => aZ as (c26 rec a0 a1 a2 M0)
set_option maxRecDepth 100000 in
set_option maxHeartbeats 4000000 in
theorem k26 {S : XS} {G : XG} {K : Nat × Nat} {l : Launch} {d : Nat} {rec : Nat → List Value → Mem → XA} (hs : XSnd l xmt rec d) (a0 : Option Nat) (a1 : Option Nat) (a2 : Int32) (M0 : Mem) : Xe S G K l (yX3_judge, cX3_judge, 4, none) d 0 [some (va_rf a0), some (va_rf a1), some (.int a2), none] [] M0 (c26 rec a0 a1 a2 M0) := by
  unfold c26
  refine x_aload_n dX3_judge_0 rfl ?_
  refine gfX3_173 rfl dX3_judge_1 (fun x1 => ?_)
  refine x_jn (σ := Int32) 31 (fun s2 => [some (va_rf a0), none, some (.int a2), none]) (fun s2 => [.int s2]) (fun s2 => M0) (fun s2 => ?_) (fun j31 hj31 => ?_)
  · refine x_istore_n (lo' := [some (va_rf a0), none, some (.int a2), some (.int s2)]) dX3_judge_31 (by decide) rfl rfl ?_
    refine x_iload_n dX3_judge_32 rfl ?_
    refine x_jn (σ := Mem) 84 (fun s3 => [none, none, none, none]) (fun s3 => []) (fun s3 => s3) (fun s3 => ?_) (fun j84 hj84 => ?_)
    · exact x_vret rfl dX3_judge_84
    refine x_if_eq (tgt := 50) dX3_judge_33 (by decide) (fun _ => ?_) (fun _ => ?_)
    · refine x_iload_n dX3_judge_50 rfl ?_
      refine x_if_eq (tgt := 68) dX3_judge_51 (by decide) (fun _ => ?_) (fun _ => ?_)
      · refine x_aload_n dX3_judge_68 rfl ?_
        refine gfX3_12 rfl dX3_judge_69 (fun x4 => ?_)
        refine x_iconst (v := 2) dX3_judge_72 (by decide) ?_
        refine x_aload_n dX3_judge_73 rfl ?_
        refine gfX3_155 rfl dX3_judge_74 (fun x5 => ?_)
        refine x_aload_n dX3_judge_77 rfl ?_
        refine gfX3_158 rfl dX3_judge_78 (fun x6 => ?_)
        refine cmX3_122 rfl hs (Nat.le_of_ble_eq_true rfl) dX3_judge_81 (fun M7 => ?_)
        exact x_weak (by exact trivial) (hj84 M7)
      · refine x_aload_n dX3_judge_54 rfl ?_
        refine gfX3_12 rfl dX3_judge_55 (fun x8 => ?_)
        refine x_iconst (v := 2) dX3_judge_58 (by decide) ?_
        refine x_iconst (v := 4) dX3_judge_59 (by decide) ?_
        refine x_bipush (v := -2) dX3_judge_60 (by decide) ?_
        refine cmX3_122 rfl hs (Nat.le_of_ble_eq_true rfl) dX3_judge_62 (fun M9 => ?_)
        refine x_goto (tgt := 84) dX3_judge_65 (by decide) ?_
        exact x_weak (by exact trivial) (hj84 M9)
    · refine x_aload_n dX3_judge_36 rfl ?_
      refine gfX3_12 rfl dX3_judge_37 (fun x10 => ?_)
      refine x_iconst (v := 1) dX3_judge_40 (by decide) ?_
      refine x_iconst (v := 0) dX3_judge_41 (by decide) ?_
      refine x_bipush (v := -2) dX3_judge_42 (by decide) ?_
      refine cmX3_122 rfl hs (Nat.le_of_ble_eq_true rfl) dX3_judge_44 (fun M11 => ?_)
      refine x_goto (tgt := 84) dX3_judge_47 (by decide) ?_
      exact x_weak (by exact trivial) (hj84 M11)
  refine x_if_ne (tgt := 11) dX3_judge_4 (by decide) (fun _ => ?_) (fun _ => ?_)
  · refine x_iload_n dX3_judge_7 rfl ?_
    refine x_goto (tgt := 31) dX3_judge_8 (by decide) ?_
    exact x_weak (by exact ⟨rfl, ⟨rfl, trivial⟩⟩) (hj31 a2)
  · refine x_iload_n dX3_judge_11 rfl ?_
    refine x_jn (σ := Unit) 30 (fun s12 => [some (va_rf a0), none, some (.int a2), none]) (fun s12 => []) (fun s12 => M0) (fun s12 => ?_) (fun j30 hj30 => ?_)
    · refine x_iconst (v := 0) dX3_judge_30 (by decide) ?_
      exact x_weak (by exact ⟨rfl, ⟨rfl, trivial⟩⟩) (hj31 ((0 : Int32)))
    refine x_if_ne (tgt := 30) dX3_judge_12 (by decide) (fun _ => ?_) (fun _ => ?_)
    · refine x_aload_n dX3_judge_15 rfl ?_
      refine gfX3_155 rfl dX3_judge_16 (fun x13 => ?_)
      refine x_aload_n dX3_judge_19 rfl ?_
      refine gfX3_173 rfl dX3_judge_20 (fun x14 => ?_)
      refine x_icmp_ne (tgt := 30) dX3_judge_23 (by decide) (fun _ => ?_) (fun _ => ?_)
      · refine x_iconst (v := 1) dX3_judge_26 (by decide) ?_
        refine x_goto (tgt := 31) dX3_judge_27 (by decide) ?_
        exact x_weak (by exact ⟨rfl, ⟨rfl, trivial⟩⟩) (hj31 ((1 : Int32)))
      · exact x_weak (by exact ⟨rfl, ⟨rfl, trivial⟩⟩) (hj30 ())
    · exact x_weak (by exact ⟨rfl, ⟨rfl, trivial⟩⟩) (hj30 ())
theorem s26 {l : Launch} {d : Nat} {rec : Nat → List Value → Mem → XA} (hS : Nonempty XS) (hs : XSnd l xmt rec d) : Snd1 l 26 (b26 rec) d := by
  intro as M r M' h0
  unfold b26 at h0
  obtain ⟨a0, l1, e1, h1⟩ := aR_inv h0
  obtain ⟨a1, l2, e2, h2⟩ := aR_inv h1
  obtain ⟨a2, l3, e3, h3⟩ := aI_inv h2
  obtain ⟨ez, h⟩ := aZ_inv h3
  subst ez
  subst e3
  subst e2
  subst e1
  exact xmet (M := M) (as := [va_rf a0, va_rf a1, .int a2]) (lo := [some (va_rf a0), some (va_rf a1), some (.int a2)]) 26 xq26 xm26 (by rw [xargs_rf, xargs_rf, xargs_i, xargs_nil]; exact ⟨rfl, ⟨rfl, ⟨rfl, trivial⟩⟩⟩) (by rw [xargs_rf, xargs_rf, xargs_i, xargs_nil]; exact Nat.le_of_ble_eq_true rfl) (fun S G K => x_weak (by exact ⟨rfl, ⟨rfl, ⟨rfl, trivial⟩⟩⟩) (k26 hs a0 a1 a2 M)) h hS
set_option maxRecDepth 100000 in
def c27 (rec : Nat → List Value → Mem → XA) (a0 : Option Nat) (a1 : Option Nat) (a2 : Option Nat) (M0 : Mem) : XA :=
  vC (4, 22) M0 a0 <|
  cV (rec 23 [va_rf a0] M0) fun M1 =>
  vC (4, 22) M1 a0 <|
  cV (rec 24 [va_rf a0] M1) fun M2 =>
  gtP (4, 22) M2 a0 11 fun x3 =>
  acI M2 a2 ((0 : Int32)) x3 ((0 : Int32)) ((4 : Int32)) fun M4 =>
  gtI (8, 9) M4 a1 5 fun x5 =>
  vC (4, 22) M4 a0 <|
  cI (rec 28 [va_rf a0, .int x5] M4) fun x7 M6 =>
  jn (fun (s8 : Mem) =>
    alI 100 s8 a2 ((5 : Int32)) fun x9 =>
    asI 100 s8 a2 ((5 : Int32)) ((x9 + ((1 : Int32)))) fun M10 =>
    rtZ x7 M10) fun j39 =>
  if x7 = 0 then (
    gtI (4, 22) M6 a0 20 fun x11 =>
    asI 100 M6 a2 ((4 : Int32)) x11 fun M12 =>
    j39 M12) else (
    j39 M6)
def b27 (rec : Nat → List Value → Mem → XA) (as : List Value) (M0 : Mem) : XA := aR as fun a0 as => aR as fun a1 as => aR as fun a2 as => aZ as (c27 rec a0 a1 a2 M0)
set_option maxRecDepth 100000 in
set_option maxHeartbeats 4000000 in
theorem k27 {S : XS} {G : XG} {K : Nat × Nat} {l : Launch} {d : Nat} {rec : Nat → List Value → Mem → XA} (hs : XSnd l xmt rec d) (a0 : Option Nat) (a1 : Option Nat) (a2 : Option Nat) (M0 : Mem) : Xe S G K l (yX3_holds, cX3_holds, 4, some .boolean) d 0 [some (va_rf a0), some (va_rf a1), some (va_rf a2), none] [] M0 (c27 rec a0 a1 a2 M0) := by
  unfold c27
  refine x_aload_n dX3_holds_0 rfl ?_
  refine cmX3_176 rfl hs (Nat.le_of_ble_eq_true rfl) dX3_holds_1 (fun M1 => ?_)
  refine x_aload_n dX3_holds_4 rfl ?_
  refine cmX3_119 rfl hs (Nat.le_of_ble_eq_true rfl) dX3_holds_5 (fun M2 => ?_)
  refine x_aload_n dX3_holds_8 rfl ?_
  refine x_iconst (v := 0) dX3_holds_9 (by decide) ?_
  refine x_aload_n dX3_holds_10 rfl ?_
  refine gfX3_37 rfl dX3_holds_11 (fun x3 => ?_)
  refine x_iconst (v := 0) dX3_holds_14 (by decide) ?_
  refine x_iconst (v := 4) dX3_holds_15 (by decide) ?_
  refine x_acI lk_methodLink_X3_179 w_acn w_acs w_aci (Nat.le_of_ble_eq_true rfl) dX3_holds_16 (fun M4 => ?_)
  refine x_aload_n dX3_holds_19 rfl ?_
  refine x_aload_n dX3_holds_20 rfl ?_
  refine gfX3_148 rfl dX3_holds_21 (fun x5 => ?_)
  refine cmX3_144 rfl hs (Nat.le_of_ble_eq_true rfl) dX3_holds_24 (fun x7 M6 => ?_)
  refine x_istore_n (lo' := [some (va_rf a0), some (va_rf a1), some (va_rf a2), some (.int x7)]) dX3_holds_27 (by decide) (xok_r rfl) rfl ?_
  refine x_iload_n dX3_holds_28 rfl ?_
  refine x_jn (σ := Mem) 39 (fun s8 => [none, none, some (va_rf a2), some (.int x7)]) (fun s8 => []) (fun s8 => s8) (fun s8 => ?_) (fun j39 hj39 => ?_)
  · refine x_aload_n dX3_holds_39 rfl ?_
    refine x_iconst (v := 5) dX3_holds_40 (by decide) ?_
    refine x_dup2 dX3_holds_41 (xc1_i _) (xc1_r _) ?_
    refine x_iald dX3_holds_42 (fun x9 => ?_)
    refine x_iconst (v := 1) dX3_holds_43 (by decide) ?_
    refine x_iadd dX3_holds_44 ?_
    refine x_iast dX3_holds_45 (fun M10 => ?_)
    refine x_iload_n dX3_holds_46 rfl ?_
    exact x_zret rfl dX3_holds_47
  refine x_if_ne (tgt := 39) dX3_holds_29 (by decide) (fun _ => ?_) (fun _ => ?_)
  · refine x_aload_n dX3_holds_32 rfl ?_
    refine x_iconst (v := 4) dX3_holds_33 (by decide) ?_
    refine x_aload_n dX3_holds_34 rfl ?_
    refine gfX3_155 rfl dX3_holds_35 (fun x11 => ?_)
    refine x_iast dX3_holds_38 (fun M12 => ?_)
    exact x_weak (by exact ⟨rfl, ⟨rfl, trivial⟩⟩) (hj39 M12)
  · exact x_weak (by exact ⟨rfl, ⟨rfl, trivial⟩⟩) (hj39 M6)
theorem s27 {l : Launch} {d : Nat} {rec : Nat → List Value → Mem → XA} (hS : Nonempty XS) (hs : XSnd l xmt rec d) : Snd1 l 27 (b27 rec) d := by
  intro as M r M' h0
  unfold b27 at h0
  obtain ⟨a0, l1, e1, h1⟩ := aR_inv h0
  obtain ⟨a1, l2, e2, h2⟩ := aR_inv h1
  obtain ⟨a2, l3, e3, h3⟩ := aR_inv h2
  obtain ⟨ez, h⟩ := aZ_inv h3
  subst ez
  subst e3
  subst e2
  subst e1
  exact xmet (M := M) (as := [va_rf a0, va_rf a1, va_rf a2]) (lo := [some (va_rf a0), some (va_rf a1), some (va_rf a2)]) 27 xq27 xm27 (by rw [xargs_rf, xargs_rf, xargs_rf, xargs_nil]; exact ⟨rfl, ⟨rfl, ⟨rfl, trivial⟩⟩⟩) (by rw [xargs_rf, xargs_rf, xargs_rf, xargs_nil]; exact Nat.le_of_ble_eq_true rfl) (fun S G K => x_weak (by exact ⟨rfl, ⟨rfl, ⟨rfl, trivial⟩⟩⟩) (k27 hs a0 a1 a2 M)) h hS
set_option maxRecDepth 100000 in
def c28_26 (rec : Nat → List Value → Mem → XA) (a0 : Option Nat) (j126 : Mem → XA) : (Int32 × Mem) → ((Int32 × Mem) → XA) → XA := fun s8 j26 =>
  if ((1000000 : Int32)) ≤ s8.1 then (
    j126 s8.2) else (
    gtI (4, 22) s8.2 a0 14 fun x9 =>
    if x9 ≤ 0 then (
      j126 s8.2) else (
      gtP (4, 22) s8.2 a0 13 fun x10 =>
      gtI (4, 22) s8.2 a0 14 fun x11 =>
      alP 113 s8.2 x10 (x11 - ((1 : Int32))) fun x12 =>
      gtP (4, 22) s8.2 a0 8 fun x13 =>
      alI 100 s8.2 x12 ((2 : Int32)) fun x14 =>
      alP 111 s8.2 x13 x14 fun x15 =>
      jn (fun (s16 : Mem) =>
        lt (s8.1 + (1 : Int32)) fun (x17 : Int32) =>
        j26 (x17, s16)) fun j120 =>
      jn (fun (s18 : Unit) =>
        ptI (4, 22) s8.2 a0 14 ((0 : Int32)) fun M19 =>
        j120 M19) fun j83 =>
      if x15 = none then (
        j83 ()) else (
        alI 100 s8.2 x12 ((0 : Int32)) fun x20 =>
        if x20 < 0 then (
          j83 ()) else (
          alI 100 s8.2 x12 ((0 : Int32)) fun x21 =>
          gtI (6, 18) s8.2 x15 5 fun x22 =>
          if x21 < x22 then (
            gtI (4, 22) s8.2 a0 15 fun x23 =>
            jn (fun (s24 : Mem) =>
              ptZ (4, 22) s24 a0 15 ((0 : Int32)) fun M25 =>
              vC (4, 22) M25 a0 <|
              cV (rec 31 [va_rf a0, va_rf x15, va_rf x12] M25) fun M26 =>
              j120 M26) fun j108 =>
            if x23 = 0 then (
              vC (4, 22) s8.2 a0 <|
              cI (rec 30 [va_rf a0, va_rf x15, va_rf x12] s8.2) fun x28 M27 =>
              if x28 = 0 then (
                j120 M27) else (
                j108 M27)) else (
              j108 s8.2)) else (
            j83 ())))))
set_option maxRecDepth 100000 in
def c28 (rec : Nat → List Value → Mem → XA) (a0 : Option Nat) (a1 : Int32) (M0 : Mem) : XA :=
  ptI (4, 22) M0 a0 19 ((0 : Int32)) fun M1 =>
  ptZ (4, 22) M1 a0 15 ((0 : Int32)) fun M2 =>
  ptI (4, 22) M2 a0 14 ((0 : Int32)) fun M3 =>
  vC (4, 22) M3 a0 <|
  cV (rec 29 [va_rf a0, .int a1, .int ((0 : Int32)), .int ((0 : Int32)), .int ((-2 : Int32))] M3) fun M4 =>
  jn (fun (s5 : Mem) =>
    gtI (4, 22) s5 a0 19 fun x6 =>
    jn (fun (s7 : Int32) =>
      rtZ s7 s5) fun j138 =>
    if x6 = 0 then (
      j138 ((1 : Int32))) else (
      j138 ((0 : Int32)))) fun j126 =>
  lp (c28_26 rec a0 j126) 4294967296 ((0 : Int32), M4)
def b28 (rec : Nat → List Value → Mem → XA) (as : List Value) (M0 : Mem) : XA := aR as fun a0 as => aI as fun a1 as => aZ as (c28 rec a0 a1 M0)
set_option maxRecDepth 100000 in
set_option maxHeartbeats 4000000 in
theorem k28 {S : XS} {G : XG} {K : Nat × Nat} {l : Launch} {d : Nat} {rec : Nat → List Value → Mem → XA} (hs : XSnd l xmt rec d) (a0 : Option Nat) (a1 : Int32) (M0 : Mem) : Xe S G K l (yX3_execute, cX3_execute, 5, some .boolean) d 0 [some (va_rf a0), some (.int a1), none, none, none] [] M0 (c28 rec a0 a1 M0) := by
  unfold c28
  refine x_aload_n dX3_execute_0 rfl ?_
  refine x_iconst (v := 0) dX3_execute_1 (by decide) ?_
  refine pfX3_164 rfl dX3_execute_2 (fun M1 => ?_)
  refine x_aload_n dX3_execute_5 rfl ?_
  refine x_iconst (v := 0) dX3_execute_6 (by decide) ?_
  refine pfX3_185 rfl dX3_execute_7 (fun M2 => ?_)
  refine x_aload_n dX3_execute_10 rfl ?_
  refine x_iconst (v := 0) dX3_execute_11 (by decide) ?_
  refine pfX3_188 rfl dX3_execute_12 (fun M3 => ?_)
  refine x_aload_n dX3_execute_15 rfl ?_
  refine x_iload_n dX3_execute_16 rfl ?_
  refine x_iconst (v := 0) dX3_execute_17 (by decide) ?_
  refine x_iconst (v := 0) dX3_execute_18 (by decide) ?_
  refine x_bipush (v := -2) dX3_execute_19 (by decide) ?_
  refine cmX3_191 rfl hs (Nat.le_of_ble_eq_true rfl) dX3_execute_21 (fun M4 => ?_)
  refine x_iconst (v := 0) dX3_execute_24 (by decide) ?_
  refine x_istore_n (lo' := [some (va_rf a0), some (.int a1), some (.int ((0 : Int32))), none, none]) dX3_execute_25 (by decide) rfl rfl ?_
  refine x_jn (σ := Mem) 126 (fun s5 => [some (va_rf a0), none, none, none, none]) (fun s5 => []) (fun s5 => s5) (fun s5 => ?_) (fun j126 hj126 => ?_)
  · refine x_aload_n dX3_execute_126 rfl ?_
    refine gfX3_164 rfl dX3_execute_127 (fun x6 => ?_)
    refine x_jn (σ := Int32) 138 (fun s7 => [none, none, none, none, none]) (fun s7 => [.int s7]) (fun s7 => s5) (fun s7 => ?_) (fun j138 hj138 => ?_)
    · exact x_zret rfl dX3_execute_138
    refine x_if_ne (tgt := 137) dX3_execute_130 (by decide) (fun _ => ?_) (fun _ => ?_)
    · refine x_iconst (v := 1) dX3_execute_133 (by decide) ?_
      refine x_goto (tgt := 138) dX3_execute_134 (by decide) ?_
      exact x_weak (by exact trivial) (hj138 ((1 : Int32)))
    · refine x_iconst (v := 0) dX3_execute_137 (by decide) ?_
      exact x_weak (by exact trivial) (hj138 ((0 : Int32)))
  refine x_weak (by exact ⟨rfl, ⟨rfl, trivial⟩⟩) (x_lp (σ := Int32 × Mem) 26 (fun s8 => [some (va_rf a0), none, some (.int s8.1), none, none]) (fun s8 => []) (fun s8 => s8.2) (fun s8 j26 hj26 => ?_) 4294967296 ((0 : Int32), M4))
  · refine x_iload_n dX3_execute_26 rfl ?_
    refine x_ldc (v := 1000000) dX3_execute_27 lk_constant_X3_195 ?_
    refine x_icmp_ge (tgt := 126) dX3_execute_29 (by decide) (fun _ => ?_) (fun _ => ?_)
    · exact x_weak (by exact ⟨rfl, trivial⟩) (hj126 s8.2)
    · refine x_aload_n dX3_execute_32 rfl ?_
      refine gfX3_188 rfl dX3_execute_33 (fun x9 => ?_)
      refine x_if_le (tgt := 126) dX3_execute_36 (by decide) (fun _ => ?_) (fun _ => ?_)
      · exact x_weak (by exact ⟨rfl, trivial⟩) (hj126 s8.2)
      · refine x_aload_n dX3_execute_39 rfl ?_
        refine gfX3_43 rfl dX3_execute_40 (fun x10 => ?_)
        refine x_aload_n dX3_execute_43 rfl ?_
        refine gfX3_188 rfl dX3_execute_44 (fun x11 => ?_)
        refine x_iconst (v := 1) dX3_execute_47 (by decide) ?_
        refine x_isub dX3_execute_48 ?_
        refine x_aldg (t := 113) (tn := 8) (by decide) (by decide) rfl rfl dX3_execute_49 (fun x12 => ?_)
        refine x_astore_n (lo' := [some (va_rf a0), none, some (.int s8.1), some (va_rf x12), none]) dX3_execute_50 (by decide) rfl rfl ?_
        refine x_aload_n dX3_execute_51 rfl ?_
        refine gfX3_33 rfl dX3_execute_52 (fun x13 => ?_)
        refine x_aload_n dX3_execute_55 rfl ?_
        refine x_iconst (v := 2) dX3_execute_56 (by decide) ?_
        refine x_iald dX3_execute_57 (fun x14 => ?_)
        refine x_aldq (t := 111) (tn := 6) (by decide) (by decide) rfl dX3_execute_58 (fun x15 => ?_)
        refine x_astore (lo' := [some (va_rf a0), none, some (.int s8.1), some (va_rf x12), some (va_rf x15)]) dX3_execute_59 (by decide) (xok_r rfl) rfl ?_
        refine x_aload dX3_execute_61 rfl ?_
        refine x_jn (σ := Mem) 120 (fun s16 => [some (va_rf a0), none, some (.int s8.1), none, none]) (fun s16 => []) (fun s16 => s16) (fun s16 => ?_) (fun j120 hj120 => ?_)
        · refine x_iincN (v := 1) (lo' := fun x17 => [some (va_rf a0), none, some (.int x17), none, none]) (by decide) dX3_execute_120 rfl (by decide) rfl (fun _ => rfl) (fun x17 => ?_)
          refine x_goto (tgt := 26) dX3_execute_123 (by decide) ?_
          exact x_weak (by exact ⟨rfl, ⟨rfl, trivial⟩⟩) (hj26 (x17, s16))
        refine x_jn (σ := Unit) 83 (fun s18 => [some (va_rf a0), none, some (.int s8.1), none, none]) (fun s18 => []) (fun s18 => s8.2) (fun s18 => ?_) (fun j83 hj83 => ?_)
        · refine x_aload_n dX3_execute_83 rfl ?_
          refine x_iconst (v := 0) dX3_execute_84 (by decide) ?_
          refine pfX3_188 rfl dX3_execute_85 (fun M19 => ?_)
          refine x_goto (tgt := 120) dX3_execute_88 (by decide) ?_
          exact x_weak (by exact ⟨rfl, ⟨rfl, trivial⟩⟩) (hj120 M19)
        refine x_ifnull (tgt := 83) dX3_execute_63 (by decide) (fun _ => ?_) (fun _ => ?_)
        · exact x_weak (by exact ⟨rfl, ⟨rfl, trivial⟩⟩) (hj83 ())
        · refine x_aload_n dX3_execute_66 rfl ?_
          refine x_iconst (v := 0) dX3_execute_67 (by decide) ?_
          refine x_iald dX3_execute_68 (fun x20 => ?_)
          refine x_if_lt (tgt := 83) dX3_execute_69 (by decide) (fun _ => ?_) (fun _ => ?_)
          · exact x_weak (by exact ⟨rfl, ⟨rfl, trivial⟩⟩) (hj83 ())
          · refine x_aload_n dX3_execute_72 rfl ?_
            refine x_iconst (v := 0) dX3_execute_73 (by decide) ?_
            refine x_iald dX3_execute_74 (fun x21 => ?_)
            refine x_aload dX3_execute_75 rfl ?_
            refine gfX3_196 rfl dX3_execute_77 (fun x22 => ?_)
            refine x_icmp_lt (tgt := 91) dX3_execute_80 (by decide) (fun _ => ?_) (fun _ => ?_)
            · refine x_aload_n dX3_execute_91 rfl ?_
              refine gfX3_185 rfl dX3_execute_92 (fun x23 => ?_)
              refine x_jn (σ := Mem) 108 (fun s24 => [some (va_rf a0), none, some (.int s8.1), some (va_rf x12), some (va_rf x15)]) (fun s24 => []) (fun s24 => s24) (fun s24 => ?_) (fun j108 hj108 => ?_)
              · refine x_aload_n dX3_execute_108 rfl ?_
                refine x_iconst (v := 0) dX3_execute_109 (by decide) ?_
                refine pfX3_185 rfl dX3_execute_110 (fun M25 => ?_)
                refine x_aload_n dX3_execute_113 rfl ?_
                refine x_aload dX3_execute_114 rfl ?_
                refine x_aload_n dX3_execute_116 rfl ?_
                refine cmX3_202 rfl hs (Nat.le_of_ble_eq_true rfl) dX3_execute_117 (fun M26 => ?_)
                exact x_weak (by exact ⟨rfl, ⟨rfl, trivial⟩⟩) (hj120 M26)
              refine x_if_ne (tgt := 108) dX3_execute_95 (by decide) (fun _ => ?_) (fun _ => ?_)
              · refine x_aload_n dX3_execute_98 rfl ?_
                refine x_aload dX3_execute_99 rfl ?_
                refine x_aload_n dX3_execute_101 rfl ?_
                refine cmX3_198 rfl hs (Nat.le_of_ble_eq_true rfl) dX3_execute_102 (fun x28 M27 => ?_)
                refine x_if_eq (tgt := 120) dX3_execute_105 (by decide) (fun _ => ?_) (fun _ => ?_)
                · exact x_weak (by exact ⟨rfl, ⟨rfl, trivial⟩⟩) (hj120 M27)
                · exact x_weak (by exact ⟨rfl, ⟨rfl, ⟨rfl, ⟨rfl, trivial⟩⟩⟩⟩) (hj108 M27)
              · exact x_weak (by exact ⟨rfl, ⟨rfl, ⟨rfl, ⟨rfl, trivial⟩⟩⟩⟩) (hj108 s8.2)
            · exact x_weak (by exact ⟨rfl, ⟨rfl, trivial⟩⟩) (hj83 ())
theorem s28 {l : Launch} {d : Nat} {rec : Nat → List Value → Mem → XA} (hS : Nonempty XS) (hs : XSnd l xmt rec d) : Snd1 l 28 (b28 rec) d := by
  intro as M r M' h0
  unfold b28 at h0
  obtain ⟨a0, l1, e1, h1⟩ := aR_inv h0
  obtain ⟨a1, l2, e2, h2⟩ := aI_inv h1
  obtain ⟨ez, h⟩ := aZ_inv h2
  subst ez
  subst e2
  subst e1
  exact xmet (M := M) (as := [va_rf a0, .int a1]) (lo := [some (va_rf a0), some (.int a1)]) 28 xq28 xm28 (by rw [xargs_rf, xargs_i, xargs_nil]; exact ⟨rfl, ⟨rfl, trivial⟩⟩) (by rw [xargs_rf, xargs_i, xargs_nil]; exact Nat.le_of_ble_eq_true rfl) (fun S G K => x_weak (by exact ⟨rfl, ⟨rfl, trivial⟩⟩) (k28 hs a0 a1 M)) h hS
set_option maxRecDepth 100000 in
def c29 (rec : Nat → List Value → Mem → XA) (a0 : Option Nat) (a1 : Int32) (a2 : Int32) (a3 : Int32) (a4 : Int32) (M0 : Mem) : XA :=
  gtP (4, 22) M0 a0 13 fun x1 =>
  gtI (4, 22) M0 a0 14 fun x2 =>
  alP 113 M0 x1 x2 fun x3 =>
  asI 100 M0 x3 ((0 : Int32)) a1 fun M4 =>
  asI 100 M4 x3 ((1 : Int32)) a2 fun M5 =>
  asI 100 M5 x3 ((2 : Int32)) a3 fun M6 =>
  asI 100 M6 x3 ((3 : Int32)) a4 fun M7 =>
  gtI (4, 22) M7 a0 14 fun x8 =>
  ptI (4, 22) M7 a0 14 (x8 + ((1 : Int32))) fun M9 =>
  ptI (4, 22) M9 a0 12 (a2 + ((10 : Int32))) fun M10 =>
  some (.null, M10)
def b29 (rec : Nat → List Value → Mem → XA) (as : List Value) (M0 : Mem) : XA := aR as fun a0 as => aI as fun a1 as => aI as fun a2 as => aI as fun a3 as => aI as fun a4 as => aZ as (c29 rec a0 a1 a2 a3 a4 M0)
set_option maxRecDepth 100000 in
set_option maxHeartbeats 4000000 in
theorem k29 {S : XS} {G : XG} {K : Nat × Nat} {l : Launch} {d : Nat} {rec : Nat → List Value → Mem → XA} (hs : XSnd l xmt rec d) (a0 : Option Nat) (a1 : Int32) (a2 : Int32) (a3 : Int32) (a4 : Int32) (M0 : Mem) : Xe S G K l (yX3_enter, cX3_enter, 6, none) d 0 [some (va_rf a0), some (.int a1), some (.int a2), some (.int a3), some (.int a4), none] [] M0 (c29 rec a0 a1 a2 a3 a4 M0) := by
  unfold c29
  refine x_aload_n dX3_enter_0 rfl ?_
  refine gfX3_43 rfl dX3_enter_1 (fun x1 => ?_)
  refine x_aload_n dX3_enter_4 rfl ?_
  refine gfX3_188 rfl dX3_enter_5 (fun x2 => ?_)
  refine x_aldg (t := 113) (tn := 8) (by decide) (by decide) rfl rfl dX3_enter_8 (fun x3 => ?_)
  refine x_astore (lo' := [some (va_rf a0), some (.int a1), some (.int a2), some (.int a3), some (.int a4), some (va_rf x3)]) dX3_enter_9 (by decide) rfl rfl ?_
  refine x_aload dX3_enter_11 rfl ?_
  refine x_iconst (v := 0) dX3_enter_13 (by decide) ?_
  refine x_iload_n dX3_enter_14 rfl ?_
  refine x_iast dX3_enter_15 (fun M4 => ?_)
  refine x_aload dX3_enter_16 rfl ?_
  refine x_iconst (v := 1) dX3_enter_18 (by decide) ?_
  refine x_iload_n dX3_enter_19 rfl ?_
  refine x_iast dX3_enter_20 (fun M5 => ?_)
  refine x_aload dX3_enter_21 rfl ?_
  refine x_iconst (v := 2) dX3_enter_23 (by decide) ?_
  refine x_iload_n dX3_enter_24 rfl ?_
  refine x_iast dX3_enter_25 (fun M6 => ?_)
  refine x_aload dX3_enter_26 rfl ?_
  refine x_iconst (v := 3) dX3_enter_28 (by decide) ?_
  refine x_iload dX3_enter_29 rfl ?_
  refine x_iast dX3_enter_31 (fun M7 => ?_)
  refine x_aload_n dX3_enter_32 rfl ?_
  refine x_dup dX3_enter_33 (xc1_r _) ?_
  refine gfX3_188 rfl dX3_enter_34 (fun x8 => ?_)
  refine x_iconst (v := 1) dX3_enter_37 (by decide) ?_
  refine x_iadd dX3_enter_38 ?_
  refine pfX3_188 rfl dX3_enter_39 (fun M9 => ?_)
  refine x_aload_n dX3_enter_42 rfl ?_
  refine x_iload_n dX3_enter_43 rfl ?_
  refine x_bipush (v := 10) dX3_enter_44 (by decide) ?_
  refine x_iadd dX3_enter_46 ?_
  refine pfX3_206 rfl dX3_enter_47 (fun M10 => ?_)
  exact x_vret rfl dX3_enter_50
theorem s29 {l : Launch} {d : Nat} {rec : Nat → List Value → Mem → XA} (hS : Nonempty XS) (hs : XSnd l xmt rec d) : Snd1 l 29 (b29 rec) d := by
  intro as M r M' h0
  unfold b29 at h0
  obtain ⟨a0, l1, e1, h1⟩ := aR_inv h0
  obtain ⟨a1, l2, e2, h2⟩ := aI_inv h1
  obtain ⟨a2, l3, e3, h3⟩ := aI_inv h2
  obtain ⟨a3, l4, e4, h4⟩ := aI_inv h3
  obtain ⟨a4, l5, e5, h5⟩ := aI_inv h4
  obtain ⟨ez, h⟩ := aZ_inv h5
  subst ez
  subst e5
  subst e4
  subst e3
  subst e2
  subst e1
  exact xmet (M := M) (as := [va_rf a0, .int a1, .int a2, .int a3, .int a4]) (lo := [some (va_rf a0), some (.int a1), some (.int a2), some (.int a3), some (.int a4)]) 29 xq29 xm29 (by rw [xargs_rf, xargs_i, xargs_i, xargs_i, xargs_i, xargs_nil]; exact ⟨rfl, ⟨rfl, ⟨rfl, ⟨rfl, ⟨rfl, trivial⟩⟩⟩⟩⟩) (by rw [xargs_rf, xargs_i, xargs_i, xargs_i, xargs_i, xargs_nil]; exact Nat.le_of_ble_eq_true rfl) (fun S G K => x_weak (by exact ⟨rfl, ⟨rfl, ⟨rfl, ⟨rfl, ⟨rfl, trivial⟩⟩⟩⟩⟩) (k29 hs a0 a1 a2 a3 a4 M)) h hS
set_option maxRecDepth 100000 in
def c30 (rec : Nat → List Value → Mem → XA) (a0 : Option Nat) (a1 : Option Nat) (a2 : Option Nat) (M0 : Mem) : XA :=
  gtP (4, 22) M0 a0 0 fun x1 =>
  gtI (5, 5) M0 x1 3 fun x2 =>
  gtI (4, 22) M0 a0 1 fun x3 =>
  jn (fun (s4 : Int32) =>
    jn (fun (s5 : Unit) =>
      jn (fun (s6 : Int32) =>
        ptI (4, 22) M0 a0 10 s6 fun M7 =>
        ptI (4, 22) M7 a0 19 ((3 : Int32)) fun M8 =>
        ptI (4, 22) M8 a0 20 ((6 : Int32)) fun M9 =>
        alI 100 M9 a2 ((0 : Int32)) fun x10 =>
        alI 100 M9 a2 ((2 : Int32)) fun x11 =>
        ptI (4, 22) M9 a0 21 (x10 + (((1000 : Int32)) * x11)) fun M12 =>
        ptI (4, 22) M12 a0 14 ((0 : Int32)) fun M13 =>
        rtZ ((0 : Int32)) M13) fun j44 =>
      if s4 = 0 then (
        j44 ((-1 : Int32))) else (
        gtI (4, 22) M0 a0 10 fun x14 =>
        j44 x14)) fun j31 =>
    if s4 = 0 then (
      gtI (4, 22) M0 a0 10 fun x15 =>
      if 0 < x15 then (
        gtP (4, 22) M0 a0 0 fun x16 =>
        gtI (5, 5) M0 x16 3 fun x17 =>
        ptI (5, 5) M0 x16 3 (x17 + ((1 : Int32))) fun M18 =>
        gtI (4, 22) M18 a0 10 fun x19 =>
        ptI (4, 22) M18 a0 10 (x19 - ((1 : Int32))) fun M20 =>
        gtI (4, 22) M20 a0 6 fun x21 =>
        jn (fun (s22 : Mem) =>
          rtZ ((1 : Int32)) s22) fun j122 =>
        if x21 = ((2 : Int32)) then (
          alI 100 M20 a2 ((0 : Int32)) fun x23 =>
          gtI (4, 22) M20 a0 5 fun x24 =>
          vC (6, 18) M20 a1 <|
          cV (rec 55 [va_rf a1, .int x23, .int x24] M20) fun M25 =>
          j122 M25) else (
          j122 M20)) else (
        j31 ())) else (
      j31 ())) fun j19 =>
  if x2 < x3 then (
    j19 ((0 : Int32))) else (
    j19 ((1 : Int32)))
def b30 (rec : Nat → List Value → Mem → XA) (as : List Value) (M0 : Mem) : XA := aR as fun a0 as => aR as fun a1 as => aR as fun a2 as => aZ as (c30 rec a0 a1 a2 M0)
set_option maxRecDepth 100000 in
set_option maxHeartbeats 4000000 in
theorem k30 {S : XS} {G : XG} {K : Nat × Nat} {l : Launch} {d : Nat} {rec : Nat → List Value → Mem → XA} (hs : XSnd l xmt rec d) (a0 : Option Nat) (a1 : Option Nat) (a2 : Option Nat) (M0 : Mem) : Xe S G K l (yX3_begins, cX3_begins, 4, some .boolean) d 0 [some (va_rf a0), some (va_rf a1), some (va_rf a2), none] [] M0 (c30 rec a0 a1 a2 M0) := by
  unfold c30
  refine x_aload_n dX3_begins_0 rfl ?_
  refine gfX3_12 rfl dX3_begins_1 (fun x1 => ?_)
  refine gfX3_113 rfl dX3_begins_4 (fun x2 => ?_)
  refine x_aload_n dX3_begins_7 rfl ?_
  refine gfX3_18 rfl dX3_begins_8 (fun x3 => ?_)
  refine x_jn (σ := Int32) 19 (fun s4 => [some (va_rf a0), some (va_rf a1), some (va_rf a2), none]) (fun s4 => [.int s4]) (fun s4 => M0) (fun s4 => ?_) (fun j19 hj19 => ?_)
  · refine x_istore_n (lo' := [some (va_rf a0), some (va_rf a1), some (va_rf a2), some (.int s4)]) dX3_begins_19 (by decide) (xok_r rfl) rfl ?_
    refine x_iload_n dX3_begins_20 rfl ?_
    refine x_jn (σ := Unit) 31 (fun s5 => [some (va_rf a0), none, some (va_rf a2), some (.int s4)]) (fun s5 => []) (fun s5 => M0) (fun s5 => ?_) (fun j31 hj31 => ?_)
    · refine x_aload_n dX3_begins_31 rfl ?_
      refine x_iload_n dX3_begins_32 rfl ?_
      refine x_jn (σ := Int32) 44 (fun s6 => [some (va_rf a0), none, some (va_rf a2), none]) (fun s6 => [.int s6, va_rf a0]) (fun s6 => M0) (fun s6 => ?_) (fun j44 hj44 => ?_)
      · refine pfX3_57 rfl dX3_begins_44 (fun M7 => ?_)
        refine x_aload_n dX3_begins_47 rfl ?_
        refine x_iconst (v := 3) dX3_begins_48 (by decide) ?_
        refine pfX3_164 rfl dX3_begins_49 (fun M8 => ?_)
        refine x_aload_n dX3_begins_52 rfl ?_
        refine x_bipush (v := 6) dX3_begins_53 (by decide) ?_
        refine pfX3_155 rfl dX3_begins_55 (fun M9 => ?_)
        refine x_aload_n dX3_begins_58 rfl ?_
        refine x_aload_n dX3_begins_59 rfl ?_
        refine x_iconst (v := 0) dX3_begins_60 (by decide) ?_
        refine x_iald dX3_begins_61 (fun x10 => ?_)
        refine x_sipush (v := 1000) dX3_begins_62 (by decide) ?_
        refine x_aload_n dX3_begins_65 rfl ?_
        refine x_iconst (v := 2) dX3_begins_66 (by decide) ?_
        refine x_iald dX3_begins_67 (fun x11 => ?_)
        refine x_imul dX3_begins_68 ?_
        refine x_iadd dX3_begins_69 ?_
        refine pfX3_158 rfl dX3_begins_70 (fun M12 => ?_)
        refine x_aload_n dX3_begins_73 rfl ?_
        refine x_iconst (v := 0) dX3_begins_74 (by decide) ?_
        refine pfX3_188 rfl dX3_begins_75 (fun M13 => ?_)
        refine x_iconst (v := 0) dX3_begins_78 (by decide) ?_
        exact x_zret rfl dX3_begins_79
      refine x_if_eq (tgt := 43) dX3_begins_33 (by decide) (fun _ => ?_) (fun _ => ?_)
      · refine x_iconst (v := -1) dX3_begins_43 (by decide) ?_
        exact x_weak (by exact ⟨rfl, ⟨rfl, trivial⟩⟩) (hj44 ((-1 : Int32)))
      · refine x_aload_n dX3_begins_36 rfl ?_
        refine gfX3_57 rfl dX3_begins_37 (fun x14 => ?_)
        refine x_goto (tgt := 44) dX3_begins_40 (by decide) ?_
        exact x_weak (by exact ⟨rfl, ⟨rfl, trivial⟩⟩) (hj44 x14)
    refine x_if_ne (tgt := 31) dX3_begins_21 (by decide) (fun _ => ?_) (fun _ => ?_)
    · refine x_aload_n dX3_begins_24 rfl ?_
      refine gfX3_57 rfl dX3_begins_25 (fun x15 => ?_)
      refine x_if_gt (tgt := 80) dX3_begins_28 (by decide) (fun _ => ?_) (fun _ => ?_)
      · refine x_aload_n dX3_begins_80 rfl ?_
        refine gfX3_12 rfl dX3_begins_81 (fun x16 => ?_)
        refine x_dup dX3_begins_84 (xc1_r _) ?_
        refine gfX3_113 rfl dX3_begins_85 (fun x17 => ?_)
        refine x_iconst (v := 1) dX3_begins_88 (by decide) ?_
        refine x_iadd dX3_begins_89 ?_
        refine pfX3_113 rfl dX3_begins_90 (fun M18 => ?_)
        refine x_aload_n dX3_begins_93 rfl ?_
        refine x_dup dX3_begins_94 (xc1_r _) ?_
        refine gfX3_57 rfl dX3_begins_95 (fun x19 => ?_)
        refine x_iconst (v := 1) dX3_begins_98 (by decide) ?_
        refine x_isub dX3_begins_99 ?_
        refine pfX3_57 rfl dX3_begins_100 (fun M20 => ?_)
        refine x_aload_n dX3_begins_103 rfl ?_
        refine gfX3_67 rfl dX3_begins_104 (fun x21 => ?_)
        refine x_iconst (v := 2) dX3_begins_107 (by decide) ?_
        refine x_jn (σ := Mem) 122 (fun s22 => [none, none, none, none]) (fun s22 => []) (fun s22 => s22) (fun s22 => ?_) (fun j122 hj122 => ?_)
        · refine x_iconst (v := 1) dX3_begins_122 (by decide) ?_
          exact x_zret rfl dX3_begins_123
        refine x_icmp_ne (tgt := 122) dX3_begins_108 (by decide) (fun _ => ?_) (fun _ => ?_)
        · refine x_aload_n dX3_begins_111 rfl ?_
          refine x_aload_n dX3_begins_112 rfl ?_
          refine x_iconst (v := 0) dX3_begins_113 (by decide) ?_
          refine x_iald dX3_begins_114 (fun x23 => ?_)
          refine x_aload_n dX3_begins_115 rfl ?_
          refine gfX3_209 rfl dX3_begins_116 (fun x24 => ?_)
          refine cmX3_212 rfl hs (Nat.le_of_ble_eq_true rfl) dX3_begins_119 (fun M25 => ?_)
          exact x_weak (by exact trivial) (hj122 M25)
        · exact x_weak (by exact trivial) (hj122 M20)
      · exact x_weak (by exact ⟨rfl, ⟨rfl, ⟨rfl, trivial⟩⟩⟩) (hj31 ())
    · exact x_weak (by exact ⟨rfl, ⟨rfl, ⟨rfl, trivial⟩⟩⟩) (hj31 ())
  refine x_icmp_lt (tgt := 18) dX3_begins_11 (by decide) (fun _ => ?_) (fun _ => ?_)
  · refine x_iconst (v := 0) dX3_begins_18 (by decide) ?_
    exact x_weak (by exact ⟨rfl, ⟨rfl, ⟨rfl, trivial⟩⟩⟩) (hj19 ((0 : Int32)))
  · refine x_iconst (v := 1) dX3_begins_14 (by decide) ?_
    refine x_goto (tgt := 19) dX3_begins_15 (by decide) ?_
    exact x_weak (by exact ⟨rfl, ⟨rfl, ⟨rfl, trivial⟩⟩⟩) (hj19 ((1 : Int32)))
theorem s30 {l : Launch} {d : Nat} {rec : Nat → List Value → Mem → XA} (hS : Nonempty XS) (hs : XSnd l xmt rec d) : Snd1 l 30 (b30 rec) d := by
  intro as M r M' h0
  unfold b30 at h0
  obtain ⟨a0, l1, e1, h1⟩ := aR_inv h0
  obtain ⟨a1, l2, e2, h2⟩ := aR_inv h1
  obtain ⟨a2, l3, e3, h3⟩ := aR_inv h2
  obtain ⟨ez, h⟩ := aZ_inv h3
  subst ez
  subst e3
  subst e2
  subst e1
  exact xmet (M := M) (as := [va_rf a0, va_rf a1, va_rf a2]) (lo := [some (va_rf a0), some (va_rf a1), some (va_rf a2)]) 30 xq30 xm30 (by rw [xargs_rf, xargs_rf, xargs_rf, xargs_nil]; exact ⟨rfl, ⟨rfl, ⟨rfl, trivial⟩⟩⟩) (by rw [xargs_rf, xargs_rf, xargs_rf, xargs_nil]; exact Nat.le_of_ble_eq_true rfl) (fun S G K => x_weak (by exact ⟨rfl, ⟨rfl, ⟨rfl, trivial⟩⟩⟩) (k30 hs a0 a1 a2 M)) h hS
set_option maxRecDepth 100000 in
def c31 (rec : Nat → List Value → Mem → XA) (a0 : Option Nat) (a1 : Option Nat) (a2 : Option Nat) (M0 : Mem) : XA :=
  alI 100 M0 a2 ((0 : Int32)) fun x1 =>
  gtP (6, 18) M0 a1 6 fun x2 =>
  alI 100 M0 x2 x1 fun x3 =>
  gtP (6, 18) M0 a1 7 fun x4 =>
  alI 100 M0 x4 x1 fun x5 =>
  gtI (4, 22) M0 a0 3 fun x6 =>
  jn (fun (s7 : Int32 × Int32) =>
    jn (fun (s8 : Mem) =>
      some (.null, s8)) fun j228 =>
    jn (fun (s9 : Unit) =>
      jn (fun (s10 : Unit) =>
        jn (fun (s11 : Unit) =>
          vC (4, 22) M0 a0 <|
          cV (rec 36 [va_rf a0, .int s7.1, .int s7.2, va_rf a2] M0) fun M12 =>
          j228 M12) fun j121 =>
        jn (fun (s13 : Unit) =>
          if s7.1 = ((31 : Int32)) then (
            j121 ()) else (
            jn (fun (s14 : Unit) =>
              jn (fun (s15 : Int32 × Mem) =>
                vC (4, 22) s15.2 a0 <|
                cV (rec 40 [va_rf a0, .int s15.1, va_rf a2] s15.2) fun M16 =>
                j228 M16) fun j163 =>
              if s7.1 = ((34 : Int32)) then (
                j163 ((0 : Int32), M0)) else (
                vC (4, 22) M0 a0 <|
                cI (rec 33 [va_rf a0] M0) fun x18 M17 =>
                j163 (x18, M17))) fun j147 =>
            if s7.1 = ((8 : Int32)) then (
              j147 ()) else (
              if s7.1 = ((34 : Int32)) then (
                j147 ()) else (
                if s7.1 = ((23 : Int32)) then (
                  vC (4, 22) M0 a0 <|
                  cV (rec 39 [va_rf a0, va_rf a2] M0) fun M19 =>
                  j228 M19) else (
                  if s7.1 = ((29 : Int32)) then (
                    vC (4, 22) M0 a0 <|
                    cI (rec 33 [va_rf a0] M0) fun x21 M20 =>
                    vC (4, 22) M20 a0 <|
                    cV (rec 41 [va_rf a0, .int x21, .int ((1 : Int32))] M20) fun M22 =>
                    j228 M22) else (
                    if s7.1 = ((28 : Int32)) then (
                      vC (4, 22) M0 a0 <|
                      cV (rec 35 [va_rf a0, va_rf a2] M0) fun M23 =>
                      j228 M23) else (
                      vC (4, 22) M0 a0 <|
                      cV (rec 34 [va_rf a0, .int s7.1, .int s7.2, va_rf a2] M0) fun M24 =>
                      j228 M24))))))) fun j114 =>
        if s7.1 < ((24 : Int32)) then (
          j114 ()) else (
          if s7.1 ≤ ((26 : Int32)) then (
            j121 ()) else (
            j114 ()))) fun j100 =>
      if s7.1 < ((10 : Int32)) then (
        j100 ()) else (
        if ((20 : Int32)) < s7.1 then (
          j100 ()) else (
          vC (4, 22) M0 a0 <|
          cV (rec 37 [va_rf a0, .int s7.1, va_rf a2] M0) fun M25 =>
          j228 M25))) fun j76 =>
    if s7.1 < ((3 : Int32)) then (
      j76 ()) else (
      if ((7 : Int32)) < s7.1 then (
        j76 ()) else (
        vC (4, 22) M0 a0 <|
        cV (rec 42 [va_rf a0, .int s7.1, .int s7.2, va_rf a2] M0) fun M26 =>
        j228 M26))) fun j51 =>
  if x1 = x6 then (
    jn (fun (s27 : Int32) =>
      lt (x5 + s27) fun (x28 : Int32) =>
      alI 100 M0 ((some 1)) x3 fun x29 =>
      j51 (x29, x28)) fun j40 =>
    if x3 = 0 then (
      j40 ((1 : Int32))) else (
      j40 ((0 : Int32)))) else (
    j51 (x3, x5))
def b31 (rec : Nat → List Value → Mem → XA) (as : List Value) (M0 : Mem) : XA := aR as fun a0 as => aR as fun a1 as => aR as fun a2 as => aZ as (c31 rec a0 a1 a2 M0)
set_option maxRecDepth 100000 in
set_option maxHeartbeats 4000000 in
theorem k31 {S : XS} {G : XG} {K : Nat × Nat} {l : Launch} {d : Nat} {rec : Nat → List Value → Mem → XA} (hs : XSnd l xmt rec d) (a0 : Option Nat) (a1 : Option Nat) (a2 : Option Nat) (M0 : Mem) : Xe S G K l (yX3_obey, cX3_obey, 6, none) d 0 [some (va_rf a0), some (va_rf a1), some (va_rf a2), none, none, none] [] M0 (c31 rec a0 a1 a2 M0) := by
  unfold c31
  refine x_aload_n dX3_obey_0 rfl ?_
  refine x_iconst (v := 0) dX3_obey_1 (by decide) ?_
  refine x_iald dX3_obey_2 (fun x1 => ?_)
  refine x_istore_n (lo' := [some (va_rf a0), some (va_rf a1), some (va_rf a2), some (.int x1), none, none]) dX3_obey_3 (by decide) (xok_r rfl) rfl ?_
  refine x_aload_n dX3_obey_4 rfl ?_
  refine gfX3_216 rfl dX3_obey_5 (fun x2 => ?_)
  refine x_iload_n dX3_obey_8 rfl ?_
  refine x_iald dX3_obey_9 (fun x3 => ?_)
  refine x_istore (lo' := [some (va_rf a0), some (va_rf a1), some (va_rf a2), some (.int x1), some (.int x3), none]) dX3_obey_10 (by decide) rfl rfl ?_
  refine x_aload_n dX3_obey_12 rfl ?_
  refine gfX3_219 rfl dX3_obey_13 (fun x4 => ?_)
  refine x_iload_n dX3_obey_16 rfl ?_
  refine x_iald dX3_obey_17 (fun x5 => ?_)
  refine x_istore (lo' := [some (va_rf a0), some (va_rf a1), some (va_rf a2), some (.int x1), some (.int x3), some (.int x5)]) dX3_obey_18 (by decide) rfl rfl ?_
  refine x_iload_n dX3_obey_20 rfl ?_
  refine x_aload_n dX3_obey_21 rfl ?_
  refine gfX3_60 rfl dX3_obey_22 (fun x6 => ?_)
  refine x_jn (σ := Int32 × Int32) 51 (fun s7 => [some (va_rf a0), none, some (va_rf a2), none, some (.int s7.1), some (.int s7.2)]) (fun s7 => []) (fun s7 => M0) (fun s7 => ?_) (fun j51 hj51 => ?_)
  · refine x_iload dX3_obey_51 rfl ?_
    refine x_iconst (v := 3) dX3_obey_53 (by decide) ?_
    refine x_jn (σ := Mem) 228 (fun s8 => [none, none, none, none, none, none]) (fun s8 => []) (fun s8 => s8) (fun s8 => ?_) (fun j228 hj228 => ?_)
    · exact x_vret rfl dX3_obey_228
    refine x_jn (σ := Unit) 76 (fun s9 => [some (va_rf a0), none, some (va_rf a2), none, some (.int s7.1), some (.int s7.2)]) (fun s9 => []) (fun s9 => M0) (fun s9 => ?_) (fun j76 hj76 => ?_)
    · refine x_iload dX3_obey_76 rfl ?_
      refine x_bipush (v := 10) dX3_obey_78 (by decide) ?_
      refine x_jn (σ := Unit) 100 (fun s10 => [some (va_rf a0), none, some (va_rf a2), none, some (.int s7.1), some (.int s7.2)]) (fun s10 => []) (fun s10 => M0) (fun s10 => ?_) (fun j100 hj100 => ?_)
      · refine x_iload dX3_obey_100 rfl ?_
        refine x_bipush (v := 24) dX3_obey_102 (by decide) ?_
        refine x_jn (σ := Unit) 121 (fun s11 => [some (va_rf a0), none, some (va_rf a2), none, some (.int s7.1), some (.int s7.2)]) (fun s11 => []) (fun s11 => M0) (fun s11 => ?_) (fun j121 hj121 => ?_)
        · refine x_aload_n dX3_obey_121 rfl ?_
          refine x_iload dX3_obey_122 rfl ?_
          refine x_iload dX3_obey_124 rfl ?_
          refine x_aload_n dX3_obey_126 rfl ?_
          refine cmX3_233 rfl hs (Nat.le_of_ble_eq_true rfl) dX3_obey_127 (fun M12 => ?_)
          refine x_goto (tgt := 228) dX3_obey_130 (by decide) ?_
          exact x_weak (by exact trivial) (hj228 M12)
        refine x_jn (σ := Unit) 114 (fun s13 => [some (va_rf a0), none, some (va_rf a2), none, some (.int s7.1), some (.int s7.2)]) (fun s13 => []) (fun s13 => M0) (fun s13 => ?_) (fun j114 hj114 => ?_)
        · refine x_iload dX3_obey_114 rfl ?_
          refine x_bipush (v := 31) dX3_obey_116 (by decide) ?_
          refine x_icmp_ne (tgt := 133) dX3_obey_118 (by decide) (fun _ => ?_) (fun _ => ?_)
          · exact x_weak (by exact ⟨rfl, ⟨rfl, ⟨rfl, ⟨rfl, trivial⟩⟩⟩⟩) (hj121 ())
          · refine x_iload dX3_obey_133 rfl ?_
            refine x_bipush (v := 8) dX3_obey_135 (by decide) ?_
            refine x_jn (σ := Unit) 147 (fun s14 => [some (va_rf a0), none, some (va_rf a2), none, some (.int s7.1), none]) (fun s14 => []) (fun s14 => M0) (fun s14 => ?_) (fun j147 hj147 => ?_)
            · refine x_aload_n dX3_obey_147 rfl ?_
              refine x_iload dX3_obey_148 rfl ?_
              refine x_bipush (v := 34) dX3_obey_150 (by decide) ?_
              refine x_jn (σ := Int32 × Mem) 163 (fun s15 => [none, none, some (va_rf a2), none, none, none]) (fun s15 => [.int s15.1, va_rf a0]) (fun s15 => s15.2) (fun s15 => ?_) (fun j163 hj163 => ?_)
              · refine x_aload_n dX3_obey_163 rfl ?_
                refine cmX3_239 rfl hs (Nat.le_of_ble_eq_true rfl) dX3_obey_164 (fun M16 => ?_)
                refine x_goto (tgt := 228) dX3_obey_167 (by decide) ?_
                exact x_weak (by exact trivial) (hj228 M16)
              refine x_icmp_ne (tgt := 159) dX3_obey_152 (by decide) (fun _ => ?_) (fun _ => ?_)
              · refine x_iconst (v := 0) dX3_obey_155 (by decide) ?_
                refine x_goto (tgt := 163) dX3_obey_156 (by decide) ?_
                exact x_weak (by exact ⟨rfl, trivial⟩) (hj163 ((0 : Int32), M0))
              · refine x_aload_n dX3_obey_159 rfl ?_
                refine cmX3_236 rfl hs (Nat.le_of_ble_eq_true rfl) dX3_obey_160 (fun x18 M17 => ?_)
                exact x_weak (by exact ⟨rfl, trivial⟩) (hj163 (x18, M17))
            refine x_icmp_eq (tgt := 147) dX3_obey_137 (by decide) (fun _ => ?_) (fun _ => ?_)
            · exact x_weak (by exact ⟨rfl, ⟨rfl, ⟨rfl, trivial⟩⟩⟩) (hj147 ())
            · refine x_iload dX3_obey_140 rfl ?_
              refine x_bipush (v := 34) dX3_obey_142 (by decide) ?_
              refine x_icmp_ne (tgt := 170) dX3_obey_144 (by decide) (fun _ => ?_) (fun _ => ?_)
              · exact x_weak (by exact ⟨rfl, ⟨rfl, ⟨rfl, trivial⟩⟩⟩) (hj147 ())
              · refine x_iload dX3_obey_170 rfl ?_
                refine x_bipush (v := 23) dX3_obey_172 (by decide) ?_
                refine x_icmp_ne (tgt := 185) dX3_obey_174 (by decide) (fun _ => ?_) (fun _ => ?_)
                · refine x_aload_n dX3_obey_177 rfl ?_
                  refine x_aload_n dX3_obey_178 rfl ?_
                  refine cmX3_242 rfl hs (Nat.le_of_ble_eq_true rfl) dX3_obey_179 (fun M19 => ?_)
                  refine x_goto (tgt := 228) dX3_obey_182 (by decide) ?_
                  exact x_weak (by exact trivial) (hj228 M19)
                · refine x_iload dX3_obey_185 rfl ?_
                  refine x_bipush (v := 29) dX3_obey_187 (by decide) ?_
                  refine x_icmp_ne (tgt := 204) dX3_obey_189 (by decide) (fun _ => ?_) (fun _ => ?_)
                  · refine x_aload_n dX3_obey_192 rfl ?_
                    refine x_aload_n dX3_obey_193 rfl ?_
                    refine cmX3_236 rfl hs (Nat.le_of_ble_eq_true rfl) dX3_obey_194 (fun x21 M20 => ?_)
                    refine x_iconst (v := 1) dX3_obey_197 (by decide) ?_
                    refine cmX3_246 rfl hs (Nat.le_of_ble_eq_true rfl) dX3_obey_198 (fun M22 => ?_)
                    refine x_goto (tgt := 228) dX3_obey_201 (by decide) ?_
                    exact x_weak (by exact trivial) (hj228 M22)
                  · refine x_iload dX3_obey_204 rfl ?_
                    refine x_bipush (v := 28) dX3_obey_206 (by decide) ?_
                    refine x_icmp_ne (tgt := 219) dX3_obey_208 (by decide) (fun _ => ?_) (fun _ => ?_)
                    · refine x_aload_n dX3_obey_211 rfl ?_
                      refine x_aload_n dX3_obey_212 rfl ?_
                      refine cmX3_249 rfl hs (Nat.le_of_ble_eq_true rfl) dX3_obey_213 (fun M23 => ?_)
                      refine x_goto (tgt := 228) dX3_obey_216 (by decide) ?_
                      exact x_weak (by exact trivial) (hj228 M23)
                    · refine x_aload_n dX3_obey_219 rfl ?_
                      refine x_iload dX3_obey_220 rfl ?_
                      refine x_iload dX3_obey_222 rfl ?_
                      refine x_aload_n dX3_obey_224 rfl ?_
                      refine cmX3_252 rfl hs (Nat.le_of_ble_eq_true rfl) dX3_obey_225 (fun M24 => ?_)
                      exact x_weak (by exact trivial) (hj228 M24)
        refine x_icmp_lt (tgt := 114) dX3_obey_104 (by decide) (fun _ => ?_) (fun _ => ?_)
        · exact x_weak (by exact ⟨rfl, ⟨rfl, ⟨rfl, ⟨rfl, trivial⟩⟩⟩⟩) (hj114 ())
        · refine x_iload dX3_obey_107 rfl ?_
          refine x_bipush (v := 26) dX3_obey_109 (by decide) ?_
          refine x_icmp_le (tgt := 121) dX3_obey_111 (by decide) (fun _ => ?_) (fun _ => ?_)
          · exact x_weak (by exact ⟨rfl, ⟨rfl, ⟨rfl, ⟨rfl, trivial⟩⟩⟩⟩) (hj121 ())
          · exact x_weak (by exact ⟨rfl, ⟨rfl, ⟨rfl, ⟨rfl, trivial⟩⟩⟩⟩) (hj114 ())
      refine x_icmp_lt (tgt := 100) dX3_obey_80 (by decide) (fun _ => ?_) (fun _ => ?_)
      · exact x_weak (by exact ⟨rfl, ⟨rfl, ⟨rfl, ⟨rfl, trivial⟩⟩⟩⟩) (hj100 ())
      · refine x_iload dX3_obey_83 rfl ?_
        refine x_bipush (v := 20) dX3_obey_85 (by decide) ?_
        refine x_icmp_gt (tgt := 100) dX3_obey_87 (by decide) (fun _ => ?_) (fun _ => ?_)
        · exact x_weak (by exact ⟨rfl, ⟨rfl, ⟨rfl, ⟨rfl, trivial⟩⟩⟩⟩) (hj100 ())
        · refine x_aload_n dX3_obey_90 rfl ?_
          refine x_iload dX3_obey_91 rfl ?_
          refine x_aload_n dX3_obey_93 rfl ?_
          refine cmX3_229 rfl hs (Nat.le_of_ble_eq_true rfl) dX3_obey_94 (fun M25 => ?_)
          refine x_goto (tgt := 228) dX3_obey_97 (by decide) ?_
          exact x_weak (by exact trivial) (hj228 M25)
    refine x_icmp_lt (tgt := 76) dX3_obey_54 (by decide) (fun _ => ?_) (fun _ => ?_)
    · exact x_weak (by exact ⟨rfl, ⟨rfl, ⟨rfl, ⟨rfl, trivial⟩⟩⟩⟩) (hj76 ())
    · refine x_iload dX3_obey_57 rfl ?_
      refine x_bipush (v := 7) dX3_obey_59 (by decide) ?_
      refine x_icmp_gt (tgt := 76) dX3_obey_61 (by decide) (fun _ => ?_) (fun _ => ?_)
      · exact x_weak (by exact ⟨rfl, ⟨rfl, ⟨rfl, ⟨rfl, trivial⟩⟩⟩⟩) (hj76 ())
      · refine x_aload_n dX3_obey_64 rfl ?_
        refine x_iload dX3_obey_65 rfl ?_
        refine x_iload dX3_obey_67 rfl ?_
        refine x_aload_n dX3_obey_69 rfl ?_
        refine cmX3_225 rfl hs (Nat.le_of_ble_eq_true rfl) dX3_obey_70 (fun M26 => ?_)
        refine x_goto (tgt := 228) dX3_obey_73 (by decide) ?_
        exact x_weak (by exact trivial) (hj228 M26)
  refine x_icmp_ne (tgt := 51) dX3_obey_25 (by decide) (fun _ => ?_) (fun _ => ?_)
  · refine x_iload dX3_obey_28 rfl ?_
    refine x_iload dX3_obey_30 rfl ?_
    refine x_jn (σ := Int32) 40 (fun s27 => [some (va_rf a0), none, some (va_rf a2), none, some (.int x3), none]) (fun s27 => [.int s27, .int x5]) (fun s27 => M0) (fun s27 => ?_) (fun j40 hj40 => ?_)
    · refine x_iadd dX3_obey_40 ?_
      refine x_ltI (fun x28 => ?_)
      refine x_istore (lo' := [some (va_rf a0), none, some (va_rf a2), none, some (.int x3), some (.int x28)]) dX3_obey_41 (by decide) rfl rfl ?_
      refine x_getsN (v := va_rf (some 1)) z_ins lsX3_222 dX3_obey_43 ?_
      refine x_iload dX3_obey_46 rfl ?_
      refine x_iald dX3_obey_48 (fun x29 => ?_)
      refine x_istore (lo' := [some (va_rf a0), none, some (va_rf a2), none, some (.int x29), some (.int x28)]) dX3_obey_49 (by decide) rfl rfl ?_
      exact x_weak (by exact ⟨rfl, ⟨rfl, ⟨rfl, ⟨rfl, trivial⟩⟩⟩⟩) (hj51 (x29, x28))
    refine x_if_ne (tgt := 39) dX3_obey_32 (by decide) (fun _ => ?_) (fun _ => ?_)
    · refine x_iconst (v := 1) dX3_obey_35 (by decide) ?_
      refine x_goto (tgt := 40) dX3_obey_36 (by decide) ?_
      exact x_weak (by exact ⟨rfl, ⟨rfl, ⟨rfl, trivial⟩⟩⟩) (hj40 ((1 : Int32)))
    · refine x_iconst (v := 0) dX3_obey_39 (by decide) ?_
      exact x_weak (by exact ⟨rfl, ⟨rfl, ⟨rfl, trivial⟩⟩⟩) (hj40 ((0 : Int32)))
  · exact x_weak (by exact ⟨rfl, ⟨rfl, ⟨rfl, ⟨rfl, trivial⟩⟩⟩⟩) (hj51 (x3, x5))
theorem s31 {l : Launch} {d : Nat} {rec : Nat → List Value → Mem → XA} (hS : Nonempty XS) (hs : XSnd l xmt rec d) : Snd1 l 31 (b31 rec) d := by
  intro as M r M' h0
  unfold b31 at h0
  obtain ⟨a0, l1, e1, h1⟩ := aR_inv h0
  obtain ⟨a1, l2, e2, h2⟩ := aR_inv h1
  obtain ⟨a2, l3, e3, h3⟩ := aR_inv h2
  obtain ⟨ez, h⟩ := aZ_inv h3
  subst ez
  subst e3
  subst e2
  subst e1
  exact xmet (M := M) (as := [va_rf a0, va_rf a1, va_rf a2]) (lo := [some (va_rf a0), some (va_rf a1), some (va_rf a2)]) 31 xq31 xm31 (by rw [xargs_rf, xargs_rf, xargs_rf, xargs_nil]; exact ⟨rfl, ⟨rfl, ⟨rfl, trivial⟩⟩⟩) (by rw [xargs_rf, xargs_rf, xargs_rf, xargs_nil]; exact Nat.le_of_ble_eq_true rfl) (fun S G K => x_weak (by exact ⟨rfl, ⟨rfl, ⟨rfl, trivial⟩⟩⟩) (k31 hs a0 a1 a2 M)) h hS
