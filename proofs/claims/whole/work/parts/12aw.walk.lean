set_option maxRecDepth 100000 in
def c354 (rec : Nat → List Value → Mem → XA) (a0 : Option Nat) (a1 : Int32) (M0 : Mem) : XA :=
  gcl M0 a0 fun x1 =>
  cP (rec 355 [va_rf a0, .int a1, va_rf x1] M0) fun x3 M2 =>
  some (va_rf x3, M2)
def b354 (rec : Nat → List Value → Mem → XA) (as : List Value) (M0 : Mem) : XA := aR as fun a0 as => aI as fun a1 as => aZ as (c354 rec a0 a1 M0)
set_option maxRecDepth 100000 in
set_option maxHeartbeats 4000000 in
theorem k354 {S : XS} {G : XG} {K : Nat × Nat} {l : Launch} {d : Nat} {rec : Nat → List Value → Mem → XA} (hs : XSnd l xmt rec d) (a0 : Option Nat) (a1 : Int32) (M0 : Mem) : Xe S G K l (yJ7_copyOf_1904c, cJ7_copyOf_1904c, 2, some (.array (.object "java/lang/Object"))) d 0 [some (va_rf a0), some (.int a1)] [] M0 (c354 rec a0 a1 M0) := by
  unfold c354
  refine x_aload_n dJ7_copyOf_1904c_0 rfl ?_
  refine x_iload_n dJ7_copyOf_1904c_1 rfl ?_
  refine x_aload_n dJ7_copyOf_1904c_2 rfl ?_
  refine x_gcl lk_methodLink_J7_86 w_gc1 w_gc2 w_gc3 (Nat.le_of_ble_eq_true rfl) dJ7_copyOf_1904c_3 (fun x1 => ?_)
  refine cmJ7_300 rfl hs (Nat.le_of_ble_eq_true rfl) dJ7_copyOf_1904c_6 (fun x3 M2 => ?_)
  exact x_aret rfl rfl dJ7_copyOf_1904c_9
theorem s354 {l : Launch} {d : Nat} {rec : Nat → List Value → Mem → XA} (hS : Nonempty XS) (hs : XSnd l xmt rec d) : Snd1 l 354 (b354 rec) d := by
  intro as M r M' h0
  unfold b354 at h0
  obtain ⟨a0, l1, e1, h1⟩ := aR_inv h0
  obtain ⟨a1, l2, e2, h2⟩ := aI_inv h1
  obtain ⟨ez, h⟩ := aZ_inv h2
  subst ez
  subst e2
  subst e1
  exact xmet (M := M) (as := [va_rf a0, .int a1]) (lo := [some (va_rf a0), some (.int a1)]) 354 xq354 xm354 (by rw [xargs_rf, xargs_i, xargs_nil]; exact ⟨rfl, ⟨rfl, trivial⟩⟩) (by rw [xargs_rf, xargs_i, xargs_nil]; exact Nat.le_of_ble_eq_true rfl) (fun S G K => x_weak (by exact ⟨rfl, ⟨rfl, trivial⟩⟩) (k354 hs a0 a1 M)) h hS
set_option maxRecDepth 100000 in
def c355 (rec : Nat → List Value → Mem → XA) (a0 : Option Nat) (a1 : Int32) (a2 : Option Nat) (M0 : Mem) : XA :=
  if a2 = ((some 63)) then (
    nA 110 M0 a1 fun x1 M2 =>
    aln M2 a0 fun x3 =>
    lt (if a1 < x3 then a1 else x3) fun x4 =>
    acP M2 a0 ((0 : Int32)) x1 ((0 : Int32)) x4 fun M5 =>
    some (va_rf x1, M5)) else if acd M0 a2 ((some 63)) = true then (
    none) else none
def b355 (rec : Nat → List Value → Mem → XA) (as : List Value) (M0 : Mem) : XA := aR as fun a0 as => aI as fun a1 as => aR as fun a2 as => aZ as (c355 rec a0 a1 a2 M0)
set_option maxRecDepth 100000 in
set_option maxHeartbeats 4000000 in
theorem k355 {S : XS} {G : XG} {K : Nat × Nat} {l : Launch} {d : Nat} {rec : Nat → List Value → Mem → XA} (hs : XSnd l xmt rec d) (a0 : Option Nat) (a1 : Int32) (a2 : Option Nat) (M0 : Mem) : Xe S G K l (yJ7_copyOf_6403c, cJ7_copyOf_6403c, 4, some (.array (.object "java/lang/Object"))) d 0 [some (va_rf a0), some (.int a1), some (va_rf a2), none] [] M0 (c355 rec a0 a1 a2 M0) := by
  unfold c355
  refine x_aload_n dJ7_copyOf_6403c_0 rfl ?_
  refine x_ldcM lk_classLink_J7_110 dJ7_copyOf_6403c_1 ?_
  refine x_acmp_ne (tgt := 13) dJ7_copyOf_6403c_3 (by decide) (fun _ => ?_) (fun _ => ?_)
  · refine x_iload_n dJ7_copyOf_6403c_6 rfl ?_
    refine x_newq (t := 110) (tn := 5) (C := "java/lang/Object") (by decide) (by decide) rfl lk_classLink_J7_2 xov110 dJ7_copyOf_6403c_7 (fun x1 M2 => ?_)
    refine x_goto (tgt := 24) dJ7_copyOf_6403c_10 (by decide) ?_
    refine x_astore_n (lo' := [some (va_rf a0), some (.int a1), some (va_rf a2), some (va_rf x1)]) dJ7_copyOf_6403c_24 (by decide) (xok_r rfl) rfl ?_
    refine x_aload_n dJ7_copyOf_6403c_25 rfl ?_
    refine x_iconst (v := 0) dJ7_copyOf_6403c_26 (by decide) ?_
    refine x_aload_n dJ7_copyOf_6403c_27 rfl ?_
    refine x_iconst (v := 0) dJ7_copyOf_6403c_28 (by decide) ?_
    refine x_aload_n dJ7_copyOf_6403c_29 rfl ?_
    refine x_alen dJ7_copyOf_6403c_30 (fun x3 => ?_)
    refine x_iload_n dJ7_copyOf_6403c_31 rfl ?_
    refine x_mmin lk_methodLink_J7_304 w_mmin1 w_mi w_mmin2 (Nat.le_of_ble_eq_true rfl) dJ7_copyOf_6403c_32 (fun x4 => ?_)
    refine x_acP lk_methodLink_J7_150 w_acn w_acs w_aci hasg110 (Nat.le_of_ble_eq_true rfl) dJ7_copyOf_6403c_35 (fun M5 => ?_)
    refine x_aload_n dJ7_copyOf_6403c_38 rfl ?_
    exact x_aret rfl rfl dJ7_copyOf_6403c_39
  · refine x_aload_n dJ7_copyOf_6403c_13 rfl ?_
    exact x_none
theorem s355 {l : Launch} {d : Nat} {rec : Nat → List Value → Mem → XA} (hS : Nonempty XS) (hs : XSnd l xmt rec d) : Snd1 l 355 (b355 rec) d := by
  intro as M r M' h0
  unfold b355 at h0
  obtain ⟨a0, l1, e1, h1⟩ := aR_inv h0
  obtain ⟨a1, l2, e2, h2⟩ := aI_inv h1
  obtain ⟨a2, l3, e3, h3⟩ := aR_inv h2
  obtain ⟨ez, h⟩ := aZ_inv h3
  subst ez
  subst e3
  subst e2
  subst e1
  exact xmet (M := M) (as := [va_rf a0, .int a1, va_rf a2]) (lo := [some (va_rf a0), some (.int a1), some (va_rf a2)]) 355 xq355 xm355 (by rw [xargs_rf, xargs_i, xargs_rf, xargs_nil]; exact ⟨rfl, ⟨rfl, ⟨rfl, trivial⟩⟩⟩) (by rw [xargs_rf, xargs_i, xargs_rf, xargs_nil]; exact Nat.le_of_ble_eq_true rfl) (fun S G K => x_weak (by exact ⟨rfl, ⟨rfl, ⟨rfl, trivial⟩⟩⟩) (k355 hs a0 a1 a2 M)) h hS
set_option maxRecDepth 100000 in
def c356 (rec : Nat → List Value → Mem → XA) (a0 : Option Nat) (a1 : Int32) (M0 : Mem) : XA :=
  aln M0 a0 fun x1 =>
  if a1 = x1 then (
    clI M0 a0 fun x2 M3 =>
    cstA 100 M3 x2 <|
    some (va_rf x2, M3)) else (
    nA 100 M0 a1 fun x4 M5 =>
    aln M5 a0 fun x6 =>
    lt (if a1 < x6 then a1 else x6) fun x7 =>
    acI M5 a0 ((0 : Int32)) x4 ((0 : Int32)) x7 fun M8 =>
    some (va_rf x4, M8))
def b356 (rec : Nat → List Value → Mem → XA) (as : List Value) (M0 : Mem) : XA := aR as fun a0 as => aI as fun a1 as => aZ as (c356 rec a0 a1 M0)
set_option maxRecDepth 100000 in
set_option maxHeartbeats 4000000 in
theorem k356 {S : XS} {G : XG} {K : Nat × Nat} {l : Launch} {d : Nat} {rec : Nat → List Value → Mem → XA} (hs : XSnd l xmt rec d) (a0 : Option Nat) (a1 : Int32) (M0 : Mem) : Xe S G K l (yJ7_copyOf_59c91, cJ7_copyOf_59c91, 3, some (.array .int)) d 0 [some (va_rf a0), some (.int a1), none] [] M0 (c356 rec a0 a1 M0) := by
  unfold c356
  refine x_iload_n dJ7_copyOf_59c91_0 rfl ?_
  refine x_aload_n dJ7_copyOf_59c91_1 rfl ?_
  refine x_alen dJ7_copyOf_59c91_2 (fun x1 => ?_)
  refine x_icmp_ne (tgt := 14) dJ7_copyOf_59c91_3 (by decide) (fun _ => ?_) (fun _ => ?_)
  · refine x_aload_n dJ7_copyOf_59c91_6 rfl ?_
    refine x_clI lk_methodLink_J7_316 w_cl1 w_cl2 w_cl3 w_cl4 (Nat.le_of_ble_eq_true rfl) dJ7_copyOf_59c91_7 (fun x2 M3 => ?_)
    refine x_cstA (t := 100) (by decide) (by decide) nm_100 lk_classLink_J7_317 dJ7_copyOf_59c91_10 ?_
    exact x_aret rfl rfl dJ7_copyOf_59c91_13
  · refine x_iload_n dJ7_copyOf_59c91_14 rfl ?_
    refine x_newa100 dJ7_copyOf_59c91_15 (fun x4 M5 => ?_)
    refine x_astore_n (lo' := [some (va_rf a0), some (.int a1), some (va_rf x4)]) dJ7_copyOf_59c91_17 (by decide) rfl rfl ?_
    refine x_aload_n dJ7_copyOf_59c91_18 rfl ?_
    refine x_iconst (v := 0) dJ7_copyOf_59c91_19 (by decide) ?_
    refine x_aload_n dJ7_copyOf_59c91_20 rfl ?_
    refine x_iconst (v := 0) dJ7_copyOf_59c91_21 (by decide) ?_
    refine x_aload_n dJ7_copyOf_59c91_22 rfl ?_
    refine x_alen dJ7_copyOf_59c91_23 (fun x6 => ?_)
    refine x_iload_n dJ7_copyOf_59c91_24 rfl ?_
    refine x_mmin lk_methodLink_J7_304 w_mmin1 w_mi w_mmin2 (Nat.le_of_ble_eq_true rfl) dJ7_copyOf_59c91_25 (fun x7 => ?_)
    refine x_acI lk_methodLink_J7_150 w_acn w_acs w_aci (Nat.le_of_ble_eq_true rfl) dJ7_copyOf_59c91_28 (fun M8 => ?_)
    refine x_aload_n dJ7_copyOf_59c91_31 rfl ?_
    exact x_aret rfl rfl dJ7_copyOf_59c91_32
theorem s356 {l : Launch} {d : Nat} {rec : Nat → List Value → Mem → XA} (hS : Nonempty XS) (hs : XSnd l xmt rec d) : Snd1 l 356 (b356 rec) d := by
  intro as M r M' h0
  unfold b356 at h0
  obtain ⟨a0, l1, e1, h1⟩ := aR_inv h0
  obtain ⟨a1, l2, e2, h2⟩ := aI_inv h1
  obtain ⟨ez, h⟩ := aZ_inv h2
  subst ez
  subst e2
  subst e1
  exact xmet (M := M) (as := [va_rf a0, .int a1]) (lo := [some (va_rf a0), some (.int a1)]) 356 xq356 xm356 (by rw [xargs_rf, xargs_i, xargs_nil]; exact ⟨rfl, ⟨rfl, trivial⟩⟩) (by rw [xargs_rf, xargs_i, xargs_nil]; exact Nat.le_of_ble_eq_true rfl) (fun S G K => x_weak (by exact ⟨rfl, ⟨rfl, trivial⟩⟩) (k356 hs a0 a1 M)) h hS
set_option maxRecDepth 100000 in
def c357 (rec : Nat → List Value → Mem → XA) (a0 : Int32) (a1 : Int32) (M0 : Mem) : XA :=
  cI (rec 360 [.int a0, .int a1, va_rf none] M0) fun x2 M1 =>
  some (.int x2, M1)
def b357 (rec : Nat → List Value → Mem → XA) (as : List Value) (M0 : Mem) : XA := aI as fun a0 as => aI as fun a1 as => aZ as (c357 rec a0 a1 M0)
set_option maxRecDepth 100000 in
set_option maxHeartbeats 4000000 in
theorem k357 {S : XS} {G : XG} {K : Nat × Nat} {l : Launch} {d : Nat} {rec : Nat → List Value → Mem → XA} (hs : XSnd l xmt rec d) (a0 : Int32) (a1 : Int32) (M0 : Mem) : Xe S G K l (yJ15_checkIndex_7cf53, cJ15_checkIndex_7cf53, 2, some .int) d 0 [some (.int a0), some (.int a1)] [] M0 (c357 rec a0 a1 M0) := by
  unfold c357
  refine x_iload_n dJ15_checkIndex_7cf53_0 rfl ?_
  refine x_iload_n dJ15_checkIndex_7cf53_1 rfl ?_
  refine x_null dJ15_checkIndex_7cf53_2 ?_
  refine cmJ15_105 rfl hs (Nat.le_of_ble_eq_true rfl) dJ15_checkIndex_7cf53_3 (fun x2 M1 => ?_)
  exact x_iret rfl dJ15_checkIndex_7cf53_6
theorem s357 {l : Launch} {d : Nat} {rec : Nat → List Value → Mem → XA} (hS : Nonempty XS) (hs : XSnd l xmt rec d) : Snd1 l 357 (b357 rec) d := by
  intro as M r M' h0
  unfold b357 at h0
  obtain ⟨a0, l1, e1, h1⟩ := aI_inv h0
  obtain ⟨a1, l2, e2, h2⟩ := aI_inv h1
  obtain ⟨ez, h⟩ := aZ_inv h2
  subst ez
  subst e2
  subst e1
  exact xmet (M := M) (as := [.int a0, .int a1]) (lo := [some (.int a0), some (.int a1)]) 357 xq357 xm357 (by rw [xargs_i, xargs_i, xargs_nil]; exact ⟨rfl, ⟨rfl, trivial⟩⟩) (by rw [xargs_i, xargs_i, xargs_nil]; exact Nat.le_of_ble_eq_true rfl) (fun S G K => x_weak (by exact ⟨rfl, ⟨rfl, trivial⟩⟩) (k357 hs a0 a1 M)) h hS
set_option maxRecDepth 100000 in
def c358 (rec : Nat → List Value → Mem → XA) (a0 : Int32) (a1 : Int32) (a2 : Int32) (M0 : Mem) : XA :=
  lt (if a1 < a2 then a2 else a1) fun x1 =>
  lt (a0 + x1) fun (x2 : Int32) =>
  jn (fun (s3 : Unit) =>
    cI (rec 359 [.int a0, .int a1] M0) fun x5 M4 =>
    some (.int x5, M4)) fun j21 =>
  if x2 ≤ ((0 : Int32)) then (
    j21 ()) else (
    if ((2147483639 : Int32)) < x2 then (
      j21 ()) else (
      some (.int x2, M0)))
def b358 (rec : Nat → List Value → Mem → XA) (as : List Value) (M0 : Mem) : XA := aI as fun a0 as => aI as fun a1 as => aI as fun a2 as => aZ as (c358 rec a0 a1 a2 M0)
set_option maxRecDepth 100000 in
set_option maxHeartbeats 4000000 in
theorem k358 {S : XS} {G : XG} {K : Nat × Nat} {l : Launch} {d : Nat} {rec : Nat → List Value → Mem → XA} (hs : XSnd l xmt rec d) (a0 : Int32) (a1 : Int32) (a2 : Int32) (M0 : Mem) : Xe S G K l (yJ8_newLength_cabcc, cJ8_newLength_cabcc, 4, some .int) d 0 [some (.int a0), some (.int a1), some (.int a2), none] [] M0 (c358 rec a0 a1 a2 M0) := by
  unfold c358
  refine x_iload_n dJ8_newLength_cabcc_0 rfl ?_
  refine x_iload_n dJ8_newLength_cabcc_1 rfl ?_
  refine x_iload_n dJ8_newLength_cabcc_2 rfl ?_
  refine x_mmax lk_methodLink_J8_194 w_mmax1 w_mi w_mmax2 (Nat.le_of_ble_eq_true rfl) dJ8_newLength_cabcc_3 (fun x1 => ?_)
  refine x_iadd dJ8_newLength_cabcc_6 ?_
  refine x_ltI (fun x2 => ?_)
  refine x_istore_n (lo' := [some (.int a0), some (.int a1), some (.int a2), some (.int x2)]) dJ8_newLength_cabcc_7 (by decide) rfl rfl ?_
  refine x_iconst (v := 0) dJ8_newLength_cabcc_8 (by decide) ?_
  refine x_iload_n dJ8_newLength_cabcc_9 rfl ?_
  refine x_jn (σ := Unit) 21 (fun s3 => [some (.int a0), some (.int a1), none, none]) (fun s3 => []) (fun s3 => M0) (fun s3 => ?_) (fun j21 hj21 => ?_)
  · refine x_iload_n dJ8_newLength_cabcc_21 rfl ?_
    refine x_iload_n dJ8_newLength_cabcc_22 rfl ?_
    refine cmJ8_201 rfl hs (Nat.le_of_ble_eq_true rfl) dJ8_newLength_cabcc_23 (fun x5 M4 => ?_)
    exact x_iret rfl dJ8_newLength_cabcc_26
  refine x_icmp_ge (tgt := 21) dJ8_newLength_cabcc_10 (by decide) (fun _ => ?_) (fun _ => ?_)
  · exact x_weak (by exact ⟨rfl, ⟨rfl, trivial⟩⟩) (hj21 ())
  · refine x_iload_n dJ8_newLength_cabcc_13 rfl ?_
    refine x_ldc (v := 2147483639) dJ8_newLength_cabcc_14 lk_constant_J8_200 ?_
    refine x_icmp_gt (tgt := 21) dJ8_newLength_cabcc_16 (by decide) (fun _ => ?_) (fun _ => ?_)
    · exact x_weak (by exact ⟨rfl, ⟨rfl, trivial⟩⟩) (hj21 ())
    · refine x_iload_n dJ8_newLength_cabcc_19 rfl ?_
      exact x_iret rfl dJ8_newLength_cabcc_20
theorem s358 {l : Launch} {d : Nat} {rec : Nat → List Value → Mem → XA} (hS : Nonempty XS) (hs : XSnd l xmt rec d) : Snd1 l 358 (b358 rec) d := by
  intro as M r M' h0
  unfold b358 at h0
  obtain ⟨a0, l1, e1, h1⟩ := aI_inv h0
  obtain ⟨a1, l2, e2, h2⟩ := aI_inv h1
  obtain ⟨a2, l3, e3, h3⟩ := aI_inv h2
  obtain ⟨ez, h⟩ := aZ_inv h3
  subst ez
  subst e3
  subst e2
  subst e1
  exact xmet (M := M) (as := [.int a0, .int a1, .int a2]) (lo := [some (.int a0), some (.int a1), some (.int a2)]) 358 xq358 xm358 (by rw [xargs_i, xargs_i, xargs_i, xargs_nil]; exact ⟨rfl, ⟨rfl, ⟨rfl, trivial⟩⟩⟩) (by rw [xargs_i, xargs_i, xargs_i, xargs_nil]; exact Nat.le_of_ble_eq_true rfl) (fun S G K => x_weak (by exact ⟨rfl, ⟨rfl, ⟨rfl, trivial⟩⟩⟩) (k358 hs a0 a1 a2 M)) h hS
set_option maxRecDepth 100000 in
def c359 (rec : Nat → List Value → Mem → XA) (a0 : Int32) (a1 : Int32) (M0 : Mem) : XA :=
  lt (a0 + a1) fun (x1 : Int32) =>
  if 0 ≤ x1 then (
    if ((2147483639 : Int32)) < x1 then (
      some (.int x1, M0)) else (
      some (.int ((2147483639 : Int32)), M0))) else (
    none)
def b359 (rec : Nat → List Value → Mem → XA) (as : List Value) (M0 : Mem) : XA := aI as fun a0 as => aI as fun a1 as => aZ as (c359 rec a0 a1 M0)
set_option maxRecDepth 100000 in
set_option maxHeartbeats 4000000 in
theorem k359 {S : XS} {G : XG} {K : Nat × Nat} {l : Launch} {d : Nat} {rec : Nat → List Value → Mem → XA} (hs : XSnd l xmt rec d) (a0 : Int32) (a1 : Int32) (M0 : Mem) : Xe S G K l (yJ8_hugeLength_7cf53, cJ8_hugeLength_7cf53, 3, some .int) d 0 [some (.int a0), some (.int a1), none] [] M0 (c359 rec a0 a1 M0) := by
  unfold c359
  refine x_iload_n dJ8_hugeLength_7cf53_0 rfl ?_
  refine x_iload_n dJ8_hugeLength_7cf53_1 rfl ?_
  refine x_iadd dJ8_hugeLength_7cf53_2 ?_
  refine x_ltI (fun x1 => ?_)
  refine x_istore_n (lo' := [some (.int a0), some (.int a1), some (.int x1)]) dJ8_hugeLength_7cf53_3 (by decide) rfl rfl ?_
  refine x_iload_n dJ8_hugeLength_7cf53_4 rfl ?_
  refine x_if_ge (tgt := 49) dJ8_hugeLength_7cf53_5 (by decide) (fun _ => ?_) (fun _ => ?_)
  · refine x_iload_n dJ8_hugeLength_7cf53_49 rfl ?_
    refine x_ldc (v := 2147483639) dJ8_hugeLength_7cf53_50 lk_constant_J8_200 ?_
    refine x_icmp_gt (tgt := 58) dJ8_hugeLength_7cf53_52 (by decide) (fun _ => ?_) (fun _ => ?_)
    · refine x_iload_n dJ8_hugeLength_7cf53_58 rfl ?_
      exact x_iret rfl dJ8_hugeLength_7cf53_59
    · refine x_ldc (v := 2147483639) dJ8_hugeLength_7cf53_55 lk_constant_J8_200 ?_
      exact x_iret rfl dJ8_hugeLength_7cf53_57
  · exact x_none
theorem s359 {l : Launch} {d : Nat} {rec : Nat → List Value → Mem → XA} (hS : Nonempty XS) (hs : XSnd l xmt rec d) : Snd1 l 359 (b359 rec) d := by
  intro as M r M' h0
  unfold b359 at h0
  obtain ⟨a0, l1, e1, h1⟩ := aI_inv h0
  obtain ⟨a1, l2, e2, h2⟩ := aI_inv h1
  obtain ⟨ez, h⟩ := aZ_inv h2
  subst ez
  subst e2
  subst e1
  exact xmet (M := M) (as := [.int a0, .int a1]) (lo := [some (.int a0), some (.int a1)]) 359 xq359 xm359 (by rw [xargs_i, xargs_i, xargs_nil]; exact ⟨rfl, ⟨rfl, trivial⟩⟩) (by rw [xargs_i, xargs_i, xargs_nil]; exact Nat.le_of_ble_eq_true rfl) (fun S G K => x_weak (by exact ⟨rfl, ⟨rfl, trivial⟩⟩) (k359 hs a0 a1 M)) h hS
set_option maxRecDepth 100000 in
def c360 (rec : Nat → List Value → Mem → XA) (a0 : Int32) (a1 : Int32) (a2 : Option Nat) (M0 : Mem) : XA :=
  jn (fun (s1 : Unit) =>
    none) fun j9 =>
  if a0 < 0 then (
    j9 ()) else (
    if a0 < a1 then (
      some (.int a0, M0)) else (
      j9 ()))
def b360 (rec : Nat → List Value → Mem → XA) (as : List Value) (M0 : Mem) : XA := aI as fun a0 as => aI as fun a1 as => aR as fun a2 as => aZ as (c360 rec a0 a1 a2 M0)
set_option maxRecDepth 100000 in
set_option maxHeartbeats 4000000 in
theorem k360 {S : XS} {G : XG} {K : Nat × Nat} {l : Launch} {d : Nat} {rec : Nat → List Value → Mem → XA} (hs : XSnd l xmt rec d) (a0 : Int32) (a1 : Int32) (a2 : Option Nat) (M0 : Mem) : Xe S G K l (yJ3_checkIndex_8e157, cJ3_checkIndex_8e157, 3, some .int) d 0 [some (.int a0), some (.int a1), some (va_rf a2)] [] M0 (c360 rec a0 a1 a2 M0) := by
  unfold c360
  refine x_iload_n dJ3_checkIndex_8e157_0 rfl ?_
  refine x_jn (σ := Unit) 9 (fun s1 => [some (.int a0), some (.int a1), some (va_rf a2)]) (fun s1 => []) (fun s1 => M0) (fun s1 => ?_) (fun j9 hj9 => ?_)
  · refine x_aload_n dJ3_checkIndex_8e157_9 rfl ?_
    refine x_iload_n dJ3_checkIndex_8e157_10 rfl ?_
    refine x_iload_n dJ3_checkIndex_8e157_11 rfl ?_
    exact x_none
  refine x_if_lt (tgt := 9) dJ3_checkIndex_8e157_1 (by decide) (fun _ => ?_) (fun _ => ?_)
  · exact x_weak (by exact ⟨rfl, ⟨rfl, ⟨rfl, trivial⟩⟩⟩) (hj9 ())
  · refine x_iload_n dJ3_checkIndex_8e157_4 rfl ?_
    refine x_iload_n dJ3_checkIndex_8e157_5 rfl ?_
    refine x_icmp_lt (tgt := 16) dJ3_checkIndex_8e157_6 (by decide) (fun _ => ?_) (fun _ => ?_)
    · refine x_iload_n dJ3_checkIndex_8e157_16 rfl ?_
      exact x_iret rfl dJ3_checkIndex_8e157_17
    · exact x_weak (by exact ⟨rfl, ⟨rfl, ⟨rfl, trivial⟩⟩⟩) (hj9 ())
theorem s360 {l : Launch} {d : Nat} {rec : Nat → List Value → Mem → XA} (hS : Nonempty XS) (hs : XSnd l xmt rec d) : Snd1 l 360 (b360 rec) d := by
  intro as M r M' h0
  unfold b360 at h0
  obtain ⟨a0, l1, e1, h1⟩ := aI_inv h0
  obtain ⟨a1, l2, e2, h2⟩ := aI_inv h1
  obtain ⟨a2, l3, e3, h3⟩ := aR_inv h2
  obtain ⟨ez, h⟩ := aZ_inv h3
  subst ez
  subst e3
  subst e2
  subst e1
  exact xmet (M := M) (as := [.int a0, .int a1, va_rf a2]) (lo := [some (.int a0), some (.int a1), some (va_rf a2)]) 360 xq360 xm360 (by rw [xargs_i, xargs_i, xargs_rf, xargs_nil]; exact ⟨rfl, ⟨rfl, ⟨rfl, trivial⟩⟩⟩) (by rw [xargs_i, xargs_i, xargs_rf, xargs_nil]; exact Nat.le_of_ble_eq_true rfl) (fun S G K => x_weak (by exact ⟨rfl, ⟨rfl, ⟨rfl, trivial⟩⟩⟩) (k360 hs a0 a1 a2 M)) h hS
def b361 (rec : Nat → List Value → Mem → XA) (as : List Value) (M0 : Mem) : XA := none
theorem s361 {l : Launch} {d : Nat} {rec : Nat → List Value → Mem → XA} (hS : Nonempty XS) (hs : XSnd l xmt rec d) : Snd1 l 361 (b361 rec) d := fun as M r M' h => nomatch h
set_option maxRecDepth 100000 in
def c362 (rec : Nat → List Value → Mem → XA) (a0 : Option Nat) (M0 : Mem) : XA :=
  nO (12, 19) M0 fun x1 M2 =>
  vC (12, 19) M2 x1 <|
  cV (rec 127 [va_rf x1] M2) fun M3 =>
  nO (13, 157) M3 fun x4 M5 =>
  vC (13, 157) M5 x4 <|
  cV (rec 183 [va_rf x4] M5) fun M6 =>
  lp (fun (s7 : Int32 × Mem) j18 =>
    aln s7.2 a0 fun x8 =>
    if (x8 - ((7 : Int32))) < s7.1 then (
      rtZ ((1 : Int32)) s7.2) else (
      alI 100 s7.2 a0 s7.1 fun x9 =>
      jn (fun (s10 : Mem) =>
        lt (s7.1 + (7 : Int32)) fun (x11 : Int32) =>
        j18 (x11, s10)) fun j1569 =>
      swI (x9 &&& ((63 : Int32))) [
       ((0 : Int32), (
          alI 100 s7.2 a0 (s7.1 + ((1 : Int32))) fun x12 =>
          alI 100 s7.2 a0 (s7.1 + ((2 : Int32))) fun x13 =>
          alI 100 s7.2 a0 (s7.1 + ((3 : Int32))) fun x14 =>
          alI 100 s7.2 a0 (s7.1 + ((4 : Int32))) fun x15 =>
          alI 100 s7.2 a0 (s7.1 + ((5 : Int32))) fun x16 =>
          vC (12, 19) s7.2 x1 <|
          cI (rec 128 [va_rf x1, .int x12, .int x13, .int x14, .int x15, .int x16] s7.2) fun x18 M17 =>
          alI 100 M17 a0 (s7.1 + ((1 : Int32))) fun x19 =>
          alI 100 M17 a0 (s7.1 + ((2 : Int32))) fun x20 =>
          alI 100 M17 a0 (s7.1 + ((3 : Int32))) fun x21 =>
          alI 100 M17 a0 (s7.1 + ((4 : Int32))) fun x22 =>
          alI 100 M17 a0 (s7.1 + ((5 : Int32))) fun x23 =>
          vC (13, 157) M17 x4 <|
          cI (rec 185 [va_rf x4, .int x19, .int x20, .int x21, .int x22, .int x23] M17) fun x25 M24 =>
          if x18 = x25 then (
            j1569 M24) else (
            rtZ ((0 : Int32)) M24))),
       ((1 : Int32), (
          alI 100 s7.2 a0 (s7.1 + ((1 : Int32))) fun x26 =>
          vC (12, 19) s7.2 x1 <|
          cI (rec 129 [va_rf x1, .int x26] s7.2) fun x28 M27 =>
          alI 100 M27 a0 (s7.1 + ((1 : Int32))) fun x29 =>
          vC (13, 157) M27 x4 <|
          cI (rec 186 [va_rf x4, .int x29] M27) fun x31 M30 =>
          if x28 = x31 then (
            j1569 M30) else (
            rtZ ((0 : Int32)) M30))),
       ((2 : Int32), (
          vC (12, 19) s7.2 x1 <|
          cI (rec 130 [va_rf x1] s7.2) fun x33 M32 =>
          vC (13, 157) M32 x4 <|
          cI (rec 231 [va_rf x4] M32) fun x35 M34 =>
          if x33 = x35 then (
            j1569 M34) else (
            rtZ ((0 : Int32)) M34))),
       ((3 : Int32), (
          vC (12, 19) s7.2 x1 <|
          cI (rec 131 [va_rf x1] s7.2) fun x37 M36 =>
          vC (13, 157) M36 x4 <|
          cI (rec 234 [va_rf x4] M36) fun x39 M38 =>
          if x37 = x39 then (
            j1569 M38) else (
            rtZ ((0 : Int32)) M38))),
       ((4 : Int32), (
          alI 100 s7.2 a0 (s7.1 + ((1 : Int32))) fun x40 =>
          alI 100 s7.2 a0 (s7.1 + ((2 : Int32))) fun x41 =>
          vC (12, 19) s7.2 x1 <|
          cI (rec 132 [va_rf x1, .int x40, .int x41] s7.2) fun x43 M42 =>
          alI 100 M42 a0 (s7.1 + ((1 : Int32))) fun x44 =>
          alI 100 M42 a0 (s7.1 + ((2 : Int32))) fun x45 =>
          vC (13, 157) M42 x4 <|
          cI (rec 263 [va_rf x4, .int x44, .int x45] M42) fun x47 M46 =>
          if x43 = x47 then (
            j1569 M46) else (
            rtZ ((0 : Int32)) M46))),
       ((5 : Int32), (
          alI 100 s7.2 a0 (s7.1 + ((1 : Int32))) fun x48 =>
          alI 100 s7.2 a0 (s7.1 + ((2 : Int32))) fun x49 =>
          alI 100 s7.2 a0 (s7.1 + ((3 : Int32))) fun x50 =>
          vC (12, 19) s7.2 x1 <|
          cI (rec 133 [va_rf x1, .int x48, .int x49, .int x50] s7.2) fun x52 M51 =>
          alI 100 M51 a0 (s7.1 + ((1 : Int32))) fun x53 =>
          alI 100 M51 a0 (s7.1 + ((2 : Int32))) fun x54 =>
          alI 100 M51 a0 (s7.1 + ((3 : Int32))) fun x55 =>
          vC (13, 157) M51 x4 <|
          cI (rec 264 [va_rf x4, .int x53, .int x54, .int x55] M51) fun x57 M56 =>
          if x52 = x57 then (
            j1569 M56) else (
            rtZ ((0 : Int32)) M56))),
       ((6 : Int32), (
          alI 100 s7.2 a0 (s7.1 + ((1 : Int32))) fun x58 =>
          alI 100 s7.2 a0 (s7.1 + ((2 : Int32))) fun x59 =>
          alI 100 s7.2 a0 (s7.1 + ((3 : Int32))) fun x60 =>
          vC (12, 19) s7.2 x1 <|
          cI (rec 134 [va_rf x1, .int x58, .int x59, .int x60] s7.2) fun x62 M61 =>
          alI 100 M61 a0 (s7.1 + ((1 : Int32))) fun x63 =>
          alI 100 M61 a0 (s7.1 + ((2 : Int32))) fun x64 =>
          alI 100 M61 a0 (s7.1 + ((3 : Int32))) fun x65 =>
          vC (13, 157) M61 x4 <|
          cI (rec 265 [va_rf x4, .int x63, .int x64, .int x65] M61) fun x67 M66 =>
          if x62 = x67 then (
            j1569 M66) else (
            rtZ ((0 : Int32)) M66))),
       ((7 : Int32), (
          alI 100 s7.2 a0 (s7.1 + ((1 : Int32))) fun x68 =>
          alI 100 s7.2 a0 (s7.1 + ((2 : Int32))) fun x69 =>
          alI 100 s7.2 a0 (s7.1 + ((3 : Int32))) fun x70 =>
          alI 100 s7.2 a0 (s7.1 + ((4 : Int32))) fun x71 =>
          vC (12, 19) s7.2 x1 <|
          cI (rec 135 [va_rf x1, .int x68, .int x69, .int x70, .int x71] s7.2) fun x73 M72 =>
          alI 100 M72 a0 (s7.1 + ((1 : Int32))) fun x74 =>
          alI 100 M72 a0 (s7.1 + ((2 : Int32))) fun x75 =>
          alI 100 M72 a0 (s7.1 + ((3 : Int32))) fun x76 =>
          alI 100 M72 a0 (s7.1 + ((4 : Int32))) fun x77 =>
          vC (13, 157) M72 x4 <|
          cI (rec 266 [va_rf x4, .int x74, .int x75, .int x76, .int x77] M72) fun x79 M78 =>
          if x73 = x79 then (
            j1569 M78) else (
            rtZ ((0 : Int32)) M78))),
       ((8 : Int32), (
          alI 100 s7.2 a0 (s7.1 + ((1 : Int32))) fun x80 =>
          alI 100 s7.2 a0 (s7.1 + ((2 : Int32))) fun x81 =>
          alI 100 s7.2 a0 (s7.1 + ((3 : Int32))) fun x82 =>
          vC (12, 19) s7.2 x1 <|
          cI (rec 136 [va_rf x1, .int x80, .int x81, .int x82] s7.2) fun x84 M83 =>
          alI 100 M83 a0 (s7.1 + ((1 : Int32))) fun x85 =>
          alI 100 M83 a0 (s7.1 + ((2 : Int32))) fun x86 =>
          alI 100 M83 a0 (s7.1 + ((3 : Int32))) fun x87 =>
          vC (13, 157) M83 x4 <|
          cI (rec 267 [va_rf x4, .int x85, .int x86, .int x87] M83) fun x89 M88 =>
          if x84 = x89 then (
            j1569 M88) else (
            rtZ ((0 : Int32)) M88))),
       ((9 : Int32), (
          alI 100 s7.2 a0 (s7.1 + ((1 : Int32))) fun x90 =>
          vC (12, 19) s7.2 x1 <|
          cI (rec 137 [va_rf x1, .int x90] s7.2) fun x92 M91 =>
          alI 100 M91 a0 (s7.1 + ((1 : Int32))) fun x93 =>
          vC (13, 157) M91 x4 <|
          cI (rec 268 [va_rf x4, .int x93] M91) fun x95 M94 =>
          if x92 = x95 then (
            j1569 M94) else (
            rtZ ((0 : Int32)) M94))),
       ((10 : Int32), (
          alI 100 s7.2 a0 (s7.1 + ((1 : Int32))) fun x96 =>
          vC (12, 19) s7.2 x1 <|
          cI (rec 138 [va_rf x1, .int x96] s7.2) fun x98 M97 =>
          alI 100 M97 a0 (s7.1 + ((1 : Int32))) fun x99 =>
          vC (13, 157) M97 x4 <|
          cI (rec 269 [va_rf x4, .int x99] M97) fun x101 M100 =>
          if x98 = x101 then (
            j1569 M100) else (
            rtZ ((0 : Int32)) M100))),
       ((11 : Int32), (
          alI 100 s7.2 a0 (s7.1 + ((1 : Int32))) fun x102 =>
          alI 100 s7.2 a0 (s7.1 + ((2 : Int32))) fun x103 =>
          alI 100 s7.2 a0 (s7.1 + ((3 : Int32))) fun x104 =>
          vC (12, 19) s7.2 x1 <|
          cI (rec 139 [va_rf x1, .int x102, .int x103, .int x104] s7.2) fun x106 M105 =>
          alI 100 M105 a0 (s7.1 + ((1 : Int32))) fun x107 =>
          alI 100 M105 a0 (s7.1 + ((2 : Int32))) fun x108 =>
          alI 100 M105 a0 (s7.1 + ((3 : Int32))) fun x109 =>
          vC (13, 157) M105 x4 <|
          cI (rec 270 [va_rf x4, .int x107, .int x108, .int x109] M105) fun x111 M110 =>
          if x106 = x111 then (
            j1569 M110) else (
            rtZ ((0 : Int32)) M110))),
       ((12 : Int32), (
          alI 100 s7.2 a0 (s7.1 + ((1 : Int32))) fun x112 =>
          vC (12, 19) s7.2 x1 <|
          cI (rec 140 [va_rf x1, .int x112] s7.2) fun x114 M113 =>
          alI 100 M113 a0 (s7.1 + ((1 : Int32))) fun x115 =>
          vC (13, 157) M113 x4 <|
          cI (rec 257 [va_rf x4, .int x115] M113) fun x117 M116 =>
          if x114 = x117 then (
            j1569 M116) else (
            rtZ ((0 : Int32)) M116))),
       ((13 : Int32), (
          alI 100 s7.2 a0 (s7.1 + ((1 : Int32))) fun x118 =>
          alI 100 s7.2 a0 (s7.1 + ((2 : Int32))) fun x119 =>
          alI 100 s7.2 a0 (s7.1 + ((3 : Int32))) fun x120 =>
          vC (12, 19) s7.2 x1 <|
          cI (rec 141 [va_rf x1, .int x118, .int x119, .int x120] s7.2) fun x122 M121 =>
          alI 100 M121 a0 (s7.1 + ((1 : Int32))) fun x123 =>
          alI 100 M121 a0 (s7.1 + ((2 : Int32))) fun x124 =>
          alI 100 M121 a0 (s7.1 + ((3 : Int32))) fun x125 =>
          vC (13, 157) M121 x4 <|
          cI (rec 258 [va_rf x4, .int x123, .int x124, .int x125] M121) fun x127 M126 =>
          if x122 = x127 then (
            j1569 M126) else (
            rtZ ((0 : Int32)) M126))),
       ((14 : Int32), (
          alI 100 s7.2 a0 (s7.1 + ((1 : Int32))) fun x128 =>
          alI 100 s7.2 a0 (s7.1 + ((2 : Int32))) fun x129 =>
          alI 100 s7.2 a0 (s7.1 + ((3 : Int32))) fun x130 =>
          vC (12, 19) s7.2 x1 <|
          cI (rec 142 [va_rf x1, .int x128, .int x129, .int x130] s7.2) fun x132 M131 =>
          alI 100 M131 a0 (s7.1 + ((1 : Int32))) fun x133 =>
          alI 100 M131 a0 (s7.1 + ((2 : Int32))) fun x134 =>
          alI 100 M131 a0 (s7.1 + ((3 : Int32))) fun x135 =>
          vC (13, 157) M131 x4 <|
          cI (rec 259 [va_rf x4, .int x133, .int x134, .int x135] M131) fun x137 M136 =>
          if x132 = x137 then (
            j1569 M136) else (
            rtZ ((0 : Int32)) M136))),
       ((15 : Int32), (
          alI 100 s7.2 a0 (s7.1 + ((1 : Int32))) fun x138 =>
          alI 100 s7.2 a0 (s7.1 + ((2 : Int32))) fun x139 =>
          vC (12, 19) s7.2 x1 <|
          cI (rec 143 [va_rf x1, .int x138, .int x139] s7.2) fun x141 M140 =>
          alI 100 M140 a0 (s7.1 + ((1 : Int32))) fun x142 =>
          alI 100 M140 a0 (s7.1 + ((2 : Int32))) fun x143 =>
          vC (13, 157) M140 x4 <|
          cI (rec 261 [va_rf x4, .int x142, .int x143] M140) fun x145 M144 =>
          if x141 = x145 then (
            j1569 M144) else (
            rtZ ((0 : Int32)) M144))),
       ((16 : Int32), (
          alI 100 s7.2 a0 (s7.1 + ((1 : Int32))) fun x146 =>
          vC (12, 19) s7.2 x1 <|
          cI (rec 144 [va_rf x1, .int x146] s7.2) fun x148 M147 =>
          alI 100 M147 a0 (s7.1 + ((1 : Int32))) fun x149 =>
          vC (13, 157) M147 x4 <|
          cI (rec 262 [va_rf x4, .int x149] M147) fun x151 M150 =>
          if x148 = x151 then (
            j1569 M150) else (
            rtZ ((0 : Int32)) M150))),
       ((17 : Int32), (
          alI 100 s7.2 a0 (s7.1 + ((1 : Int32))) fun x152 =>
          alI 100 s7.2 a0 (s7.1 + ((2 : Int32))) fun x153 =>
          vC (12, 19) s7.2 x1 <|
          cI (rec 145 [va_rf x1, .int x152, .int x153] s7.2) fun x155 M154 =>
          alI 100 M154 a0 (s7.1 + ((1 : Int32))) fun x156 =>
          alI 100 M154 a0 (s7.1 + ((2 : Int32))) fun x157 =>
          vC (13, 157) M154 x4 <|
          cI (rec 273 [va_rf x4, .int x156, .int x157] M154) fun x159 M158 =>
          if x155 = x159 then (
            j1569 M158) else (
            rtZ ((0 : Int32)) M158))),
       ((18 : Int32), (
          alI 100 s7.2 a0 (s7.1 + ((1 : Int32))) fun x160 =>
          alI 100 s7.2 a0 (s7.1 + ((2 : Int32))) fun x161 =>
          alI 100 s7.2 a0 (s7.1 + ((3 : Int32))) fun x162 =>
          alI 100 s7.2 a0 (s7.1 + ((4 : Int32))) fun x163 =>
          jn (fun (s164 : Int32) =>
            alI 100 s7.2 a0 (s7.1 + ((5 : Int32))) fun x165 =>
            vC (12, 19) s7.2 x1 <|
            cI (rec 146 [va_rf x1, .int x160, .int x161, .int x162, .int s164, .int x165] s7.2) fun x167 M166 =>
            alI 100 M166 a0 (s7.1 + ((1 : Int32))) fun x168 =>
            alI 100 M166 a0 (s7.1 + ((2 : Int32))) fun x169 =>
            alI 100 M166 a0 (s7.1 + ((3 : Int32))) fun x170 =>
            alI 100 M166 a0 (s7.1 + ((4 : Int32))) fun x171 =>
            jn (fun (s172 : Int32) =>
              alI 100 M166 a0 (s7.1 + ((5 : Int32))) fun x173 =>
              vC (13, 157) M166 x4 <|
              cI (rec 275 [va_rf x4, .int x168, .int x169, .int x170, .int s172, .int x173] M166) fun x175 M174 =>
              if x167 = x175 then (
                j1569 M174) else (
                rtZ ((0 : Int32)) M174)) fun j884 =>
            if x171 = 0 then (
              j884 ((0 : Int32))) else (
              j884 ((1 : Int32)))) fun j847 =>
          if x163 = 0 then (
            j847 ((0 : Int32))) else (
            j847 ((1 : Int32))))),
       ((19 : Int32), (
          alI 100 s7.2 a0 (s7.1 + ((1 : Int32))) fun x176 =>
          vC (12, 19) s7.2 x1 <|
          cI (rec 147 [va_rf x1, .int x176] s7.2) fun x178 M177 =>
          alI 100 M177 a0 (s7.1 + ((1 : Int32))) fun x179 =>
          vC (13, 157) M177 x4 <|
          cI (rec 276 [va_rf x4, .int x179] M177) fun x181 M180 =>
          if x178 = x181 then (
            j1569 M180) else (
            rtZ ((0 : Int32)) M180))),
       ((20 : Int32), (
          alI 100 s7.2 a0 (s7.1 + ((1 : Int32))) fun x182 =>
          alI 100 s7.2 a0 (s7.1 + ((2 : Int32))) fun x183 =>
          alI 100 s7.2 a0 (s7.1 + ((3 : Int32))) fun x184 =>
          vC (12, 19) s7.2 x1 <|
          cI (rec 148 [va_rf x1, .int x182, .int x183, .int x184] s7.2) fun x186 M185 =>
          alI 100 M185 a0 (s7.1 + ((1 : Int32))) fun x187 =>
          alI 100 M185 a0 (s7.1 + ((2 : Int32))) fun x188 =>
          alI 100 M185 a0 (s7.1 + ((3 : Int32))) fun x189 =>
          vC (13, 157) M185 x4 <|
          cI (rec 280 [va_rf x4, .int x187, .int x188, .int x189] M185) fun x191 M190 =>
          if x186 = x191 then (
            j1569 M190) else (
            rtZ ((0 : Int32)) M190))),
       ((21 : Int32), (
          alI 100 s7.2 a0 (s7.1 + ((1 : Int32))) fun x192 =>
          alI 100 s7.2 a0 (s7.1 + ((2 : Int32))) fun x193 =>
          alI 100 s7.2 a0 (s7.1 + ((3 : Int32))) fun x194 =>
          vC (12, 19) s7.2 x1 <|
          cI (rec 149 [va_rf x1, .int x192, .int x193, .int x194] s7.2) fun x196 M195 =>
          alI 100 M195 a0 (s7.1 + ((1 : Int32))) fun x197 =>
          alI 100 M195 a0 (s7.1 + ((2 : Int32))) fun x198 =>
          alI 100 M195 a0 (s7.1 + ((3 : Int32))) fun x199 =>
          vC (13, 157) M195 x4 <|
          cI (rec 281 [va_rf x4, .int x197, .int x198, .int x199] M195) fun x201 M200 =>
          if x196 = x201 then (
            j1569 M200) else (
            rtZ ((0 : Int32)) M200))),
       ((22 : Int32), (
          alI 100 s7.2 a0 (s7.1 + ((1 : Int32))) fun x202 =>
          vC (12, 19) s7.2 x1 <|
          cI (rec 150 [va_rf x1, .int x202] s7.2) fun x204 M203 =>
          alI 100 M203 a0 (s7.1 + ((1 : Int32))) fun x205 =>
          vC (13, 157) M203 x4 <|
          cI (rec 283 [va_rf x4, .int x205] M203) fun x207 M206 =>
          if x204 = x207 then (
            j1569 M206) else (
            rtZ ((0 : Int32)) M206))),
       ((23 : Int32), (
          alI 100 s7.2 a0 (s7.1 + ((1 : Int32))) fun x208 =>
          alI 100 s7.2 a0 (s7.1 + ((2 : Int32))) fun x209 =>
          alI 100 s7.2 a0 (s7.1 + ((3 : Int32))) fun x210 =>
          vC (12, 19) s7.2 x1 <|
          cI (rec 151 [va_rf x1, .int x208, .int x209, .int x210] s7.2) fun x212 M211 =>
          alI 100 M211 a0 (s7.1 + ((1 : Int32))) fun x213 =>
          alI 100 M211 a0 (s7.1 + ((2 : Int32))) fun x214 =>
          alI 100 M211 a0 (s7.1 + ((3 : Int32))) fun x215 =>
          vC (13, 157) M211 x4 <|
          cI (rec 286 [va_rf x4, .int x213, .int x214, .int x215] M211) fun x217 M216 =>
          if x212 = x217 then (
            j1569 M216) else (
            rtZ ((0 : Int32)) M216))),
       ((24 : Int32), (
          alI 100 s7.2 a0 (s7.1 + ((1 : Int32))) fun x218 =>
          alI 100 s7.2 a0 (s7.1 + ((2 : Int32))) fun x219 =>
          vC (12, 19) s7.2 x1 <|
          cI (rec 152 [va_rf x1, .int x218, .int x219] s7.2) fun x221 M220 =>
          alI 100 M220 a0 (s7.1 + ((1 : Int32))) fun x222 =>
          alI 100 M220 a0 (s7.1 + ((2 : Int32))) fun x223 =>
          vC (13, 157) M220 x4 <|
          cI (rec 287 [va_rf x4, .int x222, .int x223] M220) fun x225 M224 =>
          if x221 = x225 then (
            j1569 M224) else (
            rtZ ((0 : Int32)) M224))),
       ((25 : Int32), (
          alI 100 s7.2 a0 (s7.1 + ((1 : Int32))) fun x226 =>
          alI 100 s7.2 a0 (s7.1 + ((2 : Int32))) fun x227 =>
          alI 100 s7.2 a0 (s7.1 + ((3 : Int32))) fun x228 =>
          vC (12, 19) s7.2 x1 <|
          cI (rec 153 [va_rf x1, .int x226, .int x227, .int x228] s7.2) fun x230 M229 =>
          alI 100 M229 a0 (s7.1 + ((1 : Int32))) fun x231 =>
          alI 100 M229 a0 (s7.1 + ((2 : Int32))) fun x232 =>
          alI 100 M229 a0 (s7.1 + ((3 : Int32))) fun x233 =>
          vC (13, 157) M229 x4 <|
          cI (rec 289 [va_rf x4, .int x231, .int x232, .int x233] M229) fun x235 M234 =>
          if x230 = x235 then (
            j1569 M234) else (
            rtZ ((0 : Int32)) M234))),
       ((26 : Int32), (
          alI 100 s7.2 a0 (s7.1 + ((1 : Int32))) fun x236 =>
          vC (12, 19) s7.2 x1 <|
          cI (rec 154 [va_rf x1, .int x236] s7.2) fun x238 M237 =>
          alI 100 M237 a0 (s7.1 + ((1 : Int32))) fun x239 =>
          vC (13, 157) M237 x4 <|
          cI (rec 290 [va_rf x4, .int x239] M237) fun x241 M240 =>
          if x238 = x241 then (
            j1569 M240) else (
            rtZ ((0 : Int32)) M240))),
       ((27 : Int32), (
          alI 100 s7.2 a0 (s7.1 + ((1 : Int32))) fun x242 =>
          alI 100 s7.2 a0 (s7.1 + ((2 : Int32))) fun x243 =>
          vC (12, 19) s7.2 x1 <|
          cI (rec 155 [va_rf x1, .int x242, .int x243] s7.2) fun x245 M244 =>
          alI 100 M244 a0 (s7.1 + ((1 : Int32))) fun x246 =>
          alI 100 M244 a0 (s7.1 + ((2 : Int32))) fun x247 =>
          vC (13, 157) M244 x4 <|
          cI (rec 292 [va_rf x4, .int x246, .int x247] M244) fun x249 M248 =>
          if x245 = x249 then (
            j1569 M248) else (
            rtZ ((0 : Int32)) M248))),
       ((28 : Int32), (
          alI 100 s7.2 a0 (s7.1 + ((1 : Int32))) fun x250 =>
          vC (12, 19) s7.2 x1 <|
          cI (rec 156 [va_rf x1, .int x250] s7.2) fun x252 M251 =>
          alI 100 M251 a0 (s7.1 + ((1 : Int32))) fun x253 =>
          vC (13, 157) M251 x4 <|
          cI (rec 293 [va_rf x4, .int x253] M251) fun x255 M254 =>
          if x252 = x255 then (
            j1569 M254) else (
            rtZ ((0 : Int32)) M254))),
       ((29 : Int32), (
          alI 100 s7.2 a0 (s7.1 + ((1 : Int32))) fun x256 =>
          alI 100 s7.2 a0 (s7.1 + ((2 : Int32))) fun x257 =>
          alI 100 s7.2 a0 (s7.1 + ((3 : Int32))) fun x258 =>
          alI 100 s7.2 a0 (s7.1 + ((4 : Int32))) fun x259 =>
          alI 100 s7.2 a0 (s7.1 + ((5 : Int32))) fun x260 =>
          alI 100 s7.2 a0 (s7.1 + ((6 : Int32))) fun x261 =>
          vC (12, 19) s7.2 x1 <|
          cI (rec 157 [va_rf x1, .int x256, .int x257, .int x258, .int x259, .int x260, .int x261] s7.2) fun x263 M262 =>
          alI 100 M262 a0 (s7.1 + ((1 : Int32))) fun x264 =>
          alI 100 M262 a0 (s7.1 + ((2 : Int32))) fun x265 =>
          alI 100 M262 a0 (s7.1 + ((3 : Int32))) fun x266 =>
          alI 100 M262 a0 (s7.1 + ((4 : Int32))) fun x267 =>
          alI 100 M262 a0 (s7.1 + ((5 : Int32))) fun x268 =>
          alI 100 M262 a0 (s7.1 + ((6 : Int32))) fun x269 =>
          vC (13, 157) M262 x4 <|
          cI (rec 294 [va_rf x4, .int x264, .int x265, .int x266, .int x267, .int x268, .int x269] M262) fun x271 M270 =>
          if x263 = x271 then (
            j1569 M270) else (
            rtZ ((0 : Int32)) M270))),
       ((30 : Int32), (
          alI 100 s7.2 a0 (s7.1 + ((1 : Int32))) fun x272 =>
          vC (12, 19) s7.2 x1 <|
          cI (rec 158 [va_rf x1, .int x272] s7.2) fun x274 M273 =>
          alI 100 M273 a0 (s7.1 + ((1 : Int32))) fun x275 =>
          vC (13, 157) M273 x4 <|
          cI (rec 298 [va_rf x4, .int x275] M273) fun x277 M276 =>
          if x274 = x277 then (
            j1569 M276) else (
            rtZ ((0 : Int32)) M276))),
       ((31 : Int32), (
          alI 100 s7.2 a0 (s7.1 + ((1 : Int32))) fun x278 =>
          alI 100 s7.2 a0 (s7.1 + ((2 : Int32))) fun x279 =>
          vC (12, 19) s7.2 x1 <|
          cI (rec 159 [va_rf x1, .int x278, .int x279] s7.2) fun x281 M280 =>
          alI 100 M280 a0 (s7.1 + ((1 : Int32))) fun x282 =>
          alI 100 M280 a0 (s7.1 + ((2 : Int32))) fun x283 =>
          vC (13, 157) M280 x4 <|
          cI (rec 299 [va_rf x4, .int x282, .int x283] M280) fun x285 M284 =>
          if x281 = x285 then (
            j1569 M284) else (
            rtZ ((0 : Int32)) M284))),
       ((32 : Int32), (
          alI 100 s7.2 a0 (s7.1 + ((1 : Int32))) fun x286 =>
          alI 100 s7.2 a0 (s7.1 + ((2 : Int32))) fun x287 =>
          vC (12, 19) s7.2 x1 <|
          cI (rec 160 [va_rf x1, .int x286, .int x287] s7.2) fun x289 M288 =>
          alI 100 M288 a0 (s7.1 + ((1 : Int32))) fun x290 =>
          alI 100 M288 a0 (s7.1 + ((2 : Int32))) fun x291 =>
          vC (13, 157) M288 x4 <|
          cI (rec 301 [va_rf x4, .int x290, .int x291] M288) fun x293 M292 =>
          if x289 = x293 then (
            j1569 M292) else (
            rtZ ((0 : Int32)) M292))),
       ((33 : Int32), (
          alI 100 s7.2 a0 (s7.1 + ((1 : Int32))) fun x294 =>
          vC (12, 19) s7.2 x1 <|
          cI (rec 161 [va_rf x1, .int x294] s7.2) fun x296 M295 =>
          alI 100 M295 a0 (s7.1 + ((1 : Int32))) fun x297 =>
          vC (13, 157) M295 x4 <|
          cI (rec 302 [va_rf x4, .int x297] M295) fun x299 M298 =>
          if x296 = x299 then (
            j1569 M298) else (
            rtZ ((0 : Int32)) M298))),
       ((34 : Int32), (
          alI 100 s7.2 a0 (s7.1 + ((1 : Int32))) fun x300 =>
          alI 100 s7.2 a0 (s7.1 + ((2 : Int32))) fun x301 =>
          vC (12, 19) s7.2 x1 <|
          cI (rec 162 [va_rf x1, .int x300, .int x301] s7.2) fun x303 M302 =>
          alI 100 M302 a0 (s7.1 + ((1 : Int32))) fun x304 =>
          alI 100 M302 a0 (s7.1 + ((2 : Int32))) fun x305 =>
          vC (13, 157) M302 x4 <|
          cI (rec 304 [va_rf x4, .int x304, .int x305] M302) fun x307 M306 =>
          if x303 = x307 then (
            j1569 M306) else (
            rtZ ((0 : Int32)) M306))),
       ((35 : Int32), (
          alI 100 s7.2 a0 (s7.1 + ((1 : Int32))) fun x308 =>
          vC (12, 19) s7.2 x1 <|
          cI (rec 163 [va_rf x1, .int x308] s7.2) fun x310 M309 =>
          alI 100 M309 a0 (s7.1 + ((1 : Int32))) fun x311 =>
          vC (13, 157) M309 x4 <|
          cI (rec 305 [va_rf x4, .int x311] M309) fun x313 M312 =>
          if x310 = x313 then (
            j1569 M312) else (
            rtZ ((0 : Int32)) M312))),
       ((36 : Int32), (
          alI 100 s7.2 a0 (s7.1 + ((1 : Int32))) fun x314 =>
          alI 100 s7.2 a0 (s7.1 + ((2 : Int32))) fun x315 =>
          vC (12, 19) s7.2 x1 <|
          cI (rec 164 [va_rf x1, .int x314, .int x315] s7.2) fun x317 M316 =>
          alI 100 M316 a0 (s7.1 + ((1 : Int32))) fun x318 =>
          alI 100 M316 a0 (s7.1 + ((2 : Int32))) fun x319 =>
          vC (13, 157) M316 x4 <|
          cI (rec 306 [va_rf x4, .int x318, .int x319] M316) fun x321 M320 =>
          if x317 = x321 then (
            j1569 M320) else (
            rtZ ((0 : Int32)) M320))),
       ((37 : Int32), (
          alI 100 s7.2 a0 (s7.1 + ((1 : Int32))) fun x322 =>
          alI 100 s7.2 a0 (s7.1 + ((2 : Int32))) fun x323 =>
          vC (12, 19) s7.2 x1 <|
          cI (rec 165 [va_rf x1, .int x322, .int x323] s7.2) fun x325 M324 =>
          alI 100 M324 a0 (s7.1 + ((1 : Int32))) fun x326 =>
          alI 100 M324 a0 (s7.1 + ((2 : Int32))) fun x327 =>
          vC (13, 157) M324 x4 <|
          cI (rec 308 [va_rf x4, .int x326, .int x327] M324) fun x329 M328 =>
          if x325 = x329 then (
            j1569 M328) else (
            rtZ ((0 : Int32)) M328))),
       ((38 : Int32), (
          alI 100 s7.2 a0 (s7.1 + ((1 : Int32))) fun x330 =>
          alI 100 s7.2 a0 (s7.1 + ((2 : Int32))) fun x331 =>
          vC (12, 19) s7.2 x1 <|
          cI (rec 166 [va_rf x1, .int x330, .int x331] s7.2) fun x333 M332 =>
          alI 100 M332 a0 (s7.1 + ((1 : Int32))) fun x334 =>
          alI 100 M332 a0 (s7.1 + ((2 : Int32))) fun x335 =>
          vC (13, 157) M332 x4 <|
          cI (rec 309 [va_rf x4, .int x334, .int x335] M332) fun x337 M336 =>
          if x333 = x337 then (
            j1569 M336) else (
            rtZ ((0 : Int32)) M336)))] (
        j1569 s7.2))) 4294967296 ((0 : Int32), M6)
def b362 (rec : Nat → List Value → Mem → XA) (as : List Value) (M0 : Mem) : XA := aR as fun a0 as => aZ as (c362 rec a0 M0)
