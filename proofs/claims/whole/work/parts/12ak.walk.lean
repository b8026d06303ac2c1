set_option maxRecDepth 100000 in
def c166 (rec : Nat → List Value → Mem → XA) (a0 : Option Nat) (a1 : Int32) (a2 : Int32) (M0 : Mem) : XA :=
  vC (12, 19) M0 a0 <|
  cP (rec 172 [va_rf a0, .int a1] M0) fun x2 M1 =>
  jn (fun (s3 : Option Nat × Mem) =>
    if s3.1 = none then (
      some (.int ((-1 : Int32)), s3.2)) else (
      gtI (8, 9) s3.2 s3.1 1 fun x4 =>
      vC (1, 4) s3.2 x2 <|
      cI (rec 3 [va_rf x2, .int x4] s3.2) fun x6 M5 =>
      if x6 = 0 then (
        gtP (12, 19) M5 a0 2 fun x7 =>
        gtP (1, 4) M5 x2 0 fun x8 =>
        vC (4, 22) M5 x7 <|
        cV (rec 19 [va_rf x7, va_rf x8, .int ((2147483647 : Int32))] M5) fun M9 =>
        gtP (12, 19) M9 a0 2 fun x10 =>
        vC (4, 22) M9 x10 <|
        cV (rec 20 [va_rf x10, va_rf x2] M9) fun M11 =>
        vC (12, 19) M11 a0 <|
        cI (rec 175 [va_rf a0, va_rf s3.1] M11) fun x13 M12 =>
        some (.int x13, M12)) else (
        some (.int ((-2 : Int32)), M5)))) fun j22 =>
  if x2 = none then (
    j22 (none, M1)) else (
    gtP (1, 4) M1 x2 0 fun x14 =>
    cP (rec 169 [va_rf x14, .int a2] M1) fun x16 M15 =>
    j22 (x16, M15))
def b166 (rec : Nat → List Value → Mem → XA) (as : List Value) (M0 : Mem) : XA := aR as fun a0 as => aI as fun a1 as => aI as fun a2 as => aZ as (c166 rec a0 a1 a2 M0)
set_option maxRecDepth 100000 in
set_option maxHeartbeats 4000000 in
theorem k166 {S : XS} {G : XG} {K : Nat × Nat} {l : Launch} {d : Nat} {rec : Nat → List Value → Mem → XA} (hs : XSnd l xmt rec d) (a0 : Option Nat) (a1 : Int32) (a2 : Int32) (M0 : Mem) : Xe S G K l (yX11_touch, cX11_touch, 5, some .int) d 0 [some (va_rf a0), some (.int a1), some (.int a2), none, none] [] M0 (c166 rec a0 a1 a2 M0) := by
  unfold c166
  refine x_aload_n dX11_touch_0 rfl ?_
  refine x_iload_n dX11_touch_1 rfl ?_
  refine cmX11_410 rfl hs (Nat.le_of_ble_eq_true rfl) dX11_touch_2 (fun x2 M1 => ?_)
  refine x_astore_n (lo' := [some (va_rf a0), some (.int a1), some (.int a2), some (va_rf x2), none]) dX11_touch_5 (by decide) rfl rfl ?_
  refine x_aload_n dX11_touch_6 rfl ?_
  refine x_jn (σ := Option Nat × Mem) 22 (fun s3 => [some (va_rf a0), none, none, some (va_rf x2), none]) (fun s3 => [va_rf s3.1]) (fun s3 => s3.2) (fun s3 => ?_) (fun j22 hj22 => ?_)
  · refine x_astore (lo' := [some (va_rf a0), none, none, some (va_rf x2), some (va_rf s3.1)]) dX11_touch_22 (by decide) (xok_r rfl) rfl ?_
    refine x_aload dX11_touch_24 rfl ?_
    refine x_ifnonnull (tgt := 31) dX11_touch_26 (by decide) (fun _ => ?_) (fun _ => ?_)
    · refine x_iconst (v := -1) dX11_touch_29 (by decide) ?_
      exact x_iret rfl dX11_touch_30
    · refine x_aload_n dX11_touch_31 rfl ?_
      refine x_aload dX11_touch_32 rfl ?_
      refine gfX11_134 rfl dX11_touch_34 (fun x4 => ?_)
      refine cmX11_421 rfl hs (Nat.le_of_ble_eq_true rfl) dX11_touch_37 (fun x6 M5 => ?_)
      refine x_if_eq (tgt := 46) dX11_touch_40 (by decide) (fun _ => ?_) (fun _ => ?_)
      · refine x_aload_n dX11_touch_46 rfl ?_
        refine gfX11_26 rfl dX11_touch_47 (fun x7 => ?_)
        refine x_aload_n dX11_touch_50 rfl ?_
        refine gfX11_414 rfl dX11_touch_51 (fun x8 => ?_)
        refine x_ldc (v := 2147483647) dX11_touch_54 lk_constant_X11_192 ?_
        refine cmX11_193 rfl hs (Nat.le_of_ble_eq_true rfl) dX11_touch_56 (fun M9 => ?_)
        refine x_aload_n dX11_touch_59 rfl ?_
        refine gfX11_26 rfl dX11_touch_60 (fun x10 => ?_)
        refine x_aload_n dX11_touch_63 rfl ?_
        refine cmX11_428 rfl hs (Nat.le_of_ble_eq_true rfl) dX11_touch_64 (fun M11 => ?_)
        refine x_aload_n dX11_touch_67 rfl ?_
        refine x_aload dX11_touch_68 rfl ?_
        refine cmX11_216 rfl hs (Nat.le_of_ble_eq_true rfl) dX11_touch_70 (fun x13 M12 => ?_)
        exact x_iret rfl dX11_touch_73
      · refine x_bipush (v := -2) dX11_touch_43 (by decide) ?_
        exact x_iret rfl dX11_touch_45
  refine x_ifnonnull (tgt := 14) dX11_touch_7 (by decide) (fun _ => ?_) (fun _ => ?_)
  · refine x_null dX11_touch_10 ?_
    refine x_goto (tgt := 22) dX11_touch_11 (by decide) ?_
    exact x_weak (by exact ⟨rfl, ⟨rfl, trivial⟩⟩) (hj22 (none, M1))
  · refine x_aload_n dX11_touch_14 rfl ?_
    refine gfX11_414 rfl dX11_touch_15 (fun x14 => ?_)
    refine x_iload_n dX11_touch_18 rfl ?_
    refine cmX11_152 rfl hs (Nat.le_of_ble_eq_true rfl) dX11_touch_19 (fun x16 M15 => ?_)
    exact x_weak (by exact ⟨rfl, ⟨rfl, trivial⟩⟩) (hj22 (x16, M15))
theorem s166 {l : Launch} {d : Nat} {rec : Nat → List Value → Mem → XA} (hS : Nonempty XS) (hs : XSnd l xmt rec d) : Snd1 l 166 (b166 rec) d := by
  intro as M r M' h0
  unfold b166 at h0
  obtain ⟨a0, l1, e1, h1⟩ := aR_inv h0
  obtain ⟨a1, l2, e2, h2⟩ := aI_inv h1
  obtain ⟨a2, l3, e3, h3⟩ := aI_inv h2
  obtain ⟨ez, h⟩ := aZ_inv h3
  subst ez
  subst e3
  subst e2
  subst e1
  exact xmet (M := M) (as := [va_rf a0, .int a1, .int a2]) (lo := [some (va_rf a0), some (.int a1), some (.int a2)]) 166 xq166 xm166 (by rw [xargs_rf, xargs_i, xargs_i, xargs_nil]; exact ⟨rfl, ⟨rfl, ⟨rfl, trivial⟩⟩⟩) (by rw [xargs_rf, xargs_i, xargs_i, xargs_nil]; exact Nat.le_of_ble_eq_true rfl) (fun S G K => x_weak (by exact ⟨rfl, ⟨rfl, ⟨rfl, trivial⟩⟩⟩) (k166 hs a0 a1 a2 M)) h hS
set_option maxRecDepth 100000 in
def c167 (rec : Nat → List Value → Mem → XA) (a0 : Option Nat) (a1 : Int32) (M0 : Mem) : XA :=
  jn (fun (s1 : Option Nat × Mem) =>
    some (va_rf s1.1, s1.2)) fun j30 =>
  jn (fun (s2 : Mem) =>
    j30 (none, s2)) fun j15 =>
  if a1 < 0 then (
    j15 M0) else (
    gtP (12, 19) M0 a0 1 fun x3 =>
    vC (0, 3) M0 x3 <|
    cI (rec 346 [va_rf x3] M0) fun x5 M4 =>
    if a1 < x5 then (
      gtP (12, 19) M4 a0 1 fun x6 =>
      vC (0, 3) M4 x6 <|
      cP (rec 348 [va_rf x6, .int a1] M4) fun x8 M7 =>
      cst (6, 18) M7 x8 <|
      j30 (x8, M7)) else (
      j15 M4))
def b167 (rec : Nat → List Value → Mem → XA) (as : List Value) (M0 : Mem) : XA := aR as fun a0 as => aI as fun a1 as => aZ as (c167 rec a0 a1 M0)
set_option maxRecDepth 100000 in
set_option maxHeartbeats 4000000 in
theorem k167 {S : XS} {G : XG} {K : Nat × Nat} {l : Launch} {d : Nat} {rec : Nat → List Value → Mem → XA} (hs : XSnd l xmt rec d) (a0 : Option Nat) (a1 : Int32) (M0 : Mem) : Xe S G K l (yX11_parcelAt, cX11_parcelAt, 2, some (.object "TestHouse$Parcel")) d 0 [some (va_rf a0), some (.int a1)] [] M0 (c167 rec a0 a1 M0) := by
  unfold c167
  refine x_iload_n dX11_parcelAt_0 rfl ?_
  refine x_jn (σ := Option Nat × Mem) 30 (fun s1 => [none, none]) (fun s1 => [va_rf s1.1]) (fun s1 => s1.2) (fun s1 => ?_) (fun j30 hj30 => ?_)
  · exact x_aret rfl rfl dX11_parcelAt_30
  refine x_jn (σ := Mem) 15 (fun s2 => [none, none]) (fun s2 => []) (fun s2 => s2) (fun s2 => ?_) (fun j15 hj15 => ?_)
  · refine x_null dX11_parcelAt_15 ?_
    refine x_goto (tgt := 30) dX11_parcelAt_16 (by decide) ?_
    exact x_weak (by exact trivial) (hj30 (none, s2))
  refine x_if_lt (tgt := 15) dX11_parcelAt_1 (by decide) (fun _ => ?_) (fun _ => ?_)
  · exact x_weak (by exact trivial) (hj15 M0)
  · refine x_iload_n dX11_parcelAt_4 rfl ?_
    refine x_aload_n dX11_parcelAt_5 rfl ?_
    refine gfX11_19 rfl dX11_parcelAt_6 (fun x3 => ?_)
    refine cmX11_88 rfl hs (Nat.le_of_ble_eq_true rfl) dX11_parcelAt_9 (fun x5 M4 => ?_)
    refine x_icmp_lt (tgt := 19) dX11_parcelAt_12 (by decide) (fun _ => ?_) (fun _ => ?_)
    · refine x_aload_n dX11_parcelAt_19 rfl ?_
      refine gfX11_19 rfl dX11_parcelAt_20 (fun x6 => ?_)
      refine x_iload_n dX11_parcelAt_23 rfl ?_
      refine cmX11_162 rfl hs (Nat.le_of_ble_eq_true rfl) dX11_parcelAt_24 (fun x8 M7 => ?_)
      refine ccX11_101 rfl dX11_parcelAt_27 ?_
      exact x_weak (by exact trivial) (hj30 (x8, M7))
    · exact x_weak (by exact trivial) (hj15 M4)
theorem s167 {l : Launch} {d : Nat} {rec : Nat → List Value → Mem → XA} (hS : Nonempty XS) (hs : XSnd l xmt rec d) : Snd1 l 167 (b167 rec) d := by
  intro as M r M' h0
  unfold b167 at h0
  obtain ⟨a0, l1, e1, h1⟩ := aR_inv h0
  obtain ⟨a1, l2, e2, h2⟩ := aI_inv h1
  obtain ⟨ez, h⟩ := aZ_inv h2
  subst ez
  subst e2
  subst e1
  exact xmet (M := M) (as := [va_rf a0, .int a1]) (lo := [some (va_rf a0), some (.int a1)]) 167 xq167 xm167 (by rw [xargs_rf, xargs_i, xargs_nil]; exact ⟨rfl, ⟨rfl, trivial⟩⟩) (by rw [xargs_rf, xargs_i, xargs_nil]; exact Nat.le_of_ble_eq_true rfl) (fun S G K => x_weak (by exact ⟨rfl, ⟨rfl, trivial⟩⟩) (k167 hs a0 a1 M)) h hS
set_option maxRecDepth 100000 in
def c168 (rec : Nat → List Value → Mem → XA) (a0 : Option Nat) (a1 : Int32) (M0 : Mem) : XA :=
  jn (fun (s1 : Option Nat × Mem) =>
    some (va_rf s1.1, s1.2)) fun j24 =>
  jn (fun (s2 : Mem) =>
    j24 (none, s2)) fun j12 =>
  if a1 < 0 then (
    j12 M0) else (
    vC (0, 3) M0 a0 <|
    cI (rec 346 [va_rf a0] M0) fun x4 M3 =>
    if a1 < x4 then (
      vC (0, 3) M3 a0 <|
      cP (rec 348 [va_rf a0, .int a1] M3) fun x6 M5 =>
      cst (8, 9) M5 x6 <|
      j24 (x6, M5)) else (
      j12 M3))
def b168 (rec : Nat → List Value → Mem → XA) (as : List Value) (M0 : Mem) : XA := aR as fun a0 as => aI as fun a1 as => aZ as (c168 rec a0 a1 M0)
set_option maxRecDepth 100000 in
set_option maxHeartbeats 4000000 in
theorem k168 {S : XS} {G : XG} {K : Nat × Nat} {l : Launch} {d : Nat} {rec : Nat → List Value → Mem → XA} (hs : XSnd l xmt rec d) (a0 : Option Nat) (a1 : Int32) (M0 : Mem) : Xe S G K l (yX11_partAt, cX11_partAt, 2, some (.object "TestHouse$Part")) d 0 [some (va_rf a0), some (.int a1)] [] M0 (c168 rec a0 a1 M0) := by
  unfold c168
  refine x_iload_n dX11_partAt_0 rfl ?_
  refine x_jn (σ := Option Nat × Mem) 24 (fun s1 => [none, none]) (fun s1 => [va_rf s1.1]) (fun s1 => s1.2) (fun s1 => ?_) (fun j24 hj24 => ?_)
  · exact x_aret rfl rfl dX11_partAt_24
  refine x_jn (σ := Mem) 12 (fun s2 => [none, none]) (fun s2 => []) (fun s2 => s2) (fun s2 => ?_) (fun j12 hj12 => ?_)
  · refine x_null dX11_partAt_12 ?_
    refine x_goto (tgt := 24) dX11_partAt_13 (by decide) ?_
    exact x_weak (by exact trivial) (hj24 (none, s2))
  refine x_if_lt (tgt := 12) dX11_partAt_1 (by decide) (fun _ => ?_) (fun _ => ?_)
  · exact x_weak (by exact trivial) (hj12 M0)
  · refine x_iload_n dX11_partAt_4 rfl ?_
    refine x_aload_n dX11_partAt_5 rfl ?_
    refine cmX11_88 rfl hs (Nat.le_of_ble_eq_true rfl) dX11_partAt_6 (fun x4 M3 => ?_)
    refine x_icmp_lt (tgt := 16) dX11_partAt_9 (by decide) (fun _ => ?_) (fun _ => ?_)
    · refine x_aload_n dX11_partAt_16 rfl ?_
      refine x_iload_n dX11_partAt_17 rfl ?_
      refine cmX11_162 rfl hs (Nat.le_of_ble_eq_true rfl) dX11_partAt_18 (fun x6 M5 => ?_)
      refine ccX11_135 rfl dX11_partAt_21 ?_
      exact x_weak (by exact trivial) (hj24 (x6, M5))
    · exact x_weak (by exact trivial) (hj12 M3)
theorem s168 {l : Launch} {d : Nat} {rec : Nat → List Value → Mem → XA} (hS : Nonempty XS) (hs : XSnd l xmt rec d) : Snd1 l 168 (b168 rec) d := by
  intro as M r M' h0
  unfold b168 at h0
  obtain ⟨a0, l1, e1, h1⟩ := aR_inv h0
  obtain ⟨a1, l2, e2, h2⟩ := aI_inv h1
  obtain ⟨ez, h⟩ := aZ_inv h2
  subst ez
  subst e2
  subst e1
  exact xmet (M := M) (as := [va_rf a0, .int a1]) (lo := [some (va_rf a0), some (.int a1)]) 168 xq168 xm168 (by rw [xargs_rf, xargs_i, xargs_nil]; exact ⟨rfl, ⟨rfl, trivial⟩⟩) (by rw [xargs_rf, xargs_i, xargs_nil]; exact Nat.le_of_ble_eq_true rfl) (fun S G K => x_weak (by exact ⟨rfl, ⟨rfl, trivial⟩⟩) (k168 hs a0 a1 M)) h hS
set_option maxRecDepth 100000 in
def c169 (rec : Nat → List Value → Mem → XA) (a0 : Option Nat) (a1 : Int32) (M0 : Mem) : XA :=
  jn (fun (s1 : Option Nat × Mem) =>
    some (va_rf s1.1, s1.2)) fun j16 =>
  if a0 = none then (
    j16 (none, M0)) else (
    gtP (6, 18) M0 a0 3 fun x2 =>
    cP (rec 168 [va_rf x2, .int a1] M0) fun x4 M3 =>
    j16 (x4, M3))
def b169 (rec : Nat → List Value → Mem → XA) (as : List Value) (M0 : Mem) : XA := aR as fun a0 as => aI as fun a1 as => aZ as (c169 rec a0 a1 M0)
set_option maxRecDepth 100000 in
set_option maxHeartbeats 4000000 in
theorem k169 {S : XS} {G : XG} {K : Nat × Nat} {l : Launch} {d : Nat} {rec : Nat → List Value → Mem → XA} (hs : XSnd l xmt rec d) (a0 : Option Nat) (a1 : Int32) (M0 : Mem) : Xe S G K l (yX11_caseAt, cX11_caseAt, 2, some (.object "TestHouse$Part")) d 0 [some (va_rf a0), some (.int a1)] [] M0 (c169 rec a0 a1 M0) := by
  unfold c169
  refine x_aload_n dX11_caseAt_0 rfl ?_
  refine x_jn (σ := Option Nat × Mem) 16 (fun s1 => [none, none]) (fun s1 => [va_rf s1.1]) (fun s1 => s1.2) (fun s1 => ?_) (fun j16 hj16 => ?_)
  · exact x_aret rfl rfl dX11_caseAt_16
  refine x_ifnonnull (tgt := 8) dX11_caseAt_1 (by decide) (fun _ => ?_) (fun _ => ?_)
  · refine x_null dX11_caseAt_4 ?_
    refine x_goto (tgt := 16) dX11_caseAt_5 (by decide) ?_
    exact x_weak (by exact trivial) (hj16 (none, M0))
  · refine x_aload_n dX11_caseAt_8 rfl ?_
    refine gfX11_121 rfl dX11_caseAt_9 (fun x2 => ?_)
    refine x_iload_n dX11_caseAt_12 rfl ?_
    refine cmX11_130 rfl hs (Nat.le_of_ble_eq_true rfl) dX11_caseAt_13 (fun x4 M3 => ?_)
    exact x_weak (by exact trivial) (hj16 (x4, M3))
theorem s169 {l : Launch} {d : Nat} {rec : Nat → List Value → Mem → XA} (hS : Nonempty XS) (hs : XSnd l xmt rec d) : Snd1 l 169 (b169 rec) d := by
  intro as M r M' h0
  unfold b169 at h0
  obtain ⟨a0, l1, e1, h1⟩ := aR_inv h0
  obtain ⟨a1, l2, e2, h2⟩ := aI_inv h1
  obtain ⟨ez, h⟩ := aZ_inv h2
  subst ez
  subst e2
  subst e1
  exact xmet (M := M) (as := [va_rf a0, .int a1]) (lo := [some (va_rf a0), some (.int a1)]) 169 xq169 xm169 (by rw [xargs_rf, xargs_i, xargs_nil]; exact ⟨rfl, ⟨rfl, trivial⟩⟩) (by rw [xargs_rf, xargs_i, xargs_nil]; exact Nat.le_of_ble_eq_true rfl) (fun S G K => x_weak (by exact ⟨rfl, ⟨rfl, trivial⟩⟩) (k169 hs a0 a1 M)) h hS
set_option maxRecDepth 100000 in
def c170 (rec : Nat → List Value → Mem → XA) (a0 : Option Nat) (a1 : Int32) (M0 : Mem) : XA :=
  lp (fun (s1 : Int32) j2 =>
    jn (fun (s2 : Unit) =>
      some (va_rf none, M0)) fun j44 =>
    if ((8 : Int32)) ≤ s1 then (
      j44 ()) else (
      if a1 < 0 then (
        j44 ()) else (
        gtP (12, 19) M0 a0 2 fun x3 =>
        gtP (4, 22) M0 x3 7 fun x4 =>
        alP 112 M0 x4 s1 fun x5 =>
        gtI (10, 9) M0 x5 0 fun x6 =>
        if x6 = a1 then (
          gtP (12, 19) M0 a0 2 fun x7 =>
          gtP (4, 22) M0 x7 7 fun x8 =>
          alP 112 M0 x8 s1 fun x9 =>
          some (va_rf x9, M0)) else (
          lt (s1 + (1 : Int32)) fun (x10 : Int32) =>
          j2 x10)))) 4294967296 ((0 : Int32))
def b170 (rec : Nat → List Value → Mem → XA) (as : List Value) (M0 : Mem) : XA := aR as fun a0 as => aI as fun a1 as => aZ as (c170 rec a0 a1 M0)
set_option maxRecDepth 100000 in
set_option maxHeartbeats 4000000 in
theorem k170 {S : XS} {G : XG} {K : Nat × Nat} {l : Launch} {d : Nat} {rec : Nat → List Value → Mem → XA} (hs : XSnd l xmt rec d) (a0 : Option Nat) (a1 : Int32) (M0 : Mem) : Xe S G K l (yX11_twinAt, cX11_twinAt, 3, some (.object "TestHouse$Twin")) d 0 [some (va_rf a0), some (.int a1), none] [] M0 (c170 rec a0 a1 M0) := by
  unfold c170
  refine x_iconst (v := 0) dX11_twinAt_0 (by decide) ?_
  refine x_istore_n (lo' := [some (va_rf a0), some (.int a1), some (.int ((0 : Int32)))]) dX11_twinAt_1 (by decide) rfl rfl ?_
  refine x_weak (by exact ⟨rfl, ⟨rfl, ⟨rfl, trivial⟩⟩⟩) (x_lp (σ := Int32) 2 (fun s1 => [some (va_rf a0), some (.int a1), some (.int s1)]) (fun s1 => []) (fun s1 => M0) (fun s1 j2 hj2 => ?_) 4294967296 ((0 : Int32)))
  · refine x_iload_n dX11_twinAt_2 rfl ?_
    refine x_bipush (v := 8) dX11_twinAt_3 (by decide) ?_
    refine x_jn (σ := Unit) 44 (fun s2 => [none, none, none]) (fun s2 => []) (fun s2 => M0) (fun s2 => ?_) (fun j44 hj44 => ?_)
    · refine x_null dX11_twinAt_44 ?_
      exact x_aret rfl rfl dX11_twinAt_45
    refine x_icmp_ge (tgt := 44) dX11_twinAt_5 (by decide) (fun _ => ?_) (fun _ => ?_)
    · exact x_weak (by exact trivial) (hj44 ())
    · refine x_iload_n dX11_twinAt_8 rfl ?_
      refine x_if_lt (tgt := 44) dX11_twinAt_9 (by decide) (fun _ => ?_) (fun _ => ?_)
      · exact x_weak (by exact trivial) (hj44 ())
      · refine x_aload_n dX11_twinAt_12 rfl ?_
        refine gfX11_26 rfl dX11_twinAt_13 (fun x3 => ?_)
        refine gfX11_235 rfl dX11_twinAt_16 (fun x4 => ?_)
        refine x_iload_n dX11_twinAt_19 rfl ?_
        refine x_aldq (t := 112) (tn := 7) (by decide) (by decide) rfl dX11_twinAt_20 (fun x5 => ?_)
        refine gfX11_245 rfl dX11_twinAt_21 (fun x6 => ?_)
        refine x_iload_n dX11_twinAt_24 rfl ?_
        refine x_icmp_ne (tgt := 38) dX11_twinAt_25 (by decide) (fun _ => ?_) (fun _ => ?_)
        · refine x_aload_n dX11_twinAt_28 rfl ?_
          refine gfX11_26 rfl dX11_twinAt_29 (fun x7 => ?_)
          refine gfX11_235 rfl dX11_twinAt_32 (fun x8 => ?_)
          refine x_iload_n dX11_twinAt_35 rfl ?_
          refine x_aldq (t := 112) (tn := 7) (by decide) (by decide) rfl dX11_twinAt_36 (fun x9 => ?_)
          exact x_aret rfl rfl dX11_twinAt_37
        · refine x_iincN (v := 1) (lo' := fun x10 => [some (va_rf a0), some (.int a1), some (.int x10)]) (by decide) dX11_twinAt_38 rfl (by decide) rfl (fun _ => rfl) (fun x10 => ?_)
          refine x_goto (tgt := 2) dX11_twinAt_41 (by decide) ?_
          exact x_weak (by exact ⟨rfl, ⟨rfl, ⟨rfl, trivial⟩⟩⟩) (hj2 x10)
theorem s170 {l : Launch} {d : Nat} {rec : Nat → List Value → Mem → XA} (hS : Nonempty XS) (hs : XSnd l xmt rec d) : Snd1 l 170 (b170 rec) d := by
  intro as M r M' h0
  unfold b170 at h0
  obtain ⟨a0, l1, e1, h1⟩ := aR_inv h0
  obtain ⟨a1, l2, e2, h2⟩ := aI_inv h1
  obtain ⟨ez, h⟩ := aZ_inv h2
  subst ez
  subst e2
  subst e1
  exact xmet (M := M) (as := [va_rf a0, .int a1]) (lo := [some (va_rf a0), some (.int a1)]) 170 xq170 xm170 (by rw [xargs_rf, xargs_i, xargs_nil]; exact ⟨rfl, ⟨rfl, trivial⟩⟩) (by rw [xargs_rf, xargs_i, xargs_nil]; exact Nat.le_of_ble_eq_true rfl) (fun S G K => x_weak (by exact ⟨rfl, ⟨rfl, trivial⟩⟩) (k170 hs a0 a1 M)) h hS
set_option maxRecDepth 100000 in
def c171 (rec : Nat → List Value → Mem → XA) (a0 : Option Nat) (a1 : Int32) (M0 : Mem) : XA :=
  jn (fun (s1 : Option Nat × Mem) =>
    some (va_rf s1.1, s1.2)) fun j30 =>
  jn (fun (s2 : Mem) =>
    j30 (none, s2)) fun j15 =>
  if a1 < 0 then (
    j15 M0) else (
    gtP (12, 19) M0 a0 5 fun x3 =>
    vC (0, 3) M0 x3 <|
    cI (rec 346 [va_rf x3] M0) fun x5 M4 =>
    if a1 < x5 then (
      gtP (12, 19) M4 a0 5 fun x6 =>
      vC (0, 3) M4 x6 <|
      cP (rec 348 [va_rf x6, .int a1] M4) fun x8 M7 =>
      cst (2, 7) M7 x8 <|
      j30 (x8, M7)) else (
      j15 M4))
def b171 (rec : Nat → List Value → Mem → XA) (as : List Value) (M0 : Mem) : XA := aR as fun a0 as => aI as fun a1 as => aZ as (c171 rec a0 a1 M0)
set_option maxRecDepth 100000 in
set_option maxHeartbeats 4000000 in
theorem k171 {S : XS} {G : XG} {K : Nat × Nat} {l : Launch} {d : Nat} {rec : Nat → List Value → Mem → XA} (hs : XSnd l xmt rec d) (a0 : Option Nat) (a1 : Int32) (M0 : Mem) : Xe S G K l (yX11_historyAt, cX11_historyAt, 2, some (.object "TestHouse$History")) d 0 [some (va_rf a0), some (.int a1)] [] M0 (c171 rec a0 a1 M0) := by
  unfold c171
  refine x_iload_n dX11_historyAt_0 rfl ?_
  refine x_jn (σ := Option Nat × Mem) 30 (fun s1 => [none, none]) (fun s1 => [va_rf s1.1]) (fun s1 => s1.2) (fun s1 => ?_) (fun j30 hj30 => ?_)
  · exact x_aret rfl rfl dX11_historyAt_30
  refine x_jn (σ := Mem) 15 (fun s2 => [none, none]) (fun s2 => []) (fun s2 => s2) (fun s2 => ?_) (fun j15 hj15 => ?_)
  · refine x_null dX11_historyAt_15 ?_
    refine x_goto (tgt := 30) dX11_historyAt_16 (by decide) ?_
    exact x_weak (by exact trivial) (hj30 (none, s2))
  refine x_if_lt (tgt := 15) dX11_historyAt_1 (by decide) (fun _ => ?_) (fun _ => ?_)
  · exact x_weak (by exact trivial) (hj15 M0)
  · refine x_iload_n dX11_historyAt_4 rfl ?_
    refine x_aload_n dX11_historyAt_5 rfl ?_
    refine gfX11_33 rfl dX11_historyAt_6 (fun x3 => ?_)
    refine cmX11_88 rfl hs (Nat.le_of_ble_eq_true rfl) dX11_historyAt_9 (fun x5 M4 => ?_)
    refine x_icmp_lt (tgt := 19) dX11_historyAt_12 (by decide) (fun _ => ?_) (fun _ => ?_)
    · refine x_aload_n dX11_historyAt_19 rfl ?_
      refine gfX11_33 rfl dX11_historyAt_20 (fun x6 => ?_)
      refine x_iload_n dX11_historyAt_23 rfl ?_
      refine cmX11_162 rfl hs (Nat.le_of_ble_eq_true rfl) dX11_historyAt_24 (fun x8 M7 => ?_)
      refine ccX11_338 rfl dX11_historyAt_27 ?_
      exact x_weak (by exact trivial) (hj30 (x8, M7))
    · exact x_weak (by exact trivial) (hj15 M4)
theorem s171 {l : Launch} {d : Nat} {rec : Nat → List Value → Mem → XA} (hS : Nonempty XS) (hs : XSnd l xmt rec d) : Snd1 l 171 (b171 rec) d := by
  intro as M r M' h0
  unfold b171 at h0
  obtain ⟨a0, l1, e1, h1⟩ := aR_inv h0
  obtain ⟨a1, l2, e2, h2⟩ := aI_inv h1
  obtain ⟨ez, h⟩ := aZ_inv h2
  subst ez
  subst e2
  subst e1
  exact xmet (M := M) (as := [va_rf a0, .int a1]) (lo := [some (va_rf a0), some (.int a1)]) 171 xq171 xm171 (by rw [xargs_rf, xargs_i, xargs_nil]; exact ⟨rfl, ⟨rfl, trivial⟩⟩) (by rw [xargs_rf, xargs_i, xargs_nil]; exact Nat.le_of_ble_eq_true rfl) (fun S G K => x_weak (by exact ⟨rfl, ⟨rfl, trivial⟩⟩) (k171 hs a0 a1 M)) h hS
set_option maxRecDepth 100000 in
def c172 (rec : Nat → List Value → Mem → XA) (a0 : Option Nat) (a1 : Int32) (M0 : Mem) : XA :=
  jn (fun (s1 : Option Nat × Mem) =>
    some (va_rf s1.1, s1.2)) fun j30 =>
  jn (fun (s2 : Mem) =>
    j30 (none, s2)) fun j15 =>
  if a1 < 0 then (
    j15 M0) else (
    gtP (12, 19) M0 a0 4 fun x3 =>
    vC (0, 3) M0 x3 <|
    cI (rec 346 [va_rf x3] M0) fun x5 M4 =>
    if a1 < x5 then (
      gtP (12, 19) M4 a0 4 fun x6 =>
      vC (0, 3) M4 x6 <|
      cP (rec 348 [va_rf x6, .int a1] M4) fun x8 M7 =>
      cst (1, 4) M7 x8 <|
      j30 (x8, M7)) else (
      j15 M4))
def b172 (rec : Nat → List Value → Mem → XA) (as : List Value) (M0 : Mem) : XA := aR as fun a0 as => aI as fun a1 as => aZ as (c172 rec a0 a1 M0)
set_option maxRecDepth 100000 in
set_option maxHeartbeats 4000000 in
theorem k172 {S : XS} {G : XG} {K : Nat × Nat} {l : Launch} {d : Nat} {rec : Nat → List Value → Mem → XA} (hs : XSnd l xmt rec d) (a0 : Option Nat) (a1 : Int32) (M0 : Mem) : Xe S G K l (yX11_buildAt, cX11_buildAt, 2, some (.object "TestHouse$Build")) d 0 [some (va_rf a0), some (.int a1)] [] M0 (c172 rec a0 a1 M0) := by
  unfold c172
  refine x_iload_n dX11_buildAt_0 rfl ?_
  refine x_jn (σ := Option Nat × Mem) 30 (fun s1 => [none, none]) (fun s1 => [va_rf s1.1]) (fun s1 => s1.2) (fun s1 => ?_) (fun j30 hj30 => ?_)
  · exact x_aret rfl rfl dX11_buildAt_30
  refine x_jn (σ := Mem) 15 (fun s2 => [none, none]) (fun s2 => []) (fun s2 => s2) (fun s2 => ?_) (fun j15 hj15 => ?_)
  · refine x_null dX11_buildAt_15 ?_
    refine x_goto (tgt := 30) dX11_buildAt_16 (by decide) ?_
    exact x_weak (by exact trivial) (hj30 (none, s2))
  refine x_if_lt (tgt := 15) dX11_buildAt_1 (by decide) (fun _ => ?_) (fun _ => ?_)
  · exact x_weak (by exact trivial) (hj15 M0)
  · refine x_iload_n dX11_buildAt_4 rfl ?_
    refine x_aload_n dX11_buildAt_5 rfl ?_
    refine gfX11_30 rfl dX11_buildAt_6 (fun x3 => ?_)
    refine cmX11_88 rfl hs (Nat.le_of_ble_eq_true rfl) dX11_buildAt_9 (fun x5 M4 => ?_)
    refine x_icmp_lt (tgt := 19) dX11_buildAt_12 (by decide) (fun _ => ?_) (fun _ => ?_)
    · refine x_aload_n dX11_buildAt_19 rfl ?_
      refine gfX11_30 rfl dX11_buildAt_20 (fun x6 => ?_)
      refine x_iload_n dX11_buildAt_23 rfl ?_
      refine cmX11_162 rfl hs (Nat.le_of_ble_eq_true rfl) dX11_buildAt_24 (fun x8 M7 => ?_)
      refine ccX11_405 rfl dX11_buildAt_27 ?_
      exact x_weak (by exact trivial) (hj30 (x8, M7))
    · exact x_weak (by exact trivial) (hj15 M4)
theorem s172 {l : Launch} {d : Nat} {rec : Nat → List Value → Mem → XA} (hS : Nonempty XS) (hs : XSnd l xmt rec d) : Snd1 l 172 (b172 rec) d := by
  intro as M r M' h0
  unfold b172 at h0
  obtain ⟨a0, l1, e1, h1⟩ := aR_inv h0
  obtain ⟨a1, l2, e2, h2⟩ := aI_inv h1
  obtain ⟨ez, h⟩ := aZ_inv h2
  subst ez
  subst e2
  subst e1
  exact xmet (M := M) (as := [va_rf a0, .int a1]) (lo := [some (va_rf a0), some (.int a1)]) 172 xq172 xm172 (by rw [xargs_rf, xargs_i, xargs_nil]; exact ⟨rfl, ⟨rfl, trivial⟩⟩) (by rw [xargs_rf, xargs_i, xargs_nil]; exact Nat.le_of_ble_eq_true rfl) (fun S G K => x_weak (by exact ⟨rfl, ⟨rfl, trivial⟩⟩) (k172 hs a0 a1 M)) h hS
set_option maxRecDepth 100000 in
def c173 (rec : Nat → List Value → Mem → XA) (a0 : Int64) (a1 : Int32) (M0 : Mem) : XA :=
  cI (rec 316 [.long a0] M0) fun x2 M1 =>
  if ((8 : Int32)) = 0 then none else
  lt ((((71 : Int32)) - x2) / ((8 : Int32))) fun (x3 : Int32) =>
  jn (fun (s4 : Int32) =>
    some (.int s4, M1)) fun j39 =>
  jn (fun (s5 : Unit) =>
    j39 ((-1 : Int32))) fun j20 =>
  if a1 < 0 then (
    j20 ()) else (
    if a1 < x3 then (
      j39 ((((Int64.toUInt64 a0 >>> ((Int32.toInt64 (((8 : Int32)) * ((x3 - ((1 : Int32))) - a1))).toUInt64 &&& Int64.toUInt64 63)).toInt64).toInt32) &&& ((255 : Int32)))) else (
      j20 ()))
def b173 (rec : Nat → List Value → Mem → XA) (as : List Value) (M0 : Mem) : XA := aL as fun a0 as => aI as fun a1 as => aZ as (c173 rec a0 a1 M0)
set_option maxRecDepth 100000 in
set_option maxHeartbeats 4000000 in
theorem k173 {S : XS} {G : XG} {K : Nat × Nat} {l : Launch} {d : Nat} {rec : Nat → List Value → Mem → XA} (hs : XSnd l xmt rec d) (a0 : Int64) (a1 : Int32) (M0 : Mem) : Xe S G K l (yX11_byteOf, cX11_byteOf, 4, some .int) d 0 [some (.long a0), none, some (.int a1), none] [] M0 (c173 rec a0 a1 M0) := by
  unfold c173
  refine x_bipush (v := 71) dX11_byteOf_0 (by decide) ?_
  refine x_lload_n dX11_byteOf_2 rfl ?_
  refine cmX11_432 rfl hs (Nat.le_of_ble_eq_true rfl) dX11_byteOf_3 (fun x2 M1 => ?_)
  refine x_isub dX11_byteOf_6 ?_
  refine x_bipush (v := 8) dX11_byteOf_7 (by decide) ?_
  refine x_idiv dX11_byteOf_9 (fun _ => ?_)
  refine x_ltI (fun x3 => ?_)
  refine x_istore_n (lo' := [some (.long a0), none, some (.int a1), some (.int x3)]) dX11_byteOf_10 (by decide) rfl rfl ?_
  refine x_iload_n dX11_byteOf_11 rfl ?_
  refine x_jn (σ := Int32) 39 (fun s4 => [none, none, none, none]) (fun s4 => [.int s4]) (fun s4 => M1) (fun s4 => ?_) (fun j39 hj39 => ?_)
  · exact x_iret rfl dX11_byteOf_39
  refine x_jn (σ := Unit) 20 (fun s5 => [none, none, none, none]) (fun s5 => []) (fun s5 => M1) (fun s5 => ?_) (fun j20 hj20 => ?_)
  · refine x_iconst (v := -1) dX11_byteOf_20 (by decide) ?_
    refine x_goto (tgt := 39) dX11_byteOf_21 (by decide) ?_
    exact x_weak (by exact trivial) (hj39 ((-1 : Int32)))
  refine x_if_lt (tgt := 20) dX11_byteOf_12 (by decide) (fun _ => ?_) (fun _ => ?_)
  · exact x_weak (by exact trivial) (hj20 ())
  · refine x_iload_n dX11_byteOf_15 rfl ?_
    refine x_iload_n dX11_byteOf_16 rfl ?_
    refine x_icmp_lt (tgt := 24) dX11_byteOf_17 (by decide) (fun _ => ?_) (fun _ => ?_)
    · refine x_lload_n dX11_byteOf_24 rfl ?_
      refine x_bipush (v := 8) dX11_byteOf_25 (by decide) ?_
      refine x_iload_n dX11_byteOf_27 rfl ?_
      refine x_iconst (v := 1) dX11_byteOf_28 (by decide) ?_
      refine x_isub dX11_byteOf_29 ?_
      refine x_iload_n dX11_byteOf_30 rfl ?_
      refine x_isub dX11_byteOf_31 ?_
      refine x_imul dX11_byteOf_32 ?_
      refine x_lushr dX11_byteOf_33 ?_
      refine x_l2i dX11_byteOf_34 ?_
      refine x_sipush (v := 255) dX11_byteOf_35 (by decide) ?_
      refine x_iand dX11_byteOf_38 ?_
      exact x_weak (by exact trivial) (hj39 ((((Int64.toUInt64 a0 >>> ((Int32.toInt64 (((8 : Int32)) * ((x3 - ((1 : Int32))) - a1))).toUInt64 &&& Int64.toUInt64 63)).toInt64).toInt32) &&& ((255 : Int32))))
    · exact x_weak (by exact trivial) (hj20 ())
theorem s173 {l : Launch} {d : Nat} {rec : Nat → List Value → Mem → XA} (hS : Nonempty XS) (hs : XSnd l xmt rec d) : Snd1 l 173 (b173 rec) d := by
  intro as M r M' h0
  unfold b173 at h0
  obtain ⟨a0, l1, e1, h1⟩ := aL_inv h0
  obtain ⟨a1, l2, e2, h2⟩ := aI_inv h1
  obtain ⟨ez, h⟩ := aZ_inv h2
  subst ez
  subst e2
  subst e1
  exact xmet (M := M) (as := [.long a0, .int a1]) (lo := [some (.long a0), none, some (.int a1)]) 173 xq173 xm173 (by rw [xargs_l, xargs_i, xargs_nil]; exact ⟨rfl, ⟨rfl, trivial⟩⟩) (by rw [xargs_l, xargs_i, xargs_nil]; exact Nat.le_of_ble_eq_true rfl) (fun S G K => x_weak (by exact ⟨rfl, ⟨rfl, trivial⟩⟩) (k173 hs a0 a1 M)) h hS
set_option maxRecDepth 100000 in
def c174 (rec : Nat → List Value → Mem → XA) (a0 : Option Nat) (a1 : Option Nat) (a2 : Option Nat) (a3 : Int32) (a4 : Int32) (a5 : Option Nat) (M0 : Mem) : XA :=
  gtP (12, 19) M0 a0 2 fun x1 =>
  vC (4, 22) M0 x1 <|
  cV (rec 23 [va_rf x1] M0) fun M2 =>
  gtP (12, 19) M2 a0 2 fun x3 =>
  gtP (4, 22) M2 x3 0 fun x4 =>
  lp (fun (s5 : Int32 × Mem) j19 =>
    jn (fun (s6 : Mem) =>
      some (.null, s6)) fun j138 =>
    if a3 ≤ s5.1 then (
      j138 s5.2) else (
      gtP (12, 19) s5.2 a0 2 fun x7 =>
      vC (4, 22) s5.2 x7 <|
      cI (rec 22 [va_rf x7] s5.2) fun x9 M8 =>
      if x9 = 0 then (
        alI 100 M8 a2 s5.1 fun x10 =>
        gtP (6, 18) M8 a1 3 fun x11 =>
        cP (rec 168 [va_rf x11, .int x10] M8) fun x13 M12 =>
        jn (fun (s14 : Mem) =>
          lt (s5.1 + (1 : Int32)) fun (x15 : Int32) =>
          j19 (x15, s14)) fun j132 =>
        if x13 = none then (
          j132 M12) else (
          if s5.1 = a4 then (
            j132 M12) else (
            gtP (12, 19) M12 a0 2 fun x16 =>
            ptI (4, 22) M12 x16 5 (s5.1 + ((1 : Int32))) fun M17 =>
            gtP (12, 19) M17 a0 2 fun x18 =>
            vC (4, 22) M17 x18 <|
            cV (rec 25 [va_rf x18, va_rf x13] M17) fun M19 =>
            alP 113 M19 a5 ((0 : Int32)) fun x20 =>
            gtI (5, 5) M19 x4 0 fun x21 =>
            asI 100 M19 x20 x10 x21 fun M22 =>
            alP 113 M22 a5 ((1 : Int32)) fun x23 =>
            gtI (5, 5) M22 x4 1 fun x24 =>
            asI 100 M22 x23 x10 x24 fun M25 =>
            alP 113 M25 a5 ((2 : Int32)) fun x26 =>
            gtI (5, 5) M25 x4 2 fun x27 =>
            asI 100 M25 x26 x10 x27 fun M28 =>
            alP 113 M28 a5 ((3 : Int32)) fun x29 =>
            gtI (5, 5) M28 x4 3 fun x30 =>
            asI 100 M28 x29 x10 x30 fun M31 =>
            j132 M31))) else (
        j138 M8))) 4294967296 ((0 : Int32), M2)
def b174 (rec : Nat → List Value → Mem → XA) (as : List Value) (M0 : Mem) : XA := aR as fun a0 as => aR as fun a1 as => aR as fun a2 as => aI as fun a3 as => aI as fun a4 as => aR as fun a5 as => aZ as (c174 rec a0 a1 a2 a3 a4 a5 M0)
set_option maxRecDepth 100000 in
set_option maxHeartbeats 4000000 in
theorem k174 {S : XS} {G : XG} {K : Nat × Nat} {l : Launch} {d : Nat} {rec : Nat → List Value → Mem → XA} (hs : XSnd l xmt rec d) (a0 : Option Nat) (a1 : Option Nat) (a2 : Option Nat) (a3 : Int32) (a4 : Int32) (a5 : Option Nat) (M0 : Mem) : Xe S G K l (yX11_runCases, cX11_runCases, 10, none) d 0 [some (va_rf a0), some (va_rf a1), some (va_rf a2), some (.int a3), some (.int a4), some (va_rf a5), none, none, none, none] [] M0 (c174 rec a0 a1 a2 a3 a4 a5 M0) := by
  unfold c174
  refine x_aload_n dX11_runCases_0 rfl ?_
  refine gfX11_26 rfl dX11_runCases_1 (fun x1 => ?_)
  refine cmX11_364 rfl hs (Nat.le_of_ble_eq_true rfl) dX11_runCases_4 (fun M2 => ?_)
  refine x_aload_n dX11_runCases_7 rfl ?_
  refine gfX11_26 rfl dX11_runCases_8 (fun x3 => ?_)
  refine gfX11_371 rfl dX11_runCases_11 (fun x4 => ?_)
  refine x_astore (lo' := [some (va_rf a0), some (va_rf a1), some (va_rf a2), some (.int a3), some (.int a4), some (va_rf a5), some (va_rf x4), none, none, none]) dX11_runCases_14 (by decide) (xok_r rfl) rfl ?_
  refine x_iconst (v := 0) dX11_runCases_16 (by decide) ?_
  refine x_istore (lo' := [some (va_rf a0), some (va_rf a1), some (va_rf a2), some (.int a3), some (.int a4), some (va_rf a5), some (va_rf x4), some (.int ((0 : Int32))), none, none]) dX11_runCases_17 (by decide) (xok_r rfl) rfl ?_
  refine x_weak (by exact ⟨rfl, ⟨rfl, ⟨rfl, ⟨rfl, ⟨rfl, ⟨rfl, ⟨rfl, ⟨rfl, trivial⟩⟩⟩⟩⟩⟩⟩⟩) (x_lp (σ := Int32 × Mem) 19 (fun s5 => [some (va_rf a0), some (va_rf a1), some (va_rf a2), some (.int a3), some (.int a4), some (va_rf a5), some (va_rf x4), some (.int s5.1), none, none]) (fun s5 => []) (fun s5 => s5.2) (fun s5 j19 hj19 => ?_) 4294967296 ((0 : Int32), M2))
  · refine x_iload dX11_runCases_19 rfl ?_
    refine x_iload_n dX11_runCases_21 rfl ?_
    refine x_jn (σ := Mem) 138 (fun s6 => [none, none, none, none, none, none, none, none, none, none]) (fun s6 => []) (fun s6 => s6) (fun s6 => ?_) (fun j138 hj138 => ?_)
    · exact x_vret rfl dX11_runCases_138
    refine x_icmp_ge (tgt := 138) dX11_runCases_22 (by decide) (fun _ => ?_) (fun _ => ?_)
    · exact x_weak (by exact trivial) (hj138 s5.2)
    · refine x_aload_n dX11_runCases_25 rfl ?_
      refine gfX11_26 rfl dX11_runCases_26 (fun x7 => ?_)
      refine cmX11_294 rfl hs (Nat.le_of_ble_eq_true rfl) dX11_runCases_29 (fun x9 M8 => ?_)
      refine x_if_ne (tgt := 138) dX11_runCases_32 (by decide) (fun _ => ?_) (fun _ => ?_)
      · refine x_aload_n dX11_runCases_35 rfl ?_
        refine x_iload dX11_runCases_36 rfl ?_
        refine x_iald dX11_runCases_38 (fun x10 => ?_)
        refine x_istore (lo' := [some (va_rf a0), some (va_rf a1), some (va_rf a2), some (.int a3), some (.int a4), some (va_rf a5), some (va_rf x4), some (.int s5.1), some (.int x10), none]) dX11_runCases_39 (by decide) rfl rfl ?_
        refine x_aload_n dX11_runCases_41 rfl ?_
        refine gfX11_121 rfl dX11_runCases_42 (fun x11 => ?_)
        refine x_iload dX11_runCases_45 rfl ?_
        refine cmX11_130 rfl hs (Nat.le_of_ble_eq_true rfl) dX11_runCases_47 (fun x13 M12 => ?_)
        refine x_astore (lo' := [some (va_rf a0), some (va_rf a1), some (va_rf a2), some (.int a3), some (.int a4), some (va_rf a5), some (va_rf x4), some (.int s5.1), some (.int x10), some (va_rf x13)]) dX11_runCases_50 (by decide) rfl rfl ?_
        refine x_aload dX11_runCases_52 rfl ?_
        refine x_jn (σ := Mem) 132 (fun s14 => [some (va_rf a0), some (va_rf a1), some (va_rf a2), some (.int a3), some (.int a4), some (va_rf a5), some (va_rf x4), some (.int s5.1), none, none]) (fun s14 => []) (fun s14 => s14) (fun s14 => ?_) (fun j132 hj132 => ?_)
        · refine x_iincN (v := 1) (lo' := fun x15 => [some (va_rf a0), some (va_rf a1), some (va_rf a2), some (.int a3), some (.int a4), some (va_rf a5), some (va_rf x4), some (.int x15), none, none]) (by decide) dX11_runCases_132 rfl (by decide) (xok_r rfl) (fun _ => rfl) (fun x15 => ?_)
          refine x_goto (tgt := 19) dX11_runCases_135 (by decide) ?_
          exact x_weak (by exact ⟨rfl, ⟨rfl, ⟨rfl, ⟨rfl, ⟨rfl, ⟨rfl, ⟨rfl, ⟨rfl, trivial⟩⟩⟩⟩⟩⟩⟩⟩) (hj19 (x15, s14))
        refine x_ifnull (tgt := 132) dX11_runCases_54 (by decide) (fun _ => ?_) (fun _ => ?_)
        · exact x_weak (by exact ⟨rfl, ⟨rfl, ⟨rfl, ⟨rfl, ⟨rfl, ⟨rfl, ⟨rfl, ⟨rfl, trivial⟩⟩⟩⟩⟩⟩⟩⟩) (hj132 M12)
        · refine x_iload dX11_runCases_57 rfl ?_
          refine x_iload dX11_runCases_59 rfl ?_
          refine x_icmp_eq (tgt := 132) dX11_runCases_61 (by decide) (fun _ => ?_) (fun _ => ?_)
          · exact x_weak (by exact ⟨rfl, ⟨rfl, ⟨rfl, ⟨rfl, ⟨rfl, ⟨rfl, ⟨rfl, ⟨rfl, trivial⟩⟩⟩⟩⟩⟩⟩⟩) (hj132 M12)
          · refine x_aload_n dX11_runCases_64 rfl ?_
            refine gfX11_26 rfl dX11_runCases_65 (fun x16 => ?_)
            refine x_iload dX11_runCases_68 rfl ?_
            refine x_iconst (v := 1) dX11_runCases_70 (by decide) ?_
            refine x_iadd dX11_runCases_71 ?_
            refine pfX11_438 rfl dX11_runCases_72 (fun M17 => ?_)
            refine x_aload_n dX11_runCases_75 rfl ?_
            refine gfX11_26 rfl dX11_runCases_76 (fun x18 => ?_)
            refine x_aload dX11_runCases_79 rfl ?_
            refine cmX11_367 rfl hs (Nat.le_of_ble_eq_true rfl) dX11_runCases_81 (fun M19 => ?_)
            refine x_aload dX11_runCases_84 rfl ?_
            refine x_iconst (v := 0) dX11_runCases_86 (by decide) ?_
            refine x_aldg (t := 113) (tn := 8) (by decide) (by decide) rfl rfl dX11_runCases_87 (fun x20 => ?_)
            refine x_iload dX11_runCases_88 rfl ?_
            refine x_aload dX11_runCases_90 rfl ?_
            refine gfX11_374 rfl dX11_runCases_92 (fun x21 => ?_)
            refine x_iast dX11_runCases_95 (fun M22 => ?_)
            refine x_aload dX11_runCases_96 rfl ?_
            refine x_iconst (v := 1) dX11_runCases_98 (by decide) ?_
            refine x_aldg (t := 113) (tn := 8) (by decide) (by decide) rfl rfl dX11_runCases_99 (fun x23 => ?_)
            refine x_iload dX11_runCases_100 rfl ?_
            refine x_aload dX11_runCases_102 rfl ?_
            refine gfX11_223 rfl dX11_runCases_104 (fun x24 => ?_)
            refine x_iast dX11_runCases_107 (fun M25 => ?_)
            refine x_aload dX11_runCases_108 rfl ?_
            refine x_iconst (v := 2) dX11_runCases_110 (by decide) ?_
            refine x_aldg (t := 113) (tn := 8) (by decide) (by decide) rfl rfl dX11_runCases_111 (fun x26 => ?_)
            refine x_iload dX11_runCases_112 rfl ?_
            refine x_aload dX11_runCases_114 rfl ?_
            refine gfX11_226 rfl dX11_runCases_116 (fun x27 => ?_)
            refine x_iast dX11_runCases_119 (fun M28 => ?_)
            refine x_aload dX11_runCases_120 rfl ?_
            refine x_iconst (v := 3) dX11_runCases_122 (by decide) ?_
            refine x_aldg (t := 113) (tn := 8) (by decide) (by decide) rfl rfl dX11_runCases_123 (fun x29 => ?_)
            refine x_iload dX11_runCases_124 rfl ?_
            refine x_aload dX11_runCases_126 rfl ?_
            refine gfX11_229 rfl dX11_runCases_128 (fun x30 => ?_)
            refine x_iast dX11_runCases_131 (fun M31 => ?_)
            exact x_weak (by exact ⟨rfl, ⟨rfl, ⟨rfl, ⟨rfl, ⟨rfl, ⟨rfl, ⟨rfl, ⟨rfl, trivial⟩⟩⟩⟩⟩⟩⟩⟩) (hj132 M31)
      · exact x_weak (by exact trivial) (hj138 M8)
theorem s174 {l : Launch} {d : Nat} {rec : Nat → List Value → Mem → XA} (hS : Nonempty XS) (hs : XSnd l xmt rec d) : Snd1 l 174 (b174 rec) d := by
  intro as M r M' h0
  unfold b174 at h0
  obtain ⟨a0, l1, e1, h1⟩ := aR_inv h0
  obtain ⟨a1, l2, e2, h2⟩ := aR_inv h1
  obtain ⟨a2, l3, e3, h3⟩ := aR_inv h2
  obtain ⟨a3, l4, e4, h4⟩ := aI_inv h3
  obtain ⟨a4, l5, e5, h5⟩ := aI_inv h4
  obtain ⟨a5, l6, e6, h6⟩ := aR_inv h5
  obtain ⟨ez, h⟩ := aZ_inv h6
  subst ez
  subst e6
  subst e5
  subst e4
  subst e3
  subst e2
  subst e1
  exact xmet (M := M) (as := [va_rf a0, va_rf a1, va_rf a2, .int a3, .int a4, va_rf a5]) (lo := [some (va_rf a0), some (va_rf a1), some (va_rf a2), some (.int a3), some (.int a4), some (va_rf a5)]) 174 xq174 xm174 (by rw [xargs_rf, xargs_rf, xargs_rf, xargs_i, xargs_i, xargs_rf, xargs_nil]; exact ⟨rfl, ⟨rfl, ⟨rfl, ⟨rfl, ⟨rfl, ⟨rfl, trivial⟩⟩⟩⟩⟩⟩) (by rw [xargs_rf, xargs_rf, xargs_rf, xargs_i, xargs_i, xargs_rf, xargs_nil]; exact Nat.le_of_ble_eq_true rfl) (fun S G K => x_weak (by exact ⟨rfl, ⟨rfl, ⟨rfl, ⟨rfl, ⟨rfl, ⟨rfl, trivial⟩⟩⟩⟩⟩⟩) (k174 hs a0 a1 a2 a3 a4 a5 M)) h hS
set_option maxRecDepth 100000 in
def c175 (rec : Nat → List Value → Mem → XA) (a0 : Option Nat) (a1 : Option Nat) (M0 : Mem) : XA :=
  gtP (12, 19) M0 a0 2 fun x1 =>
  vC (4, 22) M0 x1 <|
  cV (rec 21 [va_rf x1, .int ((1 : Int32))] M0) fun M2 =>
  gtP (12, 19) M2 a0 2 fun x3 =>
  vC (4, 22) M2 x3 <|
  cV (rec 23 [va_rf x3] M2) fun M4 =>
  gtP (12, 19) M4 a0 2 fun x5 =>
  vC (4, 22) M4 x5 <|
  cV (rec 25 [va_rf x5, va_rf a1] M4) fun M6 =>
  gtP (12, 19) M6 a0 6 fun x7 =>
  gtP (12, 19) M6 a0 2 fun x8 =>
  gtP (4, 22) M6 x8 0 fun x9 =>
  vC (5, 5) M6 x7 <|
  cV (rec 49 [va_rf x7, va_rf x9] M6) fun M10 =>
  ptZ (12, 19) M10 a0 7 ((1 : Int32)) fun M11 =>
  gtP (12, 19) M11 a0 6 fun x12 =>
  gtI (5, 5) M11 x12 0 fun x13 =>
  some (.int x13, M11)
def b175 (rec : Nat → List Value → Mem → XA) (as : List Value) (M0 : Mem) : XA := aR as fun a0 as => aR as fun a1 as => aZ as (c175 rec a0 a1 M0)
set_option maxRecDepth 100000 in
set_option maxHeartbeats 4000000 in
theorem k175 {S : XS} {G : XG} {K : Nat × Nat} {l : Launch} {d : Nat} {rec : Nat → List Value → Mem → XA} (hs : XSnd l xmt rec d) (a0 : Option Nat) (a1 : Option Nat) (M0 : Mem) : Xe S G K l (yX11_liveWatched, cX11_liveWatched, 2, some .int) d 0 [some (va_rf a0), some (va_rf a1)] [] M0 (c175 rec a0 a1 M0) := by
  unfold c175
  refine x_aload_n dX11_liveWatched_0 rfl ?_
  refine gfX11_26 rfl dX11_liveWatched_1 (fun x1 => ?_)
  refine x_iconst (v := 1) dX11_liveWatched_4 (by decide) ?_
  refine cmX11_197 rfl hs (Nat.le_of_ble_eq_true rfl) dX11_liveWatched_5 (fun M2 => ?_)
  refine x_aload_n dX11_liveWatched_8 rfl ?_
  refine gfX11_26 rfl dX11_liveWatched_9 (fun x3 => ?_)
  refine cmX11_364 rfl hs (Nat.le_of_ble_eq_true rfl) dX11_liveWatched_12 (fun M4 => ?_)
  refine x_aload_n dX11_liveWatched_15 rfl ?_
  refine gfX11_26 rfl dX11_liveWatched_16 (fun x5 => ?_)
  refine x_aload_n dX11_liveWatched_19 rfl ?_
  refine cmX11_367 rfl hs (Nat.le_of_ble_eq_true rfl) dX11_liveWatched_20 (fun M6 => ?_)
  refine x_aload_n dX11_liveWatched_23 rfl ?_
  refine gfX11_39 rfl dX11_liveWatched_24 (fun x7 => ?_)
  refine x_aload_n dX11_liveWatched_27 rfl ?_
  refine gfX11_26 rfl dX11_liveWatched_28 (fun x8 => ?_)
  refine gfX11_371 rfl dX11_liveWatched_31 (fun x9 => ?_)
  refine cmX11_441 rfl hs (Nat.le_of_ble_eq_true rfl) dX11_liveWatched_34 (fun M10 => ?_)
  refine x_aload_n dX11_liveWatched_37 rfl ?_
  refine x_iconst (v := 1) dX11_liveWatched_38 (by decide) ?_
  refine pfX11_220 rfl dX11_liveWatched_39 (fun M11 => ?_)
  refine x_aload_n dX11_liveWatched_42 rfl ?_
  refine gfX11_39 rfl dX11_liveWatched_43 (fun x12 => ?_)
  refine gfX11_374 rfl dX11_liveWatched_46 (fun x13 => ?_)
  exact x_iret rfl dX11_liveWatched_49
theorem s175 {l : Launch} {d : Nat} {rec : Nat → List Value → Mem → XA} (hS : Nonempty XS) (hs : XSnd l xmt rec d) : Snd1 l 175 (b175 rec) d := by
  intro as M r M' h0
  unfold b175 at h0
  obtain ⟨a0, l1, e1, h1⟩ := aR_inv h0
  obtain ⟨a1, l2, e2, h2⟩ := aR_inv h1
  obtain ⟨ez, h⟩ := aZ_inv h2
  subst ez
  subst e2
  subst e1
  exact xmet (M := M) (as := [va_rf a0, va_rf a1]) (lo := [some (va_rf a0), some (va_rf a1)]) 175 xq175 xm175 (by rw [xargs_rf, xargs_rf, xargs_nil]; exact ⟨rfl, ⟨rfl, trivial⟩⟩) (by rw [xargs_rf, xargs_rf, xargs_nil]; exact Nat.le_of_ble_eq_true rfl) (fun S G K => x_weak (by exact ⟨rfl, ⟨rfl, trivial⟩⟩) (k175 hs a0 a1 M)) h hS
set_option maxRecDepth 100000 in
def c176 (rec : Nat → List Value → Mem → XA) (a0 : Option Nat) (a1 : Int32) (M0 : Mem) : XA :=
  lp (fun (s1 : Int32 × Int32) j4 =>
    if a1 ≤ s1.2 then (
      some (.int s1.1, M0)) else (
      gtP (12, 19) M0 a0 17 fun x2 =>
      alP 113 M0 x2 ((0 : Int32)) fun x3 =>
      alI 100 M0 x3 s1.2 fun x4 =>
      gtP (12, 19) M0 a0 18 fun x5 =>
      alP 113 M0 x5 ((0 : Int32)) fun x6 =>
      alI 100 M0 x6 s1.2 fun x7 =>
      jn (fun (s8 : Int32) =>
        lt (s1.2 + (1 : Int32)) fun (x9 : Int32) =>
        j4 (s8, x9)) fun j53 =>
      jn (fun (s10 : Unit) =>
        lt (s1.1 ||| (((1 : Int32)) <<< (s1.2 &&& 31))) fun (x11 : Int32) =>
        j53 x11) fun j47 =>
      if x4 = x7 then (
        gtP (12, 19) M0 a0 17 fun x12 =>
        alP 113 M0 x12 ((1 : Int32)) fun x13 =>
        alI 100 M0 x13 s1.2 fun x14 =>
        gtP (12, 19) M0 a0 18 fun x15 =>
        alP 113 M0 x15 ((1 : Int32)) fun x16 =>
        alI 100 M0 x16 s1.2 fun x17 =>
        if x14 = x17 then (
          j53 s1.1) else (
          j47 ())) else (
        j47 ()))) 4294967296 ((0 : Int32), (0 : Int32))
def b176 (rec : Nat → List Value → Mem → XA) (as : List Value) (M0 : Mem) : XA := aR as fun a0 as => aI as fun a1 as => aZ as (c176 rec a0 a1 M0)
set_option maxRecDepth 100000 in
set_option maxHeartbeats 4000000 in
theorem k176 {S : XS} {G : XG} {K : Nat × Nat} {l : Launch} {d : Nat} {rec : Nat → List Value → Mem → XA} (hs : XSnd l xmt rec d) (a0 : Option Nat) (a1 : Int32) (M0 : Mem) : Xe S G K l (yX11_casesThatDiffer, cX11_casesThatDiffer, 4, some .int) d 0 [some (va_rf a0), some (.int a1), none, none] [] M0 (c176 rec a0 a1 M0) := by
  unfold c176
  refine x_iconst (v := 0) dX11_casesThatDiffer_0 (by decide) ?_
  refine x_istore_n (lo' := [some (va_rf a0), some (.int a1), some (.int ((0 : Int32))), none]) dX11_casesThatDiffer_1 (by decide) rfl rfl ?_
  refine x_iconst (v := 0) dX11_casesThatDiffer_2 (by decide) ?_
  refine x_istore_n (lo' := [some (va_rf a0), some (.int a1), some (.int ((0 : Int32))), some (.int ((0 : Int32)))]) dX11_casesThatDiffer_3 (by decide) rfl rfl ?_
  refine x_weak (by exact ⟨rfl, ⟨rfl, ⟨rfl, ⟨rfl, trivial⟩⟩⟩⟩) (x_lp (σ := Int32 × Int32) 4 (fun s1 => [some (va_rf a0), some (.int a1), some (.int s1.1), some (.int s1.2)]) (fun s1 => []) (fun s1 => M0) (fun s1 j4 hj4 => ?_) 4294967296 ((0 : Int32), (0 : Int32)))
  · refine x_iload_n dX11_casesThatDiffer_4 rfl ?_
    refine x_iload_n dX11_casesThatDiffer_5 rfl ?_
    refine x_icmp_ge (tgt := 59) dX11_casesThatDiffer_6 (by decide) (fun _ => ?_) (fun _ => ?_)
    · refine x_iload_n dX11_casesThatDiffer_59 rfl ?_
      exact x_iret rfl dX11_casesThatDiffer_60
    · refine x_aload_n dX11_casesThatDiffer_9 rfl ?_
      refine gfX11_69 rfl dX11_casesThatDiffer_10 (fun x2 => ?_)
      refine x_iconst (v := 0) dX11_casesThatDiffer_13 (by decide) ?_
      refine x_aldg (t := 113) (tn := 8) (by decide) (by decide) rfl rfl dX11_casesThatDiffer_14 (fun x3 => ?_)
      refine x_iload_n dX11_casesThatDiffer_15 rfl ?_
      refine x_iald dX11_casesThatDiffer_16 (fun x4 => ?_)
      refine x_aload_n dX11_casesThatDiffer_17 rfl ?_
      refine gfX11_72 rfl dX11_casesThatDiffer_18 (fun x5 => ?_)
      refine x_iconst (v := 0) dX11_casesThatDiffer_21 (by decide) ?_
      refine x_aldg (t := 113) (tn := 8) (by decide) (by decide) rfl rfl dX11_casesThatDiffer_22 (fun x6 => ?_)
      refine x_iload_n dX11_casesThatDiffer_23 rfl ?_
      refine x_iald dX11_casesThatDiffer_24 (fun x7 => ?_)
      refine x_jn (σ := Int32) 53 (fun s8 => [some (va_rf a0), some (.int a1), some (.int s8), some (.int s1.2)]) (fun s8 => []) (fun s8 => M0) (fun s8 => ?_) (fun j53 hj53 => ?_)
      · refine x_iincN (v := 1) (lo' := fun x9 => [some (va_rf a0), some (.int a1), some (.int s8), some (.int x9)]) (by decide) dX11_casesThatDiffer_53 rfl (by decide) rfl (fun _ => rfl) (fun x9 => ?_)
        refine x_goto (tgt := 4) dX11_casesThatDiffer_56 (by decide) ?_
        exact x_weak (by exact ⟨rfl, ⟨rfl, ⟨rfl, ⟨rfl, trivial⟩⟩⟩⟩) (hj4 (s8, x9))
      refine x_jn (σ := Unit) 47 (fun s10 => [some (va_rf a0), some (.int a1), some (.int s1.1), some (.int s1.2)]) (fun s10 => []) (fun s10 => M0) (fun s10 => ?_) (fun j47 hj47 => ?_)
      · refine x_iload_n dX11_casesThatDiffer_47 rfl ?_
        refine x_iconst (v := 1) dX11_casesThatDiffer_48 (by decide) ?_
        refine x_iload_n dX11_casesThatDiffer_49 rfl ?_
        refine x_ishl dX11_casesThatDiffer_50 ?_
        refine x_ior dX11_casesThatDiffer_51 ?_
        refine x_ltI (fun x11 => ?_)
        refine x_istore_n (lo' := [some (va_rf a0), some (.int a1), some (.int x11), some (.int s1.2)]) dX11_casesThatDiffer_52 (by decide) rfl rfl ?_
        exact x_weak (by exact ⟨rfl, ⟨rfl, ⟨rfl, ⟨rfl, trivial⟩⟩⟩⟩) (hj53 x11)
      refine x_icmp_ne (tgt := 47) dX11_casesThatDiffer_25 (by decide) (fun _ => ?_) (fun _ => ?_)
      · refine x_aload_n dX11_casesThatDiffer_28 rfl ?_
        refine gfX11_69 rfl dX11_casesThatDiffer_29 (fun x12 => ?_)
        refine x_iconst (v := 1) dX11_casesThatDiffer_32 (by decide) ?_
        refine x_aldg (t := 113) (tn := 8) (by decide) (by decide) rfl rfl dX11_casesThatDiffer_33 (fun x13 => ?_)
        refine x_iload_n dX11_casesThatDiffer_34 rfl ?_
        refine x_iald dX11_casesThatDiffer_35 (fun x14 => ?_)
        refine x_aload_n dX11_casesThatDiffer_36 rfl ?_
        refine gfX11_72 rfl dX11_casesThatDiffer_37 (fun x15 => ?_)
        refine x_iconst (v := 1) dX11_casesThatDiffer_40 (by decide) ?_
        refine x_aldg (t := 113) (tn := 8) (by decide) (by decide) rfl rfl dX11_casesThatDiffer_41 (fun x16 => ?_)
        refine x_iload_n dX11_casesThatDiffer_42 rfl ?_
        refine x_iald dX11_casesThatDiffer_43 (fun x17 => ?_)
        refine x_icmp_eq (tgt := 53) dX11_casesThatDiffer_44 (by decide) (fun _ => ?_) (fun _ => ?_)
        · exact x_weak (by exact ⟨rfl, ⟨rfl, ⟨rfl, ⟨rfl, trivial⟩⟩⟩⟩) (hj53 s1.1)
        · exact x_weak (by exact ⟨rfl, ⟨rfl, ⟨rfl, ⟨rfl, trivial⟩⟩⟩⟩) (hj47 ())
      · exact x_weak (by exact ⟨rfl, ⟨rfl, ⟨rfl, ⟨rfl, trivial⟩⟩⟩⟩) (hj47 ())
theorem s176 {l : Launch} {d : Nat} {rec : Nat → List Value → Mem → XA} (hS : Nonempty XS) (hs : XSnd l xmt rec d) : Snd1 l 176 (b176 rec) d := by
  intro as M r M' h0
  unfold b176 at h0
  obtain ⟨a0, l1, e1, h1⟩ := aR_inv h0
  obtain ⟨a1, l2, e2, h2⟩ := aI_inv h1
  obtain ⟨ez, h⟩ := aZ_inv h2
  subst ez
  subst e2
  subst e1
  exact xmet (M := M) (as := [va_rf a0, .int a1]) (lo := [some (va_rf a0), some (.int a1)]) 176 xq176 xm176 (by rw [xargs_rf, xargs_i, xargs_nil]; exact ⟨rfl, ⟨rfl, trivial⟩⟩) (by rw [xargs_rf, xargs_i, xargs_nil]; exact Nat.le_of_ble_eq_true rfl) (fun S G K => x_weak (by exact ⟨rfl, ⟨rfl, trivial⟩⟩) (k176 hs a0 a1 M)) h hS
set_option maxRecDepth 100000 in
def c177 (rec : Nat → List Value → Mem → XA) (a0 : Int32) (a1 : Int32) (M0 : Mem) : XA :=
  lp (fun (s1 : Int32 × Int32) j4 =>
    if ((16 : Int32)) ≤ s1.2 then (
      some (.int ((-1 : Int32)), M0)) else (
      jn (fun (s2 : Int32) =>
        lt (s1.2 + (1 : Int32)) fun (x3 : Int32) =>
        j4 (s2, x3)) fun j29 =>
      if ((a0 >>> (s1.2 &&& 31)) &&& ((1 : Int32))) = ((1 : Int32)) then (
        if s1.1 = a1 then (
          some (.int s1.2, M0)) else (
          lt (s1.1 + (1 : Int32)) fun (x4 : Int32) =>
          j29 x4)) else (
        j29 s1.1))) 4294967296 ((0 : Int32), (0 : Int32))
def b177 (rec : Nat → List Value → Mem → XA) (as : List Value) (M0 : Mem) : XA := aI as fun a0 as => aI as fun a1 as => aZ as (c177 rec a0 a1 M0)
set_option maxRecDepth 100000 in
set_option maxHeartbeats 4000000 in
theorem k177 {S : XS} {G : XG} {K : Nat × Nat} {l : Launch} {d : Nat} {rec : Nat → List Value → Mem → XA} (hs : XSnd l xmt rec d) (a0 : Int32) (a1 : Int32) (M0 : Mem) : Xe S G K l (yX11_caseOfSuite, cX11_caseOfSuite, 4, some .int) d 0 [some (.int a0), some (.int a1), none, none] [] M0 (c177 rec a0 a1 M0) := by
  unfold c177
  refine x_iconst (v := 0) dX11_caseOfSuite_0 (by decide) ?_
  refine x_istore_n (lo' := [some (.int a0), some (.int a1), some (.int ((0 : Int32))), none]) dX11_caseOfSuite_1 (by decide) rfl rfl ?_
  refine x_iconst (v := 0) dX11_caseOfSuite_2 (by decide) ?_
  refine x_istore_n (lo' := [some (.int a0), some (.int a1), some (.int ((0 : Int32))), some (.int ((0 : Int32)))]) dX11_caseOfSuite_3 (by decide) rfl rfl ?_
  refine x_weak (by exact ⟨rfl, ⟨rfl, ⟨rfl, ⟨rfl, trivial⟩⟩⟩⟩) (x_lp (σ := Int32 × Int32) 4 (fun s1 => [some (.int a0), some (.int a1), some (.int s1.1), some (.int s1.2)]) (fun s1 => []) (fun s1 => M0) (fun s1 j4 hj4 => ?_) 4294967296 ((0 : Int32), (0 : Int32)))
  · refine x_iload_n dX11_caseOfSuite_4 rfl ?_
    refine x_bipush (v := 16) dX11_caseOfSuite_5 (by decide) ?_
    refine x_icmp_ge (tgt := 35) dX11_caseOfSuite_7 (by decide) (fun _ => ?_) (fun _ => ?_)
    · refine x_iconst (v := -1) dX11_caseOfSuite_35 (by decide) ?_
      exact x_iret rfl dX11_caseOfSuite_36
    · refine x_iload_n dX11_caseOfSuite_10 rfl ?_
      refine x_iload_n dX11_caseOfSuite_11 rfl ?_
      refine x_ishr dX11_caseOfSuite_12 ?_
      refine x_iconst (v := 1) dX11_caseOfSuite_13 (by decide) ?_
      refine x_iand dX11_caseOfSuite_14 ?_
      refine x_iconst (v := 1) dX11_caseOfSuite_15 (by decide) ?_
      refine x_jn (σ := Int32) 29 (fun s2 => [some (.int a0), some (.int a1), some (.int s2), some (.int s1.2)]) (fun s2 => []) (fun s2 => M0) (fun s2 => ?_) (fun j29 hj29 => ?_)
      · refine x_iincN (v := 1) (lo' := fun x3 => [some (.int a0), some (.int a1), some (.int s2), some (.int x3)]) (by decide) dX11_caseOfSuite_29 rfl (by decide) rfl (fun _ => rfl) (fun x3 => ?_)
        refine x_goto (tgt := 4) dX11_caseOfSuite_32 (by decide) ?_
        exact x_weak (by exact ⟨rfl, ⟨rfl, ⟨rfl, ⟨rfl, trivial⟩⟩⟩⟩) (hj4 (s2, x3))
      refine x_icmp_ne (tgt := 29) dX11_caseOfSuite_16 (by decide) (fun _ => ?_) (fun _ => ?_)
      · refine x_iload_n dX11_caseOfSuite_19 rfl ?_
        refine x_iload_n dX11_caseOfSuite_20 rfl ?_
        refine x_icmp_ne (tgt := 26) dX11_caseOfSuite_21 (by decide) (fun _ => ?_) (fun _ => ?_)
        · refine x_iload_n dX11_caseOfSuite_24 rfl ?_
          exact x_iret rfl dX11_caseOfSuite_25
        · refine x_iincN (v := 1) (lo' := fun x4 => [some (.int a0), some (.int a1), some (.int x4), some (.int s1.2)]) (by decide) dX11_caseOfSuite_26 rfl (by decide) rfl (fun _ => rfl) (fun x4 => ?_)
          exact x_weak (by exact ⟨rfl, ⟨rfl, ⟨rfl, ⟨rfl, trivial⟩⟩⟩⟩) (hj29 x4)
      · exact x_weak (by exact ⟨rfl, ⟨rfl, ⟨rfl, ⟨rfl, trivial⟩⟩⟩⟩) (hj29 s1.1)
theorem s177 {l : Launch} {d : Nat} {rec : Nat → List Value → Mem → XA} (hS : Nonempty XS) (hs : XSnd l xmt rec d) : Snd1 l 177 (b177 rec) d := by
  intro as M r M' h0
  unfold b177 at h0
  obtain ⟨a0, l1, e1, h1⟩ := aI_inv h0
  obtain ⟨a1, l2, e2, h2⟩ := aI_inv h1
  obtain ⟨ez, h⟩ := aZ_inv h2
  subst ez
  subst e2
  subst e1
  exact xmet (M := M) (as := [.int a0, .int a1]) (lo := [some (.int a0), some (.int a1)]) 177 xq177 xm177 (by rw [xargs_i, xargs_i, xargs_nil]; exact ⟨rfl, ⟨rfl, trivial⟩⟩) (by rw [xargs_i, xargs_i, xargs_nil]; exact Nat.le_of_ble_eq_true rfl) (fun S G K => x_weak (by exact ⟨rfl, ⟨rfl, trivial⟩⟩) (k177 hs a0 a1 M)) h hS
set_option maxRecDepth 100000 in
def c178 (rec : Nat → List Value → Mem → XA) (a0 : Option Nat) (a1 : Option Nat) (a2 : Int32) (M0 : Mem) : XA :=
  gtP (12, 19) M0 a0 2 fun x1 =>
  gtI (4, 22) M0 x1 2 fun x2 =>
  gtP (12, 19) M0 a0 11 fun x3 =>
  asI 100 M0 x3 ((4 : Int32)) (((0 : Int32))) fun M4 =>
  gtP (12, 19) M4 a0 11 fun x5 =>
  asI 100 M4 x5 ((5 : Int32)) (((0 : Int32))) fun M6 =>
  lp (fun (s7 : Int32 × Int32 × Int32 × Mem) j28 =>
    jn (fun (s8 : Mem) =>
      rtZ s7.2.1 s8) fun j133 =>
    if a2 ≤ s7.2.2.1 then (
      j133 s7.2.2.2) else (
      if s7.2.1 = 0 then (
        j133 s7.2.2.2) else (
        gtP (12, 19) s7.2.2.2 a0 2 fun x9 =>
        vC (4, 22) s7.2.2.2 x9 <|
        cI (rec 22 [va_rf x9] s7.2.2.2) fun x11 M10 =>
        if x11 = 0 then (
          lt (if ((60 : Int32)) < s7.2.2.1 then ((60 : Int32)) else s7.2.2.1) fun x12 =>
          lp (fun (s13 : Int32 × Int32 × Mem) j61 =>
            gtI (8, 9) s13.2.2 a1 4 fun x14 =>
            jn (fun (s15 : Unit) =>
              gtP (12, 19) s13.2.2 a0 2 fun x16 =>
              gtP (12, 19) s13.2.2 a0 11 fun x17 =>
              vC (4, 22) s13.2.2 x16 <|
              cI (rec 27 [va_rf x16, va_rf a1, va_rf x17] s13.2.2) fun x19 M18 =>
              lt (s7.2.2.1 + (1 : Int32)) fun (x20 : Int32) =>
              j28 (s13.1, x19, x20, M18)) fun j113 =>
            if x14 ≤ s13.2.1 then (
              j113 ()) else (
              if ((4 : Int32)) ≤ s13.2.1 then (
                j113 ()) else (
                lt ((s13.1 * ((1103515245 : Int32))) + ((12345 : Int32))) fun (x21 : Int32) =>
                gtP (12, 19) s13.2.2 a0 11 fun x22 =>
                if ((((2 : Int32)) * x12) + ((1 : Int32))) = 0 then none else
                asI 100 s13.2.2 x22 s13.2.1 (((xrem ((Int32.toUInt32 x21 >>> (Int32.toUInt32 ((16 : Int32)) &&& Int32.toUInt32 31)).toInt32) ((((2 : Int32)) * x12) + ((1 : Int32)))) - x12)) fun M23 =>
                lt (s13.2.1 + (1 : Int32)) fun (x24 : Int32) =>
                j61 (x21, x24, M23)))) 4294967296 (s7.1, (0 : Int32), M10)) else (
          j133 M10)))) 4294967296 (x2, (1 : Int32), (0 : Int32), M6)
def b178 (rec : Nat → List Value → Mem → XA) (as : List Value) (M0 : Mem) : XA := aR as fun a0 as => aR as fun a1 as => aI as fun a2 as => aZ as (c178 rec a0 a1 a2 M0)
set_option maxRecDepth 100000 in
set_option maxHeartbeats 4000000 in
theorem k178 {S : XS} {G : XG} {K : Nat × Nat} {l : Launch} {d : Nat} {rec : Nat → List Value → Mem → XA} (hs : XSnd l xmt rec d) (a0 : Option Nat) (a1 : Option Nat) (a2 : Int32) (M0 : Mem) : Xe S G K l (yX11_holdsOften, cX11_holdsOften, 8, some .boolean) d 0 [some (va_rf a0), some (va_rf a1), some (.int a2), none, none, none, none, none] [] M0 (c178 rec a0 a1 a2 M0) := by
  unfold c178
  refine x_aload_n dX11_holdsOften_0 rfl ?_
  refine gfX11_26 rfl dX11_holdsOften_1 (fun x1 => ?_)
  refine gfX11_186 rfl dX11_holdsOften_4 (fun x2 => ?_)
  refine x_istore_n (lo' := [some (va_rf a0), some (va_rf a1), some (.int a2), some (.int x2), none, none, none, none]) dX11_holdsOften_7 (by decide) rfl rfl ?_
  refine x_aload_n dX11_holdsOften_8 rfl ?_
  refine gfX11_50 rfl dX11_holdsOften_9 (fun x3 => ?_)
  refine x_iconst (v := 4) dX11_holdsOften_12 (by decide) ?_
  refine x_iconst (v := 0) dX11_holdsOften_13 (by decide) ?_
  refine x_iast dX11_holdsOften_14 (fun M4 => ?_)
  refine x_aload_n dX11_holdsOften_15 rfl ?_
  refine gfX11_50 rfl dX11_holdsOften_16 (fun x5 => ?_)
  refine x_iconst (v := 5) dX11_holdsOften_19 (by decide) ?_
  refine x_iconst (v := 0) dX11_holdsOften_20 (by decide) ?_
  refine x_iast dX11_holdsOften_21 (fun M6 => ?_)
  refine x_iconst (v := 1) dX11_holdsOften_22 (by decide) ?_
  refine x_istore (lo' := [some (va_rf a0), some (va_rf a1), some (.int a2), some (.int x2), some (.int ((1 : Int32))), none, none, none]) dX11_holdsOften_23 (by decide) rfl rfl ?_
  refine x_iconst (v := 0) dX11_holdsOften_25 (by decide) ?_
  refine x_istore (lo' := [some (va_rf a0), some (va_rf a1), some (.int a2), some (.int x2), some (.int ((1 : Int32))), some (.int ((0 : Int32))), none, none]) dX11_holdsOften_26 (by decide) rfl rfl ?_
  refine x_weak (by exact ⟨rfl, ⟨rfl, ⟨rfl, ⟨rfl, ⟨rfl, ⟨rfl, trivial⟩⟩⟩⟩⟩⟩) (x_lp (σ := Int32 × Int32 × Int32 × Mem) 28 (fun s7 => [some (va_rf a0), some (va_rf a1), some (.int a2), some (.int s7.1), some (.int s7.2.1), some (.int s7.2.2.1), none, none]) (fun s7 => []) (fun s7 => s7.2.2.2) (fun s7 j28 hj28 => ?_) 4294967296 (x2, (1 : Int32), (0 : Int32), M6))
  · refine x_iload dX11_holdsOften_28 rfl ?_
    refine x_iload_n dX11_holdsOften_30 rfl ?_
    refine x_jn (σ := Mem) 133 (fun s8 => [none, none, none, none, some (.int s7.2.1), none, none, none]) (fun s8 => []) (fun s8 => s8) (fun s8 => ?_) (fun j133 hj133 => ?_)
    · refine x_iload dX11_holdsOften_133 rfl ?_
      exact x_zret rfl dX11_holdsOften_135
    refine x_icmp_ge (tgt := 133) dX11_holdsOften_31 (by decide) (fun _ => ?_) (fun _ => ?_)
    · exact x_weak (by exact ⟨rfl, trivial⟩) (hj133 s7.2.2.2)
    · refine x_iload dX11_holdsOften_34 rfl ?_
      refine x_if_eq (tgt := 133) dX11_holdsOften_36 (by decide) (fun _ => ?_) (fun _ => ?_)
      · exact x_weak (by exact ⟨rfl, trivial⟩) (hj133 s7.2.2.2)
      · refine x_aload_n dX11_holdsOften_39 rfl ?_
        refine gfX11_26 rfl dX11_holdsOften_40 (fun x9 => ?_)
        refine cmX11_294 rfl hs (Nat.le_of_ble_eq_true rfl) dX11_holdsOften_43 (fun x11 M10 => ?_)
        refine x_if_ne (tgt := 133) dX11_holdsOften_46 (by decide) (fun _ => ?_) (fun _ => ?_)
        · refine x_iload dX11_holdsOften_49 rfl ?_
          refine x_bipush (v := 60) dX11_holdsOften_51 (by decide) ?_
          refine x_mmin lk_methodLink_X11_445 w_mmin1 w_mi w_mmin2 (Nat.le_of_ble_eq_true rfl) dX11_holdsOften_53 (fun x12 => ?_)
          refine x_istore (lo' := [some (va_rf a0), some (va_rf a1), some (.int a2), some (.int s7.1), some (.int s7.2.1), some (.int s7.2.2.1), some (.int x12), none]) dX11_holdsOften_56 (by decide) rfl rfl ?_
          refine x_iconst (v := 0) dX11_holdsOften_58 (by decide) ?_
          refine x_istore (lo' := [some (va_rf a0), some (va_rf a1), some (.int a2), some (.int s7.1), some (.int s7.2.1), some (.int s7.2.2.1), some (.int x12), some (.int ((0 : Int32)))]) dX11_holdsOften_59 (by decide) rfl rfl ?_
          refine x_weak (by exact ⟨rfl, ⟨rfl, ⟨rfl, ⟨rfl, ⟨rfl, ⟨rfl, ⟨rfl, trivial⟩⟩⟩⟩⟩⟩⟩) (x_lp (σ := Int32 × Int32 × Mem) 61 (fun s13 => [some (va_rf a0), some (va_rf a1), some (.int a2), some (.int s13.1), none, some (.int s7.2.2.1), some (.int x12), some (.int s13.2.1)]) (fun s13 => []) (fun s13 => s13.2.2) (fun s13 j61 hj61 => ?_) 4294967296 (s7.1, (0 : Int32), M10))
          · refine x_iload dX11_holdsOften_61 rfl ?_
            refine x_aload_n dX11_holdsOften_63 rfl ?_
            refine gfX11_146 rfl dX11_holdsOften_64 (fun x14 => ?_)
            refine x_jn (σ := Unit) 113 (fun s15 => [some (va_rf a0), some (va_rf a1), some (.int a2), some (.int s13.1), none, some (.int s7.2.2.1), none, none]) (fun s15 => []) (fun s15 => s13.2.2) (fun s15 => ?_) (fun j113 hj113 => ?_)
            · refine x_aload_n dX11_holdsOften_113 rfl ?_
              refine gfX11_26 rfl dX11_holdsOften_114 (fun x16 => ?_)
              refine x_aload_n dX11_holdsOften_117 rfl ?_
              refine x_aload_n dX11_holdsOften_118 rfl ?_
              refine gfX11_50 rfl dX11_holdsOften_119 (fun x17 => ?_)
              refine cmX11_451 rfl hs (Nat.le_of_ble_eq_true rfl) dX11_holdsOften_122 (fun x19 M18 => ?_)
              refine x_istore (lo' := [some (va_rf a0), some (va_rf a1), some (.int a2), some (.int s13.1), some (.int x19), some (.int s7.2.2.1), none, none]) dX11_holdsOften_125 (by decide) rfl rfl ?_
              refine x_iincN (v := 1) (lo' := fun x20 => [some (va_rf a0), some (va_rf a1), some (.int a2), some (.int s13.1), some (.int x19), some (.int x20), none, none]) (by decide) dX11_holdsOften_127 rfl (by decide) rfl (fun _ => rfl) (fun x20 => ?_)
              refine x_goto (tgt := 28) dX11_holdsOften_130 (by decide) ?_
              exact x_weak (by exact ⟨rfl, ⟨rfl, ⟨rfl, ⟨rfl, ⟨rfl, ⟨rfl, trivial⟩⟩⟩⟩⟩⟩) (hj28 (s13.1, x19, x20, M18))
            refine x_icmp_ge (tgt := 113) dX11_holdsOften_67 (by decide) (fun _ => ?_) (fun _ => ?_)
            · exact x_weak (by exact ⟨rfl, ⟨rfl, ⟨rfl, ⟨rfl, ⟨rfl, trivial⟩⟩⟩⟩⟩) (hj113 ())
            · refine x_iload dX11_holdsOften_70 rfl ?_
              refine x_iconst (v := 4) dX11_holdsOften_72 (by decide) ?_
              refine x_icmp_ge (tgt := 113) dX11_holdsOften_73 (by decide) (fun _ => ?_) (fun _ => ?_)
              · exact x_weak (by exact ⟨rfl, ⟨rfl, ⟨rfl, ⟨rfl, ⟨rfl, trivial⟩⟩⟩⟩⟩) (hj113 ())
              · refine x_iload_n dX11_holdsOften_76 rfl ?_
                refine x_ldcw (v := 1103515245) dX11_holdsOften_77 lk_constant_X11_450 ?_
                refine x_imul dX11_holdsOften_80 ?_
                refine x_sipush (v := 12345) dX11_holdsOften_81 (by decide) ?_
                refine x_iadd dX11_holdsOften_84 ?_
                refine x_ltI (fun x21 => ?_)
                refine x_istore_n (lo' := [some (va_rf a0), some (va_rf a1), some (.int a2), some (.int x21), none, some (.int s7.2.2.1), some (.int x12), some (.int s13.2.1)]) dX11_holdsOften_85 (by decide) rfl rfl ?_
                refine x_aload_n dX11_holdsOften_86 rfl ?_
                refine gfX11_50 rfl dX11_holdsOften_87 (fun x22 => ?_)
                refine x_iload dX11_holdsOften_90 rfl ?_
                refine x_iload_n dX11_holdsOften_92 rfl ?_
                refine x_bipush (v := 16) dX11_holdsOften_93 (by decide) ?_
                refine x_iushr dX11_holdsOften_95 ?_
                refine x_iconst (v := 2) dX11_holdsOften_96 (by decide) ?_
                refine x_iload dX11_holdsOften_97 rfl ?_
                refine x_imul dX11_holdsOften_99 ?_
                refine x_iconst (v := 1) dX11_holdsOften_100 (by decide) ?_
                refine x_iadd dX11_holdsOften_101 ?_
                refine x_irem dX11_holdsOften_102 (fun _ => ?_)
                refine x_iload dX11_holdsOften_103 rfl ?_
                refine x_isub dX11_holdsOften_105 ?_
                refine x_iast dX11_holdsOften_106 (fun M23 => ?_)
                refine x_iincN (v := 1) (lo' := fun x24 => [some (va_rf a0), some (va_rf a1), some (.int a2), some (.int x21), none, some (.int s7.2.2.1), some (.int x12), some (.int x24)]) (by decide) dX11_holdsOften_107 rfl (by decide) rfl (fun _ => rfl) (fun x24 => ?_)
                refine x_goto (tgt := 61) dX11_holdsOften_110 (by decide) ?_
                exact x_weak (by exact ⟨rfl, ⟨rfl, ⟨rfl, ⟨rfl, ⟨rfl, ⟨rfl, ⟨rfl, trivial⟩⟩⟩⟩⟩⟩⟩) (hj61 (x21, x24, M23))
        · exact x_weak (by exact ⟨rfl, trivial⟩) (hj133 M10)
theorem s178 {l : Launch} {d : Nat} {rec : Nat → List Value → Mem → XA} (hS : Nonempty XS) (hs : XSnd l xmt rec d) : Snd1 l 178 (b178 rec) d := by
  intro as M r M' h0
  unfold b178 at h0
  obtain ⟨a0, l1, e1, h1⟩ := aR_inv h0
  obtain ⟨a1, l2, e2, h2⟩ := aR_inv h1
  obtain ⟨a2, l3, e3, h3⟩ := aI_inv h2
  obtain ⟨ez, h⟩ := aZ_inv h3
  subst ez
  subst e3
  subst e2
  subst e1
  exact xmet (M := M) (as := [va_rf a0, va_rf a1, .int a2]) (lo := [some (va_rf a0), some (va_rf a1), some (.int a2)]) 178 xq178 xm178 (by rw [xargs_rf, xargs_rf, xargs_i, xargs_nil]; exact ⟨rfl, ⟨rfl, ⟨rfl, trivial⟩⟩⟩) (by rw [xargs_rf, xargs_rf, xargs_i, xargs_nil]; exact Nat.le_of_ble_eq_true rfl) (fun S G K => x_weak (by exact ⟨rfl, ⟨rfl, ⟨rfl, trivial⟩⟩⟩) (k178 hs a0 a1 a2 M)) h hS
set_option maxRecDepth 100000 in
def c179 (rec : Nat → List Value → Mem → XA) (a0 : Option Nat) (a1 : Option Nat) (M0 : Mem) : XA :=
  lp (fun (s1 : Int32 × Mem) j2 =>
    gtI (8, 9) s1.2 a1 4 fun x2 =>
    jn (fun (s3 : Unit) =>
      rtZ ((0 : Int32)) s1.2) fun j86 =>
    if x2 ≤ s1.1 then (
      j86 ()) else (
      if ((4 : Int32)) ≤ s1.1 then (
        j86 ()) else (
        gtP (12, 19) s1.2 a0 11 fun x4 =>
        alI 100 s1.2 x4 s1.1 fun x5 =>
        cI (rec 180 [.int x5] s1.2) fun x7 M6 =>
        lp (fun (s8 : Int32 × Mem) j31 =>
          if x7 ≤ s8.1 then (
            gtP (12, 19) s8.2 a0 11 fun x9 =>
            asI 100 s8.2 x9 s1.1 x5 fun M10 =>
            lt (s1.1 + (1 : Int32)) fun (x11 : Int32) =>
            j2 (x11, M10)) else (
            gtP (12, 19) s8.2 a0 11 fun x12 =>
            cI (rec 181 [.int x5, .int s8.1] s8.2) fun x14 M13 =>
            asI 100 M13 x12 s1.1 x14 fun M15 =>
            gtP (12, 19) M15 a0 2 fun x16 =>
            gtP (12, 19) M15 a0 11 fun x17 =>
            vC (4, 22) M15 x16 <|
            cI (rec 27 [va_rf x16, va_rf a1, va_rf x17] M15) fun x19 M18 =>
            if x19 = 0 then (
              rtZ ((1 : Int32)) M18) else (
              lt (s8.1 + (1 : Int32)) fun (x20 : Int32) =>
              j31 (x20, M18)))) 4294967296 ((0 : Int32), M6)))) 4294967296 ((0 : Int32), M0)
def b179 (rec : Nat → List Value → Mem → XA) (as : List Value) (M0 : Mem) : XA := aR as fun a0 as => aR as fun a1 as => aZ as (c179 rec a0 a1 M0)
set_option maxRecDepth 100000 in
set_option maxHeartbeats 4000000 in
theorem k179 {S : XS} {G : XG} {K : Nat × Nat} {l : Launch} {d : Nat} {rec : Nat → List Value → Mem → XA} (hs : XSnd l xmt rec d) (a0 : Option Nat) (a1 : Option Nat) (M0 : Mem) : Xe S G K l (yX11_takesSmaller, cX11_takesSmaller, 6, some .boolean) d 0 [some (va_rf a0), some (va_rf a1), none, none, none, none] [] M0 (c179 rec a0 a1 M0) := by
  unfold c179
  refine x_iconst (v := 0) dX11_takesSmaller_0 (by decide) ?_
  refine x_istore_n (lo' := [some (va_rf a0), some (va_rf a1), some (.int ((0 : Int32))), none, none, none]) dX11_takesSmaller_1 (by decide) (xok_r rfl) rfl ?_
  refine x_weak (by exact ⟨rfl, ⟨rfl, ⟨rfl, trivial⟩⟩⟩) (x_lp (σ := Int32 × Mem) 2 (fun s1 => [some (va_rf a0), some (va_rf a1), some (.int s1.1), none, none, none]) (fun s1 => []) (fun s1 => s1.2) (fun s1 j2 hj2 => ?_) 4294967296 ((0 : Int32), M0))
  · refine x_iload_n dX11_takesSmaller_2 rfl ?_
    refine x_aload_n dX11_takesSmaller_3 rfl ?_
    refine gfX11_146 rfl dX11_takesSmaller_4 (fun x2 => ?_)
    refine x_jn (σ := Unit) 86 (fun s3 => [none, none, none, none, none, none]) (fun s3 => []) (fun s3 => s1.2) (fun s3 => ?_) (fun j86 hj86 => ?_)
    · refine x_iconst (v := 0) dX11_takesSmaller_86 (by decide) ?_
      exact x_zret rfl dX11_takesSmaller_87
    refine x_icmp_ge (tgt := 86) dX11_takesSmaller_7 (by decide) (fun _ => ?_) (fun _ => ?_)
    · exact x_weak (by exact trivial) (hj86 ())
    · refine x_iload_n dX11_takesSmaller_10 rfl ?_
      refine x_iconst (v := 4) dX11_takesSmaller_11 (by decide) ?_
      refine x_icmp_ge (tgt := 86) dX11_takesSmaller_12 (by decide) (fun _ => ?_) (fun _ => ?_)
      · exact x_weak (by exact trivial) (hj86 ())
      · refine x_aload_n dX11_takesSmaller_15 rfl ?_
        refine gfX11_50 rfl dX11_takesSmaller_16 (fun x4 => ?_)
        refine x_iload_n dX11_takesSmaller_19 rfl ?_
        refine x_iald dX11_takesSmaller_20 (fun x5 => ?_)
        refine x_istore_n (lo' := [some (va_rf a0), some (va_rf a1), some (.int s1.1), some (.int x5), none, none]) dX11_takesSmaller_21 (by decide) rfl rfl ?_
        refine x_iload_n dX11_takesSmaller_22 rfl ?_
        refine cmX11_332 rfl hs (Nat.le_of_ble_eq_true rfl) dX11_takesSmaller_23 (fun x7 M6 => ?_)
        refine x_istore (lo' := [some (va_rf a0), some (va_rf a1), some (.int s1.1), some (.int x5), some (.int x7), none]) dX11_takesSmaller_26 (by decide) rfl rfl ?_
        refine x_iconst (v := 0) dX11_takesSmaller_28 (by decide) ?_
        refine x_istore (lo' := [some (va_rf a0), some (va_rf a1), some (.int s1.1), some (.int x5), some (.int x7), some (.int ((0 : Int32)))]) dX11_takesSmaller_29 (by decide) rfl rfl ?_
        refine x_weak (by exact ⟨rfl, ⟨rfl, ⟨rfl, ⟨rfl, ⟨rfl, ⟨rfl, trivial⟩⟩⟩⟩⟩⟩) (x_lp (σ := Int32 × Mem) 31 (fun s8 => [some (va_rf a0), some (va_rf a1), some (.int s1.1), some (.int x5), some (.int x7), some (.int s8.1)]) (fun s8 => []) (fun s8 => s8.2) (fun s8 j31 hj31 => ?_) 4294967296 ((0 : Int32), M6))
        · refine x_iload dX11_takesSmaller_31 rfl ?_
          refine x_iload dX11_takesSmaller_33 rfl ?_
          refine x_icmp_ge (tgt := 73) dX11_takesSmaller_35 (by decide) (fun _ => ?_) (fun _ => ?_)
          · refine x_aload_n dX11_takesSmaller_73 rfl ?_
            refine gfX11_50 rfl dX11_takesSmaller_74 (fun x9 => ?_)
            refine x_iload_n dX11_takesSmaller_77 rfl ?_
            refine x_iload_n dX11_takesSmaller_78 rfl ?_
            refine x_iast dX11_takesSmaller_79 (fun M10 => ?_)
            refine x_iincN (v := 1) (lo' := fun x11 => [some (va_rf a0), some (va_rf a1), some (.int x11), some (.int x5), some (.int x7), some (.int s8.1)]) (by decide) dX11_takesSmaller_80 rfl (by decide) (xok_r rfl) (fun _ => rfl) (fun x11 => ?_)
            refine x_goto (tgt := 2) dX11_takesSmaller_83 (by decide) ?_
            exact x_weak (by exact ⟨rfl, ⟨rfl, ⟨rfl, trivial⟩⟩⟩) (hj2 (x11, M10))
          · refine x_aload_n dX11_takesSmaller_38 rfl ?_
            refine gfX11_50 rfl dX11_takesSmaller_39 (fun x12 => ?_)
            refine x_iload_n dX11_takesSmaller_42 rfl ?_
            refine x_iload_n dX11_takesSmaller_43 rfl ?_
            refine x_iload dX11_takesSmaller_44 rfl ?_
            refine cmX11_335 rfl hs (Nat.le_of_ble_eq_true rfl) dX11_takesSmaller_46 (fun x14 M13 => ?_)
            refine x_iast dX11_takesSmaller_49 (fun M15 => ?_)
            refine x_aload_n dX11_takesSmaller_50 rfl ?_
            refine gfX11_26 rfl dX11_takesSmaller_51 (fun x16 => ?_)
            refine x_aload_n dX11_takesSmaller_54 rfl ?_
            refine x_aload_n dX11_takesSmaller_55 rfl ?_
            refine gfX11_50 rfl dX11_takesSmaller_56 (fun x17 => ?_)
            refine cmX11_451 rfl hs (Nat.le_of_ble_eq_true rfl) dX11_takesSmaller_59 (fun x19 M18 => ?_)
            refine x_if_ne (tgt := 67) dX11_takesSmaller_62 (by decide) (fun _ => ?_) (fun _ => ?_)
            · refine x_iconst (v := 1) dX11_takesSmaller_65 (by decide) ?_
              exact x_zret rfl dX11_takesSmaller_66
            · refine x_iincN (v := 1) (lo' := fun x20 => [some (va_rf a0), some (va_rf a1), some (.int s1.1), some (.int x5), some (.int x7), some (.int x20)]) (by decide) dX11_takesSmaller_67 rfl (by decide) rfl (fun _ => rfl) (fun x20 => ?_)
              refine x_goto (tgt := 31) dX11_takesSmaller_70 (by decide) ?_
              exact x_weak (by exact ⟨rfl, ⟨rfl, ⟨rfl, ⟨rfl, ⟨rfl, ⟨rfl, trivial⟩⟩⟩⟩⟩⟩) (hj31 (x20, M18))
theorem s179 {l : Launch} {d : Nat} {rec : Nat → List Value → Mem → XA} (hS : Nonempty XS) (hs : XSnd l xmt rec d) : Snd1 l 179 (b179 rec) d := by
  intro as M r M' h0
  unfold b179 at h0
  obtain ⟨a0, l1, e1, h1⟩ := aR_inv h0
  obtain ⟨a1, l2, e2, h2⟩ := aR_inv h1
  obtain ⟨ez, h⟩ := aZ_inv h2
  subst ez
  subst e2
  subst e1
  exact xmet (M := M) (as := [va_rf a0, va_rf a1]) (lo := [some (va_rf a0), some (va_rf a1)]) 179 xq179 xm179 (by rw [xargs_rf, xargs_rf, xargs_nil]; exact ⟨rfl, ⟨rfl, trivial⟩⟩) (by rw [xargs_rf, xargs_rf, xargs_nil]; exact Nat.le_of_ble_eq_true rfl) (fun S G K => x_weak (by exact ⟨rfl, ⟨rfl, trivial⟩⟩) (k179 hs a0 a1 M)) h hS
set_option maxRecDepth 100000 in
def c180 (rec : Nat → List Value → Mem → XA) (a0 : Int32) (M0 : Mem) : XA :=
  if a0 = 0 then (
    some (.int ((0 : Int32)), M0)) else (
    lt (if 0 < a0.toInt64 then a0.toInt64 else -a0.toInt64) fun x1 =>
    cI (rec 316 [.long x1] M0) fun x3 M2 =>
    lt (((63 : Int32)) - x3) fun (x4 : Int32) =>
    jn (fun (s5 : Int32) =>
      some (.int (s5 + x4), M2)) fun j27 =>
    if 0 ≤ a0 then (
      j27 ((1 : Int32))) else (
      j27 ((2 : Int32))))
def b180 (rec : Nat → List Value → Mem → XA) (as : List Value) (M0 : Mem) : XA := aI as fun a0 as => aZ as (c180 rec a0 M0)
set_option maxRecDepth 100000 in
set_option maxHeartbeats 4000000 in
theorem k180 {S : XS} {G : XG} {K : Nat × Nat} {l : Launch} {d : Nat} {rec : Nat → List Value → Mem → XA} (hs : XSnd l xmt rec d) (a0 : Int32) (M0 : Mem) : Xe S G K l (yX11_smallerCount, cX11_smallerCount, 2, some .int) d 0 [some (.int a0), none] [] M0 (c180 rec a0 M0) := by
  unfold c180
  refine x_iload_n dX11_smallerCount_0 rfl ?_
  refine x_if_ne (tgt := 6) dX11_smallerCount_1 (by decide) (fun _ => ?_) (fun _ => ?_)
  · refine x_iconst (v := 0) dX11_smallerCount_4 (by decide) ?_
    exact x_iret rfl dX11_smallerCount_5
  · refine x_bipush (v := 63) dX11_smallerCount_6 (by decide) ?_
    refine x_iload_n dX11_smallerCount_8 rfl ?_
    refine x_i2l dX11_smallerCount_9 ?_
    refine x_mabs lk_methodLink_X11_455 w_ma1 w_mi w_ma2 (Nat.le_of_ble_eq_true rfl) dX11_smallerCount_10 (fun x1 => ?_)
    refine cmX11_432 rfl hs (Nat.le_of_ble_eq_true rfl) dX11_smallerCount_13 (fun x3 M2 => ?_)
    refine x_isub dX11_smallerCount_16 ?_
    refine x_ltI (fun x4 => ?_)
    refine x_istore_n (lo' := [some (.int a0), some (.int x4)]) dX11_smallerCount_17 (by decide) rfl rfl ?_
    refine x_iload_n dX11_smallerCount_18 rfl ?_
    refine x_jn (σ := Int32) 27 (fun s5 => [none, some (.int x4)]) (fun s5 => [.int s5]) (fun s5 => M2) (fun s5 => ?_) (fun j27 hj27 => ?_)
    · refine x_iload_n dX11_smallerCount_27 rfl ?_
      refine x_iadd dX11_smallerCount_28 ?_
      exact x_iret rfl dX11_smallerCount_29
    refine x_if_ge (tgt := 26) dX11_smallerCount_19 (by decide) (fun _ => ?_) (fun _ => ?_)
    · refine x_iconst (v := 1) dX11_smallerCount_26 (by decide) ?_
      exact x_weak (by exact ⟨rfl, trivial⟩) (hj27 ((1 : Int32)))
    · refine x_iconst (v := 2) dX11_smallerCount_22 (by decide) ?_
      refine x_goto (tgt := 27) dX11_smallerCount_23 (by decide) ?_
      exact x_weak (by exact ⟨rfl, trivial⟩) (hj27 ((2 : Int32)))
theorem s180 {l : Launch} {d : Nat} {rec : Nat → List Value → Mem → XA} (hS : Nonempty XS) (hs : XSnd l xmt rec d) : Snd1 l 180 (b180 rec) d := by
  intro as M r M' h0
  unfold b180 at h0
  obtain ⟨a0, l1, e1, h1⟩ := aI_inv h0
  obtain ⟨ez, h⟩ := aZ_inv h1
  subst ez
  subst e1
  exact xmet (M := M) (as := [.int a0]) (lo := [some (.int a0)]) 180 xq180 xm180 (by rw [xargs_i, xargs_nil]; exact ⟨rfl, trivial⟩) (by rw [xargs_i, xargs_nil]; exact Nat.le_of_ble_eq_true rfl) (fun S G K => x_weak (by exact ⟨rfl, trivial⟩) (k180 hs a0 M)) h hS
set_option maxRecDepth 100000 in
def c181 (rec : Nat → List Value → Mem → XA) (a0 : Int32) (a1 : Int32) (M0 : Mem) : XA :=
  if a1 = 0 then (
    some (.int ((0 : Int32)), M0)) else (
    jn (fun (s1 : Unit) =>
      jn (fun (s2 : Int32) =>
        if (((1 : Int64)) <<< (Int32.toInt64 s2 &&& 63)) = 0 then none else
        some (.int ((a0.toInt64 - (a0.toInt64 / (((1 : Int64)) <<< (Int32.toInt64 s2 &&& 63)))).toInt32), M0)) fun j29 =>
      if 0 ≤ a0 then (
        j29 a1) else (
        j29 (a1 - ((1 : Int32))))) fun j18 =>
    if 0 ≤ a0 then (
      j18 ()) else (
      if a1 = ((1 : Int32)) then (
        some (.int (-a0), M0)) else (
        j18 ())))
def b181 (rec : Nat → List Value → Mem → XA) (as : List Value) (M0 : Mem) : XA := aI as fun a0 as => aI as fun a1 as => aZ as (c181 rec a0 a1 M0)
set_option maxRecDepth 100000 in
set_option maxHeartbeats 4000000 in
theorem k181 {S : XS} {G : XG} {K : Nat × Nat} {l : Launch} {d : Nat} {rec : Nat → List Value → Mem → XA} (hs : XSnd l xmt rec d) (a0 : Int32) (a1 : Int32) (M0 : Mem) : Xe S G K l (yX11_smallerNumber, cX11_smallerNumber, 3, some .int) d 0 [some (.int a0), some (.int a1), none] [] M0 (c181 rec a0 a1 M0) := by
  unfold c181
  refine x_iload_n dX11_smallerNumber_0 rfl ?_
  refine x_if_ne (tgt := 6) dX11_smallerNumber_1 (by decide) (fun _ => ?_) (fun _ => ?_)
  · refine x_iconst (v := 0) dX11_smallerNumber_4 (by decide) ?_
    exact x_iret rfl dX11_smallerNumber_5
  · refine x_iload_n dX11_smallerNumber_6 rfl ?_
    refine x_jn (σ := Unit) 18 (fun s1 => [some (.int a0), some (.int a1), none]) (fun s1 => []) (fun s1 => M0) (fun s1 => ?_) (fun j18 hj18 => ?_)
    · refine x_iload_n dX11_smallerNumber_18 rfl ?_
      refine x_jn (σ := Int32) 29 (fun s2 => [some (.int a0), none, none]) (fun s2 => [.int s2]) (fun s2 => M0) (fun s2 => ?_) (fun j29 hj29 => ?_)
      · refine x_istore_n (lo' := [some (.int a0), none, some (.int s2)]) dX11_smallerNumber_29 (by decide) rfl rfl ?_
        refine x_iload_n dX11_smallerNumber_30 rfl ?_
        refine x_i2l dX11_smallerNumber_31 ?_
        refine x_iload_n dX11_smallerNumber_32 rfl ?_
        refine x_i2l dX11_smallerNumber_33 ?_
        refine x_lconst (v := 1) dX11_smallerNumber_34 (by decide) ?_
        refine x_iload_n dX11_smallerNumber_35 rfl ?_
        refine x_lshl dX11_smallerNumber_36 ?_
        refine x_ldiv dX11_smallerNumber_37 (fun _ => ?_)
        refine x_lsub dX11_smallerNumber_38 ?_
        refine x_l2i dX11_smallerNumber_39 ?_
        exact x_iret rfl dX11_smallerNumber_40
      refine x_if_ge (tgt := 28) dX11_smallerNumber_19 (by decide) (fun _ => ?_) (fun _ => ?_)
      · refine x_iload_n dX11_smallerNumber_28 rfl ?_
        exact x_weak (by exact ⟨rfl, trivial⟩) (hj29 a1)
      · refine x_iload_n dX11_smallerNumber_22 rfl ?_
        refine x_iconst (v := 1) dX11_smallerNumber_23 (by decide) ?_
        refine x_isub dX11_smallerNumber_24 ?_
        refine x_goto (tgt := 29) dX11_smallerNumber_25 (by decide) ?_
        exact x_weak (by exact ⟨rfl, trivial⟩) (hj29 (a1 - ((1 : Int32))))
    refine x_if_ge (tgt := 18) dX11_smallerNumber_7 (by decide) (fun _ => ?_) (fun _ => ?_)
    · exact x_weak (by exact ⟨rfl, ⟨rfl, trivial⟩⟩) (hj18 ())
    · refine x_iload_n dX11_smallerNumber_10 rfl ?_
      refine x_iconst (v := 1) dX11_smallerNumber_11 (by decide) ?_
      refine x_icmp_ne (tgt := 18) dX11_smallerNumber_12 (by decide) (fun _ => ?_) (fun _ => ?_)
      · refine x_iload_n dX11_smallerNumber_15 rfl ?_
        refine x_ineg dX11_smallerNumber_16 ?_
        exact x_iret rfl dX11_smallerNumber_17
      · exact x_weak (by exact ⟨rfl, ⟨rfl, trivial⟩⟩) (hj18 ())
theorem s181 {l : Launch} {d : Nat} {rec : Nat → List Value → Mem → XA} (hS : Nonempty XS) (hs : XSnd l xmt rec d) : Snd1 l 181 (b181 rec) d := by
  intro as M r M' h0
  unfold b181 at h0
  obtain ⟨a0, l1, e1, h1⟩ := aI_inv h0
  obtain ⟨a1, l2, e2, h2⟩ := aI_inv h1
  obtain ⟨ez, h⟩ := aZ_inv h2
  subst ez
  subst e2
  subst e1
  exact xmet (M := M) (as := [.int a0, .int a1]) (lo := [some (.int a0), some (.int a1)]) 181 xq181 xm181 (by rw [xargs_i, xargs_i, xargs_nil]; exact ⟨rfl, ⟨rfl, trivial⟩⟩) (by rw [xargs_i, xargs_i, xargs_nil]; exact Nat.le_of_ble_eq_true rfl) (fun S G K => x_weak (by exact ⟨rfl, ⟨rfl, trivial⟩⟩) (k181 hs a0 a1 M)) h hS
set_option maxRecDepth 100000 in
def c182 (rec : Nat → List Value → Mem → XA) (a0 : Option Nat) (a1 : Int32) (M0 : Mem) : XA :=
  lp (fun (s1 : Int32 × Int32) j4 =>
    gtP (6, 18) M0 a0 10 fun x2 =>
    aln M0 x2 fun x3 =>
    if x3 ≤ s1.2 then (
      some (.int s1.1, M0)) else (
      gtP (6, 18) M0 a0 10 fun x4 =>
      alI 100 M0 x4 s1.2 fun x5 =>
      jn (fun (s6 : Int32) =>
        lt (s1.2 + (1 : Int32)) fun (x7 : Int32) =>
        j4 (s6, x7)) fun j25 =>
      if x5 = a1 then (
        j25 s1.2) else (
        j25 s1.1))) 4294967296 ((0 : Int32), (0 : Int32))
def b182 (rec : Nat → List Value → Mem → XA) (as : List Value) (M0 : Mem) : XA := aR as fun a0 as => aI as fun a1 as => aZ as (c182 rec a0 a1 M0)
set_option maxRecDepth 100000 in
set_option maxHeartbeats 4000000 in
theorem k182 {S : XS} {G : XG} {K : Nat × Nat} {l : Launch} {d : Nat} {rec : Nat → List Value → Mem → XA} (hs : XSnd l xmt rec d) (a0 : Option Nat) (a1 : Int32) (M0 : Mem) : Xe S G K l (yX11_placeInOrder, cX11_placeInOrder, 4, some .int) d 0 [some (va_rf a0), some (.int a1), none, none] [] M0 (c182 rec a0 a1 M0) := by
  unfold c182
  refine x_iconst (v := 0) dX11_placeInOrder_0 (by decide) ?_
  refine x_istore_n (lo' := [some (va_rf a0), some (.int a1), some (.int ((0 : Int32))), none]) dX11_placeInOrder_1 (by decide) rfl rfl ?_
  refine x_iconst (v := 0) dX11_placeInOrder_2 (by decide) ?_
  refine x_istore_n (lo' := [some (va_rf a0), some (.int a1), some (.int ((0 : Int32))), some (.int ((0 : Int32)))]) dX11_placeInOrder_3 (by decide) rfl rfl ?_
  refine x_weak (by exact ⟨rfl, ⟨rfl, ⟨rfl, ⟨rfl, trivial⟩⟩⟩⟩) (x_lp (σ := Int32 × Int32) 4 (fun s1 => [some (va_rf a0), some (.int a1), some (.int s1.1), some (.int s1.2)]) (fun s1 => []) (fun s1 => M0) (fun s1 j4 hj4 => ?_) 4294967296 ((0 : Int32), (0 : Int32)))
  · refine x_iload_n dX11_placeInOrder_4 rfl ?_
    refine x_aload_n dX11_placeInOrder_5 rfl ?_
    refine gfX11_189 rfl dX11_placeInOrder_6 (fun x2 => ?_)
    refine x_alen dX11_placeInOrder_9 (fun x3 => ?_)
    refine x_icmp_ge (tgt := 31) dX11_placeInOrder_10 (by decide) (fun _ => ?_) (fun _ => ?_)
    · refine x_iload_n dX11_placeInOrder_31 rfl ?_
      exact x_iret rfl dX11_placeInOrder_32
    · refine x_aload_n dX11_placeInOrder_13 rfl ?_
      refine gfX11_189 rfl dX11_placeInOrder_14 (fun x4 => ?_)
      refine x_iload_n dX11_placeInOrder_17 rfl ?_
      refine x_iald dX11_placeInOrder_18 (fun x5 => ?_)
      refine x_iload_n dX11_placeInOrder_19 rfl ?_
      refine x_jn (σ := Int32) 25 (fun s6 => [some (va_rf a0), some (.int a1), some (.int s6), some (.int s1.2)]) (fun s6 => []) (fun s6 => M0) (fun s6 => ?_) (fun j25 hj25 => ?_)
      · refine x_iincN (v := 1) (lo' := fun x7 => [some (va_rf a0), some (.int a1), some (.int s6), some (.int x7)]) (by decide) dX11_placeInOrder_25 rfl (by decide) rfl (fun _ => rfl) (fun x7 => ?_)
        refine x_goto (tgt := 4) dX11_placeInOrder_28 (by decide) ?_
        exact x_weak (by exact ⟨rfl, ⟨rfl, ⟨rfl, ⟨rfl, trivial⟩⟩⟩⟩) (hj4 (s6, x7))
      refine x_icmp_ne (tgt := 25) dX11_placeInOrder_20 (by decide) (fun _ => ?_) (fun _ => ?_)
      · refine x_iload_n dX11_placeInOrder_23 rfl ?_
        refine x_istore_n (lo' := [some (va_rf a0), some (.int a1), some (.int s1.2), some (.int s1.2)]) dX11_placeInOrder_24 (by decide) rfl rfl ?_
        exact x_weak (by exact ⟨rfl, ⟨rfl, ⟨rfl, ⟨rfl, trivial⟩⟩⟩⟩) (hj25 s1.2)
      · exact x_weak (by exact ⟨rfl, ⟨rfl, ⟨rfl, ⟨rfl, trivial⟩⟩⟩⟩) (hj25 s1.1)
theorem s182 {l : Launch} {d : Nat} {rec : Nat → List Value → Mem → XA} (hS : Nonempty XS) (hs : XSnd l xmt rec d) : Snd1 l 182 (b182 rec) d := by
  intro as M r M' h0
  unfold b182 at h0
  obtain ⟨a0, l1, e1, h1⟩ := aR_inv h0
  obtain ⟨a1, l2, e2, h2⟩ := aI_inv h1
  obtain ⟨ez, h⟩ := aZ_inv h2
  subst ez
  subst e2
  subst e1
  exact xmet (M := M) (as := [va_rf a0, .int a1]) (lo := [some (va_rf a0), some (.int a1)]) 182 xq182 xm182 (by rw [xargs_rf, xargs_i, xargs_nil]; exact ⟨rfl, ⟨rfl, trivial⟩⟩) (by rw [xargs_rf, xargs_i, xargs_nil]; exact Nat.le_of_ble_eq_true rfl) (fun S G K => x_weak (by exact ⟨rfl, ⟨rfl, trivial⟩⟩) (k182 hs a0 a1 M)) h hS
set_option maxRecDepth 100000 in
def c183 (rec : Nat → List Value → Mem → XA) (a0 : Option Nat) (M0 : Mem) : XA :=
  nn a0 <|
  nA 101 M0 ((3000 : Int32)) fun x1 M2 =>
  ptP (13, 157) M2 a0 0 x1 fun M3 =>
  nA 100 M3 ((8 : Int32)) fun x4 M5 =>
  ptP (13, 157) M5 a0 3 x4 fun M6 =>
  nA 104 M6 ((64 : Int32)) fun x7 M8 =>
  ptP (13, 157) M8 a0 4 x7 fun M9 =>
  nA 100 M9 ((64 : Int32)) fun x10 M11 =>
  ptP (13, 157) M11 a0 5 x10 fun M12 =>
  nA 100 M12 ((64 : Int32)) fun x13 M14 =>
  ptP (13, 157) M14 a0 6 x13 fun M15 =>
  nA 100 M15 ((192 : Int32)) fun x16 M17 =>
  ptP (13, 157) M17 a0 7 x16 fun M18 =>
  nA 100 M18 ((64 : Int32)) fun x19 M20 =>
  ptP (13, 157) M20 a0 8 x19 fun M21 =>
  nA 100 M21 ((192 : Int32)) fun x22 M23 =>
  ptP (13, 157) M23 a0 9 x22 fun M24 =>
  nA 100 M24 ((8 : Int32)) fun x25 M26 =>
  ptP (13, 157) M26 a0 10 x25 fun M27 =>
  nA 104 M27 ((768 : Int32)) fun x28 M29 =>
  ptP (13, 157) M29 a0 11 x28 fun M30 =>
  nA 100 M30 ((768 : Int32)) fun x31 M32 =>
  ptP (13, 157) M32 a0 12 x31 fun M33 =>
  nA 100 M33 ((768 : Int32)) fun x34 M35 =>
  ptP (13, 157) M35 a0 13 x34 fun M36 =>
  nA 102 M36 ((768 : Int32)) fun x37 M38 =>
  ptP (13, 157) M38 a0 14 x37 fun M39 =>
  nA 100 M39 ((768 : Int32)) fun x40 M41 =>
  ptP (13, 157) M41 a0 15 x40 fun M42 =>
  nA 100 M42 ((768 : Int32)) fun x43 M44 =>
  ptP (13, 157) M44 a0 16 x43 fun M45 =>
  nA 100 M45 ((8 : Int32)) fun x46 M47 =>
  ptP (13, 157) M47 a0 17 x46 fun M48 =>
  nA 104 M48 ((128 : Int32)) fun x49 M50 =>
  ptP (13, 157) M50 a0 18 x49 fun M51 =>
  nA 100 M51 ((128 : Int32)) fun x52 M53 =>
  ptP (13, 157) M53 a0 19 x52 fun M54 =>
  nA 100 M54 ((128 : Int32)) fun x55 M56 =>
  ptP (13, 157) M56 a0 20 x55 fun M57 =>
  nA 100 M57 ((128 : Int32)) fun x58 M59 =>
  ptP (13, 157) M59 a0 21 x58 fun M60 =>
  nA 102 M60 ((128 : Int32)) fun x61 M62 =>
  ptP (13, 157) M62 a0 22 x61 fun M63 =>
  nA 100 M63 ((128 : Int32)) fun x64 M65 =>
  ptP (13, 157) M65 a0 23 x64 fun M66 =>
  nA 100 M66 ((128 : Int32)) fun x67 M68 =>
  ptP (13, 157) M68 a0 24 x67 fun M69 =>
  nA 100 M69 ((8 : Int32)) fun x70 M71 =>
  ptP (13, 157) M71 a0 25 x70 fun M72 =>
  nA 104 M72 ((48 : Int32)) fun x73 M74 =>
  ptP (13, 157) M74 a0 26 x73 fun M75 =>
  nA 100 M75 ((48 : Int32)) fun x76 M77 =>
  ptP (13, 157) M77 a0 27 x76 fun M78 =>
  nA 100 M78 ((48 : Int32)) fun x79 M80 =>
  ptP (13, 157) M80 a0 28 x79 fun M81 =>
  nA 100 M81 ((8 : Int32)) fun x82 M83 =>
  ptP (13, 157) M83 a0 29 x82 fun M84 =>
  nA 101 M84 ((8000 : Int32)) fun x85 M86 =>
  ptP (13, 157) M86 a0 30 x85 fun M87 =>
  nA 100 M87 ((8000 : Int32)) fun x88 M89 =>
  ptP (13, 157) M89 a0 31 x88 fun M90 =>
  nA 101 M90 ((8000 : Int32)) fun x91 M92 =>
  ptP (13, 157) M92 a0 32 x91 fun M93 =>
  nA 100 M93 ((8 : Int32)) fun x94 M95 =>
  ptP (13, 157) M95 a0 33 x94 fun M96 =>
  nA 103 M96 ((8000 : Int32)) fun x97 M98 =>
  ptP (13, 157) M98 a0 34 x97 fun M99 =>
  nA 104 M99 ((28 : Int32)) fun x100 M101 =>
  cL (rec 187 [va_rf ((some 5))] M101) fun x103 M102 =>
  asL M102 x100 ((0 : Int32)) x103 fun M104 =>
  cL (rec 187 [va_rf ((some 6))] M104) fun x106 M105 =>
  asL M105 x100 ((1 : Int32)) x106 fun M107 =>
  cL (rec 187 [va_rf ((some 7))] M107) fun x109 M108 =>
  asL M108 x100 ((2 : Int32)) x109 fun M110 =>
  cL (rec 187 [va_rf ((some 8))] M110) fun x112 M111 =>
  asL M111 x100 ((3 : Int32)) x112 fun M113 =>
  cL (rec 187 [va_rf ((some 9))] M113) fun x115 M114 =>
  asL M114 x100 ((4 : Int32)) x115 fun M116 =>
  cL (rec 187 [va_rf ((some 10))] M116) fun x118 M117 =>
  asL M117 x100 ((5 : Int32)) x118 fun M119 =>
  cL (rec 187 [va_rf ((some 11))] M119) fun x121 M120 =>
  asL M120 x100 ((6 : Int32)) x121 fun M122 =>
  cL (rec 187 [va_rf ((some 12))] M122) fun x124 M123 =>
  asL M123 x100 ((7 : Int32)) x124 fun M125 =>
  cL (rec 187 [va_rf ((some 13))] M125) fun x127 M126 =>
  asL M126 x100 ((8 : Int32)) x127 fun M128 =>
  cL (rec 187 [va_rf ((some 14))] M128) fun x130 M129 =>
  asL M129 x100 ((9 : Int32)) x130 fun M131 =>
  cL (rec 187 [va_rf ((some 15))] M131) fun x133 M132 =>
  asL M132 x100 ((10 : Int32)) x133 fun M134 =>
  cL (rec 187 [va_rf ((some 16))] M134) fun x136 M135 =>
  asL M135 x100 ((11 : Int32)) x136 fun M137 =>
  cL (rec 187 [va_rf ((some 17))] M137) fun x139 M138 =>
  asL M138 x100 ((12 : Int32)) x139 fun M140 =>
  cL (rec 187 [va_rf ((some 18))] M140) fun x142 M141 =>
  asL M141 x100 ((13 : Int32)) x142 fun M143 =>
  cL (rec 187 [va_rf ((some 19))] M143) fun x145 M144 =>
  asL M144 x100 ((14 : Int32)) x145 fun M146 =>
  cL (rec 187 [va_rf ((some 20))] M146) fun x148 M147 =>
  asL M147 x100 ((15 : Int32)) x148 fun M149 =>
  cL (rec 187 [va_rf ((some 21))] M149) fun x151 M150 =>
  asL M150 x100 ((16 : Int32)) x151 fun M152 =>
  cL (rec 187 [va_rf ((some 22))] M152) fun x154 M153 =>
  asL M153 x100 ((17 : Int32)) x154 fun M155 =>
  cL (rec 187 [va_rf ((some 23))] M155) fun x157 M156 =>
  asL M156 x100 ((18 : Int32)) x157 fun M158 =>
  cL (rec 187 [va_rf ((some 24))] M158) fun x160 M159 =>
  asL M159 x100 ((19 : Int32)) x160 fun M161 =>
  cL (rec 187 [va_rf ((some 25))] M161) fun x163 M162 =>
  asL M162 x100 ((20 : Int32)) x163 fun M164 =>
  cL (rec 187 [va_rf ((some 26))] M164) fun x166 M165 =>
  asL M165 x100 ((21 : Int32)) x166 fun M167 =>
  cL (rec 187 [va_rf ((some 27))] M167) fun x169 M168 =>
  asL M168 x100 ((22 : Int32)) x169 fun M170 =>
  cL (rec 187 [va_rf ((some 28))] M170) fun x172 M171 =>
  asL M171 x100 ((23 : Int32)) x172 fun M173 =>
  cL (rec 187 [va_rf ((some 29))] M173) fun x175 M174 =>
  asL M174 x100 ((24 : Int32)) x175 fun M176 =>
  cL (rec 187 [va_rf ((some 30))] M176) fun x178 M177 =>
  asL M177 x100 ((25 : Int32)) x178 fun M179 =>
  cL (rec 187 [va_rf ((some 31))] M179) fun x181 M180 =>
  asL M180 x100 ((26 : Int32)) x181 fun M182 =>
  cL (rec 187 [va_rf ((some 32))] M182) fun x184 M183 =>
  asL M183 x100 ((27 : Int32)) x184 fun M185 =>
  ptP (13, 157) M185 a0 35 x100 fun M186 =>
  nA 101 M186 ((4000 : Int32)) fun x187 M188 =>
  ptP (13, 157) M188 a0 44 x187 fun M189 =>
  nA 100 M189 ((4000 : Int32)) fun x190 M191 =>
  ptP (13, 157) M191 a0 45 x190 fun M192 =>
  nA 101 M192 ((4000 : Int32)) fun x193 M194 =>
  ptP (13, 157) M194 a0 46 x193 fun M195 =>
  nA 102 M195 ((4000 : Int32)) fun x196 M197 =>
  ptP (13, 157) M197 a0 47 x196 fun M198 =>
  nA 104 M198 ((11 : Int32)) fun x199 M200 =>
  ptP (13, 157) M200 a0 52 x199 fun M201 =>
  nA 100 M201 ((2000 : Int32)) fun x202 M203 =>
  ptP (13, 157) M203 a0 54 x202 fun M204 =>
  nA 100 M204 ((2000 : Int32)) fun x205 M206 =>
  ptP (13, 157) M206 a0 55 x205 fun M207 =>
  nA 104 M207 ((2000 : Int32)) fun x208 M209 =>
  ptP (13, 157) M209 a0 56 x208 fun M210 =>
  nA 100 M210 ((2000 : Int32)) fun x211 M212 =>
  ptP (13, 157) M212 a0 57 x211 fun M213 =>
  nA 104 M213 ((2000 : Int32)) fun x214 M215 =>
  ptP (13, 157) M215 a0 58 x214 fun M216 =>
  nA 100 M216 ((2000 : Int32)) fun x217 M218 =>
  ptP (13, 157) M218 a0 59 x217 fun M219 =>
  nA 100 M219 ((2000 : Int32)) fun x220 M221 =>
  ptP (13, 157) M221 a0 60 x220 fun M222 =>
  nA 100 M222 ((2000 : Int32)) fun x223 M224 =>
  ptP (13, 157) M224 a0 61 x223 fun M225 =>
  nA 100 M225 ((48 : Int32)) fun x226 M227 =>
  ptP (13, 157) M227 a0 63 x226 fun M228 =>
  nA 100 M228 ((8 : Int32)) fun x229 M230 =>
  ptP (13, 157) M230 a0 68 x229 fun M231 =>
  nA 100 M231 ((16 : Int32)) fun x232 M233 =>
  ptP (13, 157) M233 a0 69 x232 fun M234 =>
  nA 100 M234 ((192 : Int32)) fun x235 M236 =>
  ptP (13, 157) M236 a0 70 x235 fun M237 =>
  nA 100 M237 ((9600 : Int32)) fun x238 M239 =>
  ptP (13, 157) M239 a0 71 x238 fun M240 =>
  nA 100 M240 ((3000 : Int32)) fun x241 M242 =>
  ptP (13, 157) M242 a0 72 x241 fun M243 =>
  nA 100 M243 ((120 : Int32)) fun x244 M245 =>
  ptP (13, 157) M245 a0 74 x244 fun M246 =>
  nA 100 M246 ((300 : Int32)) fun x247 M248 =>
  ptP (13, 157) M248 a0 75 x247 fun M249 =>
  ptI (13, 157) M249 a0 77 ((200 : Int32)) fun M250 =>
  ptI (13, 157) M250 a0 78 ((1 : Int32)) fun M251 =>
  ptI (13, 157) M251 a0 90 ((-1 : Int32)) fun M252 =>
  nA 100 M252 ((8000 : Int32)) fun x253 M254 =>
  ptP (13, 157) M254 a0 94 x253 fun M255 =>
  nA 100 M255 ((8000 : Int32)) fun x256 M257 =>
  ptP (13, 157) M257 a0 95 x256 fun M258 =>
  nA 100 M258 ((8000 : Int32)) fun x259 M260 =>
  ptP (13, 157) M260 a0 96 x259 fun M261 =>
  nA 100 M261 ((1001 : Int32)) fun x262 M263 =>
  ptP (13, 157) M263 a0 99 x262 fun M264 =>
  nA 100 M264 ((1001 : Int32)) fun x265 M266 =>
  ptP (13, 157) M266 a0 100 x265 fun M267 =>
  nA 102 M267 ((8 : Int32)) fun x268 M269 =>
  ptP (13, 157) M269 a0 104 x268 fun M270 =>
  nA 100 M270 ((128 : Int32)) fun x271 M272 =>
  ptP (13, 157) M272 a0 105 x271 fun M273 =>
  nA 100 M273 ((128 : Int32)) fun x274 M275 =>
  ptP (13, 157) M275 a0 106 x274 fun M276 =>
  nA 100 M276 ((128 : Int32)) fun x277 M278 =>
  ptP (13, 157) M278 a0 107 x277 fun M279 =>
  nA 100 M279 ((128 : Int32)) fun x280 M281 =>
  ptP (13, 157) M281 a0 108 x280 fun M282 =>
  nA 100 M282 ((4 : Int32)) fun x283 M284 =>
  ptP (13, 157) M284 a0 110 x283 fun M285 =>
  nA 100 M285 ((8 : Int32)) fun x286 M287 =>
  asI 100 M287 x286 ((0 : Int32)) (((-1 : Int32))) fun M288 =>
  asI 100 M288 x286 ((1 : Int32)) (((-1 : Int32))) fun M289 =>
  asI 100 M289 x286 ((2 : Int32)) (((-1 : Int32))) fun M290 =>
  asI 100 M290 x286 ((3 : Int32)) (((-1 : Int32))) fun M291 =>
  asI 100 M291 x286 ((4 : Int32)) (((-1 : Int32))) fun M292 =>
  asI 100 M292 x286 ((5 : Int32)) (((-1 : Int32))) fun M293 =>
  asI 100 M293 x286 ((6 : Int32)) (((-1 : Int32))) fun M294 =>
  asI 100 M294 x286 ((7 : Int32)) (((-1 : Int32))) fun M295 =>
  ptP (13, 157) M295 a0 112 x286 fun M296 =>
  nA 100 M296 ((8 : Int32)) fun x297 M298 =>
  ptP (13, 157) M298 a0 113 x297 fun M299 =>
  nA 100 M299 ((8 : Int32)) fun x300 M301 =>
  ptP (13, 157) M301 a0 114 x300 fun M302 =>
  nA 100 M302 ((8 : Int32)) fun x303 M304 =>
  ptP (13, 157) M304 a0 115 x303 fun M305 =>
  nA 100 M305 ((64 : Int32)) fun x306 M307 =>
  ptP (13, 157) M307 a0 116 x306 fun M308 =>
  nA 100 M308 ((64 : Int32)) fun x309 M310 =>
  ptP (13, 157) M310 a0 117 x309 fun M311 =>
  nA 102 M311 ((64 : Int32)) fun x312 M313 =>
  ptP (13, 157) M313 a0 118 x312 fun M314 =>
  nA 100 M314 ((64 : Int32)) fun x315 M316 =>
  ptP (13, 157) M316 a0 119 x315 fun M317 =>
  nA 100 M317 ((8 : Int32)) fun x318 M319 =>
  ptP (13, 157) M319 a0 120 x318 fun M320 =>
  nA 100 M320 ((400 : Int32)) fun x321 M322 =>
  ptP (13, 157) M322 a0 121 x321 fun M323 =>
  nA 100 M323 ((1600 : Int32)) fun x324 M325 =>
  ptP (13, 157) M325 a0 122 x324 fun M326 =>
  nA 102 M326 ((8 : Int32)) fun x327 M328 =>
  ptP (13, 157) M328 a0 123 x327 fun M329 =>
  nA 100 M329 ((8000 : Int32)) fun x330 M331 =>
  ptP (13, 157) M331 a0 124 x330 fun M332 =>
  nA 100 M332 ((1000 : Int32)) fun x333 M334 =>
  ptP (13, 157) M334 a0 125 x333 fun M335 =>
  nA 100 M335 ((8 : Int32)) fun x336 M337 =>
  ptP (13, 157) M337 a0 126 x336 fun M338 =>
  nA 100 M338 ((16 : Int32)) fun x339 M340 =>
  ptP (13, 157) M340 a0 127 x339 fun M341 =>
  nA 100 M341 ((16 : Int32)) fun x342 M343 =>
  ptP (13, 157) M343 a0 128 x342 fun M344 =>
  nA 100 M344 ((4 : Int32)) fun x345 M346 =>
  ptP (13, 157) M346 a0 134 x345 fun M347 =>
  nA 100 M347 ((4 : Int32)) fun x348 M349 =>
  ptP (13, 157) M349 a0 135 x348 fun M350 =>
  nA 100 M350 ((8 : Int32)) fun x351 M352 =>
  ptP (13, 157) M352 a0 139 x351 fun M353 =>
  nA 100 M353 ((8 : Int32)) fun x354 M355 =>
  ptP (13, 157) M355 a0 140 x354 fun M356 =>
  nA 100 M356 ((64 : Int32)) fun x357 M358 =>
  ptP (13, 157) M358 a0 141 x357 fun M359 =>
  nA 100 M359 ((64 : Int32)) fun x360 M361 =>
  ptP (13, 157) M361 a0 142 x360 fun M362 =>
  nA 100 M362 ((64 : Int32)) fun x363 M364 =>
  ptP (13, 157) M364 a0 143 x363 fun M365 =>
  nA 100 M365 ((64 : Int32)) fun x366 M367 =>
  ptP (13, 157) M367 a0 144 x366 fun M368 =>
  nA 100 M368 ((64 : Int32)) fun x369 M370 =>
  ptP (13, 157) M370 a0 145 x369 fun M371 =>
  nA 100 M371 ((8 : Int32)) fun x372 M373 =>
  ptP (13, 157) M373 a0 146 x372 fun M374 =>
  nA 100 M374 ((9 : Int32)) fun x375 M376 =>
  ptP (13, 157) M376 a0 147 x375 fun M377 =>
  nA 100 M377 ((16 : Int32)) fun x378 M379 =>
  ptP (13, 157) M379 a0 152 x378 fun M380 =>
  nA 100 M380 ((16 : Int32)) fun x381 M382 =>
  ptP (13, 157) M382 a0 153 x381 fun M383 =>
  nA 100 M383 ((8 : Int32)) fun x384 M385 =>
  ptP (13, 157) M385 a0 155 x384 fun M386 =>
  nA 100 M386 ((8 : Int32)) fun x387 M388 =>
  ptP (13, 157) M388 a0 156 x387 fun M389 =>
  some (.null, M389)
def b183 (rec : Nat → List Value → Mem → XA) (as : List Value) (M0 : Mem) : XA := aR as fun a0 as => aZ as (c183 rec a0 M0)
set_option maxRecDepth 100000 in
set_option maxHeartbeats 4000000 in
theorem k183 {S : XS} {G : XG} {K : Nat × Nat} {l : Launch} {d : Nat} {rec : Nat → List Value → Mem → XA} (hs : XSnd l xmt rec d) (a0 : Option Nat) (M0 : Mem) : Xe S G K l (yX12_init, cX12_init, 1, none) d 0 [some (va_rf a0)] [] M0 (c183 rec a0 M0) := by
  unfold c183
  refine x_aload_n dX12_init_0 rfl ?_
  refine xoiX12 rfl (Nat.le_of_ble_eq_true rfl) dX12_init_1 ?_
  refine x_aload_n dX12_init_4 rfl ?_
  refine x_sipush (v := 3000) dX12_init_5 (by decide) ?_
  refine x_newa101 dX12_init_8 (fun x1 M2 => ?_)
  refine pfX12_7 rfl rfl dX12_init_10 (fun M3 => ?_)
  refine x_aload_n dX12_init_13 rfl ?_
  refine x_bipush (v := 8) dX12_init_14 (by decide) ?_
  refine x_newa100 dX12_init_16 (fun x4 M5 => ?_)
  refine pfX12_13 rfl rfl dX12_init_18 (fun M6 => ?_)
  refine x_aload_n dX12_init_21 rfl ?_
  refine x_bipush (v := 64) dX12_init_22 (by decide) ?_
  refine x_newa104 dX12_init_24 (fun x7 M8 => ?_)
  refine pfX12_17 rfl rfl dX12_init_26 (fun M9 => ?_)
  refine x_aload_n dX12_init_29 rfl ?_
  refine x_bipush (v := 64) dX12_init_30 (by decide) ?_
  refine x_newa100 dX12_init_32 (fun x10 M11 => ?_)
  refine pfX12_21 rfl rfl dX12_init_34 (fun M12 => ?_)
  refine x_aload_n dX12_init_37 rfl ?_
  refine x_bipush (v := 64) dX12_init_38 (by decide) ?_
  refine x_newa100 dX12_init_40 (fun x13 M14 => ?_)
  refine pfX12_24 rfl rfl dX12_init_42 (fun M15 => ?_)
  refine x_aload_n dX12_init_45 rfl ?_
  refine x_sipush (v := 192) dX12_init_46 (by decide) ?_
  refine x_newa100 dX12_init_49 (fun x16 M17 => ?_)
  refine pfX12_27 rfl rfl dX12_init_51 (fun M18 => ?_)
  refine x_aload_n dX12_init_54 rfl ?_
  refine x_bipush (v := 64) dX12_init_55 (by decide) ?_
  refine x_newa100 dX12_init_57 (fun x19 M20 => ?_)
  refine pfX12_30 rfl rfl dX12_init_59 (fun M21 => ?_)
  refine x_aload_n dX12_init_62 rfl ?_
  refine x_sipush (v := 192) dX12_init_63 (by decide) ?_
  refine x_newa100 dX12_init_66 (fun x22 M23 => ?_)
  refine pfX12_33 rfl rfl dX12_init_68 (fun M24 => ?_)
  refine x_aload_n dX12_init_71 rfl ?_
  refine x_bipush (v := 8) dX12_init_72 (by decide) ?_
  refine x_newa100 dX12_init_74 (fun x25 M26 => ?_)
  refine pfX12_36 rfl rfl dX12_init_76 (fun M27 => ?_)
  refine x_aload_n dX12_init_79 rfl ?_
  refine x_sipush (v := 768) dX12_init_80 (by decide) ?_
  refine x_newa104 dX12_init_83 (fun x28 M29 => ?_)
  refine pfX12_39 rfl rfl dX12_init_85 (fun M30 => ?_)
  refine x_aload_n dX12_init_88 rfl ?_
  refine x_sipush (v := 768) dX12_init_89 (by decide) ?_
  refine x_newa100 dX12_init_92 (fun x31 M32 => ?_)
  refine pfX12_42 rfl rfl dX12_init_94 (fun M33 => ?_)
  refine x_aload_n dX12_init_97 rfl ?_
  refine x_sipush (v := 768) dX12_init_98 (by decide) ?_
  refine x_newa100 dX12_init_101 (fun x34 M35 => ?_)
  refine pfX12_45 rfl rfl dX12_init_103 (fun M36 => ?_)
  refine x_aload_n dX12_init_106 rfl ?_
  refine x_sipush (v := 768) dX12_init_107 (by decide) ?_
  refine x_newa102 dX12_init_110 (fun x37 M38 => ?_)
  refine pfX12_48 rfl rfl dX12_init_112 (fun M39 => ?_)
  refine x_aload_n dX12_init_115 rfl ?_
  refine x_sipush (v := 768) dX12_init_116 (by decide) ?_
  refine x_newa100 dX12_init_119 (fun x40 M41 => ?_)
  refine pfX12_52 rfl rfl dX12_init_121 (fun M42 => ?_)
  refine x_aload_n dX12_init_124 rfl ?_
  refine x_sipush (v := 768) dX12_init_125 (by decide) ?_
  refine x_newa100 dX12_init_128 (fun x43 M44 => ?_)
  refine pfX12_55 rfl rfl dX12_init_130 (fun M45 => ?_)
  refine x_aload_n dX12_init_133 rfl ?_
  refine x_bipush (v := 8) dX12_init_134 (by decide) ?_
  refine x_newa100 dX12_init_136 (fun x46 M47 => ?_)
  refine pfX12_58 rfl rfl dX12_init_138 (fun M48 => ?_)
  refine x_aload_n dX12_init_141 rfl ?_
  refine x_sipush (v := 128) dX12_init_142 (by decide) ?_
  refine x_newa104 dX12_init_145 (fun x49 M50 => ?_)
  refine pfX12_61 rfl rfl dX12_init_147 (fun M51 => ?_)
  refine x_aload_n dX12_init_150 rfl ?_
  refine x_sipush (v := 128) dX12_init_151 (by decide) ?_
  refine x_newa100 dX12_init_154 (fun x52 M53 => ?_)
  refine pfX12_64 rfl rfl dX12_init_156 (fun M54 => ?_)
  refine x_aload_n dX12_init_159 rfl ?_
  refine x_sipush (v := 128) dX12_init_160 (by decide) ?_
  refine x_newa100 dX12_init_163 (fun x55 M56 => ?_)
  refine pfX12_67 rfl rfl dX12_init_165 (fun M57 => ?_)
  refine x_aload_n dX12_init_168 rfl ?_
  refine x_sipush (v := 128) dX12_init_169 (by decide) ?_
  refine x_newa100 dX12_init_172 (fun x58 M59 => ?_)
  refine pfX12_70 rfl rfl dX12_init_174 (fun M60 => ?_)
  refine x_aload_n dX12_init_177 rfl ?_
  refine x_sipush (v := 128) dX12_init_178 (by decide) ?_
  refine x_newa102 dX12_init_181 (fun x61 M62 => ?_)
  refine pfX12_73 rfl rfl dX12_init_183 (fun M63 => ?_)
  refine x_aload_n dX12_init_186 rfl ?_
  refine x_sipush (v := 128) dX12_init_187 (by decide) ?_
  refine x_newa100 dX12_init_190 (fun x64 M65 => ?_)
  refine pfX12_76 rfl rfl dX12_init_192 (fun M66 => ?_)
  refine x_aload_n dX12_init_195 rfl ?_
  refine x_sipush (v := 128) dX12_init_196 (by decide) ?_
  refine x_newa100 dX12_init_199 (fun x67 M68 => ?_)
  refine pfX12_79 rfl rfl dX12_init_201 (fun M69 => ?_)
  refine x_aload_n dX12_init_204 rfl ?_
  refine x_bipush (v := 8) dX12_init_205 (by decide) ?_
  refine x_newa100 dX12_init_207 (fun x70 M71 => ?_)
  refine pfX12_82 rfl rfl dX12_init_209 (fun M72 => ?_)
  refine x_aload_n dX12_init_212 rfl ?_
  refine x_bipush (v := 48) dX12_init_213 (by decide) ?_
  refine x_newa104 dX12_init_215 (fun x73 M74 => ?_)
  refine pfX12_85 rfl rfl dX12_init_217 (fun M75 => ?_)
  refine x_aload_n dX12_init_220 rfl ?_
  refine x_bipush (v := 48) dX12_init_221 (by decide) ?_
  refine x_newa100 dX12_init_223 (fun x76 M77 => ?_)
  refine pfX12_88 rfl rfl dX12_init_225 (fun M78 => ?_)
  refine x_aload_n dX12_init_228 rfl ?_
  refine x_bipush (v := 48) dX12_init_229 (by decide) ?_
  refine x_newa100 dX12_init_231 (fun x79 M80 => ?_)
  refine pfX12_91 rfl rfl dX12_init_233 (fun M81 => ?_)
  refine x_aload_n dX12_init_236 rfl ?_
  refine x_bipush (v := 8) dX12_init_237 (by decide) ?_
  refine x_newa100 dX12_init_239 (fun x82 M83 => ?_)
  refine pfX12_94 rfl rfl dX12_init_241 (fun M84 => ?_)
  refine x_aload_n dX12_init_244 rfl ?_
  refine x_sipush (v := 8000) dX12_init_245 (by decide) ?_
  refine x_newa101 dX12_init_248 (fun x85 M86 => ?_)
  refine pfX12_97 rfl rfl dX12_init_250 (fun M87 => ?_)
  refine x_aload_n dX12_init_253 rfl ?_
  refine x_sipush (v := 8000) dX12_init_254 (by decide) ?_
  refine x_newa100 dX12_init_257 (fun x88 M89 => ?_)
  refine pfX12_100 rfl rfl dX12_init_259 (fun M90 => ?_)
  refine x_aload_n dX12_init_262 rfl ?_
  refine x_sipush (v := 8000) dX12_init_263 (by decide) ?_
  refine x_newa101 dX12_init_266 (fun x91 M92 => ?_)
  refine pfX12_103 rfl rfl dX12_init_268 (fun M93 => ?_)
  refine x_aload_n dX12_init_271 rfl ?_
  refine x_bipush (v := 8) dX12_init_272 (by decide) ?_
  refine x_newa100 dX12_init_274 (fun x94 M95 => ?_)
  refine pfX12_106 rfl rfl dX12_init_276 (fun M96 => ?_)
  refine x_aload_n dX12_init_279 rfl ?_
  refine x_sipush (v := 8000) dX12_init_280 (by decide) ?_
  refine x_newa103 dX12_init_283 (fun x97 M98 => ?_)
  refine pfX12_109 rfl rfl dX12_init_285 (fun M99 => ?_)
  refine x_aload_n dX12_init_288 rfl ?_
  refine x_bipush (v := 28) dX12_init_289 (by decide) ?_
  refine x_newa104 dX12_init_291 (fun x100 M101 => ?_)
  refine x_dup dX12_init_293 (xc1_r _) ?_
  refine x_iconst (v := 0) dX12_init_294 (by decide) ?_
  refine x_ldcS (i := 2) rfl (by decide) dX12_init_295 ?_
  refine cmX12_115 rfl hs (Nat.le_of_ble_eq_true rfl) dX12_init_297 (fun x103 M102 => ?_)
  refine x_last dX12_init_300 (fun M104 => ?_)
  refine x_dup dX12_init_301 (xc1_r _) ?_
  refine x_iconst (v := 1) dX12_init_302 (by decide) ?_
  refine x_ldcS (i := 3) rfl (by decide) dX12_init_303 ?_
  refine cmX12_115 rfl hs (Nat.le_of_ble_eq_true rfl) dX12_init_305 (fun x106 M105 => ?_)
  refine x_last dX12_init_308 (fun M107 => ?_)
  refine x_dup dX12_init_309 (xc1_r _) ?_
  refine x_iconst (v := 2) dX12_init_310 (by decide) ?_
  refine x_ldcS (i := 4) rfl (by decide) dX12_init_311 ?_
  refine cmX12_115 rfl hs (Nat.le_of_ble_eq_true rfl) dX12_init_313 (fun x109 M108 => ?_)
  refine x_last dX12_init_316 (fun M110 => ?_)
  refine x_dup dX12_init_317 (xc1_r _) ?_
  refine x_iconst (v := 3) dX12_init_318 (by decide) ?_
  refine x_ldcS (i := 5) rfl (by decide) dX12_init_319 ?_
  refine cmX12_115 rfl hs (Nat.le_of_ble_eq_true rfl) dX12_init_321 (fun x112 M111 => ?_)
  refine x_last dX12_init_324 (fun M113 => ?_)
  refine x_dup dX12_init_325 (xc1_r _) ?_
  refine x_iconst (v := 4) dX12_init_326 (by decide) ?_
  refine x_ldcS (i := 6) rfl (by decide) dX12_init_327 ?_
  refine cmX12_115 rfl hs (Nat.le_of_ble_eq_true rfl) dX12_init_329 (fun x115 M114 => ?_)
  refine x_last dX12_init_332 (fun M116 => ?_)
  refine x_dup dX12_init_333 (xc1_r _) ?_
  refine x_iconst (v := 5) dX12_init_334 (by decide) ?_
  refine x_ldcS (i := 7) rfl (by decide) dX12_init_335 ?_
  refine cmX12_115 rfl hs (Nat.le_of_ble_eq_true rfl) dX12_init_337 (fun x118 M117 => ?_)
  refine x_last dX12_init_340 (fun M119 => ?_)
  refine x_dup dX12_init_341 (xc1_r _) ?_
  refine x_bipush (v := 6) dX12_init_342 (by decide) ?_
  refine x_ldcS (i := 8) rfl (by decide) dX12_init_344 ?_
  refine cmX12_115 rfl hs (Nat.le_of_ble_eq_true rfl) dX12_init_346 (fun x121 M120 => ?_)
  refine x_last dX12_init_349 (fun M122 => ?_)
  refine x_dup dX12_init_350 (xc1_r _) ?_
  refine x_bipush (v := 7) dX12_init_351 (by decide) ?_
  refine x_ldcS (i := 9) rfl (by decide) dX12_init_353 ?_
  refine cmX12_115 rfl hs (Nat.le_of_ble_eq_true rfl) dX12_init_355 (fun x124 M123 => ?_)
  refine x_last dX12_init_358 (fun M125 => ?_)
  refine x_dup dX12_init_359 (xc1_r _) ?_
  refine x_bipush (v := 8) dX12_init_360 (by decide) ?_
  refine x_ldcS (i := 10) rfl (by decide) dX12_init_362 ?_
  refine cmX12_115 rfl hs (Nat.le_of_ble_eq_true rfl) dX12_init_364 (fun x127 M126 => ?_)
  refine x_last dX12_init_367 (fun M128 => ?_)
  refine x_dup dX12_init_368 (xc1_r _) ?_
  refine x_bipush (v := 9) dX12_init_369 (by decide) ?_
  refine x_ldcS (i := 11) rfl (by decide) dX12_init_371 ?_
  refine cmX12_115 rfl hs (Nat.le_of_ble_eq_true rfl) dX12_init_373 (fun x130 M129 => ?_)
  refine x_last dX12_init_376 (fun M131 => ?_)
  refine x_dup dX12_init_377 (xc1_r _) ?_
  refine x_bipush (v := 10) dX12_init_378 (by decide) ?_
  refine x_ldcS (i := 12) rfl (by decide) dX12_init_380 ?_
  refine cmX12_115 rfl hs (Nat.le_of_ble_eq_true rfl) dX12_init_382 (fun x133 M132 => ?_)
  refine x_last dX12_init_385 (fun M134 => ?_)
  refine x_dup dX12_init_386 (xc1_r _) ?_
  refine x_bipush (v := 11) dX12_init_387 (by decide) ?_
  refine x_ldcS (i := 13) rfl (by decide) dX12_init_389 ?_
  refine cmX12_115 rfl hs (Nat.le_of_ble_eq_true rfl) dX12_init_391 (fun x136 M135 => ?_)
  refine x_last dX12_init_394 (fun M137 => ?_)
  refine x_dup dX12_init_395 (xc1_r _) ?_
  refine x_bipush (v := 12) dX12_init_396 (by decide) ?_
  refine x_ldcS (i := 14) rfl (by decide) dX12_init_398 ?_
  refine cmX12_115 rfl hs (Nat.le_of_ble_eq_true rfl) dX12_init_400 (fun x139 M138 => ?_)
  refine x_last dX12_init_403 (fun M140 => ?_)
  refine x_dup dX12_init_404 (xc1_r _) ?_
  refine x_bipush (v := 13) dX12_init_405 (by decide) ?_
  refine x_ldcS (i := 15) rfl (by decide) dX12_init_407 ?_
  refine cmX12_115 rfl hs (Nat.le_of_ble_eq_true rfl) dX12_init_409 (fun x142 M141 => ?_)
  refine x_last dX12_init_412 (fun M143 => ?_)
  refine x_dup dX12_init_413 (xc1_r _) ?_
  refine x_bipush (v := 14) dX12_init_414 (by decide) ?_
  refine x_ldcS (i := 16) rfl (by decide) dX12_init_416 ?_
  refine cmX12_115 rfl hs (Nat.le_of_ble_eq_true rfl) dX12_init_418 (fun x145 M144 => ?_)
  refine x_last dX12_init_421 (fun M146 => ?_)
  refine x_dup dX12_init_422 (xc1_r _) ?_
  refine x_bipush (v := 15) dX12_init_423 (by decide) ?_
  refine x_ldcS (i := 17) rfl (by decide) dX12_init_425 ?_
  refine cmX12_115 rfl hs (Nat.le_of_ble_eq_true rfl) dX12_init_427 (fun x148 M147 => ?_)
  refine x_last dX12_init_430 (fun M149 => ?_)
  refine x_dup dX12_init_431 (xc1_r _) ?_
  refine x_bipush (v := 16) dX12_init_432 (by decide) ?_
  refine x_ldcS (i := 18) rfl (by decide) dX12_init_434 ?_
  refine cmX12_115 rfl hs (Nat.le_of_ble_eq_true rfl) dX12_init_436 (fun x151 M150 => ?_)
  refine x_last dX12_init_439 (fun M152 => ?_)
  refine x_dup dX12_init_440 (xc1_r _) ?_
  refine x_bipush (v := 17) dX12_init_441 (by decide) ?_
  refine x_ldcS (i := 19) rfl (by decide) dX12_init_443 ?_
  refine cmX12_115 rfl hs (Nat.le_of_ble_eq_true rfl) dX12_init_445 (fun x154 M153 => ?_)
  refine x_last dX12_init_448 (fun M155 => ?_)
  refine x_dup dX12_init_449 (xc1_r _) ?_
  refine x_bipush (v := 18) dX12_init_450 (by decide) ?_
  refine x_ldcS (i := 20) rfl (by decide) dX12_init_452 ?_
  refine cmX12_115 rfl hs (Nat.le_of_ble_eq_true rfl) dX12_init_454 (fun x157 M156 => ?_)
  refine x_last dX12_init_457 (fun M158 => ?_)
  refine x_dup dX12_init_458 (xc1_r _) ?_
  refine x_bipush (v := 19) dX12_init_459 (by decide) ?_
  refine x_ldcS (i := 21) rfl (by decide) dX12_init_461 ?_
  refine cmX12_115 rfl hs (Nat.le_of_ble_eq_true rfl) dX12_init_463 (fun x160 M159 => ?_)
  refine x_last dX12_init_466 (fun M161 => ?_)
  refine x_dup dX12_init_467 (xc1_r _) ?_
  refine x_bipush (v := 20) dX12_init_468 (by decide) ?_
  refine x_ldcS (i := 22) rfl (by decide) dX12_init_470 ?_
  refine cmX12_115 rfl hs (Nat.le_of_ble_eq_true rfl) dX12_init_472 (fun x163 M162 => ?_)
  refine x_last dX12_init_475 (fun M164 => ?_)
  refine x_dup dX12_init_476 (xc1_r _) ?_
  refine x_bipush (v := 21) dX12_init_477 (by decide) ?_
  refine x_ldcS (i := 23) rfl (by decide) dX12_init_479 ?_
  refine cmX12_115 rfl hs (Nat.le_of_ble_eq_true rfl) dX12_init_481 (fun x166 M165 => ?_)
  refine x_last dX12_init_484 (fun M167 => ?_)
  refine x_dup dX12_init_485 (xc1_r _) ?_
  refine x_bipush (v := 22) dX12_init_486 (by decide) ?_
  refine x_ldcS (i := 24) rfl (by decide) dX12_init_488 ?_
  refine cmX12_115 rfl hs (Nat.le_of_ble_eq_true rfl) dX12_init_490 (fun x169 M168 => ?_)
  refine x_last dX12_init_493 (fun M170 => ?_)
  refine x_dup dX12_init_494 (xc1_r _) ?_
  refine x_bipush (v := 23) dX12_init_495 (by decide) ?_
  refine x_ldcS (i := 25) rfl (by decide) dX12_init_497 ?_
  refine cmX12_115 rfl hs (Nat.le_of_ble_eq_true rfl) dX12_init_499 (fun x172 M171 => ?_)
  refine x_last dX12_init_502 (fun M173 => ?_)
  refine x_dup dX12_init_503 (xc1_r _) ?_
  refine x_bipush (v := 24) dX12_init_504 (by decide) ?_
  refine x_ldcS (i := 26) rfl (by decide) dX12_init_506 ?_
  refine cmX12_115 rfl hs (Nat.le_of_ble_eq_true rfl) dX12_init_508 (fun x175 M174 => ?_)
  refine x_last dX12_init_511 (fun M176 => ?_)
  refine x_dup dX12_init_512 (xc1_r _) ?_
  refine x_bipush (v := 25) dX12_init_513 (by decide) ?_
  refine x_ldcS (i := 27) rfl (by decide) dX12_init_515 ?_
  refine cmX12_115 rfl hs (Nat.le_of_ble_eq_true rfl) dX12_init_517 (fun x178 M177 => ?_)
  refine x_last dX12_init_520 (fun M179 => ?_)
  refine x_dup dX12_init_521 (xc1_r _) ?_
  refine x_bipush (v := 26) dX12_init_522 (by decide) ?_
  refine x_ldcS (i := 28) rfl (by decide) dX12_init_524 ?_
  refine cmX12_115 rfl hs (Nat.le_of_ble_eq_true rfl) dX12_init_526 (fun x181 M180 => ?_)
  refine x_last dX12_init_529 (fun M182 => ?_)
  refine x_dup dX12_init_530 (xc1_r _) ?_
  refine x_bipush (v := 27) dX12_init_531 (by decide) ?_
  refine x_ldcS (i := 29) rfl (by decide) dX12_init_533 ?_
  refine cmX12_115 rfl hs (Nat.le_of_ble_eq_true rfl) dX12_init_535 (fun x184 M183 => ?_)
  refine x_last dX12_init_538 (fun M185 => ?_)
  refine pfX12_173 rfl rfl dX12_init_539 (fun M186 => ?_)
  refine x_aload_n dX12_init_542 rfl ?_
  refine x_sipush (v := 4000) dX12_init_543 (by decide) ?_
  refine x_newa101 dX12_init_546 (fun x187 M188 => ?_)
  refine pfX12_176 rfl rfl dX12_init_548 (fun M189 => ?_)
  refine x_aload_n dX12_init_551 rfl ?_
  refine x_sipush (v := 4000) dX12_init_552 (by decide) ?_
  refine x_newa100 dX12_init_555 (fun x190 M191 => ?_)
  refine pfX12_179 rfl rfl dX12_init_557 (fun M192 => ?_)
  refine x_aload_n dX12_init_560 rfl ?_
  refine x_sipush (v := 4000) dX12_init_561 (by decide) ?_
  refine x_newa101 dX12_init_564 (fun x193 M194 => ?_)
  refine pfX12_182 rfl rfl dX12_init_566 (fun M195 => ?_)
  refine x_aload_n dX12_init_569 rfl ?_
  refine x_sipush (v := 4000) dX12_init_570 (by decide) ?_
  refine x_newa102 dX12_init_573 (fun x196 M197 => ?_)
  refine pfX12_185 rfl rfl dX12_init_575 (fun M198 => ?_)
  refine x_aload_n dX12_init_578 rfl ?_
  refine x_bipush (v := 11) dX12_init_579 (by decide) ?_
  refine x_newa104 dX12_init_581 (fun x199 M200 => ?_)
  refine pfX12_188 rfl rfl dX12_init_583 (fun M201 => ?_)
  refine x_aload_n dX12_init_586 rfl ?_
  refine x_sipush (v := 2000) dX12_init_587 (by decide) ?_
  refine x_newa100 dX12_init_590 (fun x202 M203 => ?_)
  refine pfX12_191 rfl rfl dX12_init_592 (fun M204 => ?_)
  refine x_aload_n dX12_init_595 rfl ?_
  refine x_sipush (v := 2000) dX12_init_596 (by decide) ?_
  refine x_newa100 dX12_init_599 (fun x205 M206 => ?_)
  refine pfX12_194 rfl rfl dX12_init_601 (fun M207 => ?_)
  refine x_aload_n dX12_init_604 rfl ?_
  refine x_sipush (v := 2000) dX12_init_605 (by decide) ?_
  refine x_newa104 dX12_init_608 (fun x208 M209 => ?_)
  refine pfX12_197 rfl rfl dX12_init_610 (fun M210 => ?_)
  refine x_aload_n dX12_init_613 rfl ?_
  refine x_sipush (v := 2000) dX12_init_614 (by decide) ?_
  refine x_newa100 dX12_init_617 (fun x211 M212 => ?_)
  refine pfX12_200 rfl rfl dX12_init_619 (fun M213 => ?_)
  refine x_aload_n dX12_init_622 rfl ?_
  refine x_sipush (v := 2000) dX12_init_623 (by decide) ?_
  refine x_newa104 dX12_init_626 (fun x214 M215 => ?_)
  refine pfX12_203 rfl rfl dX12_init_628 (fun M216 => ?_)
  refine x_aload_n dX12_init_631 rfl ?_
  refine x_sipush (v := 2000) dX12_init_632 (by decide) ?_
  refine x_newa100 dX12_init_635 (fun x217 M218 => ?_)
  refine pfX12_206 rfl rfl dX12_init_637 (fun M219 => ?_)
  refine x_aload_n dX12_init_640 rfl ?_
  refine x_sipush (v := 2000) dX12_init_641 (by decide) ?_
  refine x_newa100 dX12_init_644 (fun x220 M221 => ?_)
  refine pfX12_209 rfl rfl dX12_init_646 (fun M222 => ?_)
  refine x_aload_n dX12_init_649 rfl ?_
  refine x_sipush (v := 2000) dX12_init_650 (by decide) ?_
  refine x_newa100 dX12_init_653 (fun x223 M224 => ?_)
  refine pfX12_212 rfl rfl dX12_init_655 (fun M225 => ?_)
  refine x_aload_n dX12_init_658 rfl ?_
  refine x_bipush (v := 48) dX12_init_659 (by decide) ?_
  refine x_newa100 dX12_init_661 (fun x226 M227 => ?_)
  refine pfX12_215 rfl rfl dX12_init_663 (fun M228 => ?_)
  refine x_aload_n dX12_init_666 rfl ?_
  refine x_bipush (v := 8) dX12_init_667 (by decide) ?_
  refine x_newa100 dX12_init_669 (fun x229 M230 => ?_)
  refine pfX12_218 rfl rfl dX12_init_671 (fun M231 => ?_)
  refine x_aload_n dX12_init_674 rfl ?_
  refine x_bipush (v := 16) dX12_init_675 (by decide) ?_
  refine x_newa100 dX12_init_677 (fun x232 M233 => ?_)
  refine pfX12_221 rfl rfl dX12_init_679 (fun M234 => ?_)
  refine x_aload_n dX12_init_682 rfl ?_
  refine x_sipush (v := 192) dX12_init_683 (by decide) ?_
  refine x_newa100 dX12_init_686 (fun x235 M236 => ?_)
  refine pfX12_224 rfl rfl dX12_init_688 (fun M237 => ?_)
  refine x_aload_n dX12_init_691 rfl ?_
  refine x_sipush (v := 9600) dX12_init_692 (by decide) ?_
  refine x_newa100 dX12_init_695 (fun x238 M239 => ?_)
  refine pfX12_227 rfl rfl dX12_init_697 (fun M240 => ?_)
  refine x_aload_n dX12_init_700 rfl ?_
  refine x_sipush (v := 3000) dX12_init_701 (by decide) ?_
  refine x_newa100 dX12_init_704 (fun x241 M242 => ?_)
  refine pfX12_230 rfl rfl dX12_init_706 (fun M243 => ?_)
  refine x_aload_n dX12_init_709 rfl ?_
  refine x_bipush (v := 120) dX12_init_710 (by decide) ?_
  refine x_newa100 dX12_init_712 (fun x244 M245 => ?_)
  refine pfX12_233 rfl rfl dX12_init_714 (fun M246 => ?_)
  refine x_aload_n dX12_init_717 rfl ?_
  refine x_sipush (v := 300) dX12_init_718 (by decide) ?_
  refine x_newa100 dX12_init_721 (fun x247 M248 => ?_)
  refine pfX12_236 rfl rfl dX12_init_723 (fun M249 => ?_)
  refine x_aload_n dX12_init_726 rfl ?_
  refine x_sipush (v := 200) dX12_init_727 (by decide) ?_
  refine pfX12_239 rfl dX12_init_730 (fun M250 => ?_)
  refine x_aload_n dX12_init_733 rfl ?_
  refine x_iconst (v := 1) dX12_init_734 (by decide) ?_
  refine pfX12_243 rfl dX12_init_735 (fun M251 => ?_)
  refine x_aload_n dX12_init_738 rfl ?_
  refine x_iconst (v := -1) dX12_init_739 (by decide) ?_
  refine pfX12_246 rfl dX12_init_740 (fun M252 => ?_)
  refine x_aload_n dX12_init_743 rfl ?_
  refine x_sipush (v := 8000) dX12_init_744 (by decide) ?_
  refine x_newa100 dX12_init_747 (fun x253 M254 => ?_)
  refine pfX12_249 rfl rfl dX12_init_749 (fun M255 => ?_)
  refine x_aload_n dX12_init_752 rfl ?_
  refine x_sipush (v := 8000) dX12_init_753 (by decide) ?_
  refine x_newa100 dX12_init_756 (fun x256 M257 => ?_)
  refine pfX12_252 rfl rfl dX12_init_758 (fun M258 => ?_)
  refine x_aload_n dX12_init_761 rfl ?_
  refine x_sipush (v := 8000) dX12_init_762 (by decide) ?_
  refine x_newa100 dX12_init_765 (fun x259 M260 => ?_)
  refine pfX12_255 rfl rfl dX12_init_767 (fun M261 => ?_)
  refine x_aload_n dX12_init_770 rfl ?_
  refine x_sipush (v := 1001) dX12_init_771 (by decide) ?_
  refine x_newa100 dX12_init_774 (fun x262 M263 => ?_)
  refine pfX12_258 rfl rfl dX12_init_776 (fun M264 => ?_)
  refine x_aload_n dX12_init_779 rfl ?_
  refine x_sipush (v := 1001) dX12_init_780 (by decide) ?_
  refine x_newa100 dX12_init_783 (fun x265 M266 => ?_)
  refine pfX12_261 rfl rfl dX12_init_785 (fun M267 => ?_)
  refine x_aload_n dX12_init_788 rfl ?_
  refine x_bipush (v := 8) dX12_init_789 (by decide) ?_
  refine x_newa102 dX12_init_791 (fun x268 M269 => ?_)
  refine pfX12_264 rfl rfl dX12_init_793 (fun M270 => ?_)
  refine x_aload_n dX12_init_796 rfl ?_
  refine x_sipush (v := 128) dX12_init_797 (by decide) ?_
  refine x_newa100 dX12_init_800 (fun x271 M272 => ?_)
  refine pfX12_267 rfl rfl dX12_init_802 (fun M273 => ?_)
  refine x_aload_n dX12_init_805 rfl ?_
  refine x_sipush (v := 128) dX12_init_806 (by decide) ?_
  refine x_newa100 dX12_init_809 (fun x274 M275 => ?_)
  refine pfX12_270 rfl rfl dX12_init_811 (fun M276 => ?_)
  refine x_aload_n dX12_init_814 rfl ?_
  refine x_sipush (v := 128) dX12_init_815 (by decide) ?_
  refine x_newa100 dX12_init_818 (fun x277 M278 => ?_)
  refine pfX12_273 rfl rfl dX12_init_820 (fun M279 => ?_)
  refine x_aload_n dX12_init_823 rfl ?_
  refine x_sipush (v := 128) dX12_init_824 (by decide) ?_
  refine x_newa100 dX12_init_827 (fun x280 M281 => ?_)
  refine pfX12_276 rfl rfl dX12_init_829 (fun M282 => ?_)
  refine x_aload_n dX12_init_832 rfl ?_
  refine x_iconst (v := 4) dX12_init_833 (by decide) ?_
  refine x_newa100 dX12_init_834 (fun x283 M284 => ?_)
  refine pfX12_279 rfl rfl dX12_init_836 (fun M285 => ?_)
  refine x_aload_n dX12_init_839 rfl ?_
  refine x_bipush (v := 8) dX12_init_840 (by decide) ?_
  refine x_newa100 dX12_init_842 (fun x286 M287 => ?_)
  refine x_dup dX12_init_844 (xc1_r _) ?_
  refine x_iconst (v := 0) dX12_init_845 (by decide) ?_
  refine x_iconst (v := -1) dX12_init_846 (by decide) ?_
  refine x_iast dX12_init_847 (fun M288 => ?_)
  refine x_dup dX12_init_848 (xc1_r _) ?_
  refine x_iconst (v := 1) dX12_init_849 (by decide) ?_
  refine x_iconst (v := -1) dX12_init_850 (by decide) ?_
  refine x_iast dX12_init_851 (fun M289 => ?_)
  refine x_dup dX12_init_852 (xc1_r _) ?_
  refine x_iconst (v := 2) dX12_init_853 (by decide) ?_
  refine x_iconst (v := -1) dX12_init_854 (by decide) ?_
  refine x_iast dX12_init_855 (fun M290 => ?_)
  refine x_dup dX12_init_856 (xc1_r _) ?_
  refine x_iconst (v := 3) dX12_init_857 (by decide) ?_
  refine x_iconst (v := -1) dX12_init_858 (by decide) ?_
  refine x_iast dX12_init_859 (fun M291 => ?_)
  refine x_dup dX12_init_860 (xc1_r _) ?_
  refine x_iconst (v := 4) dX12_init_861 (by decide) ?_
  refine x_iconst (v := -1) dX12_init_862 (by decide) ?_
  refine x_iast dX12_init_863 (fun M292 => ?_)
  refine x_dup dX12_init_864 (xc1_r _) ?_
  refine x_iconst (v := 5) dX12_init_865 (by decide) ?_
  refine x_iconst (v := -1) dX12_init_866 (by decide) ?_
  refine x_iast dX12_init_867 (fun M293 => ?_)
  refine x_dup dX12_init_868 (xc1_r _) ?_
  refine x_bipush (v := 6) dX12_init_869 (by decide) ?_
  refine x_iconst (v := -1) dX12_init_871 (by decide) ?_
  refine x_iast dX12_init_872 (fun M294 => ?_)
  refine x_dup dX12_init_873 (xc1_r _) ?_
  refine x_bipush (v := 7) dX12_init_874 (by decide) ?_
  refine x_iconst (v := -1) dX12_init_876 (by decide) ?_
  refine x_iast dX12_init_877 (fun M295 => ?_)
  refine pfX12_282 rfl rfl dX12_init_878 (fun M296 => ?_)
  refine x_aload_n dX12_init_881 rfl ?_
  refine x_bipush (v := 8) dX12_init_882 (by decide) ?_
  refine x_newa100 dX12_init_884 (fun x297 M298 => ?_)
  refine pfX12_285 rfl rfl dX12_init_886 (fun M299 => ?_)
  refine x_aload_n dX12_init_889 rfl ?_
  refine x_bipush (v := 8) dX12_init_890 (by decide) ?_
  refine x_newa100 dX12_init_892 (fun x300 M301 => ?_)
  refine pfX12_288 rfl rfl dX12_init_894 (fun M302 => ?_)
  refine x_aload_n dX12_init_897 rfl ?_
  refine x_bipush (v := 8) dX12_init_898 (by decide) ?_
  refine x_newa100 dX12_init_900 (fun x303 M304 => ?_)
  refine pfX12_291 rfl rfl dX12_init_902 (fun M305 => ?_)
  refine x_aload_n dX12_init_905 rfl ?_
  refine x_bipush (v := 64) dX12_init_906 (by decide) ?_
  refine x_newa100 dX12_init_908 (fun x306 M307 => ?_)
  refine pfX12_294 rfl rfl dX12_init_910 (fun M308 => ?_)
  refine x_aload_n dX12_init_913 rfl ?_
  refine x_bipush (v := 64) dX12_init_914 (by decide) ?_
  refine x_newa100 dX12_init_916 (fun x309 M310 => ?_)
  refine pfX12_297 rfl rfl dX12_init_918 (fun M311 => ?_)
  refine x_aload_n dX12_init_921 rfl ?_
  refine x_bipush (v := 64) dX12_init_922 (by decide) ?_
  refine x_newa102 dX12_init_924 (fun x312 M313 => ?_)
  refine pfX12_300 rfl rfl dX12_init_926 (fun M314 => ?_)
  refine x_aload_n dX12_init_929 rfl ?_
  refine x_bipush (v := 64) dX12_init_930 (by decide) ?_
  refine x_newa100 dX12_init_932 (fun x315 M316 => ?_)
  refine pfX12_303 rfl rfl dX12_init_934 (fun M317 => ?_)
  refine x_aload_n dX12_init_937 rfl ?_
  refine x_bipush (v := 8) dX12_init_938 (by decide) ?_
  refine x_newa100 dX12_init_940 (fun x318 M319 => ?_)
  refine pfX12_306 rfl rfl dX12_init_942 (fun M320 => ?_)
  refine x_aload_n dX12_init_945 rfl ?_
  refine x_sipush (v := 400) dX12_init_946 (by decide) ?_
  refine x_newa100 dX12_init_949 (fun x321 M322 => ?_)
  refine pfX12_309 rfl rfl dX12_init_951 (fun M323 => ?_)
  refine x_aload_n dX12_init_954 rfl ?_
  refine x_sipush (v := 1600) dX12_init_955 (by decide) ?_
  refine x_newa100 dX12_init_958 (fun x324 M325 => ?_)
  refine pfX12_312 rfl rfl dX12_init_960 (fun M326 => ?_)
  refine x_aload_n dX12_init_963 rfl ?_
  refine x_bipush (v := 8) dX12_init_964 (by decide) ?_
  refine x_newa102 dX12_init_966 (fun x327 M328 => ?_)
  refine pfX12_315 rfl rfl dX12_init_968 (fun M329 => ?_)
  refine x_aload_n dX12_init_971 rfl ?_
  refine x_sipush (v := 8000) dX12_init_972 (by decide) ?_
  refine x_newa100 dX12_init_975 (fun x330 M331 => ?_)
  refine pfX12_318 rfl rfl dX12_init_977 (fun M332 => ?_)
  refine x_aload_n dX12_init_980 rfl ?_
  refine x_sipush (v := 1000) dX12_init_981 (by decide) ?_
  refine x_newa100 dX12_init_984 (fun x333 M334 => ?_)
  refine pfX12_321 rfl rfl dX12_init_986 (fun M335 => ?_)
  refine x_aload_n dX12_init_989 rfl ?_
  refine x_bipush (v := 8) dX12_init_990 (by decide) ?_
  refine x_newa100 dX12_init_992 (fun x336 M337 => ?_)
  refine pfX12_324 rfl rfl dX12_init_994 (fun M338 => ?_)
  refine x_aload_n dX12_init_997 rfl ?_
  refine x_bipush (v := 16) dX12_init_998 (by decide) ?_
  refine x_newa100 dX12_init_1000 (fun x339 M340 => ?_)
  refine pfX12_327 rfl rfl dX12_init_1002 (fun M341 => ?_)
  refine x_aload_n dX12_init_1005 rfl ?_
  refine x_bipush (v := 16) dX12_init_1006 (by decide) ?_
  refine x_newa100 dX12_init_1008 (fun x342 M343 => ?_)
  refine pfX12_330 rfl rfl dX12_init_1010 (fun M344 => ?_)
  refine x_aload_n dX12_init_1013 rfl ?_
  refine x_iconst (v := 4) dX12_init_1014 (by decide) ?_
  refine x_newa100 dX12_init_1015 (fun x345 M346 => ?_)
  refine pfX12_333 rfl rfl dX12_init_1017 (fun M347 => ?_)
  refine x_aload_n dX12_init_1020 rfl ?_
  refine x_iconst (v := 4) dX12_init_1021 (by decide) ?_
  refine x_newa100 dX12_init_1022 (fun x348 M349 => ?_)
  refine pfX12_336 rfl rfl dX12_init_1024 (fun M350 => ?_)
  refine x_aload_n dX12_init_1027 rfl ?_
  refine x_bipush (v := 8) dX12_init_1028 (by decide) ?_
  refine x_newa100 dX12_init_1030 (fun x351 M352 => ?_)
  refine pfX12_339 rfl rfl dX12_init_1032 (fun M353 => ?_)
  refine x_aload_n dX12_init_1035 rfl ?_
  refine x_bipush (v := 8) dX12_init_1036 (by decide) ?_
  refine x_newa100 dX12_init_1038 (fun x354 M355 => ?_)
  refine pfX12_342 rfl rfl dX12_init_1040 (fun M356 => ?_)
  refine x_aload_n dX12_init_1043 rfl ?_
  refine x_bipush (v := 64) dX12_init_1044 (by decide) ?_
  refine x_newa100 dX12_init_1046 (fun x357 M358 => ?_)
  refine pfX12_345 rfl rfl dX12_init_1048 (fun M359 => ?_)
  refine x_aload_n dX12_init_1051 rfl ?_
  refine x_bipush (v := 64) dX12_init_1052 (by decide) ?_
  refine x_newa100 dX12_init_1054 (fun x360 M361 => ?_)
  refine pfX12_348 rfl rfl dX12_init_1056 (fun M362 => ?_)
  refine x_aload_n dX12_init_1059 rfl ?_
  refine x_bipush (v := 64) dX12_init_1060 (by decide) ?_
  refine x_newa100 dX12_init_1062 (fun x363 M364 => ?_)
  refine pfX12_351 rfl rfl dX12_init_1064 (fun M365 => ?_)
  refine x_aload_n dX12_init_1067 rfl ?_
  refine x_bipush (v := 64) dX12_init_1068 (by decide) ?_
  refine x_newa100 dX12_init_1070 (fun x366 M367 => ?_)
  refine pfX12_354 rfl rfl dX12_init_1072 (fun M368 => ?_)
  refine x_aload_n dX12_init_1075 rfl ?_
  refine x_bipush (v := 64) dX12_init_1076 (by decide) ?_
  refine x_newa100 dX12_init_1078 (fun x369 M370 => ?_)
  refine pfX12_357 rfl rfl dX12_init_1080 (fun M371 => ?_)
  refine x_aload_n dX12_init_1083 rfl ?_
  refine x_bipush (v := 8) dX12_init_1084 (by decide) ?_
  refine x_newa100 dX12_init_1086 (fun x372 M373 => ?_)
  refine pfX12_360 rfl rfl dX12_init_1088 (fun M374 => ?_)
  refine x_aload_n dX12_init_1091 rfl ?_
  refine x_bipush (v := 9) dX12_init_1092 (by decide) ?_
  refine x_newa100 dX12_init_1094 (fun x375 M376 => ?_)
  refine pfX12_363 rfl rfl dX12_init_1096 (fun M377 => ?_)
  refine x_aload_n dX12_init_1099 rfl ?_
  refine x_bipush (v := 16) dX12_init_1100 (by decide) ?_
  refine x_newa100 dX12_init_1102 (fun x378 M379 => ?_)
  refine pfX12_366 rfl rfl dX12_init_1104 (fun M380 => ?_)
  refine x_aload_n dX12_init_1107 rfl ?_
  refine x_bipush (v := 16) dX12_init_1108 (by decide) ?_
  refine x_newa100 dX12_init_1110 (fun x381 M382 => ?_)
  refine pfX12_369 rfl rfl dX12_init_1112 (fun M383 => ?_)
  refine x_aload_n dX12_init_1115 rfl ?_
  refine x_bipush (v := 8) dX12_init_1116 (by decide) ?_
  refine x_newa100 dX12_init_1118 (fun x384 M385 => ?_)
  refine pfX12_372 rfl rfl dX12_init_1120 (fun M386 => ?_)
  refine x_aload_n dX12_init_1123 rfl ?_
  refine x_bipush (v := 8) dX12_init_1124 (by decide) ?_
  refine x_newa100 dX12_init_1126 (fun x387 M388 => ?_)
  refine pfX12_375 rfl rfl dX12_init_1128 (fun M389 => ?_)
  exact x_vret rfl dX12_init_1131
theorem s183 {l : Launch} {d : Nat} {rec : Nat → List Value → Mem → XA} (hS : Nonempty XS) (hs : XSnd l xmt rec d) : Snd1 l 183 (b183 rec) d := by
  intro as M r M' h0
  unfold b183 at h0
  obtain ⟨a0, l1, e1, h1⟩ := aR_inv h0
  obtain ⟨ez, h⟩ := aZ_inv h1
  subst ez
  subst e1
  exact xmet (M := M) (as := [va_rf a0]) (lo := [some (va_rf a0)]) 183 xq183 xm183 (by rw [xargs_rf, xargs_nil]; exact ⟨rfl, trivial⟩) (by rw [xargs_rf, xargs_nil]; exact Nat.le_of_ble_eq_true rfl) (fun S G K => x_weak (by exact ⟨rfl, trivial⟩) (k183 hs a0 M)) h hS
