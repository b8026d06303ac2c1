set_option maxRecDepth 100000 in
def c350 (rec : Nat → List Value → Mem → XA) (a0 : Option Nat) (a1 : Option Nat) (M0 : Mem) : XA :=
  gtI (0, 3) M0 a0 0 fun x1 =>
  ptI (0, 3) M0 a0 0 (x1 + ((1 : Int32))) fun M2 =>
  gtP (0, 3) M2 a0 1 fun x3 =>
  gtI (0, 3) M2 a0 2 fun x4 =>
  vC (0, 3) M2 a0 <|
  cV (rec 349 [va_rf a0, va_rf a1, va_rf x3, .int x4] M2) fun M5 =>
  rtZ ((1 : Int32)) M5
def b350 (rec : Nat → List Value → Mem → XA) (as : List Value) (M0 : Mem) : XA := aR as fun a0 as => aR as fun a1 as => aZ as (c350 rec a0 a1 M0)
set_option maxRecDepth 100000 in
set_option maxHeartbeats 4000000 in
theorem k350 {S : XS} {G : XG} {K : Nat × Nat} {l : Launch} {d : Nat} {rec : Nat → List Value → Mem → XA} (hs : XSnd l xmt rec d) (a0 : Option Nat) (a1 : Option Nat) (M0 : Mem) : Xe S G K l (yJx4a65c_add_9ea2d, cJx4a65c_add_9ea2d, 2, some .boolean) d 0 [some (va_rf a0), some (va_rf a1)] [] M0 (c350 rec a0 a1 M0) := by
  unfold c350
  refine x_aload_n dJx4a65c_add_9ea2d_0 rfl ?_
  refine x_dup dJx4a65c_add_9ea2d_1 (xc1_r _) ?_
  refine gfJx4a65c_63 rfl dJx4a65c_add_9ea2d_2 (fun x1 => ?_)
  refine x_iconst (v := 1) dJx4a65c_add_9ea2d_5 (by decide) ?_
  refine x_iadd dJx4a65c_add_9ea2d_6 ?_
  refine pfJx4a65c_63 rfl dJx4a65c_add_9ea2d_7 (fun M2 => ?_)
  refine x_aload_n dJx4a65c_add_9ea2d_10 rfl ?_
  refine x_aload_n dJx4a65c_add_9ea2d_11 rfl ?_
  refine x_aload_n dJx4a65c_add_9ea2d_12 rfl ?_
  refine gfJx4a65c_9 rfl dJx4a65c_add_9ea2d_13 (fun x3 => ?_)
  refine x_aload_n dJx4a65c_add_9ea2d_16 rfl ?_
  refine gfJx4a65c_48 rfl dJx4a65c_add_9ea2d_17 (fun x4 => ?_)
  refine cmJx4a65c_131 rfl hs (Nat.le_of_ble_eq_true rfl) dJx4a65c_add_9ea2d_20 (fun M5 => ?_)
  refine x_iconst (v := 1) dJx4a65c_add_9ea2d_23 (by decide) ?_
  exact x_zret rfl dJx4a65c_add_9ea2d_24
theorem s350 {l : Launch} {d : Nat} {rec : Nat → List Value → Mem → XA} (hS : Nonempty XS) (hs : XSnd l xmt rec d) : Snd1 l 350 (b350 rec) d := by
  intro as M r M' h0
  unfold b350 at h0
  obtain ⟨a0, l1, e1, h1⟩ := aR_inv h0
  obtain ⟨a1, l2, e2, h2⟩ := aR_inv h1
  obtain ⟨ez, h⟩ := aZ_inv h2
  subst ez
  subst e2
  subst e1
  exact xmet (M := M) (as := [va_rf a0, va_rf a1]) (lo := [some (va_rf a0), some (va_rf a1)]) 350 xq350 xm350 (by rw [xargs_rf, xargs_rf, xargs_nil]; exact ⟨rfl, ⟨rfl, trivial⟩⟩) (by rw [xargs_rf, xargs_rf, xargs_nil]; exact Nat.le_of_ble_eq_true rfl) (fun S G K => x_weak (by exact ⟨rfl, ⟨rfl, trivial⟩⟩) (k350 hs a0 a1 M)) h hS
set_option maxRecDepth 100000 in
def c351 (rec : Nat → List Value → Mem → XA) (a0 : Int32) (a1 : Int32) (a2 : Int32) (M0 : Mem) : XA :=
  if a1 ≤ a2 then (
    if 0 ≤ a1 then (
      if a2 ≤ a0 then (
        some (.null, M0)) else (
        none)) else (
      none)) else (
    none)
def b351 (rec : Nat → List Value → Mem → XA) (as : List Value) (M0 : Mem) : XA := aI as fun a0 as => aI as fun a1 as => aI as fun a2 as => aZ as (c351 rec a0 a1 a2 M0)
set_option maxRecDepth 100000 in
set_option maxHeartbeats 4000000 in
theorem k351 {S : XS} {G : XG} {K : Nat × Nat} {l : Launch} {d : Nat} {rec : Nat → List Value → Mem → XA} (hs : XSnd l xmt rec d) (a0 : Int32) (a1 : Int32) (a2 : Int32) (M0 : Mem) : Xe S G K l (yJ7_rangeCheck_23922, cJ7_rangeCheck_23922, 3, none) d 0 [some (.int a0), some (.int a1), some (.int a2)] [] M0 (c351 rec a0 a1 a2 M0) := by
  unfold c351
  refine x_iload_n dJ7_rangeCheck_23922_0 rfl ?_
  refine x_iload_n dJ7_rangeCheck_23922_1 rfl ?_
  refine x_icmp_le (tgt := 46) dJ7_rangeCheck_23922_2 (by decide) (fun _ => ?_) (fun _ => ?_)
  · refine x_iload_n dJ7_rangeCheck_23922_46 rfl ?_
    refine x_if_ge (tgt := 59) dJ7_rangeCheck_23922_47 (by decide) (fun _ => ?_) (fun _ => ?_)
    · refine x_iload_n dJ7_rangeCheck_23922_59 rfl ?_
      refine x_iload_n dJ7_rangeCheck_23922_60 rfl ?_
      refine x_icmp_le (tgt := 73) dJ7_rangeCheck_23922_61 (by decide) (fun _ => ?_) (fun _ => ?_)
      · exact x_vret rfl dJ7_rangeCheck_23922_73
      · exact x_none
    · exact x_none
  · exact x_none
theorem s351 {l : Launch} {d : Nat} {rec : Nat → List Value → Mem → XA} (hS : Nonempty XS) (hs : XSnd l xmt rec d) : Snd1 l 351 (b351 rec) d := by
  intro as M r M' h0
  unfold b351 at h0
  obtain ⟨a0, l1, e1, h1⟩ := aI_inv h0
  obtain ⟨a1, l2, e2, h2⟩ := aI_inv h1
  obtain ⟨a2, l3, e3, h3⟩ := aI_inv h2
  obtain ⟨ez, h⟩ := aZ_inv h3
  subst ez
  subst e3
  subst e2
  subst e1
  exact xmet (M := M) (as := [.int a0, .int a1, .int a2]) (lo := [some (.int a0), some (.int a1), some (.int a2)]) 351 xq351 xm351 (by rw [xargs_i, xargs_i, xargs_i, xargs_nil]; exact ⟨rfl, ⟨rfl, ⟨rfl, trivial⟩⟩⟩) (by rw [xargs_i, xargs_i, xargs_i, xargs_nil]; exact Nat.le_of_ble_eq_true rfl) (fun S G K => x_weak (by exact ⟨rfl, ⟨rfl, ⟨rfl, trivial⟩⟩⟩) (k351 hs a0 a1 a2 M)) h hS
set_option maxRecDepth 100000 in
def c352_5 (rec : Nat → List Value → Mem → XA) (a0 : Option Nat) (a1 : Int32) (j20 : Mem → XA) (x1 : Int32) : (Int32 × Mem) → ((Int32 × Mem) → XA) → XA := fun s3 j5 =>
  if x1 ≤ s3.1 then (
    j20 s3.2) else (
    asI 100 s3.2 a0 s3.1 a1 fun M4 =>
    lt (s3.1 + (1 : Int32)) fun (x5 : Int32) =>
    j5 (x5, M4))
set_option maxRecDepth 100000 in
def c352 (rec : Nat → List Value → Mem → XA) (a0 : Option Nat) (a1 : Int32) (M0 : Mem) : XA :=
  aln M0 a0 fun x1 =>
  jn (fun (s2 : Mem) =>
    some (.null, s2)) fun j20 =>
  lp (c352_5 rec a0 a1 j20 x1) 4294967296 ((0 : Int32), M0)
def b352 (rec : Nat → List Value → Mem → XA) (as : List Value) (M0 : Mem) : XA := aR as fun a0 as => aI as fun a1 as => aZ as (c352 rec a0 a1 M0)
set_option maxRecDepth 100000 in
set_option maxHeartbeats 4000000 in
theorem k352 {S : XS} {G : XG} {K : Nat × Nat} {l : Launch} {d : Nat} {rec : Nat → List Value → Mem → XA} (hs : XSnd l xmt rec d) (a0 : Option Nat) (a1 : Int32) (M0 : Mem) : Xe S G K l (yJ7_fill_53178, cJ7_fill_53178, 4, none) d 0 [some (va_rf a0), some (.int a1), none, none] [] M0 (c352 rec a0 a1 M0) := by
  unfold c352
  refine x_iconst (v := 0) dJ7_fill_53178_0 (by decide) ?_
  refine x_istore_n (lo' := [some (va_rf a0), some (.int a1), some (.int ((0 : Int32))), none]) dJ7_fill_53178_1 (by decide) rfl rfl ?_
  refine x_aload_n dJ7_fill_53178_2 rfl ?_
  refine x_alen dJ7_fill_53178_3 (fun x1 => ?_)
  refine x_istore_n (lo' := [some (va_rf a0), some (.int a1), some (.int ((0 : Int32))), some (.int x1)]) dJ7_fill_53178_4 (by decide) rfl rfl ?_
  refine x_jn (σ := Mem) 20 (fun s2 => [none, none, none, none]) (fun s2 => []) (fun s2 => s2) (fun s2 => ?_) (fun j20 hj20 => ?_)
  · exact x_vret rfl dJ7_fill_53178_20
  refine x_weak (by exact ⟨rfl, ⟨rfl, ⟨rfl, ⟨rfl, trivial⟩⟩⟩⟩) (x_lp (σ := Int32 × Mem) 5 (fun s3 => [some (va_rf a0), some (.int a1), some (.int s3.1), some (.int x1)]) (fun s3 => []) (fun s3 => s3.2) (fun s3 j5 hj5 => ?_) 4294967296 ((0 : Int32), M0))
  · refine x_iload_n dJ7_fill_53178_5 rfl ?_
    refine x_iload_n dJ7_fill_53178_6 rfl ?_
    refine x_icmp_ge (tgt := 20) dJ7_fill_53178_7 (by decide) (fun _ => ?_) (fun _ => ?_)
    · exact x_weak (by exact trivial) (hj20 s3.2)
    · refine x_aload_n dJ7_fill_53178_10 rfl ?_
      refine x_iload_n dJ7_fill_53178_11 rfl ?_
      refine x_iload_n dJ7_fill_53178_12 rfl ?_
      refine x_iast dJ7_fill_53178_13 (fun M4 => ?_)
      refine x_iincN (v := 1) (lo' := fun x5 => [some (va_rf a0), some (.int a1), some (.int x5), some (.int x1)]) (by decide) dJ7_fill_53178_14 rfl (by decide) rfl (fun _ => rfl) (fun x5 => ?_)
      refine x_goto (tgt := 5) dJ7_fill_53178_17 (by decide) ?_
      exact x_weak (by exact ⟨rfl, ⟨rfl, ⟨rfl, ⟨rfl, trivial⟩⟩⟩⟩) (hj5 (x5, M4))
theorem s352 {l : Launch} {d : Nat} {rec : Nat → List Value → Mem → XA} (hS : Nonempty XS) (hs : XSnd l xmt rec d) : Snd1 l 352 (b352 rec) d := by
  intro as M r M' h0
  unfold b352 at h0
  obtain ⟨a0, l1, e1, h1⟩ := aR_inv h0
  obtain ⟨a1, l2, e2, h2⟩ := aI_inv h1
  obtain ⟨ez, h⟩ := aZ_inv h2
  subst ez
  subst e2
  subst e1
  exact xmet (M := M) (as := [va_rf a0, .int a1]) (lo := [some (va_rf a0), some (.int a1)]) 352 xq352 xm352 (by rw [xargs_rf, xargs_i, xargs_nil]; exact ⟨rfl, ⟨rfl, trivial⟩⟩) (by rw [xargs_rf, xargs_i, xargs_nil]; exact Nat.le_of_ble_eq_true rfl) (fun S G K => x_weak (by exact ⟨rfl, ⟨rfl, trivial⟩⟩) (k352 hs a0 a1 M)) h hS
set_option maxRecDepth 100000 in
def c353_10 (rec : Nat → List Value → Mem → XA) (a0 : Option Nat) (a2 : Int32) (a3 : Int32) (j27 : Mem → XA) : (Int32 × Mem) → ((Int32 × Mem) → XA) → XA := fun s4 j10 =>
  if a2 ≤ s4.1 then (
    j27 s4.2) else (
    asI 100 s4.2 a0 s4.1 a3 fun M5 =>
    lt (s4.1 + (1 : Int32)) fun (x6 : Int32) =>
    j10 (x6, M5))
set_option maxRecDepth 100000 in
def c353 (rec : Nat → List Value → Mem → XA) (a0 : Option Nat) (a1 : Int32) (a2 : Int32) (a3 : Int32) (M0 : Mem) : XA :=
  aln M0 a0 fun x1 =>
  cV (rec 351 [.int x1, .int a1, .int a2] M0) fun M2 =>
  jn (fun (s3 : Mem) =>
    some (.null, s3)) fun j27 =>
  lp (c353_10 rec a0 a2 a3 j27) 4294967296 (a1, M2)
def b353 (rec : Nat → List Value → Mem → XA) (as : List Value) (M0 : Mem) : XA := aR as fun a0 as => aI as fun a1 as => aI as fun a2 as => aI as fun a3 as => aZ as (c353 rec a0 a1 a2 a3 M0)
set_option maxRecDepth 100000 in
set_option maxHeartbeats 4000000 in
theorem k353 {S : XS} {G : XG} {K : Nat × Nat} {l : Launch} {d : Nat} {rec : Nat → List Value → Mem → XA} (hs : XSnd l xmt rec d) (a0 : Option Nat) (a1 : Int32) (a2 : Int32) (a3 : Int32) (M0 : Mem) : Xe S G K l (yJ7_fill_fda19, cJ7_fill_fda19, 5, none) d 0 [some (va_rf a0), some (.int a1), some (.int a2), some (.int a3), none] [] M0 (c353 rec a0 a1 a2 a3 M0) := by
  unfold c353
  refine x_aload_n dJ7_fill_fda19_0 rfl ?_
  refine x_alen dJ7_fill_fda19_1 (fun x1 => ?_)
  refine x_iload_n dJ7_fill_fda19_2 rfl ?_
  refine x_iload_n dJ7_fill_fda19_3 rfl ?_
  refine cmJ7_13 rfl hs (Nat.le_of_ble_eq_true rfl) dJ7_fill_fda19_4 (fun M2 => ?_)
  refine x_iload_n dJ7_fill_fda19_7 rfl ?_
  refine x_istore (lo' := [some (va_rf a0), some (.int a1), some (.int a2), some (.int a3), some (.int a1)]) dJ7_fill_fda19_8 (by decide) rfl rfl ?_
  refine x_jn (σ := Mem) 27 (fun s3 => [none, none, none, none, none]) (fun s3 => []) (fun s3 => s3) (fun s3 => ?_) (fun j27 hj27 => ?_)
  · exact x_vret rfl dJ7_fill_fda19_27
  refine x_weak (by exact ⟨rfl, ⟨rfl, ⟨rfl, ⟨rfl, trivial⟩⟩⟩⟩) (x_lp (σ := Int32 × Mem) 10 (fun s4 => [some (va_rf a0), none, some (.int a2), some (.int a3), some (.int s4.1)]) (fun s4 => []) (fun s4 => s4.2) (fun s4 j10 hj10 => ?_) 4294967296 (a1, M2))
  · refine x_iload dJ7_fill_fda19_10 rfl ?_
    refine x_iload_n dJ7_fill_fda19_12 rfl ?_
    refine x_icmp_ge (tgt := 27) dJ7_fill_fda19_13 (by decide) (fun _ => ?_) (fun _ => ?_)
    · exact x_weak (by exact trivial) (hj27 s4.2)
    · refine x_aload_n dJ7_fill_fda19_16 rfl ?_
      refine x_iload dJ7_fill_fda19_17 rfl ?_
      refine x_iload_n dJ7_fill_fda19_19 rfl ?_
      refine x_iast dJ7_fill_fda19_20 (fun M5 => ?_)
      refine x_iincN (v := 1) (lo' := fun x6 => [some (va_rf a0), none, some (.int a2), some (.int a3), some (.int x6)]) (by decide) dJ7_fill_fda19_21 rfl (by decide) rfl (fun _ => rfl) (fun x6 => ?_)
      refine x_goto (tgt := 10) dJ7_fill_fda19_24 (by decide) ?_
      exact x_weak (by exact ⟨rfl, ⟨rfl, ⟨rfl, ⟨rfl, trivial⟩⟩⟩⟩) (hj10 (x6, M5))
theorem s353 {l : Launch} {d : Nat} {rec : Nat → List Value → Mem → XA} (hS : Nonempty XS) (hs : XSnd l xmt rec d) : Snd1 l 353 (b353 rec) d := by
  intro as M r M' h0
  unfold b353 at h0
  obtain ⟨a0, l1, e1, h1⟩ := aR_inv h0
  obtain ⟨a1, l2, e2, h2⟩ := aI_inv h1
  obtain ⟨a2, l3, e3, h3⟩ := aI_inv h2
  obtain ⟨a3, l4, e4, h4⟩ := aI_inv h3
  obtain ⟨ez, h⟩ := aZ_inv h4
  subst ez
  subst e4
  subst e3
  subst e2
  subst e1
  exact xmet (M := M) (as := [va_rf a0, .int a1, .int a2, .int a3]) (lo := [some (va_rf a0), some (.int a1), some (.int a2), some (.int a3)]) 353 xq353 xm353 (by rw [xargs_rf, xargs_i, xargs_i, xargs_i, xargs_nil]; exact ⟨rfl, ⟨rfl, ⟨rfl, ⟨rfl, trivial⟩⟩⟩⟩) (by rw [xargs_rf, xargs_i, xargs_i, xargs_i, xargs_nil]; exact Nat.le_of_ble_eq_true rfl) (fun S G K => x_weak (by exact ⟨rfl, ⟨rfl, ⟨rfl, ⟨rfl, trivial⟩⟩⟩⟩) (k353 hs a0 a1 a2 a3 M)) h hS
set_option maxRecDepth 100000 in
def c354 (rec : Nat → List Value → Mem → XA) (a0 : Option Nat) (a1 : Int32) (M0 : Mem) : XA :=
  gcl M0 a0 fun x1 =>
  cP (rec 355 [va_rf a0, .int a1, va_rf x1] M0) fun x3 M2 =>
  some (va_rf x3, M2)
def b354 (rec : Nat → List Value → Mem → XA) (as : List Value) (M0 : Mem) : XA := aR as fun a0 as => aI as fun a1 as => aZ as (c354 rec a0 a1 M0)
set_option maxRecDepth 100000 in
set_option maxHeartbeats 4000000 in
theorem k354 {S : XS} {G : XG} {K : Nat × Nat} {l : Launch} {d : Nat} {rec : Nat → List Value → Mem → XA} (hs : XSnd l xmt rec d) (a0 : Option Nat) (a1 : Int32) (M0 : Mem) : Xe S G K l (yJ7_copyOf_1904c, cJ7_copyOf_1904c, 2, some (.array (.object "java/lang/Object"))) d 0 [some (va_rf a0), some (.int a1)] [] M0 (c354 rec a0 a1 M0) := by
  unfold c354
  refine x_aload_n dJ7_copyOf_1904c_0 rfl ?_
  refine x_iload_n dJ7_copyOf_1904c_1 rfl ?_
  refine x_aload_n dJ7_copyOf_1904c_2 rfl ?_
  refine x_gcl lk_methodLink_J7_86 w_gc1 w_gc2 w_gc3 (Nat.le_of_ble_eq_true rfl) dJ7_copyOf_1904c_3 (fun x1 => ?_)
  refine cmJ7_300 rfl hs (Nat.le_of_ble_eq_true rfl) dJ7_copyOf_1904c_6 (fun x3 M2 => ?_)
  exact x_aret rfl rfl dJ7_copyOf_1904c_9
theorem s354 {l : Launch} {d : Nat} {rec : Nat → List Value → Mem → XA} (hS : Nonempty XS) (hs : XSnd l xmt rec d) : Snd1 l 354 (b354 rec) d := by
  intro as M r M' h0
  unfold b354 at h0
  obtain ⟨a0, l1, e1, h1⟩ := aR_inv h0
  obtain ⟨a1, l2, e2, h2⟩ := aI_inv h1
  obtain ⟨ez, h⟩ := aZ_inv h2
  subst ez
  subst e2
  subst e1
  exact xmet (M := M) (as := [va_rf a0, .int a1]) (lo := [some (va_rf a0), some (.int a1)]) 354 xq354 xm354 (by rw [xargs_rf, xargs_i, xargs_nil]; exact ⟨rfl, ⟨rfl, trivial⟩⟩) (by rw [xargs_rf, xargs_i, xargs_nil]; exact Nat.le_of_ble_eq_true rfl) (fun S G K => x_weak (by exact ⟨rfl, ⟨rfl, trivial⟩⟩) (k354 hs a0 a1 M)) h hS
set_option maxRecDepth 100000 in
def c355 (rec : Nat → List Value → Mem → XA) (a0 : Option Nat) (a1 : Int32) (a2 : Option Nat) (M0 : Mem) : XA :=
  if a2 = ((some 63)) then (
    nA 110 M0 a1 fun x1 M2 =>
    aln M2 a0 fun x3 =>
    lt (if a1 < x3 then a1 else x3) fun x4 =>
    acP M2 a0 ((0 : Int32)) x1 ((0 : Int32)) x4 fun M5 =>
    some (va_rf x1, M5)) else if acd M0 a2 ((some 63)) = true then (
    none) else none
def b355 (rec : Nat → List Value → Mem → XA) (as : List Value) (M0 : Mem) : XA := aR as fun a0 as => aI as fun a1 as => aR as fun a2 as => aZ as (c355 rec a0 a1 a2 M0)
set_option maxRecDepth 100000 in
set_option maxHeartbeats 4000000 in
theorem k355 {S : XS} {G : XG} {K : Nat × Nat} {l : Launch} {d : Nat} {rec : Nat → List Value → Mem → XA} (hs : XSnd l xmt rec d) (a0 : Option Nat) (a1 : Int32) (a2 : Option Nat) (M0 : Mem) : Xe S G K l (yJ7_copyOf_6403c, cJ7_copyOf_6403c, 4, some (.array (.object "java/lang/Object"))) d 0 [some (va_rf a0), some (.int a1), some (va_rf a2), none] [] M0 (c355 rec a0 a1 a2 M0) := by
  unfold c355
  refine x_aload_n dJ7_copyOf_6403c_0 rfl ?_
  refine x_ldcM lk_classLink_J7_110 dJ7_copyOf_6403c_1 ?_
  refine x_acmp_ne (tgt := 13) dJ7_copyOf_6403c_3 (by decide) (fun _ => ?_) (fun _ => ?_)
  · refine x_iload_n dJ7_copyOf_6403c_6 rfl ?_
    refine x_newq (t := 110) (tn := 5) (C := "java/lang/Object") (by decide) (by decide) rfl lk_classLink_J7_2 xov110 dJ7_copyOf_6403c_7 (fun x1 M2 => ?_)
    refine x_goto (tgt := 24) dJ7_copyOf_6403c_10 (by decide) ?_
    refine x_astore_n (lo' := [some (va_rf a0), some (.int a1), some (va_rf a2), some (va_rf x1)]) dJ7_copyOf_6403c_24 (by decide) (xok_r rfl) rfl ?_
    refine x_aload_n dJ7_copyOf_6403c_25 rfl ?_
    refine x_iconst (v := 0) dJ7_copyOf_6403c_26 (by decide) ?_
    refine x_aload_n dJ7_copyOf_6403c_27 rfl ?_
    refine x_iconst (v := 0) dJ7_copyOf_6403c_28 (by decide) ?_
    refine x_aload_n dJ7_copyOf_6403c_29 rfl ?_
    refine x_alen dJ7_copyOf_6403c_30 (fun x3 => ?_)
    refine x_iload_n dJ7_copyOf_6403c_31 rfl ?_
    refine x_mmin lk_methodLink_J7_304 w_mmin1 w_mi w_mmin2 (Nat.le_of_ble_eq_true rfl) dJ7_copyOf_6403c_32 (fun x4 => ?_)
    refine x_acP lk_methodLink_J7_150 w_acn w_acs w_aci hasg110 (Nat.le_of_ble_eq_true rfl) dJ7_copyOf_6403c_35 (fun M5 => ?_)
    refine x_aload_n dJ7_copyOf_6403c_38 rfl ?_
    exact x_aret rfl rfl dJ7_copyOf_6403c_39
  · refine x_aload_n dJ7_copyOf_6403c_13 rfl ?_
    exact x_none
theorem s355 {l : Launch} {d : Nat} {rec : Nat → List Value → Mem → XA} (hS : Nonempty XS) (hs : XSnd l xmt rec d) : Snd1 l 355 (b355 rec) d := by
  intro as M r M' h0
  unfold b355 at h0
  obtain ⟨a0, l1, e1, h1⟩ := aR_inv h0
  obtain ⟨a1, l2, e2, h2⟩ := aI_inv h1
  obtain ⟨a2, l3, e3, h3⟩ := aR_inv h2
  obtain ⟨ez, h⟩ := aZ_inv h3
  subst ez
  subst e3
  subst e2
  subst e1
  exact xmet (M := M) (as := [va_rf a0, .int a1, va_rf a2]) (lo := [some (va_rf a0), some (.int a1), some (va_rf a2)]) 355 xq355 xm355 (by rw [xargs_rf, xargs_i, xargs_rf, xargs_nil]; exact ⟨rfl, ⟨rfl, ⟨rfl, trivial⟩⟩⟩) (by rw [xargs_rf, xargs_i, xargs_rf, xargs_nil]; exact Nat.le_of_ble_eq_true rfl) (fun S G K => x_weak (by exact ⟨rfl, ⟨rfl, ⟨rfl, trivial⟩⟩⟩) (k355 hs a0 a1 a2 M)) h hS
set_option maxRecDepth 100000 in
def c356 (rec : Nat → List Value → Mem → XA) (a0 : Option Nat) (a1 : Int32) (M0 : Mem) : XA :=
  aln M0 a0 fun x1 =>
  if a1 = x1 then (
    clI M0 a0 fun x2 M3 =>
    cstA 100 M3 x2 <|
    some (va_rf x2, M3)) else (
    nA 100 M0 a1 fun x4 M5 =>
    aln M5 a0 fun x6 =>
    lt (if a1 < x6 then a1 else x6) fun x7 =>
    acI M5 a0 ((0 : Int32)) x4 ((0 : Int32)) x7 fun M8 =>
    some (va_rf x4, M8))
def b356 (rec : Nat → List Value → Mem → XA) (as : List Value) (M0 : Mem) : XA := aR as fun a0 as => aI as fun a1 as => aZ as (c356 rec a0 a1 M0)
set_option maxRecDepth 100000 in
set_option maxHeartbeats 4000000 in
theorem k356 {S : XS} {G : XG} {K : Nat × Nat} {l : Launch} {d : Nat} {rec : Nat → List Value → Mem → XA} (hs : XSnd l xmt rec d) (a0 : Option Nat) (a1 : Int32) (M0 : Mem) : Xe S G K l (yJ7_copyOf_59c91, cJ7_copyOf_59c91, 3, some (.array .int)) d 0 [some (va_rf a0), some (.int a1), none] [] M0 (c356 rec a0 a1 M0) := by
  unfold c356
  refine x_iload_n dJ7_copyOf_59c91_0 rfl ?_
  refine x_aload_n dJ7_copyOf_59c91_1 rfl ?_
  refine x_alen dJ7_copyOf_59c91_2 (fun x1 => ?_)
  refine x_icmp_ne (tgt := 14) dJ7_copyOf_59c91_3 (by decide) (fun _ => ?_) (fun _ => ?_)
  · refine x_aload_n dJ7_copyOf_59c91_6 rfl ?_
    refine x_clI lk_methodLink_J7_316 w_cl1 w_cl2 w_cl3 w_cl4 (Nat.le_of_ble_eq_true rfl) dJ7_copyOf_59c91_7 (fun x2 M3 => ?_)
    refine x_cstA (t := 100) (by decide) (by decide) nm_100 lk_classLink_J7_317 dJ7_copyOf_59c91_10 ?_
    exact x_aret rfl rfl dJ7_copyOf_59c91_13
  · refine x_iload_n dJ7_copyOf_59c91_14 rfl ?_
    refine x_newa100 dJ7_copyOf_59c91_15 (fun x4 M5 => ?_)
    refine x_astore_n (lo' := [some (va_rf a0), some (.int a1), some (va_rf x4)]) dJ7_copyOf_59c91_17 (by decide) rfl rfl ?_
    refine x_aload_n dJ7_copyOf_59c91_18 rfl ?_
    refine x_iconst (v := 0) dJ7_copyOf_59c91_19 (by decide) ?_
    refine x_aload_n dJ7_copyOf_59c91_20 rfl ?_
    refine x_iconst (v := 0) dJ7_copyOf_59c91_21 (by decide) ?_
    refine x_aload_n dJ7_copyOf_59c91_22 rfl ?_
    refine x_alen dJ7_copyOf_59c91_23 (fun x6 => ?_)
    refine x_iload_n dJ7_copyOf_59c91_24 rfl ?_
    refine x_mmin lk_methodLink_J7_304 w_mmin1 w_mi w_mmin2 (Nat.le_of_ble_eq_true rfl) dJ7_copyOf_59c91_25 (fun x7 => ?_)
    refine x_acI lk_methodLink_J7_150 w_acn w_acs w_aci (Nat.le_of_ble_eq_true rfl) dJ7_copyOf_59c91_28 (fun M8 => ?_)
    refine x_aload_n dJ7_copyOf_59c91_31 rfl ?_
    exact x_aret rfl rfl dJ7_copyOf_59c91_32
theorem s356 {l : Launch} {d : Nat} {rec : Nat → List Value → Mem → XA} (hS : Nonempty XS) (hs : XSnd l xmt rec d) : Snd1 l 356 (b356 rec) d := by
  intro as M r M' h0
  unfold b356 at h0
  obtain ⟨a0, l1, e1, h1⟩ := aR_inv h0
  obtain ⟨a1, l2, e2, h2⟩ := aI_inv h1
  obtain ⟨ez, h⟩ := aZ_inv h2
  subst ez
  subst e2
  subst e1
  exact xmet (M := M) (as := [va_rf a0, .int a1]) (lo := [some (va_rf a0), some (.int a1)]) 356 xq356 xm356 (by rw [xargs_rf, xargs_i, xargs_nil]; exact ⟨rfl, ⟨rfl, trivial⟩⟩) (by rw [xargs_rf, xargs_i, xargs_nil]; exact Nat.le_of_ble_eq_true rfl) (fun S G K => x_weak (by exact ⟨rfl, ⟨rfl, trivial⟩⟩) (k356 hs a0 a1 M)) h hS
set_option maxRecDepth 100000 in
def c357 (rec : Nat → List Value → Mem → XA) (a0 : Int32) (a1 : Int32) (M0 : Mem) : XA :=
  cI (rec 360 [.int a0, .int a1, va_rf none] M0) fun x2 M1 =>
  some (.int x2, M1)
def b357 (rec : Nat → List Value → Mem → XA) (as : List Value) (M0 : Mem) : XA := aI as fun a0 as => aI as fun a1 as => aZ as (c357 rec a0 a1 M0)
set_option maxRecDepth 100000 in
set_option maxHeartbeats 4000000 in
theorem k357 {S : XS} {G : XG} {K : Nat × Nat} {l : Launch} {d : Nat} {rec : Nat → List Value → Mem → XA} (hs : XSnd l xmt rec d) (a0 : Int32) (a1 : Int32) (M0 : Mem) : Xe S G K l (yJ15_checkIndex_7cf53, cJ15_checkIndex_7cf53, 2, some .int) d 0 [some (.int a0), some (.int a1)] [] M0 (c357 rec a0 a1 M0) := by
  unfold c357
  refine x_iload_n dJ15_checkIndex_7cf53_0 rfl ?_
  refine x_iload_n dJ15_checkIndex_7cf53_1 rfl ?_
  refine x_null dJ15_checkIndex_7cf53_2 ?_
  refine cmJ15_105 rfl hs (Nat.le_of_ble_eq_true rfl) dJ15_checkIndex_7cf53_3 (fun x2 M1 => ?_)
  exact x_iret rfl dJ15_checkIndex_7cf53_6
theorem s357 {l : Launch} {d : Nat} {rec : Nat → List Value → Mem → XA} (hS : Nonempty XS) (hs : XSnd l xmt rec d) : Snd1 l 357 (b357 rec) d := by
  intro as M r M' h0
  unfold b357 at h0
  obtain ⟨a0, l1, e1, h1⟩ := aI_inv h0
  obtain ⟨a1, l2, e2, h2⟩ := aI_inv h1
  obtain ⟨ez, h⟩ := aZ_inv h2
  subst ez
  subst e2
  subst e1
  exact xmet (M := M) (as := [.int a0, .int a1]) (lo := [some (.int a0), some (.int a1)]) 357 xq357 xm357 (by rw [xargs_i, xargs_i, xargs_nil]; exact ⟨rfl, ⟨rfl, trivial⟩⟩) (by rw [xargs_i, xargs_i, xargs_nil]; exact Nat.le_of_ble_eq_true rfl) (fun S G K => x_weak (by exact ⟨rfl, ⟨rfl, trivial⟩⟩) (k357 hs a0 a1 M)) h hS
set_option maxRecDepth 100000 in
def c358 (rec : Nat → List Value → Mem → XA) (a0 : Int32) (a1 : Int32) (a2 : Int32) (M0 : Mem) : XA :=
  lt (if a1 < a2 then a2 else a1) fun x1 =>
  lt (a0 + x1) fun (x2 : Int32) =>
  jn (fun (s3 : Unit) =>
    cI (rec 359 [.int a0, .int a1] M0) fun x5 M4 =>
    some (.int x5, M4)) fun j21 =>
  if x2 ≤ ((0 : Int32)) then (
    j21 ()) else (
    if ((2147483639 : Int32)) < x2 then (
      j21 ()) else (
      some (.int x2, M0)))
def b358 (rec : Nat → List Value → Mem → XA) (as : List Value) (M0 : Mem) : XA := aI as fun a0 as => aI as fun a1 as => aI as fun a2 as => aZ as (c358 rec a0 a1 a2 M0)
set_option maxRecDepth 100000 in
set_option maxHeartbeats 4000000 in
theorem k358 {S : XS} {G : XG} {K : Nat × Nat} {l : Launch} {d : Nat} {rec : Nat → List Value → Mem → XA} (hs : XSnd l xmt rec d) (a0 : Int32) (a1 : Int32) (a2 : Int32) (M0 : Mem) : Xe S G K l (yJ8_newLength_cabcc, cJ8_newLength_cabcc, 4, some .int) d 0 [some (.int a0), some (.int a1), some (.int a2), none] [] M0 (c358 rec a0 a1 a2 M0) := by
  unfold c358
  refine x_iload_n dJ8_newLength_cabcc_0 rfl ?_
  refine x_iload_n dJ8_newLength_cabcc_1 rfl ?_
  refine x_iload_n dJ8_newLength_cabcc_2 rfl ?_
  refine x_mmax lk_methodLink_J8_194 w_mmax1 w_mi w_mmax2 (Nat.le_of_ble_eq_true rfl) dJ8_newLength_cabcc_3 (fun x1 => ?_)
  refine x_iadd dJ8_newLength_cabcc_6 ?_
  refine x_ltI (fun x2 => ?_)
  refine x_istore_n (lo' := [some (.int a0), some (.int a1), some (.int a2), some (.int x2)]) dJ8_newLength_cabcc_7 (by decide) rfl rfl ?_
  refine x_iconst (v := 0) dJ8_newLength_cabcc_8 (by decide) ?_
  refine x_iload_n dJ8_newLength_cabcc_9 rfl ?_
  refine x_jn (σ := Unit) 21 (fun s3 => [some (.int a0), some (.int a1), none, none]) (fun s3 => []) (fun s3 => M0) (fun s3 => ?_) (fun j21 hj21 => ?_)
  · refine x_iload_n dJ8_newLength_cabcc_21 rfl ?_
    refine x_iload_n dJ8_newLength_cabcc_22 rfl ?_
    refine cmJ8_201 rfl hs (Nat.le_of_ble_eq_true rfl) dJ8_newLength_cabcc_23 (fun x5 M4 => ?_)
    exact x_iret rfl dJ8_newLength_cabcc_26
  refine x_icmp_ge (tgt := 21) dJ8_newLength_cabcc_10 (by decide) (fun _ => ?_) (fun _ => ?_)
  · exact x_weak (by exact ⟨rfl, ⟨rfl, trivial⟩⟩) (hj21 ())
  · refine x_iload_n dJ8_newLength_cabcc_13 rfl ?_
    refine x_ldc (v := 2147483639) dJ8_newLength_cabcc_14 lk_constant_J8_200 ?_
    refine x_icmp_gt (tgt := 21) dJ8_newLength_cabcc_16 (by decide) (fun _ => ?_) (fun _ => ?_)
    · exact x_weak (by exact ⟨rfl, ⟨rfl, trivial⟩⟩) (hj21 ())
    · refine x_iload_n dJ8_newLength_cabcc_19 rfl ?_
      exact x_iret rfl dJ8_newLength_cabcc_20
theorem s358 {l : Launch} {d : Nat} {rec : Nat → List Value → Mem → XA} (hS : Nonempty XS) (hs : XSnd l xmt rec d) : Snd1 l 358 (b358 rec) d := by
  intro as M r M' h0
  unfold b358 at h0
  obtain ⟨a0, l1, e1, h1⟩ := aI_inv h0
  obtain ⟨a1, l2, e2, h2⟩ := aI_inv h1
  obtain ⟨a2, l3, e3, h3⟩ := aI_inv h2
  obtain ⟨ez, h⟩ := aZ_inv h3
  subst ez
  subst e3
  subst e2
  subst e1
  exact xmet (M := M) (as := [.int a0, .int a1, .int a2]) (lo := [some (.int a0), some (.int a1), some (.int a2)]) 358 xq358 xm358 (by rw [xargs_i, xargs_i, xargs_i, xargs_nil]; exact ⟨rfl, ⟨rfl, ⟨rfl, trivial⟩⟩⟩) (by rw [xargs_i, xargs_i, xargs_i, xargs_nil]; exact Nat.le_of_ble_eq_true rfl) (fun S G K => x_weak (by exact ⟨rfl, ⟨rfl, ⟨rfl, trivial⟩⟩⟩) (k358 hs a0 a1 a2 M)) h hS
set_option maxRecDepth 100000 in
def c359 (rec : Nat → List Value → Mem → XA) (a0 : Int32) (a1 : Int32) (M0 : Mem) : XA :=
  lt (a0 + a1) fun (x1 : Int32) =>
  if 0 ≤ x1 then (
    if ((2147483639 : Int32)) < x1 then (
      some (.int x1, M0)) else (
      some (.int ((2147483639 : Int32)), M0))) else (
    none)
def b359 (rec : Nat → List Value → Mem → XA) (as : List Value) (M0 : Mem) : XA := aI as fun a0 as => aI as fun a1 as => aZ as (c359 rec a0 a1 M0)
set_option maxRecDepth 100000 in
set_option maxHeartbeats 4000000 in
theorem k359 {S : XS} {G : XG} {K : Nat × Nat} {l : Launch} {d : Nat} {rec : Nat → List Value → Mem → XA} (hs : XSnd l xmt rec d) (a0 : Int32) (a1 : Int32) (M0 : Mem) : Xe S G K l (yJ8_hugeLength_7cf53, cJ8_hugeLength_7cf53, 3, some .int) d 0 [some (.int a0), some (.int a1), none] [] M0 (c359 rec a0 a1 M0) := by
  unfold c359
  refine x_iload_n dJ8_hugeLength_7cf53_0 rfl ?_
  refine x_iload_n dJ8_hugeLength_7cf53_1 rfl ?_
  refine x_iadd dJ8_hugeLength_7cf53_2 ?_
  refine x_ltI (fun x1 => ?_)
  refine x_istore_n (lo' := [some (.int a0), some (.int a1), some (.int x1)]) dJ8_hugeLength_7cf53_3 (by decide) rfl rfl ?_
  refine x_iload_n dJ8_hugeLength_7cf53_4 rfl ?_
  refine x_if_ge (tgt := 49) dJ8_hugeLength_7cf53_5 (by decide) (fun _ => ?_) (fun _ => ?_)
  · refine x_iload_n dJ8_hugeLength_7cf53_49 rfl ?_
    refine x_ldc (v := 2147483639) dJ8_hugeLength_7cf53_50 lk_constant_J8_200 ?_
    refine x_icmp_gt (tgt := 58) dJ8_hugeLength_7cf53_52 (by decide) (fun _ => ?_) (fun _ => ?_)
    · refine x_iload_n dJ8_hugeLength_7cf53_58 rfl ?_
      exact x_iret rfl dJ8_hugeLength_7cf53_59
    · refine x_ldc (v := 2147483639) dJ8_hugeLength_7cf53_55 lk_constant_J8_200 ?_
      exact x_iret rfl dJ8_hugeLength_7cf53_57
  · exact x_none
theorem s359 {l : Launch} {d : Nat} {rec : Nat → List Value → Mem → XA} (hS : Nonempty XS) (hs : XSnd l xmt rec d) : Snd1 l 359 (b359 rec) d := by
  intro as M r M' h0
  unfold b359 at h0
  obtain ⟨a0, l1, e1, h1⟩ := aI_inv h0
  obtain ⟨a1, l2, e2, h2⟩ := aI_inv h1
  obtain ⟨ez, h⟩ := aZ_inv h2
  subst ez
  subst e2
  subst e1
  exact xmet (M := M) (as := [.int a0, .int a1]) (lo := [some (.int a0), some (.int a1)]) 359 xq359 xm359 (by rw [xargs_i, xargs_i, xargs_nil]; exact ⟨rfl, ⟨rfl, trivial⟩⟩) (by rw [xargs_i, xargs_i, xargs_nil]; exact Nat.le_of_ble_eq_true rfl) (fun S G K => x_weak (by exact ⟨rfl, ⟨rfl, trivial⟩⟩) (k359 hs a0 a1 M)) h hS
set_option maxRecDepth 100000 in
def c360 (rec : Nat → List Value → Mem → XA) (a0 : Int32) (a1 : Int32) (a2 : Option Nat) (M0 : Mem) : XA :=
  jn (fun (s1 : Unit) =>
    none) fun j9 =>
  if a0 < 0 then (
    j9 ()) else (
    if a0 < a1 then (
      some (.int a0, M0)) else (
      j9 ()))
def b360 (rec : Nat → List Value → Mem → XA) (as : List Value) (M0 : Mem) : XA := aI as fun a0 as => aI as fun a1 as => aR as fun a2 as => aZ as (c360 rec a0 a1 a2 M0)
set_option maxRecDepth 100000 in
set_option maxHeartbeats 4000000 in
theorem k360 {S : XS} {G : XG} {K : Nat × Nat} {l : Launch} {d : Nat} {rec : Nat → List Value → Mem → XA} (hs : XSnd l xmt rec d) (a0 : Int32) (a1 : Int32) (a2 : Option Nat) (M0 : Mem) : Xe S G K l (yJ3_checkIndex_8e157, cJ3_checkIndex_8e157, 3, some .int) d 0 [some (.int a0), some (.int a1), some (va_rf a2)] [] M0 (c360 rec a0 a1 a2 M0) := by
  unfold c360
  refine x_iload_n dJ3_checkIndex_8e157_0 rfl ?_
  refine x_jn (σ := Unit) 9 (fun s1 => [some (.int a0), some (.int a1), some (va_rf a2)]) (fun s1 => []) (fun s1 => M0) (fun s1 => ?_) (fun j9 hj9 => ?_)
  · refine x_aload_n dJ3_checkIndex_8e157_9 rfl ?_
    refine x_iload_n dJ3_checkIndex_8e157_10 rfl ?_
    refine x_iload_n dJ3_checkIndex_8e157_11 rfl ?_
    exact x_none
  refine x_if_lt (tgt := 9) dJ3_checkIndex_8e157_1 (by decide) (fun _ => ?_) (fun _ => ?_)
  · exact x_weak (by exact ⟨rfl, ⟨rfl, ⟨rfl, trivial⟩⟩⟩) (hj9 ())
  · refine x_iload_n dJ3_checkIndex_8e157_4 rfl ?_
    refine x_iload_n dJ3_checkIndex_8e157_5 rfl ?_
    refine x_icmp_lt (tgt := 16) dJ3_checkIndex_8e157_6 (by decide) (fun _ => ?_) (fun _ => ?_)
    · refine x_iload_n dJ3_checkIndex_8e157_16 rfl ?_
      exact x_iret rfl dJ3_checkIndex_8e157_17
    · exact x_weak (by exact ⟨rfl, ⟨rfl, ⟨rfl, trivial⟩⟩⟩) (hj9 ())
theorem s360 {l : Launch} {d : Nat} {rec : Nat → List Value → Mem → XA} (hS : Nonempty XS) (hs : XSnd l xmt rec d) : Snd1 l 360 (b360 rec) d := by
  intro as M r M' h0
  unfold b360 at h0
  obtain ⟨a0, l1, e1, h1⟩ := aI_inv h0
  obtain ⟨a1, l2, e2, h2⟩ := aI_inv h1
  obtain ⟨a2, l3, e3, h3⟩ := aR_inv h2
  obtain ⟨ez, h⟩ := aZ_inv h3
  subst ez
  subst e3
  subst e2
  subst e1
  exact xmet (M := M) (as := [.int a0, .int a1, va_rf a2]) (lo := [some (.int a0), some (.int a1), some (va_rf a2)]) 360 xq360 xm360 (by rw [xargs_i, xargs_i, xargs_rf, xargs_nil]; exact ⟨rfl, ⟨rfl, ⟨rfl, trivial⟩⟩⟩) (by rw [xargs_i, xargs_i, xargs_rf, xargs_nil]; exact Nat.le_of_ble_eq_true rfl) (fun S G K => x_weak (by exact ⟨rfl, ⟨rfl, ⟨rfl, trivial⟩⟩⟩) (k360 hs a0 a1 a2 M)) h hS
def b361 (rec : Nat → List Value → Mem → XA) (as : List Value) (M0 : Mem) : XA := none
theorem s361 {l : Launch} {d : Nat} {rec : Nat → List Value → Mem → XA} (hS : Nonempty XS) (hs : XSnd l xmt rec d) : Snd1 l 361 (b361 rec) d := fun as M r M' h => nomatch h
set_option maxRecDepth 100000 in
def c362_9 (rec : Nat → List Value → Mem → XA) (a0 : Option Nat) (a1 : Option Nat) (j48 : Mem → XA) (j82 : Int32 × Mem → XA) (j90 : Mem → XA) : (Int32 × Mem) → ((Int32 × Mem) → XA) → XA := fun s6 j9 =>
  if ((400 : Int32)) < s6.1 then (
    j90 s6.2) else (
    gtP (12, 19) s6.2 a0 8 fun x7 =>
    vC (3, 7) s6.2 x7 <|
    cV (rec 13 [va_rf x7] s6.2) fun M8 =>
    gtP (12, 19) M8 a0 2 fun x9 =>
    vC (4, 22) M8 x9 <|
    cV (rec 23 [va_rf x9] M8) fun M10 =>
    gtP (12, 19) M10 a0 2 fun x11 =>
    vC (4, 22) M10 x11 <|
    cV (rec 25 [va_rf x11, va_rf a1] M10) fun M12 =>
    gtP (12, 19) M12 a0 2 fun x13 =>
    vC (4, 22) M12 x13 <|
    cI (rec 22 [va_rf x13] M12) fun x15 M14 =>
    if x15 = 0 then (
      gtP (12, 19) M14 a0 2 fun x16 =>
      gtP (4, 22) M14 x16 0 fun x17 =>
      gtI (5, 5) M14 x17 0 fun x18 =>
      jn (fun (s19 : Mem) =>
        gtP (12, 19) s19 a0 8 fun x20 =>
        vC (3, 7) s19 x20 <|
        cI (rec 15 [va_rf x20] s19) fun x22 M21 =>
        if x22 = 0 then (
          j82 (s6.1, M21)) else (
          lt (s6.1 + (1 : Int32)) fun (x23 : Int32) =>
          j9 (x23, M21))) fun j72 =>
      if x18 = ((1 : Int32)) then (
        gtP (12, 19) M14 a0 8 fun x24 =>
        vC (3, 7) M14 x24 <|
        cV (rec 16 [va_rf x24] M14) fun M25 =>
        j72 M25) else (
        j72 M14)) else (
      j48 M14))
set_option maxRecDepth 100000 in
def c362 (rec : Nat → List Value → Mem → XA) (a0 : Option Nat) (a1 : Option Nat) (M0 : Mem) : XA :=
  gtP (12, 19) M0 a0 8 fun x1 =>
  vC (3, 7) M0 x1 <|
  cV (rec 12 [va_rf x1] M0) fun M2 =>
  jn (fun (s3 : Mem) =>
    some (.int ((-4 : Int32)), s3)) fun j48 =>
  jn (fun (s4 : Int32 × Mem) =>
    some (.int s4.1, s4.2)) fun j82 =>
  jn (fun (s5 : Mem) =>
    some (.int ((-4 : Int32)), s5)) fun j90 =>
  lp (c362_9 rec a0 a1 j48 j82 j90) 4294967296 ((1 : Int32), M2)
def b362 (rec : Nat → List Value → Mem → XA) (as : List Value) (M0 : Mem) : XA := aR as fun a0 as => aR as fun a1 as => aZ as (c362 rec a0 a1 M0)
set_option maxRecDepth 100000 in
set_option maxHeartbeats 4000000 in
theorem k362 {S : XS} {G : XG} {K : Nat × Nat} {l : Launch} {d : Nat} {rec : Nat → List Value → Mem → XA} (hs : XSnd l xmt rec d) (a0 : Option Nat) (a1 : Option Nat) (M0 : Mem) : Xe S G K l (yX11_lookAtRows, cX11_lookAtRows, 3, some .int) d 0 [some (va_rf a0), some (va_rf a1), none] [] M0 (c362 rec a0 a1 M0) := by
  unfold c362
  refine x_aload_n dX11_lookAtRows_0 rfl ?_
  refine gfX11_46 rfl dX11_lookAtRows_1 (fun x1 => ?_)
  refine cmX11_454 rfl hs (Nat.le_of_ble_eq_true rfl) dX11_lookAtRows_4 (fun M2 => ?_)
  refine x_iconst (v := 1) dX11_lookAtRows_7 (by decide) ?_
  refine x_istore_n (lo' := [some (va_rf a0), some (va_rf a1), some (.int ((1 : Int32)))]) dX11_lookAtRows_8 (by decide) (xok_r rfl) rfl ?_
  refine x_jn (σ := Mem) 48 (fun s3 => [none, none, none]) (fun s3 => []) (fun s3 => s3) (fun s3 => ?_) (fun j48 hj48 => ?_)
  · refine x_bipush (v := -4) dX11_lookAtRows_48 (by decide) ?_
    exact x_iret rfl dX11_lookAtRows_50
  refine x_jn (σ := Int32 × Mem) 82 (fun s4 => [none, none, some (.int s4.1)]) (fun s4 => []) (fun s4 => s4.2) (fun s4 => ?_) (fun j82 hj82 => ?_)
  · refine x_iload_n dX11_lookAtRows_82 rfl ?_
    exact x_iret rfl dX11_lookAtRows_83
  refine x_jn (σ := Mem) 90 (fun s5 => [none, none, none]) (fun s5 => []) (fun s5 => s5) (fun s5 => ?_) (fun j90 hj90 => ?_)
  · refine x_bipush (v := -4) dX11_lookAtRows_90 (by decide) ?_
    exact x_iret rfl dX11_lookAtRows_92
  refine x_weak (by exact ⟨rfl, ⟨rfl, ⟨rfl, trivial⟩⟩⟩) (x_lp (σ := Int32 × Mem) 9 (fun s6 => [some (va_rf a0), some (va_rf a1), some (.int s6.1)]) (fun s6 => []) (fun s6 => s6.2) (fun s6 j9 hj9 => ?_) 4294967296 ((1 : Int32), M2))
  · refine x_iload_n dX11_lookAtRows_9 rfl ?_
    refine x_sipush (v := 400) dX11_lookAtRows_10 (by decide) ?_
    refine x_icmp_gt (tgt := 90) dX11_lookAtRows_13 (by decide) (fun _ => ?_) (fun _ => ?_)
    · exact x_weak (by exact trivial) (hj90 s6.2)
    · refine x_aload_n dX11_lookAtRows_16 rfl ?_
      refine gfX11_46 rfl dX11_lookAtRows_17 (fun x7 => ?_)
      refine cmX11_456 rfl hs (Nat.le_of_ble_eq_true rfl) dX11_lookAtRows_20 (fun M8 => ?_)
      refine x_aload_n dX11_lookAtRows_23 rfl ?_
      refine gfX11_26 rfl dX11_lookAtRows_24 (fun x9 => ?_)
      refine cmX11_426 rfl hs (Nat.le_of_ble_eq_true rfl) dX11_lookAtRows_27 (fun M10 => ?_)
      refine x_aload_n dX11_lookAtRows_30 rfl ?_
      refine gfX11_26 rfl dX11_lookAtRows_31 (fun x11 => ?_)
      refine x_aload_n dX11_lookAtRows_34 rfl ?_
      refine cmX11_432 rfl hs (Nat.le_of_ble_eq_true rfl) dX11_lookAtRows_35 (fun M12 => ?_)
      refine x_aload_n dX11_lookAtRows_38 rfl ?_
      refine gfX11_26 rfl dX11_lookAtRows_39 (fun x13 => ?_)
      refine cmX11_294 rfl hs (Nat.le_of_ble_eq_true rfl) dX11_lookAtRows_42 (fun x15 M14 => ?_)
      refine x_if_eq (tgt := 51) dX11_lookAtRows_45 (by decide) (fun _ => ?_) (fun _ => ?_)
      · refine x_aload_n dX11_lookAtRows_51 rfl ?_
        refine gfX11_26 rfl dX11_lookAtRows_52 (fun x16 => ?_)
        refine gfX11_381 rfl dX11_lookAtRows_55 (fun x17 => ?_)
        refine gfX11_384 rfl dX11_lookAtRows_58 (fun x18 => ?_)
        refine x_iconst (v := 1) dX11_lookAtRows_61 (by decide) ?_
        refine x_jn (σ := Mem) 72 (fun s19 => [some (va_rf a0), some (va_rf a1), some (.int s6.1)]) (fun s19 => []) (fun s19 => s19) (fun s19 => ?_) (fun j72 hj72 => ?_)
        · refine x_aload_n dX11_lookAtRows_72 rfl ?_
          refine gfX11_46 rfl dX11_lookAtRows_73 (fun x20 => ?_)
          refine cmX11_462 rfl hs (Nat.le_of_ble_eq_true rfl) dX11_lookAtRows_76 (fun x22 M21 => ?_)
          refine x_if_ne (tgt := 84) dX11_lookAtRows_79 (by decide) (fun _ => ?_) (fun _ => ?_)
          · exact x_weak (by exact ⟨rfl, trivial⟩) (hj82 (s6.1, M21))
          · refine x_iincN (v := 1) (lo' := fun x23 => [some (va_rf a0), some (va_rf a1), some (.int x23)]) (by decide) dX11_lookAtRows_84 rfl (by decide) (xok_r rfl) (fun _ => rfl) (fun x23 => ?_)
            refine x_goto (tgt := 9) dX11_lookAtRows_87 (by decide) ?_
            exact x_weak (by exact ⟨rfl, ⟨rfl, ⟨rfl, trivial⟩⟩⟩) (hj9 (x23, M21))
        refine x_icmp_ne (tgt := 72) dX11_lookAtRows_62 (by decide) (fun _ => ?_) (fun _ => ?_)
        · refine x_aload_n dX11_lookAtRows_65 rfl ?_
          refine gfX11_46 rfl dX11_lookAtRows_66 (fun x24 => ?_)
          refine cmX11_459 rfl hs (Nat.le_of_ble_eq_true rfl) dX11_lookAtRows_69 (fun M25 => ?_)
          exact x_weak (by exact ⟨rfl, ⟨rfl, ⟨rfl, trivial⟩⟩⟩) (hj72 M25)
        · exact x_weak (by exact ⟨rfl, ⟨rfl, ⟨rfl, trivial⟩⟩⟩) (hj72 M14)
      · exact x_weak (by exact trivial) (hj48 M14)
theorem s362 {l : Launch} {d : Nat} {rec : Nat → List Value → Mem → XA} (hS : Nonempty XS) (hs : XSnd l xmt rec d) : Snd1 l 362 (b362 rec) d := by
  intro as M r M' h0
  unfold b362 at h0
  obtain ⟨a0, l1, e1, h1⟩ := aR_inv h0
  obtain ⟨a1, l2, e2, h2⟩ := aR_inv h1
  obtain ⟨ez, h⟩ := aZ_inv h2
  subst ez
  subst e2
  subst e1
  exact xmet (M := M) (as := [va_rf a0, va_rf a1]) (lo := [some (va_rf a0), some (va_rf a1)]) 362 xq362 xm362 (by rw [xargs_rf, xargs_rf, xargs_nil]; exact ⟨rfl, ⟨rfl, trivial⟩⟩) (by rw [xargs_rf, xargs_rf, xargs_nil]; exact Nat.le_of_ble_eq_true rfl) (fun S G K => x_weak (by exact ⟨rfl, ⟨rfl, trivial⟩⟩) (k362 hs a0 a1 M)) h hS
set_option maxRecDepth 100000 in
def c363 (rec : Nat → List Value → Mem → XA) (a0 : Option Nat) (a1 : Option Nat) (M0 : Mem) : XA :=
  gtP (12, 19) M0 a0 2 fun x1 =>
  vC (4, 22) M0 x1 <|
  cV (rec 23 [va_rf x1] M0) fun M2 =>
  gtP (12, 19) M2 a0 2 fun x3 =>
  vC (4, 22) M2 x3 <|
  cV (rec 25 [va_rf x3, va_rf a1] M2) fun M4 =>
  gtP (12, 19) M4 a0 2 fun x5 =>
  gtP (4, 22) M4 x5 0 fun x6 =>
  gtI (5, 5) M4 x6 0 fun x7 =>
  jn (fun (s8 : Int32) =>
    rtZ s8 M4) fun j34 =>
  if x7 = ((1 : Int32)) then (
    j34 ((1 : Int32))) else (
    j34 ((0 : Int32)))
def b363 (rec : Nat → List Value → Mem → XA) (as : List Value) (M0 : Mem) : XA := aR as fun a0 as => aR as fun a1 as => aZ as (c363 rec a0 a1 M0)
set_option maxRecDepth 100000 in
set_option maxHeartbeats 4000000 in
theorem k363 {S : XS} {G : XG} {K : Nat × Nat} {l : Launch} {d : Nat} {rec : Nat → List Value → Mem → XA} (hs : XSnd l xmt rec d) (a0 : Option Nat) (a1 : Option Nat) (M0 : Mem) : Xe S G K l (yX11_passesAlone, cX11_passesAlone, 2, some .boolean) d 0 [some (va_rf a0), some (va_rf a1)] [] M0 (c363 rec a0 a1 M0) := by
  unfold c363
  refine x_aload_n dX11_passesAlone_0 rfl ?_
  refine gfX11_26 rfl dX11_passesAlone_1 (fun x1 => ?_)
  refine cmX11_426 rfl hs (Nat.le_of_ble_eq_true rfl) dX11_passesAlone_4 (fun M2 => ?_)
  refine x_aload_n dX11_passesAlone_7 rfl ?_
  refine gfX11_26 rfl dX11_passesAlone_8 (fun x3 => ?_)
  refine x_aload_n dX11_passesAlone_11 rfl ?_
  refine cmX11_432 rfl hs (Nat.le_of_ble_eq_true rfl) dX11_passesAlone_12 (fun M4 => ?_)
  refine x_aload_n dX11_passesAlone_15 rfl ?_
  refine gfX11_26 rfl dX11_passesAlone_16 (fun x5 => ?_)
  refine gfX11_381 rfl dX11_passesAlone_19 (fun x6 => ?_)
  refine gfX11_384 rfl dX11_passesAlone_22 (fun x7 => ?_)
  refine x_iconst (v := 1) dX11_passesAlone_25 (by decide) ?_
  refine x_jn (σ := Int32) 34 (fun s8 => [none, none]) (fun s8 => [.int s8]) (fun s8 => M4) (fun s8 => ?_) (fun j34 hj34 => ?_)
  · exact x_zret rfl dX11_passesAlone_34
  refine x_icmp_ne (tgt := 33) dX11_passesAlone_26 (by decide) (fun _ => ?_) (fun _ => ?_)
  · refine x_iconst (v := 1) dX11_passesAlone_29 (by decide) ?_
    refine x_goto (tgt := 34) dX11_passesAlone_30 (by decide) ?_
    exact x_weak (by exact trivial) (hj34 ((1 : Int32)))
  · refine x_iconst (v := 0) dX11_passesAlone_33 (by decide) ?_
    exact x_weak (by exact trivial) (hj34 ((0 : Int32)))
theorem s363 {l : Launch} {d : Nat} {rec : Nat → List Value → Mem → XA} (hS : Nonempty XS) (hs : XSnd l xmt rec d) : Snd1 l 363 (b363 rec) d := by
  intro as M r M' h0
  unfold b363 at h0
  obtain ⟨a0, l1, e1, h1⟩ := aR_inv h0
  obtain ⟨a1, l2, e2, h2⟩ := aR_inv h1
  obtain ⟨ez, h⟩ := aZ_inv h2
  subst ez
  subst e2
  subst e1
  exact xmet (M := M) (as := [va_rf a0, va_rf a1]) (lo := [some (va_rf a0), some (va_rf a1)]) 363 xq363 xm363 (by rw [xargs_rf, xargs_rf, xargs_nil]; exact ⟨rfl, ⟨rfl, trivial⟩⟩) (by rw [xargs_rf, xargs_rf, xargs_nil]; exact Nat.le_of_ble_eq_true rfl) (fun S G K => x_weak (by exact ⟨rfl, ⟨rfl, trivial⟩⟩) (k363 hs a0 a1 M)) h hS
set_option maxRecDepth 100000 in
def c364_18 (rec : Nat → List Value → Mem → XA) (a0 : Option Nat) (j265 : Mem → XA) (j288 : Mem → XA) (j301 : Mem → XA) (j314 : Mem → XA) (j347 : Mem → XA) (j390 : Mem → XA) (j433 : Mem → XA) (j486 : Mem → XA) (j529 : Mem → XA) (j552 : Mem → XA) (j575 : Mem → XA) (j618 : Mem → XA) (j641 : Mem → XA) (j684 : Mem → XA) (j727 : Mem → XA) (j760 : Mem → XA) (j783 : Mem → XA) (j816 : Mem → XA) (j895 : Mem → XA) (j918 : Mem → XA) (j961 : Mem → XA) (j1004 : Mem → XA) (j1027 : Mem → XA) (j1070 : Mem → XA) (j1103 : Mem → XA) (j1146 : Mem → XA) (j1169 : Mem → XA) (j1202 : Mem → XA) (j1225 : Mem → XA) (j1300 : Mem → XA) (j1323 : Mem → XA) (j1356 : Mem → XA) (j1389 : Mem → XA) (j1412 : Mem → XA) (j1445 : Mem → XA) (j1468 : Mem → XA) (j1501 : Mem → XA) (j1534 : Mem → XA) (j1567 : Mem → XA) (j1575 : Mem → XA) (x1 : Option Nat) (x4 : Option Nat) : (Int32 × Mem) → ((Int32 × Mem) → XA) → XA := fun s47 j18 =>
  aln s47.2 a0 fun x48 =>
  if (x48 - ((7 : Int32))) < s47.1 then (
    j1575 s47.2) else (
    alI 100 s47.2 a0 s47.1 fun x49 =>
    jn (fun (s50 : Mem) =>
      lt (s47.1 + (7 : Int32)) fun (x51 : Int32) =>
      j18 (x51, s50)) fun j1569 =>
    swI (x49 &&& ((63 : Int32))) [
     ((0 : Int32), (
        alI 100 s47.2 a0 (s47.1 + ((1 : Int32))) fun x52 =>
        alI 100 s47.2 a0 (s47.1 + ((2 : Int32))) fun x53 =>
        alI 100 s47.2 a0 (s47.1 + ((3 : Int32))) fun x54 =>
        alI 100 s47.2 a0 (s47.1 + ((4 : Int32))) fun x55 =>
        alI 100 s47.2 a0 (s47.1 + ((5 : Int32))) fun x56 =>
        vC (12, 19) s47.2 x1 <|
        cI (rec 128 [va_rf x1, .int x52, .int x53, .int x54, .int x55, .int x56] s47.2) fun x58 M57 =>
        alI 100 M57 a0 (s47.1 + ((1 : Int32))) fun x59 =>
        alI 100 M57 a0 (s47.1 + ((2 : Int32))) fun x60 =>
        alI 100 M57 a0 (s47.1 + ((3 : Int32))) fun x61 =>
        alI 100 M57 a0 (s47.1 + ((4 : Int32))) fun x62 =>
        alI 100 M57 a0 (s47.1 + ((5 : Int32))) fun x63 =>
        vC (13, 157) M57 x4 <|
        cI (rec 185 [va_rf x4, .int x59, .int x60, .int x61, .int x62, .int x63] M57) fun x65 M64 =>
        if x58 = x65 then (
          j1569 M64) else (
          j265 M64))),
     ((1 : Int32), (
        alI 100 s47.2 a0 (s47.1 + ((1 : Int32))) fun x66 =>
        vC (12, 19) s47.2 x1 <|
        cI (rec 129 [va_rf x1, .int x66] s47.2) fun x68 M67 =>
        alI 100 M67 a0 (s47.1 + ((1 : Int32))) fun x69 =>
        vC (13, 157) M67 x4 <|
        cI (rec 186 [va_rf x4, .int x69] M67) fun x71 M70 =>
        if x68 = x71 then (
          j1569 M70) else (
          j288 M70))),
     ((2 : Int32), (
        vC (12, 19) s47.2 x1 <|
        cI (rec 130 [va_rf x1] s47.2) fun x73 M72 =>
        vC (13, 157) M72 x4 <|
        cI (rec 231 [va_rf x4] M72) fun x75 M74 =>
        if x73 = x75 then (
          j1569 M74) else (
          j301 M74))),
     ((3 : Int32), (
        vC (12, 19) s47.2 x1 <|
        cI (rec 131 [va_rf x1] s47.2) fun x77 M76 =>
        vC (13, 157) M76 x4 <|
        cI (rec 234 [va_rf x4] M76) fun x79 M78 =>
        if x77 = x79 then (
          j1569 M78) else (
          j314 M78))),
     ((4 : Int32), (
        alI 100 s47.2 a0 (s47.1 + ((1 : Int32))) fun x80 =>
        alI 100 s47.2 a0 (s47.1 + ((2 : Int32))) fun x81 =>
        vC (12, 19) s47.2 x1 <|
        cI (rec 132 [va_rf x1, .int x80, .int x81] s47.2) fun x83 M82 =>
        alI 100 M82 a0 (s47.1 + ((1 : Int32))) fun x84 =>
        alI 100 M82 a0 (s47.1 + ((2 : Int32))) fun x85 =>
        vC (13, 157) M82 x4 <|
        cI (rec 263 [va_rf x4, .int x84, .int x85] M82) fun x87 M86 =>
        if x83 = x87 then (
          j1569 M86) else (
          j347 M86))),
     ((5 : Int32), (
        alI 100 s47.2 a0 (s47.1 + ((1 : Int32))) fun x88 =>
        alI 100 s47.2 a0 (s47.1 + ((2 : Int32))) fun x89 =>
        alI 100 s47.2 a0 (s47.1 + ((3 : Int32))) fun x90 =>
        vC (12, 19) s47.2 x1 <|
        cI (rec 133 [va_rf x1, .int x88, .int x89, .int x90] s47.2) fun x92 M91 =>
        alI 100 M91 a0 (s47.1 + ((1 : Int32))) fun x93 =>
        alI 100 M91 a0 (s47.1 + ((2 : Int32))) fun x94 =>
        alI 100 M91 a0 (s47.1 + ((3 : Int32))) fun x95 =>
        vC (13, 157) M91 x4 <|
        cI (rec 264 [va_rf x4, .int x93, .int x94, .int x95] M91) fun x97 M96 =>
        if x92 = x97 then (
          j1569 M96) else (
          j390 M96))),
     ((6 : Int32), (
        alI 100 s47.2 a0 (s47.1 + ((1 : Int32))) fun x98 =>
        alI 100 s47.2 a0 (s47.1 + ((2 : Int32))) fun x99 =>
        alI 100 s47.2 a0 (s47.1 + ((3 : Int32))) fun x100 =>
        vC (12, 19) s47.2 x1 <|
        cI (rec 134 [va_rf x1, .int x98, .int x99, .int x100] s47.2) fun x102 M101 =>
        alI 100 M101 a0 (s47.1 + ((1 : Int32))) fun x103 =>
        alI 100 M101 a0 (s47.1 + ((2 : Int32))) fun x104 =>
        alI 100 M101 a0 (s47.1 + ((3 : Int32))) fun x105 =>
        vC (13, 157) M101 x4 <|
        cI (rec 265 [va_rf x4, .int x103, .int x104, .int x105] M101) fun x107 M106 =>
        if x102 = x107 then (
          j1569 M106) else (
          j433 M106))),
     ((7 : Int32), (
        alI 100 s47.2 a0 (s47.1 + ((1 : Int32))) fun x108 =>
        alI 100 s47.2 a0 (s47.1 + ((2 : Int32))) fun x109 =>
        alI 100 s47.2 a0 (s47.1 + ((3 : Int32))) fun x110 =>
        alI 100 s47.2 a0 (s47.1 + ((4 : Int32))) fun x111 =>
        vC (12, 19) s47.2 x1 <|
        cI (rec 135 [va_rf x1, .int x108, .int x109, .int x110, .int x111] s47.2) fun x113 M112 =>
        alI 100 M112 a0 (s47.1 + ((1 : Int32))) fun x114 =>
        alI 100 M112 a0 (s47.1 + ((2 : Int32))) fun x115 =>
        alI 100 M112 a0 (s47.1 + ((3 : Int32))) fun x116 =>
        alI 100 M112 a0 (s47.1 + ((4 : Int32))) fun x117 =>
        vC (13, 157) M112 x4 <|
        cI (rec 266 [va_rf x4, .int x114, .int x115, .int x116, .int x117] M112) fun x119 M118 =>
        if x113 = x119 then (
          j1569 M118) else (
          j486 M118))),
     ((8 : Int32), (
        alI 100 s47.2 a0 (s47.1 + ((1 : Int32))) fun x120 =>
        alI 100 s47.2 a0 (s47.1 + ((2 : Int32))) fun x121 =>
        alI 100 s47.2 a0 (s47.1 + ((3 : Int32))) fun x122 =>
        vC (12, 19) s47.2 x1 <|
        cI (rec 136 [va_rf x1, .int x120, .int x121, .int x122] s47.2) fun x124 M123 =>
        alI 100 M123 a0 (s47.1 + ((1 : Int32))) fun x125 =>
        alI 100 M123 a0 (s47.1 + ((2 : Int32))) fun x126 =>
        alI 100 M123 a0 (s47.1 + ((3 : Int32))) fun x127 =>
        vC (13, 157) M123 x4 <|
        cI (rec 267 [va_rf x4, .int x125, .int x126, .int x127] M123) fun x129 M128 =>
        if x124 = x129 then (
          j1569 M128) else (
          j529 M128))),
     ((9 : Int32), (
        alI 100 s47.2 a0 (s47.1 + ((1 : Int32))) fun x130 =>
        vC (12, 19) s47.2 x1 <|
        cI (rec 137 [va_rf x1, .int x130] s47.2) fun x132 M131 =>
        alI 100 M131 a0 (s47.1 + ((1 : Int32))) fun x133 =>
        vC (13, 157) M131 x4 <|
        cI (rec 268 [va_rf x4, .int x133] M131) fun x135 M134 =>
        if x132 = x135 then (
          j1569 M134) else (
          j552 M134))),
     ((10 : Int32), (
        alI 100 s47.2 a0 (s47.1 + ((1 : Int32))) fun x136 =>
        vC (12, 19) s47.2 x1 <|
        cI (rec 138 [va_rf x1, .int x136] s47.2) fun x138 M137 =>
        alI 100 M137 a0 (s47.1 + ((1 : Int32))) fun x139 =>
        vC (13, 157) M137 x4 <|
        cI (rec 269 [va_rf x4, .int x139] M137) fun x141 M140 =>
        if x138 = x141 then (
          j1569 M140) else (
          j575 M140))),
     ((11 : Int32), (
        alI 100 s47.2 a0 (s47.1 + ((1 : Int32))) fun x142 =>
        alI 100 s47.2 a0 (s47.1 + ((2 : Int32))) fun x143 =>
        alI 100 s47.2 a0 (s47.1 + ((3 : Int32))) fun x144 =>
        vC (12, 19) s47.2 x1 <|
        cI (rec 139 [va_rf x1, .int x142, .int x143, .int x144] s47.2) fun x146 M145 =>
        alI 100 M145 a0 (s47.1 + ((1 : Int32))) fun x147 =>
        alI 100 M145 a0 (s47.1 + ((2 : Int32))) fun x148 =>
        alI 100 M145 a0 (s47.1 + ((3 : Int32))) fun x149 =>
        vC (13, 157) M145 x4 <|
        cI (rec 270 [va_rf x4, .int x147, .int x148, .int x149] M145) fun x151 M150 =>
        if x146 = x151 then (
          j1569 M150) else (
          j618 M150))),
     ((12 : Int32), (
        alI 100 s47.2 a0 (s47.1 + ((1 : Int32))) fun x152 =>
        vC (12, 19) s47.2 x1 <|
        cI (rec 140 [va_rf x1, .int x152] s47.2) fun x154 M153 =>
        alI 100 M153 a0 (s47.1 + ((1 : Int32))) fun x155 =>
        vC (13, 157) M153 x4 <|
        cI (rec 257 [va_rf x4, .int x155] M153) fun x157 M156 =>
        if x154 = x157 then (
          j1569 M156) else (
          j641 M156))),
     ((13 : Int32), (
        alI 100 s47.2 a0 (s47.1 + ((1 : Int32))) fun x158 =>
        alI 100 s47.2 a0 (s47.1 + ((2 : Int32))) fun x159 =>
        alI 100 s47.2 a0 (s47.1 + ((3 : Int32))) fun x160 =>
        vC (12, 19) s47.2 x1 <|
        cI (rec 141 [va_rf x1, .int x158, .int x159, .int x160] s47.2) fun x162 M161 =>
        alI 100 M161 a0 (s47.1 + ((1 : Int32))) fun x163 =>
        alI 100 M161 a0 (s47.1 + ((2 : Int32))) fun x164 =>
        alI 100 M161 a0 (s47.1 + ((3 : Int32))) fun x165 =>
        vC (13, 157) M161 x4 <|
        cI (rec 258 [va_rf x4, .int x163, .int x164, .int x165] M161) fun x167 M166 =>
        if x162 = x167 then (
          j1569 M166) else (
          j684 M166))),
     ((14 : Int32), (
        alI 100 s47.2 a0 (s47.1 + ((1 : Int32))) fun x168 =>
        alI 100 s47.2 a0 (s47.1 + ((2 : Int32))) fun x169 =>
        alI 100 s47.2 a0 (s47.1 + ((3 : Int32))) fun x170 =>
        vC (12, 19) s47.2 x1 <|
        cI (rec 142 [va_rf x1, .int x168, .int x169, .int x170] s47.2) fun x172 M171 =>
        alI 100 M171 a0 (s47.1 + ((1 : Int32))) fun x173 =>
        alI 100 M171 a0 (s47.1 + ((2 : Int32))) fun x174 =>
        alI 100 M171 a0 (s47.1 + ((3 : Int32))) fun x175 =>
        vC (13, 157) M171 x4 <|
        cI (rec 259 [va_rf x4, .int x173, .int x174, .int x175] M171) fun x177 M176 =>
        if x172 = x177 then (
          j1569 M176) else (
          j727 M176))),
     ((15 : Int32), (
        alI 100 s47.2 a0 (s47.1 + ((1 : Int32))) fun x178 =>
        alI 100 s47.2 a0 (s47.1 + ((2 : Int32))) fun x179 =>
        vC (12, 19) s47.2 x1 <|
        cI (rec 143 [va_rf x1, .int x178, .int x179] s47.2) fun x181 M180 =>
        alI 100 M180 a0 (s47.1 + ((1 : Int32))) fun x182 =>
        alI 100 M180 a0 (s47.1 + ((2 : Int32))) fun x183 =>
        vC (13, 157) M180 x4 <|
        cI (rec 261 [va_rf x4, .int x182, .int x183] M180) fun x185 M184 =>
        if x181 = x185 then (
          j1569 M184) else (
          j760 M184))),
     ((16 : Int32), (
        alI 100 s47.2 a0 (s47.1 + ((1 : Int32))) fun x186 =>
        vC (12, 19) s47.2 x1 <|
        cI (rec 144 [va_rf x1, .int x186] s47.2) fun x188 M187 =>
        alI 100 M187 a0 (s47.1 + ((1 : Int32))) fun x189 =>
        vC (13, 157) M187 x4 <|
        cI (rec 262 [va_rf x4, .int x189] M187) fun x191 M190 =>
        if x188 = x191 then (
          j1569 M190) else (
          j783 M190))),
     ((17 : Int32), (
        alI 100 s47.2 a0 (s47.1 + ((1 : Int32))) fun x192 =>
        alI 100 s47.2 a0 (s47.1 + ((2 : Int32))) fun x193 =>
        vC (12, 19) s47.2 x1 <|
        cI (rec 145 [va_rf x1, .int x192, .int x193] s47.2) fun x195 M194 =>
        alI 100 M194 a0 (s47.1 + ((1 : Int32))) fun x196 =>
        alI 100 M194 a0 (s47.1 + ((2 : Int32))) fun x197 =>
        vC (13, 157) M194 x4 <|
        cI (rec 273 [va_rf x4, .int x196, .int x197] M194) fun x199 M198 =>
        if x195 = x199 then (
          j1569 M198) else (
          j816 M198))),
     ((18 : Int32), (
        alI 100 s47.2 a0 (s47.1 + ((1 : Int32))) fun x200 =>
        alI 100 s47.2 a0 (s47.1 + ((2 : Int32))) fun x201 =>
        alI 100 s47.2 a0 (s47.1 + ((3 : Int32))) fun x202 =>
        alI 100 s47.2 a0 (s47.1 + ((4 : Int32))) fun x203 =>
        jn (fun (s204 : Int32) =>
          alI 100 s47.2 a0 (s47.1 + ((5 : Int32))) fun x205 =>
          vC (12, 19) s47.2 x1 <|
          cI (rec 146 [va_rf x1, .int x200, .int x201, .int x202, .int s204, .int x205] s47.2) fun x207 M206 =>
          alI 100 M206 a0 (s47.1 + ((1 : Int32))) fun x208 =>
          alI 100 M206 a0 (s47.1 + ((2 : Int32))) fun x209 =>
          alI 100 M206 a0 (s47.1 + ((3 : Int32))) fun x210 =>
          alI 100 M206 a0 (s47.1 + ((4 : Int32))) fun x211 =>
          jn (fun (s212 : Int32) =>
            alI 100 M206 a0 (s47.1 + ((5 : Int32))) fun x213 =>
            vC (13, 157) M206 x4 <|
            cI (rec 275 [va_rf x4, .int x208, .int x209, .int x210, .int s212, .int x213] M206) fun x215 M214 =>
            if x207 = x215 then (
              j1569 M214) else (
              j895 M214)) fun j884 =>
          if x211 = 0 then (
            j884 ((0 : Int32))) else (
            j884 ((1 : Int32)))) fun j847 =>
        if x203 = 0 then (
          j847 ((0 : Int32))) else (
          j847 ((1 : Int32))))),
     ((19 : Int32), (
        alI 100 s47.2 a0 (s47.1 + ((1 : Int32))) fun x216 =>
        vC (12, 19) s47.2 x1 <|
        cI (rec 147 [va_rf x1, .int x216] s47.2) fun x218 M217 =>
        alI 100 M217 a0 (s47.1 + ((1 : Int32))) fun x219 =>
        vC (13, 157) M217 x4 <|
        cI (rec 276 [va_rf x4, .int x219] M217) fun x221 M220 =>
        if x218 = x221 then (
          j1569 M220) else (
          j918 M220))),
     ((20 : Int32), (
        alI 100 s47.2 a0 (s47.1 + ((1 : Int32))) fun x222 =>
        alI 100 s47.2 a0 (s47.1 + ((2 : Int32))) fun x223 =>
        alI 100 s47.2 a0 (s47.1 + ((3 : Int32))) fun x224 =>
        vC (12, 19) s47.2 x1 <|
        cI (rec 148 [va_rf x1, .int x222, .int x223, .int x224] s47.2) fun x226 M225 =>
        alI 100 M225 a0 (s47.1 + ((1 : Int32))) fun x227 =>
        alI 100 M225 a0 (s47.1 + ((2 : Int32))) fun x228 =>
        alI 100 M225 a0 (s47.1 + ((3 : Int32))) fun x229 =>
        vC (13, 157) M225 x4 <|
        cI (rec 280 [va_rf x4, .int x227, .int x228, .int x229] M225) fun x231 M230 =>
        if x226 = x231 then (
          j1569 M230) else (
          j961 M230))),
     ((21 : Int32), (
        alI 100 s47.2 a0 (s47.1 + ((1 : Int32))) fun x232 =>
        alI 100 s47.2 a0 (s47.1 + ((2 : Int32))) fun x233 =>
        alI 100 s47.2 a0 (s47.1 + ((3 : Int32))) fun x234 =>
        vC (12, 19) s47.2 x1 <|
        cI (rec 149 [va_rf x1, .int x232, .int x233, .int x234] s47.2) fun x236 M235 =>
        alI 100 M235 a0 (s47.1 + ((1 : Int32))) fun x237 =>
        alI 100 M235 a0 (s47.1 + ((2 : Int32))) fun x238 =>
        alI 100 M235 a0 (s47.1 + ((3 : Int32))) fun x239 =>
        vC (13, 157) M235 x4 <|
        cI (rec 281 [va_rf x4, .int x237, .int x238, .int x239] M235) fun x241 M240 =>
        if x236 = x241 then (
          j1569 M240) else (
          j1004 M240))),
     ((22 : Int32), (
        alI 100 s47.2 a0 (s47.1 + ((1 : Int32))) fun x242 =>
        vC (12, 19) s47.2 x1 <|
        cI (rec 150 [va_rf x1, .int x242] s47.2) fun x244 M243 =>
        alI 100 M243 a0 (s47.1 + ((1 : Int32))) fun x245 =>
        vC (13, 157) M243 x4 <|
        cI (rec 283 [va_rf x4, .int x245] M243) fun x247 M246 =>
        if x244 = x247 then (
          j1569 M246) else (
          j1027 M246))),
     ((23 : Int32), (
        alI 100 s47.2 a0 (s47.1 + ((1 : Int32))) fun x248 =>
        alI 100 s47.2 a0 (s47.1 + ((2 : Int32))) fun x249 =>
        alI 100 s47.2 a0 (s47.1 + ((3 : Int32))) fun x250 =>
        vC (12, 19) s47.2 x1 <|
        cI (rec 151 [va_rf x1, .int x248, .int x249, .int x250] s47.2) fun x252 M251 =>
        alI 100 M251 a0 (s47.1 + ((1 : Int32))) fun x253 =>
        alI 100 M251 a0 (s47.1 + ((2 : Int32))) fun x254 =>
        alI 100 M251 a0 (s47.1 + ((3 : Int32))) fun x255 =>
        vC (13, 157) M251 x4 <|
        cI (rec 286 [va_rf x4, .int x253, .int x254, .int x255] M251) fun x257 M256 =>
        if x252 = x257 then (
          j1569 M256) else (
          j1070 M256))),
     ((24 : Int32), (
        alI 100 s47.2 a0 (s47.1 + ((1 : Int32))) fun x258 =>
        alI 100 s47.2 a0 (s47.1 + ((2 : Int32))) fun x259 =>
        vC (12, 19) s47.2 x1 <|
        cI (rec 152 [va_rf x1, .int x258, .int x259] s47.2) fun x261 M260 =>
        alI 100 M260 a0 (s47.1 + ((1 : Int32))) fun x262 =>
        alI 100 M260 a0 (s47.1 + ((2 : Int32))) fun x263 =>
        vC (13, 157) M260 x4 <|
        cI (rec 287 [va_rf x4, .int x262, .int x263] M260) fun x265 M264 =>
        if x261 = x265 then (
          j1569 M264) else (
          j1103 M264))),
     ((25 : Int32), (
        alI 100 s47.2 a0 (s47.1 + ((1 : Int32))) fun x266 =>
        alI 100 s47.2 a0 (s47.1 + ((2 : Int32))) fun x267 =>
        alI 100 s47.2 a0 (s47.1 + ((3 : Int32))) fun x268 =>
        vC (12, 19) s47.2 x1 <|
        cI (rec 153 [va_rf x1, .int x266, .int x267, .int x268] s47.2) fun x270 M269 =>
        alI 100 M269 a0 (s47.1 + ((1 : Int32))) fun x271 =>
        alI 100 M269 a0 (s47.1 + ((2 : Int32))) fun x272 =>
        alI 100 M269 a0 (s47.1 + ((3 : Int32))) fun x273 =>
        vC (13, 157) M269 x4 <|
        cI (rec 289 [va_rf x4, .int x271, .int x272, .int x273] M269) fun x275 M274 =>
        if x270 = x275 then (
          j1569 M274) else (
          j1146 M274))),
     ((26 : Int32), (
        alI 100 s47.2 a0 (s47.1 + ((1 : Int32))) fun x276 =>
        vC (12, 19) s47.2 x1 <|
        cI (rec 154 [va_rf x1, .int x276] s47.2) fun x278 M277 =>
        alI 100 M277 a0 (s47.1 + ((1 : Int32))) fun x279 =>
        vC (13, 157) M277 x4 <|
        cI (rec 290 [va_rf x4, .int x279] M277) fun x281 M280 =>
        if x278 = x281 then (
          j1569 M280) else (
          j1169 M280))),
     ((27 : Int32), (
        alI 100 s47.2 a0 (s47.1 + ((1 : Int32))) fun x282 =>
        alI 100 s47.2 a0 (s47.1 + ((2 : Int32))) fun x283 =>
        vC (12, 19) s47.2 x1 <|
        cI (rec 155 [va_rf x1, .int x282, .int x283] s47.2) fun x285 M284 =>
        alI 100 M284 a0 (s47.1 + ((1 : Int32))) fun x286 =>
        alI 100 M284 a0 (s47.1 + ((2 : Int32))) fun x287 =>
        vC (13, 157) M284 x4 <|
        cI (rec 292 [va_rf x4, .int x286, .int x287] M284) fun x289 M288 =>
        if x285 = x289 then (
          j1569 M288) else (
          j1202 M288))),
     ((28 : Int32), (
        alI 100 s47.2 a0 (s47.1 + ((1 : Int32))) fun x290 =>
        vC (12, 19) s47.2 x1 <|
        cI (rec 156 [va_rf x1, .int x290] s47.2) fun x292 M291 =>
        alI 100 M291 a0 (s47.1 + ((1 : Int32))) fun x293 =>
        vC (13, 157) M291 x4 <|
        cI (rec 293 [va_rf x4, .int x293] M291) fun x295 M294 =>
        if x292 = x295 then (
          j1569 M294) else (
          j1225 M294))),
     ((29 : Int32), (
        alI 100 s47.2 a0 (s47.1 + ((1 : Int32))) fun x296 =>
        alI 100 s47.2 a0 (s47.1 + ((2 : Int32))) fun x297 =>
        alI 100 s47.2 a0 (s47.1 + ((3 : Int32))) fun x298 =>
        alI 100 s47.2 a0 (s47.1 + ((4 : Int32))) fun x299 =>
        alI 100 s47.2 a0 (s47.1 + ((5 : Int32))) fun x300 =>
        alI 100 s47.2 a0 (s47.1 + ((6 : Int32))) fun x301 =>
        vC (12, 19) s47.2 x1 <|
        cI (rec 157 [va_rf x1, .int x296, .int x297, .int x298, .int x299, .int x300, .int x301] s47.2) fun x303 M302 =>
        alI 100 M302 a0 (s47.1 + ((1 : Int32))) fun x304 =>
        alI 100 M302 a0 (s47.1 + ((2 : Int32))) fun x305 =>
        alI 100 M302 a0 (s47.1 + ((3 : Int32))) fun x306 =>
        alI 100 M302 a0 (s47.1 + ((4 : Int32))) fun x307 =>
        alI 100 M302 a0 (s47.1 + ((5 : Int32))) fun x308 =>
        alI 100 M302 a0 (s47.1 + ((6 : Int32))) fun x309 =>
        vC (13, 157) M302 x4 <|
        cI (rec 294 [va_rf x4, .int x304, .int x305, .int x306, .int x307, .int x308, .int x309] M302) fun x311 M310 =>
        if x303 = x311 then (
          j1569 M310) else (
          j1300 M310))),
     ((30 : Int32), (
        alI 100 s47.2 a0 (s47.1 + ((1 : Int32))) fun x312 =>
        vC (12, 19) s47.2 x1 <|
        cI (rec 158 [va_rf x1, .int x312] s47.2) fun x314 M313 =>
        alI 100 M313 a0 (s47.1 + ((1 : Int32))) fun x315 =>
        vC (13, 157) M313 x4 <|
        cI (rec 298 [va_rf x4, .int x315] M313) fun x317 M316 =>
        if x314 = x317 then (
          j1569 M316) else (
          j1323 M316))),
     ((31 : Int32), (
        alI 100 s47.2 a0 (s47.1 + ((1 : Int32))) fun x318 =>
        alI 100 s47.2 a0 (s47.1 + ((2 : Int32))) fun x319 =>
        vC (12, 19) s47.2 x1 <|
        cI (rec 159 [va_rf x1, .int x318, .int x319] s47.2) fun x321 M320 =>
        alI 100 M320 a0 (s47.1 + ((1 : Int32))) fun x322 =>
        alI 100 M320 a0 (s47.1 + ((2 : Int32))) fun x323 =>
        vC (13, 157) M320 x4 <|
        cI (rec 299 [va_rf x4, .int x322, .int x323] M320) fun x325 M324 =>
        if x321 = x325 then (
          j1569 M324) else (
          j1356 M324))),
     ((32 : Int32), (
        alI 100 s47.2 a0 (s47.1 + ((1 : Int32))) fun x326 =>
        alI 100 s47.2 a0 (s47.1 + ((2 : Int32))) fun x327 =>
        vC (12, 19) s47.2 x1 <|
        cI (rec 160 [va_rf x1, .int x326, .int x327] s47.2) fun x329 M328 =>
        alI 100 M328 a0 (s47.1 + ((1 : Int32))) fun x330 =>
        alI 100 M328 a0 (s47.1 + ((2 : Int32))) fun x331 =>
        vC (13, 157) M328 x4 <|
        cI (rec 301 [va_rf x4, .int x330, .int x331] M328) fun x333 M332 =>
        if x329 = x333 then (
          j1569 M332) else (
          j1389 M332))),
     ((33 : Int32), (
        alI 100 s47.2 a0 (s47.1 + ((1 : Int32))) fun x334 =>
        vC (12, 19) s47.2 x1 <|
        cI (rec 161 [va_rf x1, .int x334] s47.2) fun x336 M335 =>
        alI 100 M335 a0 (s47.1 + ((1 : Int32))) fun x337 =>
        vC (13, 157) M335 x4 <|
        cI (rec 302 [va_rf x4, .int x337] M335) fun x339 M338 =>
        if x336 = x339 then (
          j1569 M338) else (
          j1412 M338))),
     ((34 : Int32), (
        alI 100 s47.2 a0 (s47.1 + ((1 : Int32))) fun x340 =>
        alI 100 s47.2 a0 (s47.1 + ((2 : Int32))) fun x341 =>
        vC (12, 19) s47.2 x1 <|
        cI (rec 162 [va_rf x1, .int x340, .int x341] s47.2) fun x343 M342 =>
        alI 100 M342 a0 (s47.1 + ((1 : Int32))) fun x344 =>
        alI 100 M342 a0 (s47.1 + ((2 : Int32))) fun x345 =>
        vC (13, 157) M342 x4 <|
        cI (rec 304 [va_rf x4, .int x344, .int x345] M342) fun x347 M346 =>
        if x343 = x347 then (
          j1569 M346) else (
          j1445 M346))),
     ((35 : Int32), (
        alI 100 s47.2 a0 (s47.1 + ((1 : Int32))) fun x348 =>
        vC (12, 19) s47.2 x1 <|
        cI (rec 163 [va_rf x1, .int x348] s47.2) fun x350 M349 =>
        alI 100 M349 a0 (s47.1 + ((1 : Int32))) fun x351 =>
        vC (13, 157) M349 x4 <|
        cI (rec 305 [va_rf x4, .int x351] M349) fun x353 M352 =>
        if x350 = x353 then (
          j1569 M352) else (
          j1468 M352))),
     ((36 : Int32), (
        alI 100 s47.2 a0 (s47.1 + ((1 : Int32))) fun x354 =>
        alI 100 s47.2 a0 (s47.1 + ((2 : Int32))) fun x355 =>
        vC (12, 19) s47.2 x1 <|
        cI (rec 164 [va_rf x1, .int x354, .int x355] s47.2) fun x357 M356 =>
        alI 100 M356 a0 (s47.1 + ((1 : Int32))) fun x358 =>
        alI 100 M356 a0 (s47.1 + ((2 : Int32))) fun x359 =>
        vC (13, 157) M356 x4 <|
        cI (rec 306 [va_rf x4, .int x358, .int x359] M356) fun x361 M360 =>
        if x357 = x361 then (
          j1569 M360) else (
          j1501 M360))),
     ((37 : Int32), (
        alI 100 s47.2 a0 (s47.1 + ((1 : Int32))) fun x362 =>
        alI 100 s47.2 a0 (s47.1 + ((2 : Int32))) fun x363 =>
        vC (12, 19) s47.2 x1 <|
        cI (rec 165 [va_rf x1, .int x362, .int x363] s47.2) fun x365 M364 =>
        alI 100 M364 a0 (s47.1 + ((1 : Int32))) fun x366 =>
        alI 100 M364 a0 (s47.1 + ((2 : Int32))) fun x367 =>
        vC (13, 157) M364 x4 <|
        cI (rec 308 [va_rf x4, .int x366, .int x367] M364) fun x369 M368 =>
        if x365 = x369 then (
          j1569 M368) else (
          j1534 M368))),
     ((38 : Int32), (
        alI 100 s47.2 a0 (s47.1 + ((1 : Int32))) fun x370 =>
        alI 100 s47.2 a0 (s47.1 + ((2 : Int32))) fun x371 =>
        vC (12, 19) s47.2 x1 <|
        cI (rec 166 [va_rf x1, .int x370, .int x371] s47.2) fun x373 M372 =>
        alI 100 M372 a0 (s47.1 + ((1 : Int32))) fun x374 =>
        alI 100 M372 a0 (s47.1 + ((2 : Int32))) fun x375 =>
        vC (13, 157) M372 x4 <|
        cI (rec 309 [va_rf x4, .int x374, .int x375] M372) fun x377 M376 =>
        if x373 = x377 then (
          j1569 M376) else (
          j1567 M376)))] (
      j1569 s47.2))
set_option maxRecDepth 100000 in
def c364 (rec : Nat → List Value → Mem → XA) (a0 : Option Nat) (M0 : Mem) : XA :=
  nO (12, 19) M0 fun x1 M2 =>
  vC (12, 19) M2 x1 <|
  cV (rec 127 [va_rf x1] M2) fun M3 =>
  nO (13, 157) M3 fun x4 M5 =>
  vC (13, 157) M5 x4 <|
  cV (rec 183 [va_rf x4] M5) fun M6 =>
  jn (fun (s7 : Mem) =>
    rtZ ((0 : Int32)) s7) fun j265 =>
  jn (fun (s8 : Mem) =>
    rtZ ((0 : Int32)) s8) fun j288 =>
  jn (fun (s9 : Mem) =>
    rtZ ((0 : Int32)) s9) fun j301 =>
  jn (fun (s10 : Mem) =>
    rtZ ((0 : Int32)) s10) fun j314 =>
  jn (fun (s11 : Mem) =>
    rtZ ((0 : Int32)) s11) fun j347 =>
  jn (fun (s12 : Mem) =>
    rtZ ((0 : Int32)) s12) fun j390 =>
  jn (fun (s13 : Mem) =>
    rtZ ((0 : Int32)) s13) fun j433 =>
  jn (fun (s14 : Mem) =>
    rtZ ((0 : Int32)) s14) fun j486 =>
  jn (fun (s15 : Mem) =>
    rtZ ((0 : Int32)) s15) fun j529 =>
  jn (fun (s16 : Mem) =>
    rtZ ((0 : Int32)) s16) fun j552 =>
  jn (fun (s17 : Mem) =>
    rtZ ((0 : Int32)) s17) fun j575 =>
  jn (fun (s18 : Mem) =>
    rtZ ((0 : Int32)) s18) fun j618 =>
  jn (fun (s19 : Mem) =>
    rtZ ((0 : Int32)) s19) fun j641 =>
  jn (fun (s20 : Mem) =>
    rtZ ((0 : Int32)) s20) fun j684 =>
  jn (fun (s21 : Mem) =>
    rtZ ((0 : Int32)) s21) fun j727 =>
  jn (fun (s22 : Mem) =>
    rtZ ((0 : Int32)) s22) fun j760 =>
  jn (fun (s23 : Mem) =>
    rtZ ((0 : Int32)) s23) fun j783 =>
  jn (fun (s24 : Mem) =>
    rtZ ((0 : Int32)) s24) fun j816 =>
  jn (fun (s25 : Mem) =>
    rtZ ((0 : Int32)) s25) fun j895 =>
  jn (fun (s26 : Mem) =>
    rtZ ((0 : Int32)) s26) fun j918 =>
  jn (fun (s27 : Mem) =>
    rtZ ((0 : Int32)) s27) fun j961 =>
  jn (fun (s28 : Mem) =>
    rtZ ((0 : Int32)) s28) fun j1004 =>
  jn (fun (s29 : Mem) =>
    rtZ ((0 : Int32)) s29) fun j1027 =>
  jn (fun (s30 : Mem) =>
    rtZ ((0 : Int32)) s30) fun j1070 =>
  jn (fun (s31 : Mem) =>
    rtZ ((0 : Int32)) s31) fun j1103 =>
  jn (fun (s32 : Mem) =>
    rtZ ((0 : Int32)) s32) fun j1146 =>
  jn (fun (s33 : Mem) =>
    rtZ ((0 : Int32)) s33) fun j1169 =>
  jn (fun (s34 : Mem) =>
    rtZ ((0 : Int32)) s34) fun j1202 =>
  jn (fun (s35 : Mem) =>
    rtZ ((0 : Int32)) s35) fun j1225 =>
  jn (fun (s36 : Mem) =>
    rtZ ((0 : Int32)) s36) fun j1300 =>
  jn (fun (s37 : Mem) =>
    rtZ ((0 : Int32)) s37) fun j1323 =>
  jn (fun (s38 : Mem) =>
    rtZ ((0 : Int32)) s38) fun j1356 =>
  jn (fun (s39 : Mem) =>
    rtZ ((0 : Int32)) s39) fun j1389 =>
  jn (fun (s40 : Mem) =>
    rtZ ((0 : Int32)) s40) fun j1412 =>
  jn (fun (s41 : Mem) =>
    rtZ ((0 : Int32)) s41) fun j1445 =>
  jn (fun (s42 : Mem) =>
    rtZ ((0 : Int32)) s42) fun j1468 =>
  jn (fun (s43 : Mem) =>
    rtZ ((0 : Int32)) s43) fun j1501 =>
  jn (fun (s44 : Mem) =>
    rtZ ((0 : Int32)) s44) fun j1534 =>
  jn (fun (s45 : Mem) =>
    rtZ ((0 : Int32)) s45) fun j1567 =>
  jn (fun (s46 : Mem) =>
    rtZ ((1 : Int32)) s46) fun j1575 =>
  lp (c364_18 rec a0 j265 j288 j301 j314 j347 j390 j433 j486 j529 j552 j575 j618 j641 j684 j727 j760 j783 j816 j895 j918 j961 j1004 j1027 j1070 j1103 j1146 j1169 j1202 j1225 j1300 j1323 j1356 j1389 j1412 j1445 j1468 j1501 j1534 j1567 j1575 x1 x4) 4294967296 ((0 : Int32), M6)
def b364 (rec : Nat → List Value → Mem → XA) (as : List Value) (M0 : Mem) : XA := aR as fun a0 as => aZ as (c364 rec a0 M0)
