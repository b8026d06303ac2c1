set_option maxRecDepth 100000 in
def c62 (rec : Nat → List Value → Mem → XA) (a0 : Option Nat) (a1 : Int32) (M0 : Mem) : XA :=
  gtI (7, 20) M0 a0 10 fun x1 =>
  jn (fun (s2 : Mem) =>
    ptI (7, 20) s2 a0 13 ((2 : Int32)) fun M3 =>
    some (.null, M3)) fun j40 =>
  if x1 = 0 then (
    gtI (7, 20) M0 a0 13 fun x4 =>
    jn (fun (s5 : Int32) =>
      ptI (7, 20) M0 a0 10 s5 fun M6 =>
      gtP (7, 20) M6 a0 0 fun x7 =>
      gtP (9, 8) M6 x7 3 fun x8 =>
      gtI (7, 20) M6 a0 12 fun x9 =>
      alI 100 M6 x8 x9 fun x10 =>
      ptI (7, 20) M6 a0 11 x10 fun M11 =>
      j40 M11) fun j21 =>
    if x4 = ((1 : Int32)) then (
      j21 ((1 : Int32))) else (
      j21 a1)) else (
    j40 M0)
def b62 (rec : Nat → List Value → Mem → XA) (as : List Value) (M0 : Mem) : XA := aR as fun a0 as => aI as fun a1 as => aZ as (c62 rec a0 a1 M0)
set_option maxRecDepth 100000 in
set_option maxHeartbeats 4000000 in
theorem k62 {S : XS} {G : XG} {K : Nat × Nat} {l : Launch} {d : Nat} {rec : Nat → List Value → Mem → XA} (hs : XSnd l xmt rec d) (a0 : Option Nat) (a1 : Int32) (M0 : Mem) : Xe S G K l (yX6_stop, cX6_stop, 2, none) d 0 [some (va_rf a0), some (.int a1)] [] M0 (c62 rec a0 a1 M0) := by
  unfold c62
  refine x_aload_n dX6_stop_0 rfl ?_
  refine gfX6_66 rfl dX6_stop_1 (fun x1 => ?_)
  refine x_jn (σ := Mem) 40 (fun s2 => [some (va_rf a0), none]) (fun s2 => []) (fun s2 => s2) (fun s2 => ?_) (fun j40 hj40 => ?_)
  · refine x_aload_n dX6_stop_40 rfl ?_
    refine x_iconst (v := 2) dX6_stop_41 (by decide) ?_
    refine pfX6_81 rfl dX6_stop_42 (fun M3 => ?_)
    exact x_vret rfl dX6_stop_45
  refine x_if_ne (tgt := 40) dX6_stop_4 (by decide) (fun _ => ?_) (fun _ => ?_)
  · refine x_aload_n dX6_stop_7 rfl ?_
    refine x_aload_n dX6_stop_8 rfl ?_
    refine gfX6_81 rfl dX6_stop_9 (fun x4 => ?_)
    refine x_iconst (v := 1) dX6_stop_12 (by decide) ?_
    refine x_jn (σ := Int32) 21 (fun s5 => [some (va_rf a0), none]) (fun s5 => [.int s5, va_rf a0]) (fun s5 => M0) (fun s5 => ?_) (fun j21 hj21 => ?_)
    · refine pfX6_66 rfl dX6_stop_21 (fun M6 => ?_)
      refine x_aload_n dX6_stop_24 rfl ?_
      refine x_aload_n dX6_stop_25 rfl ?_
      refine gfX6_12 rfl dX6_stop_26 (fun x7 => ?_)
      refine gfX6_115 rfl dX6_stop_29 (fun x8 => ?_)
      refine x_aload_n dX6_stop_32 rfl ?_
      refine gfX6_75 rfl dX6_stop_33 (fun x9 => ?_)
      refine x_iald dX6_stop_36 (fun x10 => ?_)
      refine pfX6_118 rfl dX6_stop_37 (fun M11 => ?_)
      exact x_weak (by exact ⟨rfl, trivial⟩) (hj40 M11)
    refine x_icmp_ne (tgt := 20) dX6_stop_13 (by decide) (fun _ => ?_) (fun _ => ?_)
    · refine x_iconst (v := 1) dX6_stop_16 (by decide) ?_
      refine x_goto (tgt := 21) dX6_stop_17 (by decide) ?_
      exact x_weak (by exact ⟨rfl, trivial⟩) (hj21 ((1 : Int32)))
    · refine x_iload_n dX6_stop_20 rfl ?_
      exact x_weak (by exact ⟨rfl, trivial⟩) (hj21 a1)
  · exact x_weak (by exact ⟨rfl, trivial⟩) (hj40 M0)
theorem s62 {l : Launch} {d : Nat} {rec : Nat → List Value → Mem → XA} (hS : Nonempty XS) (hs : XSnd l xmt rec d) : Snd1 l 62 (b62 rec) d := by
  intro as M r M' h0
  unfold b62 at h0
  obtain ⟨a0, l1, e1, h1⟩ := aR_inv h0
  obtain ⟨a1, l2, e2, h2⟩ := aI_inv h1
  obtain ⟨ez, h⟩ := aZ_inv h2
  subst ez
  subst e2
  subst e1
  exact xmet (M := M) (as := [va_rf a0, .int a1]) (lo := [some (va_rf a0), some (.int a1)]) 62 xq62 xm62 (by rw [xargs_rf, xargs_i, xargs_nil]; exact ⟨rfl, ⟨rfl, trivial⟩⟩) (by rw [xargs_rf, xargs_i, xargs_nil]; exact Nat.le_of_ble_eq_true rfl) (fun S G K => x_weak (by exact ⟨rfl, ⟨rfl, trivial⟩⟩) (k62 hs a0 a1 M)) h hS
set_option maxRecDepth 100000 in
def c63 (rec : Nat → List Value → Mem → XA) (a0 : Option Nat) (M0 : Mem) : XA :=
  gtI (7, 20) M0 a0 13 fun x1 =>
  jn (fun (s2 : Mem) =>
    some (.null, s2)) fun j44 =>
  if x1 = ((2 : Int32)) then (
    j44 M0) else (
    gtI (7, 20) M0 a0 12 fun x3 =>
    if ((3000 : Int32)) ≤ x3 then (
      j44 M0) else (
      gtI (7, 20) M0 a0 12 fun x4 =>
      ptI (7, 20) M0 a0 12 (x4 + ((1 : Int32))) fun M5 =>
      gtP (7, 20) M5 a0 0 fun x6 =>
      gtP (9, 8) M5 x6 2 fun x7 =>
      gtI (7, 20) M5 a0 12 fun x8 =>
      alI 100 M5 x7 x8 fun x9 =>
      ptI (7, 20) M5 a0 13 x9 fun M10 =>
      j44 M10))
def b63 (rec : Nat → List Value → Mem → XA) (as : List Value) (M0 : Mem) : XA := aR as fun a0 as => aZ as (c63 rec a0 M0)
set_option maxRecDepth 100000 in
set_option maxHeartbeats 4000000 in
theorem k63 {S : XS} {G : XG} {K : Nat × Nat} {l : Launch} {d : Nat} {rec : Nat → List Value → Mem → XA} (hs : XSnd l xmt rec d) (a0 : Option Nat) (M0 : Mem) : Xe S G K l (yX6_advance, cX6_advance, 1, none) d 0 [some (va_rf a0)] [] M0 (c63 rec a0 M0) := by
  unfold c63
  refine x_aload_n dX6_advance_0 rfl ?_
  refine gfX6_81 rfl dX6_advance_1 (fun x1 => ?_)
  refine x_iconst (v := 2) dX6_advance_4 (by decide) ?_
  refine x_jn (σ := Mem) 44 (fun s2 => [none]) (fun s2 => []) (fun s2 => s2) (fun s2 => ?_) (fun j44 hj44 => ?_)
  · exact x_vret rfl dX6_advance_44
  refine x_icmp_eq (tgt := 44) dX6_advance_5 (by decide) (fun _ => ?_) (fun _ => ?_)
  · exact x_weak (by exact trivial) (hj44 M0)
  · refine x_aload_n dX6_advance_8 rfl ?_
    refine gfX6_75 rfl dX6_advance_9 (fun x3 => ?_)
    refine x_sipush (v := 3000) dX6_advance_12 (by decide) ?_
    refine x_icmp_ge (tgt := 44) dX6_advance_15 (by decide) (fun _ => ?_) (fun _ => ?_)
    · exact x_weak (by exact trivial) (hj44 M0)
    · refine x_aload_n dX6_advance_18 rfl ?_
      refine x_dup dX6_advance_19 (xc1_r _) ?_
      refine gfX6_75 rfl dX6_advance_20 (fun x4 => ?_)
      refine x_iconst (v := 1) dX6_advance_23 (by decide) ?_
      refine x_iadd dX6_advance_24 ?_
      refine pfX6_75 rfl dX6_advance_25 (fun M5 => ?_)
      refine x_aload_n dX6_advance_28 rfl ?_
      refine x_aload_n dX6_advance_29 rfl ?_
      refine gfX6_12 rfl dX6_advance_30 (fun x6 => ?_)
      refine gfX6_78 rfl dX6_advance_33 (fun x7 => ?_)
      refine x_aload_n dX6_advance_36 rfl ?_
      refine gfX6_75 rfl dX6_advance_37 (fun x8 => ?_)
      refine x_iald dX6_advance_40 (fun x9 => ?_)
      refine pfX6_81 rfl dX6_advance_41 (fun M10 => ?_)
      exact x_weak (by exact trivial) (hj44 M10)
theorem s63 {l : Launch} {d : Nat} {rec : Nat → List Value → Mem → XA} (hS : Nonempty XS) (hs : XSnd l xmt rec d) : Snd1 l 63 (b63 rec) d := by
  intro as M r M' h0
  unfold b63 at h0
  obtain ⟨a0, l1, e1, h1⟩ := aR_inv h0
  obtain ⟨ez, h⟩ := aZ_inv h1
  subst ez
  subst e1
  exact xmet (M := M) (as := [va_rf a0]) (lo := [some (va_rf a0)]) 63 xq63 xm63 (by rw [xargs_rf, xargs_nil]; exact ⟨rfl, trivial⟩) (by rw [xargs_rf, xargs_nil]; exact Nat.le_of_ble_eq_true rfl) (fun S G K => x_weak (by exact ⟨rfl, trivial⟩) (k63 hs a0 M)) h hS
set_option maxRecDepth 100000 in
def c64 (rec : Nat → List Value → Mem → XA) (a0 : Option Nat) (a1 : Int32) (M0 : Mem) : XA :=
  gtI (7, 20) M0 a0 13 fun x1 =>
  jn (fun (s2 : Mem) =>
    some (.null, s2)) fun j20 =>
  if x1 = a1 then (
    vC (7, 20) M0 a0 <|
    cV (rec 63 [va_rf a0] M0) fun M3 =>
    j20 M3) else (
    vC (7, 20) M0 a0 <|
    cV (rec 62 [va_rf a0, .int ((2 : Int32))] M0) fun M4 =>
    j20 M4)
def b64 (rec : Nat → List Value → Mem → XA) (as : List Value) (M0 : Mem) : XA := aR as fun a0 as => aI as fun a1 as => aZ as (c64 rec a0 a1 M0)
set_option maxRecDepth 100000 in
set_option maxHeartbeats 4000000 in
theorem k64 {S : XS} {G : XG} {K : Nat × Nat} {l : Launch} {d : Nat} {rec : Nat → List Value → Mem → XA} (hs : XSnd l xmt rec d) (a0 : Option Nat) (a1 : Int32) (M0 : Mem) : Xe S G K l (yX6_expect, cX6_expect, 2, none) d 0 [some (va_rf a0), some (.int a1)] [] M0 (c64 rec a0 a1 M0) := by
  unfold c64
  refine x_aload_n dX6_expect_0 rfl ?_
  refine gfX6_81 rfl dX6_expect_1 (fun x1 => ?_)
  refine x_iload_n dX6_expect_4 rfl ?_
  refine x_jn (σ := Mem) 20 (fun s2 => [none, none]) (fun s2 => []) (fun s2 => s2) (fun s2 => ?_) (fun j20 hj20 => ?_)
  · exact x_vret rfl dX6_expect_20
  refine x_icmp_ne (tgt := 15) dX6_expect_5 (by decide) (fun _ => ?_) (fun _ => ?_)
  · refine x_aload_n dX6_expect_8 rfl ?_
    refine cmX6_121 rfl hs (Nat.le_of_ble_eq_true rfl) dX6_expect_9 (fun M3 => ?_)
    refine x_goto (tgt := 20) dX6_expect_12 (by decide) ?_
    exact x_weak (by exact trivial) (hj20 M3)
  · refine x_aload_n dX6_expect_15 rfl ?_
    refine x_iconst (v := 2) dX6_expect_16 (by decide) ?_
    refine cmX6_109 rfl hs (Nat.le_of_ble_eq_true rfl) dX6_expect_17 (fun M4 => ?_)
    exact x_weak (by exact trivial) (hj20 M4)
theorem s64 {l : Launch} {d : Nat} {rec : Nat → List Value → Mem → XA} (hS : Nonempty XS) (hs : XSnd l xmt rec d) : Snd1 l 64 (b64 rec) d := by
  intro as M r M' h0
  unfold b64 at h0
  obtain ⟨a0, l1, e1, h1⟩ := aR_inv h0
  obtain ⟨a1, l2, e2, h2⟩ := aI_inv h1
  obtain ⟨ez, h⟩ := aZ_inv h2
  subst ez
  subst e2
  subst e1
  exact xmet (M := M) (as := [va_rf a0, .int a1]) (lo := [some (va_rf a0), some (.int a1)]) 64 xq64 xm64 (by rw [xargs_rf, xargs_i, xargs_nil]; exact ⟨rfl, ⟨rfl, trivial⟩⟩) (by rw [xargs_rf, xargs_i, xargs_nil]; exact Nat.le_of_ble_eq_true rfl) (fun S G K => x_weak (by exact ⟨rfl, ⟨rfl, trivial⟩⟩) (k64 hs a0 a1 M)) h hS
set_option maxRecDepth 100000 in
def c65 (rec : Nat → List Value → Mem → XA) (a0 : Option Nat) (M0 : Mem) : XA :=
  gtP (7, 20) M0 a0 0 fun x1 =>
  gtP (9, 8) M0 x1 4 fun x2 =>
  gtI (7, 20) M0 a0 12 fun x3 =>
  alL M0 x2 x3 fun x4 =>
  some (.long x4, M0)
def b65 (rec : Nat → List Value → Mem → XA) (as : List Value) (M0 : Mem) : XA := aR as fun a0 as => aZ as (c65 rec a0 M0)
set_option maxRecDepth 100000 in
set_option maxHeartbeats 4000000 in
theorem k65 {S : XS} {G : XG} {K : Nat × Nat} {l : Launch} {d : Nat} {rec : Nat → List Value → Mem → XA} (hs : XSnd l xmt rec d) (a0 : Option Nat) (M0 : Mem) : Xe S G K l (yX6_text, cX6_text, 1, some .long) d 0 [some (va_rf a0)] [] M0 (c65 rec a0 M0) := by
  unfold c65
  refine x_aload_n dX6_text_0 rfl ?_
  refine gfX6_12 rfl dX6_text_1 (fun x1 => ?_)
  refine gfX6_124 rfl dX6_text_4 (fun x2 => ?_)
  refine x_aload_n dX6_text_7 rfl ?_
  refine gfX6_75 rfl dX6_text_8 (fun x3 => ?_)
  refine x_lald dX6_text_11 (fun x4 => ?_)
  exact x_lret rfl dX6_text_12
theorem s65 {l : Launch} {d : Nat} {rec : Nat → List Value → Mem → XA} (hS : Nonempty XS) (hs : XSnd l xmt rec d) : Snd1 l 65 (b65 rec) d := by
  intro as M r M' h0
  unfold b65 at h0
  obtain ⟨a0, l1, e1, h1⟩ := aR_inv h0
  obtain ⟨ez, h⟩ := aZ_inv h1
  subst ez
  subst e1
  exact xmet (M := M) (as := [va_rf a0]) (lo := [some (va_rf a0)]) 65 xq65 xm65 (by rw [xargs_rf, xargs_nil]; exact ⟨rfl, trivial⟩) (by rw [xargs_rf, xargs_nil]; exact Nat.le_of_ble_eq_true rfl) (fun S G K => x_weak (by exact ⟨rfl, trivial⟩) (k65 hs a0 M)) h hS
set_option maxRecDepth 100000 in
def c66 (rec : Nat → List Value → Mem → XA) (a0 : Option Nat) (a1 : Int32) (a2 : Int32) (M0 : Mem) : XA :=
  vC (7, 20) M0 a0 <|
  cL (rec 65 [va_rf a0] M0) fun x2 M1 =>
  gtI (7, 20) M1 a0 13 fun x3 =>
  jn (fun (s4 : Mem) =>
    some (.long x2, s4)) fun j50 =>
  if x3 = ((3 : Int32)) then (
    if a1 = 0 then (
      if a2 = 0 then (
        vC (7, 20) M1 a0 <|
        cV (rec 63 [va_rf a0] M1) fun M5 =>
        j50 M5) else (
        vC (7, 20) M1 a0 <|
        cV (rec 62 [va_rf a0, .int ((6 : Int32))] M1) fun M6 =>
        j50 M6)) else (
      vC (7, 20) M1 a0 <|
      cV (rec 62 [va_rf a0, .int ((3 : Int32))] M1) fun M7 =>
      j50 M7)) else (
    vC (7, 20) M1 a0 <|
    cV (rec 62 [va_rf a0, .int ((2 : Int32))] M1) fun M8 =>
    j50 M8)
def b66 (rec : Nat → List Value → Mem → XA) (as : List Value) (M0 : Mem) : XA := aR as fun a0 as => aI as fun a1 as => aI as fun a2 as => aZ as (c66 rec a0 a1 a2 M0)
set_option maxRecDepth 100000 in
set_option maxHeartbeats 4000000 in
theorem k66 {S : XS} {G : XG} {K : Nat × Nat} {l : Launch} {d : Nat} {rec : Nat → List Value → Mem → XA} (hs : XSnd l xmt rec d) (a0 : Option Nat) (a1 : Int32) (a2 : Int32) (M0 : Mem) : Xe S G K l (yX6_newName, cX6_newName, 5, some .long) d 0 [some (va_rf a0), some (.int a1), some (.int a2), none, none] [] M0 (c66 rec a0 a1 a2 M0) := by
  unfold c66
  refine x_aload_n dX6_newName_0 rfl ?_
  refine cmX6_127 rfl hs (Nat.le_of_ble_eq_true rfl) dX6_newName_1 (fun x2 M1 => ?_)
  refine x_lstore_n (lo' := [some (va_rf a0), some (.int a1), some (.int a2), some (.long x2), none]) dX6_newName_4 (by decide) rfl rfl ?_
  refine x_aload_n dX6_newName_5 rfl ?_
  refine gfX6_81 rfl dX6_newName_6 (fun x3 => ?_)
  refine x_iconst (v := 3) dX6_newName_9 (by decide) ?_
  refine x_jn (σ := Mem) 50 (fun s4 => [none, none, none, some (.long x2), none]) (fun s4 => []) (fun s4 => s4) (fun s4 => ?_) (fun j50 hj50 => ?_)
  · refine x_lload_n dX6_newName_50 rfl ?_
    exact x_lret rfl dX6_newName_51
  refine x_icmp_eq (tgt := 21) dX6_newName_10 (by decide) (fun _ => ?_) (fun _ => ?_)
  · refine x_iload_n dX6_newName_21 rfl ?_
    refine x_if_eq (tgt := 33) dX6_newName_22 (by decide) (fun _ => ?_) (fun _ => ?_)
    · refine x_iload_n dX6_newName_33 rfl ?_
      refine x_if_eq (tgt := 46) dX6_newName_34 (by decide) (fun _ => ?_) (fun _ => ?_)
      · refine x_aload_n dX6_newName_46 rfl ?_
        refine cmX6_121 rfl hs (Nat.le_of_ble_eq_true rfl) dX6_newName_47 (fun M5 => ?_)
        exact x_weak (by exact ⟨rfl, trivial⟩) (hj50 M5)
      · refine x_aload_n dX6_newName_37 rfl ?_
        refine x_bipush (v := 6) dX6_newName_38 (by decide) ?_
        refine cmX6_109 rfl hs (Nat.le_of_ble_eq_true rfl) dX6_newName_40 (fun M6 => ?_)
        refine x_goto (tgt := 50) dX6_newName_43 (by decide) ?_
        exact x_weak (by exact ⟨rfl, trivial⟩) (hj50 M6)
    · refine x_aload_n dX6_newName_25 rfl ?_
      refine x_iconst (v := 3) dX6_newName_26 (by decide) ?_
      refine cmX6_109 rfl hs (Nat.le_of_ble_eq_true rfl) dX6_newName_27 (fun M7 => ?_)
      refine x_goto (tgt := 50) dX6_newName_30 (by decide) ?_
      exact x_weak (by exact ⟨rfl, trivial⟩) (hj50 M7)
  · refine x_aload_n dX6_newName_13 rfl ?_
    refine x_iconst (v := 2) dX6_newName_14 (by decide) ?_
    refine cmX6_109 rfl hs (Nat.le_of_ble_eq_true rfl) dX6_newName_15 (fun M8 => ?_)
    refine x_goto (tgt := 50) dX6_newName_18 (by decide) ?_
    exact x_weak (by exact ⟨rfl, trivial⟩) (hj50 M8)
theorem s66 {l : Launch} {d : Nat} {rec : Nat → List Value → Mem → XA} (hS : Nonempty XS) (hs : XSnd l xmt rec d) : Snd1 l 66 (b66 rec) d := by
  intro as M r M' h0
  unfold b66 at h0
  obtain ⟨a0, l1, e1, h1⟩ := aR_inv h0
  obtain ⟨a1, l2, e2, h2⟩ := aI_inv h1
  obtain ⟨a2, l3, e3, h3⟩ := aI_inv h2
  obtain ⟨ez, h⟩ := aZ_inv h3
  subst ez
  subst e3
  subst e2
  subst e1
  exact xmet (M := M) (as := [va_rf a0, .int a1, .int a2]) (lo := [some (va_rf a0), some (.int a1), some (.int a2)]) 66 xq66 xm66 (by rw [xargs_rf, xargs_i, xargs_i, xargs_nil]; exact ⟨rfl, ⟨rfl, ⟨rfl, trivial⟩⟩⟩) (by rw [xargs_rf, xargs_i, xargs_i, xargs_nil]; exact Nat.le_of_ble_eq_true rfl) (fun S G K => x_weak (by exact ⟨rfl, ⟨rfl, ⟨rfl, trivial⟩⟩⟩) (k66 hs a0 a1 a2 M)) h hS
set_option maxRecDepth 100000 in
def c67 (rec : Nat → List Value → Mem → XA) (a0 : Option Nat) (a1 : Int32) (a2 : Int32) (M0 : Mem) : XA :=
  vC (7, 20) M0 a0 <|
  cL (rec 65 [va_rf a0] M0) fun x2 M1 =>
  gtI (7, 20) M1 a0 13 fun x3 =>
  jn (fun (s4 : Mem) =>
    vC (7, 20) s4 a0 <|
    cV (rec 64 [va_rf a0, .int ((4 : Int32))] s4) fun M5 =>
    some (.int x2.toInt32, M5)) fun j29 =>
  if x3 = ((4 : Int32)) then (
    jn (fun (s6 : Unit) =>
      vC (7, 20) M1 a0 <|
      cV (rec 62 [va_rf a0, .int ((5 : Int32))] M1) fun M7 =>
      j29 M7) fun j24 =>
    if x2.toInt32 < a1 then (
      j24 ()) else (
      if x2.toInt32 ≤ a2 then (
        j29 M1) else (
        j24 ()))) else (
    j29 M1)
def b67 (rec : Nat → List Value → Mem → XA) (as : List Value) (M0 : Mem) : XA := aR as fun a0 as => aI as fun a1 as => aI as fun a2 as => aZ as (c67 rec a0 a1 a2 M0)
set_option maxRecDepth 100000 in
set_option maxHeartbeats 4000000 in
theorem k67 {S : XS} {G : XG} {K : Nat × Nat} {l : Launch} {d : Nat} {rec : Nat → List Value → Mem → XA} (hs : XSnd l xmt rec d) (a0 : Option Nat) (a1 : Int32) (a2 : Int32) (M0 : Mem) : Xe S G K l (yX6_numberFrom, cX6_numberFrom, 4, some .int) d 0 [some (va_rf a0), some (.int a1), some (.int a2), none] [] M0 (c67 rec a0 a1 a2 M0) := by
  unfold c67
  refine x_aload_n dX6_numberFrom_0 rfl ?_
  refine cmX6_127 rfl hs (Nat.le_of_ble_eq_true rfl) dX6_numberFrom_1 (fun x2 M1 => ?_)
  refine x_l2i dX6_numberFrom_4 ?_
  refine x_istore_n (lo' := [some (va_rf a0), some (.int a1), some (.int a2), some (.int x2.toInt32)]) dX6_numberFrom_5 (by decide) rfl rfl ?_
  refine x_aload_n dX6_numberFrom_6 rfl ?_
  refine gfX6_81 rfl dX6_numberFrom_7 (fun x3 => ?_)
  refine x_iconst (v := 4) dX6_numberFrom_10 (by decide) ?_
  refine x_jn (σ := Mem) 29 (fun s4 => [some (va_rf a0), none, none, some (.int x2.toInt32)]) (fun s4 => []) (fun s4 => s4) (fun s4 => ?_) (fun j29 hj29 => ?_)
  · refine x_aload_n dX6_numberFrom_29 rfl ?_
    refine x_iconst (v := 4) dX6_numberFrom_30 (by decide) ?_
    refine cmX6_90 rfl hs (Nat.le_of_ble_eq_true rfl) dX6_numberFrom_31 (fun M5 => ?_)
    refine x_iload_n dX6_numberFrom_34 rfl ?_
    exact x_iret rfl dX6_numberFrom_35
  refine x_icmp_ne (tgt := 29) dX6_numberFrom_11 (by decide) (fun _ => ?_) (fun _ => ?_)
  · refine x_iload_n dX6_numberFrom_14 rfl ?_
    refine x_iload_n dX6_numberFrom_15 rfl ?_
    refine x_jn (σ := Unit) 24 (fun s6 => [some (va_rf a0), none, none, some (.int x2.toInt32)]) (fun s6 => []) (fun s6 => M1) (fun s6 => ?_) (fun j24 hj24 => ?_)
    · refine x_aload_n dX6_numberFrom_24 rfl ?_
      refine x_iconst (v := 5) dX6_numberFrom_25 (by decide) ?_
      refine cmX6_109 rfl hs (Nat.le_of_ble_eq_true rfl) dX6_numberFrom_26 (fun M7 => ?_)
      exact x_weak (by exact ⟨rfl, ⟨rfl, trivial⟩⟩) (hj29 M7)
    refine x_icmp_lt (tgt := 24) dX6_numberFrom_16 (by decide) (fun _ => ?_) (fun _ => ?_)
    · exact x_weak (by exact ⟨rfl, ⟨rfl, trivial⟩⟩) (hj24 ())
    · refine x_iload_n dX6_numberFrom_19 rfl ?_
      refine x_iload_n dX6_numberFrom_20 rfl ?_
      refine x_icmp_le (tgt := 29) dX6_numberFrom_21 (by decide) (fun _ => ?_) (fun _ => ?_)
      · exact x_weak (by exact ⟨rfl, ⟨rfl, trivial⟩⟩) (hj29 M1)
      · exact x_weak (by exact ⟨rfl, ⟨rfl, trivial⟩⟩) (hj24 ())
  · exact x_weak (by exact ⟨rfl, ⟨rfl, trivial⟩⟩) (hj29 M1)
theorem s67 {l : Launch} {d : Nat} {rec : Nat → List Value → Mem → XA} (hS : Nonempty XS) (hs : XSnd l xmt rec d) : Snd1 l 67 (b67 rec) d := by
  intro as M r M' h0
  unfold b67 at h0
  obtain ⟨a0, l1, e1, h1⟩ := aR_inv h0
  obtain ⟨a1, l2, e2, h2⟩ := aI_inv h1
  obtain ⟨a2, l3, e3, h3⟩ := aI_inv h2
  obtain ⟨ez, h⟩ := aZ_inv h3
  subst ez
  subst e3
  subst e2
  subst e1
  exact xmet (M := M) (as := [va_rf a0, .int a1, .int a2]) (lo := [some (va_rf a0), some (.int a1), some (.int a2)]) 67 xq67 xm67 (by rw [xargs_rf, xargs_i, xargs_i, xargs_nil]; exact ⟨rfl, ⟨rfl, ⟨rfl, trivial⟩⟩⟩) (by rw [xargs_rf, xargs_i, xargs_i, xargs_nil]; exact Nat.le_of_ble_eq_true rfl) (fun S G K => x_weak (by exact ⟨rfl, ⟨rfl, ⟨rfl, trivial⟩⟩⟩) (k67 hs a0 a1 a2 M)) h hS
set_option maxRecDepth 100000 in
def c68 (rec : Nat → List Value → Mem → XA) (a0 : Option Nat) (M0 : Mem) : XA :=
  gtI (7, 20) M0 a0 13 fun x1 =>
  jn (fun (s2 : Int32) =>
    jn (fun (s3 : Mem) =>
      vC (7, 20) s3 a0 <|
      cL (rec 65 [va_rf a0] s3) fun x5 M4 =>
      vC (7, 20) M4 a0 <|
      cV (rec 64 [va_rf a0, .int ((4 : Int32))] M4) fun M6 =>
      jn (fun (s7 : Int32) =>
        some (.int s7, M6)) fun j44 =>
      if s2 = 0 then (
        j44 x5.toInt32) else (
        j44 (-x5.toInt32))) fun j23 =>
    if s2 = 0 then (
      j23 M0) else (
      vC (7, 20) M0 a0 <|
      cV (rec 63 [va_rf a0] M0) fun M8 =>
      j23 M8)) fun j14 =>
  if x1 = ((45 : Int32)) then (
    j14 ((1 : Int32))) else (
    j14 ((0 : Int32)))
def b68 (rec : Nat → List Value → Mem → XA) (as : List Value) (M0 : Mem) : XA := aR as fun a0 as => aZ as (c68 rec a0 M0)
set_option maxRecDepth 100000 in
set_option maxHeartbeats 4000000 in
theorem k68 {S : XS} {G : XG} {K : Nat × Nat} {l : Launch} {d : Nat} {rec : Nat → List Value → Mem → XA} (hs : XSnd l xmt rec d) (a0 : Option Nat) (M0 : Mem) : Xe S G K l (yX6_signed, cX6_signed, 3, some .int) d 0 [some (va_rf a0), none, none] [] M0 (c68 rec a0 M0) := by
  unfold c68
  refine x_aload_n dX6_signed_0 rfl ?_
  refine gfX6_81 rfl dX6_signed_1 (fun x1 => ?_)
  refine x_bipush (v := 45) dX6_signed_4 (by decide) ?_
  refine x_jn (σ := Int32) 14 (fun s2 => [some (va_rf a0), none, none]) (fun s2 => [.int s2]) (fun s2 => M0) (fun s2 => ?_) (fun j14 hj14 => ?_)
  · refine x_istore_n (lo' := [some (va_rf a0), some (.int s2), none]) dX6_signed_14 (by decide) (xok_r rfl) rfl ?_
    refine x_iload_n dX6_signed_15 rfl ?_
    refine x_jn (σ := Mem) 23 (fun s3 => [some (va_rf a0), some (.int s2), none]) (fun s3 => []) (fun s3 => s3) (fun s3 => ?_) (fun j23 hj23 => ?_)
    · refine x_aload_n dX6_signed_23 rfl ?_
      refine cmX6_127 rfl hs (Nat.le_of_ble_eq_true rfl) dX6_signed_24 (fun x5 M4 => ?_)
      refine x_l2i dX6_signed_27 ?_
      refine x_istore_n (lo' := [some (va_rf a0), some (.int s2), some (.int x5.toInt32)]) dX6_signed_28 (by decide) rfl rfl ?_
      refine x_aload_n dX6_signed_29 rfl ?_
      refine x_iconst (v := 4) dX6_signed_30 (by decide) ?_
      refine cmX6_90 rfl hs (Nat.le_of_ble_eq_true rfl) dX6_signed_31 (fun M6 => ?_)
      refine x_iload_n dX6_signed_34 rfl ?_
      refine x_jn (σ := Int32) 44 (fun s7 => [none, none, none]) (fun s7 => [.int s7]) (fun s7 => M6) (fun s7 => ?_) (fun j44 hj44 => ?_)
      · exact x_iret rfl dX6_signed_44
      refine x_if_eq (tgt := 43) dX6_signed_35 (by decide) (fun _ => ?_) (fun _ => ?_)
      · refine x_iload_n dX6_signed_43 rfl ?_
        exact x_weak (by exact trivial) (hj44 x5.toInt32)
      · refine x_iload_n dX6_signed_38 rfl ?_
        refine x_ineg dX6_signed_39 ?_
        refine x_goto (tgt := 44) dX6_signed_40 (by decide) ?_
        exact x_weak (by exact trivial) (hj44 (-x5.toInt32))
    refine x_if_eq (tgt := 23) dX6_signed_16 (by decide) (fun _ => ?_) (fun _ => ?_)
    · exact x_weak (by exact ⟨rfl, ⟨rfl, trivial⟩⟩) (hj23 M0)
    · refine x_aload_n dX6_signed_19 rfl ?_
      refine cmX6_121 rfl hs (Nat.le_of_ble_eq_true rfl) dX6_signed_20 (fun M8 => ?_)
      exact x_weak (by exact ⟨rfl, ⟨rfl, trivial⟩⟩) (hj23 M8)
  refine x_icmp_ne (tgt := 13) dX6_signed_6 (by decide) (fun _ => ?_) (fun _ => ?_)
  · refine x_iconst (v := 1) dX6_signed_9 (by decide) ?_
    refine x_goto (tgt := 14) dX6_signed_10 (by decide) ?_
    exact x_weak (by exact ⟨rfl, trivial⟩) (hj14 ((1 : Int32)))
  · refine x_iconst (v := 0) dX6_signed_13 (by decide) ?_
    exact x_weak (by exact ⟨rfl, trivial⟩) (hj14 ((0 : Int32)))
theorem s68 {l : Launch} {d : Nat} {rec : Nat → List Value → Mem → XA} (hS : Nonempty XS) (hs : XSnd l xmt rec d) : Snd1 l 68 (b68 rec) d := by
  intro as M r M' h0
  unfold b68 at h0
  obtain ⟨a0, l1, e1, h1⟩ := aR_inv h0
  obtain ⟨ez, h⟩ := aZ_inv h1
  subst ez
  subst e1
  exact xmet (M := M) (as := [va_rf a0]) (lo := [some (va_rf a0)]) 68 xq68 xm68 (by rw [xargs_rf, xargs_nil]; exact ⟨rfl, trivial⟩) (by rw [xargs_rf, xargs_nil]; exact Nat.le_of_ble_eq_true rfl) (fun S G K => x_weak (by exact ⟨rfl, trivial⟩) (k68 hs a0 M)) h hS
set_option maxRecDepth 100000 in
def c69 (rec : Nat → List Value → Mem → XA) (a0 : Option Nat) (a1 : Int32) (a2 : Int32) (M0 : Mem) : XA :=
  gtI (7, 20) M0 a0 13 fun x1 =>
  jn (fun (s2 : Mem) =>
    some (.null, s2)) fun j35 =>
  if x1 = a1 then (
    if a2 < ((20 : Int32)) then (
      vC (7, 20) M0 a0 <|
      cV (rec 63 [va_rf a0] M0) fun M3 =>
      j35 M3) else (
      vC (7, 20) M0 a0 <|
      cV (rec 62 [va_rf a0, .int ((6 : Int32))] M0) fun M4 =>
      j35 M4)) else (
    vC (7, 20) M0 a0 <|
    cV (rec 62 [va_rf a0, .int ((2 : Int32))] M0) fun M5 =>
    j35 M5)
def b69 (rec : Nat → List Value → Mem → XA) (as : List Value) (M0 : Mem) : XA := aR as fun a0 as => aI as fun a1 as => aI as fun a2 as => aZ as (c69 rec a0 a1 a2 M0)
set_option maxRecDepth 100000 in
set_option maxHeartbeats 4000000 in
theorem k69 {S : XS} {G : XG} {K : Nat × Nat} {l : Launch} {d : Nat} {rec : Nat → List Value → Mem → XA} (hs : XSnd l xmt rec d) (a0 : Option Nat) (a1 : Int32) (a2 : Int32) (M0 : Mem) : Xe S G K l (yX6_goDeeper, cX6_goDeeper, 3, none) d 0 [some (va_rf a0), some (.int a1), some (.int a2)] [] M0 (c69 rec a0 a1 a2 M0) := by
  unfold c69
  refine x_aload_n dX6_goDeeper_0 rfl ?_
  refine gfX6_81 rfl dX6_goDeeper_1 (fun x1 => ?_)
  refine x_iload_n dX6_goDeeper_4 rfl ?_
  refine x_jn (σ := Mem) 35 (fun s2 => [none, none, none]) (fun s2 => []) (fun s2 => s2) (fun s2 => ?_) (fun j35 hj35 => ?_)
  · exact x_vret rfl dX6_goDeeper_35
  refine x_icmp_eq (tgt := 16) dX6_goDeeper_5 (by decide) (fun _ => ?_) (fun _ => ?_)
  · refine x_iload_n dX6_goDeeper_16 rfl ?_
    refine x_bipush (v := 20) dX6_goDeeper_17 (by decide) ?_
    refine x_icmp_lt (tgt := 31) dX6_goDeeper_19 (by decide) (fun _ => ?_) (fun _ => ?_)
    · refine x_aload_n dX6_goDeeper_31 rfl ?_
      refine cmX6_121 rfl hs (Nat.le_of_ble_eq_true rfl) dX6_goDeeper_32 (fun M3 => ?_)
      exact x_weak (by exact trivial) (hj35 M3)
    · refine x_aload_n dX6_goDeeper_22 rfl ?_
      refine x_bipush (v := 6) dX6_goDeeper_23 (by decide) ?_
      refine cmX6_109 rfl hs (Nat.le_of_ble_eq_true rfl) dX6_goDeeper_25 (fun M4 => ?_)
      refine x_goto (tgt := 35) dX6_goDeeper_28 (by decide) ?_
      exact x_weak (by exact trivial) (hj35 M4)
  · refine x_aload_n dX6_goDeeper_8 rfl ?_
    refine x_iconst (v := 2) dX6_goDeeper_9 (by decide) ?_
    refine cmX6_109 rfl hs (Nat.le_of_ble_eq_true rfl) dX6_goDeeper_10 (fun M5 => ?_)
    refine x_goto (tgt := 35) dX6_goDeeper_13 (by decide) ?_
    exact x_weak (by exact trivial) (hj35 M5)
theorem s69 {l : Launch} {d : Nat} {rec : Nat → List Value → Mem → XA} (hS : Nonempty XS) (hs : XSnd l xmt rec d) : Snd1 l 69 (b69 rec) d := by
  intro as M r M' h0
  unfold b69 at h0
  obtain ⟨a0, l1, e1, h1⟩ := aR_inv h0
  obtain ⟨a1, l2, e2, h2⟩ := aI_inv h1
  obtain ⟨a2, l3, e3, h3⟩ := aI_inv h2
  obtain ⟨ez, h⟩ := aZ_inv h3
  subst ez
  subst e3
  subst e2
  subst e1
  exact xmet (M := M) (as := [va_rf a0, .int a1, .int a2]) (lo := [some (va_rf a0), some (.int a1), some (.int a2)]) 69 xq69 xm69 (by rw [xargs_rf, xargs_i, xargs_i, xargs_nil]; exact ⟨rfl, ⟨rfl, ⟨rfl, trivial⟩⟩⟩) (by rw [xargs_rf, xargs_i, xargs_i, xargs_nil]; exact Nat.le_of_ble_eq_true rfl) (fun S G K => x_weak (by exact ⟨rfl, ⟨rfl, ⟨rfl, trivial⟩⟩⟩) (k69 hs a0 a1 a2 M)) h hS
set_option maxRecDepth 100000 in
def c70_2 (rec : Nat → List Value → Mem → XA) (a0 : Option Nat) (a1 : Int64) (j32 : Int32 × Mem → XA) (j40 : Mem → XA) : (Int32 × Mem) → ((Int32 × Mem) → XA) → XA := fun s3 j2 =>
  gtP (7, 20) s3.2 a0 1 fun x4 =>
  vC (0, 3) s3.2 x4 <|
  cI (rec 346 [va_rf x4] s3.2) fun x6 M5 =>
  if x6 ≤ s3.1 then (
    j40 M5) else (
    gtP (7, 20) M5 a0 1 fun x7 =>
    vC (0, 3) M5 x7 <|
    cP (rec 348 [va_rf x7, .int s3.1] M5) fun x9 M8 =>
    cst (11, 10) M8 x9 <|
    gtL (11, 10) M8 x9 0 fun x10 =>
    if (lg_cmp x10 a1) = 0 then (
      j32 (s3.1, M8)) else (
      lt (s3.1 + (1 : Int32)) fun (x11 : Int32) =>
      j2 (x11, M8)))
set_option maxRecDepth 100000 in
def c70 (rec : Nat → List Value → Mem → XA) (a0 : Option Nat) (a1 : Int64) (M0 : Mem) : XA :=
  jn (fun (s1 : Int32 × Mem) =>
    some (.int s1.1, s1.2)) fun j32 =>
  jn (fun (s2 : Mem) =>
    some (.int ((-2 : Int32)), s2)) fun j40 =>
  lp (c70_2 rec a0 a1 j32 j40) 4294967296 ((0 : Int32), M0)
def b70 (rec : Nat → List Value → Mem → XA) (as : List Value) (M0 : Mem) : XA := aR as fun a0 as => aL as fun a1 as => aZ as (c70 rec a0 a1 M0)
set_option maxRecDepth 100000 in
set_option maxHeartbeats 4000000 in
theorem k70 {S : XS} {G : XG} {K : Nat × Nat} {l : Launch} {d : Nat} {rec : Nat → List Value → Mem → XA} (hs : XSnd l xmt rec d) (a0 : Option Nat) (a1 : Int64) (M0 : Mem) : Xe S G K l (yX6_unitNamed, cX6_unitNamed, 4, some .int) d 0 [some (va_rf a0), some (.long a1), none, none] [] M0 (c70 rec a0 a1 M0) := by
  unfold c70
  refine x_iconst (v := 0) dX6_unitNamed_0 (by decide) ?_
  refine x_istore_n (lo' := [some (va_rf a0), some (.long a1), none, some (.int ((0 : Int32)))]) dX6_unitNamed_1 (by decide) rfl rfl ?_
  refine x_jn (σ := Int32 × Mem) 32 (fun s1 => [none, none, none, some (.int s1.1)]) (fun s1 => []) (fun s1 => s1.2) (fun s1 => ?_) (fun j32 hj32 => ?_)
  · refine x_iload_n dX6_unitNamed_32 rfl ?_
    exact x_iret rfl dX6_unitNamed_33
  refine x_jn (σ := Mem) 40 (fun s2 => [none, none, none, none]) (fun s2 => []) (fun s2 => s2) (fun s2 => ?_) (fun j40 hj40 => ?_)
  · refine x_bipush (v := -2) dX6_unitNamed_40 (by decide) ?_
    exact x_iret rfl dX6_unitNamed_42
  refine x_weak (by exact ⟨rfl, ⟨rfl, ⟨rfl, trivial⟩⟩⟩) (x_lp (σ := Int32 × Mem) 2 (fun s3 => [some (va_rf a0), some (.long a1), none, some (.int s3.1)]) (fun s3 => []) (fun s3 => s3.2) (fun s3 j2 hj2 => ?_) 4294967296 ((0 : Int32), M0))
  · refine x_iload_n dX6_unitNamed_2 rfl ?_
    refine x_aload_n dX6_unitNamed_3 rfl ?_
    refine gfX6_49 rfl dX6_unitNamed_4 (fun x4 => ?_)
    refine cmX6_94 rfl hs (Nat.le_of_ble_eq_true rfl) dX6_unitNamed_7 (fun x6 M5 => ?_)
    refine x_icmp_ge (tgt := 40) dX6_unitNamed_10 (by decide) (fun _ => ?_) (fun _ => ?_)
    · exact x_weak (by exact trivial) (hj40 M5)
    · refine x_aload_n dX6_unitNamed_13 rfl ?_
      refine gfX6_49 rfl dX6_unitNamed_14 (fun x7 => ?_)
      refine x_iload_n dX6_unitNamed_17 rfl ?_
      refine cmX6_97 rfl hs (Nat.le_of_ble_eq_true rfl) dX6_unitNamed_18 (fun x9 M8 => ?_)
      refine ccX6_101 rfl dX6_unitNamed_21 ?_
      refine gfX6_131 rfl dX6_unitNamed_24 (fun x10 => ?_)
      refine x_lload_n dX6_unitNamed_27 rfl ?_
      refine x_lcmp dX6_unitNamed_28 ?_
      refine x_if_ne (tgt := 34) dX6_unitNamed_29 (by decide) (fun _ => ?_) (fun _ => ?_)
      · exact x_weak (by exact ⟨rfl, trivial⟩) (hj32 (s3.1, M8))
      · refine x_iincN (v := 1) (lo' := fun x11 => [some (va_rf a0), some (.long a1), none, some (.int x11)]) (by decide) dX6_unitNamed_34 rfl (by decide) rfl (fun _ => rfl) (fun x11 => ?_)
        refine x_goto (tgt := 2) dX6_unitNamed_37 (by decide) ?_
        exact x_weak (by exact ⟨rfl, ⟨rfl, ⟨rfl, trivial⟩⟩⟩) (hj2 (x11, M8))
theorem s70 {l : Launch} {d : Nat} {rec : Nat → List Value → Mem → XA} (hS : Nonempty XS) (hs : XSnd l xmt rec d) : Snd1 l 70 (b70 rec) d := by
  intro as M r M' h0
  unfold b70 at h0
  obtain ⟨a0, l1, e1, h1⟩ := aR_inv h0
  obtain ⟨a1, l2, e2, h2⟩ := aL_inv h1
  obtain ⟨ez, h⟩ := aZ_inv h2
  subst ez
  subst e2
  subst e1
  exact xmet (M := M) (as := [va_rf a0, .long a1]) (lo := [some (va_rf a0), some (.long a1)]) 70 xq70 xm70 (by rw [xargs_rf, xargs_l, xargs_nil]; exact ⟨rfl, ⟨rfl, trivial⟩⟩) (by rw [xargs_rf, xargs_l, xargs_nil]; exact Nat.le_of_ble_eq_true rfl) (fun S G K => x_weak (by exact ⟨rfl, ⟨rfl, trivial⟩⟩) (k70 hs a0 a1 M)) h hS
set_option maxRecDepth 100000 in
def c71_3 (rec : Nat → List Value → Mem → XA) (a0 : Option Nat) (a1 : Int32) (a2 : Int64) (j54 : Int32 × Mem → XA) (j63 : Mem → XA) : (Int32 × Mem) → ((Int32 × Mem) → XA) → XA := fun s3 j3 =>
  gtP (7, 20) s3.2 a0 2 fun x4 =>
  vC (0, 3) s3.2 x4 <|
  cI (rec 346 [va_rf x4] s3.2) fun x6 M5 =>
  if x6 ≤ s3.1 then (
    j63 M5) else (
    gtP (7, 20) M5 a0 2 fun x7 =>
    vC (0, 3) M5 x7 <|
    cP (rec 348 [va_rf x7, .int s3.1] M5) fun x9 M8 =>
    cst (8, 9) M8 x9 <|
    gtI (8, 9) M8 x9 1 fun x10 =>
    jn (fun (s11 : Mem) =>
      lt (s3.1 + (1 : Int32)) fun (x12 : Int32) =>
      j3 (x12, s11)) fun j57 =>
    if x10 = a1 then (
      gtP (7, 20) M8 a0 2 fun x13 =>
      vC (0, 3) M8 x13 <|
      cP (rec 348 [va_rf x13, .int s3.1] M8) fun x15 M14 =>
      cst (8, 9) M14 x15 <|
      gtL (8, 9) M14 x15 0 fun x16 =>
      if (lg_cmp x16 a2) = 0 then (
        j54 (s3.1, M14)) else (
        j57 M14)) else (
      j57 M8))
set_option maxRecDepth 100000 in
def c71 (rec : Nat → List Value → Mem → XA) (a0 : Option Nat) (a1 : Int32) (a2 : Int64) (M0 : Mem) : XA :=
  jn (fun (s1 : Int32 × Mem) =>
    some (.int s1.1, s1.2)) fun j54 =>
  jn (fun (s2 : Mem) =>
    some (.int ((-2 : Int32)), s2)) fun j63 =>
  lp (c71_3 rec a0 a1 a2 j54 j63) 4294967296 ((0 : Int32), M0)
def b71 (rec : Nat → List Value → Mem → XA) (as : List Value) (M0 : Mem) : XA := aR as fun a0 as => aI as fun a1 as => aL as fun a2 as => aZ as (c71 rec a0 a1 a2 M0)
set_option maxRecDepth 100000 in
set_option maxHeartbeats 4000000 in
theorem k71 {S : XS} {G : XG} {K : Nat × Nat} {l : Launch} {d : Nat} {rec : Nat → List Value → Mem → XA} (hs : XSnd l xmt rec d) (a0 : Option Nat) (a1 : Int32) (a2 : Int64) (M0 : Mem) : Xe S G K l (yX6_memberNamed, cX6_memberNamed, 5, some .int) d 0 [some (va_rf a0), some (.int a1), some (.long a2), none, none] [] M0 (c71 rec a0 a1 a2 M0) := by
  unfold c71
  refine x_iconst (v := 0) dX6_memberNamed_0 (by decide) ?_
  refine x_istore (lo' := [some (va_rf a0), some (.int a1), some (.long a2), none, some (.int ((0 : Int32)))]) dX6_memberNamed_1 (by decide) rfl rfl ?_
  refine x_jn (σ := Int32 × Mem) 54 (fun s1 => [none, none, none, none, some (.int s1.1)]) (fun s1 => []) (fun s1 => s1.2) (fun s1 => ?_) (fun j54 hj54 => ?_)
  · refine x_iload dX6_memberNamed_54 rfl ?_
    exact x_iret rfl dX6_memberNamed_56
  refine x_jn (σ := Mem) 63 (fun s2 => [none, none, none, none, none]) (fun s2 => []) (fun s2 => s2) (fun s2 => ?_) (fun j63 hj63 => ?_)
  · refine x_bipush (v := -2) dX6_memberNamed_63 (by decide) ?_
    exact x_iret rfl dX6_memberNamed_65
  refine x_weak (by exact ⟨rfl, ⟨rfl, ⟨rfl, ⟨rfl, trivial⟩⟩⟩⟩) (x_lp (σ := Int32 × Mem) 3 (fun s3 => [some (va_rf a0), some (.int a1), some (.long a2), none, some (.int s3.1)]) (fun s3 => []) (fun s3 => s3.2) (fun s3 j3 hj3 => ?_) 4294967296 ((0 : Int32), M0))
  · refine x_iload dX6_memberNamed_3 rfl ?_
    refine x_aload_n dX6_memberNamed_5 rfl ?_
    refine gfX6_53 rfl dX6_memberNamed_6 (fun x4 => ?_)
    refine cmX6_94 rfl hs (Nat.le_of_ble_eq_true rfl) dX6_memberNamed_9 (fun x6 M5 => ?_)
    refine x_icmp_ge (tgt := 63) dX6_memberNamed_12 (by decide) (fun _ => ?_) (fun _ => ?_)
    · exact x_weak (by exact trivial) (hj63 M5)
    · refine x_aload_n dX6_memberNamed_15 rfl ?_
      refine gfX6_53 rfl dX6_memberNamed_16 (fun x7 => ?_)
      refine x_iload dX6_memberNamed_19 rfl ?_
      refine cmX6_97 rfl hs (Nat.le_of_ble_eq_true rfl) dX6_memberNamed_21 (fun x9 M8 => ?_)
      refine ccX6_135 rfl dX6_memberNamed_24 ?_
      refine gfX6_137 rfl dX6_memberNamed_27 (fun x10 => ?_)
      refine x_iload_n dX6_memberNamed_30 rfl ?_
      refine x_jn (σ := Mem) 57 (fun s11 => [some (va_rf a0), some (.int a1), some (.long a2), none, some (.int s3.1)]) (fun s11 => []) (fun s11 => s11) (fun s11 => ?_) (fun j57 hj57 => ?_)
      · refine x_iincN (v := 1) (lo' := fun x12 => [some (va_rf a0), some (.int a1), some (.long a2), none, some (.int x12)]) (by decide) dX6_memberNamed_57 rfl (by decide) rfl (fun _ => rfl) (fun x12 => ?_)
        refine x_goto (tgt := 3) dX6_memberNamed_60 (by decide) ?_
        exact x_weak (by exact ⟨rfl, ⟨rfl, ⟨rfl, ⟨rfl, trivial⟩⟩⟩⟩) (hj3 (x12, s11))
      refine x_icmp_ne (tgt := 57) dX6_memberNamed_31 (by decide) (fun _ => ?_) (fun _ => ?_)
      · refine x_aload_n dX6_memberNamed_34 rfl ?_
        refine gfX6_53 rfl dX6_memberNamed_35 (fun x13 => ?_)
        refine x_iload dX6_memberNamed_38 rfl ?_
        refine cmX6_97 rfl hs (Nat.le_of_ble_eq_true rfl) dX6_memberNamed_40 (fun x15 M14 => ?_)
        refine ccX6_135 rfl dX6_memberNamed_43 ?_
        refine gfX6_140 rfl dX6_memberNamed_46 (fun x16 => ?_)
        refine x_lload_n dX6_memberNamed_49 rfl ?_
        refine x_lcmp dX6_memberNamed_50 ?_
        refine x_if_ne (tgt := 57) dX6_memberNamed_51 (by decide) (fun _ => ?_) (fun _ => ?_)
        · exact x_weak (by exact ⟨rfl, trivial⟩) (hj54 (s3.1, M14))
        · exact x_weak (by exact ⟨rfl, ⟨rfl, ⟨rfl, ⟨rfl, trivial⟩⟩⟩⟩) (hj57 M14)
      · exact x_weak (by exact ⟨rfl, ⟨rfl, ⟨rfl, ⟨rfl, trivial⟩⟩⟩⟩) (hj57 M8)
theorem s71 {l : Launch} {d : Nat} {rec : Nat → List Value → Mem → XA} (hS : Nonempty XS) (hs : XSnd l xmt rec d) : Snd1 l 71 (b71 rec) d := by
  intro as M r M' h0
  unfold b71 at h0
  obtain ⟨a0, l1, e1, h1⟩ := aR_inv h0
  obtain ⟨a1, l2, e2, h2⟩ := aI_inv h1
  obtain ⟨a2, l3, e3, h3⟩ := aL_inv h2
  obtain ⟨ez, h⟩ := aZ_inv h3
  subst ez
  subst e3
  subst e2
  subst e1
  exact xmet (M := M) (as := [va_rf a0, .int a1, .long a2]) (lo := [some (va_rf a0), some (.int a1), some (.long a2)]) 71 xq71 xm71 (by rw [xargs_rf, xargs_i, xargs_l, xargs_nil]; exact ⟨rfl, ⟨rfl, ⟨rfl, trivial⟩⟩⟩) (by rw [xargs_rf, xargs_i, xargs_l, xargs_nil]; exact Nat.le_of_ble_eq_true rfl) (fun S G K => x_weak (by exact ⟨rfl, ⟨rfl, ⟨rfl, trivial⟩⟩⟩) (k71 hs a0 a1 a2 M)) h hS
set_option maxRecDepth 100000 in
def c72_3 (rec : Nat → List Value → Mem → XA) (a0 : Option Nat) (a1 : Option Nat) (a2 : Int64) (j53 : Mem → XA) (j61 : Mem → XA) : (Int32 × Mem) → ((Int32 × Mem) → XA) → XA := fun s3 j3 =>
  vC (0, 3) s3.2 a1 <|
  cI (rec 346 [va_rf a1] s3.2) fun x5 M4 =>
  if x5 ≤ s3.1 then (
    j61 M4) else (
    vC (0, 3) M4 a1 <|
    cP (rec 348 [va_rf a1, .int s3.1] M4) fun x7 M6 =>
    cst (8, 9) M6 x7 <|
    gtI (8, 9) M6 x7 1 fun x8 =>
    gtP (7, 20) M6 a0 1 fun x9 =>
    vC (0, 3) M6 x9 <|
    cI (rec 346 [va_rf x9] M6) fun x11 M10 =>
    jn (fun (s12 : Mem) =>
      lt (s3.1 + (1 : Int32)) fun (x13 : Int32) =>
      j3 (x13, s12)) fun j55 =>
    if x8 = (x11 - ((1 : Int32))) then (
      vC (0, 3) M10 a1 <|
      cP (rec 348 [va_rf a1, .int s3.1] M10) fun x15 M14 =>
      cst (8, 9) M14 x15 <|
      gtL (8, 9) M14 x15 0 fun x16 =>
      if (lg_cmp x16 a2) = 0 then (
        j53 M14) else (
        j55 M14)) else (
      j55 M10))
set_option maxRecDepth 100000 in
def c72 (rec : Nat → List Value → Mem → XA) (a0 : Option Nat) (a1 : Option Nat) (a2 : Int64) (M0 : Mem) : XA :=
  jn (fun (s1 : Mem) =>
    rtZ ((1 : Int32)) s1) fun j53 =>
  jn (fun (s2 : Mem) =>
    rtZ ((0 : Int32)) s2) fun j61 =>
  lp (c72_3 rec a0 a1 a2 j53 j61) 4294967296 ((0 : Int32), M0)
def b72 (rec : Nat → List Value → Mem → XA) (as : List Value) (M0 : Mem) : XA := aR as fun a0 as => aR as fun a1 as => aL as fun a2 as => aZ as (c72 rec a0 a1 a2 M0)
set_option maxRecDepth 100000 in
set_option maxHeartbeats 4000000 in
theorem k72 {S : XS} {G : XG} {K : Nat × Nat} {l : Launch} {d : Nat} {rec : Nat → List Value → Mem → XA} (hs : XSnd l xmt rec d) (a0 : Option Nat) (a1 : Option Nat) (a2 : Int64) (M0 : Mem) : Xe S G K l (yX6_isTold, cX6_isTold, 5, some .boolean) d 0 [some (va_rf a0), some (va_rf a1), some (.long a2), none, none] [] M0 (c72 rec a0 a1 a2 M0) := by
  unfold c72
  refine x_iconst (v := 0) dX6_isTold_0 (by decide) ?_
  refine x_istore (lo' := [some (va_rf a0), some (va_rf a1), some (.long a2), none, some (.int ((0 : Int32)))]) dX6_isTold_1 (by decide) rfl rfl ?_
  refine x_jn (σ := Mem) 53 (fun s1 => [none, none, none, none, none]) (fun s1 => []) (fun s1 => s1) (fun s1 => ?_) (fun j53 hj53 => ?_)
  · refine x_iconst (v := 1) dX6_isTold_53 (by decide) ?_
    exact x_zret rfl dX6_isTold_54
  refine x_jn (σ := Mem) 61 (fun s2 => [none, none, none, none, none]) (fun s2 => []) (fun s2 => s2) (fun s2 => ?_) (fun j61 hj61 => ?_)
  · refine x_iconst (v := 0) dX6_isTold_61 (by decide) ?_
    exact x_zret rfl dX6_isTold_62
  refine x_weak (by exact ⟨rfl, ⟨rfl, ⟨rfl, ⟨rfl, trivial⟩⟩⟩⟩) (x_lp (σ := Int32 × Mem) 3 (fun s3 => [some (va_rf a0), some (va_rf a1), some (.long a2), none, some (.int s3.1)]) (fun s3 => []) (fun s3 => s3.2) (fun s3 j3 hj3 => ?_) 4294967296 ((0 : Int32), M0))
  · refine x_iload dX6_isTold_3 rfl ?_
    refine x_aload_n dX6_isTold_5 rfl ?_
    refine cmX6_94 rfl hs (Nat.le_of_ble_eq_true rfl) dX6_isTold_6 (fun x5 M4 => ?_)
    refine x_icmp_ge (tgt := 61) dX6_isTold_9 (by decide) (fun _ => ?_) (fun _ => ?_)
    · exact x_weak (by exact trivial) (hj61 M4)
    · refine x_aload_n dX6_isTold_12 rfl ?_
      refine x_iload dX6_isTold_13 rfl ?_
      refine cmX6_97 rfl hs (Nat.le_of_ble_eq_true rfl) dX6_isTold_15 (fun x7 M6 => ?_)
      refine ccX6_135 rfl dX6_isTold_18 ?_
      refine gfX6_137 rfl dX6_isTold_21 (fun x8 => ?_)
      refine x_aload_n dX6_isTold_24 rfl ?_
      refine gfX6_49 rfl dX6_isTold_25 (fun x9 => ?_)
      refine cmX6_94 rfl hs (Nat.le_of_ble_eq_true rfl) dX6_isTold_28 (fun x11 M10 => ?_)
      refine x_iconst (v := 1) dX6_isTold_31 (by decide) ?_
      refine x_isub dX6_isTold_32 ?_
      refine x_jn (σ := Mem) 55 (fun s12 => [some (va_rf a0), some (va_rf a1), some (.long a2), none, some (.int s3.1)]) (fun s12 => []) (fun s12 => s12) (fun s12 => ?_) (fun j55 hj55 => ?_)
      · refine x_iincN (v := 1) (lo' := fun x13 => [some (va_rf a0), some (va_rf a1), some (.long a2), none, some (.int x13)]) (by decide) dX6_isTold_55 rfl (by decide) rfl (fun _ => rfl) (fun x13 => ?_)
        refine x_goto (tgt := 3) dX6_isTold_58 (by decide) ?_
        exact x_weak (by exact ⟨rfl, ⟨rfl, ⟨rfl, ⟨rfl, trivial⟩⟩⟩⟩) (hj3 (x13, s12))
      refine x_icmp_ne (tgt := 55) dX6_isTold_33 (by decide) (fun _ => ?_) (fun _ => ?_)
      · refine x_aload_n dX6_isTold_36 rfl ?_
        refine x_iload dX6_isTold_37 rfl ?_
        refine cmX6_97 rfl hs (Nat.le_of_ble_eq_true rfl) dX6_isTold_39 (fun x15 M14 => ?_)
        refine ccX6_135 rfl dX6_isTold_42 ?_
        refine gfX6_140 rfl dX6_isTold_45 (fun x16 => ?_)
        refine x_lload_n dX6_isTold_48 rfl ?_
        refine x_lcmp dX6_isTold_49 ?_
        refine x_if_ne (tgt := 55) dX6_isTold_50 (by decide) (fun _ => ?_) (fun _ => ?_)
        · exact x_weak (by exact trivial) (hj53 M14)
        · exact x_weak (by exact ⟨rfl, ⟨rfl, ⟨rfl, ⟨rfl, trivial⟩⟩⟩⟩) (hj55 M14)
      · exact x_weak (by exact ⟨rfl, ⟨rfl, ⟨rfl, ⟨rfl, trivial⟩⟩⟩⟩) (hj55 M10)
theorem s72 {l : Launch} {d : Nat} {rec : Nat → List Value → Mem → XA} (hS : Nonempty XS) (hs : XSnd l xmt rec d) : Snd1 l 72 (b72 rec) d := by
  intro as M r M' h0
  unfold b72 at h0
  obtain ⟨a0, l1, e1, h1⟩ := aR_inv h0
  obtain ⟨a1, l2, e2, h2⟩ := aR_inv h1
  obtain ⟨a2, l3, e3, h3⟩ := aL_inv h2
  obtain ⟨ez, h⟩ := aZ_inv h3
  subst ez
  subst e3
  subst e2
  subst e1
  exact xmet (M := M) (as := [va_rf a0, va_rf a1, .long a2]) (lo := [some (va_rf a0), some (va_rf a1), some (.long a2)]) 72 xq72 xm72 (by rw [xargs_rf, xargs_rf, xargs_l, xargs_nil]; exact ⟨rfl, ⟨rfl, ⟨rfl, trivial⟩⟩⟩) (by rw [xargs_rf, xargs_rf, xargs_l, xargs_nil]; exact Nat.le_of_ble_eq_true rfl) (fun S G K => x_weak (by exact ⟨rfl, ⟨rfl, ⟨rfl, trivial⟩⟩⟩) (k72 hs a0 a1 a2 M)) h hS
set_option maxRecDepth 100000 in
def c73 (rec : Nat → List Value → Mem → XA) (a0 : Option Nat) (M0 : Mem) : XA :=
  vC (7, 20) M0 a0 <|
  cL (rec 65 [va_rf a0] M0) fun x2 M1 =>
  gtP (7, 20) M1 a0 2 fun x3 =>
  vC (7, 20) M1 a0 <|
  cI (rec 72 [va_rf a0, va_rf x3, .long x2] M1) fun x5 M4 =>
  jn (fun (s6 : Int32 × Mem) =>
    rtZ s6.1 s6.2) fun j46 =>
  jn (fun (s7 : Mem) =>
    j46 ((1 : Int32), s7)) fun j41 =>
  if x5 = 0 then (
    gtP (7, 20) M4 a0 3 fun x8 =>
    vC (7, 20) M4 a0 <|
    cI (rec 72 [va_rf a0, va_rf x8, .long x2] M4) fun x10 M9 =>
    if x10 = 0 then (
      gtP (7, 20) M9 a0 4 fun x11 =>
      vC (7, 20) M9 a0 <|
      cI (rec 72 [va_rf a0, va_rf x11, .long x2] M9) fun x13 M12 =>
      if x13 = 0 then (
        j46 ((0 : Int32), M12)) else (
        j41 M12)) else (
      j41 M9)) else (
    j41 M4)
def b73 (rec : Nat → List Value → Mem → XA) (as : List Value) (M0 : Mem) : XA := aR as fun a0 as => aZ as (c73 rec a0 M0)
set_option maxRecDepth 100000 in
set_option maxHeartbeats 4000000 in
theorem k73 {S : XS} {G : XG} {K : Nat × Nat} {l : Launch} {d : Nat} {rec : Nat → List Value → Mem → XA} (hs : XSnd l xmt rec d) (a0 : Option Nat) (M0 : Mem) : Xe S G K l (yX6_isMemberTold, cX6_isMemberTold, 3, some .boolean) d 0 [some (va_rf a0), none, none] [] M0 (c73 rec a0 M0) := by
  unfold c73
  refine x_aload_n dX6_isMemberTold_0 rfl ?_
  refine cmX6_127 rfl hs (Nat.le_of_ble_eq_true rfl) dX6_isMemberTold_1 (fun x2 M1 => ?_)
  refine x_lstore_n (lo' := [some (va_rf a0), some (.long x2), none]) dX6_isMemberTold_4 (by decide) (xok_r rfl) rfl ?_
  refine x_aload_n dX6_isMemberTold_5 rfl ?_
  refine x_aload_n dX6_isMemberTold_6 rfl ?_
  refine gfX6_53 rfl dX6_isMemberTold_7 (fun x3 => ?_)
  refine x_lload_n dX6_isMemberTold_10 rfl ?_
  refine cmX6_141 rfl hs (Nat.le_of_ble_eq_true rfl) dX6_isMemberTold_11 (fun x5 M4 => ?_)
  refine x_jn (σ := Int32 × Mem) 46 (fun s6 => [none, none, none]) (fun s6 => [.int s6.1]) (fun s6 => s6.2) (fun s6 => ?_) (fun j46 hj46 => ?_)
  · exact x_zret rfl dX6_isMemberTold_46
  refine x_jn (σ := Mem) 41 (fun s7 => [none, none, none]) (fun s7 => []) (fun s7 => s7) (fun s7 => ?_) (fun j41 hj41 => ?_)
  · refine x_iconst (v := 1) dX6_isMemberTold_41 (by decide) ?_
    refine x_goto (tgt := 46) dX6_isMemberTold_42 (by decide) ?_
    exact x_weak (by exact trivial) (hj46 ((1 : Int32), s7))
  refine x_if_ne (tgt := 41) dX6_isMemberTold_14 (by decide) (fun _ => ?_) (fun _ => ?_)
  · refine x_aload_n dX6_isMemberTold_17 rfl ?_
    refine x_aload_n dX6_isMemberTold_18 rfl ?_
    refine gfX6_56 rfl dX6_isMemberTold_19 (fun x8 => ?_)
    refine x_lload_n dX6_isMemberTold_22 rfl ?_
    refine cmX6_141 rfl hs (Nat.le_of_ble_eq_true rfl) dX6_isMemberTold_23 (fun x10 M9 => ?_)
    refine x_if_ne (tgt := 41) dX6_isMemberTold_26 (by decide) (fun _ => ?_) (fun _ => ?_)
    · refine x_aload_n dX6_isMemberTold_29 rfl ?_
      refine x_aload_n dX6_isMemberTold_30 rfl ?_
      refine gfX6_59 rfl dX6_isMemberTold_31 (fun x11 => ?_)
      refine x_lload_n dX6_isMemberTold_34 rfl ?_
      refine cmX6_141 rfl hs (Nat.le_of_ble_eq_true rfl) dX6_isMemberTold_35 (fun x13 M12 => ?_)
      refine x_if_eq (tgt := 45) dX6_isMemberTold_38 (by decide) (fun _ => ?_) (fun _ => ?_)
      · refine x_iconst (v := 0) dX6_isMemberTold_45 (by decide) ?_
        exact x_weak (by exact trivial) (hj46 ((0 : Int32), M12))
      · exact x_weak (by exact trivial) (hj41 M12)
    · exact x_weak (by exact trivial) (hj41 M9)
  · exact x_weak (by exact trivial) (hj41 M4)
theorem s73 {l : Launch} {d : Nat} {rec : Nat → List Value → Mem → XA} (hS : Nonempty XS) (hs : XSnd l xmt rec d) : Snd1 l 73 (b73 rec) d := by
  intro as M r M' h0
  unfold b73 at h0
  obtain ⟨a0, l1, e1, h1⟩ := aR_inv h0
  obtain ⟨ez, h⟩ := aZ_inv h1
  subst ez
  subst e1
  exact xmet (M := M) (as := [va_rf a0]) (lo := [some (va_rf a0)]) 73 xq73 xm73 (by rw [xargs_rf, xargs_nil]; exact ⟨rfl, trivial⟩) (by rw [xargs_rf, xargs_nil]; exact Nat.le_of_ble_eq_true rfl) (fun S G K => x_weak (by exact ⟨rfl, trivial⟩) (k73 hs a0 M)) h hS
set_option maxRecDepth 100000 in
def c74_2 (rec : Nat → List Value → Mem → XA) (a0 : Option Nat) (a1 : Int64) (M0 : Mem) (j21 : Int32 → XA) (j29 : Unit → XA) : (Int32) → ((Int32) → XA) → XA := fun s3 j2 =>
  gtI (7, 20) M0 a0 16 fun x4 =>
  if x4 ≤ s3 then (
    j29 ()) else (
    gtP (7, 20) M0 a0 15 fun x5 =>
    alL M0 x5 s3 fun x6 =>
    if (lg_cmp x6 a1) = 0 then (
      j21 s3) else (
      lt (s3 + (1 : Int32)) fun (x7 : Int32) =>
      j2 x7))
set_option maxRecDepth 100000 in
def c74 (rec : Nat → List Value → Mem → XA) (a0 : Option Nat) (a1 : Int64) (M0 : Mem) : XA :=
  jn (fun (s1 : Int32) =>
    some (.int s1, M0)) fun j21 =>
  jn (fun (s2 : Unit) =>
    some (.int ((-2 : Int32)), M0)) fun j29 =>
  lp (c74_2 rec a0 a1 M0 j21 j29) 4294967296 ((0 : Int32))
def b74 (rec : Nat → List Value → Mem → XA) (as : List Value) (M0 : Mem) : XA := aR as fun a0 as => aL as fun a1 as => aZ as (c74 rec a0 a1 M0)
set_option maxRecDepth 100000 in
set_option maxHeartbeats 4000000 in
theorem k74 {S : XS} {G : XG} {K : Nat × Nat} {l : Launch} {d : Nat} {rec : Nat → List Value → Mem → XA} (hs : XSnd l xmt rec d) (a0 : Option Nat) (a1 : Int64) (M0 : Mem) : Xe S G K l (yX6_localNamed, cX6_localNamed, 4, some .int) d 0 [some (va_rf a0), some (.long a1), none, none] [] M0 (c74 rec a0 a1 M0) := by
  unfold c74
  refine x_iconst (v := 0) dX6_localNamed_0 (by decide) ?_
  refine x_istore_n (lo' := [some (va_rf a0), some (.long a1), none, some (.int ((0 : Int32)))]) dX6_localNamed_1 (by decide) rfl rfl ?_
  refine x_jn (σ := Int32) 21 (fun s1 => [none, none, none, some (.int s1)]) (fun s1 => []) (fun s1 => M0) (fun s1 => ?_) (fun j21 hj21 => ?_)
  · refine x_iload_n dX6_localNamed_21 rfl ?_
    exact x_iret rfl dX6_localNamed_22
  refine x_jn (σ := Unit) 29 (fun s2 => [none, none, none, none]) (fun s2 => []) (fun s2 => M0) (fun s2 => ?_) (fun j29 hj29 => ?_)
  · refine x_bipush (v := -2) dX6_localNamed_29 (by decide) ?_
    exact x_iret rfl dX6_localNamed_31
  refine x_weak (by exact ⟨rfl, ⟨rfl, ⟨rfl, trivial⟩⟩⟩) (x_lp (σ := Int32) 2 (fun s3 => [some (va_rf a0), some (.long a1), none, some (.int s3)]) (fun s3 => []) (fun s3 => M0) (fun s3 j2 hj2 => ?_) 4294967296 ((0 : Int32)))
  · refine x_iload_n dX6_localNamed_2 rfl ?_
    refine x_aload_n dX6_localNamed_3 rfl ?_
    refine gfX6_145 rfl dX6_localNamed_4 (fun x4 => ?_)
    refine x_icmp_ge (tgt := 29) dX6_localNamed_7 (by decide) (fun _ => ?_) (fun _ => ?_)
    · exact x_weak (by exact trivial) (hj29 ())
    · refine x_aload_n dX6_localNamed_10 rfl ?_
      refine gfX6_32 rfl dX6_localNamed_11 (fun x5 => ?_)
      refine x_iload_n dX6_localNamed_14 rfl ?_
      refine x_lald dX6_localNamed_15 (fun x6 => ?_)
      refine x_lload_n dX6_localNamed_16 rfl ?_
      refine x_lcmp dX6_localNamed_17 ?_
      refine x_if_ne (tgt := 23) dX6_localNamed_18 (by decide) (fun _ => ?_) (fun _ => ?_)
      · exact x_weak (by exact ⟨rfl, trivial⟩) (hj21 s3)
      · refine x_iincN (v := 1) (lo' := fun x7 => [some (va_rf a0), some (.long a1), none, some (.int x7)]) (by decide) dX6_localNamed_23 rfl (by decide) rfl (fun _ => rfl) (fun x7 => ?_)
        refine x_goto (tgt := 2) dX6_localNamed_26 (by decide) ?_
        exact x_weak (by exact ⟨rfl, ⟨rfl, ⟨rfl, trivial⟩⟩⟩) (hj2 x7)
theorem s74 {l : Launch} {d : Nat} {rec : Nat → List Value → Mem → XA} (hS : Nonempty XS) (hs : XSnd l xmt rec d) : Snd1 l 74 (b74 rec) d := by
  intro as M r M' h0
  unfold b74 at h0
  obtain ⟨a0, l1, e1, h1⟩ := aR_inv h0
  obtain ⟨a1, l2, e2, h2⟩ := aL_inv h1
  obtain ⟨ez, h⟩ := aZ_inv h2
  subst ez
  subst e2
  subst e1
  exact xmet (M := M) (as := [va_rf a0, .long a1]) (lo := [some (va_rf a0), some (.long a1)]) 74 xq74 xm74 (by rw [xargs_rf, xargs_l, xargs_nil]; exact ⟨rfl, ⟨rfl, trivial⟩⟩) (by rw [xargs_rf, xargs_l, xargs_nil]; exact Nat.le_of_ble_eq_true rfl) (fun S G K => x_weak (by exact ⟨rfl, ⟨rfl, trivial⟩⟩) (k74 hs a0 a1 M)) h hS
set_option maxRecDepth 100000 in
def c75 (rec : Nat → List Value → Mem → XA) (a0 : Option Nat) (a1 : Int64) (M0 : Mem) : XA :=
  gtI (7, 20) M0 a0 16 fun x1 =>
  jn (fun (s2 : Mem) =>
    some (.null, s2)) fun j29 =>
  if ((10 : Int32)) ≤ x1 then (
    j29 M0) else (
    gtP (7, 20) M0 a0 15 fun x3 =>
    gtI (7, 20) M0 a0 16 fun x4 =>
    asL M0 x3 x4 a1 fun M5 =>
    gtI (7, 20) M5 a0 16 fun x6 =>
    ptI (7, 20) M5 a0 16 (x6 + ((1 : Int32))) fun M7 =>
    j29 M7)
def b75 (rec : Nat → List Value → Mem → XA) (as : List Value) (M0 : Mem) : XA := aR as fun a0 as => aL as fun a1 as => aZ as (c75 rec a0 a1 M0)
set_option maxRecDepth 100000 in
set_option maxHeartbeats 4000000 in
theorem k75 {S : XS} {G : XG} {K : Nat × Nat} {l : Launch} {d : Nat} {rec : Nat → List Value → Mem → XA} (hs : XSnd l xmt rec d) (a0 : Option Nat) (a1 : Int64) (M0 : Mem) : Xe S G K l (yX6_addLocal, cX6_addLocal, 3, none) d 0 [some (va_rf a0), some (.long a1), none] [] M0 (c75 rec a0 a1 M0) := by
  unfold c75
  refine x_aload_n dX6_addLocal_0 rfl ?_
  refine gfX6_145 rfl dX6_addLocal_1 (fun x1 => ?_)
  refine x_bipush (v := 10) dX6_addLocal_4 (by decide) ?_
  refine x_jn (σ := Mem) 29 (fun s2 => [none, none, none]) (fun s2 => []) (fun s2 => s2) (fun s2 => ?_) (fun j29 hj29 => ?_)
  · exact x_vret rfl dX6_addLocal_29
  refine x_icmp_ge (tgt := 29) dX6_addLocal_6 (by decide) (fun _ => ?_) (fun _ => ?_)
  · exact x_weak (by exact trivial) (hj29 M0)
  · refine x_aload_n dX6_addLocal_9 rfl ?_
    refine gfX6_32 rfl dX6_addLocal_10 (fun x3 => ?_)
    refine x_aload_n dX6_addLocal_13 rfl ?_
    refine gfX6_145 rfl dX6_addLocal_14 (fun x4 => ?_)
    refine x_lload_n dX6_addLocal_17 rfl ?_
    refine x_last dX6_addLocal_18 (fun M5 => ?_)
    refine x_aload_n dX6_addLocal_19 rfl ?_
    refine x_dup dX6_addLocal_20 (xc1_r _) ?_
    refine gfX6_145 rfl dX6_addLocal_21 (fun x6 => ?_)
    refine x_iconst (v := 1) dX6_addLocal_24 (by decide) ?_
    refine x_iadd dX6_addLocal_25 ?_
    refine pfX6_145 rfl dX6_addLocal_26 (fun M7 => ?_)
    exact x_weak (by exact trivial) (hj29 M7)
theorem s75 {l : Launch} {d : Nat} {rec : Nat → List Value → Mem → XA} (hS : Nonempty XS) (hs : XSnd l xmt rec d) : Snd1 l 75 (b75 rec) d := by
  intro as M r M' h0
  unfold b75 at h0
  obtain ⟨a0, l1, e1, h1⟩ := aR_inv h0
  obtain ⟨a1, l2, e2, h2⟩ := aL_inv h1
  obtain ⟨ez, h⟩ := aZ_inv h2
  subst ez
  subst e2
  subst e1
  exact xmet (M := M) (as := [va_rf a0, .long a1]) (lo := [some (va_rf a0), some (.long a1)]) 75 xq75 xm75 (by rw [xargs_rf, xargs_l, xargs_nil]; exact ⟨rfl, ⟨rfl, trivial⟩⟩) (by rw [xargs_rf, xargs_l, xargs_nil]; exact Nat.le_of_ble_eq_true rfl) (fun S G K => x_weak (by exact ⟨rfl, ⟨rfl, trivial⟩⟩) (k75 hs a0 a1 M)) h hS
set_option maxRecDepth 100000 in
def c76 (rec : Nat → List Value → Mem → XA) (a0 : Option Nat) (M0 : Mem) : XA :=
  vC (7, 20) M0 a0 <|
  cV (rec 64 [va_rf a0, .int ((200 : Int32))] M0) fun M1 =>
  vC (7, 20) M1 a0 <|
  cL (rec 65 [va_rf a0] M1) fun x3 M2 =>
  vC (7, 20) M2 a0 <|
  cI (rec 70 [va_rf a0, .long x3] M2) fun x5 M4 =>
  jn (fun (s6 : Int32) =>
    gtP (7, 20) M4 a0 1 fun x7 =>
    vC (0, 3) M4 x7 <|
    cI (rec 346 [va_rf x7] M4) fun x9 M8 =>
    jn (fun (s10 : Int32) =>
      vC (7, 20) M8 a0 <|
      cL (rec 66 [va_rf a0, .int s6, .int s10] M8) fun x12 M11 =>
      gtP (7, 20) M11 a0 1 fun x13 =>
      nO (11, 10) M11 fun x14 M15 =>
      gtP (7, 20) M15 a0 2 fun x16 =>
      vC (0, 3) M15 x16 <|
      cI (rec 346 [va_rf x16] M15) fun x18 M17 =>
      gtI (7, 20) M17 a0 9 fun x19 =>
      vC (11, 10) M17 x14 <|
      cV (rec 126 [va_rf x14, .long x12, .int x18, .int x19] M17) fun M20 =>
      vC (0, 3) M20 x13 <|
      cI (rec 350 [va_rf x13, va_rf x14] M20) fun x22 M21 =>
      vC (7, 20) M21 a0 <|
      cV (rec 64 [va_rf a0, .int ((123 : Int32))] M21) fun M23 =>
      some (.null, M23)) fun j41 =>
    if x9 < ((8 : Int32)) then (
      j41 ((0 : Int32))) else (
      j41 ((1 : Int32)))) fun j24 =>
  if x5 < 0 then (
    j24 ((0 : Int32))) else (
    j24 ((1 : Int32)))
def b76 (rec : Nat → List Value → Mem → XA) (as : List Value) (M0 : Mem) : XA := aR as fun a0 as => aZ as (c76 rec a0 M0)
set_option maxRecDepth 100000 in
set_option maxHeartbeats 4000000 in
theorem k76 {S : XS} {G : XG} {K : Nat × Nat} {l : Launch} {d : Nat} {rec : Nat → List Value → Mem → XA} (hs : XSnd l xmt rec d) (a0 : Option Nat) (M0 : Mem) : Xe S G K l (yX6_readUnitHead, cX6_readUnitHead, 3, none) d 0 [some (va_rf a0), none, none] [] M0 (c76 rec a0 M0) := by
  unfold c76
  refine x_aload_n dX6_readUnitHead_0 rfl ?_
  refine x_sipush (v := 200) dX6_readUnitHead_1 (by decide) ?_
  refine cmX6_90 rfl hs (Nat.le_of_ble_eq_true rfl) dX6_readUnitHead_4 (fun M1 => ?_)
  refine x_aload_n dX6_readUnitHead_7 rfl ?_
  refine x_aload_n dX6_readUnitHead_8 rfl ?_
  refine x_aload_n dX6_readUnitHead_9 rfl ?_
  refine cmX6_127 rfl hs (Nat.le_of_ble_eq_true rfl) dX6_readUnitHead_10 (fun x3 M2 => ?_)
  refine cmX6_148 rfl hs (Nat.le_of_ble_eq_true rfl) dX6_readUnitHead_13 (fun x5 M4 => ?_)
  refine x_jn (σ := Int32) 24 (fun s6 => [some (va_rf a0), none, none]) (fun s6 => [.int s6, va_rf a0]) (fun s6 => M4) (fun s6 => ?_) (fun j24 hj24 => ?_)
  · refine x_aload_n dX6_readUnitHead_24 rfl ?_
    refine gfX6_49 rfl dX6_readUnitHead_25 (fun x7 => ?_)
    refine cmX6_94 rfl hs (Nat.le_of_ble_eq_true rfl) dX6_readUnitHead_28 (fun x9 M8 => ?_)
    refine x_bipush (v := 8) dX6_readUnitHead_31 (by decide) ?_
    refine x_jn (σ := Int32) 41 (fun s10 => [some (va_rf a0), none, none]) (fun s10 => [.int s10, .int s6, va_rf a0]) (fun s10 => M8) (fun s10 => ?_) (fun j41 hj41 => ?_)
    · refine cmX6_152 rfl hs (Nat.le_of_ble_eq_true rfl) dX6_readUnitHead_41 (fun x12 M11 => ?_)
      refine x_lstore_n (lo' := [some (va_rf a0), some (.long x12), none]) dX6_readUnitHead_44 (by decide) (xok_r rfl) rfl ?_
      refine x_aload_n dX6_readUnitHead_45 rfl ?_
      refine gfX6_49 rfl dX6_readUnitHead_46 (fun x13 => ?_)
      refine nwX6_101 rfl dX6_readUnitHead_49 (fun x14 M15 => ?_)
      refine x_dup dX6_readUnitHead_52 (xc1_r _) ?_
      refine x_lload_n dX6_readUnitHead_53 rfl ?_
      refine x_aload_n dX6_readUnitHead_54 rfl ?_
      refine gfX6_53 rfl dX6_readUnitHead_55 (fun x16 => ?_)
      refine cmX6_94 rfl hs (Nat.le_of_ble_eq_true rfl) dX6_readUnitHead_58 (fun x18 M17 => ?_)
      refine x_aload_n dX6_readUnitHead_61 rfl ?_
      refine gfX6_62 rfl dX6_readUnitHead_62 (fun x19 => ?_)
      refine cmX6_156 rfl hs (Nat.le_of_ble_eq_true rfl) dX6_readUnitHead_65 (fun M20 => ?_)
      refine cmX6_159 rfl hs (Nat.le_of_ble_eq_true rfl) dX6_readUnitHead_68 (fun x22 M21 => ?_)
      refine x_pop dX6_readUnitHead_71 (xc1_i _) ?_
      refine x_aload_n dX6_readUnitHead_72 rfl ?_
      refine x_bipush (v := 123) dX6_readUnitHead_73 (by decide) ?_
      refine cmX6_90 rfl hs (Nat.le_of_ble_eq_true rfl) dX6_readUnitHead_75 (fun M23 => ?_)
      exact x_vret rfl dX6_readUnitHead_78
    refine x_icmp_lt (tgt := 40) dX6_readUnitHead_33 (by decide) (fun _ => ?_) (fun _ => ?_)
    · refine x_iconst (v := 0) dX6_readUnitHead_40 (by decide) ?_
      exact x_weak (by exact ⟨rfl, trivial⟩) (hj41 ((0 : Int32)))
    · refine x_iconst (v := 1) dX6_readUnitHead_36 (by decide) ?_
      refine x_goto (tgt := 41) dX6_readUnitHead_37 (by decide) ?_
      exact x_weak (by exact ⟨rfl, trivial⟩) (hj41 ((1 : Int32)))
  refine x_if_lt (tgt := 23) dX6_readUnitHead_16 (by decide) (fun _ => ?_) (fun _ => ?_)
  · refine x_iconst (v := 0) dX6_readUnitHead_23 (by decide) ?_
    exact x_weak (by exact ⟨rfl, trivial⟩) (hj24 ((0 : Int32)))
  · refine x_iconst (v := 1) dX6_readUnitHead_19 (by decide) ?_
    refine x_goto (tgt := 24) dX6_readUnitHead_20 (by decide) ?_
    exact x_weak (by exact ⟨rfl, trivial⟩) (hj24 ((1 : Int32)))
theorem s76 {l : Launch} {d : Nat} {rec : Nat → List Value → Mem → XA} (hS : Nonempty XS) (hs : XSnd l xmt rec d) : Snd1 l 76 (b76 rec) d := by
  intro as M r M' h0
  unfold b76 at h0
  obtain ⟨a0, l1, e1, h1⟩ := aR_inv h0
  obtain ⟨ez, h⟩ := aZ_inv h1
  subst ez
  subst e1
  exact xmet (M := M) (as := [va_rf a0]) (lo := [some (va_rf a0)]) 76 xq76 xm76 (by rw [xargs_rf, xargs_nil]; exact ⟨rfl, trivial⟩) (by rw [xargs_rf, xargs_nil]; exact Nat.le_of_ble_eq_true rfl) (fun S G K => x_weak (by exact ⟨rfl, trivial⟩) (k76 hs a0 M)) h hS
set_option maxRecDepth 100000 in
def c77_264 (rec : Nat → List Value → Mem → XA) (a0 : Option Nat) (j285 : Mem → XA) (s17 : Int32) : (Int32 × Mem) → ((Int32 × Mem) → XA) → XA := fun s22 j264 =>
  gtI (7, 20) s22.2 a0 9 fun x23 =>
  if x23 ≤ s22.1 then (
    j285 s22.2) else (
    gtP (7, 20) s22.2 a0 8 fun x24 =>
    asI 102 s22.2 x24 s22.1 ((znar s17)) fun M25 =>
    lt (s22.1 + (1 : Int32)) fun (x26 : Int32) =>
    j264 (x26, M25))
set_option maxRecDepth 100000 in
def c77 (rec : Nat → List Value → Mem → XA) (a0 : Option Nat) (M0 : Mem) : XA :=
  gtI (7, 20) M0 a0 13 fun x1 =>
  jn (fun (s2 : Int32) =>
    jn (fun (s3 : Mem) =>
      gtI (7, 20) s3 a0 13 fun x4 =>
      jn (fun (s5 : Mem) =>
        some (.null, s5)) fun j285 =>
      jn (fun (s6 : Unit) =>
        vC (7, 20) s3 a0 <|
        cV (rec 79 [va_rf a0, .int s2] s3) fun M7 =>
        j285 M7) fun j54 =>
      if x4 = ((202 : Int32)) then (
        j54 ()) else (
        gtI (7, 20) s3 a0 13 fun x8 =>
        if x8 = ((203 : Int32)) then (
          j54 ()) else (
          gtI (7, 20) s3 a0 13 fun x9 =>
          if x9 = ((204 : Int32)) then (
            j54 ()) else (
            gtI (7, 20) s3 a0 13 fun x10 =>
            if x10 = ((205 : Int32)) then (
              vC (7, 20) s3 a0 <|
              cV (rec 80 [va_rf a0, .int s2] s3) fun M11 =>
              j285 M11) else (
              jn (fun (s12 : Unit) =>
                gtI (7, 20) s3 a0 9 fun x13 =>
                ptI (7, 20) s3 a0 14 x13 fun M14 =>
                ptI (7, 20) M14 a0 16 ((0 : Int32)) fun M15 =>
                gtI (7, 20) M15 a0 13 fun x16 =>
                jn (fun (s17 : Int32) =>
                  gtI (7, 20) M15 a0 13 fun x18 =>
                  jn (fun (s19 : Mem) =>
                    vC (7, 20) s19 a0 <|
                    cV (rec 89 [va_rf a0, .int ((0 : Int32))] s19) fun M20 =>
                    gtI (7, 20) M20 a0 14 fun x21 =>
                    lp (c77_264 rec a0 j285 s17) 4294967296 (x21, M20)) fun j254 =>
                  if x18 = ((207 : Int32)) then (
                    vC (7, 20) M15 a0 <|
                    cV (rec 81 [va_rf a0, .int s2] M15) fun M27 =>
                    j254 M27) else (
                    gtI (7, 20) M15 a0 13 fun x28 =>
                    jn (fun (s29 : Unit) =>
                      gtP (7, 20) M15 a0 1 fun x30 =>
                      gtP (7, 20) M15 a0 1 fun x31 =>
                      vC (0, 3) M15 x31 <|
                      cI (rec 346 [va_rf x31] M15) fun x33 M32 =>
                      vC (0, 3) M32 x30 <|
                      cP (rec 348 [va_rf x30, .int (x33 - ((1 : Int32)))] M32) fun x35 M34 =>
                      cst (11, 10) M34 x35 <|
                      vC (7, 20) M34 a0 <|
                      cV (rec 83 [va_rf a0, va_rf x35] M34) fun M36 =>
                      j254 M36) fun j189 =>
                    if x28 = ((206 : Int32)) then (
                      j189 ()) else (
                      gtI (7, 20) M15 a0 13 fun x37 =>
                      if x37 = ((208 : Int32)) then (
                        j189 ()) else (
                        gtI (7, 20) M15 a0 13 fun x38 =>
                        if x38 = ((209 : Int32)) then (
                          j189 ()) else (
                          gtI (7, 20) M15 a0 13 fun x39 =>
                          if x39 = ((210 : Int32)) then (
                            vC (7, 20) M15 a0 <|
                            cV (rec 84 [va_rf a0] M15) fun M40 =>
                            j254 M40) else (
                            gtI (7, 20) M15 a0 13 fun x41 =>
                            if x41 = ((214 : Int32)) then (
                              vC (7, 20) M15 a0 <|
                              cV (rec 86 [va_rf a0] M15) fun M42 =>
                              j254 M42) else (
                              vC (7, 20) M15 a0 <|
                              cV (rec 62 [va_rf a0, .int ((2 : Int32))] M15) fun M43 =>
                              j254 M43))))))) fun j140 =>
                jn (fun (s44 : Unit) =>
                  j140 ((1 : Int32))) fun j135 =>
                if x16 = ((207 : Int32)) then (
                  j135 ()) else (
                  gtI (7, 20) M15 a0 13 fun x45 =>
                  if x45 = ((206 : Int32)) then (
                    j135 ()) else (
                    j140 ((0 : Int32))))) fun j102 =>
              if s2 = 0 then (
                j102 ()) else (
                gtI (7, 20) s3 a0 13 fun x46 =>
                if x46 = ((207 : Int32)) then (
                  j102 ()) else (
                  vC (7, 20) s3 a0 <|
                  cV (rec 62 [va_rf a0, .int ((2 : Int32))] s3) fun M47 =>
                  j285 M47))))))) fun j24 =>
    if s2 = 0 then (
      j24 M0) else (
      vC (7, 20) M0 a0 <|
      cV (rec 63 [va_rf a0] M0) fun M48 =>
      j24 M48)) fun j15 =>
  if x1 = ((201 : Int32)) then (
    j15 ((1 : Int32))) else (
    j15 ((0 : Int32)))
def b77 (rec : Nat → List Value → Mem → XA) (as : List Value) (M0 : Mem) : XA := aR as fun a0 as => aZ as (c77 rec a0 M0)
set_option maxRecDepth 100000 in
set_option maxHeartbeats 4000000 in
theorem k77 {S : XS} {G : XG} {K : Nat × Nat} {l : Launch} {d : Nat} {rec : Nat → List Value → Mem → XA} (hs : XSnd l xmt rec d) (a0 : Option Nat) (M0 : Mem) : Xe S G K l (yX6_readMember, cX6_readMember, 4, none) d 0 [some (va_rf a0), none, none, none] [] M0 (c77 rec a0 M0) := by
  unfold c77
  refine x_aload_n dX6_readMember_0 rfl ?_
  refine gfX6_81 rfl dX6_readMember_1 (fun x1 => ?_)
  refine x_sipush (v := 201) dX6_readMember_4 (by decide) ?_
  refine x_jn (σ := Int32) 15 (fun s2 => [some (va_rf a0), none, none, none]) (fun s2 => [.int s2]) (fun s2 => M0) (fun s2 => ?_) (fun j15 hj15 => ?_)
  · refine x_istore_n (lo' := [some (va_rf a0), some (.int s2), none, none]) dX6_readMember_15 (by decide) (xok_r rfl) rfl ?_
    refine x_iload_n dX6_readMember_16 rfl ?_
    refine x_jn (σ := Mem) 24 (fun s3 => [some (va_rf a0), some (.int s2), none, none]) (fun s3 => []) (fun s3 => s3) (fun s3 => ?_) (fun j24 hj24 => ?_)
    · refine x_aload_n dX6_readMember_24 rfl ?_
      refine gfX6_81 rfl dX6_readMember_25 (fun x4 => ?_)
      refine x_sipush (v := 202) dX6_readMember_28 (by decide) ?_
      refine x_jn (σ := Mem) 285 (fun s5 => [none, none, none, none]) (fun s5 => []) (fun s5 => s5) (fun s5 => ?_) (fun j285 hj285 => ?_)
      · exact x_vret rfl dX6_readMember_285
      refine x_jn (σ := Unit) 54 (fun s6 => [some (va_rf a0), some (.int s2), none, none]) (fun s6 => []) (fun s6 => s3) (fun s6 => ?_) (fun j54 hj54 => ?_)
      · refine x_aload_n dX6_readMember_54 rfl ?_
        refine x_iload_n dX6_readMember_55 rfl ?_
        refine cmX6_163 rfl hs (Nat.le_of_ble_eq_true rfl) dX6_readMember_56 (fun M7 => ?_)
        refine x_goto (tgt := 285) dX6_readMember_59 (by decide) ?_
        exact x_weak (by exact trivial) (hj285 M7)
      refine x_icmp_eq (tgt := 54) dX6_readMember_31 (by decide) (fun _ => ?_) (fun _ => ?_)
      · exact x_weak (by exact ⟨rfl, ⟨rfl, trivial⟩⟩) (hj54 ())
      · refine x_aload_n dX6_readMember_34 rfl ?_
        refine gfX6_81 rfl dX6_readMember_35 (fun x8 => ?_)
        refine x_sipush (v := 203) dX6_readMember_38 (by decide) ?_
        refine x_icmp_eq (tgt := 54) dX6_readMember_41 (by decide) (fun _ => ?_) (fun _ => ?_)
        · exact x_weak (by exact ⟨rfl, ⟨rfl, trivial⟩⟩) (hj54 ())
        · refine x_aload_n dX6_readMember_44 rfl ?_
          refine gfX6_81 rfl dX6_readMember_45 (fun x9 => ?_)
          refine x_sipush (v := 204) dX6_readMember_48 (by decide) ?_
          refine x_icmp_ne (tgt := 62) dX6_readMember_51 (by decide) (fun _ => ?_) (fun _ => ?_)
          · exact x_weak (by exact ⟨rfl, ⟨rfl, trivial⟩⟩) (hj54 ())
          · refine x_aload_n dX6_readMember_62 rfl ?_
            refine gfX6_81 rfl dX6_readMember_63 (fun x10 => ?_)
            refine x_sipush (v := 205) dX6_readMember_66 (by decide) ?_
            refine x_icmp_ne (tgt := 80) dX6_readMember_69 (by decide) (fun _ => ?_) (fun _ => ?_)
            · refine x_aload_n dX6_readMember_72 rfl ?_
              refine x_iload_n dX6_readMember_73 rfl ?_
              refine cmX6_167 rfl hs (Nat.le_of_ble_eq_true rfl) dX6_readMember_74 (fun M11 => ?_)
              refine x_goto (tgt := 285) dX6_readMember_77 (by decide) ?_
              exact x_weak (by exact trivial) (hj285 M11)
            · refine x_iload_n dX6_readMember_80 rfl ?_
              refine x_jn (σ := Unit) 102 (fun s12 => [some (va_rf a0), some (.int s2), none, none]) (fun s12 => []) (fun s12 => s3) (fun s12 => ?_) (fun j102 hj102 => ?_)
              · refine x_aload_n dX6_readMember_102 rfl ?_
                refine x_aload_n dX6_readMember_103 rfl ?_
                refine gfX6_62 rfl dX6_readMember_104 (fun x13 => ?_)
                refine pfX6_170 rfl dX6_readMember_107 (fun M14 => ?_)
                refine x_aload_n dX6_readMember_110 rfl ?_
                refine x_iconst (v := 0) dX6_readMember_111 (by decide) ?_
                refine pfX6_145 rfl dX6_readMember_112 (fun M15 => ?_)
                refine x_aload_n dX6_readMember_115 rfl ?_
                refine gfX6_81 rfl dX6_readMember_116 (fun x16 => ?_)
                refine x_sipush (v := 207) dX6_readMember_119 (by decide) ?_
                refine x_jn (σ := Int32) 140 (fun s17 => [some (va_rf a0), some (.int s2), none, none]) (fun s17 => [.int s17]) (fun s17 => M15) (fun s17 => ?_) (fun j140 hj140 => ?_)
                · refine x_istore_n (lo' := [some (va_rf a0), some (.int s2), some (.int s17), none]) dX6_readMember_140 (by decide) rfl rfl ?_
                  refine x_aload_n dX6_readMember_141 rfl ?_
                  refine gfX6_81 rfl dX6_readMember_142 (fun x18 => ?_)
                  refine x_sipush (v := 207) dX6_readMember_145 (by decide) ?_
                  refine x_jn (σ := Mem) 254 (fun s19 => [some (va_rf a0), none, some (.int s17), none]) (fun s19 => []) (fun s19 => s19) (fun s19 => ?_) (fun j254 hj254 => ?_)
                  · refine x_aload_n dX6_readMember_254 rfl ?_
                    refine x_iconst (v := 0) dX6_readMember_255 (by decide) ?_
                    refine cmX6_186 rfl hs (Nat.le_of_ble_eq_true rfl) dX6_readMember_256 (fun M20 => ?_)
                    refine x_aload_n dX6_readMember_259 rfl ?_
                    refine gfX6_170 rfl dX6_readMember_260 (fun x21 => ?_)
                    refine x_istore_n (lo' := [some (va_rf a0), none, some (.int s17), some (.int x21)]) dX6_readMember_263 (by decide) rfl rfl ?_
                    refine x_weak (by exact ⟨rfl, ⟨rfl, ⟨rfl, trivial⟩⟩⟩) (x_lp (σ := Int32 × Mem) 264 (fun s22 => [some (va_rf a0), none, some (.int s17), some (.int s22.1)]) (fun s22 => []) (fun s22 => s22.2) (fun s22 j264 hj264 => ?_) 4294967296 (x21, M20))
                    · refine x_iload_n dX6_readMember_264 rfl ?_
                      refine x_aload_n dX6_readMember_265 rfl ?_
                      refine gfX6_62 rfl dX6_readMember_266 (fun x23 => ?_)
                      refine x_icmp_ge (tgt := 285) dX6_readMember_269 (by decide) (fun _ => ?_) (fun _ => ?_)
                      · exact x_weak (by exact trivial) (hj285 s22.2)
                      · refine x_aload_n dX6_readMember_272 rfl ?_
                        refine gfX6_28 rfl dX6_readMember_273 (fun x24 => ?_)
                        refine x_iload_n dX6_readMember_276 rfl ?_
                        refine x_iload_n dX6_readMember_277 rfl ?_
                        refine x_zast dX6_readMember_278 (fun M25 => ?_)
                        refine x_iincN (v := 1) (lo' := fun x26 => [some (va_rf a0), none, some (.int s17), some (.int x26)]) (by decide) dX6_readMember_279 rfl (by decide) rfl (fun _ => rfl) (fun x26 => ?_)
                        refine x_goto (tgt := 264) dX6_readMember_282 (by decide) ?_
                        exact x_weak (by exact ⟨rfl, ⟨rfl, ⟨rfl, trivial⟩⟩⟩) (hj264 (x26, M25))
                  refine x_icmp_ne (tgt := 159) dX6_readMember_148 (by decide) (fun _ => ?_) (fun _ => ?_)
                  · refine x_aload_n dX6_readMember_151 rfl ?_
                    refine x_iload_n dX6_readMember_152 rfl ?_
                    refine cmX6_173 rfl hs (Nat.le_of_ble_eq_true rfl) dX6_readMember_153 (fun M27 => ?_)
                    refine x_goto (tgt := 254) dX6_readMember_156 (by decide) ?_
                    exact x_weak (by exact ⟨rfl, ⟨rfl, trivial⟩⟩) (hj254 M27)
                  · refine x_aload_n dX6_readMember_159 rfl ?_
                    refine gfX6_81 rfl dX6_readMember_160 (fun x28 => ?_)
                    refine x_sipush (v := 206) dX6_readMember_163 (by decide) ?_
                    refine x_jn (σ := Unit) 189 (fun s29 => [some (va_rf a0), none, some (.int s17), none]) (fun s29 => []) (fun s29 => M15) (fun s29 => ?_) (fun j189 hj189 => ?_)
                    · refine x_aload_n dX6_readMember_189 rfl ?_
                      refine x_aload_n dX6_readMember_190 rfl ?_
                      refine gfX6_49 rfl dX6_readMember_191 (fun x30 => ?_)
                      refine x_aload_n dX6_readMember_194 rfl ?_
                      refine gfX6_49 rfl dX6_readMember_195 (fun x31 => ?_)
                      refine cmX6_94 rfl hs (Nat.le_of_ble_eq_true rfl) dX6_readMember_198 (fun x33 M32 => ?_)
                      refine x_iconst (v := 1) dX6_readMember_201 (by decide) ?_
                      refine x_isub dX6_readMember_202 ?_
                      refine cmX6_97 rfl hs (Nat.le_of_ble_eq_true rfl) dX6_readMember_203 (fun x35 M34 => ?_)
                      refine ccX6_101 rfl dX6_readMember_206 ?_
                      refine cmX6_176 rfl hs (Nat.le_of_ble_eq_true rfl) dX6_readMember_209 (fun M36 => ?_)
                      refine x_goto (tgt := 254) dX6_readMember_212 (by decide) ?_
                      exact x_weak (by exact ⟨rfl, ⟨rfl, trivial⟩⟩) (hj254 M36)
                    refine x_icmp_eq (tgt := 189) dX6_readMember_166 (by decide) (fun _ => ?_) (fun _ => ?_)
                    · exact x_weak (by exact ⟨rfl, ⟨rfl, trivial⟩⟩) (hj189 ())
                    · refine x_aload_n dX6_readMember_169 rfl ?_
                      refine gfX6_81 rfl dX6_readMember_170 (fun x37 => ?_)
                      refine x_sipush (v := 208) dX6_readMember_173 (by decide) ?_
                      refine x_icmp_eq (tgt := 189) dX6_readMember_176 (by decide) (fun _ => ?_) (fun _ => ?_)
                      · exact x_weak (by exact ⟨rfl, ⟨rfl, trivial⟩⟩) (hj189 ())
                      · refine x_aload_n dX6_readMember_179 rfl ?_
                        refine gfX6_81 rfl dX6_readMember_180 (fun x38 => ?_)
                        refine x_sipush (v := 209) dX6_readMember_183 (by decide) ?_
                        refine x_icmp_ne (tgt := 215) dX6_readMember_186 (by decide) (fun _ => ?_) (fun _ => ?_)
                        · exact x_weak (by exact ⟨rfl, ⟨rfl, trivial⟩⟩) (hj189 ())
                        · refine x_aload_n dX6_readMember_215 rfl ?_
                          refine gfX6_81 rfl dX6_readMember_216 (fun x39 => ?_)
                          refine x_sipush (v := 210) dX6_readMember_219 (by decide) ?_
                          refine x_icmp_ne (tgt := 232) dX6_readMember_222 (by decide) (fun _ => ?_) (fun _ => ?_)
                          · refine x_aload_n dX6_readMember_225 rfl ?_
                            refine cmX6_180 rfl hs (Nat.le_of_ble_eq_true rfl) dX6_readMember_226 (fun M40 => ?_)
                            refine x_goto (tgt := 254) dX6_readMember_229 (by decide) ?_
                            exact x_weak (by exact ⟨rfl, ⟨rfl, trivial⟩⟩) (hj254 M40)
                          · refine x_aload_n dX6_readMember_232 rfl ?_
                            refine gfX6_81 rfl dX6_readMember_233 (fun x41 => ?_)
                            refine x_sipush (v := 214) dX6_readMember_236 (by decide) ?_
                            refine x_icmp_ne (tgt := 249) dX6_readMember_239 (by decide) (fun _ => ?_) (fun _ => ?_)
                            · refine x_aload_n dX6_readMember_242 rfl ?_
                              refine cmX6_183 rfl hs (Nat.le_of_ble_eq_true rfl) dX6_readMember_243 (fun M42 => ?_)
                              refine x_goto (tgt := 254) dX6_readMember_246 (by decide) ?_
                              exact x_weak (by exact ⟨rfl, ⟨rfl, trivial⟩⟩) (hj254 M42)
                            · refine x_aload_n dX6_readMember_249 rfl ?_
                              refine x_iconst (v := 2) dX6_readMember_250 (by decide) ?_
                              refine cmX6_109 rfl hs (Nat.le_of_ble_eq_true rfl) dX6_readMember_251 (fun M43 => ?_)
                              exact x_weak (by exact ⟨rfl, ⟨rfl, trivial⟩⟩) (hj254 M43)
                refine x_jn (σ := Unit) 135 (fun s44 => [some (va_rf a0), some (.int s2), none, none]) (fun s44 => []) (fun s44 => M15) (fun s44 => ?_) (fun j135 hj135 => ?_)
                · refine x_iconst (v := 1) dX6_readMember_135 (by decide) ?_
                  refine x_goto (tgt := 140) dX6_readMember_136 (by decide) ?_
                  exact x_weak (by exact ⟨rfl, ⟨rfl, trivial⟩⟩) (hj140 ((1 : Int32)))
                refine x_icmp_eq (tgt := 135) dX6_readMember_122 (by decide) (fun _ => ?_) (fun _ => ?_)
                · exact x_weak (by exact ⟨rfl, ⟨rfl, trivial⟩⟩) (hj135 ())
                · refine x_aload_n dX6_readMember_125 rfl ?_
                  refine gfX6_81 rfl dX6_readMember_126 (fun x45 => ?_)
                  refine x_sipush (v := 206) dX6_readMember_129 (by decide) ?_
                  refine x_icmp_ne (tgt := 139) dX6_readMember_132 (by decide) (fun _ => ?_) (fun _ => ?_)
                  · exact x_weak (by exact ⟨rfl, ⟨rfl, trivial⟩⟩) (hj135 ())
                  · refine x_iconst (v := 0) dX6_readMember_139 (by decide) ?_
                    exact x_weak (by exact ⟨rfl, ⟨rfl, trivial⟩⟩) (hj140 ((0 : Int32)))
              refine x_if_eq (tgt := 102) dX6_readMember_81 (by decide) (fun _ => ?_) (fun _ => ?_)
              · exact x_weak (by exact ⟨rfl, ⟨rfl, trivial⟩⟩) (hj102 ())
              · refine x_aload_n dX6_readMember_84 rfl ?_
                refine gfX6_81 rfl dX6_readMember_85 (fun x46 => ?_)
                refine x_sipush (v := 207) dX6_readMember_88 (by decide) ?_
                refine x_icmp_eq (tgt := 102) dX6_readMember_91 (by decide) (fun _ => ?_) (fun _ => ?_)
                · exact x_weak (by exact ⟨rfl, ⟨rfl, trivial⟩⟩) (hj102 ())
                · refine x_aload_n dX6_readMember_94 rfl ?_
                  refine x_iconst (v := 2) dX6_readMember_95 (by decide) ?_
                  refine cmX6_109 rfl hs (Nat.le_of_ble_eq_true rfl) dX6_readMember_96 (fun M47 => ?_)
                  refine x_goto (tgt := 285) dX6_readMember_99 (by decide) ?_
                  exact x_weak (by exact trivial) (hj285 M47)
    refine x_if_eq (tgt := 24) dX6_readMember_17 (by decide) (fun _ => ?_) (fun _ => ?_)
    · exact x_weak (by exact ⟨rfl, ⟨rfl, trivial⟩⟩) (hj24 M0)
    · refine x_aload_n dX6_readMember_20 rfl ?_
      refine cmX6_121 rfl hs (Nat.le_of_ble_eq_true rfl) dX6_readMember_21 (fun M48 => ?_)
      exact x_weak (by exact ⟨rfl, ⟨rfl, trivial⟩⟩) (hj24 M48)
  refine x_icmp_ne (tgt := 14) dX6_readMember_7 (by decide) (fun _ => ?_) (fun _ => ?_)
  · refine x_iconst (v := 1) dX6_readMember_10 (by decide) ?_
    refine x_goto (tgt := 15) dX6_readMember_11 (by decide) ?_
    exact x_weak (by exact ⟨rfl, trivial⟩) (hj15 ((1 : Int32)))
  · refine x_iconst (v := 0) dX6_readMember_14 (by decide) ?_
    exact x_weak (by exact ⟨rfl, trivial⟩) (hj15 ((0 : Int32)))
theorem s77 {l : Launch} {d : Nat} {rec : Nat → List Value → Mem → XA} (hS : Nonempty XS) (hs : XSnd l xmt rec d) : Snd1 l 77 (b77 rec) d := by
  intro as M r M' h0
  unfold b77 at h0
  obtain ⟨a0, l1, e1, h1⟩ := aR_inv h0
  obtain ⟨ez, h⟩ := aZ_inv h1
  subst ez
  subst e1
  exact xmet (M := M) (as := [va_rf a0]) (lo := [some (va_rf a0)]) 77 xq77 xm77 (by rw [xargs_rf, xargs_nil]; exact ⟨rfl, trivial⟩) (by rw [xargs_rf, xargs_nil]; exact Nat.le_of_ble_eq_true rfl) (fun S G K => x_weak (by exact ⟨rfl, trivial⟩) (k77 hs a0 M)) h hS
set_option maxRecDepth 100000 in
def c78 (rec : Nat → List Value → Mem → XA) (a0 : Option Nat) (a1 : Int32) (a2 : Int32) (M0 : Mem) : XA :=
  vC (7, 20) M0 a0 <|
  cV (rec 63 [va_rf a0] M0) fun M1 =>
  gtP (7, 20) M1 a0 1 fun x2 =>
  vC (0, 3) M1 x2 <|
  cI (rec 346 [va_rf x2] M1) fun x4 M3 =>
  lt (x4 - ((1 : Int32))) fun (x5 : Int32) =>
  gtP (7, 20) M3 a0 2 fun x6 =>
  vC (0, 3) M3 x6 <|
  cI (rec 346 [va_rf x6] M3) fun x8 M7 =>
  gtP (7, 20) M7 a0 1 fun x9 =>
  vC (0, 3) M7 x9 <|
  cP (rec 348 [va_rf x9, .int x5] M7) fun x11 M10 =>
  cst (11, 10) M10 x11 <|
  gtI (11, 10) M10 x11 1 fun x12 =>
  lt (x8 - x12) fun (x13 : Int32) =>
  nO (8, 9) M10 fun x14 M15 =>
  vC (7, 20) M15 a0 <|
  cI (rec 73 [va_rf a0] M15) fun x17 M16 =>
  jn (fun (s18 : Int32) =>
    vC (7, 20) M16 a0 <|
    cL (rec 66 [va_rf a0, .int x17, .int s18] M16) fun x20 M19 =>
    vC (8, 9) M19 x14 <|
    cV (rec 110 [va_rf x14, .long x20, .int x5, .int a1] M19) fun M21 =>
    ptZ (8, 9) M21 x14 3 a2 fun M22 =>
    gtP (7, 20) M22 a0 2 fun x23 =>
    vC (0, 3) M22 x23 <|
    cI (rec 350 [va_rf x23, va_rf x14] M22) fun x25 M24 =>
    some (va_rf x14, M24)) fun j59 =>
  if x13 < ((12 : Int32)) then (
    j59 ((0 : Int32))) else (
    j59 ((1 : Int32)))
def b78 (rec : Nat → List Value → Mem → XA) (as : List Value) (M0 : Mem) : XA := aR as fun a0 as => aI as fun a1 as => aI as fun a2 as => aZ as (c78 rec a0 a1 a2 M0)
set_option maxRecDepth 100000 in
set_option maxHeartbeats 4000000 in
theorem k78 {S : XS} {G : XG} {K : Nat × Nat} {l : Launch} {d : Nat} {rec : Nat → List Value → Mem → XA} (hs : XSnd l xmt rec d) (a0 : Option Nat) (a1 : Int32) (a2 : Int32) (M0 : Mem) : Xe S G K l (yX6_newMember, cX6_newMember, 6, some (.object "TestHouse$Part")) d 0 [some (va_rf a0), some (.int a1), some (.int a2), none, none, none] [] M0 (c78 rec a0 a1 a2 M0) := by
  unfold c78
  refine x_aload_n dX6_newMember_0 rfl ?_
  refine cmX6_121 rfl hs (Nat.le_of_ble_eq_true rfl) dX6_newMember_1 (fun M1 => ?_)
  refine x_aload_n dX6_newMember_4 rfl ?_
  refine gfX6_49 rfl dX6_newMember_5 (fun x2 => ?_)
  refine cmX6_94 rfl hs (Nat.le_of_ble_eq_true rfl) dX6_newMember_8 (fun x4 M3 => ?_)
  refine x_iconst (v := 1) dX6_newMember_11 (by decide) ?_
  refine x_isub dX6_newMember_12 ?_
  refine x_ltI (fun x5 => ?_)
  refine x_istore_n (lo' := [some (va_rf a0), some (.int a1), some (.int a2), some (.int x5), none, none]) dX6_newMember_13 (by decide) rfl rfl ?_
  refine x_aload_n dX6_newMember_14 rfl ?_
  refine gfX6_53 rfl dX6_newMember_15 (fun x6 => ?_)
  refine cmX6_94 rfl hs (Nat.le_of_ble_eq_true rfl) dX6_newMember_18 (fun x8 M7 => ?_)
  refine x_aload_n dX6_newMember_21 rfl ?_
  refine gfX6_49 rfl dX6_newMember_22 (fun x9 => ?_)
  refine x_iload_n dX6_newMember_25 rfl ?_
  refine cmX6_97 rfl hs (Nat.le_of_ble_eq_true rfl) dX6_newMember_26 (fun x11 M10 => ?_)
  refine ccX6_101 rfl dX6_newMember_29 ?_
  refine gfX6_189 rfl dX6_newMember_32 (fun x12 => ?_)
  refine x_isub dX6_newMember_35 ?_
  refine x_ltI (fun x13 => ?_)
  refine x_istore (lo' := [some (va_rf a0), some (.int a1), some (.int a2), some (.int x5), some (.int x13), none]) dX6_newMember_36 (by decide) rfl rfl ?_
  refine nwX6_135 rfl dX6_newMember_38 (fun x14 M15 => ?_)
  refine x_dup dX6_newMember_41 (xc1_r _) ?_
  refine x_aload_n dX6_newMember_42 rfl ?_
  refine x_aload_n dX6_newMember_43 rfl ?_
  refine cmX6_192 rfl hs (Nat.le_of_ble_eq_true rfl) dX6_newMember_44 (fun x17 M16 => ?_)
  refine x_iload dX6_newMember_47 rfl ?_
  refine x_bipush (v := 12) dX6_newMember_49 (by decide) ?_
  refine x_jn (σ := Int32) 59 (fun s18 => [some (va_rf a0), some (.int a1), some (.int a2), some (.int x5), none, none]) (fun s18 => [.int s18, .int x17, va_rf a0, va_rf x14, va_rf x14]) (fun s18 => M16) (fun s18 => ?_) (fun j59 hj59 => ?_)
  · refine cmX6_152 rfl hs (Nat.le_of_ble_eq_true rfl) dX6_newMember_59 (fun x20 M19 => ?_)
    refine x_iload_n dX6_newMember_62 rfl ?_
    refine x_iload_n dX6_newMember_63 rfl ?_
    refine cmX6_196 rfl hs (Nat.le_of_ble_eq_true rfl) dX6_newMember_64 (fun M21 => ?_)
    refine x_astore (lo' := [some (va_rf a0), some (.int a1), some (.int a2), some (.int x5), none, some (va_rf x14)]) dX6_newMember_67 (by decide) rfl rfl ?_
    refine x_aload dX6_newMember_69 rfl ?_
    refine x_iload_n dX6_newMember_71 rfl ?_
    refine pfX6_197 rfl dX6_newMember_72 (fun M22 => ?_)
    refine x_aload_n dX6_newMember_75 rfl ?_
    refine gfX6_53 rfl dX6_newMember_76 (fun x23 => ?_)
    refine x_aload dX6_newMember_79 rfl ?_
    refine cmX6_159 rfl hs (Nat.le_of_ble_eq_true rfl) dX6_newMember_81 (fun x25 M24 => ?_)
    refine x_pop dX6_newMember_84 (xc1_i _) ?_
    refine x_aload dX6_newMember_85 rfl ?_
    exact x_aret rfl rfl dX6_newMember_87
  refine x_icmp_lt (tgt := 58) dX6_newMember_51 (by decide) (fun _ => ?_) (fun _ => ?_)
  · refine x_iconst (v := 0) dX6_newMember_58 (by decide) ?_
    exact x_weak (by exact ⟨rfl, ⟨rfl, ⟨rfl, ⟨rfl, trivial⟩⟩⟩⟩) (hj59 ((0 : Int32)))
  · refine x_iconst (v := 1) dX6_newMember_54 (by decide) ?_
    refine x_goto (tgt := 59) dX6_newMember_55 (by decide) ?_
    exact x_weak (by exact ⟨rfl, ⟨rfl, ⟨rfl, ⟨rfl, trivial⟩⟩⟩⟩) (hj59 ((1 : Int32)))
theorem s78 {l : Launch} {d : Nat} {rec : Nat → List Value → Mem → XA} (hS : Nonempty XS) (hs : XSnd l xmt rec d) : Snd1 l 78 (b78 rec) d := by
  intro as M r M' h0
  unfold b78 at h0
  obtain ⟨a0, l1, e1, h1⟩ := aR_inv h0
  obtain ⟨a1, l2, e2, h2⟩ := aI_inv h1
  obtain ⟨a2, l3, e3, h3⟩ := aI_inv h2
  obtain ⟨ez, h⟩ := aZ_inv h3
  subst ez
  subst e3
  subst e2
  subst e1
  exact xmet (M := M) (as := [va_rf a0, .int a1, .int a2]) (lo := [some (va_rf a0), some (.int a1), some (.int a2)]) 78 xq78 xm78 (by rw [xargs_rf, xargs_i, xargs_i, xargs_nil]; exact ⟨rfl, ⟨rfl, ⟨rfl, trivial⟩⟩⟩) (by rw [xargs_rf, xargs_i, xargs_i, xargs_nil]; exact Nat.le_of_ble_eq_true rfl) (fun S G K => x_weak (by exact ⟨rfl, ⟨rfl, ⟨rfl, trivial⟩⟩⟩) (k78 hs a0 a1 a2 M)) h hS
set_option maxRecDepth 100000 in
def c79 (rec : Nat → List Value → Mem → XA) (a0 : Option Nat) (a1 : Int32) (M0 : Mem) : XA :=
  gtI (7, 20) M0 a0 13 fun x1 =>
  jn (fun (s2 : Int32) =>
    vC (7, 20) M0 a0 <|
    cP (rec 78 [va_rf a0, .int s2, .int a1] M0) fun x4 M3 =>
    vC (7, 20) M3 a0 <|
    cV (rec 64 [va_rf a0, .int ((61 : Int32))] M3) fun M5 =>
    vC (7, 20) M5 a0 <|
    cI (rec 68 [va_rf a0] M5) fun x7 M6 =>
    ptI (8, 9) M6 x4 4 x7 fun M8 =>
    vC (7, 20) M8 a0 <|
    cV (rec 64 [va_rf a0, .int ((59 : Int32))] M8) fun M9 =>
    some (.null, M9)) fun j29 =>
  if x1 = ((202 : Int32)) then (
    j29 ((0 : Int32))) else (
    gtI (7, 20) M0 a0 13 fun x10 =>
    if x10 = ((203 : Int32)) then (
      j29 ((1 : Int32))) else (
      j29 ((2 : Int32))))
def b79 (rec : Nat → List Value → Mem → XA) (as : List Value) (M0 : Mem) : XA := aR as fun a0 as => aI as fun a1 as => aZ as (c79 rec a0 a1 M0)
set_option maxRecDepth 100000 in
set_option maxHeartbeats 4000000 in
theorem k79 {S : XS} {G : XG} {K : Nat × Nat} {l : Launch} {d : Nat} {rec : Nat → List Value → Mem → XA} (hs : XSnd l xmt rec d) (a0 : Option Nat) (a1 : Int32) (M0 : Mem) : Xe S G K l (yX6_readValue, cX6_readValue, 4, none) d 0 [some (va_rf a0), some (.int a1), none, none] [] M0 (c79 rec a0 a1 M0) := by
  unfold c79
  refine x_aload_n dX6_readValue_0 rfl ?_
  refine gfX6_81 rfl dX6_readValue_1 (fun x1 => ?_)
  refine x_sipush (v := 202) dX6_readValue_4 (by decide) ?_
  refine x_jn (σ := Int32) 29 (fun s2 => [some (va_rf a0), some (.int a1), none, none]) (fun s2 => [.int s2]) (fun s2 => M0) (fun s2 => ?_) (fun j29 hj29 => ?_)
  · refine x_istore_n (lo' := [some (va_rf a0), some (.int a1), some (.int s2), none]) dX6_readValue_29 (by decide) rfl rfl ?_
    refine x_aload_n dX6_readValue_30 rfl ?_
    refine x_iload_n dX6_readValue_31 rfl ?_
    refine x_iload_n dX6_readValue_32 rfl ?_
    refine cmX6_201 rfl hs (Nat.le_of_ble_eq_true rfl) dX6_readValue_33 (fun x4 M3 => ?_)
    refine x_astore_n (lo' := [some (va_rf a0), some (.int a1), some (.int s2), some (va_rf x4)]) dX6_readValue_36 (by decide) rfl rfl ?_
    refine x_aload_n dX6_readValue_37 rfl ?_
    refine x_bipush (v := 61) dX6_readValue_38 (by decide) ?_
    refine cmX6_90 rfl hs (Nat.le_of_ble_eq_true rfl) dX6_readValue_40 (fun M5 => ?_)
    refine x_aload_n dX6_readValue_43 rfl ?_
    refine x_aload_n dX6_readValue_44 rfl ?_
    refine cmX6_205 rfl hs (Nat.le_of_ble_eq_true rfl) dX6_readValue_45 (fun x7 M6 => ?_)
    refine pfX6_208 rfl dX6_readValue_48 (fun M8 => ?_)
    refine x_aload_n dX6_readValue_51 rfl ?_
    refine x_bipush (v := 59) dX6_readValue_52 (by decide) ?_
    refine cmX6_90 rfl hs (Nat.le_of_ble_eq_true rfl) dX6_readValue_54 (fun M9 => ?_)
    exact x_vret rfl dX6_readValue_57
  refine x_icmp_ne (tgt := 14) dX6_readValue_7 (by decide) (fun _ => ?_) (fun _ => ?_)
  · refine x_iconst (v := 0) dX6_readValue_10 (by decide) ?_
    refine x_goto (tgt := 29) dX6_readValue_11 (by decide) ?_
    exact x_weak (by exact ⟨rfl, ⟨rfl, trivial⟩⟩) (hj29 ((0 : Int32)))
  · refine x_aload_n dX6_readValue_14 rfl ?_
    refine gfX6_81 rfl dX6_readValue_15 (fun x10 => ?_)
    refine x_sipush (v := 203) dX6_readValue_18 (by decide) ?_
    refine x_icmp_ne (tgt := 28) dX6_readValue_21 (by decide) (fun _ => ?_) (fun _ => ?_)
    · refine x_iconst (v := 1) dX6_readValue_24 (by decide) ?_
      refine x_goto (tgt := 29) dX6_readValue_25 (by decide) ?_
      exact x_weak (by exact ⟨rfl, ⟨rfl, trivial⟩⟩) (hj29 ((1 : Int32)))
    · refine x_iconst (v := 2) dX6_readValue_28 (by decide) ?_
      exact x_weak (by exact ⟨rfl, ⟨rfl, trivial⟩⟩) (hj29 ((2 : Int32)))
theorem s79 {l : Launch} {d : Nat} {rec : Nat → List Value → Mem → XA} (hS : Nonempty XS) (hs : XSnd l xmt rec d) : Snd1 l 79 (b79 rec) d := by
  intro as M r M' h0
  unfold b79 at h0
  obtain ⟨a0, l1, e1, h1⟩ := aR_inv h0
  obtain ⟨a1, l2, e2, h2⟩ := aI_inv h1
  obtain ⟨ez, h⟩ := aZ_inv h2
  subst ez
  subst e2
  subst e1
  exact xmet (M := M) (as := [va_rf a0, .int a1]) (lo := [some (va_rf a0), some (.int a1)]) 79 xq79 xm79 (by rw [xargs_rf, xargs_i, xargs_nil]; exact ⟨rfl, ⟨rfl, trivial⟩⟩) (by rw [xargs_rf, xargs_i, xargs_nil]; exact Nat.le_of_ble_eq_true rfl) (fun S G K => x_weak (by exact ⟨rfl, ⟨rfl, trivial⟩⟩) (k79 hs a0 a1 M)) h hS
set_option maxRecDepth 100000 in
def c80 (rec : Nat → List Value → Mem → XA) (a0 : Option Nat) (a1 : Int32) (M0 : Mem) : XA :=
  vC (7, 20) M0 a0 <|
  cP (rec 78 [va_rf a0, .int ((3 : Int32)), .int a1] M0) fun x2 M1 =>
  vC (7, 20) M1 a0 <|
  cV (rec 64 [va_rf a0, .int ((91 : Int32))] M1) fun M3 =>
  vC (7, 20) M3 a0 <|
  cI (rec 67 [va_rf a0, .int ((1 : Int32)), .int ((50 : Int32))] M3) fun x5 M4 =>
  ptI (8, 9) M4 x2 4 x5 fun M6 =>
  vC (7, 20) M6 a0 <|
  cV (rec 64 [va_rf a0, .int ((93 : Int32))] M6) fun M7 =>
  vC (7, 20) M7 a0 <|
  cV (rec 64 [va_rf a0, .int ((59 : Int32))] M7) fun M8 =>
  some (.null, M8)
def b80 (rec : Nat → List Value → Mem → XA) (as : List Value) (M0 : Mem) : XA := aR as fun a0 as => aI as fun a1 as => aZ as (c80 rec a0 a1 M0)
set_option maxRecDepth 100000 in
set_option maxHeartbeats 4000000 in
theorem k80 {S : XS} {G : XG} {K : Nat × Nat} {l : Launch} {d : Nat} {rec : Nat → List Value → Mem → XA} (hs : XSnd l xmt rec d) (a0 : Option Nat) (a1 : Int32) (M0 : Mem) : Xe S G K l (yX6_readRow, cX6_readRow, 3, none) d 0 [some (va_rf a0), some (.int a1), none] [] M0 (c80 rec a0 a1 M0) := by
  unfold c80
  refine x_aload_n dX6_readRow_0 rfl ?_
  refine x_iconst (v := 3) dX6_readRow_1 (by decide) ?_
  refine x_iload_n dX6_readRow_2 rfl ?_
  refine cmX6_201 rfl hs (Nat.le_of_ble_eq_true rfl) dX6_readRow_3 (fun x2 M1 => ?_)
  refine x_astore_n (lo' := [some (va_rf a0), some (.int a1), some (va_rf x2)]) dX6_readRow_6 (by decide) rfl rfl ?_
  refine x_aload_n dX6_readRow_7 rfl ?_
  refine x_bipush (v := 91) dX6_readRow_8 (by decide) ?_
  refine cmX6_90 rfl hs (Nat.le_of_ble_eq_true rfl) dX6_readRow_10 (fun M3 => ?_)
  refine x_aload_n dX6_readRow_13 rfl ?_
  refine x_aload_n dX6_readRow_14 rfl ?_
  refine x_iconst (v := 1) dX6_readRow_15 (by decide) ?_
  refine x_bipush (v := 50) dX6_readRow_16 (by decide) ?_
  refine cmX6_211 rfl hs (Nat.le_of_ble_eq_true rfl) dX6_readRow_18 (fun x5 M4 => ?_)
  refine pfX6_208 rfl dX6_readRow_21 (fun M6 => ?_)
  refine x_aload_n dX6_readRow_24 rfl ?_
  refine x_bipush (v := 93) dX6_readRow_25 (by decide) ?_
  refine cmX6_90 rfl hs (Nat.le_of_ble_eq_true rfl) dX6_readRow_27 (fun M7 => ?_)
  refine x_aload_n dX6_readRow_30 rfl ?_
  refine x_bipush (v := 59) dX6_readRow_31 (by decide) ?_
  refine cmX6_90 rfl hs (Nat.le_of_ble_eq_true rfl) dX6_readRow_33 (fun M8 => ?_)
  exact x_vret rfl dX6_readRow_36
theorem s80 {l : Launch} {d : Nat} {rec : Nat → List Value → Mem → XA} (hS : Nonempty XS) (hs : XSnd l xmt rec d) : Snd1 l 80 (b80 rec) d := by
  intro as M r M' h0
  unfold b80 at h0
  obtain ⟨a0, l1, e1, h1⟩ := aR_inv h0
  obtain ⟨a1, l2, e2, h2⟩ := aI_inv h1
  obtain ⟨ez, h⟩ := aZ_inv h2
  subst ez
  subst e2
  subst e1
  exact xmet (M := M) (as := [va_rf a0, .int a1]) (lo := [some (va_rf a0), some (.int a1)]) 80 xq80 xm80 (by rw [xargs_rf, xargs_i, xargs_nil]; exact ⟨rfl, ⟨rfl, trivial⟩⟩) (by rw [xargs_rf, xargs_i, xargs_nil]; exact Nat.le_of_ble_eq_true rfl) (fun S G K => x_weak (by exact ⟨rfl, ⟨rfl, trivial⟩⟩) (k80 hs a0 a1 M)) h hS
set_option maxRecDepth 100000 in
def c81 (rec : Nat → List Value → Mem → XA) (a0 : Option Nat) (a1 : Int32) (M0 : Mem) : XA :=
  vC (7, 20) M0 a0 <|
  cP (rec 78 [va_rf a0, .int ((4 : Int32)), .int a1] M0) fun x2 M1 =>
  vC (7, 20) M1 a0 <|
  cV (rec 64 [va_rf a0, .int ((40 : Int32))] M1) fun M3 =>
  gtI (7, 20) M3 a0 13 fun x4 =>
  jn (fun (s5 : Mem) =>
    vC (7, 20) s5 a0 <|
    cV (rec 64 [va_rf a0, .int ((41 : Int32))] s5) fun M6 =>
    gtI (7, 20) M6 a0 16 fun x7 =>
    ptI (8, 9) M6 x2 4 x7 fun M8 =>
    gtI (7, 20) M8 a0 9 fun x9 =>
    ptI (8, 9) M8 x2 5 x9 fun M10 =>
    some (.null, M10)) fun j26 =>
  if x4 = ((41 : Int32)) then (
    j26 M3) else (
    vC (7, 20) M3 a0 <|
    cV (rec 82 [va_rf a0] M3) fun M11 =>
    j26 M11)
def b81 (rec : Nat → List Value → Mem → XA) (as : List Value) (M0 : Mem) : XA := aR as fun a0 as => aI as fun a1 as => aZ as (c81 rec a0 a1 M0)
set_option maxRecDepth 100000 in
set_option maxHeartbeats 4000000 in
theorem k81 {S : XS} {G : XG} {K : Nat × Nat} {l : Launch} {d : Nat} {rec : Nat → List Value → Mem → XA} (hs : XSnd l xmt rec d) (a0 : Option Nat) (a1 : Int32) (M0 : Mem) : Xe S G K l (yX6_readFun, cX6_readFun, 3, none) d 0 [some (va_rf a0), some (.int a1), none] [] M0 (c81 rec a0 a1 M0) := by
  unfold c81
  refine x_aload_n dX6_readFun_0 rfl ?_
  refine x_iconst (v := 4) dX6_readFun_1 (by decide) ?_
  refine x_iload_n dX6_readFun_2 rfl ?_
  refine cmX6_201 rfl hs (Nat.le_of_ble_eq_true rfl) dX6_readFun_3 (fun x2 M1 => ?_)
  refine x_astore_n (lo' := [some (va_rf a0), some (.int a1), some (va_rf x2)]) dX6_readFun_6 (by decide) rfl rfl ?_
  refine x_aload_n dX6_readFun_7 rfl ?_
  refine x_bipush (v := 40) dX6_readFun_8 (by decide) ?_
  refine cmX6_90 rfl hs (Nat.le_of_ble_eq_true rfl) dX6_readFun_10 (fun M3 => ?_)
  refine x_aload_n dX6_readFun_13 rfl ?_
  refine gfX6_81 rfl dX6_readFun_14 (fun x4 => ?_)
  refine x_bipush (v := 41) dX6_readFun_17 (by decide) ?_
  refine x_jn (σ := Mem) 26 (fun s5 => [some (va_rf a0), none, some (va_rf x2)]) (fun s5 => []) (fun s5 => s5) (fun s5 => ?_) (fun j26 hj26 => ?_)
  · refine x_aload_n dX6_readFun_26 rfl ?_
    refine x_bipush (v := 41) dX6_readFun_27 (by decide) ?_
    refine cmX6_90 rfl hs (Nat.le_of_ble_eq_true rfl) dX6_readFun_29 (fun M6 => ?_)
    refine x_aload_n dX6_readFun_32 rfl ?_
    refine x_aload_n dX6_readFun_33 rfl ?_
    refine gfX6_145 rfl dX6_readFun_34 (fun x7 => ?_)
    refine pfX6_208 rfl dX6_readFun_37 (fun M8 => ?_)
    refine x_aload_n dX6_readFun_40 rfl ?_
    refine x_aload_n dX6_readFun_41 rfl ?_
    refine gfX6_62 rfl dX6_readFun_42 (fun x9 => ?_)
    refine pfX6_218 rfl dX6_readFun_45 (fun M10 => ?_)
    exact x_vret rfl dX6_readFun_48
  refine x_icmp_eq (tgt := 26) dX6_readFun_19 (by decide) (fun _ => ?_) (fun _ => ?_)
  · exact x_weak (by exact ⟨rfl, ⟨rfl, trivial⟩⟩) (hj26 M3)
  · refine x_aload_n dX6_readFun_22 rfl ?_
    refine cmX6_215 rfl hs (Nat.le_of_ble_eq_true rfl) dX6_readFun_23 (fun M11 => ?_)
    exact x_weak (by exact ⟨rfl, ⟨rfl, trivial⟩⟩) (hj26 M11)
theorem s81 {l : Launch} {d : Nat} {rec : Nat → List Value → Mem → XA} (hS : Nonempty XS) (hs : XSnd l xmt rec d) : Snd1 l 81 (b81 rec) d := by
  intro as M r M' h0
  unfold b81 at h0
  obtain ⟨a0, l1, e1, h1⟩ := aR_inv h0
  obtain ⟨a1, l2, e2, h2⟩ := aI_inv h1
  obtain ⟨ez, h⟩ := aZ_inv h2
  subst ez
  subst e2
  subst e1
  exact xmet (M := M) (as := [va_rf a0, .int a1]) (lo := [some (va_rf a0), some (.int a1)]) 81 xq81 xm81 (by rw [xargs_rf, xargs_i, xargs_nil]; exact ⟨rfl, ⟨rfl, trivial⟩⟩) (by rw [xargs_rf, xargs_i, xargs_nil]; exact Nat.le_of_ble_eq_true rfl) (fun S G K => x_weak (by exact ⟨rfl, ⟨rfl, trivial⟩⟩) (k81 hs a0 a1 M)) h hS
