set_option maxRecDepth 100000 in
def c192 (rec : Nat → List Value → Mem → XA) (a0 : Option Nat) (a1 : Int32) (a2 : Int32) (M0 : Mem) : XA :=
  gtI (13, 157) M0 a0 41 fun x1 =>
  jn (fun (s2 : Mem) =>
    some (.null, s2)) fun j17 =>
  if x1 = 0 then (
    ptI (13, 157) M0 a0 41 a1 fun M3 =>
    ptI (13, 157) M3 a0 42 a2 fun M4 =>
    j17 M4) else (
    j17 M0)
def b192 (rec : Nat → List Value → Mem → XA) (as : List Value) (M0 : Mem) : XA := aR as fun a0 as => aI as fun a1 as => aI as fun a2 as => aZ as (c192 rec a0 a1 a2 M0)
set_option maxRecDepth 100000 in
set_option maxHeartbeats 4000000 in
theorem k192 {S : XS} {G : XG} {K : Nat × Nat} {l : Launch} {d : Nat} {rec : Nat → List Value → Mem → XA} (hs : XSnd l xmt rec d) (a0 : Option Nat) (a1 : Int32) (a2 : Int32) (M0 : Mem) : Xe S G K l (yX12_fail, cX12_fail, 3, none) d 0 [some (va_rf a0), some (.int a1), some (.int a2)] [] M0 (c192 rec a0 a1 a2 M0) := by
  unfold c192
  refine x_aload_n dX12_fail_0 rfl ?_
  refine gfX12_395 rfl dX12_fail_1 (fun x1 => ?_)
  refine x_jn (σ := Mem) 17 (fun s2 => [none, none, none]) (fun s2 => []) (fun s2 => s2) (fun s2 => ?_) (fun j17 hj17 => ?_)
  · exact x_vret rfl dX12_fail_17
  refine x_if_ne (tgt := 17) dX12_fail_4 (by decide) (fun _ => ?_) (fun _ => ?_)
  · refine x_aload_n dX12_fail_7 rfl ?_
    refine x_iload_n dX12_fail_8 rfl ?_
    refine pfX12_395 rfl dX12_fail_9 (fun M3 => ?_)
    refine x_aload_n dX12_fail_12 rfl ?_
    refine x_iload_n dX12_fail_13 rfl ?_
    refine pfX12_425 rfl dX12_fail_14 (fun M4 => ?_)
    exact x_weak (by exact trivial) (hj17 M4)
  · exact x_weak (by exact trivial) (hj17 M0)
theorem s192 {l : Launch} {d : Nat} {rec : Nat → List Value → Mem → XA} (hS : Nonempty XS) (hs : XSnd l xmt rec d) : Snd1 l 192 (b192 rec) d := by
  intro as M r M' h0
  unfold b192 at h0
  obtain ⟨a0, l1, e1, h1⟩ := aR_inv h0
  obtain ⟨a1, l2, e2, h2⟩ := aI_inv h1
  obtain ⟨a2, l3, e3, h3⟩ := aI_inv h2
  obtain ⟨ez, h⟩ := aZ_inv h3
  subst ez
  subst e3
  subst e2
  subst e1
  exact xmet (M := M) (as := [va_rf a0, .int a1, .int a2]) (lo := [some (va_rf a0), some (.int a1), some (.int a2)]) 192 xq192 xm192 (by rw [xargs_rf, xargs_i, xargs_i, xargs_nil]; exact ⟨rfl, ⟨rfl, ⟨rfl, trivial⟩⟩⟩) (by rw [xargs_rf, xargs_i, xargs_i, xargs_nil]; exact Nat.le_of_ble_eq_true rfl) (fun S G K => x_weak (by exact ⟨rfl, ⟨rfl, ⟨rfl, trivial⟩⟩⟩) (k192 hs a0 a1 a2 M)) h hS
set_option maxRecDepth 100000 in
def c193 (rec : Nat → List Value → Mem → XA) (a0 : Option Nat) (a1 : Int32) (M0 : Mem) : XA :=
  jn (fun (s1 : Mem) =>
    gtI (13, 157) s1 a0 41 fun x2 =>
    jn (fun (s3 : Int32) =>
      rtZ s3 s1) fun j45 =>
    if x2 = 0 then (
      j45 ((1 : Int32))) else (
      j45 ((0 : Int32)))) fun j33 =>
  jn (fun (s4 : Unit) =>
    gtI (13, 157) M0 a0 36 fun x5 =>
    jn (fun (s6 : Int32) =>
      gtI (13, 157) M0 a0 37 fun x7 =>
      vC (13, 157) M0 a0 <|
      cV (rec 192 [va_rf a0, .int s6, .int x7] M0) fun M8 =>
      j33 M8) fun j26 =>
    if x5 = ((-1 : Int32)) then (
      j26 ((1 : Int32))) else (
      j26 ((2 : Int32)))) fun j12 =>
  if a1 = 0 then (
    j12 ()) else (
    gtI (13, 157) M0 a0 36 fun x9 =>
    if x9 = ((-1 : Int32)) then (
      j12 ()) else (
      j33 M0))
def b193 (rec : Nat → List Value → Mem → XA) (as : List Value) (M0 : Mem) : XA := aR as fun a0 as => aI as fun a1 as => aZ as (c193 rec a0 a1 M0)
set_option maxRecDepth 100000 in
set_option maxHeartbeats 4000000 in
theorem k193 {S : XS} {G : XG} {K : Nat × Nat} {l : Launch} {d : Nat} {rec : Nat → List Value → Mem → XA} (hs : XSnd l xmt rec d) (a0 : Option Nat) (a1 : Int32) (M0 : Mem) : Xe S G K l (yX12_must, cX12_must, 2, some .boolean) d 0 [some (va_rf a0), some (.int a1)] [] M0 (c193 rec a0 a1 M0) := by
  unfold c193
  refine x_iload_n dX12_must_0 rfl ?_
  refine x_jn (σ := Mem) 33 (fun s1 => [some (va_rf a0), none]) (fun s1 => []) (fun s1 => s1) (fun s1 => ?_) (fun j33 hj33 => ?_)
  · refine x_aload_n dX12_must_33 rfl ?_
    refine gfX12_395 rfl dX12_must_34 (fun x2 => ?_)
    refine x_jn (σ := Int32) 45 (fun s3 => [none, none]) (fun s3 => [.int s3]) (fun s3 => s1) (fun s3 => ?_) (fun j45 hj45 => ?_)
    · exact x_zret rfl dX12_must_45
    refine x_if_ne (tgt := 44) dX12_must_37 (by decide) (fun _ => ?_) (fun _ => ?_)
    · refine x_iconst (v := 1) dX12_must_40 (by decide) ?_
      refine x_goto (tgt := 45) dX12_must_41 (by decide) ?_
      exact x_weak (by exact trivial) (hj45 ((1 : Int32)))
    · refine x_iconst (v := 0) dX12_must_44 (by decide) ?_
      exact x_weak (by exact trivial) (hj45 ((0 : Int32)))
  refine x_jn (σ := Unit) 12 (fun s4 => [some (va_rf a0), none]) (fun s4 => []) (fun s4 => M0) (fun s4 => ?_) (fun j12 hj12 => ?_)
  · refine x_aload_n dX12_must_12 rfl ?_
    refine x_aload_n dX12_must_13 rfl ?_
    refine gfX12_408 rfl dX12_must_14 (fun x5 => ?_)
    refine x_iconst (v := -1) dX12_must_17 (by decide) ?_
    refine x_jn (σ := Int32) 26 (fun s6 => [some (va_rf a0), none]) (fun s6 => [.int s6, va_rf a0]) (fun s6 => M0) (fun s6 => ?_) (fun j26 hj26 => ?_)
    · refine x_aload_n dX12_must_26 rfl ?_
      refine gfX12_405 rfl dX12_must_27 (fun x7 => ?_)
      refine cmX12_428 rfl hs (Nat.le_of_ble_eq_true rfl) dX12_must_30 (fun M8 => ?_)
      exact x_weak (by exact ⟨rfl, trivial⟩) (hj33 M8)
    refine x_icmp_ne (tgt := 25) dX12_must_18 (by decide) (fun _ => ?_) (fun _ => ?_)
    · refine x_iconst (v := 1) dX12_must_21 (by decide) ?_
      refine x_goto (tgt := 26) dX12_must_22 (by decide) ?_
      exact x_weak (by exact ⟨rfl, trivial⟩) (hj26 ((1 : Int32)))
    · refine x_iconst (v := 2) dX12_must_25 (by decide) ?_
      exact x_weak (by exact ⟨rfl, trivial⟩) (hj26 ((2 : Int32)))
  refine x_if_eq (tgt := 12) dX12_must_1 (by decide) (fun _ => ?_) (fun _ => ?_)
  · exact x_weak (by exact ⟨rfl, trivial⟩) (hj12 ())
  · refine x_aload_n dX12_must_4 rfl ?_
    refine gfX12_408 rfl dX12_must_5 (fun x9 => ?_)
    refine x_iconst (v := -1) dX12_must_8 (by decide) ?_
    refine x_icmp_ne (tgt := 33) dX12_must_9 (by decide) (fun _ => ?_) (fun _ => ?_)
    · exact x_weak (by exact ⟨rfl, trivial⟩) (hj12 ())
    · exact x_weak (by exact ⟨rfl, trivial⟩) (hj33 M0)
theorem s193 {l : Launch} {d : Nat} {rec : Nat → List Value → Mem → XA} (hS : Nonempty XS) (hs : XSnd l xmt rec d) : Snd1 l 193 (b193 rec) d := by
  intro as M r M' h0
  unfold b193 at h0
  obtain ⟨a0, l1, e1, h1⟩ := aR_inv h0
  obtain ⟨a1, l2, e2, h2⟩ := aI_inv h1
  obtain ⟨ez, h⟩ := aZ_inv h2
  subst ez
  subst e2
  subst e1
  exact xmet (M := M) (as := [va_rf a0, .int a1]) (lo := [some (va_rf a0), some (.int a1)]) 193 xq193 xm193 (by rw [xargs_rf, xargs_i, xargs_nil]; exact ⟨rfl, ⟨rfl, trivial⟩⟩) (by rw [xargs_rf, xargs_i, xargs_nil]; exact Nat.le_of_ble_eq_true rfl) (fun S G K => x_weak (by exact ⟨rfl, ⟨rfl, trivial⟩⟩) (k193 hs a0 a1 M)) h hS
set_option maxRecDepth 100000 in
def c194 (rec : Nat → List Value → Mem → XA) (a0 : Option Nat) (a1 : Int32) (a2 : Int32) (M0 : Mem) : XA :=
  jn (fun (s1 : Mem) =>
    gtI (13, 157) s1 a0 41 fun x2 =>
    jn (fun (s3 : Int32) =>
      rtZ s3 s1) fun j25 =>
    if x2 = 0 then (
      j25 ((1 : Int32))) else (
      j25 ((0 : Int32)))) fun j13 =>
  if a1 = 0 then (
    gtI (13, 157) M0 a0 37 fun x4 =>
    vC (13, 157) M0 a0 <|
    cV (rec 192 [va_rf a0, .int a2, .int x4] M0) fun M5 =>
    j13 M5) else (
    j13 M0)
def b194 (rec : Nat → List Value → Mem → XA) (as : List Value) (M0 : Mem) : XA := aR as fun a0 as => aI as fun a1 as => aI as fun a2 as => aZ as (c194 rec a0 a1 a2 M0)
set_option maxRecDepth 100000 in
set_option maxHeartbeats 4000000 in
theorem k194 {S : XS} {G : XG} {K : Nat × Nat} {l : Launch} {d : Nat} {rec : Nat → List Value → Mem → XA} (hs : XSnd l xmt rec d) (a0 : Option Nat) (a1 : Int32) (a2 : Int32) (M0 : Mem) : Xe S G K l (yX12_want, cX12_want, 3, some .boolean) d 0 [some (va_rf a0), some (.int a1), some (.int a2)] [] M0 (c194 rec a0 a1 a2 M0) := by
  unfold c194
  refine x_iload_n dX12_want_0 rfl ?_
  refine x_jn (σ := Mem) 13 (fun s1 => [some (va_rf a0), none, none]) (fun s1 => []) (fun s1 => s1) (fun s1 => ?_) (fun j13 hj13 => ?_)
  · refine x_aload_n dX12_want_13 rfl ?_
    refine gfX12_395 rfl dX12_want_14 (fun x2 => ?_)
    refine x_jn (σ := Int32) 25 (fun s3 => [none, none, none]) (fun s3 => [.int s3]) (fun s3 => s1) (fun s3 => ?_) (fun j25 hj25 => ?_)
    · exact x_zret rfl dX12_want_25
    refine x_if_ne (tgt := 24) dX12_want_17 (by decide) (fun _ => ?_) (fun _ => ?_)
    · refine x_iconst (v := 1) dX12_want_20 (by decide) ?_
      refine x_goto (tgt := 25) dX12_want_21 (by decide) ?_
      exact x_weak (by exact trivial) (hj25 ((1 : Int32)))
    · refine x_iconst (v := 0) dX12_want_24 (by decide) ?_
      exact x_weak (by exact trivial) (hj25 ((0 : Int32)))
  refine x_if_ne (tgt := 13) dX12_want_1 (by decide) (fun _ => ?_) (fun _ => ?_)
  · refine x_aload_n dX12_want_4 rfl ?_
    refine x_iload_n dX12_want_5 rfl ?_
    refine x_aload_n dX12_want_6 rfl ?_
    refine gfX12_405 rfl dX12_want_7 (fun x4 => ?_)
    refine cmX12_428 rfl hs (Nat.le_of_ble_eq_true rfl) dX12_want_10 (fun M5 => ?_)
    exact x_weak (by exact ⟨rfl, trivial⟩) (hj13 M5)
  · exact x_weak (by exact ⟨rfl, trivial⟩) (hj13 M0)
theorem s194 {l : Launch} {d : Nat} {rec : Nat → List Value → Mem → XA} (hS : Nonempty XS) (hs : XSnd l xmt rec d) : Snd1 l 194 (b194 rec) d := by
  intro as M r M' h0
  unfold b194 at h0
  obtain ⟨a0, l1, e1, h1⟩ := aR_inv h0
  obtain ⟨a1, l2, e2, h2⟩ := aI_inv h1
  obtain ⟨a2, l3, e3, h3⟩ := aI_inv h2
  obtain ⟨ez, h⟩ := aZ_inv h3
  subst ez
  subst e3
  subst e2
  subst e1
  exact xmet (M := M) (as := [va_rf a0, .int a1, .int a2]) (lo := [some (va_rf a0), some (.int a1), some (.int a2)]) 194 xq194 xm194 (by rw [xargs_rf, xargs_i, xargs_i, xargs_nil]; exact ⟨rfl, ⟨rfl, ⟨rfl, trivial⟩⟩⟩) (by rw [xargs_rf, xargs_i, xargs_i, xargs_nil]; exact Nat.le_of_ble_eq_true rfl) (fun S G K => x_weak (by exact ⟨rfl, ⟨rfl, ⟨rfl, trivial⟩⟩⟩) (k194 hs a0 a1 a2 M)) h hS
set_option maxRecDepth 100000 in
def c195 (rec : Nat → List Value → Mem → XA) (a0 : Option Nat) (a1 : Int32) (M0 : Mem) : XA :=
  gtI (13, 157) M0 a0 41 fun x1 =>
  jn (fun (s2 : Mem) =>
    gtI (13, 157) s2 a0 41 fun x3 =>
    jn (fun (s4 : Int32) =>
      rtZ s4 s2) fun j43 =>
    if x3 = 0 then (
      j43 ((1 : Int32))) else (
      j43 ((0 : Int32)))) fun j31 =>
  if x1 = 0 then (
    gtI (13, 157) M0 a0 36 fun x5 =>
    jn (fun (s6 : Int32) =>
      vC (13, 157) M0 a0 <|
      cI (rec 193 [va_rf a0, .int s6] M0) fun x8 M7 =>
      if x8 = 0 then (
        j31 M7) else (
        vC (13, 157) M7 a0 <|
        cV (rec 191 [va_rf a0] M7) fun M9 =>
        j31 M9)) fun j21 =>
    if x5 = a1 then (
      j21 ((1 : Int32))) else (
      j21 ((0 : Int32)))) else (
    j31 M0)
def b195 (rec : Nat → List Value → Mem → XA) (as : List Value) (M0 : Mem) : XA := aR as fun a0 as => aI as fun a1 as => aZ as (c195 rec a0 a1 M0)
set_option maxRecDepth 100000 in
set_option maxHeartbeats 4000000 in
theorem k195 {S : XS} {G : XG} {K : Nat × Nat} {l : Launch} {d : Nat} {rec : Nat → List Value → Mem → XA} (hs : XSnd l xmt rec d) (a0 : Option Nat) (a1 : Int32) (M0 : Mem) : Xe S G K l (yX12_need, cX12_need, 2, some .boolean) d 0 [some (va_rf a0), some (.int a1)] [] M0 (c195 rec a0 a1 M0) := by
  unfold c195
  refine x_aload_n dX12_need_0 rfl ?_
  refine gfX12_395 rfl dX12_need_1 (fun x1 => ?_)
  refine x_jn (σ := Mem) 31 (fun s2 => [some (va_rf a0), none]) (fun s2 => []) (fun s2 => s2) (fun s2 => ?_) (fun j31 hj31 => ?_)
  · refine x_aload_n dX12_need_31 rfl ?_
    refine gfX12_395 rfl dX12_need_32 (fun x3 => ?_)
    refine x_jn (σ := Int32) 43 (fun s4 => [none, none]) (fun s4 => [.int s4]) (fun s4 => s2) (fun s4 => ?_) (fun j43 hj43 => ?_)
    · exact x_zret rfl dX12_need_43
    refine x_if_ne (tgt := 42) dX12_need_35 (by decide) (fun _ => ?_) (fun _ => ?_)
    · refine x_iconst (v := 1) dX12_need_38 (by decide) ?_
      refine x_goto (tgt := 43) dX12_need_39 (by decide) ?_
      exact x_weak (by exact trivial) (hj43 ((1 : Int32)))
    · refine x_iconst (v := 0) dX12_need_42 (by decide) ?_
      exact x_weak (by exact trivial) (hj43 ((0 : Int32)))
  refine x_if_ne (tgt := 31) dX12_need_4 (by decide) (fun _ => ?_) (fun _ => ?_)
  · refine x_aload_n dX12_need_7 rfl ?_
    refine x_aload_n dX12_need_8 rfl ?_
    refine gfX12_408 rfl dX12_need_9 (fun x5 => ?_)
    refine x_iload_n dX12_need_12 rfl ?_
    refine x_jn (σ := Int32) 21 (fun s6 => [some (va_rf a0), none]) (fun s6 => [.int s6, va_rf a0]) (fun s6 => M0) (fun s6 => ?_) (fun j21 hj21 => ?_)
    · refine cmX12_432 rfl hs (Nat.le_of_ble_eq_true rfl) dX12_need_21 (fun x8 M7 => ?_)
      refine x_if_eq (tgt := 31) dX12_need_24 (by decide) (fun _ => ?_) (fun _ => ?_)
      · exact x_weak (by exact ⟨rfl, trivial⟩) (hj31 M7)
      · refine x_aload_n dX12_need_27 rfl ?_
        refine cmX12_436 rfl hs (Nat.le_of_ble_eq_true rfl) dX12_need_28 (fun M9 => ?_)
        exact x_weak (by exact ⟨rfl, trivial⟩) (hj31 M9)
    refine x_icmp_ne (tgt := 20) dX12_need_13 (by decide) (fun _ => ?_) (fun _ => ?_)
    · refine x_iconst (v := 1) dX12_need_16 (by decide) ?_
      refine x_goto (tgt := 21) dX12_need_17 (by decide) ?_
      exact x_weak (by exact ⟨rfl, trivial⟩) (hj21 ((1 : Int32)))
    · refine x_iconst (v := 0) dX12_need_20 (by decide) ?_
      exact x_weak (by exact ⟨rfl, trivial⟩) (hj21 ((0 : Int32)))
  · exact x_weak (by exact ⟨rfl, trivial⟩) (hj31 M0)
theorem s195 {l : Launch} {d : Nat} {rec : Nat → List Value → Mem → XA} (hS : Nonempty XS) (hs : XSnd l xmt rec d) : Snd1 l 195 (b195 rec) d := by
  intro as M r M' h0
  unfold b195 at h0
  obtain ⟨a0, l1, e1, h1⟩ := aR_inv h0
  obtain ⟨a1, l2, e2, h2⟩ := aI_inv h1
  obtain ⟨ez, h⟩ := aZ_inv h2
  subst ez
  subst e2
  subst e1
  exact xmet (M := M) (as := [va_rf a0, .int a1]) (lo := [some (va_rf a0), some (.int a1)]) 195 xq195 xm195 (by rw [xargs_rf, xargs_i, xargs_nil]; exact ⟨rfl, ⟨rfl, trivial⟩⟩) (by rw [xargs_rf, xargs_i, xargs_nil]; exact Nat.le_of_ble_eq_true rfl) (fun S G K => x_weak (by exact ⟨rfl, ⟨rfl, trivial⟩⟩) (k195 hs a0 a1 M)) h hS
set_option maxRecDepth 100000 in
def c196 (rec : Nat → List Value → Mem → XA) (a0 : Option Nat) (a1 : Int32) (a2 : Int32) (M0 : Mem) : XA :=
  gtP (13, 157) M0 a0 44 fun x1 =>
  gtI (13, 157) M0 a0 43 fun x2 =>
  asI 101 M0 x1 x2 (a1.toInt8.toInt32.toInt8.toInt32) fun M3 =>
  gtP (13, 157) M3 a0 45 fun x4 =>
  gtI (13, 157) M3 a0 43 fun x5 =>
  asI 100 M3 x4 x5 a2 fun M6 =>
  gtP (13, 157) M6 a0 46 fun x7 =>
  gtI (13, 157) M6 a0 43 fun x8 =>
  gtI (13, 157) M6 a0 49 fun x9 =>
  asI 101 M6 x7 x8 (x9.toInt8.toInt32.toInt8.toInt32) fun M10 =>
  gtP (13, 157) M10 a0 47 fun x11 =>
  gtI (13, 157) M10 a0 43 fun x12 =>
  gtI (13, 157) M10 a0 48 fun x13 =>
  asI 102 M10 x11 x12 ((znar x13)) fun M14 =>
  gtI (13, 157) M14 a0 43 fun x15 =>
  ptI (13, 157) M14 a0 43 (x15 + ((1 : Int32))) fun M16 =>
  gtI (13, 157) M16 a0 43 fun x17 =>
  some (.int (x17 - ((1 : Int32))), M16)
def b196 (rec : Nat → List Value → Mem → XA) (as : List Value) (M0 : Mem) : XA := aR as fun a0 as => aI as fun a1 as => aI as fun a2 as => aZ as (c196 rec a0 a1 a2 M0)
set_option maxRecDepth 100000 in
set_option maxHeartbeats 4000000 in
theorem k196 {S : XS} {G : XG} {K : Nat × Nat} {l : Launch} {d : Nat} {rec : Nat → List Value → Mem → XA} (hs : XSnd l xmt rec d) (a0 : Option Nat) (a1 : Int32) (a2 : Int32) (M0 : Mem) : Xe S G K l (yX12_emit, cX12_emit, 3, some .int) d 0 [some (va_rf a0), some (.int a1), some (.int a2)] [] M0 (c196 rec a0 a1 a2 M0) := by
  unfold c196
  refine x_aload_n dX12_emit_0 rfl ?_
  refine gfX12_176 rfl dX12_emit_1 (fun x1 => ?_)
  refine x_aload_n dX12_emit_4 rfl ?_
  refine gfX12_439 rfl dX12_emit_5 (fun x2 => ?_)
  refine x_iload_n dX12_emit_8 rfl ?_
  refine x_i2b dX12_emit_9 ?_
  refine x_bast dX12_emit_10 (fun M3 => ?_)
  refine x_aload_n dX12_emit_11 rfl ?_
  refine gfX12_179 rfl dX12_emit_12 (fun x4 => ?_)
  refine x_aload_n dX12_emit_15 rfl ?_
  refine gfX12_439 rfl dX12_emit_16 (fun x5 => ?_)
  refine x_iload_n dX12_emit_19 rfl ?_
  refine x_iast dX12_emit_20 (fun M6 => ?_)
  refine x_aload_n dX12_emit_21 rfl ?_
  refine gfX12_182 rfl dX12_emit_22 (fun x7 => ?_)
  refine x_aload_n dX12_emit_25 rfl ?_
  refine gfX12_439 rfl dX12_emit_26 (fun x8 => ?_)
  refine x_aload_n dX12_emit_29 rfl ?_
  refine gfX12_442 rfl dX12_emit_30 (fun x9 => ?_)
  refine x_i2b dX12_emit_33 ?_
  refine x_bast dX12_emit_34 (fun M10 => ?_)
  refine x_aload_n dX12_emit_35 rfl ?_
  refine gfX12_185 rfl dX12_emit_36 (fun x11 => ?_)
  refine x_aload_n dX12_emit_39 rfl ?_
  refine gfX12_439 rfl dX12_emit_40 (fun x12 => ?_)
  refine x_aload_n dX12_emit_43 rfl ?_
  refine gfX12_444 rfl dX12_emit_44 (fun x13 => ?_)
  refine x_zast dX12_emit_47 (fun M14 => ?_)
  refine x_aload_n dX12_emit_48 rfl ?_
  refine x_dup dX12_emit_49 (xc1_r _) ?_
  refine gfX12_439 rfl dX12_emit_50 (fun x15 => ?_)
  refine x_iconst (v := 1) dX12_emit_53 (by decide) ?_
  refine x_iadd dX12_emit_54 ?_
  refine pfX12_439 rfl dX12_emit_55 (fun M16 => ?_)
  refine x_aload_n dX12_emit_58 rfl ?_
  refine gfX12_439 rfl dX12_emit_59 (fun x17 => ?_)
  refine x_iconst (v := 1) dX12_emit_62 (by decide) ?_
  refine x_isub dX12_emit_63 ?_
  exact x_iret rfl dX12_emit_64
theorem s196 {l : Launch} {d : Nat} {rec : Nat → List Value → Mem → XA} (hS : Nonempty XS) (hs : XSnd l xmt rec d) : Snd1 l 196 (b196 rec) d := by
  intro as M r M' h0
  unfold b196 at h0
  obtain ⟨a0, l1, e1, h1⟩ := aR_inv h0
  obtain ⟨a1, l2, e2, h2⟩ := aI_inv h1
  obtain ⟨a2, l3, e3, h3⟩ := aI_inv h2
  obtain ⟨ez, h⟩ := aZ_inv h3
  subst ez
  subst e3
  subst e2
  subst e1
  exact xmet (M := M) (as := [va_rf a0, .int a1, .int a2]) (lo := [some (va_rf a0), some (.int a1), some (.int a2)]) 196 xq196 xm196 (by rw [xargs_rf, xargs_i, xargs_i, xargs_nil]; exact ⟨rfl, ⟨rfl, ⟨rfl, trivial⟩⟩⟩) (by rw [xargs_rf, xargs_i, xargs_i, xargs_nil]; exact Nat.le_of_ble_eq_true rfl) (fun S G K => x_weak (by exact ⟨rfl, ⟨rfl, ⟨rfl, trivial⟩⟩⟩) (k196 hs a0 a1 a2 M)) h hS
set_option maxRecDepth 100000 in
def c197_2 (rec : Nat → List Value → Mem → XA) (a0 : Option Nat) (a1 : Int64) (M0 : Mem) (j21 : Int32 → XA) (j29 : Unit → XA) : (Int32) → ((Int32) → XA) → XA := fun s3 j2 =>
  gtI (13, 157) M0 a0 51 fun x4 =>
  if x4 ≤ s3 then (
    j29 ()) else (
    gtP (13, 157) M0 a0 52 fun x5 =>
    alL M0 x5 s3 fun x6 =>
    if (lg_cmp x6 a1) = 0 then (
      j21 s3) else (
      lt (s3 + (1 : Int32)) fun (x7 : Int32) =>
      j2 x7))
set_option maxRecDepth 100000 in
def c197 (rec : Nat → List Value → Mem → XA) (a0 : Option Nat) (a1 : Int64) (M0 : Mem) : XA :=
  jn (fun (s1 : Int32) =>
    some (.int s1, M0)) fun j21 =>
  jn (fun (s2 : Unit) =>
    some (.int ((-1 : Int32)), M0)) fun j29 =>
  lp (c197_2 rec a0 a1 M0 j21 j29) 4294967296 ((0 : Int32))
def b197 (rec : Nat → List Value → Mem → XA) (as : List Value) (M0 : Mem) : XA := aR as fun a0 as => aL as fun a1 as => aZ as (c197 rec a0 a1 M0)
set_option maxRecDepth 100000 in
set_option maxHeartbeats 4000000 in
theorem k197 {S : XS} {G : XG} {K : Nat × Nat} {l : Launch} {d : Nat} {rec : Nat → List Value → Mem → XA} (hs : XSnd l xmt rec d) (a0 : Option Nat) (a1 : Int64) (M0 : Mem) : Xe S G K l (yX12_seenAs, cX12_seenAs, 4, some .int) d 0 [some (va_rf a0), some (.long a1), none, none] [] M0 (c197 rec a0 a1 M0) := by
  unfold c197
  refine x_iconst (v := 0) dX12_seenAs_0 (by decide) ?_
  refine x_istore_n (lo' := [some (va_rf a0), some (.long a1), none, some (.int ((0 : Int32)))]) dX12_seenAs_1 (by decide) rfl rfl ?_
  refine x_jn (σ := Int32) 21 (fun s1 => [none, none, none, some (.int s1)]) (fun s1 => []) (fun s1 => M0) (fun s1 => ?_) (fun j21 hj21 => ?_)
  · refine x_iload_n dX12_seenAs_21 rfl ?_
    exact x_iret rfl dX12_seenAs_22
  refine x_jn (σ := Unit) 29 (fun s2 => [none, none, none, none]) (fun s2 => []) (fun s2 => M0) (fun s2 => ?_) (fun j29 hj29 => ?_)
  · refine x_iconst (v := -1) dX12_seenAs_29 (by decide) ?_
    exact x_iret rfl dX12_seenAs_30
  refine x_weak (by exact ⟨rfl, ⟨rfl, ⟨rfl, trivial⟩⟩⟩) (x_lp (σ := Int32) 2 (fun s3 => [some (va_rf a0), some (.long a1), none, some (.int s3)]) (fun s3 => []) (fun s3 => M0) (fun s3 j2 hj2 => ?_) 4294967296 ((0 : Int32)))
  · refine x_iload_n dX12_seenAs_2 rfl ?_
    refine x_aload_n dX12_seenAs_3 rfl ?_
    refine gfX12_448 rfl dX12_seenAs_4 (fun x4 => ?_)
    refine x_icmp_ge (tgt := 29) dX12_seenAs_7 (by decide) (fun _ => ?_) (fun _ => ?_)
    · exact x_weak (by exact trivial) (hj29 ())
    · refine x_aload_n dX12_seenAs_10 rfl ?_
      refine gfX12_188 rfl dX12_seenAs_11 (fun x5 => ?_)
      refine x_iload_n dX12_seenAs_14 rfl ?_
      refine x_lald dX12_seenAs_15 (fun x6 => ?_)
      refine x_lload_n dX12_seenAs_16 rfl ?_
      refine x_lcmp dX12_seenAs_17 ?_
      refine x_if_ne (tgt := 23) dX12_seenAs_18 (by decide) (fun _ => ?_) (fun _ => ?_)
      · exact x_weak (by exact ⟨rfl, trivial⟩) (hj21 s3)
      · refine x_iincN (v := 1) (lo' := fun x7 => [some (va_rf a0), some (.long a1), none, some (.int x7)]) (by decide) dX12_seenAs_23 rfl (by decide) rfl (fun _ => rfl) (fun x7 => ?_)
        refine x_goto (tgt := 2) dX12_seenAs_26 (by decide) ?_
        exact x_weak (by exact ⟨rfl, ⟨rfl, ⟨rfl, trivial⟩⟩⟩) (hj2 x7)
theorem s197 {l : Launch} {d : Nat} {rec : Nat → List Value → Mem → XA} (hS : Nonempty XS) (hs : XSnd l xmt rec d) : Snd1 l 197 (b197 rec) d := by
  intro as M r M' h0
  unfold b197 at h0
  obtain ⟨a0, l1, e1, h1⟩ := aR_inv h0
  obtain ⟨a1, l2, e2, h2⟩ := aL_inv h1
  obtain ⟨ez, h⟩ := aZ_inv h2
  subst ez
  subst e2
  subst e1
  exact xmet (M := M) (as := [va_rf a0, .long a1]) (lo := [some (va_rf a0), some (.long a1)]) 197 xq197 xm197 (by rw [xargs_rf, xargs_l, xargs_nil]; exact ⟨rfl, ⟨rfl, trivial⟩⟩) (by rw [xargs_rf, xargs_l, xargs_nil]; exact Nat.le_of_ble_eq_true rfl) (fun S G K => x_weak (by exact ⟨rfl, ⟨rfl, trivial⟩⟩) (k197 hs a0 a1 M)) h hS
set_option maxRecDepth 100000 in
def c198 (rec : Nat → List Value → Mem → XA) (a0 : Option Nat) (M0 : Mem) : XA :=
  gtI (13, 157) M0 a0 41 fun x1 =>
  jn (fun (s2 : Int32 × Mem) =>
    rtZ s2.1 s2.2) fun j79 =>
  jn (fun (s3 : Mem) =>
    j79 ((0 : Int32), s3)) fun j78 =>
  if x1 = 0 then (
    gtI (13, 157) M0 a0 36 fun x4 =>
    jn (fun (s5 : Int32) =>
      vC (13, 157) M0 a0 <|
      cI (rec 193 [va_rf a0, .int s5] M0) fun x7 M6 =>
      if x7 = 0 then (
        j78 M6) else (
        gtL (13, 157) M6 a0 39 fun x8 =>
        vC (13, 157) M6 a0 <|
        cI (rec 197 [va_rf a0, .long x8] M6) fun x10 M9 =>
        jn (fun (s11 : Int32) =>
          vC (13, 157) M9 a0 <|
          cI (rec 194 [va_rf a0, .int s11, .int ((3 : Int32))] M9) fun x13 M12 =>
          if x13 = 0 then (
            j78 M12) else (
            gtI (13, 157) M12 a0 51 fun x14 =>
            jn (fun (s15 : Int32) =>
              vC (13, 157) M12 a0 <|
              cI (rec 194 [va_rf a0, .int s15, .int ((6 : Int32))] M12) fun x17 M16 =>
              if x17 = 0 then (
                j78 M16) else (
                j79 ((1 : Int32), M16))) fun j66 =>
            if ((10 : Int32)) ≤ x14 then (
              j66 ((0 : Int32))) else (
              j66 ((1 : Int32))))) fun j44 =>
        if 0 ≤ x10 then (
          j44 ((0 : Int32))) else (
          j44 ((1 : Int32))))) fun j21 =>
    if x4 = ((1 : Int32)) then (
      j21 ((1 : Int32))) else (
      j21 ((0 : Int32)))) else (
    j78 M0)
def b198 (rec : Nat → List Value → Mem → XA) (as : List Value) (M0 : Mem) : XA := aR as fun a0 as => aZ as (c198 rec a0 M0)
set_option maxRecDepth 100000 in
set_option maxHeartbeats 4000000 in
theorem k198 {S : XS} {G : XG} {K : Nat × Nat} {l : Launch} {d : Nat} {rec : Nat → List Value → Mem → XA} (hs : XSnd l xmt rec d) (a0 : Option Nat) (M0 : Mem) : Xe S G K l (yX12_mayBeSeen, cX12_mayBeSeen, 1, some .boolean) d 0 [some (va_rf a0)] [] M0 (c198 rec a0 M0) := by
  unfold c198
  refine x_aload_n dX12_mayBeSeen_0 rfl ?_
  refine gfX12_395 rfl dX12_mayBeSeen_1 (fun x1 => ?_)
  refine x_jn (σ := Int32 × Mem) 79 (fun s2 => [none]) (fun s2 => [.int s2.1]) (fun s2 => s2.2) (fun s2 => ?_) (fun j79 hj79 => ?_)
  · exact x_zret rfl dX12_mayBeSeen_79
  refine x_jn (σ := Mem) 78 (fun s3 => [none]) (fun s3 => []) (fun s3 => s3) (fun s3 => ?_) (fun j78 hj78 => ?_)
  · refine x_iconst (v := 0) dX12_mayBeSeen_78 (by decide) ?_
    exact x_weak (by exact trivial) (hj79 ((0 : Int32), s3))
  refine x_if_ne (tgt := 78) dX12_mayBeSeen_4 (by decide) (fun _ => ?_) (fun _ => ?_)
  · refine x_aload_n dX12_mayBeSeen_7 rfl ?_
    refine x_aload_n dX12_mayBeSeen_8 rfl ?_
    refine gfX12_408 rfl dX12_mayBeSeen_9 (fun x4 => ?_)
    refine x_iconst (v := 1) dX12_mayBeSeen_12 (by decide) ?_
    refine x_jn (σ := Int32) 21 (fun s5 => [some (va_rf a0)]) (fun s5 => [.int s5, va_rf a0]) (fun s5 => M0) (fun s5 => ?_) (fun j21 hj21 => ?_)
    · refine cmX12_432 rfl hs (Nat.le_of_ble_eq_true rfl) dX12_mayBeSeen_21 (fun x7 M6 => ?_)
      refine x_if_eq (tgt := 78) dX12_mayBeSeen_24 (by decide) (fun _ => ?_) (fun _ => ?_)
      · exact x_weak (by exact trivial) (hj78 M6)
      · refine x_aload_n dX12_mayBeSeen_27 rfl ?_
        refine x_aload_n dX12_mayBeSeen_28 rfl ?_
        refine x_aload_n dX12_mayBeSeen_29 rfl ?_
        refine gfX12_415 rfl dX12_mayBeSeen_30 (fun x8 => ?_)
        refine cmX12_451 rfl hs (Nat.le_of_ble_eq_true rfl) dX12_mayBeSeen_33 (fun x10 M9 => ?_)
        refine x_jn (σ := Int32) 44 (fun s11 => [some (va_rf a0)]) (fun s11 => [.int s11, va_rf a0]) (fun s11 => M9) (fun s11 => ?_) (fun j44 hj44 => ?_)
        · refine x_iconst (v := 3) dX12_mayBeSeen_44 (by decide) ?_
          refine cmX12_455 rfl hs (Nat.le_of_ble_eq_true rfl) dX12_mayBeSeen_45 (fun x13 M12 => ?_)
          refine x_if_eq (tgt := 78) dX12_mayBeSeen_48 (by decide) (fun _ => ?_) (fun _ => ?_)
          · exact x_weak (by exact trivial) (hj78 M12)
          · refine x_aload_n dX12_mayBeSeen_51 rfl ?_
            refine x_aload_n dX12_mayBeSeen_52 rfl ?_
            refine gfX12_448 rfl dX12_mayBeSeen_53 (fun x14 => ?_)
            refine x_bipush (v := 10) dX12_mayBeSeen_56 (by decide) ?_
            refine x_jn (σ := Int32) 66 (fun s15 => [none]) (fun s15 => [.int s15, va_rf a0]) (fun s15 => M12) (fun s15 => ?_) (fun j66 hj66 => ?_)
            · refine x_bipush (v := 6) dX12_mayBeSeen_66 (by decide) ?_
              refine cmX12_455 rfl hs (Nat.le_of_ble_eq_true rfl) dX12_mayBeSeen_68 (fun x17 M16 => ?_)
              refine x_if_eq (tgt := 78) dX12_mayBeSeen_71 (by decide) (fun _ => ?_) (fun _ => ?_)
              · exact x_weak (by exact trivial) (hj78 M16)
              · refine x_iconst (v := 1) dX12_mayBeSeen_74 (by decide) ?_
                refine x_goto (tgt := 79) dX12_mayBeSeen_75 (by decide) ?_
                exact x_weak (by exact trivial) (hj79 ((1 : Int32), M16))
            refine x_icmp_ge (tgt := 65) dX12_mayBeSeen_58 (by decide) (fun _ => ?_) (fun _ => ?_)
            · refine x_iconst (v := 0) dX12_mayBeSeen_65 (by decide) ?_
              exact x_weak (by exact trivial) (hj66 ((0 : Int32)))
            · refine x_iconst (v := 1) dX12_mayBeSeen_61 (by decide) ?_
              refine x_goto (tgt := 66) dX12_mayBeSeen_62 (by decide) ?_
              exact x_weak (by exact trivial) (hj66 ((1 : Int32)))
        refine x_if_ge (tgt := 43) dX12_mayBeSeen_36 (by decide) (fun _ => ?_) (fun _ => ?_)
        · refine x_iconst (v := 0) dX12_mayBeSeen_43 (by decide) ?_
          exact x_weak (by exact ⟨rfl, trivial⟩) (hj44 ((0 : Int32)))
        · refine x_iconst (v := 1) dX12_mayBeSeen_39 (by decide) ?_
          refine x_goto (tgt := 44) dX12_mayBeSeen_40 (by decide) ?_
          exact x_weak (by exact ⟨rfl, trivial⟩) (hj44 ((1 : Int32)))
    refine x_icmp_ne (tgt := 20) dX12_mayBeSeen_13 (by decide) (fun _ => ?_) (fun _ => ?_)
    · refine x_iconst (v := 1) dX12_mayBeSeen_16 (by decide) ?_
      refine x_goto (tgt := 21) dX12_mayBeSeen_17 (by decide) ?_
      exact x_weak (by exact ⟨rfl, trivial⟩) (hj21 ((1 : Int32)))
    · refine x_iconst (v := 0) dX12_mayBeSeen_20 (by decide) ?_
      exact x_weak (by exact ⟨rfl, trivial⟩) (hj21 ((0 : Int32)))
  · exact x_weak (by exact trivial) (hj78 M0)
theorem s198 {l : Launch} {d : Nat} {rec : Nat → List Value → Mem → XA} (hS : Nonempty XS) (hs : XSnd l xmt rec d) : Snd1 l 198 (b198 rec) d := by
  intro as M r M' h0
  unfold b198 at h0
  obtain ⟨a0, l1, e1, h1⟩ := aR_inv h0
  obtain ⟨ez, h⟩ := aZ_inv h1
  subst ez
  subst e1
  exact xmet (M := M) (as := [va_rf a0]) (lo := [some (va_rf a0)]) 198 xq198 xm198 (by rw [xargs_rf, xargs_nil]; exact ⟨rfl, trivial⟩) (by rw [xargs_rf, xargs_nil]; exact Nat.le_of_ble_eq_true rfl) (fun S G K => x_weak (by exact ⟨rfl, trivial⟩) (k198 hs a0 M)) h hS
set_option maxRecDepth 100000 in
def c199 (rec : Nat → List Value → Mem → XA) (a0 : Option Nat) (a1 : Int64) (M0 : Mem) : XA :=
  gtI (13, 157) M0 a0 41 fun x1 =>
  jn (fun (s2 : Mem) =>
    some (.null, s2)) fun j27 =>
  if x1 = 0 then (
    gtP (13, 157) M0 a0 52 fun x3 =>
    gtI (13, 157) M0 a0 51 fun x4 =>
    asL M0 x3 x4 a1 fun M5 =>
    gtI (13, 157) M5 a0 51 fun x6 =>
    ptI (13, 157) M5 a0 51 (x6 + ((1 : Int32))) fun M7 =>
    j27 M7) else (
    j27 M0)
def b199 (rec : Nat → List Value → Mem → XA) (as : List Value) (M0 : Mem) : XA := aR as fun a0 as => aL as fun a1 as => aZ as (c199 rec a0 a1 M0)
set_option maxRecDepth 100000 in
set_option maxHeartbeats 4000000 in
theorem k199 {S : XS} {G : XG} {K : Nat × Nat} {l : Launch} {d : Nat} {rec : Nat → List Value → Mem → XA} (hs : XSnd l xmt rec d) (a0 : Option Nat) (a1 : Int64) (M0 : Mem) : Xe S G K l (yX12_see, cX12_see, 3, none) d 0 [some (va_rf a0), some (.long a1), none] [] M0 (c199 rec a0 a1 M0) := by
  unfold c199
  refine x_aload_n dX12_see_0 rfl ?_
  refine gfX12_395 rfl dX12_see_1 (fun x1 => ?_)
  refine x_jn (σ := Mem) 27 (fun s2 => [none, none, none]) (fun s2 => []) (fun s2 => s2) (fun s2 => ?_) (fun j27 hj27 => ?_)
  · exact x_vret rfl dX12_see_27
  refine x_if_ne (tgt := 27) dX12_see_4 (by decide) (fun _ => ?_) (fun _ => ?_)
  · refine x_aload_n dX12_see_7 rfl ?_
    refine gfX12_188 rfl dX12_see_8 (fun x3 => ?_)
    refine x_aload_n dX12_see_11 rfl ?_
    refine gfX12_448 rfl dX12_see_12 (fun x4 => ?_)
    refine x_lload_n dX12_see_15 rfl ?_
    refine x_last dX12_see_16 (fun M5 => ?_)
    refine x_aload_n dX12_see_17 rfl ?_
    refine x_dup dX12_see_18 (xc1_r _) ?_
    refine gfX12_448 rfl dX12_see_19 (fun x6 => ?_)
    refine x_iconst (v := 1) dX12_see_22 (by decide) ?_
    refine x_iadd dX12_see_23 ?_
    refine pfX12_448 rfl dX12_see_24 (fun M7 => ?_)
    exact x_weak (by exact trivial) (hj27 M7)
  · exact x_weak (by exact trivial) (hj27 M0)
theorem s199 {l : Launch} {d : Nat} {rec : Nat → List Value → Mem → XA} (hS : Nonempty XS) (hs : XSnd l xmt rec d) : Snd1 l 199 (b199 rec) d := by
  intro as M r M' h0
  unfold b199 at h0
  obtain ⟨a0, l1, e1, h1⟩ := aR_inv h0
  obtain ⟨a1, l2, e2, h2⟩ := aL_inv h1
  obtain ⟨ez, h⟩ := aZ_inv h2
  subst ez
  subst e2
  subst e1
  exact xmet (M := M) (as := [va_rf a0, .long a1]) (lo := [some (va_rf a0), some (.long a1)]) 199 xq199 xm199 (by rw [xargs_rf, xargs_l, xargs_nil]; exact ⟨rfl, ⟨rfl, trivial⟩⟩) (by rw [xargs_rf, xargs_l, xargs_nil]; exact Nat.le_of_ble_eq_true rfl) (fun S G K => x_weak (by exact ⟨rfl, ⟨rfl, trivial⟩⟩) (k199 hs a0 a1 M)) h hS
set_option maxRecDepth 100000 in
def c200 (rec : Nat → List Value → Mem → XA) (a0 : Option Nat) (M0 : Mem) : XA :=
  gtI (13, 157) M0 a0 50 fun x1 =>
  ptI (13, 157) M0 a0 50 (x1 + ((1 : Int32))) fun M2 =>
  gtI (13, 157) M2 a0 50 fun x3 =>
  jn (fun (s4 : Int32) =>
    vC (13, 157) M2 a0 <|
    cI (rec 194 [va_rf a0, .int s4, .int ((6 : Int32))] M2) fun x6 M5 =>
    rtZ x6 M5) fun j25 =>
  if ((20 : Int32)) < x3 then (
    j25 ((0 : Int32))) else (
    j25 ((1 : Int32)))
def b200 (rec : Nat → List Value → Mem → XA) (as : List Value) (M0 : Mem) : XA := aR as fun a0 as => aZ as (c200 rec a0 M0)
set_option maxRecDepth 100000 in
set_option maxHeartbeats 4000000 in
theorem k200 {S : XS} {G : XG} {K : Nat × Nat} {l : Launch} {d : Nat} {rec : Nat → List Value → Mem → XA} (hs : XSnd l xmt rec d) (a0 : Option Nat) (M0 : Mem) : Xe S G K l (yX12_opens, cX12_opens, 1, some .boolean) d 0 [some (va_rf a0)] [] M0 (c200 rec a0 M0) := by
  unfold c200
  refine x_aload_n dX12_opens_0 rfl ?_
  refine x_dup dX12_opens_1 (xc1_r _) ?_
  refine gfX12_459 rfl dX12_opens_2 (fun x1 => ?_)
  refine x_iconst (v := 1) dX12_opens_5 (by decide) ?_
  refine x_iadd dX12_opens_6 ?_
  refine pfX12_459 rfl dX12_opens_7 (fun M2 => ?_)
  refine x_aload_n dX12_opens_10 rfl ?_
  refine x_aload_n dX12_opens_11 rfl ?_
  refine gfX12_459 rfl dX12_opens_12 (fun x3 => ?_)
  refine x_bipush (v := 20) dX12_opens_15 (by decide) ?_
  refine x_jn (σ := Int32) 25 (fun s4 => [none]) (fun s4 => [.int s4, va_rf a0]) (fun s4 => M2) (fun s4 => ?_) (fun j25 hj25 => ?_)
  · refine x_bipush (v := 6) dX12_opens_25 (by decide) ?_
    refine cmX12_455 rfl hs (Nat.le_of_ble_eq_true rfl) dX12_opens_27 (fun x6 M5 => ?_)
    exact x_zret rfl dX12_opens_30
  refine x_icmp_gt (tgt := 24) dX12_opens_17 (by decide) (fun _ => ?_) (fun _ => ?_)
  · refine x_iconst (v := 0) dX12_opens_24 (by decide) ?_
    exact x_weak (by exact trivial) (hj25 ((0 : Int32)))
  · refine x_iconst (v := 1) dX12_opens_20 (by decide) ?_
    refine x_goto (tgt := 25) dX12_opens_21 (by decide) ?_
    exact x_weak (by exact trivial) (hj25 ((1 : Int32)))
theorem s200 {l : Launch} {d : Nat} {rec : Nat → List Value → Mem → XA} (hS : Nonempty XS) (hs : XSnd l xmt rec d) : Snd1 l 200 (b200 rec) d := by
  intro as M r M' h0
  unfold b200 at h0
  obtain ⟨a0, l1, e1, h1⟩ := aR_inv h0
  obtain ⟨ez, h⟩ := aZ_inv h1
  subst ez
  subst e1
  exact xmet (M := M) (as := [va_rf a0]) (lo := [some (va_rf a0)]) 200 xq200 xm200 (by rw [xargs_rf, xargs_nil]; exact ⟨rfl, trivial⟩) (by rw [xargs_rf, xargs_nil]; exact Nat.le_of_ble_eq_true rfl) (fun S G K => x_weak (by exact ⟨rfl, trivial⟩) (k200 hs a0 M)) h hS
set_option maxRecDepth 100000 in
def c201 (rec : Nat → List Value → Mem → XA) (a0 : Option Nat) (M0 : Mem) : XA :=
  gtI (13, 157) M0 a0 53 fun x1 =>
  gtI (13, 157) M0 a0 53 fun x2 =>
  ptI (13, 157) M0 a0 53 (x2 + ((1 : Int32))) fun M3 =>
  gtP (13, 157) M3 a0 56 fun x4 =>
  asL M3 x4 x1 ((0 : Int64)) fun M5 =>
  gtP (13, 157) M5 a0 58 fun x6 =>
  gtL (13, 157) M5 a0 39 fun x7 =>
  asL M5 x6 x1 x7 fun M8 =>
  gtP (13, 157) M8 a0 59 fun x9 =>
  gtI (13, 157) M8 a0 37 fun x10 =>
  asI 100 M8 x9 x1 x10 fun M11 =>
  gtP (13, 157) M11 a0 61 fun x12 =>
  gtI (13, 157) M11 a0 49 fun x13 =>
  asI 100 M11 x12 x1 x13 fun M14 =>
  vC (13, 157) M14 a0 <|
  cV (rec 191 [va_rf a0] M14) fun M15 =>
  gtI (13, 157) M15 a0 41 fun x16 =>
  jn (fun (s17 : Mem) =>
    some (.int x1, s17)) fun j144 =>
  if x16 = 0 then (
    gtI (13, 157) M15 a0 36 fun x18 =>
    if x18 = ((46 : Int32)) then (
      vC (13, 157) M15 a0 <|
      cV (rec 191 [va_rf a0] M15) fun M19 =>
      gtI (13, 157) M19 a0 36 fun x20 =>
      jn (fun (s21 : Int32) =>
        vC (13, 157) M19 a0 <|
        cI (rec 193 [va_rf a0, .int s21] M19) fun x23 M22 =>
        if x23 = 0 then (
          j144 M22) else (
          gtP (13, 157) M22 a0 56 fun x24 =>
          gtP (13, 157) M22 a0 58 fun x25 =>
          alL M22 x25 x1 fun x26 =>
          asL M22 x24 x1 x26 fun M27 =>
          gtP (13, 157) M27 a0 57 fun x28 =>
          gtP (13, 157) M27 a0 59 fun x29 =>
          alI 100 M27 x29 x1 fun x30 =>
          asI 100 M27 x28 x1 x30 fun M31 =>
          gtP (13, 157) M31 a0 58 fun x32 =>
          gtL (13, 157) M31 a0 39 fun x33 =>
          asL M31 x32 x1 x33 fun M34 =>
          gtP (13, 157) M34 a0 59 fun x35 =>
          gtI (13, 157) M34 a0 37 fun x36 =>
          asI 100 M34 x35 x1 x36 fun M37 =>
          vC (13, 157) M37 a0 <|
          cV (rec 191 [va_rf a0] M37) fun M38 =>
          j144 M38)) fun j90 =>
      if x20 = ((1 : Int32)) then (
        j90 ((1 : Int32))) else (
        j90 ((0 : Int32)))) else (
      j144 M15)) else (
    j144 M15)
def b201 (rec : Nat → List Value → Mem → XA) (as : List Value) (M0 : Mem) : XA := aR as fun a0 as => aZ as (c201 rec a0 M0)
set_option maxRecDepth 100000 in
set_option maxHeartbeats 4000000 in
theorem k201 {S : XS} {G : XG} {K : Nat × Nat} {l : Launch} {d : Nat} {rec : Nat → List Value → Mem → XA} (hs : XSnd l xmt rec d) (a0 : Option Nat) (M0 : Mem) : Xe S G K l (yX12_use, cX12_use, 2, some .int) d 0 [some (va_rf a0), none] [] M0 (c201 rec a0 M0) := by
  unfold c201
  refine x_aload_n dX12_use_0 rfl ?_
  refine gfX12_462 rfl dX12_use_1 (fun x1 => ?_)
  refine x_istore_n (lo' := [some (va_rf a0), some (.int x1)]) dX12_use_4 (by decide) (xok_r rfl) rfl ?_
  refine x_aload_n dX12_use_5 rfl ?_
  refine x_dup dX12_use_6 (xc1_r _) ?_
  refine gfX12_462 rfl dX12_use_7 (fun x2 => ?_)
  refine x_iconst (v := 1) dX12_use_10 (by decide) ?_
  refine x_iadd dX12_use_11 ?_
  refine pfX12_462 rfl dX12_use_12 (fun M3 => ?_)
  refine x_aload_n dX12_use_15 rfl ?_
  refine gfX12_197 rfl dX12_use_16 (fun x4 => ?_)
  refine x_iload_n dX12_use_19 rfl ?_
  refine x_lconst (v := 0) dX12_use_20 (by decide) ?_
  refine x_last dX12_use_21 (fun M5 => ?_)
  refine x_aload_n dX12_use_22 rfl ?_
  refine gfX12_203 rfl dX12_use_23 (fun x6 => ?_)
  refine x_iload_n dX12_use_26 rfl ?_
  refine x_aload_n dX12_use_27 rfl ?_
  refine gfX12_415 rfl dX12_use_28 (fun x7 => ?_)
  refine x_last dX12_use_31 (fun M8 => ?_)
  refine x_aload_n dX12_use_32 rfl ?_
  refine gfX12_206 rfl dX12_use_33 (fun x9 => ?_)
  refine x_iload_n dX12_use_36 rfl ?_
  refine x_aload_n dX12_use_37 rfl ?_
  refine gfX12_405 rfl dX12_use_38 (fun x10 => ?_)
  refine x_iast dX12_use_41 (fun M11 => ?_)
  refine x_aload_n dX12_use_42 rfl ?_
  refine gfX12_212 rfl dX12_use_43 (fun x12 => ?_)
  refine x_iload_n dX12_use_46 rfl ?_
  refine x_aload_n dX12_use_47 rfl ?_
  refine gfX12_442 rfl dX12_use_48 (fun x13 => ?_)
  refine x_iast dX12_use_51 (fun M14 => ?_)
  refine x_aload_n dX12_use_52 rfl ?_
  refine cmX12_436 rfl hs (Nat.le_of_ble_eq_true rfl) dX12_use_53 (fun M15 => ?_)
  refine x_aload_n dX12_use_56 rfl ?_
  refine gfX12_395 rfl dX12_use_57 (fun x16 => ?_)
  refine x_jn (σ := Mem) 144 (fun s17 => [none, some (.int x1)]) (fun s17 => []) (fun s17 => s17) (fun s17 => ?_) (fun j144 hj144 => ?_)
  · refine x_iload_n dX12_use_144 rfl ?_
    exact x_iret rfl dX12_use_145
  refine x_if_ne (tgt := 144) dX12_use_60 (by decide) (fun _ => ?_) (fun _ => ?_)
  · refine x_aload_n dX12_use_63 rfl ?_
    refine gfX12_408 rfl dX12_use_64 (fun x18 => ?_)
    refine x_bipush (v := 46) dX12_use_67 (by decide) ?_
    refine x_icmp_ne (tgt := 144) dX12_use_69 (by decide) (fun _ => ?_) (fun _ => ?_)
    · refine x_aload_n dX12_use_72 rfl ?_
      refine cmX12_436 rfl hs (Nat.le_of_ble_eq_true rfl) dX12_use_73 (fun M19 => ?_)
      refine x_aload_n dX12_use_76 rfl ?_
      refine x_aload_n dX12_use_77 rfl ?_
      refine gfX12_408 rfl dX12_use_78 (fun x20 => ?_)
      refine x_iconst (v := 1) dX12_use_81 (by decide) ?_
      refine x_jn (σ := Int32) 90 (fun s21 => [some (va_rf a0), some (.int x1)]) (fun s21 => [.int s21, va_rf a0]) (fun s21 => M19) (fun s21 => ?_) (fun j90 hj90 => ?_)
      · refine cmX12_432 rfl hs (Nat.le_of_ble_eq_true rfl) dX12_use_90 (fun x23 M22 => ?_)
        refine x_if_eq (tgt := 144) dX12_use_93 (by decide) (fun _ => ?_) (fun _ => ?_)
        · exact x_weak (by exact ⟨rfl, trivial⟩) (hj144 M22)
        · refine x_aload_n dX12_use_96 rfl ?_
          refine gfX12_197 rfl dX12_use_97 (fun x24 => ?_)
          refine x_iload_n dX12_use_100 rfl ?_
          refine x_aload_n dX12_use_101 rfl ?_
          refine gfX12_203 rfl dX12_use_102 (fun x25 => ?_)
          refine x_iload_n dX12_use_105 rfl ?_
          refine x_lald dX12_use_106 (fun x26 => ?_)
          refine x_last dX12_use_107 (fun M27 => ?_)
          refine x_aload_n dX12_use_108 rfl ?_
          refine gfX12_200 rfl dX12_use_109 (fun x28 => ?_)
          refine x_iload_n dX12_use_112 rfl ?_
          refine x_aload_n dX12_use_113 rfl ?_
          refine gfX12_206 rfl dX12_use_114 (fun x29 => ?_)
          refine x_iload_n dX12_use_117 rfl ?_
          refine x_iald dX12_use_118 (fun x30 => ?_)
          refine x_iast dX12_use_119 (fun M31 => ?_)
          refine x_aload_n dX12_use_120 rfl ?_
          refine gfX12_203 rfl dX12_use_121 (fun x32 => ?_)
          refine x_iload_n dX12_use_124 rfl ?_
          refine x_aload_n dX12_use_125 rfl ?_
          refine gfX12_415 rfl dX12_use_126 (fun x33 => ?_)
          refine x_last dX12_use_129 (fun M34 => ?_)
          refine x_aload_n dX12_use_130 rfl ?_
          refine gfX12_206 rfl dX12_use_131 (fun x35 => ?_)
          refine x_iload_n dX12_use_134 rfl ?_
          refine x_aload_n dX12_use_135 rfl ?_
          refine gfX12_405 rfl dX12_use_136 (fun x36 => ?_)
          refine x_iast dX12_use_139 (fun M37 => ?_)
          refine x_aload_n dX12_use_140 rfl ?_
          refine cmX12_436 rfl hs (Nat.le_of_ble_eq_true rfl) dX12_use_141 (fun M38 => ?_)
          exact x_weak (by exact ⟨rfl, trivial⟩) (hj144 M38)
      refine x_icmp_ne (tgt := 89) dX12_use_82 (by decide) (fun _ => ?_) (fun _ => ?_)
      · refine x_iconst (v := 1) dX12_use_85 (by decide) ?_
        refine x_goto (tgt := 90) dX12_use_86 (by decide) ?_
        exact x_weak (by exact ⟨rfl, ⟨rfl, trivial⟩⟩) (hj90 ((1 : Int32)))
      · refine x_iconst (v := 0) dX12_use_89 (by decide) ?_
        exact x_weak (by exact ⟨rfl, ⟨rfl, trivial⟩⟩) (hj90 ((0 : Int32)))
    · exact x_weak (by exact ⟨rfl, trivial⟩) (hj144 M15)
  · exact x_weak (by exact ⟨rfl, trivial⟩) (hj144 M15)
theorem s201 {l : Launch} {d : Nat} {rec : Nat → List Value → Mem → XA} (hS : Nonempty XS) (hs : XSnd l xmt rec d) : Snd1 l 201 (b201 rec) d := by
  intro as M r M' h0
  unfold b201 at h0
  obtain ⟨a0, l1, e1, h1⟩ := aR_inv h0
  obtain ⟨ez, h⟩ := aZ_inv h1
  subst ez
  subst e1
  exact xmet (M := M) (as := [va_rf a0]) (lo := [some (va_rf a0)]) 201 xq201 xm201 (by rw [xargs_rf, xargs_nil]; exact ⟨rfl, trivial⟩) (by rw [xargs_rf, xargs_nil]; exact Nat.le_of_ble_eq_true rfl) (fun S G K => x_weak (by exact ⟨rfl, trivial⟩) (k201 hs a0 M)) h hS
set_option maxRecDepth 100000 in
def c202 (rec : Nat → List Value → Mem → XA) (a0 : Option Nat) (a1 : Int32) (a2 : Int32) (a3 : Int32) (M0 : Mem) : XA :=
  gtP (13, 157) M0 a0 55 fun x1 =>
  asI 100 M0 x1 a1 a2 fun M2 =>
  gtP (13, 157) M2 a0 54 fun x3 =>
  vC (13, 157) M2 a0 <|
  cI (rec 196 [va_rf a0, .int a3, .int a1] M2) fun x5 M4 =>
  asI 100 M4 x3 a1 x5 fun M6 =>
  some (.null, M6)
def b202 (rec : Nat → List Value → Mem → XA) (as : List Value) (M0 : Mem) : XA := aR as fun a0 as => aI as fun a1 as => aI as fun a2 as => aI as fun a3 as => aZ as (c202 rec a0 a1 a2 a3 M0)
set_option maxRecDepth 100000 in
set_option maxHeartbeats 4000000 in
theorem k202 {S : XS} {G : XG} {K : Nat × Nat} {l : Launch} {d : Nat} {rec : Nat → List Value → Mem → XA} (hs : XSnd l xmt rec d) (a0 : Option Nat) (a1 : Int32) (a2 : Int32) (a3 : Int32) (M0 : Mem) : Xe S G K l (yX12_used, cX12_used, 4, none) d 0 [some (va_rf a0), some (.int a1), some (.int a2), some (.int a3)] [] M0 (c202 rec a0 a1 a2 a3 M0) := by
  unfold c202
  refine x_aload_n dX12_used_0 rfl ?_
  refine gfX12_194 rfl dX12_used_1 (fun x1 => ?_)
  refine x_iload_n dX12_used_4 rfl ?_
  refine x_iload_n dX12_used_5 rfl ?_
  refine x_iast dX12_used_6 (fun M2 => ?_)
  refine x_aload_n dX12_used_7 rfl ?_
  refine gfX12_191 rfl dX12_used_8 (fun x3 => ?_)
  refine x_iload_n dX12_used_11 rfl ?_
  refine x_aload_n dX12_used_12 rfl ?_
  refine x_iload_n dX12_used_13 rfl ?_
  refine x_iload_n dX12_used_14 rfl ?_
  refine cmX12_465 rfl hs (Nat.le_of_ble_eq_true rfl) dX12_used_15 (fun x5 M4 => ?_)
  refine x_iast dX12_used_18 (fun M6 => ?_)
  exact x_vret rfl dX12_used_19
theorem s202 {l : Launch} {d : Nat} {rec : Nat → List Value → Mem → XA} (hS : Nonempty XS) (hs : XSnd l xmt rec d) : Snd1 l 202 (b202 rec) d := by
  intro as M r M' h0
  unfold b202 at h0
  obtain ⟨a0, l1, e1, h1⟩ := aR_inv h0
  obtain ⟨a1, l2, e2, h2⟩ := aI_inv h1
  obtain ⟨a2, l3, e3, h3⟩ := aI_inv h2
  obtain ⟨a3, l4, e4, h4⟩ := aI_inv h3
  obtain ⟨ez, h⟩ := aZ_inv h4
  subst ez
  subst e4
  subst e3
  subst e2
  subst e1
  exact xmet (M := M) (as := [va_rf a0, .int a1, .int a2, .int a3]) (lo := [some (va_rf a0), some (.int a1), some (.int a2), some (.int a3)]) 202 xq202 xm202 (by rw [xargs_rf, xargs_i, xargs_i, xargs_i, xargs_nil]; exact ⟨rfl, ⟨rfl, ⟨rfl, ⟨rfl, trivial⟩⟩⟩⟩) (by rw [xargs_rf, xargs_i, xargs_i, xargs_i, xargs_nil]; exact Nat.le_of_ble_eq_true rfl) (fun S G K => x_weak (by exact ⟨rfl, ⟨rfl, ⟨rfl, ⟨rfl, trivial⟩⟩⟩⟩) (k202 hs a0 a1 a2 a3 M)) h hS
set_option maxRecDepth 100000 in
def c203 (rec : Nat → List Value → Mem → XA) (a0 : Option Nat) (M0 : Mem) : XA :=
  vC (13, 157) M0 a0 <|
  cI (rec 200 [va_rf a0] M0) fun x2 M1 =>
  jn (fun (s3 : Mem) =>
    some (.null, s3)) fun j57 =>
  if x2 = 0 then (
    j57 M1) else (
    vC (13, 157) M1 a0 <|
    cV (rec 191 [va_rf a0] M1) fun M4 =>
    vC (13, 157) M4 a0 <|
    cV (rec 211 [va_rf a0] M4) fun M5 =>
    gtI (13, 157) M5 a0 41 fun x6 =>
    if x6 = 0 then (
      gtI (13, 157) M5 a0 36 fun x7 =>
      jn (fun (s8 : Int32) =>
        vC (13, 157) M5 a0 <|
        cI (rec 193 [va_rf a0, .int s8] M5) fun x10 M9 =>
        if x10 = 0 then (
          j57 M9) else (
          gtI (13, 157) M9 a0 50 fun x11 =>
          ptI (13, 157) M9 a0 50 (x11 - ((1 : Int32))) fun M12 =>
          vC (13, 157) M12 a0 <|
          cV (rec 191 [va_rf a0] M12) fun M13 =>
          j57 M13)) fun j37 =>
      if x7 = ((93 : Int32)) then (
        j37 ((1 : Int32))) else (
        j37 ((0 : Int32)))) else (
      j57 M5))
def b203 (rec : Nat → List Value → Mem → XA) (as : List Value) (M0 : Mem) : XA := aR as fun a0 as => aZ as (c203 rec a0 M0)
set_option maxRecDepth 100000 in
set_option maxHeartbeats 4000000 in
theorem k203 {S : XS} {G : XG} {K : Nat × Nat} {l : Launch} {d : Nat} {rec : Nat → List Value → Mem → XA} (hs : XSnd l xmt rec d) (a0 : Option Nat) (M0 : Mem) : Xe S G K l (yX12_index, cX12_index, 1, none) d 0 [some (va_rf a0)] [] M0 (c203 rec a0 M0) := by
  unfold c203
  refine x_aload_n dX12_index_0 rfl ?_
  refine cmX12_469 rfl hs (Nat.le_of_ble_eq_true rfl) dX12_index_1 (fun x2 M1 => ?_)
  refine x_jn (σ := Mem) 57 (fun s3 => [none]) (fun s3 => []) (fun s3 => s3) (fun s3 => ?_) (fun j57 hj57 => ?_)
  · exact x_vret rfl dX12_index_57
  refine x_if_eq (tgt := 57) dX12_index_4 (by decide) (fun _ => ?_) (fun _ => ?_)
  · exact x_weak (by exact trivial) (hj57 M1)
  · refine x_aload_n dX12_index_7 rfl ?_
    refine cmX12_436 rfl hs (Nat.le_of_ble_eq_true rfl) dX12_index_8 (fun M4 => ?_)
    refine x_aload_n dX12_index_11 rfl ?_
    refine cmX12_473 rfl hs (Nat.le_of_ble_eq_true rfl) dX12_index_12 (fun M5 => ?_)
    refine x_aload_n dX12_index_15 rfl ?_
    refine gfX12_395 rfl dX12_index_16 (fun x6 => ?_)
    refine x_if_ne (tgt := 57) dX12_index_19 (by decide) (fun _ => ?_) (fun _ => ?_)
    · refine x_aload_n dX12_index_22 rfl ?_
      refine x_aload_n dX12_index_23 rfl ?_
      refine gfX12_408 rfl dX12_index_24 (fun x7 => ?_)
      refine x_bipush (v := 93) dX12_index_27 (by decide) ?_
      refine x_jn (σ := Int32) 37 (fun s8 => [some (va_rf a0)]) (fun s8 => [.int s8, va_rf a0]) (fun s8 => M5) (fun s8 => ?_) (fun j37 hj37 => ?_)
      · refine cmX12_432 rfl hs (Nat.le_of_ble_eq_true rfl) dX12_index_37 (fun x10 M9 => ?_)
        refine x_if_eq (tgt := 57) dX12_index_40 (by decide) (fun _ => ?_) (fun _ => ?_)
        · exact x_weak (by exact trivial) (hj57 M9)
        · refine x_aload_n dX12_index_43 rfl ?_
          refine x_dup dX12_index_44 (xc1_r _) ?_
          refine gfX12_459 rfl dX12_index_45 (fun x11 => ?_)
          refine x_iconst (v := 1) dX12_index_48 (by decide) ?_
          refine x_isub dX12_index_49 ?_
          refine pfX12_459 rfl dX12_index_50 (fun M12 => ?_)
          refine x_aload_n dX12_index_53 rfl ?_
          refine cmX12_436 rfl hs (Nat.le_of_ble_eq_true rfl) dX12_index_54 (fun M13 => ?_)
          exact x_weak (by exact trivial) (hj57 M13)
      refine x_icmp_ne (tgt := 36) dX12_index_29 (by decide) (fun _ => ?_) (fun _ => ?_)
      · refine x_iconst (v := 1) dX12_index_32 (by decide) ?_
        refine x_goto (tgt := 37) dX12_index_33 (by decide) ?_
        exact x_weak (by exact ⟨rfl, trivial⟩) (hj37 ((1 : Int32)))
      · refine x_iconst (v := 0) dX12_index_36 (by decide) ?_
        exact x_weak (by exact ⟨rfl, trivial⟩) (hj37 ((0 : Int32)))
    · exact x_weak (by exact trivial) (hj57 M5)
theorem s203 {l : Launch} {d : Nat} {rec : Nat → List Value → Mem → XA} (hS : Nonempty XS) (hs : XSnd l xmt rec d) : Snd1 l 203 (b203 rec) d := by
  intro as M r M' h0
  unfold b203 at h0
  obtain ⟨a0, l1, e1, h1⟩ := aR_inv h0
  obtain ⟨ez, h⟩ := aZ_inv h1
  subst ez
  subst e1
  exact xmet (M := M) (as := [va_rf a0]) (lo := [some (va_rf a0)]) 203 xq203 xm203 (by rw [xargs_rf, xargs_nil]; exact ⟨rfl, trivial⟩) (by rw [xargs_rf, xargs_nil]; exact Nat.le_of_ble_eq_true rfl) (fun S G K => x_weak (by exact ⟨rfl, trivial⟩) (k203 hs a0 M)) h hS
set_option maxRecDepth 100000 in
def c204_35 (rec : Nat → List Value → Mem → XA) (a0 : Option Nat) (j79 : Int32 × Mem → XA) : (Int32 × Int32 × Mem) → ((Int32 × Int32 × Mem) → XA) → XA := fun s19 j35 =>
  if s19.2.1 = 0 then (
    j79 (s19.1, s19.2.2)) else (
    vC (13, 157) s19.2.2 a0 <|
    cV (rec 211 [va_rf a0] s19.2.2) fun M20 =>
    lt (s19.1 + (1 : Int32)) fun (x21 : Int32) =>
    gtI (13, 157) M20 a0 41 fun x22 =>
    jn (fun (s23 : Int32) =>
      if s23 = 0 then (
        j35 (x21, s23, M20)) else (
        vC (13, 157) M20 a0 <|
        cV (rec 191 [va_rf a0] M20) fun M24 =>
        j35 (x21, s23, M24))) fun j67 =>
    jn (fun (s25 : Unit) =>
      j67 ((0 : Int32))) fun j66 =>
    if x22 = 0 then (
      gtI (13, 157) M20 a0 36 fun x26 =>
      if x26 = ((44 : Int32)) then (
        j67 ((1 : Int32))) else (
        j66 ())) else (
      j66 ()))
set_option maxRecDepth 100000 in
def c204 (rec : Nat → List Value → Mem → XA) (a0 : Option Nat) (a1 : Int32) (M0 : Mem) : XA :=
  vC (13, 157) M0 a0 <|
  cI (rec 200 [va_rf a0] M0) fun x2 M1 =>
  jn (fun (s3 : Int32 × Mem) =>
    gtP (13, 157) s3.2 a0 60 fun x4 =>
    asI 100 s3.2 x4 a1 s3.1 fun M5 =>
    vC (13, 157) M5 a0 <|
    cV (rec 202 [va_rf a0, .int a1, .int ((4 : Int32)), .int ((7 : Int32))] M5) fun M6 =>
    some (.null, M6)) fun j121 =>
  if x2 = 0 then (
    j121 ((0 : Int32), M1)) else (
    vC (13, 157) M1 a0 <|
    cV (rec 191 [va_rf a0] M1) fun M7 =>
    gtI (13, 157) M7 a0 41 fun x8 =>
    jn (fun (s9 : Int32) =>
      jn (fun (s10 : Int32 × Mem) =>
        gtI (13, 157) s10.2 a0 41 fun x11 =>
        if x11 = 0 then (
          gtI (13, 157) s10.2 a0 36 fun x12 =>
          jn (fun (s13 : Int32) =>
            vC (13, 157) s10.2 a0 <|
            cI (rec 193 [va_rf a0, .int s13] s10.2) fun x15 M14 =>
            if x15 = 0 then (
              j121 (s10.1, M14)) else (
              gtI (13, 157) M14 a0 50 fun x16 =>
              ptI (13, 157) M14 a0 50 (x16 - ((1 : Int32))) fun M17 =>
              vC (13, 157) M17 a0 <|
              cV (rec 191 [va_rf a0] M17) fun M18 =>
              j121 (s10.1, M18))) fun j101 =>
          if x12 = ((41 : Int32)) then (
            j101 ((1 : Int32))) else (
            j101 ((0 : Int32)))) else (
          j121 (s10.1, s10.2))) fun j79 =>
      lp (c204_35 rec a0 j79) 4294967296 ((0 : Int32), s9, M7)) fun j34 =>
    jn (fun (s27 : Unit) =>
      j34 ((0 : Int32))) fun j33 =>
    if x8 = 0 then (
      gtI (13, 157) M7 a0 36 fun x28 =>
      if x28 = ((41 : Int32)) then (
        j33 ()) else (
        j34 ((1 : Int32)))) else (
      j33 ()))
def b204 (rec : Nat → List Value → Mem → XA) (as : List Value) (M0 : Mem) : XA := aR as fun a0 as => aI as fun a1 as => aZ as (c204 rec a0 a1 M0)
set_option maxRecDepth 100000 in
set_option maxHeartbeats 4000000 in
theorem k204 {S : XS} {G : XG} {K : Nat × Nat} {l : Launch} {d : Nat} {rec : Nat → List Value → Mem → XA} (hs : XSnd l xmt rec d) (a0 : Option Nat) (a1 : Int32) (M0 : Mem) : Xe S G K l (yX12_call, cX12_call, 4, none) d 0 [some (va_rf a0), some (.int a1), none, none] [] M0 (c204 rec a0 a1 M0) := by
  unfold c204
  refine x_iconst (v := 0) dX12_call_0 (by decide) ?_
  refine x_istore_n (lo' := [some (va_rf a0), some (.int a1), some (.int ((0 : Int32))), none]) dX12_call_1 (by decide) rfl rfl ?_
  refine x_aload_n dX12_call_2 rfl ?_
  refine cmX12_469 rfl hs (Nat.le_of_ble_eq_true rfl) dX12_call_3 (fun x2 M1 => ?_)
  refine x_jn (σ := Int32 × Mem) 121 (fun s3 => [some (va_rf a0), some (.int a1), some (.int s3.1), none]) (fun s3 => []) (fun s3 => s3.2) (fun s3 => ?_) (fun j121 hj121 => ?_)
  · refine x_aload_n dX12_call_121 rfl ?_
    refine gfX12_209 rfl dX12_call_122 (fun x4 => ?_)
    refine x_iload_n dX12_call_125 rfl ?_
    refine x_iload_n dX12_call_126 rfl ?_
    refine x_iast dX12_call_127 (fun M5 => ?_)
    refine x_aload_n dX12_call_128 rfl ?_
    refine x_iload_n dX12_call_129 rfl ?_
    refine x_iconst (v := 4) dX12_call_130 (by decide) ?_
    refine x_bipush (v := 7) dX12_call_131 (by decide) ?_
    refine cmX12_476 rfl hs (Nat.le_of_ble_eq_true rfl) dX12_call_133 (fun M6 => ?_)
    exact x_vret rfl dX12_call_136
  refine x_if_eq (tgt := 121) dX12_call_6 (by decide) (fun _ => ?_) (fun _ => ?_)
  · exact x_weak (by exact ⟨rfl, ⟨rfl, ⟨rfl, trivial⟩⟩⟩) (hj121 ((0 : Int32), M1))
  · refine x_aload_n dX12_call_9 rfl ?_
    refine cmX12_436 rfl hs (Nat.le_of_ble_eq_true rfl) dX12_call_10 (fun M7 => ?_)
    refine x_aload_n dX12_call_13 rfl ?_
    refine gfX12_395 rfl dX12_call_14 (fun x8 => ?_)
    refine x_jn (σ := Int32) 34 (fun s9 => [some (va_rf a0), some (.int a1), some (.int ((0 : Int32))), none]) (fun s9 => [.int s9]) (fun s9 => M7) (fun s9 => ?_) (fun j34 hj34 => ?_)
    · refine x_istore_n (lo' := [some (va_rf a0), some (.int a1), some (.int ((0 : Int32))), some (.int s9)]) dX12_call_34 (by decide) rfl rfl ?_
      refine x_jn (σ := Int32 × Mem) 79 (fun s10 => [some (va_rf a0), some (.int a1), some (.int s10.1), none]) (fun s10 => []) (fun s10 => s10.2) (fun s10 => ?_) (fun j79 hj79 => ?_)
      · refine x_aload_n dX12_call_79 rfl ?_
        refine gfX12_395 rfl dX12_call_80 (fun x11 => ?_)
        refine x_if_ne (tgt := 121) dX12_call_83 (by decide) (fun _ => ?_) (fun _ => ?_)
        · refine x_aload_n dX12_call_86 rfl ?_
          refine x_aload_n dX12_call_87 rfl ?_
          refine gfX12_408 rfl dX12_call_88 (fun x12 => ?_)
          refine x_bipush (v := 41) dX12_call_91 (by decide) ?_
          refine x_jn (σ := Int32) 101 (fun s13 => [some (va_rf a0), some (.int a1), some (.int s10.1), none]) (fun s13 => [.int s13, va_rf a0]) (fun s13 => s10.2) (fun s13 => ?_) (fun j101 hj101 => ?_)
          · refine cmX12_432 rfl hs (Nat.le_of_ble_eq_true rfl) dX12_call_101 (fun x15 M14 => ?_)
            refine x_if_eq (tgt := 121) dX12_call_104 (by decide) (fun _ => ?_) (fun _ => ?_)
            · exact x_weak (by exact ⟨rfl, ⟨rfl, ⟨rfl, trivial⟩⟩⟩) (hj121 (s10.1, M14))
            · refine x_aload_n dX12_call_107 rfl ?_
              refine x_dup dX12_call_108 (xc1_r _) ?_
              refine gfX12_459 rfl dX12_call_109 (fun x16 => ?_)
              refine x_iconst (v := 1) dX12_call_112 (by decide) ?_
              refine x_isub dX12_call_113 ?_
              refine pfX12_459 rfl dX12_call_114 (fun M17 => ?_)
              refine x_aload_n dX12_call_117 rfl ?_
              refine cmX12_436 rfl hs (Nat.le_of_ble_eq_true rfl) dX12_call_118 (fun M18 => ?_)
              exact x_weak (by exact ⟨rfl, ⟨rfl, ⟨rfl, trivial⟩⟩⟩) (hj121 (s10.1, M18))
          refine x_icmp_ne (tgt := 100) dX12_call_93 (by decide) (fun _ => ?_) (fun _ => ?_)
          · refine x_iconst (v := 1) dX12_call_96 (by decide) ?_
            refine x_goto (tgt := 101) dX12_call_97 (by decide) ?_
            exact x_weak (by exact ⟨rfl, ⟨rfl, ⟨rfl, trivial⟩⟩⟩) (hj101 ((1 : Int32)))
          · refine x_iconst (v := 0) dX12_call_100 (by decide) ?_
            exact x_weak (by exact ⟨rfl, ⟨rfl, ⟨rfl, trivial⟩⟩⟩) (hj101 ((0 : Int32)))
        · exact x_weak (by exact ⟨rfl, ⟨rfl, ⟨rfl, trivial⟩⟩⟩) (hj121 (s10.1, s10.2))
      refine x_weak (by exact ⟨rfl, ⟨rfl, ⟨rfl, ⟨rfl, trivial⟩⟩⟩⟩) (x_lp (σ := Int32 × Int32 × Mem) 35 (fun s19 => [some (va_rf a0), some (.int a1), some (.int s19.1), some (.int s19.2.1)]) (fun s19 => []) (fun s19 => s19.2.2) (fun s19 j35 hj35 => ?_) 4294967296 ((0 : Int32), s9, M7))
      · refine x_iload_n dX12_call_35 rfl ?_
        refine x_if_eq (tgt := 79) dX12_call_36 (by decide) (fun _ => ?_) (fun _ => ?_)
        · exact x_weak (by exact ⟨rfl, ⟨rfl, ⟨rfl, trivial⟩⟩⟩) (hj79 (s19.1, s19.2.2))
        · refine x_aload_n dX12_call_39 rfl ?_
          refine cmX12_473 rfl hs (Nat.le_of_ble_eq_true rfl) dX12_call_40 (fun M20 => ?_)
          refine x_iincN (v := 1) (lo' := fun x21 => [some (va_rf a0), some (.int a1), some (.int x21), some (.int s19.2.1)]) (by decide) dX12_call_43 rfl (by decide) rfl (fun _ => rfl) (fun x21 => ?_)
          refine x_aload_n dX12_call_46 rfl ?_
          refine gfX12_395 rfl dX12_call_47 (fun x22 => ?_)
          refine x_jn (σ := Int32) 67 (fun s23 => [some (va_rf a0), some (.int a1), some (.int x21), none]) (fun s23 => [.int s23]) (fun s23 => M20) (fun s23 => ?_) (fun j67 hj67 => ?_)
          · refine x_istore_n (lo' := [some (va_rf a0), some (.int a1), some (.int x21), some (.int s23)]) dX12_call_67 (by decide) rfl rfl ?_
            refine x_iload_n dX12_call_68 rfl ?_
            refine x_if_eq (tgt := 35) dX12_call_69 (by decide) (fun _ => ?_) (fun _ => ?_)
            · exact x_weak (by exact ⟨rfl, ⟨rfl, ⟨rfl, ⟨rfl, trivial⟩⟩⟩⟩) (hj35 (x21, s23, M20))
            · refine x_aload_n dX12_call_72 rfl ?_
              refine cmX12_436 rfl hs (Nat.le_of_ble_eq_true rfl) dX12_call_73 (fun M24 => ?_)
              refine x_goto (tgt := 35) dX12_call_76 (by decide) ?_
              exact x_weak (by exact ⟨rfl, ⟨rfl, ⟨rfl, ⟨rfl, trivial⟩⟩⟩⟩) (hj35 (x21, s23, M24))
          refine x_jn (σ := Unit) 66 (fun s25 => [some (va_rf a0), some (.int a1), some (.int x21), none]) (fun s25 => []) (fun s25 => M20) (fun s25 => ?_) (fun j66 hj66 => ?_)
          · refine x_iconst (v := 0) dX12_call_66 (by decide) ?_
            exact x_weak (by exact ⟨rfl, ⟨rfl, ⟨rfl, trivial⟩⟩⟩) (hj67 ((0 : Int32)))
          refine x_if_ne (tgt := 66) dX12_call_50 (by decide) (fun _ => ?_) (fun _ => ?_)
          · refine x_aload_n dX12_call_53 rfl ?_
            refine gfX12_408 rfl dX12_call_54 (fun x26 => ?_)
            refine x_bipush (v := 44) dX12_call_57 (by decide) ?_
            refine x_icmp_ne (tgt := 66) dX12_call_59 (by decide) (fun _ => ?_) (fun _ => ?_)
            · refine x_iconst (v := 1) dX12_call_62 (by decide) ?_
              refine x_goto (tgt := 67) dX12_call_63 (by decide) ?_
              exact x_weak (by exact ⟨rfl, ⟨rfl, ⟨rfl, trivial⟩⟩⟩) (hj67 ((1 : Int32)))
            · exact x_weak (by exact ⟨rfl, ⟨rfl, ⟨rfl, trivial⟩⟩⟩) (hj66 ())
          · exact x_weak (by exact ⟨rfl, ⟨rfl, ⟨rfl, trivial⟩⟩⟩) (hj66 ())
    refine x_jn (σ := Unit) 33 (fun s27 => [some (va_rf a0), some (.int a1), some (.int ((0 : Int32))), none]) (fun s27 => []) (fun s27 => M7) (fun s27 => ?_) (fun j33 hj33 => ?_)
    · refine x_iconst (v := 0) dX12_call_33 (by decide) ?_
      exact x_weak (by exact ⟨rfl, ⟨rfl, ⟨rfl, trivial⟩⟩⟩) (hj34 ((0 : Int32)))
    refine x_if_ne (tgt := 33) dX12_call_17 (by decide) (fun _ => ?_) (fun _ => ?_)
    · refine x_aload_n dX12_call_20 rfl ?_
      refine gfX12_408 rfl dX12_call_21 (fun x28 => ?_)
      refine x_bipush (v := 41) dX12_call_24 (by decide) ?_
      refine x_icmp_eq (tgt := 33) dX12_call_26 (by decide) (fun _ => ?_) (fun _ => ?_)
      · exact x_weak (by exact ⟨rfl, ⟨rfl, ⟨rfl, trivial⟩⟩⟩) (hj33 ())
      · refine x_iconst (v := 1) dX12_call_29 (by decide) ?_
        refine x_goto (tgt := 34) dX12_call_30 (by decide) ?_
        exact x_weak (by exact ⟨rfl, ⟨rfl, ⟨rfl, trivial⟩⟩⟩) (hj34 ((1 : Int32)))
    · exact x_weak (by exact ⟨rfl, ⟨rfl, ⟨rfl, trivial⟩⟩⟩) (hj33 ())
theorem s204 {l : Launch} {d : Nat} {rec : Nat → List Value → Mem → XA} (hS : Nonempty XS) (hs : XSnd l xmt rec d) : Snd1 l 204 (b204 rec) d := by
  intro as M r M' h0
  unfold b204 at h0
  obtain ⟨a0, l1, e1, h1⟩ := aR_inv h0
  obtain ⟨a1, l2, e2, h2⟩ := aI_inv h1
  obtain ⟨ez, h⟩ := aZ_inv h2
  subst ez
  subst e2
  subst e1
  exact xmet (M := M) (as := [va_rf a0, .int a1]) (lo := [some (va_rf a0), some (.int a1)]) 204 xq204 xm204 (by rw [xargs_rf, xargs_i, xargs_nil]; exact ⟨rfl, ⟨rfl, trivial⟩⟩) (by rw [xargs_rf, xargs_i, xargs_nil]; exact Nat.le_of_ble_eq_true rfl) (fun S G K => x_weak (by exact ⟨rfl, ⟨rfl, trivial⟩⟩) (k204 hs a0 a1 M)) h hS
set_option maxRecDepth 100000 in
def c205 (rec : Nat → List Value → Mem → XA) (a0 : Option Nat) (M0 : Mem) : XA :=
  vC (13, 157) M0 a0 <|
  cI (rec 201 [va_rf a0] M0) fun x2 M1 =>
  gtI (13, 157) M1 a0 41 fun x3 =>
  if x3 = 0 then (
    gtP (13, 157) M1 a0 56 fun x4 =>
    alL M1 x4 x2 fun x5 =>
    jn (fun (s6 : Int32 × Mem) =>
      gtI (13, 157) s6.2 a0 36 fun x7 =>
      jn (fun (s8 : Mem) =>
        some (.null, s8)) fun j110 =>
      if x7 = ((40 : Int32)) then (
        vC (13, 157) s6.2 a0 <|
        cV (rec 204 [va_rf a0, .int x2] s6.2) fun M9 =>
        j110 M9) else (
        gtI (13, 157) s6.2 a0 36 fun x10 =>
        if x10 = ((91 : Int32)) then (
          vC (13, 157) s6.2 a0 <|
          cV (rec 203 [va_rf a0] s6.2) fun M11 =>
          vC (13, 157) M11 a0 <|
          cV (rec 202 [va_rf a0, .int x2, .int ((2 : Int32)), .int ((5 : Int32))] M11) fun M12 =>
          j110 M12) else (
          if s6.1 < 0 then (
            vC (13, 157) s6.2 a0 <|
            cV (rec 202 [va_rf a0, .int x2, .int ((0 : Int32)), .int ((3 : Int32))] s6.2) fun M13 =>
            j110 M13) else (
            gtI (13, 157) s6.2 a0 53 fun x14 =>
            ptI (13, 157) s6.2 a0 53 (x14 - ((1 : Int32))) fun M15 =>
            vC (13, 157) M15 a0 <|
            cI (rec 196 [va_rf a0, .int ((1 : Int32)), .int s6.1] M15) fun x17 M16 =>
            j110 M16)))) fun j38 =>
    if (lg_cmp x5 ((0 : Int64))) = 0 then (
      gtP (13, 157) M1 a0 58 fun x18 =>
      alL M1 x18 x2 fun x19 =>
      vC (13, 157) M1 a0 <|
      cI (rec 197 [va_rf a0, .long x19] M1) fun x21 M20 =>
      j38 (x21, M20)) else (
      j38 ((-1 : Int32), M1))) else (
    some (.null, M1))
def b205 (rec : Nat → List Value → Mem → XA) (as : List Value) (M0 : Mem) : XA := aR as fun a0 as => aZ as (c205 rec a0 M0)
set_option maxRecDepth 100000 in
set_option maxHeartbeats 4000000 in
theorem k205 {S : XS} {G : XG} {K : Nat × Nat} {l : Launch} {d : Nat} {rec : Nat → List Value → Mem → XA} (hs : XSnd l xmt rec d) (a0 : Option Nat) (M0 : Mem) : Xe S G K l (yX12_value, cX12_value, 3, none) d 0 [some (va_rf a0), none, none] [] M0 (c205 rec a0 M0) := by
  unfold c205
  refine x_aload_n dX12_value_0 rfl ?_
  refine cmX12_480 rfl hs (Nat.le_of_ble_eq_true rfl) dX12_value_1 (fun x2 M1 => ?_)
  refine x_istore_n (lo' := [some (va_rf a0), some (.int x2), none]) dX12_value_4 (by decide) (xok_r rfl) rfl ?_
  refine x_aload_n dX12_value_5 rfl ?_
  refine gfX12_395 rfl dX12_value_6 (fun x3 => ?_)
  refine x_if_eq (tgt := 13) dX12_value_9 (by decide) (fun _ => ?_) (fun _ => ?_)
  · refine x_aload_n dX12_value_13 rfl ?_
    refine gfX12_197 rfl dX12_value_14 (fun x4 => ?_)
    refine x_iload_n dX12_value_17 rfl ?_
    refine x_lald dX12_value_18 (fun x5 => ?_)
    refine x_lconst (v := 0) dX12_value_19 (by decide) ?_
    refine x_lcmp dX12_value_20 ?_
    refine x_jn (σ := Int32 × Mem) 38 (fun s6 => [some (va_rf a0), some (.int x2), none]) (fun s6 => [.int s6.1]) (fun s6 => s6.2) (fun s6 => ?_) (fun j38 hj38 => ?_)
    · refine x_istore_n (lo' := [some (va_rf a0), some (.int x2), some (.int s6.1)]) dX12_value_38 (by decide) rfl rfl ?_
      refine x_aload_n dX12_value_39 rfl ?_
      refine gfX12_408 rfl dX12_value_40 (fun x7 => ?_)
      refine x_bipush (v := 40) dX12_value_43 (by decide) ?_
      refine x_jn (σ := Mem) 110 (fun s8 => [none, none, none]) (fun s8 => []) (fun s8 => s8) (fun s8 => ?_) (fun j110 hj110 => ?_)
      · exact x_vret rfl dX12_value_110
      refine x_icmp_ne (tgt := 56) dX12_value_45 (by decide) (fun _ => ?_) (fun _ => ?_)
      · refine x_aload_n dX12_value_48 rfl ?_
        refine x_iload_n dX12_value_49 rfl ?_
        refine cmX12_483 rfl hs (Nat.le_of_ble_eq_true rfl) dX12_value_50 (fun M9 => ?_)
        refine x_goto (tgt := 110) dX12_value_53 (by decide) ?_
        exact x_weak (by exact trivial) (hj110 M9)
      · refine x_aload_n dX12_value_56 rfl ?_
        refine gfX12_408 rfl dX12_value_57 (fun x10 => ?_)
        refine x_bipush (v := 91) dX12_value_60 (by decide) ?_
        refine x_icmp_ne (tgt := 79) dX12_value_62 (by decide) (fun _ => ?_) (fun _ => ?_)
        · refine x_aload_n dX12_value_65 rfl ?_
          refine cmX12_487 rfl hs (Nat.le_of_ble_eq_true rfl) dX12_value_66 (fun M11 => ?_)
          refine x_aload_n dX12_value_69 rfl ?_
          refine x_iload_n dX12_value_70 rfl ?_
          refine x_iconst (v := 2) dX12_value_71 (by decide) ?_
          refine x_iconst (v := 5) dX12_value_72 (by decide) ?_
          refine cmX12_476 rfl hs (Nat.le_of_ble_eq_true rfl) dX12_value_73 (fun M12 => ?_)
          refine x_goto (tgt := 110) dX12_value_76 (by decide) ?_
          exact x_weak (by exact trivial) (hj110 M12)
        · refine x_iload_n dX12_value_79 rfl ?_
          refine x_if_lt (tgt := 103) dX12_value_80 (by decide) (fun _ => ?_) (fun _ => ?_)
          · refine x_aload_n dX12_value_103 rfl ?_
            refine x_iload_n dX12_value_104 rfl ?_
            refine x_iconst (v := 0) dX12_value_105 (by decide) ?_
            refine x_iconst (v := 3) dX12_value_106 (by decide) ?_
            refine cmX12_476 rfl hs (Nat.le_of_ble_eq_true rfl) dX12_value_107 (fun M13 => ?_)
            exact x_weak (by exact trivial) (hj110 M13)
          · refine x_aload_n dX12_value_83 rfl ?_
            refine x_dup dX12_value_84 (xc1_r _) ?_
            refine gfX12_462 rfl dX12_value_85 (fun x14 => ?_)
            refine x_iconst (v := 1) dX12_value_88 (by decide) ?_
            refine x_isub dX12_value_89 ?_
            refine pfX12_462 rfl dX12_value_90 (fun M15 => ?_)
            refine x_aload_n dX12_value_93 rfl ?_
            refine x_iconst (v := 1) dX12_value_94 (by decide) ?_
            refine x_iload_n dX12_value_95 rfl ?_
            refine cmX12_465 rfl hs (Nat.le_of_ble_eq_true rfl) dX12_value_96 (fun x17 M16 => ?_)
            refine x_pop dX12_value_99 (xc1_i _) ?_
            refine x_goto (tgt := 110) dX12_value_100 (by decide) ?_
            exact x_weak (by exact trivial) (hj110 M16)
    refine x_if_ne (tgt := 37) dX12_value_21 (by decide) (fun _ => ?_) (fun _ => ?_)
    · refine x_aload_n dX12_value_24 rfl ?_
      refine x_aload_n dX12_value_25 rfl ?_
      refine gfX12_203 rfl dX12_value_26 (fun x18 => ?_)
      refine x_iload_n dX12_value_29 rfl ?_
      refine x_lald dX12_value_30 (fun x19 => ?_)
      refine cmX12_451 rfl hs (Nat.le_of_ble_eq_true rfl) dX12_value_31 (fun x21 M20 => ?_)
      refine x_goto (tgt := 38) dX12_value_34 (by decide) ?_
      exact x_weak (by exact ⟨rfl, ⟨rfl, trivial⟩⟩) (hj38 (x21, M20))
    · refine x_iconst (v := -1) dX12_value_37 (by decide) ?_
      exact x_weak (by exact ⟨rfl, ⟨rfl, trivial⟩⟩) (hj38 ((-1 : Int32), M1))
  · exact x_vret rfl dX12_value_12
theorem s205 {l : Launch} {d : Nat} {rec : Nat → List Value → Mem → XA} (hS : Nonempty XS) (hs : XSnd l xmt rec d) : Snd1 l 205 (b205 rec) d := by
  intro as M r M' h0
  unfold b205 at h0
  obtain ⟨a0, l1, e1, h1⟩ := aR_inv h0
  obtain ⟨ez, h⟩ := aZ_inv h1
  subst ez
  subst e1
  exact xmet (M := M) (as := [va_rf a0]) (lo := [some (va_rf a0)]) 205 xq205 xm205 (by rw [xargs_rf, xargs_nil]; exact ⟨rfl, trivial⟩) (by rw [xargs_rf, xargs_nil]; exact Nat.le_of_ble_eq_true rfl) (fun S G K => x_weak (by exact ⟨rfl, trivial⟩) (k205 hs a0 M)) h hS
set_option maxRecDepth 100000 in
def c206 (rec : Nat → List Value → Mem → XA) (a0 : Option Nat) (M0 : Mem) : XA :=
  gtI (13, 157) M0 a0 41 fun x1 =>
  jn (fun (s2 : Mem) =>
    some (.null, s2)) fun j63 =>
  if x1 = 0 then (
    gtI (13, 157) M0 a0 36 fun x3 =>
    jn (fun (s4 : Int32) =>
      vC (13, 157) M0 a0 <|
      cI (rec 193 [va_rf a0, .int s4] M0) fun x6 M5 =>
      if x6 = 0 then (
        j63 M5) else (
        gtI (13, 157) M5 a0 36 fun x7 =>
        jn (fun (s8 : Mem) =>
          some (.null, s8)) fun j202 =>
        if x7 = ((2 : Int32)) then (
          gtI (13, 157) M5 a0 40 fun x9 =>
          vC (13, 157) M5 a0 <|
          cI (rec 196 [va_rf a0, .int ((0 : Int32)), .int x9] M5) fun x11 M10 =>
          vC (13, 157) M10 a0 <|
          cV (rec 191 [va_rf a0] M10) fun M12 =>
          j202 M12) else (
          if x7 = ((1 : Int32)) then (
            vC (13, 157) M5 a0 <|
            cV (rec 205 [va_rf a0] M5) fun M13 =>
            j202 M13) else (
            vC (13, 157) M5 a0 <|
            cI (rec 200 [va_rf a0] M5) fun x15 M14 =>
            if x15 = 0 then (
              j202 M14) else (
              vC (13, 157) M14 a0 <|
              cV (rec 191 [va_rf a0] M14) fun M16 =>
              if x7 = ((40 : Int32)) then (
                vC (13, 157) M16 a0 <|
                cV (rec 211 [va_rf a0] M16) fun M17 =>
                gtI (13, 157) M17 a0 41 fun x18 =>
                if x18 = 0 then (
                  gtI (13, 157) M17 a0 36 fun x19 =>
                  jn (fun (s20 : Int32) =>
                    vC (13, 157) M17 a0 <|
                    cI (rec 193 [va_rf a0, .int s20] M17) fun x22 M21 =>
                    if x22 = 0 then (
                      j202 M21) else (
                      gtI (13, 157) M21 a0 50 fun x23 =>
                      ptI (13, 157) M21 a0 50 (x23 - ((1 : Int32))) fun M24 =>
                      vC (13, 157) M24 a0 <|
                      cV (rec 191 [va_rf a0] M24) fun M25 =>
                      j202 M25)) fun j146 =>
                  if x19 = ((41 : Int32)) then (
                    j146 ((1 : Int32))) else (
                    j146 ((0 : Int32)))) else (
                  j202 M17)) else (
                vC (13, 157) M16 a0 <|
                cV (rec 206 [va_rf a0] M16) fun M26 =>
                gtI (13, 157) M26 a0 50 fun x27 =>
                ptI (13, 157) M26 a0 50 (x27 - ((1 : Int32))) fun M28 =>
                jn (fun (s29 : Int32) =>
                  vC (13, 157) M28 a0 <|
                  cI (rec 196 [va_rf a0, .int s29, .int ((0 : Int32))] M28) fun x31 M30 =>
                  j202 M30) fun j197 =>
                if x7 = ((45 : Int32)) then (
                  j197 ((22 : Int32))) else (
                  j197 ((23 : Int32))))))))) fun j57 =>
    jn (fun (s32 : Unit) =>
      j57 ((1 : Int32))) fun j52 =>
    if x3 = ((2 : Int32)) then (
      j52 ()) else (
      gtI (13, 157) M0 a0 36 fun x33 =>
      if x33 = ((45 : Int32)) then (
        j52 ()) else (
        gtI (13, 157) M0 a0 36 fun x34 =>
        if x34 = ((425 : Int32)) then (
          j52 ()) else (
          gtI (13, 157) M0 a0 36 fun x35 =>
          if x35 = ((40 : Int32)) then (
            j52 ()) else (
            gtI (13, 157) M0 a0 36 fun x36 =>
            if x36 = ((1 : Int32)) then (
              j52 ()) else (
              j57 ((0 : Int32)))))))) else (
    j63 M0)
def b206 (rec : Nat → List Value → Mem → XA) (as : List Value) (M0 : Mem) : XA := aR as fun a0 as => aZ as (c206 rec a0 M0)
set_option maxRecDepth 100000 in
set_option maxHeartbeats 4000000 in
theorem k206 {S : XS} {G : XG} {K : Nat × Nat} {l : Launch} {d : Nat} {rec : Nat → List Value → Mem → XA} (hs : XSnd l xmt rec d) (a0 : Option Nat) (M0 : Mem) : Xe S G K l (yX12_factor, cX12_factor, 2, none) d 0 [some (va_rf a0), none] [] M0 (c206 rec a0 M0) := by
  unfold c206
  refine x_aload_n dX12_factor_0 rfl ?_
  refine gfX12_395 rfl dX12_factor_1 (fun x1 => ?_)
  refine x_jn (σ := Mem) 63 (fun s2 => [none, none]) (fun s2 => []) (fun s2 => s2) (fun s2 => ?_) (fun j63 hj63 => ?_)
  · exact x_vret rfl dX12_factor_63
  refine x_if_ne (tgt := 63) dX12_factor_4 (by decide) (fun _ => ?_) (fun _ => ?_)
  · refine x_aload_n dX12_factor_7 rfl ?_
    refine x_aload_n dX12_factor_8 rfl ?_
    refine gfX12_408 rfl dX12_factor_9 (fun x3 => ?_)
    refine x_iconst (v := 2) dX12_factor_12 (by decide) ?_
    refine x_jn (σ := Int32) 57 (fun s4 => [some (va_rf a0), none]) (fun s4 => [.int s4, va_rf a0]) (fun s4 => M0) (fun s4 => ?_) (fun j57 hj57 => ?_)
    · refine cmX12_432 rfl hs (Nat.le_of_ble_eq_true rfl) dX12_factor_57 (fun x6 M5 => ?_)
      refine x_if_ne (tgt := 64) dX12_factor_60 (by decide) (fun _ => ?_) (fun _ => ?_)
      · exact x_weak (by exact trivial) (hj63 M5)
      · refine x_aload_n dX12_factor_64 rfl ?_
        refine gfX12_408 rfl dX12_factor_65 (fun x7 => ?_)
        refine x_istore_n (lo' := [some (va_rf a0), some (.int x7)]) dX12_factor_68 (by decide) (xok_r rfl) rfl ?_
        refine x_iload_n dX12_factor_69 rfl ?_
        refine x_iconst (v := 2) dX12_factor_70 (by decide) ?_
        refine x_jn (σ := Mem) 202 (fun s8 => [none, none]) (fun s8 => []) (fun s8 => s8) (fun s8 => ?_) (fun j202 hj202 => ?_)
        · exact x_vret rfl dX12_factor_202
        refine x_icmp_ne (tgt := 91) dX12_factor_71 (by decide) (fun _ => ?_) (fun _ => ?_)
        · refine x_aload_n dX12_factor_74 rfl ?_
          refine x_iconst (v := 0) dX12_factor_75 (by decide) ?_
          refine x_aload_n dX12_factor_76 rfl ?_
          refine gfX12_422 rfl dX12_factor_77 (fun x9 => ?_)
          refine cmX12_465 rfl hs (Nat.le_of_ble_eq_true rfl) dX12_factor_80 (fun x11 M10 => ?_)
          refine x_pop dX12_factor_83 (xc1_i _) ?_
          refine x_aload_n dX12_factor_84 rfl ?_
          refine cmX12_436 rfl hs (Nat.le_of_ble_eq_true rfl) dX12_factor_85 (fun M12 => ?_)
          refine x_goto (tgt := 202) dX12_factor_88 (by decide) ?_
          exact x_weak (by exact trivial) (hj202 M12)
        · refine x_iload_n dX12_factor_91 rfl ?_
          refine x_iconst (v := 1) dX12_factor_92 (by decide) ?_
          refine x_icmp_ne (tgt := 103) dX12_factor_93 (by decide) (fun _ => ?_) (fun _ => ?_)
          · refine x_aload_n dX12_factor_96 rfl ?_
            refine cmX12_490 rfl hs (Nat.le_of_ble_eq_true rfl) dX12_factor_97 (fun M13 => ?_)
            refine x_goto (tgt := 202) dX12_factor_100 (by decide) ?_
            exact x_weak (by exact trivial) (hj202 M13)
          · refine x_aload_n dX12_factor_103 rfl ?_
            refine cmX12_469 rfl hs (Nat.le_of_ble_eq_true rfl) dX12_factor_104 (fun x15 M14 => ?_)
            refine x_if_eq (tgt := 202) dX12_factor_107 (by decide) (fun _ => ?_) (fun _ => ?_)
            · exact x_weak (by exact trivial) (hj202 M14)
            · refine x_aload_n dX12_factor_110 rfl ?_
              refine cmX12_436 rfl hs (Nat.le_of_ble_eq_true rfl) dX12_factor_111 (fun M16 => ?_)
              refine x_iload_n dX12_factor_114 rfl ?_
              refine x_bipush (v := 40) dX12_factor_115 (by decide) ?_
              refine x_icmp_ne (tgt := 169) dX12_factor_117 (by decide) (fun _ => ?_) (fun _ => ?_)
              · refine x_aload_n dX12_factor_120 rfl ?_
                refine cmX12_473 rfl hs (Nat.le_of_ble_eq_true rfl) dX12_factor_121 (fun M17 => ?_)
                refine x_aload_n dX12_factor_124 rfl ?_
                refine gfX12_395 rfl dX12_factor_125 (fun x18 => ?_)
                refine x_if_ne (tgt := 202) dX12_factor_128 (by decide) (fun _ => ?_) (fun _ => ?_)
                · refine x_aload_n dX12_factor_131 rfl ?_
                  refine x_aload_n dX12_factor_132 rfl ?_
                  refine gfX12_408 rfl dX12_factor_133 (fun x19 => ?_)
                  refine x_bipush (v := 41) dX12_factor_136 (by decide) ?_
                  refine x_jn (σ := Int32) 146 (fun s20 => [some (va_rf a0), none]) (fun s20 => [.int s20, va_rf a0]) (fun s20 => M17) (fun s20 => ?_) (fun j146 hj146 => ?_)
                  · refine cmX12_432 rfl hs (Nat.le_of_ble_eq_true rfl) dX12_factor_146 (fun x22 M21 => ?_)
                    refine x_if_eq (tgt := 202) dX12_factor_149 (by decide) (fun _ => ?_) (fun _ => ?_)
                    · exact x_weak (by exact trivial) (hj202 M21)
                    · refine x_aload_n dX12_factor_152 rfl ?_
                      refine x_dup dX12_factor_153 (xc1_r _) ?_
                      refine gfX12_459 rfl dX12_factor_154 (fun x23 => ?_)
                      refine x_iconst (v := 1) dX12_factor_157 (by decide) ?_
                      refine x_isub dX12_factor_158 ?_
                      refine pfX12_459 rfl dX12_factor_159 (fun M24 => ?_)
                      refine x_aload_n dX12_factor_162 rfl ?_
                      refine cmX12_436 rfl hs (Nat.le_of_ble_eq_true rfl) dX12_factor_163 (fun M25 => ?_)
                      refine x_goto (tgt := 202) dX12_factor_166 (by decide) ?_
                      exact x_weak (by exact trivial) (hj202 M25)
                  refine x_icmp_ne (tgt := 145) dX12_factor_138 (by decide) (fun _ => ?_) (fun _ => ?_)
                  · refine x_iconst (v := 1) dX12_factor_141 (by decide) ?_
                    refine x_goto (tgt := 146) dX12_factor_142 (by decide) ?_
                    exact x_weak (by exact ⟨rfl, trivial⟩) (hj146 ((1 : Int32)))
                  · refine x_iconst (v := 0) dX12_factor_145 (by decide) ?_
                    exact x_weak (by exact ⟨rfl, trivial⟩) (hj146 ((0 : Int32)))
                · exact x_weak (by exact trivial) (hj202 M17)
              · refine x_aload_n dX12_factor_169 rfl ?_
                refine cmX12_493 rfl hs (Nat.le_of_ble_eq_true rfl) dX12_factor_170 (fun M26 => ?_)
                refine x_aload_n dX12_factor_173 rfl ?_
                refine x_dup dX12_factor_174 (xc1_r _) ?_
                refine gfX12_459 rfl dX12_factor_175 (fun x27 => ?_)
                refine x_iconst (v := 1) dX12_factor_178 (by decide) ?_
                refine x_isub dX12_factor_179 ?_
                refine pfX12_459 rfl dX12_factor_180 (fun M28 => ?_)
                refine x_aload_n dX12_factor_183 rfl ?_
                refine x_iload_n dX12_factor_184 rfl ?_
                refine x_bipush (v := 45) dX12_factor_185 (by decide) ?_
                refine x_jn (σ := Int32) 197 (fun s29 => [none, none]) (fun s29 => [.int s29, va_rf a0]) (fun s29 => M28) (fun s29 => ?_) (fun j197 hj197 => ?_)
                · refine x_iconst (v := 0) dX12_factor_197 (by decide) ?_
                  refine cmX12_465 rfl hs (Nat.le_of_ble_eq_true rfl) dX12_factor_198 (fun x31 M30 => ?_)
                  refine x_pop dX12_factor_201 (xc1_i _) ?_
                  exact x_weak (by exact trivial) (hj202 M30)
                refine x_icmp_ne (tgt := 195) dX12_factor_187 (by decide) (fun _ => ?_) (fun _ => ?_)
                · refine x_bipush (v := 22) dX12_factor_190 (by decide) ?_
                  refine x_goto (tgt := 197) dX12_factor_192 (by decide) ?_
                  exact x_weak (by exact trivial) (hj197 ((22 : Int32)))
                · refine x_bipush (v := 23) dX12_factor_195 (by decide) ?_
                  exact x_weak (by exact trivial) (hj197 ((23 : Int32)))
    refine x_jn (σ := Unit) 52 (fun s32 => [some (va_rf a0), none]) (fun s32 => [va_rf a0]) (fun s32 => M0) (fun s32 => ?_) (fun j52 hj52 => ?_)
    · refine x_iconst (v := 1) dX12_factor_52 (by decide) ?_
      refine x_goto (tgt := 57) dX12_factor_53 (by decide) ?_
      exact x_weak (by exact ⟨rfl, trivial⟩) (hj57 ((1 : Int32)))
    refine x_icmp_eq (tgt := 52) dX12_factor_13 (by decide) (fun _ => ?_) (fun _ => ?_)
    · exact x_weak (by exact ⟨rfl, trivial⟩) (hj52 ())
    · refine x_aload_n dX12_factor_16 rfl ?_
      refine gfX12_408 rfl dX12_factor_17 (fun x33 => ?_)
      refine x_bipush (v := 45) dX12_factor_20 (by decide) ?_
      refine x_icmp_eq (tgt := 52) dX12_factor_22 (by decide) (fun _ => ?_) (fun _ => ?_)
      · exact x_weak (by exact ⟨rfl, trivial⟩) (hj52 ())
      · refine x_aload_n dX12_factor_25 rfl ?_
        refine gfX12_408 rfl dX12_factor_26 (fun x34 => ?_)
        refine x_sipush (v := 425) dX12_factor_29 (by decide) ?_
        refine x_icmp_eq (tgt := 52) dX12_factor_32 (by decide) (fun _ => ?_) (fun _ => ?_)
        · exact x_weak (by exact ⟨rfl, trivial⟩) (hj52 ())
        · refine x_aload_n dX12_factor_35 rfl ?_
          refine gfX12_408 rfl dX12_factor_36 (fun x35 => ?_)
          refine x_bipush (v := 40) dX12_factor_39 (by decide) ?_
          refine x_icmp_eq (tgt := 52) dX12_factor_41 (by decide) (fun _ => ?_) (fun _ => ?_)
          · exact x_weak (by exact ⟨rfl, trivial⟩) (hj52 ())
          · refine x_aload_n dX12_factor_44 rfl ?_
            refine gfX12_408 rfl dX12_factor_45 (fun x36 => ?_)
            refine x_iconst (v := 1) dX12_factor_48 (by decide) ?_
            refine x_icmp_ne (tgt := 56) dX12_factor_49 (by decide) (fun _ => ?_) (fun _ => ?_)
            · exact x_weak (by exact ⟨rfl, trivial⟩) (hj52 ())
            · refine x_iconst (v := 0) dX12_factor_56 (by decide) ?_
              exact x_weak (by exact ⟨rfl, trivial⟩) (hj57 ((0 : Int32)))
  · exact x_weak (by exact trivial) (hj63 M0)
theorem s206 {l : Launch} {d : Nat} {rec : Nat → List Value → Mem → XA} (hS : Nonempty XS) (hs : XSnd l xmt rec d) : Snd1 l 206 (b206 rec) d := by
  intro as M r M' h0
  unfold b206 at h0
  obtain ⟨a0, l1, e1, h1⟩ := aR_inv h0
  obtain ⟨ez, h⟩ := aZ_inv h1
  subst ez
  subst e1
  exact xmet (M := M) (as := [va_rf a0]) (lo := [some (va_rf a0)]) 206 xq206 xm206 (by rw [xargs_rf, xargs_nil]; exact ⟨rfl, trivial⟩) (by rw [xargs_rf, xargs_nil]; exact Nat.le_of_ble_eq_true rfl) (fun S G K => x_weak (by exact ⟨rfl, trivial⟩) (k206 hs a0 M)) h hS
set_option maxRecDepth 100000 in
def c207_4 (rec : Nat → List Value → Mem → XA) (a0 : Option Nat) (j87 : Mem → XA) : (Mem) → ((Mem) → XA) → XA := fun s3 j4 =>
  gtI (13, 157) s3 a0 41 fun x4 =>
  if x4 = 0 then (
    gtI (13, 157) s3 a0 36 fun x5 =>
    jn (fun (s6 : Unit) =>
      gtI (13, 157) s3 a0 36 fun x7 =>
      jn (fun (s8 : Int32) =>
        vC (13, 157) s3 a0 <|
        cV (rec 191 [va_rf a0] s3) fun M9 =>
        vC (13, 157) M9 a0 <|
        cV (rec 206 [va_rf a0] M9) fun M10 =>
        vC (13, 157) M10 a0 <|
        cI (rec 196 [va_rf a0, .int s8, .int ((0 : Int32))] M10) fun x12 M11 =>
        j4 M11) fun j68 =>
      if x7 = ((42 : Int32)) then (
        j68 ((12 : Int32))) else (
        gtI (13, 157) s3 a0 36 fun x13 =>
        if x13 = ((47 : Int32)) then (
          j68 ((13 : Int32))) else (
          j68 ((14 : Int32))))) fun j38 =>
    if x5 = ((42 : Int32)) then (
      j38 ()) else (
      gtI (13, 157) s3 a0 36 fun x14 =>
      if x14 = ((47 : Int32)) then (
        j38 ()) else (
        gtI (13, 157) s3 a0 36 fun x15 =>
        if x15 = ((37 : Int32)) then (
          j38 ()) else (
          j87 s3)))) else (
    j87 s3)
set_option maxRecDepth 100000 in
def c207 (rec : Nat → List Value → Mem → XA) (a0 : Option Nat) (M0 : Mem) : XA :=
  vC (13, 157) M0 a0 <|
  cV (rec 206 [va_rf a0] M0) fun M1 =>
  jn (fun (s2 : Mem) =>
    some (.null, s2)) fun j87 =>
  lp (c207_4 rec a0 j87) 4294967296 M1
def b207 (rec : Nat → List Value → Mem → XA) (as : List Value) (M0 : Mem) : XA := aR as fun a0 as => aZ as (c207 rec a0 M0)
set_option maxRecDepth 100000 in
set_option maxHeartbeats 4000000 in
theorem k207 {S : XS} {G : XG} {K : Nat × Nat} {l : Launch} {d : Nat} {rec : Nat → List Value → Mem → XA} (hs : XSnd l xmt rec d) (a0 : Option Nat) (M0 : Mem) : Xe S G K l (yX12_product, cX12_product, 2, none) d 0 [some (va_rf a0), none] [] M0 (c207 rec a0 M0) := by
  unfold c207
  refine x_aload_n dX12_product_0 rfl ?_
  refine cmX12_493 rfl hs (Nat.le_of_ble_eq_true rfl) dX12_product_1 (fun M1 => ?_)
  refine x_jn (σ := Mem) 87 (fun s2 => [none, none]) (fun s2 => []) (fun s2 => s2) (fun s2 => ?_) (fun j87 hj87 => ?_)
  · exact x_vret rfl dX12_product_87
  refine x_weak (by exact ⟨rfl, trivial⟩) (x_lp (σ := Mem) 4 (fun s3 => [some (va_rf a0), none]) (fun s3 => []) (fun s3 => s3) (fun s3 j4 hj4 => ?_) 4294967296 M1)
  · refine x_aload_n dX12_product_4 rfl ?_
    refine gfX12_395 rfl dX12_product_5 (fun x4 => ?_)
    refine x_if_ne (tgt := 87) dX12_product_8 (by decide) (fun _ => ?_) (fun _ => ?_)
    · refine x_aload_n dX12_product_11 rfl ?_
      refine gfX12_408 rfl dX12_product_12 (fun x5 => ?_)
      refine x_bipush (v := 42) dX12_product_15 (by decide) ?_
      refine x_jn (σ := Unit) 38 (fun s6 => [some (va_rf a0), none]) (fun s6 => []) (fun s6 => s3) (fun s6 => ?_) (fun j38 hj38 => ?_)
      · refine x_aload_n dX12_product_38 rfl ?_
        refine gfX12_408 rfl dX12_product_39 (fun x7 => ?_)
        refine x_bipush (v := 42) dX12_product_42 (by decide) ?_
        refine x_jn (σ := Int32) 68 (fun s8 => [some (va_rf a0), none]) (fun s8 => [.int s8]) (fun s8 => s3) (fun s8 => ?_) (fun j68 hj68 => ?_)
        · refine x_istore_n (lo' := [some (va_rf a0), some (.int s8)]) dX12_product_68 (by decide) (xok_r rfl) rfl ?_
          refine x_aload_n dX12_product_69 rfl ?_
          refine cmX12_436 rfl hs (Nat.le_of_ble_eq_true rfl) dX12_product_70 (fun M9 => ?_)
          refine x_aload_n dX12_product_73 rfl ?_
          refine cmX12_493 rfl hs (Nat.le_of_ble_eq_true rfl) dX12_product_74 (fun M10 => ?_)
          refine x_aload_n dX12_product_77 rfl ?_
          refine x_iload_n dX12_product_78 rfl ?_
          refine x_iconst (v := 0) dX12_product_79 (by decide) ?_
          refine cmX12_465 rfl hs (Nat.le_of_ble_eq_true rfl) dX12_product_80 (fun x12 M11 => ?_)
          refine x_pop dX12_product_83 (xc1_i _) ?_
          refine x_goto (tgt := 4) dX12_product_84 (by decide) ?_
          exact x_weak (by exact ⟨rfl, trivial⟩) (hj4 M11)
        refine x_icmp_ne (tgt := 52) dX12_product_44 (by decide) (fun _ => ?_) (fun _ => ?_)
        · refine x_bipush (v := 12) dX12_product_47 (by decide) ?_
          refine x_goto (tgt := 68) dX12_product_49 (by decide) ?_
          exact x_weak (by exact ⟨rfl, trivial⟩) (hj68 ((12 : Int32)))
        · refine x_aload_n dX12_product_52 rfl ?_
          refine gfX12_408 rfl dX12_product_53 (fun x13 => ?_)
          refine x_bipush (v := 47) dX12_product_56 (by decide) ?_
          refine x_icmp_ne (tgt := 66) dX12_product_58 (by decide) (fun _ => ?_) (fun _ => ?_)
          · refine x_bipush (v := 13) dX12_product_61 (by decide) ?_
            refine x_goto (tgt := 68) dX12_product_63 (by decide) ?_
            exact x_weak (by exact ⟨rfl, trivial⟩) (hj68 ((13 : Int32)))
          · refine x_bipush (v := 14) dX12_product_66 (by decide) ?_
            exact x_weak (by exact ⟨rfl, trivial⟩) (hj68 ((14 : Int32)))
      refine x_icmp_eq (tgt := 38) dX12_product_17 (by decide) (fun _ => ?_) (fun _ => ?_)
      · exact x_weak (by exact ⟨rfl, trivial⟩) (hj38 ())
      · refine x_aload_n dX12_product_20 rfl ?_
        refine gfX12_408 rfl dX12_product_21 (fun x14 => ?_)
        refine x_bipush (v := 47) dX12_product_24 (by decide) ?_
        refine x_icmp_eq (tgt := 38) dX12_product_26 (by decide) (fun _ => ?_) (fun _ => ?_)
        · exact x_weak (by exact ⟨rfl, trivial⟩) (hj38 ())
        · refine x_aload_n dX12_product_29 rfl ?_
          refine gfX12_408 rfl dX12_product_30 (fun x15 => ?_)
          refine x_bipush (v := 37) dX12_product_33 (by decide) ?_
          refine x_icmp_ne (tgt := 87) dX12_product_35 (by decide) (fun _ => ?_) (fun _ => ?_)
          · exact x_weak (by exact ⟨rfl, trivial⟩) (hj38 ())
          · exact x_weak (by exact trivial) (hj87 s3)
    · exact x_weak (by exact trivial) (hj87 s3)
theorem s207 {l : Launch} {d : Nat} {rec : Nat → List Value → Mem → XA} (hS : Nonempty XS) (hs : XSnd l xmt rec d) : Snd1 l 207 (b207 rec) d := by
  intro as M r M' h0
  unfold b207 at h0
  obtain ⟨a0, l1, e1, h1⟩ := aR_inv h0
  obtain ⟨ez, h⟩ := aZ_inv h1
  subst ez
  subst e1
  exact xmet (M := M) (as := [va_rf a0]) (lo := [some (va_rf a0)]) 207 xq207 xm207 (by rw [xargs_rf, xargs_nil]; exact ⟨rfl, trivial⟩) (by rw [xargs_rf, xargs_nil]; exact Nat.le_of_ble_eq_true rfl) (fun S G K => x_weak (by exact ⟨rfl, trivial⟩) (k207 hs a0 M)) h hS
set_option maxRecDepth 100000 in
def c208_4 (rec : Nat → List Value → Mem → XA) (a0 : Option Nat) (j64 : Mem → XA) : (Mem) → ((Mem) → XA) → XA := fun s3 j4 =>
  gtI (13, 157) s3 a0 41 fun x4 =>
  if x4 = 0 then (
    gtI (13, 157) s3 a0 36 fun x5 =>
    jn (fun (s6 : Unit) =>
      gtI (13, 157) s3 a0 36 fun x7 =>
      jn (fun (s8 : Int32) =>
        vC (13, 157) s3 a0 <|
        cV (rec 191 [va_rf a0] s3) fun M9 =>
        vC (13, 157) M9 a0 <|
        cV (rec 207 [va_rf a0] M9) fun M10 =>
        vC (13, 157) M10 a0 <|
        cI (rec 196 [va_rf a0, .int s8, .int ((0 : Int32))] M10) fun x12 M11 =>
        j4 M11) fun j45 =>
      if x7 = ((43 : Int32)) then (
        j45 ((10 : Int32))) else (
        j45 ((11 : Int32)))) fun j29 =>
    if x5 = ((43 : Int32)) then (
      j29 ()) else (
      gtI (13, 157) s3 a0 36 fun x13 =>
      if x13 = ((45 : Int32)) then (
        j29 ()) else (
        j64 s3))) else (
    j64 s3)
set_option maxRecDepth 100000 in
def c208 (rec : Nat → List Value → Mem → XA) (a0 : Option Nat) (M0 : Mem) : XA :=
  vC (13, 157) M0 a0 <|
  cV (rec 207 [va_rf a0] M0) fun M1 =>
  jn (fun (s2 : Mem) =>
    some (.null, s2)) fun j64 =>
  lp (c208_4 rec a0 j64) 4294967296 M1
def b208 (rec : Nat → List Value → Mem → XA) (as : List Value) (M0 : Mem) : XA := aR as fun a0 as => aZ as (c208 rec a0 M0)
set_option maxRecDepth 100000 in
set_option maxHeartbeats 4000000 in
theorem k208 {S : XS} {G : XG} {K : Nat × Nat} {l : Launch} {d : Nat} {rec : Nat → List Value → Mem → XA} (hs : XSnd l xmt rec d) (a0 : Option Nat) (M0 : Mem) : Xe S G K l (yX12_sum, cX12_sum, 2, none) d 0 [some (va_rf a0), none] [] M0 (c208 rec a0 M0) := by
  unfold c208
  refine x_aload_n dX12_sum_0 rfl ?_
  refine cmX12_496 rfl hs (Nat.le_of_ble_eq_true rfl) dX12_sum_1 (fun M1 => ?_)
  refine x_jn (σ := Mem) 64 (fun s2 => [none, none]) (fun s2 => []) (fun s2 => s2) (fun s2 => ?_) (fun j64 hj64 => ?_)
  · exact x_vret rfl dX12_sum_64
  refine x_weak (by exact ⟨rfl, trivial⟩) (x_lp (σ := Mem) 4 (fun s3 => [some (va_rf a0), none]) (fun s3 => []) (fun s3 => s3) (fun s3 j4 hj4 => ?_) 4294967296 M1)
  · refine x_aload_n dX12_sum_4 rfl ?_
    refine gfX12_395 rfl dX12_sum_5 (fun x4 => ?_)
    refine x_if_ne (tgt := 64) dX12_sum_8 (by decide) (fun _ => ?_) (fun _ => ?_)
    · refine x_aload_n dX12_sum_11 rfl ?_
      refine gfX12_408 rfl dX12_sum_12 (fun x5 => ?_)
      refine x_bipush (v := 43) dX12_sum_15 (by decide) ?_
      refine x_jn (σ := Unit) 29 (fun s6 => [some (va_rf a0), none]) (fun s6 => []) (fun s6 => s3) (fun s6 => ?_) (fun j29 hj29 => ?_)
      · refine x_aload_n dX12_sum_29 rfl ?_
        refine gfX12_408 rfl dX12_sum_30 (fun x7 => ?_)
        refine x_bipush (v := 43) dX12_sum_33 (by decide) ?_
        refine x_jn (σ := Int32) 45 (fun s8 => [some (va_rf a0), none]) (fun s8 => [.int s8]) (fun s8 => s3) (fun s8 => ?_) (fun j45 hj45 => ?_)
        · refine x_istore_n (lo' := [some (va_rf a0), some (.int s8)]) dX12_sum_45 (by decide) (xok_r rfl) rfl ?_
          refine x_aload_n dX12_sum_46 rfl ?_
          refine cmX12_436 rfl hs (Nat.le_of_ble_eq_true rfl) dX12_sum_47 (fun M9 => ?_)
          refine x_aload_n dX12_sum_50 rfl ?_
          refine cmX12_496 rfl hs (Nat.le_of_ble_eq_true rfl) dX12_sum_51 (fun M10 => ?_)
          refine x_aload_n dX12_sum_54 rfl ?_
          refine x_iload_n dX12_sum_55 rfl ?_
          refine x_iconst (v := 0) dX12_sum_56 (by decide) ?_
          refine cmX12_465 rfl hs (Nat.le_of_ble_eq_true rfl) dX12_sum_57 (fun x12 M11 => ?_)
          refine x_pop dX12_sum_60 (xc1_i _) ?_
          refine x_goto (tgt := 4) dX12_sum_61 (by decide) ?_
          exact x_weak (by exact ⟨rfl, trivial⟩) (hj4 M11)
        refine x_icmp_ne (tgt := 43) dX12_sum_35 (by decide) (fun _ => ?_) (fun _ => ?_)
        · refine x_bipush (v := 10) dX12_sum_38 (by decide) ?_
          refine x_goto (tgt := 45) dX12_sum_40 (by decide) ?_
          exact x_weak (by exact ⟨rfl, trivial⟩) (hj45 ((10 : Int32)))
        · refine x_bipush (v := 11) dX12_sum_43 (by decide) ?_
          exact x_weak (by exact ⟨rfl, trivial⟩) (hj45 ((11 : Int32)))
      refine x_icmp_eq (tgt := 29) dX12_sum_17 (by decide) (fun _ => ?_) (fun _ => ?_)
      · exact x_weak (by exact ⟨rfl, trivial⟩) (hj29 ())
      · refine x_aload_n dX12_sum_20 rfl ?_
        refine gfX12_408 rfl dX12_sum_21 (fun x13 => ?_)
        refine x_bipush (v := 45) dX12_sum_24 (by decide) ?_
        refine x_icmp_ne (tgt := 64) dX12_sum_26 (by decide) (fun _ => ?_) (fun _ => ?_)
        · exact x_weak (by exact ⟨rfl, trivial⟩) (hj29 ())
        · exact x_weak (by exact trivial) (hj64 s3)
    · exact x_weak (by exact trivial) (hj64 s3)
theorem s208 {l : Launch} {d : Nat} {rec : Nat → List Value → Mem → XA} (hS : Nonempty XS) (hs : XSnd l xmt rec d) : Snd1 l 208 (b208 rec) d := by
  intro as M r M' h0
  unfold b208 at h0
  obtain ⟨a0, l1, e1, h1⟩ := aR_inv h0
  obtain ⟨ez, h⟩ := aZ_inv h1
  subst ez
  subst e1
  exact xmet (M := M) (as := [va_rf a0]) (lo := [some (va_rf a0)]) 208 xq208 xm208 (by rw [xargs_rf, xargs_nil]; exact ⟨rfl, trivial⟩) (by rw [xargs_rf, xargs_nil]; exact Nat.le_of_ble_eq_true rfl) (fun S G K => x_weak (by exact ⟨rfl, trivial⟩) (k208 hs a0 M)) h hS
