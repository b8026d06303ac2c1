set_option maxRecDepth 100000 in
def c297_14 (rec : Nat → List Value → Mem → XA) (a0 : Option Nat) (a1 : Int32) (a2 : Int32) (j63 : Mem → XA) (j71 : Mem → XA) : (Int32 × Mem) → ((Int32 × Mem) → XA) → XA := fun s5 j14 =>
  gtP (13, 157) s5.2 a0 140 fun x6 =>
  alI 100 s5.2 x6 a1 fun x7 =>
  if x7 ≤ s5.1 then (
    j71 s5.2) else (
    vC (13, 157) s5.2 a0 <|
    cI (rec 296 [va_rf a0, .int a1, .int a2, .int s5.1] s5.2) fun x9 M8 =>
    jn (fun (s10 : Mem) =>
      lt (s5.1 + (1 : Int32)) fun (x11 : Int32) =>
      j14 (x11, s10)) fun j65 =>
    if x9 = 0 then (
      j65 M8) else (
      gtP (13, 157) M8 a0 146 fun x12 =>
      asI 100 M8 x12 a2 s5.1 fun M13 =>
      vC (13, 157) M13 a0 <|
      cI (rec 295 [va_rf a0, .int a1, .int (a2 + ((1 : Int32)))] M13) fun x15 M14 =>
      if x15 = 0 then (
        j65 M14) else (
        vC (13, 157) M14 a0 <|
        cI (rec 297 [va_rf a0, .int a1, .int (a2 + ((1 : Int32)))] M14) fun x17 M16 =>
        if x17 = 0 then (
          j65 M16) else (
          j63 M16))))
set_option maxRecDepth 100000 in
def c297 (rec : Nat → List Value → Mem → XA) (a0 : Option Nat) (a1 : Int32) (a2 : Int32) (M0 : Mem) : XA :=
  gtP (13, 157) M0 a0 140 fun x1 =>
  alI 100 M0 x1 a1 fun x2 =>
  if a2 = x2 then (
    rtZ ((1 : Int32)) M0) else (
    jn (fun (s3 : Mem) =>
      rtZ ((1 : Int32)) s3) fun j63 =>
    jn (fun (s4 : Mem) =>
      rtZ ((0 : Int32)) s4) fun j71 =>
    lp (c297_14 rec a0 a1 a2 j63 j71) 4294967296 ((0 : Int32), M0))
def b297 (rec : Nat → List Value → Mem → XA) (as : List Value) (M0 : Mem) : XA := aR as fun a0 as => aI as fun a1 as => aI as fun a2 as => aZ as (c297 rec a0 a1 a2 M0)
set_option maxRecDepth 100000 in
set_option maxHeartbeats 4000000 in
theorem k297 {S : XS} {G : XG} {K : Nat × Nat} {l : Launch} {d : Nat} {rec : Nat → List Value → Mem → XA} (hs : XSnd l xmt rec d) (a0 : Option Nat) (a1 : Int32) (a2 : Int32) (M0 : Mem) : Xe S G K l (yX12_rows, cX12_rows, 4, some .boolean) d 0 [some (va_rf a0), some (.int a1), some (.int a2), none] [] M0 (c297 rec a0 a1 a2 M0) := by
  unfold c297
  refine x_iload_n dX12_rows_0 rfl ?_
  refine x_aload_n dX12_rows_1 rfl ?_
  refine gfX12_342 rfl dX12_rows_2 (fun x1 => ?_)
  refine x_iload_n dX12_rows_5 rfl ?_
  refine x_iald dX12_rows_6 (fun x2 => ?_)
  refine x_icmp_ne (tgt := 12) dX12_rows_7 (by decide) (fun _ => ?_) (fun _ => ?_)
  · refine x_iconst (v := 1) dX12_rows_10 (by decide) ?_
    exact x_zret rfl dX12_rows_11
  · refine x_iconst (v := 0) dX12_rows_12 (by decide) ?_
    refine x_istore_n (lo' := [some (va_rf a0), some (.int a1), some (.int a2), some (.int ((0 : Int32)))]) dX12_rows_13 (by decide) rfl rfl ?_
    refine x_jn (σ := Mem) 63 (fun s3 => [none, none, none, none]) (fun s3 => []) (fun s3 => s3) (fun s3 => ?_) (fun j63 hj63 => ?_)
    · refine x_iconst (v := 1) dX12_rows_63 (by decide) ?_
      exact x_zret rfl dX12_rows_64
    refine x_jn (σ := Mem) 71 (fun s4 => [none, none, none, none]) (fun s4 => []) (fun s4 => s4) (fun s4 => ?_) (fun j71 hj71 => ?_)
    · refine x_iconst (v := 0) dX12_rows_71 (by decide) ?_
      exact x_zret rfl dX12_rows_72
    refine x_weak (by exact ⟨rfl, ⟨rfl, ⟨rfl, ⟨rfl, trivial⟩⟩⟩⟩) (x_lp (σ := Int32 × Mem) 14 (fun s5 => [some (va_rf a0), some (.int a1), some (.int a2), some (.int s5.1)]) (fun s5 => []) (fun s5 => s5.2) (fun s5 j14 hj14 => ?_) 4294967296 ((0 : Int32), M0))
    · refine x_iload_n dX12_rows_14 rfl ?_
      refine x_aload_n dX12_rows_15 rfl ?_
      refine gfX12_342 rfl dX12_rows_16 (fun x6 => ?_)
      refine x_iload_n dX12_rows_19 rfl ?_
      refine x_iald dX12_rows_20 (fun x7 => ?_)
      refine x_icmp_ge (tgt := 71) dX12_rows_21 (by decide) (fun _ => ?_) (fun _ => ?_)
      · exact x_weak (by exact trivial) (hj71 s5.2)
      · refine x_aload_n dX12_rows_24 rfl ?_
        refine x_iload_n dX12_rows_25 rfl ?_
        refine x_iload_n dX12_rows_26 rfl ?_
        refine x_iload_n dX12_rows_27 rfl ?_
        refine cmX12_819 rfl hs (Nat.le_of_ble_eq_true rfl) dX12_rows_28 (fun x9 M8 => ?_)
        refine x_jn (σ := Mem) 65 (fun s10 => [some (va_rf a0), some (.int a1), some (.int a2), some (.int s5.1)]) (fun s10 => []) (fun s10 => s10) (fun s10 => ?_) (fun j65 hj65 => ?_)
        · refine x_iincN (v := 1) (lo' := fun x11 => [some (va_rf a0), some (.int a1), some (.int a2), some (.int x11)]) (by decide) dX12_rows_65 rfl (by decide) rfl (fun _ => rfl) (fun x11 => ?_)
          refine x_goto (tgt := 14) dX12_rows_68 (by decide) ?_
          exact x_weak (by exact ⟨rfl, ⟨rfl, ⟨rfl, ⟨rfl, trivial⟩⟩⟩⟩) (hj14 (x11, s10))
        refine x_if_eq (tgt := 65) dX12_rows_31 (by decide) (fun _ => ?_) (fun _ => ?_)
        · exact x_weak (by exact ⟨rfl, ⟨rfl, ⟨rfl, ⟨rfl, trivial⟩⟩⟩⟩) (hj65 M8)
        · refine x_aload_n dX12_rows_34 rfl ?_
          refine gfX12_360 rfl dX12_rows_35 (fun x12 => ?_)
          refine x_iload_n dX12_rows_38 rfl ?_
          refine x_iload_n dX12_rows_39 rfl ?_
          refine x_iast dX12_rows_40 (fun M13 => ?_)
          refine x_aload_n dX12_rows_41 rfl ?_
          refine x_iload_n dX12_rows_42 rfl ?_
          refine x_iload_n dX12_rows_43 rfl ?_
          refine x_iconst (v := 1) dX12_rows_44 (by decide) ?_
          refine x_iadd dX12_rows_45 ?_
          refine cmX12_822 rfl hs (Nat.le_of_ble_eq_true rfl) dX12_rows_46 (fun x15 M14 => ?_)
          refine x_if_eq (tgt := 65) dX12_rows_49 (by decide) (fun _ => ?_) (fun _ => ?_)
          · exact x_weak (by exact ⟨rfl, ⟨rfl, ⟨rfl, ⟨rfl, trivial⟩⟩⟩⟩) (hj65 M14)
          · refine x_aload_n dX12_rows_52 rfl ?_
            refine x_iload_n dX12_rows_53 rfl ?_
            refine x_iload_n dX12_rows_54 rfl ?_
            refine x_iconst (v := 1) dX12_rows_55 (by decide) ?_
            refine x_iadd dX12_rows_56 ?_
            refine cmX12_825 rfl hs (Nat.le_of_ble_eq_true rfl) dX12_rows_57 (fun x17 M16 => ?_)
            refine x_if_eq (tgt := 65) dX12_rows_60 (by decide) (fun _ => ?_) (fun _ => ?_)
            · exact x_weak (by exact ⟨rfl, ⟨rfl, ⟨rfl, ⟨rfl, trivial⟩⟩⟩⟩) (hj65 M16)
            · exact x_weak (by exact trivial) (hj63 M16)
theorem s297 {l : Launch} {d : Nat} {rec : Nat → List Value → Mem → XA} (hS : Nonempty XS) (hs : XSnd l xmt rec d) : Snd1 l 297 (b297 rec) d := by
  intro as M r M' h0
  unfold b297 at h0
  obtain ⟨a0, l1, e1, h1⟩ := aR_inv h0
  obtain ⟨a1, l2, e2, h2⟩ := aI_inv h1
  obtain ⟨a2, l3, e3, h3⟩ := aI_inv h2
  obtain ⟨ez, h⟩ := aZ_inv h3
  subst ez
  subst e3
  subst e2
  subst e1
  exact xmet (M := M) (as := [va_rf a0, .int a1, .int a2]) (lo := [some (va_rf a0), some (.int a1), some (.int a2)]) 297 xq297 xm297 (by rw [xargs_rf, xargs_i, xargs_i, xargs_nil]; exact ⟨rfl, ⟨rfl, ⟨rfl, trivial⟩⟩⟩) (by rw [xargs_rf, xargs_i, xargs_i, xargs_nil]; exact Nat.le_of_ble_eq_true rfl) (fun S G K => x_weak (by exact ⟨rfl, ⟨rfl, ⟨rfl, trivial⟩⟩⟩) (k297 hs a0 a1 a2 M)) h hS
set_option maxRecDepth 100000 in
def c298 (rec : Nat → List Value → Mem → XA) (a0 : Option Nat) (a1 : Int32) (M0 : Mem) : XA :=
  gtI (13, 157) M0 a0 138 fun x1 =>
  cI (rec 184 [.int a1, .int ((0 : Int32)), .int (x1 - ((1 : Int32)))] M0) fun x3 M2 =>
  jn (fun (s4 : Int32 × Mem) =>
    some (.int s4.1, s4.2)) fun j27 =>
  if x3 = 0 then (
    j27 ((-1 : Int32), M2)) else (
    vC (13, 157) M2 a0 <|
    cI (rec 297 [va_rf a0, .int a1, .int ((0 : Int32))] M2) fun x6 M5 =>
    cI (rec 245 [.int x6] M5) fun x8 M7 =>
    j27 (x8, M7))
def b298 (rec : Nat → List Value → Mem → XA) (as : List Value) (M0 : Mem) : XA := aR as fun a0 as => aI as fun a1 as => aZ as (c298 rec a0 a1 M0)
set_option maxRecDepth 100000 in
set_option maxHeartbeats 4000000 in
theorem k298 {S : XS} {G : XG} {K : Nat × Nat} {l : Launch} {d : Nat} {rec : Nat → List Value → Mem → XA} (hs : XSnd l xmt rec d) (a0 : Option Nat) (a1 : Int32) (M0 : Mem) : Xe S G K l (yX12_linear, cX12_linear, 2, some .int) d 0 [some (va_rf a0), some (.int a1)] [] M0 (c298 rec a0 a1 M0) := by
  unfold c298
  refine x_iload_n dX12_linear_0 rfl ?_
  refine x_iconst (v := 0) dX12_linear_1 (by decide) ?_
  refine x_aload_n dX12_linear_2 rfl ?_
  refine gfX12_816 rfl dX12_linear_3 (fun x1 => ?_)
  refine x_iconst (v := 1) dX12_linear_6 (by decide) ?_
  refine x_isub dX12_linear_7 ?_
  refine cmX12_381 rfl hs (Nat.le_of_ble_eq_true rfl) dX12_linear_8 (fun x3 M2 => ?_)
  refine x_jn (σ := Int32 × Mem) 27 (fun s4 => [none, none]) (fun s4 => [.int s4.1]) (fun s4 => s4.2) (fun s4 => ?_) (fun j27 hj27 => ?_)
  · exact x_iret rfl dX12_linear_27
  refine x_if_ne (tgt := 18) dX12_linear_11 (by decide) (fun _ => ?_) (fun _ => ?_)
  · refine x_iconst (v := -1) dX12_linear_14 (by decide) ?_
    refine x_goto (tgt := 27) dX12_linear_15 (by decide) ?_
    exact x_weak (by exact trivial) (hj27 ((-1 : Int32), M2))
  · refine x_aload_n dX12_linear_18 rfl ?_
    refine x_iload_n dX12_linear_19 rfl ?_
    refine x_iconst (v := 0) dX12_linear_20 (by decide) ?_
    refine cmX12_825 rfl hs (Nat.le_of_ble_eq_true rfl) dX12_linear_21 (fun x6 M5 => ?_)
    refine cmX12_677 rfl hs (Nat.le_of_ble_eq_true rfl) dX12_linear_24 (fun x8 M7 => ?_)
    exact x_weak (by exact trivial) (hj27 (x8, M7))
theorem s298 {l : Launch} {d : Nat} {rec : Nat → List Value → Mem → XA} (hS : Nonempty XS) (hs : XSnd l xmt rec d) : Snd1 l 298 (b298 rec) d := by
  intro as M r M' h0
  unfold b298 at h0
  obtain ⟨a0, l1, e1, h1⟩ := aR_inv h0
  obtain ⟨a1, l2, e2, h2⟩ := aI_inv h1
  obtain ⟨ez, h⟩ := aZ_inv h2
  subst ez
  subst e2
  subst e1
  exact xmet (M := M) (as := [va_rf a0, .int a1]) (lo := [some (va_rf a0), some (.int a1)]) 298 xq298 xm298 (by rw [xargs_rf, xargs_i, xargs_nil]; exact ⟨rfl, ⟨rfl, trivial⟩⟩) (by rw [xargs_rf, xargs_i, xargs_nil]; exact Nat.le_of_ble_eq_true rfl) (fun S G K => x_weak (by exact ⟨rfl, ⟨rfl, trivial⟩⟩) (k298 hs a0 a1 M)) h hS
set_option maxRecDepth 100000 in
def c299 (rec : Nat → List Value → Mem → XA) (a0 : Option Nat) (a1 : Int32) (a2 : Int32) (M0 : Mem) : XA :=
  gtI (13, 157) M0 a0 138 fun x1 =>
  cI (rec 184 [.int a1, .int ((0 : Int32)), .int (x1 - ((1 : Int32)))] M0) fun x3 M2 =>
  jn (fun (s4 : Mem) =>
    some (.int ((-1 : Int32)), s4)) fun j30 =>
  if x3 = 0 then (
    j30 M2) else (
    gtP (13, 157) M2 a0 140 fun x5 =>
    alI 100 M2 x5 a1 fun x6 =>
    cI (rec 184 [.int a2, .int ((0 : Int32)), .int (x6 - ((1 : Int32)))] M2) fun x8 M7 =>
    if x8 = 0 then (
      j30 M7) else (
      vC (13, 157) M7 a0 <|
      cI (rec 297 [va_rf a0, .int a1, .int ((0 : Int32))] M7) fun x10 M9 =>
      jn (fun (s11 : Int32) =>
        some (.int s11, M9)) fun j52 =>
      if x10 = 0 then (
        j52 ((-2 : Int32))) else (
        gtP (13, 157) M9 a0 146 fun x12 =>
        alI 100 M9 x12 a2 fun x13 =>
        j52 x13)))
def b299 (rec : Nat → List Value → Mem → XA) (as : List Value) (M0 : Mem) : XA := aR as fun a0 as => aI as fun a1 as => aI as fun a2 as => aZ as (c299 rec a0 a1 a2 M0)
set_option maxRecDepth 100000 in
set_option maxHeartbeats 4000000 in
theorem k299 {S : XS} {G : XG} {K : Nat × Nat} {l : Launch} {d : Nat} {rec : Nat → List Value → Mem → XA} (hs : XSnd l xmt rec d) (a0 : Option Nat) (a1 : Int32) (a2 : Int32) (M0 : Mem) : Xe S G K l (yX12_place, cX12_place, 3, some .int) d 0 [some (va_rf a0), some (.int a1), some (.int a2)] [] M0 (c299 rec a0 a1 a2 M0) := by
  unfold c299
  refine x_iload_n dX12_place_0 rfl ?_
  refine x_iconst (v := 0) dX12_place_1 (by decide) ?_
  refine x_aload_n dX12_place_2 rfl ?_
  refine gfX12_816 rfl dX12_place_3 (fun x1 => ?_)
  refine x_iconst (v := 1) dX12_place_6 (by decide) ?_
  refine x_isub dX12_place_7 ?_
  refine cmX12_381 rfl hs (Nat.le_of_ble_eq_true rfl) dX12_place_8 (fun x3 M2 => ?_)
  refine x_jn (σ := Mem) 30 (fun s4 => [none, none, none]) (fun s4 => []) (fun s4 => s4) (fun s4 => ?_) (fun j30 hj30 => ?_)
  · refine x_iconst (v := -1) dX12_place_30 (by decide) ?_
    exact x_iret rfl dX12_place_31
  refine x_if_eq (tgt := 30) dX12_place_11 (by decide) (fun _ => ?_) (fun _ => ?_)
  · exact x_weak (by exact trivial) (hj30 M2)
  · refine x_iload_n dX12_place_14 rfl ?_
    refine x_iconst (v := 0) dX12_place_15 (by decide) ?_
    refine x_aload_n dX12_place_16 rfl ?_
    refine gfX12_342 rfl dX12_place_17 (fun x5 => ?_)
    refine x_iload_n dX12_place_20 rfl ?_
    refine x_iald dX12_place_21 (fun x6 => ?_)
    refine x_iconst (v := 1) dX12_place_22 (by decide) ?_
    refine x_isub dX12_place_23 ?_
    refine cmX12_381 rfl hs (Nat.le_of_ble_eq_true rfl) dX12_place_24 (fun x8 M7 => ?_)
    refine x_if_ne (tgt := 32) dX12_place_27 (by decide) (fun _ => ?_) (fun _ => ?_)
    · exact x_weak (by exact trivial) (hj30 M7)
    · refine x_aload_n dX12_place_32 rfl ?_
      refine x_iload_n dX12_place_33 rfl ?_
      refine x_iconst (v := 0) dX12_place_34 (by decide) ?_
      refine cmX12_825 rfl hs (Nat.le_of_ble_eq_true rfl) dX12_place_35 (fun x10 M9 => ?_)
      refine x_jn (σ := Int32) 52 (fun s11 => [none, none, none]) (fun s11 => [.int s11]) (fun s11 => M9) (fun s11 => ?_) (fun j52 hj52 => ?_)
      · exact x_iret rfl dX12_place_52
      refine x_if_eq (tgt := 50) dX12_place_38 (by decide) (fun _ => ?_) (fun _ => ?_)
      · refine x_bipush (v := -2) dX12_place_50 (by decide) ?_
        exact x_weak (by exact trivial) (hj52 ((-2 : Int32)))
      · refine x_aload_n dX12_place_41 rfl ?_
        refine gfX12_360 rfl dX12_place_42 (fun x12 => ?_)
        refine x_iload_n dX12_place_45 rfl ?_
        refine x_iald dX12_place_46 (fun x13 => ?_)
        refine x_goto (tgt := 52) dX12_place_47 (by decide) ?_
        exact x_weak (by exact trivial) (hj52 x13)
theorem s299 {l : Launch} {d : Nat} {rec : Nat → List Value → Mem → XA} (hS : Nonempty XS) (hs : XSnd l xmt rec d) : Snd1 l 299 (b299 rec) d := by
  intro as M r M' h0
  unfold b299 at h0
  obtain ⟨a0, l1, e1, h1⟩ := aR_inv h0
  obtain ⟨a1, l2, e2, h2⟩ := aI_inv h1
  obtain ⟨a2, l3, e3, h3⟩ := aI_inv h2
  obtain ⟨ez, h⟩ := aZ_inv h3
  subst ez
  subst e3
  subst e2
  subst e1
  exact xmet (M := M) (as := [va_rf a0, .int a1, .int a2]) (lo := [some (va_rf a0), some (.int a1), some (.int a2)]) 299 xq299 xm299 (by rw [xargs_rf, xargs_i, xargs_i, xargs_nil]; exact ⟨rfl, ⟨rfl, ⟨rfl, trivial⟩⟩⟩) (by rw [xargs_rf, xargs_i, xargs_i, xargs_nil]; exact Nat.le_of_ble_eq_true rfl) (fun S G K => x_weak (by exact ⟨rfl, ⟨rfl, ⟨rfl, trivial⟩⟩⟩) (k299 hs a0 a1 a2 M)) h hS
set_option maxRecDepth 100000 in
def c300_6 (rec : Nat → List Value → Mem → XA) (j31 : Int64 → XA) : (Int64 × Int64) → ((Int64 × Int64) → XA) → XA := fun s2 j6 =>
  if (lg_cmp s2.2 ((0 : Int64))) = 0 then (
    j31 s2.1) else (
    if s2.2 = 0 then none else
    lt (lrem s2.1 s2.2) fun (x3 : Int64) =>
    j6 (s2.2, x3))
set_option maxRecDepth 100000 in
def c300 (rec : Nat → List Value → Mem → XA) (a0 : Int64) (a1 : Int64) (M0 : Mem) : XA :=
  jn (fun (s1 : Int64) =>
    some (.long s1, M0)) fun j31 =>
  lp (c300_6 rec j31) 4294967296 (a0, a1)
def b300 (rec : Nat → List Value → Mem → XA) (as : List Value) (M0 : Mem) : XA := aL as fun a0 as => aL as fun a1 as => aZ as (c300 rec a0 a1 M0)
set_option maxRecDepth 100000 in
set_option maxHeartbeats 4000000 in
theorem k300 {S : XS} {G : XG} {K : Nat × Nat} {l : Launch} {d : Nat} {rec : Nat → List Value → Mem → XA} (hs : XSnd l xmt rec d) (a0 : Int64) (a1 : Int64) (M0 : Mem) : Xe S G K l (yX12_common, cX12_common, 10, some .long) d 0 [some (.long a0), none, some (.long a1), none, none, none, none, none, none, none] [] M0 (c300 rec a0 a1 M0) := by
  unfold c300
  refine x_lload_n dX12_common_0 rfl ?_
  refine x_lstore (lo' := [some (.long a0), none, some (.long a1), none, some (.long a0), none, none, none, none, none]) dX12_common_1 (by decide) rfl rfl ?_
  refine x_lload_n dX12_common_3 rfl ?_
  refine x_lstore (lo' := [some (.long a0), none, some (.long a1), none, some (.long a0), none, some (.long a1), none, none, none]) dX12_common_4 (by decide) rfl rfl ?_
  refine x_jn (σ := Int64) 31 (fun s1 => [none, none, none, none, some (.long s1), none, none, none, none, none]) (fun s1 => []) (fun s1 => M0) (fun s1 => ?_) (fun j31 hj31 => ?_)
  · refine x_lload dX12_common_31 rfl ?_
    exact x_lret rfl dX12_common_33
  refine x_weak (by exact ⟨rfl, ⟨rfl, trivial⟩⟩) (x_lp (σ := Int64 × Int64) 6 (fun s2 => [none, none, none, none, some (.long s2.1), none, some (.long s2.2), none, none, none]) (fun s2 => []) (fun s2 => M0) (fun s2 j6 hj6 => ?_) 4294967296 (a0, a1))
  · refine x_lload dX12_common_6 rfl ?_
    refine x_lconst (v := 0) dX12_common_8 (by decide) ?_
    refine x_lcmp dX12_common_9 ?_
    refine x_if_eq (tgt := 31) dX12_common_10 (by decide) (fun _ => ?_) (fun _ => ?_)
    · exact x_weak (by exact ⟨rfl, trivial⟩) (hj31 s2.1)
    · refine x_lload dX12_common_13 rfl ?_
      refine x_lload dX12_common_15 rfl ?_
      refine x_lrem dX12_common_17 (fun _ => ?_)
      refine x_ltL (fun x3 => ?_)
      refine x_lstore (lo' := [none, none, none, none, some (.long s2.1), none, some (.long s2.2), none, some (.long x3), none]) dX12_common_18 (by decide) rfl rfl ?_
      refine x_lload dX12_common_20 rfl ?_
      refine x_lstore (lo' := [none, none, none, none, some (.long s2.2), none, some (.long s2.2), none, some (.long x3), none]) dX12_common_22 (by decide) rfl rfl ?_
      refine x_lload dX12_common_24 rfl ?_
      refine x_lstore (lo' := [none, none, none, none, some (.long s2.2), none, some (.long x3), none, some (.long x3), none]) dX12_common_26 (by decide) rfl rfl ?_
      refine x_goto (tgt := 6) dX12_common_28 (by decide) ?_
      exact x_weak (by exact ⟨rfl, ⟨rfl, trivial⟩⟩) (hj6 (s2.2, x3))
theorem s300 {l : Launch} {d : Nat} {rec : Nat → List Value → Mem → XA} (hS : Nonempty XS) (hs : XSnd l xmt rec d) : Snd1 l 300 (b300 rec) d := by
  intro as M r M' h0
  unfold b300 at h0
  obtain ⟨a0, l1, e1, h1⟩ := aL_inv h0
  obtain ⟨a1, l2, e2, h2⟩ := aL_inv h1
  obtain ⟨ez, h⟩ := aZ_inv h2
  subst ez
  subst e2
  subst e1
  exact xmet (M := M) (as := [.long a0, .long a1]) (lo := [some (.long a0), none, some (.long a1)]) 300 xq300 xm300 (by rw [xargs_l, xargs_l, xargs_nil]; exact ⟨rfl, ⟨rfl, trivial⟩⟩) (by rw [xargs_l, xargs_l, xargs_nil]; exact Nat.le_of_ble_eq_true rfl) (fun S G K => x_weak (by exact ⟨rfl, ⟨rfl, trivial⟩⟩) (k300 hs a0 a1 M)) h hS
set_option maxRecDepth 100000 in
def c301_242 (rec : Nat → List Value → Mem → XA) (a0 : Option Nat) (j289 : Mem → XA) : (Mem) → ((Mem) → XA) → XA := fun s32 j242 =>
  gtI (13, 157) s32 a0 98 fun x33 =>
  if x33 ≤ 0 then (
    j289 s32) else (
    gtP (13, 157) s32 a0 99 fun x34 =>
    gtI (13, 157) s32 a0 98 fun x35 =>
    alI 100 s32 x34 (x35 - ((1 : Int32))) fun x36 =>
    gtP (13, 157) s32 a0 100 fun x37 =>
    gtI (13, 157) s32 a0 98 fun x38 =>
    alI 100 s32 x37 (x38 - ((1 : Int32))) fun x39 =>
    if (x36 + ((1 : Int32))) < x39 then (
      j289 s32) else (
      gtI (13, 157) s32 a0 98 fun x40 =>
      ptI (13, 157) s32 a0 98 (x40 - ((1 : Int32))) fun M41 =>
      j242 M41))
set_option maxRecDepth 100000 in
def c301_99 (rec : Nat → List Value → Mem → XA) (a0 : Option Nat) (M17 : Mem) (j141 : Int64 → XA) : (Int64 × Int32) → ((Int64 × Int32) → XA) → XA := fun s58 j99 =>
  gtI (13, 157) M17 a0 82 fun x59 =>
  if x59 ≤ s58.2 then (
    j141 s58.1) else (
    jn (fun (s60 : Int64) =>
      lt (s58.2 + (1 : Int32)) fun (x61 : Int32) =>
      j99 (s60, x61)) fun j133 =>
    if (lg_cmp s58.1 ((1000000000 : Int64))) ≤ 0 then (
      gtP (13, 157) M17 a0 100 fun x62 =>
      alI 100 M17 x62 s58.2 fun x63 =>
      j133 (s58.1 * x63.toInt64)) else (
      j133 s58.1))
set_option maxRecDepth 100000 in
def c301_47 (rec : Nat → List Value → Mem → XA) (a0 : Option Nat) (a1 : Int32) (a2 : Int32) (j349 : Int32 × Int64 × Int64 × Int32 × Mem → XA) : (Int32 × Int64 × Int64 × Int32 × Int32 × Mem) → ((Int32 × Int64 × Int64 × Int32 × Int32 × Mem) → XA) → XA := fun s14 j47 =>
  if s14.2.2.2.2.1 = 0 then (
    j349 (s14.1, s14.2.1, s14.2.2.1, s14.2.2.2.1, s14.2.2.2.2.2)) else (
    gtI (13, 157) s14.2.2.2.2.2 a0 84 fun x15 =>
    if x15 = 0 then (
      vC (13, 157) s14.2.2.2.2.2 a0 <|
      cV (rec 235 [va_rf a0, .int a1, .int ((-1 : Int32))] s14.2.2.2.2.2) fun M16 =>
      vC (13, 157) M16 a0 <|
      cV (rec 254 [va_rf a0, .int a2] M16) fun M17 =>
      lt (s14.1 + (1 : Int32)) fun (x18 : Int32) =>
      gtI (13, 157) M17 a0 101 fun x19 =>
      jn (fun (s20 : Int64 × Int64 × Int32 × Mem) =>
        jn (fun (s21 : Mem) =>
          gtI (13, 157) s21 a0 98 fun x22 =>
          jn (fun (s23 : Int32) =>
            if s23 = 0 then (
              j47 (x18, s20.1, s20.2.1, s20.2.2.1, s23, s21)) else (
              gtP (13, 157) s21 a0 99 fun x24 =>
              gtI (13, 157) s21 a0 98 fun x25 =>
              alI 100 s21 x24 (x25 - ((1 : Int32))) fun x26 =>
              asI 100 s21 x24 (x25 - ((1 : Int32))) ((x26 + ((1 : Int32)))) fun M27 =>
              gtI (13, 157) M27 a0 84 fun x28 =>
              jn (fun (s29 : Int32) =>
                ptZ (13, 157) M27 a0 84 s29 fun M30 =>
                j47 (x18, s20.1, s20.2.1, s20.2.2.1, s23, M30)) fun j343 =>
              jn (fun (s31 : Unit) =>
                j343 ((1 : Int32))) fun j338 =>
              if x28 = 0 then (
                if x18 = ((400 : Int32)) then (
                  j338 ()) else (
                  j343 ((0 : Int32)))) else (
                j338 ()))) fun j301 =>
          if x22 ≤ 0 then (
            j301 ((0 : Int32))) else (
            j301 ((1 : Int32)))) fun j289 =>
        lp (c301_242 rec a0 j289) 4294967296 s20.2.2.2) fun j242 =>
      if x19 = ((1 : Int32)) then (
        if s14.2.2.2.1 = 0 then (
          gtI (13, 157) M17 a0 84 fun x42 =>
          if x42 = 0 then (
            jn (fun (s43 : Int64) =>
              jn (fun (s44 : Int32) =>
                if s44 = 0 then (
                  cL (rec 300 [.long s14.2.2.1, .long s43] M17) fun x46 M45 =>
                  if x46 = 0 then none else
                  cL (rec 300 [.long s14.2.2.1, .long s43] M45) fun x48 M47 =>
                  if x48 = 0 then none else
                  lt ((s14.2.1 * (s43 / x46)) + (s14.2.2.1 / x48)) fun (x49 : Int64) =>
                  cL (rec 300 [.long s14.2.2.1, .long s43] M47) fun x51 M50 =>
                  if x51 = 0 then none else
                  lt ((s14.2.2.1 / x51) * s43) fun (x52 : Int64) =>
                  cL (rec 300 [.long x49, .long x52] M50) fun x54 M53 =>
                  if x54 = 0 then none else
                  lt (x49 / x54) fun (x55 : Int64) =>
                  if x54 = 0 then none else
                  lt (x52 / x54) fun (x56 : Int64) =>
                  jn (fun (s57 : Int32) =>
                    j242 (x55, x56, s57, M53)) fun j240 =>
                  if (lg_cmp x56 ((1000000000 : Int64))) ≤ 0 then (
                    j240 ((0 : Int32))) else (
                    j240 ((1 : Int32)))) else (
                  j242 (s14.2.1, s14.2.2.1, s44, M17))) fun j155 =>
              if (lg_cmp s43 ((1000000000 : Int64))) ≤ 0 then (
                j155 ((0 : Int32))) else (
                j155 ((1 : Int32)))) fun j141 =>
            lp (c301_99 rec a0 M17 j141) 4294967296 ((1 : Int64), (0 : Int32))) else (
            j242 (s14.2.1, s14.2.2.1, s14.2.2.2.1, M17))) else (
          j242 (s14.2.1, s14.2.2.1, s14.2.2.2.1, M17))) else (
        j242 (s14.2.1, s14.2.2.1, s14.2.2.2.1, M17))) else (
      j349 (s14.1, s14.2.1, s14.2.2.1, s14.2.2.2.1, s14.2.2.2.2.2)))
set_option maxRecDepth 100000 in
def c301 (rec : Nat → List Value → Mem → XA) (a0 : Option Nat) (a1 : Int32) (a2 : Int32) (M0 : Mem) : XA :=
  vC (13, 157) M0 a0 <|
  cI (rec 256 [va_rf a0, .int a1, .int a2] M0) fun x2 M1 =>
  if x2 = 0 then (
    some (.int ((-1 : Int32)), M1)) else (
    ptI (13, 157) M1 a0 83 ((20000 : Int32)) fun M3 =>
    ptZ (13, 157) M3 a0 84 ((0 : Int32)) fun M4 =>
    ptZ (13, 157) M4 a0 97 ((1 : Int32)) fun M5 =>
    ptI (13, 157) M5 a0 98 ((0 : Int32)) fun M6 =>
    jn (fun (s7 : Int32 × Int64 × Int64 × Int32 × Mem) =>
      ptZ (13, 157) s7.2.2.2.2 a0 97 ((0 : Int32)) fun M8 =>
      gtI (13, 157) M8 a0 84 fun x9 =>
      if x9 = 0 then (
        if s7.2.2.2.1 = 0 then (
          ptZ (13, 157) M8 a0 148 ((1 : Int32)) fun M10 =>
          ptL (13, 157) M10 a0 149 s7.2.1 fun M11 =>
          ptL (13, 157) M11 a0 150 s7.2.2.1 fun M12 =>
          some (.int s7.1, M12)) else (
          some (.int ((-5 : Int32)), M8))) else (
        ptZ (13, 157) M8 a0 84 ((0 : Int32)) fun M13 =>
        some (.int ((-4 : Int32)), M13))) fun j349 =>
    lp (c301_47 rec a0 a1 a2 j349) 4294967296 ((0 : Int32), (0 : Int64), (1 : Int64), (0 : Int32), (1 : Int32), M6))
def b301 (rec : Nat → List Value → Mem → XA) (as : List Value) (M0 : Mem) : XA := aR as fun a0 as => aI as fun a1 as => aI as fun a2 as => aZ as (c301 rec a0 a1 a2 M0)
set_option maxRecDepth 100000 in
set_option maxHeartbeats 4000000 in
theorem k301 {S : XS} {G : XG} {K : Nat × Nat} {l : Launch} {d : Nat} {rec : Nat → List Value → Mem → XA} (hs : XSnd l xmt rec d) (a0 : Option Nat) (a1 : Int32) (a2 : Int32) (M0 : Mem) : Xe S G K l (yX12_luck, cX12_luck, 18, some .int) d 0 [some (va_rf a0), some (.int a1), some (.int a2), none, none, none, none, none, none, none, none, none, none, none, none, none, none, none] [] M0 (c301 rec a0 a1 a2 M0) := by
  unfold c301
  refine x_aload_n dX12_luck_0 rfl ?_
  refine x_iload_n dX12_luck_1 rfl ?_
  refine x_iload_n dX12_luck_2 rfl ?_
  refine cmX12_747 rfl hs (Nat.le_of_ble_eq_true rfl) dX12_luck_3 (fun x2 M1 => ?_)
  refine x_if_ne (tgt := 11) dX12_luck_6 (by decide) (fun _ => ?_) (fun _ => ?_)
  · refine x_iconst (v := -1) dX12_luck_9 (by decide) ?_
    exact x_iret rfl dX12_luck_10
  · refine x_aload_n dX12_luck_11 rfl ?_
    refine x_sipush (v := 20000) dX12_luck_12 (by decide) ?_
    refine pfX12_644 rfl dX12_luck_15 (fun M3 => ?_)
    refine x_aload_n dX12_luck_18 rfl ?_
    refine x_iconst (v := 0) dX12_luck_19 (by decide) ?_
    refine pfX12_647 rfl dX12_luck_20 (fun M4 => ?_)
    refine x_aload_n dX12_luck_23 rfl ?_
    refine x_iconst (v := 1) dX12_luck_24 (by decide) ?_
    refine pfX12_682 rfl dX12_luck_25 (fun M5 => ?_)
    refine x_aload_n dX12_luck_28 rfl ?_
    refine x_iconst (v := 0) dX12_luck_29 (by decide) ?_
    refine pfX12_688 rfl dX12_luck_30 (fun M6 => ?_)
    refine x_iconst (v := 0) dX12_luck_33 (by decide) ?_
    refine x_istore_n (lo' := [some (va_rf a0), some (.int a1), some (.int a2), some (.int ((0 : Int32))), none, none, none, none, none, none, none, none, none, none, none, none, none, none]) dX12_luck_34 (by decide) rfl rfl ?_
    refine x_lconst (v := 0) dX12_luck_35 (by decide) ?_
    refine x_lstore (lo' := [some (va_rf a0), some (.int a1), some (.int a2), some (.int ((0 : Int32))), some (.long ((0 : Int64))), none, none, none, none, none, none, none, none, none, none, none, none, none]) dX12_luck_36 (by decide) rfl rfl ?_
    refine x_lconst (v := 1) dX12_luck_38 (by decide) ?_
    refine x_lstore (lo' := [some (va_rf a0), some (.int a1), some (.int a2), some (.int ((0 : Int32))), some (.long ((0 : Int64))), none, some (.long ((1 : Int64))), none, none, none, none, none, none, none, none, none, none, none]) dX12_luck_39 (by decide) rfl rfl ?_
    refine x_iconst (v := 0) dX12_luck_41 (by decide) ?_
    refine x_istore (lo' := [some (va_rf a0), some (.int a1), some (.int a2), some (.int ((0 : Int32))), some (.long ((0 : Int64))), none, some (.long ((1 : Int64))), none, some (.int ((0 : Int32))), none, none, none, none, none, none, none, none, none]) dX12_luck_42 (by decide) rfl rfl ?_
    refine x_iconst (v := 1) dX12_luck_44 (by decide) ?_
    refine x_istore (lo' := [some (va_rf a0), some (.int a1), some (.int a2), some (.int ((0 : Int32))), some (.long ((0 : Int64))), none, some (.long ((1 : Int64))), none, some (.int ((0 : Int32))), some (.int ((1 : Int32))), none, none, none, none, none, none, none, none]) dX12_luck_45 (by decide) rfl rfl ?_
    refine x_jn (σ := Int32 × Int64 × Int64 × Int32 × Mem) 349 (fun s7 => [some (va_rf a0), none, none, some (.int s7.1), some (.long s7.2.1), none, some (.long s7.2.2.1), none, some (.int s7.2.2.2.1), none, none, none, none, none, none, none, none, none]) (fun s7 => []) (fun s7 => s7.2.2.2.2) (fun s7 => ?_) (fun j349 hj349 => ?_)
    · refine x_aload_n dX12_luck_349 rfl ?_
      refine x_iconst (v := 0) dX12_luck_350 (by decide) ?_
      refine pfX12_682 rfl dX12_luck_351 (fun M8 => ?_)
      refine x_aload_n dX12_luck_354 rfl ?_
      refine gfX12_647 rfl dX12_luck_355 (fun x9 => ?_)
      refine x_if_eq (tgt := 369) dX12_luck_358 (by decide) (fun _ => ?_) (fun _ => ?_)
      · refine x_iload dX12_luck_369 rfl ?_
        refine x_if_eq (tgt := 377) dX12_luck_371 (by decide) (fun _ => ?_) (fun _ => ?_)
        · refine x_aload_n dX12_luck_377 rfl ?_
          refine x_iconst (v := 1) dX12_luck_378 (by decide) ?_
          refine pfX12_834 rfl dX12_luck_379 (fun M10 => ?_)
          refine x_aload_n dX12_luck_382 rfl ?_
          refine x_lload dX12_luck_383 rfl ?_
          refine pfX12_837 rfl dX12_luck_385 (fun M11 => ?_)
          refine x_aload_n dX12_luck_388 rfl ?_
          refine x_lload dX12_luck_389 rfl ?_
          refine pfX12_840 rfl dX12_luck_391 (fun M12 => ?_)
          refine x_iload_n dX12_luck_394 rfl ?_
          exact x_iret rfl dX12_luck_395
        · refine x_bipush (v := -5) dX12_luck_374 (by decide) ?_
          exact x_iret rfl dX12_luck_376
      · refine x_aload_n dX12_luck_361 rfl ?_
        refine x_iconst (v := 0) dX12_luck_362 (by decide) ?_
        refine pfX12_647 rfl dX12_luck_363 (fun M13 => ?_)
        refine x_bipush (v := -4) dX12_luck_366 (by decide) ?_
        exact x_iret rfl dX12_luck_368
    refine x_weak (by exact ⟨rfl, ⟨rfl, ⟨rfl, ⟨rfl, ⟨rfl, ⟨rfl, ⟨rfl, ⟨rfl, trivial⟩⟩⟩⟩⟩⟩⟩⟩) (x_lp (σ := Int32 × Int64 × Int64 × Int32 × Int32 × Mem) 47 (fun s14 => [some (va_rf a0), some (.int a1), some (.int a2), some (.int s14.1), some (.long s14.2.1), none, some (.long s14.2.2.1), none, some (.int s14.2.2.2.1), some (.int s14.2.2.2.2.1), none, none, none, none, none, none, none, none]) (fun s14 => []) (fun s14 => s14.2.2.2.2.2) (fun s14 j47 hj47 => ?_) 4294967296 ((0 : Int32), (0 : Int64), (1 : Int64), (0 : Int32), (1 : Int32), M6))
    · refine x_iload dX12_luck_47 rfl ?_
      refine x_if_eq (tgt := 349) dX12_luck_49 (by decide) (fun _ => ?_) (fun _ => ?_)
      · exact x_weak (by exact ⟨rfl, ⟨rfl, ⟨rfl, ⟨rfl, ⟨rfl, trivial⟩⟩⟩⟩⟩) (hj349 (s14.1, s14.2.1, s14.2.2.1, s14.2.2.2.1, s14.2.2.2.2.2))
      · refine x_aload_n dX12_luck_52 rfl ?_
        refine gfX12_647 rfl dX12_luck_53 (fun x15 => ?_)
        refine x_if_ne (tgt := 349) dX12_luck_56 (by decide) (fun _ => ?_) (fun _ => ?_)
        · refine x_aload_n dX12_luck_59 rfl ?_
          refine x_iload_n dX12_luck_60 rfl ?_
          refine x_iconst (v := -1) dX12_luck_61 (by decide) ?_
          refine cmX12_738 rfl hs (Nat.le_of_ble_eq_true rfl) dX12_luck_62 (fun M16 => ?_)
          refine x_aload_n dX12_luck_65 rfl ?_
          refine x_iload_n dX12_luck_66 rfl ?_
          refine cmX12_744 rfl hs (Nat.le_of_ble_eq_true rfl) dX12_luck_67 (fun M17 => ?_)
          refine x_iincN (v := 1) (lo' := fun x18 => [some (va_rf a0), some (.int a1), some (.int a2), some (.int x18), some (.long s14.2.1), none, some (.long s14.2.2.1), none, some (.int s14.2.2.2.1), some (.int s14.2.2.2.2.1), none, none, none, none, none, none, none, none]) (by decide) dX12_luck_70 rfl (by decide) rfl (fun _ => rfl) (fun x18 => ?_)
          refine x_aload_n dX12_luck_73 rfl ?_
          refine gfX12_717 rfl dX12_luck_74 (fun x19 => ?_)
          refine x_iconst (v := 1) dX12_luck_77 (by decide) ?_
          refine x_jn (σ := Int64 × Int64 × Int32 × Mem) 242 (fun s20 => [some (va_rf a0), some (.int a1), some (.int a2), some (.int x18), some (.long s20.1), none, some (.long s20.2.1), none, some (.int s20.2.2.1), none, none, none, none, none, none, none, none, none]) (fun s20 => []) (fun s20 => s20.2.2.2) (fun s20 => ?_) (fun j242 hj242 => ?_)
          · refine x_jn (σ := Mem) 289 (fun s21 => [some (va_rf a0), some (.int a1), some (.int a2), some (.int x18), some (.long s20.1), none, some (.long s20.2.1), none, some (.int s20.2.2.1), none, none, none, none, none, none, none, none, none]) (fun s21 => []) (fun s21 => s21) (fun s21 => ?_) (fun j289 hj289 => ?_)
            · refine x_aload_n dX12_luck_289 rfl ?_
              refine gfX12_688 rfl dX12_luck_290 (fun x22 => ?_)
              refine x_jn (σ := Int32) 301 (fun s23 => [some (va_rf a0), some (.int a1), some (.int a2), some (.int x18), some (.long s20.1), none, some (.long s20.2.1), none, some (.int s20.2.2.1), none, none, none, none, none, none, none, none, none]) (fun s23 => [.int s23]) (fun s23 => s21) (fun s23 => ?_) (fun j301 hj301 => ?_)
              · refine x_istore (lo' := [some (va_rf a0), some (.int a1), some (.int a2), some (.int x18), some (.long s20.1), none, some (.long s20.2.1), none, some (.int s20.2.2.1), some (.int s23), none, none, none, none, none, none, none, none]) dX12_luck_301 (by decide) rfl rfl ?_
                refine x_iload dX12_luck_303 rfl ?_
                refine x_if_eq (tgt := 47) dX12_luck_305 (by decide) (fun _ => ?_) (fun _ => ?_)
                · exact x_weak (by exact ⟨rfl, ⟨rfl, ⟨rfl, ⟨rfl, ⟨rfl, ⟨rfl, ⟨rfl, ⟨rfl, trivial⟩⟩⟩⟩⟩⟩⟩⟩) (hj47 (x18, s20.1, s20.2.1, s20.2.2.1, s23, s21))
                · refine x_aload_n dX12_luck_308 rfl ?_
                  refine gfX12_258 rfl dX12_luck_309 (fun x24 => ?_)
                  refine x_aload_n dX12_luck_312 rfl ?_
                  refine gfX12_688 rfl dX12_luck_313 (fun x25 => ?_)
                  refine x_iconst (v := 1) dX12_luck_316 (by decide) ?_
                  refine x_isub dX12_luck_317 ?_
                  refine x_dup2 dX12_luck_318 (xc1_i _) (xc1_r _) ?_
                  refine x_iald dX12_luck_319 (fun x26 => ?_)
                  refine x_iconst (v := 1) dX12_luck_320 (by decide) ?_
                  refine x_iadd dX12_luck_321 ?_
                  refine x_iast dX12_luck_322 (fun M27 => ?_)
                  refine x_aload_n dX12_luck_323 rfl ?_
                  refine x_aload_n dX12_luck_324 rfl ?_
                  refine gfX12_647 rfl dX12_luck_325 (fun x28 => ?_)
                  refine x_jn (σ := Int32) 343 (fun s29 => [some (va_rf a0), some (.int a1), some (.int a2), some (.int x18), some (.long s20.1), none, some (.long s20.2.1), none, some (.int s20.2.2.1), some (.int s23), none, none, none, none, none, none, none, none]) (fun s29 => [.int s29, va_rf a0]) (fun s29 => M27) (fun s29 => ?_) (fun j343 hj343 => ?_)
                  · refine pfX12_647 rfl dX12_luck_343 (fun M30 => ?_)
                    refine x_goto (tgt := 47) dX12_luck_346 (by decide) ?_
                    exact x_weak (by exact ⟨rfl, ⟨rfl, ⟨rfl, ⟨rfl, ⟨rfl, ⟨rfl, ⟨rfl, ⟨rfl, trivial⟩⟩⟩⟩⟩⟩⟩⟩) (hj47 (x18, s20.1, s20.2.1, s20.2.2.1, s23, M30))
                  refine x_jn (σ := Unit) 338 (fun s31 => [some (va_rf a0), some (.int a1), some (.int a2), some (.int x18), some (.long s20.1), none, some (.long s20.2.1), none, some (.int s20.2.2.1), some (.int s23), none, none, none, none, none, none, none, none]) (fun s31 => [va_rf a0]) (fun s31 => M27) (fun s31 => ?_) (fun j338 hj338 => ?_)
                  · refine x_iconst (v := 1) dX12_luck_338 (by decide) ?_
                    refine x_goto (tgt := 343) dX12_luck_339 (by decide) ?_
                    exact x_weak (by exact ⟨rfl, ⟨rfl, ⟨rfl, ⟨rfl, ⟨rfl, ⟨rfl, ⟨rfl, ⟨rfl, trivial⟩⟩⟩⟩⟩⟩⟩⟩) (hj343 ((1 : Int32)))
                  refine x_if_ne (tgt := 338) dX12_luck_328 (by decide) (fun _ => ?_) (fun _ => ?_)
                  · refine x_iload_n dX12_luck_331 rfl ?_
                    refine x_sipush (v := 400) dX12_luck_332 (by decide) ?_
                    refine x_icmp_ne (tgt := 342) dX12_luck_335 (by decide) (fun _ => ?_) (fun _ => ?_)
                    · exact x_weak (by exact ⟨rfl, ⟨rfl, ⟨rfl, ⟨rfl, ⟨rfl, ⟨rfl, ⟨rfl, ⟨rfl, trivial⟩⟩⟩⟩⟩⟩⟩⟩) (hj338 ())
                    · refine x_iconst (v := 0) dX12_luck_342 (by decide) ?_
                      exact x_weak (by exact ⟨rfl, ⟨rfl, ⟨rfl, ⟨rfl, ⟨rfl, ⟨rfl, ⟨rfl, ⟨rfl, trivial⟩⟩⟩⟩⟩⟩⟩⟩) (hj343 ((0 : Int32)))
                  · exact x_weak (by exact ⟨rfl, ⟨rfl, ⟨rfl, ⟨rfl, ⟨rfl, ⟨rfl, ⟨rfl, ⟨rfl, trivial⟩⟩⟩⟩⟩⟩⟩⟩) (hj338 ())
              refine x_if_le (tgt := 300) dX12_luck_293 (by decide) (fun _ => ?_) (fun _ => ?_)
              · refine x_iconst (v := 0) dX12_luck_300 (by decide) ?_
                exact x_weak (by exact ⟨rfl, ⟨rfl, ⟨rfl, ⟨rfl, ⟨rfl, ⟨rfl, ⟨rfl, trivial⟩⟩⟩⟩⟩⟩⟩) (hj301 ((0 : Int32)))
              · refine x_iconst (v := 1) dX12_luck_296 (by decide) ?_
                refine x_goto (tgt := 301) dX12_luck_297 (by decide) ?_
                exact x_weak (by exact ⟨rfl, ⟨rfl, ⟨rfl, ⟨rfl, ⟨rfl, ⟨rfl, ⟨rfl, trivial⟩⟩⟩⟩⟩⟩⟩) (hj301 ((1 : Int32)))
            refine x_weak (by exact ⟨rfl, ⟨rfl, ⟨rfl, ⟨rfl, ⟨rfl, ⟨rfl, ⟨rfl, trivial⟩⟩⟩⟩⟩⟩⟩) (x_lp (σ := Mem) 242 (fun s32 => [some (va_rf a0), some (.int a1), some (.int a2), some (.int x18), some (.long s20.1), none, some (.long s20.2.1), none, some (.int s20.2.2.1), none, none, none, none, none, none, none, none, none]) (fun s32 => []) (fun s32 => s32) (fun s32 j242 hj242 => ?_) 4294967296 s20.2.2.2)
            · refine x_aload_n dX12_luck_242 rfl ?_
              refine gfX12_688 rfl dX12_luck_243 (fun x33 => ?_)
              refine x_if_le (tgt := 289) dX12_luck_246 (by decide) (fun _ => ?_) (fun _ => ?_)
              · exact x_weak (by exact ⟨rfl, ⟨rfl, ⟨rfl, ⟨rfl, ⟨rfl, ⟨rfl, ⟨rfl, trivial⟩⟩⟩⟩⟩⟩⟩) (hj289 s32)
              · refine x_aload_n dX12_luck_249 rfl ?_
                refine gfX12_258 rfl dX12_luck_250 (fun x34 => ?_)
                refine x_aload_n dX12_luck_253 rfl ?_
                refine gfX12_688 rfl dX12_luck_254 (fun x35 => ?_)
                refine x_iconst (v := 1) dX12_luck_257 (by decide) ?_
                refine x_isub dX12_luck_258 ?_
                refine x_iald dX12_luck_259 (fun x36 => ?_)
                refine x_iconst (v := 1) dX12_luck_260 (by decide) ?_
                refine x_iadd dX12_luck_261 ?_
                refine x_aload_n dX12_luck_262 rfl ?_
                refine gfX12_261 rfl dX12_luck_263 (fun x37 => ?_)
                refine x_aload_n dX12_luck_266 rfl ?_
                refine gfX12_688 rfl dX12_luck_267 (fun x38 => ?_)
                refine x_iconst (v := 1) dX12_luck_270 (by decide) ?_
                refine x_isub dX12_luck_271 ?_
                refine x_iald dX12_luck_272 (fun x39 => ?_)
                refine x_icmp_lt (tgt := 289) dX12_luck_273 (by decide) (fun _ => ?_) (fun _ => ?_)
                · exact x_weak (by exact ⟨rfl, ⟨rfl, ⟨rfl, ⟨rfl, ⟨rfl, ⟨rfl, ⟨rfl, trivial⟩⟩⟩⟩⟩⟩⟩) (hj289 s32)
                · refine x_aload_n dX12_luck_276 rfl ?_
                  refine x_dup dX12_luck_277 (xc1_r _) ?_
                  refine gfX12_688 rfl dX12_luck_278 (fun x40 => ?_)
                  refine x_iconst (v := 1) dX12_luck_281 (by decide) ?_
                  refine x_isub dX12_luck_282 ?_
                  refine pfX12_688 rfl dX12_luck_283 (fun M41 => ?_)
                  refine x_goto (tgt := 242) dX12_luck_286 (by decide) ?_
                  exact x_weak (by exact ⟨rfl, ⟨rfl, ⟨rfl, ⟨rfl, ⟨rfl, ⟨rfl, ⟨rfl, trivial⟩⟩⟩⟩⟩⟩⟩) (hj242 M41)
          refine x_icmp_ne (tgt := 242) dX12_luck_78 (by decide) (fun _ => ?_) (fun _ => ?_)
          · refine x_iload dX12_luck_81 rfl ?_
            refine x_if_ne (tgt := 242) dX12_luck_83 (by decide) (fun _ => ?_) (fun _ => ?_)
            · refine x_aload_n dX12_luck_86 rfl ?_
              refine gfX12_647 rfl dX12_luck_87 (fun x42 => ?_)
              refine x_if_ne (tgt := 242) dX12_luck_90 (by decide) (fun _ => ?_) (fun _ => ?_)
              · refine x_lconst (v := 1) dX12_luck_93 (by decide) ?_
                refine x_lstore (lo' := [some (va_rf a0), some (.int a1), some (.int a2), some (.int x18), some (.long s14.2.1), none, some (.long s14.2.2.1), none, some (.int s14.2.2.2.1), some (.int s14.2.2.2.2.1), some (.long ((1 : Int64))), none, none, none, none, none, none, none]) dX12_luck_94 (by decide) rfl rfl ?_
                refine x_iconst (v := 0) dX12_luck_96 (by decide) ?_
                refine x_istore (lo' := [some (va_rf a0), some (.int a1), some (.int a2), some (.int x18), some (.long s14.2.1), none, some (.long s14.2.2.1), none, some (.int s14.2.2.2.1), some (.int s14.2.2.2.2.1), some (.long ((1 : Int64))), none, some (.int ((0 : Int32))), none, none, none, none, none]) dX12_luck_97 (by decide) rfl rfl ?_
                refine x_jn (σ := Int64) 141 (fun s43 => [some (va_rf a0), some (.int a1), some (.int a2), some (.int x18), some (.long s14.2.1), none, some (.long s14.2.2.1), none, none, none, some (.long s43), none, none, none, none, none, none, none]) (fun s43 => []) (fun s43 => M17) (fun s43 => ?_) (fun j141 hj141 => ?_)
                · refine x_lload dX12_luck_141 rfl ?_
                  refine x_ldc2 (v := 1000000000) dX12_luck_143 lk_constantLong_X12_828 ?_
                  refine x_lcmp dX12_luck_146 ?_
                  refine x_jn (σ := Int32) 155 (fun s44 => [some (va_rf a0), some (.int a1), some (.int a2), some (.int x18), some (.long s14.2.1), none, some (.long s14.2.2.1), none, none, none, some (.long s43), none, none, none, none, none, none, none]) (fun s44 => [.int s44]) (fun s44 => M17) (fun s44 => ?_) (fun j155 hj155 => ?_)
                  · refine x_istore (lo' := [some (va_rf a0), some (.int a1), some (.int a2), some (.int x18), some (.long s14.2.1), none, some (.long s14.2.2.1), none, some (.int s44), none, some (.long s43), none, none, none, none, none, none, none]) dX12_luck_155 (by decide) rfl rfl ?_
                    refine x_iload dX12_luck_157 rfl ?_
                    refine x_if_ne (tgt := 242) dX12_luck_159 (by decide) (fun _ => ?_) (fun _ => ?_)
                    · refine x_lload dX12_luck_162 rfl ?_
                      refine x_lload dX12_luck_164 rfl ?_
                      refine x_lload dX12_luck_166 rfl ?_
                      refine x_lload dX12_luck_168 rfl ?_
                      refine cmX12_830 rfl hs (Nat.le_of_ble_eq_true rfl) dX12_luck_170 (fun x46 M45 => ?_)
                      refine x_ldiv dX12_luck_173 (fun _ => ?_)
                      refine x_lmul dX12_luck_174 ?_
                      refine x_lload dX12_luck_175 rfl ?_
                      refine x_lload dX12_luck_177 rfl ?_
                      refine x_lload dX12_luck_179 rfl ?_
                      refine cmX12_830 rfl hs (Nat.le_of_ble_eq_true rfl) dX12_luck_181 (fun x48 M47 => ?_)
                      refine x_ldiv dX12_luck_184 (fun _ => ?_)
                      refine x_ladd dX12_luck_185 ?_
                      refine x_ltL (fun x49 => ?_)
                      refine x_lstore (lo' := [some (va_rf a0), some (.int a1), some (.int a2), some (.int x18), some (.long s14.2.1), none, some (.long s14.2.2.1), none, some (.int s44), none, some (.long s43), none, some (.long x49), none, none, none, none, none]) dX12_luck_186 (by decide) rfl rfl ?_
                      refine x_lload dX12_luck_188 rfl ?_
                      refine x_lload dX12_luck_190 rfl ?_
                      refine x_lload dX12_luck_192 rfl ?_
                      refine cmX12_830 rfl hs (Nat.le_of_ble_eq_true rfl) dX12_luck_194 (fun x51 M50 => ?_)
                      refine x_ldiv dX12_luck_197 (fun _ => ?_)
                      refine x_lload dX12_luck_198 rfl ?_
                      refine x_lmul dX12_luck_200 ?_
                      refine x_ltL (fun x52 => ?_)
                      refine x_lstore (lo' := [some (va_rf a0), some (.int a1), some (.int a2), some (.int x18), some (.long s14.2.1), none, some (.long s14.2.2.1), none, some (.int s44), none, some (.long s43), none, some (.long x49), none, some (.long x52), none, none, none]) dX12_luck_201 (by decide) rfl rfl ?_
                      refine x_lload dX12_luck_203 rfl ?_
                      refine x_lload dX12_luck_205 rfl ?_
                      refine cmX12_830 rfl hs (Nat.le_of_ble_eq_true rfl) dX12_luck_207 (fun x54 M53 => ?_)
                      refine x_lstore (lo' := [some (va_rf a0), some (.int a1), some (.int a2), some (.int x18), some (.long s14.2.1), none, some (.long s14.2.2.1), none, some (.int s44), none, some (.long s43), none, some (.long x49), none, some (.long x52), none, some (.long x54), none]) dX12_luck_210 (by decide) rfl rfl ?_
                      refine x_lload dX12_luck_212 rfl ?_
                      refine x_lload dX12_luck_214 rfl ?_
                      refine x_ldiv dX12_luck_216 (fun _ => ?_)
                      refine x_ltL (fun x55 => ?_)
                      refine x_lstore (lo' := [some (va_rf a0), some (.int a1), some (.int a2), some (.int x18), some (.long x55), none, some (.long s14.2.2.1), none, some (.int s44), none, some (.long s43), none, some (.long x49), none, some (.long x52), none, some (.long x54), none]) dX12_luck_217 (by decide) rfl rfl ?_
                      refine x_lload dX12_luck_219 rfl ?_
                      refine x_lload dX12_luck_221 rfl ?_
                      refine x_ldiv dX12_luck_223 (fun _ => ?_)
                      refine x_ltL (fun x56 => ?_)
                      refine x_lstore (lo' := [some (va_rf a0), some (.int a1), some (.int a2), some (.int x18), some (.long x55), none, some (.long x56), none, some (.int s44), none, some (.long s43), none, some (.long x49), none, some (.long x52), none, some (.long x54), none]) dX12_luck_224 (by decide) rfl rfl ?_
                      refine x_lload dX12_luck_226 rfl ?_
                      refine x_ldc2 (v := 1000000000) dX12_luck_228 lk_constantLong_X12_828 ?_
                      refine x_lcmp dX12_luck_231 ?_
                      refine x_jn (σ := Int32) 240 (fun s57 => [some (va_rf a0), some (.int a1), some (.int a2), some (.int x18), some (.long x55), none, some (.long x56), none, none, none, none, none, none, none, none, none, none, none]) (fun s57 => [.int s57]) (fun s57 => M53) (fun s57 => ?_) (fun j240 hj240 => ?_)
                      · refine x_istore (lo' := [some (va_rf a0), some (.int a1), some (.int a2), some (.int x18), some (.long x55), none, some (.long x56), none, some (.int s57), none, none, none, none, none, none, none, none, none]) dX12_luck_240 (by decide) rfl rfl ?_
                        exact x_weak (by exact ⟨rfl, ⟨rfl, ⟨rfl, ⟨rfl, ⟨rfl, ⟨rfl, ⟨rfl, trivial⟩⟩⟩⟩⟩⟩⟩) (hj242 (x55, x56, s57, M53))
                      refine x_if_le (tgt := 239) dX12_luck_232 (by decide) (fun _ => ?_) (fun _ => ?_)
                      · refine x_iconst (v := 0) dX12_luck_239 (by decide) ?_
                        exact x_weak (by exact ⟨rfl, ⟨rfl, ⟨rfl, ⟨rfl, ⟨rfl, ⟨rfl, trivial⟩⟩⟩⟩⟩⟩) (hj240 ((0 : Int32)))
                      · refine x_iconst (v := 1) dX12_luck_235 (by decide) ?_
                        refine x_goto (tgt := 240) dX12_luck_236 (by decide) ?_
                        exact x_weak (by exact ⟨rfl, ⟨rfl, ⟨rfl, ⟨rfl, ⟨rfl, ⟨rfl, trivial⟩⟩⟩⟩⟩⟩) (hj240 ((1 : Int32)))
                    · exact x_weak (by exact ⟨rfl, ⟨rfl, ⟨rfl, ⟨rfl, ⟨rfl, ⟨rfl, ⟨rfl, trivial⟩⟩⟩⟩⟩⟩⟩) (hj242 (s14.2.1, s14.2.2.1, s44, M17))
                  refine x_if_le (tgt := 154) dX12_luck_147 (by decide) (fun _ => ?_) (fun _ => ?_)
                  · refine x_iconst (v := 0) dX12_luck_154 (by decide) ?_
                    exact x_weak (by exact ⟨rfl, ⟨rfl, ⟨rfl, ⟨rfl, ⟨rfl, ⟨rfl, ⟨rfl, trivial⟩⟩⟩⟩⟩⟩⟩) (hj155 ((0 : Int32)))
                  · refine x_iconst (v := 1) dX12_luck_150 (by decide) ?_
                    refine x_goto (tgt := 155) dX12_luck_151 (by decide) ?_
                    exact x_weak (by exact ⟨rfl, ⟨rfl, ⟨rfl, ⟨rfl, ⟨rfl, ⟨rfl, ⟨rfl, trivial⟩⟩⟩⟩⟩⟩⟩) (hj155 ((1 : Int32)))
                refine x_weak (by exact ⟨rfl, ⟨rfl, ⟨rfl, ⟨rfl, ⟨rfl, ⟨rfl, ⟨rfl, ⟨rfl, trivial⟩⟩⟩⟩⟩⟩⟩⟩) (x_lp (σ := Int64 × Int32) 99 (fun s58 => [some (va_rf a0), some (.int a1), some (.int a2), some (.int x18), some (.long s14.2.1), none, some (.long s14.2.2.1), none, none, none, some (.long s58.1), none, some (.int s58.2), none, none, none, none, none]) (fun s58 => []) (fun s58 => M17) (fun s58 j99 hj99 => ?_) 4294967296 ((1 : Int64), (0 : Int32)))
                · refine x_iload dX12_luck_99 rfl ?_
                  refine x_aload_n dX12_luck_101 rfl ?_
                  refine gfX12_685 rfl dX12_luck_102 (fun x59 => ?_)
                  refine x_icmp_ge (tgt := 141) dX12_luck_105 (by decide) (fun _ => ?_) (fun _ => ?_)
                  · exact x_weak (by exact ⟨rfl, ⟨rfl, ⟨rfl, ⟨rfl, ⟨rfl, ⟨rfl, ⟨rfl, trivial⟩⟩⟩⟩⟩⟩⟩) (hj141 s58.1)
                  · refine x_lload dX12_luck_108 rfl ?_
                    refine x_ldc2 (v := 1000000000) dX12_luck_110 lk_constantLong_X12_828 ?_
                    refine x_lcmp dX12_luck_113 ?_
                    refine x_jn (σ := Int64) 133 (fun s60 => [some (va_rf a0), some (.int a1), some (.int a2), some (.int x18), some (.long s14.2.1), none, some (.long s14.2.2.1), none, none, none, none, none, some (.int s58.2), none, none, none, none, none]) (fun s60 => [.long s60]) (fun s60 => M17) (fun s60 => ?_) (fun j133 hj133 => ?_)
                    · refine x_lstore (lo' := [some (va_rf a0), some (.int a1), some (.int a2), some (.int x18), some (.long s14.2.1), none, some (.long s14.2.2.1), none, none, none, some (.long s60), none, some (.int s58.2), none, none, none, none, none]) dX12_luck_133 (by decide) rfl rfl ?_
                      refine x_iincN (v := 1) (lo' := fun x61 => [some (va_rf a0), some (.int a1), some (.int a2), some (.int x18), some (.long s14.2.1), none, some (.long s14.2.2.1), none, none, none, some (.long s60), none, some (.int x61), none, none, none, none, none]) (by decide) dX12_luck_135 rfl (by decide) rfl (fun _ => rfl) (fun x61 => ?_)
                      refine x_goto (tgt := 99) dX12_luck_138 (by decide) ?_
                      exact x_weak (by exact ⟨rfl, ⟨rfl, ⟨rfl, ⟨rfl, ⟨rfl, ⟨rfl, ⟨rfl, ⟨rfl, trivial⟩⟩⟩⟩⟩⟩⟩⟩) (hj99 (s60, x61))
                    refine x_if_le (tgt := 122) dX12_luck_114 (by decide) (fun _ => ?_) (fun _ => ?_)
                    · refine x_lload dX12_luck_122 rfl ?_
                      refine x_aload_n dX12_luck_124 rfl ?_
                      refine gfX12_261 rfl dX12_luck_125 (fun x62 => ?_)
                      refine x_iload dX12_luck_128 rfl ?_
                      refine x_iald dX12_luck_130 (fun x63 => ?_)
                      refine x_i2l dX12_luck_131 ?_
                      refine x_lmul dX12_luck_132 ?_
                      exact x_weak (by exact ⟨rfl, ⟨rfl, ⟨rfl, ⟨rfl, ⟨rfl, ⟨rfl, ⟨rfl, trivial⟩⟩⟩⟩⟩⟩⟩) (hj133 (s58.1 * x63.toInt64))
                    · refine x_lload dX12_luck_117 rfl ?_
                      refine x_goto (tgt := 133) dX12_luck_119 (by decide) ?_
                      exact x_weak (by exact ⟨rfl, ⟨rfl, ⟨rfl, ⟨rfl, ⟨rfl, ⟨rfl, ⟨rfl, trivial⟩⟩⟩⟩⟩⟩⟩) (hj133 s58.1)
              · exact x_weak (by exact ⟨rfl, ⟨rfl, ⟨rfl, ⟨rfl, ⟨rfl, ⟨rfl, ⟨rfl, trivial⟩⟩⟩⟩⟩⟩⟩) (hj242 (s14.2.1, s14.2.2.1, s14.2.2.2.1, M17))
            · exact x_weak (by exact ⟨rfl, ⟨rfl, ⟨rfl, ⟨rfl, ⟨rfl, ⟨rfl, ⟨rfl, trivial⟩⟩⟩⟩⟩⟩⟩) (hj242 (s14.2.1, s14.2.2.1, s14.2.2.2.1, M17))
          · exact x_weak (by exact ⟨rfl, ⟨rfl, ⟨rfl, ⟨rfl, ⟨rfl, ⟨rfl, ⟨rfl, trivial⟩⟩⟩⟩⟩⟩⟩) (hj242 (s14.2.1, s14.2.2.1, s14.2.2.2.1, M17))
        · exact x_weak (by exact ⟨rfl, ⟨rfl, ⟨rfl, ⟨rfl, ⟨rfl, trivial⟩⟩⟩⟩⟩) (hj349 (s14.1, s14.2.1, s14.2.2.1, s14.2.2.2.1, s14.2.2.2.2.2))
theorem s301 {l : Launch} {d : Nat} {rec : Nat → List Value → Mem → XA} (hS : Nonempty XS) (hs : XSnd l xmt rec d) : Snd1 l 301 (b301 rec) d := by
  intro as M r M' h0
  unfold b301 at h0
  obtain ⟨a0, l1, e1, h1⟩ := aR_inv h0
  obtain ⟨a1, l2, e2, h2⟩ := aI_inv h1
  obtain ⟨a2, l3, e3, h3⟩ := aI_inv h2
  obtain ⟨ez, h⟩ := aZ_inv h3
  subst ez
  subst e3
  subst e2
  subst e1
  exact xmet (M := M) (as := [va_rf a0, .int a1, .int a2]) (lo := [some (va_rf a0), some (.int a1), some (.int a2)]) 301 xq301 xm301 (by rw [xargs_rf, xargs_i, xargs_i, xargs_nil]; exact ⟨rfl, ⟨rfl, ⟨rfl, trivial⟩⟩⟩) (by rw [xargs_rf, xargs_i, xargs_i, xargs_nil]; exact Nat.le_of_ble_eq_true rfl) (fun S G K => x_weak (by exact ⟨rfl, ⟨rfl, ⟨rfl, trivial⟩⟩⟩) (k301 hs a0 a1 a2 M)) h hS
set_option maxRecDepth 100000 in
def c302 (rec : Nat → List Value → Mem → XA) (a0 : Option Nat) (a1 : Int32) (M0 : Mem) : XA :=
  gtI (13, 157) M0 a0 148 fun x1 =>
  jn (fun (s2 : Int32 × Mem) =>
    some (.int s2.1, s2.2)) fun j36 =>
  jn (fun (s3 : Mem) =>
    j36 ((-1 : Int32), s3)) fun j35 =>
  if x1 = 0 then (
    j35 M0) else (
    cI (rec 184 [.int a1, .int ((0 : Int32)), .int ((1 : Int32))] M0) fun x5 M4 =>
    if x5 = 0 then (
      j35 M4) else (
      jn (fun (s6 : Int64) =>
        j36 (s6.toInt32, M4)) fun j31 =>
      if a1 = 0 then (
        gtL (13, 157) M4 a0 149 fun x7 =>
        j31 x7) else (
        gtL (13, 157) M4 a0 150 fun x8 =>
        j31 x8)))
def b302 (rec : Nat → List Value → Mem → XA) (as : List Value) (M0 : Mem) : XA := aR as fun a0 as => aI as fun a1 as => aZ as (c302 rec a0 a1 M0)
set_option maxRecDepth 100000 in
set_option maxHeartbeats 4000000 in
theorem k302 {S : XS} {G : XG} {K : Nat × Nat} {l : Launch} {d : Nat} {rec : Nat → List Value → Mem → XA} (hs : XSnd l xmt rec d) (a0 : Option Nat) (a1 : Int32) (M0 : Mem) : Xe S G K l (yX12_share, cX12_share, 2, some .int) d 0 [some (va_rf a0), some (.int a1)] [] M0 (c302 rec a0 a1 M0) := by
  unfold c302
  refine x_aload_n dX12_share_0 rfl ?_
  refine gfX12_834 rfl dX12_share_1 (fun x1 => ?_)
  refine x_jn (σ := Int32 × Mem) 36 (fun s2 => [none, none]) (fun s2 => [.int s2.1]) (fun s2 => s2.2) (fun s2 => ?_) (fun j36 hj36 => ?_)
  · exact x_iret rfl dX12_share_36
  refine x_jn (σ := Mem) 35 (fun s3 => [none, none]) (fun s3 => []) (fun s3 => s3) (fun s3 => ?_) (fun j35 hj35 => ?_)
  · refine x_iconst (v := -1) dX12_share_35 (by decide) ?_
    exact x_weak (by exact trivial) (hj36 ((-1 : Int32), s3))
  refine x_if_eq (tgt := 35) dX12_share_4 (by decide) (fun _ => ?_) (fun _ => ?_)
  · exact x_weak (by exact trivial) (hj35 M0)
  · refine x_iload_n dX12_share_7 rfl ?_
    refine x_iconst (v := 0) dX12_share_8 (by decide) ?_
    refine x_iconst (v := 1) dX12_share_9 (by decide) ?_
    refine cmX12_381 rfl hs (Nat.le_of_ble_eq_true rfl) dX12_share_10 (fun x5 M4 => ?_)
    refine x_if_eq (tgt := 35) dX12_share_13 (by decide) (fun _ => ?_) (fun _ => ?_)
    · exact x_weak (by exact trivial) (hj35 M4)
    · refine x_iload_n dX12_share_16 rfl ?_
      refine x_jn (σ := Int64) 31 (fun s6 => [none, none]) (fun s6 => [.long s6]) (fun s6 => M4) (fun s6 => ?_) (fun j31 hj31 => ?_)
      · refine x_l2i dX12_share_31 ?_
        refine x_goto (tgt := 36) dX12_share_32 (by decide) ?_
        exact x_weak (by exact trivial) (hj36 (s6.toInt32, M4))
      refine x_if_ne (tgt := 27) dX12_share_17 (by decide) (fun _ => ?_) (fun _ => ?_)
      · refine x_aload_n dX12_share_20 rfl ?_
        refine gfX12_837 rfl dX12_share_21 (fun x7 => ?_)
        refine x_goto (tgt := 31) dX12_share_24 (by decide) ?_
        exact x_weak (by exact trivial) (hj31 x7)
      · refine x_aload_n dX12_share_27 rfl ?_
        refine gfX12_840 rfl dX12_share_28 (fun x8 => ?_)
        exact x_weak (by exact trivial) (hj31 x8)
theorem s302 {l : Launch} {d : Nat} {rec : Nat → List Value → Mem → XA} (hS : Nonempty XS) (hs : XSnd l xmt rec d) : Snd1 l 302 (b302 rec) d := by
  intro as M r M' h0
  unfold b302 at h0
  obtain ⟨a0, l1, e1, h1⟩ := aR_inv h0
  obtain ⟨a1, l2, e2, h2⟩ := aI_inv h1
  obtain ⟨ez, h⟩ := aZ_inv h2
  subst ez
  subst e2
  subst e1
  exact xmet (M := M) (as := [va_rf a0, .int a1]) (lo := [some (va_rf a0), some (.int a1)]) 302 xq302 xm302 (by rw [xargs_rf, xargs_i, xargs_nil]; exact ⟨rfl, ⟨rfl, trivial⟩⟩) (by rw [xargs_rf, xargs_i, xargs_nil]; exact Nat.le_of_ble_eq_true rfl) (fun S G K => x_weak (by exact ⟨rfl, ⟨rfl, trivial⟩⟩) (k302 hs a0 a1 M)) h hS
set_option maxRecDepth 100000 in
def c303_9 (rec : Nat → List Value → Mem → XA) (a0 : Option Nat) (a2 : Int32) (a3 : Int32) (j45 : Mem → XA) : (Int32 × Mem) → ((Int32 × Mem) → XA) → XA := fun s6 j9 =>
  if a2 ≤ s6.1 then (
    j45 s6.2) else (
    gtI (13, 157) s6.2 a0 84 fun x7 =>
    if x7 = 0 then (
      jn (fun (s8 : Mem) =>
        lt (s6.1 + (1 : Int32)) fun (x9 : Int32) =>
        j9 (x9, s8)) fun j39 =>
      if s6.1 = a3 then (
        j39 s6.2) else (
        gtP (13, 157) s6.2 a0 153 fun x10 =>
        alI 100 s6.2 x10 s6.1 fun x11 =>
        vC (13, 157) s6.2 a0 <|
        cV (rec 254 [va_rf a0, .int x11] s6.2) fun M12 =>
        j39 M12)) else (
      j45 s6.2))
set_option maxRecDepth 100000 in
def c303 (rec : Nat → List Value → Mem → XA) (a0 : Option Nat) (a1 : Int32) (a2 : Int32) (a3 : Int32) (a4 : Int32) (M0 : Mem) : XA :=
  vC (13, 157) M0 a0 <|
  cV (rec 235 [va_rf a0, .int a1, .int ((-1 : Int32))] M0) fun M1 =>
  jn (fun (s2 : Mem) =>
    vC (13, 157) s2 a0 <|
    cV (rec 254 [va_rf a0, .int a4] s2) fun M3 =>
    gtI (13, 157) M3 a0 101 fun x4 =>
    jn (fun (s5 : Int32) =>
      rtZ s5 M3) fun j64 =>
    if x4 = ((1 : Int32)) then (
      j64 ((1 : Int32))) else (
      j64 ((0 : Int32)))) fun j45 =>
  lp (c303_9 rec a0 a2 a3 j45) 4294967296 ((0 : Int32), M1)
def b303 (rec : Nat → List Value → Mem → XA) (as : List Value) (M0 : Mem) : XA := aR as fun a0 as => aI as fun a1 as => aI as fun a2 as => aI as fun a3 as => aI as fun a4 as => aZ as (c303 rec a0 a1 a2 a3 a4 M0)
set_option maxRecDepth 100000 in
set_option maxHeartbeats 4000000 in
theorem k303 {S : XS} {G : XG} {K : Nat × Nat} {l : Launch} {d : Nat} {rec : Nat → List Value → Mem → XA} (hs : XSnd l xmt rec d) (a0 : Option Nat) (a1 : Int32) (a2 : Int32) (a3 : Int32) (a4 : Int32) (M0 : Mem) : Xe S G K l (yX12_passesBehind, cX12_passesBehind, 6, some .boolean) d 0 [some (va_rf a0), some (.int a1), some (.int a2), some (.int a3), some (.int a4), none] [] M0 (c303 rec a0 a1 a2 a3 a4 M0) := by
  unfold c303
  refine x_aload_n dX12_passesBehind_0 rfl ?_
  refine x_iload_n dX12_passesBehind_1 rfl ?_
  refine x_iconst (v := -1) dX12_passesBehind_2 (by decide) ?_
  refine cmX12_738 rfl hs (Nat.le_of_ble_eq_true rfl) dX12_passesBehind_3 (fun M1 => ?_)
  refine x_iconst (v := 0) dX12_passesBehind_6 (by decide) ?_
  refine x_istore (lo' := [some (va_rf a0), some (.int a1), some (.int a2), some (.int a3), some (.int a4), some (.int ((0 : Int32)))]) dX12_passesBehind_7 (by decide) rfl rfl ?_
  refine x_jn (σ := Mem) 45 (fun s2 => [some (va_rf a0), none, none, none, some (.int a4), none]) (fun s2 => []) (fun s2 => s2) (fun s2 => ?_) (fun j45 hj45 => ?_)
  · refine x_aload_n dX12_passesBehind_45 rfl ?_
    refine x_iload dX12_passesBehind_46 rfl ?_
    refine cmX12_744 rfl hs (Nat.le_of_ble_eq_true rfl) dX12_passesBehind_48 (fun M3 => ?_)
    refine x_aload_n dX12_passesBehind_51 rfl ?_
    refine gfX12_717 rfl dX12_passesBehind_52 (fun x4 => ?_)
    refine x_iconst (v := 1) dX12_passesBehind_55 (by decide) ?_
    refine x_jn (σ := Int32) 64 (fun s5 => [none, none, none, none, none, none]) (fun s5 => [.int s5]) (fun s5 => M3) (fun s5 => ?_) (fun j64 hj64 => ?_)
    · exact x_zret rfl dX12_passesBehind_64
    refine x_icmp_ne (tgt := 63) dX12_passesBehind_56 (by decide) (fun _ => ?_) (fun _ => ?_)
    · refine x_iconst (v := 1) dX12_passesBehind_59 (by decide) ?_
      refine x_goto (tgt := 64) dX12_passesBehind_60 (by decide) ?_
      exact x_weak (by exact trivial) (hj64 ((1 : Int32)))
    · refine x_iconst (v := 0) dX12_passesBehind_63 (by decide) ?_
      exact x_weak (by exact trivial) (hj64 ((0 : Int32)))
  refine x_weak (by exact ⟨rfl, ⟨rfl, ⟨rfl, ⟨rfl, ⟨rfl, trivial⟩⟩⟩⟩⟩) (x_lp (σ := Int32 × Mem) 9 (fun s6 => [some (va_rf a0), none, some (.int a2), some (.int a3), some (.int a4), some (.int s6.1)]) (fun s6 => []) (fun s6 => s6.2) (fun s6 j9 hj9 => ?_) 4294967296 ((0 : Int32), M1))
  · refine x_iload dX12_passesBehind_9 rfl ?_
    refine x_iload_n dX12_passesBehind_11 rfl ?_
    refine x_icmp_ge (tgt := 45) dX12_passesBehind_12 (by decide) (fun _ => ?_) (fun _ => ?_)
    · exact x_weak (by exact ⟨rfl, ⟨rfl, trivial⟩⟩) (hj45 s6.2)
    · refine x_aload_n dX12_passesBehind_15 rfl ?_
      refine gfX12_647 rfl dX12_passesBehind_16 (fun x7 => ?_)
      refine x_if_ne (tgt := 45) dX12_passesBehind_19 (by decide) (fun _ => ?_) (fun _ => ?_)
      · refine x_iload dX12_passesBehind_22 rfl ?_
        refine x_iload_n dX12_passesBehind_24 rfl ?_
        refine x_jn (σ := Mem) 39 (fun s8 => [some (va_rf a0), none, some (.int a2), some (.int a3), some (.int a4), some (.int s6.1)]) (fun s8 => []) (fun s8 => s8) (fun s8 => ?_) (fun j39 hj39 => ?_)
        · refine x_iincN (v := 1) (lo' := fun x9 => [some (va_rf a0), none, some (.int a2), some (.int a3), some (.int a4), some (.int x9)]) (by decide) dX12_passesBehind_39 rfl (by decide) rfl (fun _ => rfl) (fun x9 => ?_)
          refine x_goto (tgt := 9) dX12_passesBehind_42 (by decide) ?_
          exact x_weak (by exact ⟨rfl, ⟨rfl, ⟨rfl, ⟨rfl, ⟨rfl, trivial⟩⟩⟩⟩⟩) (hj9 (x9, s8))
        refine x_icmp_eq (tgt := 39) dX12_passesBehind_25 (by decide) (fun _ => ?_) (fun _ => ?_)
        · exact x_weak (by exact ⟨rfl, ⟨rfl, ⟨rfl, ⟨rfl, ⟨rfl, trivial⟩⟩⟩⟩⟩) (hj39 s6.2)
        · refine x_aload_n dX12_passesBehind_28 rfl ?_
          refine x_aload_n dX12_passesBehind_29 rfl ?_
          refine gfX12_369 rfl dX12_passesBehind_30 (fun x10 => ?_)
          refine x_iload dX12_passesBehind_33 rfl ?_
          refine x_iald dX12_passesBehind_35 (fun x11 => ?_)
          refine cmX12_744 rfl hs (Nat.le_of_ble_eq_true rfl) dX12_passesBehind_36 (fun M12 => ?_)
          exact x_weak (by exact ⟨rfl, ⟨rfl, ⟨rfl, ⟨rfl, ⟨rfl, trivial⟩⟩⟩⟩⟩) (hj39 M12)
      · exact x_weak (by exact ⟨rfl, ⟨rfl, trivial⟩⟩) (hj45 s6.2)
theorem s303 {l : Launch} {d : Nat} {rec : Nat → List Value → Mem → XA} (hS : Nonempty XS) (hs : XSnd l xmt rec d) : Snd1 l 303 (b303 rec) d := by
  intro as M r M' h0
  unfold b303 at h0
  obtain ⟨a0, l1, e1, h1⟩ := aR_inv h0
  obtain ⟨a1, l2, e2, h2⟩ := aI_inv h1
  obtain ⟨a2, l3, e3, h3⟩ := aI_inv h2
  obtain ⟨a3, l4, e4, h4⟩ := aI_inv h3
  obtain ⟨a4, l5, e5, h5⟩ := aI_inv h4
  obtain ⟨ez, h⟩ := aZ_inv h5
  subst ez
  subst e5
  subst e4
  subst e3
  subst e2
  subst e1
  exact xmet (M := M) (as := [va_rf a0, .int a1, .int a2, .int a3, .int a4]) (lo := [some (va_rf a0), some (.int a1), some (.int a2), some (.int a3), some (.int a4)]) 303 xq303 xm303 (by rw [xargs_rf, xargs_i, xargs_i, xargs_i, xargs_i, xargs_nil]; exact ⟨rfl, ⟨rfl, ⟨rfl, ⟨rfl, ⟨rfl, trivial⟩⟩⟩⟩⟩) (by rw [xargs_rf, xargs_i, xargs_i, xargs_i, xargs_i, xargs_nil]; exact Nat.le_of_ble_eq_true rfl) (fun S G K => x_weak (by exact ⟨rfl, ⟨rfl, ⟨rfl, ⟨rfl, ⟨rfl, trivial⟩⟩⟩⟩⟩) (k303 hs a0 a1 a2 a3 a4 M)) h hS
set_option maxRecDepth 100000 in
def c304_285 (rec : Nat → List Value → Mem → XA) (a0 : Option Nat) (j311 : Mem → XA) (s13 : Int32 × Mem) : (Int32 × Mem) → ((Int32 × Mem) → XA) → XA := fun s17 j285 =>
  if s13.1 ≤ s17.1 then (
    j311 s17.2) else (
    gtP (13, 157) s17.2 a0 152 fun x18 =>
    gtP (13, 157) s17.2 a0 153 fun x19 =>
    alI 100 s17.2 x19 s17.1 fun x20 =>
    asI 100 s17.2 x18 s17.1 x20 fun M21 =>
    lt (s17.1 + (1 : Int32)) fun (x22 : Int32) =>
    j285 (x22, M21))
set_option maxRecDepth 100000 in
def c304_217 (rec : Nat → List Value → Mem → XA) (a0 : Option Nat) (j245 : Mem → XA) (x32 : Int32) : (Int32 × Mem) → ((Int32 × Mem) → XA) → XA := fun s34 j217 =>
  if x32 ≤ s34.1 then (
    j245 s34.2) else (
    gtP (13, 157) s34.2 a0 153 fun x35 =>
    gtP (13, 157) s34.2 a0 153 fun x36 =>
    alI 100 s34.2 x36 (s34.1 + ((1 : Int32))) fun x37 =>
    asI 100 s34.2 x35 s34.1 x37 fun M38 =>
    lt (s34.1 + (1 : Int32)) fun (x39 : Int32) =>
    j217 (x39, M38))
set_option maxRecDepth 100000 in
def c304_172 (rec : Nat → List Value → Mem → XA) (a0 : Option Nat) (a1 : Int32) (a2 : Int32) (j251 : Int32 × Int32 × Mem → XA) : (Int32 × Int32 × Int32 × Mem) → ((Int32 × Int32 × Int32 × Mem) → XA) → XA := fun s27 j172 =>
  if s27.1 ≤ s27.2.2.1 then (
    j251 (s27.1, s27.2.1, s27.2.2.2)) else (
    gtI (13, 157) s27.2.2.2 a0 84 fun x28 =>
    if x28 = 0 then (
      vC (13, 157) s27.2.2.2 a0 <|
      cI (rec 303 [va_rf a0, .int a1, .int s27.1, .int s27.2.2.1, .int a2] s27.2.2.2) fun x30 M29 =>
      if x30 = 0 then (
        gtI (13, 157) M29 a0 84 fun x31 =>
        if x31 = 0 then (
          lt (s27.1 + (-1 : Int32)) fun (x32 : Int32) =>
          jn (fun (s33 : Mem) =>
            j172 (x32, (1 : Int32), s27.2.2.1, s33)) fun j245 =>
          lp (c304_217 rec a0 j245 x32) 4294967296 (s27.2.2.1, M29)) else (
          j172 (s27.1, s27.2.1, s27.2.2.1, M29))) else (
        lt (s27.2.2.1 + (1 : Int32)) fun (x40 : Int32) =>
        j172 (s27.1, s27.2.1, x40, M29))) else (
      j251 (s27.1, s27.2.1, s27.2.2.2)))
set_option maxRecDepth 100000 in
def c304_154 (rec : Nat → List Value → Mem → XA) (a0 : Option Nat) (a1 : Int32) (a2 : Int32) (j254 : Int32 × Mem → XA) : (Int32 × Int32 × Mem) → ((Int32 × Int32 × Mem) → XA) → XA := fun s24 j154 =>
  if s24.2.1 = 0 then (
    j254 (s24.1, s24.2.2)) else (
    gtI (13, 157) s24.2.2 a0 84 fun x25 =>
    if x25 = 0 then (
      jn (fun (s26 : Int32 × Int32 × Mem) =>
        j154 (s26.1, s26.2.1, s26.2.2)) fun j251 =>
      lp (c304_172 rec a0 a1 a2 j251) 4294967296 (s24.1, (0 : Int32), (0 : Int32), s24.2.2)) else (
      j254 (s24.1, s24.2.2)))
set_option maxRecDepth 100000 in
def c304_30 (rec : Nat → List Value → Mem → XA) (a0 : Option Nat) (a1 : Int32) (a2 : Int32) (j68 : Int32 × Mem → XA) : (Int32 × Mem) → ((Int32 × Mem) → XA) → XA := fun s49 j30 =>
  gtP (13, 157) s49.2 a0 24 fun x50 =>
  alI 100 s49.2 x50 ((((16 : Int32)) * a1) + s49.1) fun x51 =>
  if x51 = a2 then (
    j68 (s49.1, s49.2)) else (
    gtP (13, 157) s49.2 a0 153 fun x52 =>
    gtP (13, 157) s49.2 a0 24 fun x53 =>
    alI 100 s49.2 x53 ((((16 : Int32)) * a1) + s49.1) fun x54 =>
    asI 100 s49.2 x52 s49.1 x54 fun M55 =>
    lt (s49.1 + (1 : Int32)) fun (x56 : Int32) =>
    j30 (x56, M55))
set_option maxRecDepth 100000 in
def c304 (rec : Nat → List Value → Mem → XA) (a0 : Option Nat) (a1 : Int32) (a2 : Int32) (M0 : Mem) : XA :=
  vC (13, 157) M0 a0 <|
  cI (rec 256 [va_rf a0, .int a1, .int a2] M0) fun x2 M1 =>
  if x2 = 0 then (
    some (.int ((-1 : Int32)), M1)) else (
    gtP (13, 157) M1 a0 22 fun x3 =>
    alX 102 M1 x3 ((((16 : Int32)) * a1) + a2) fun x4 =>
    if x4 = 0 then (
      jn (fun (s5 : Int32 × Mem) =>
        ptI (13, 157) s5.2 a0 83 ((20000 : Int32)) fun M6 =>
        ptZ (13, 157) M6 a0 84 ((0 : Int32)) fun M7 =>
        vC (13, 157) M7 a0 <|
        cI (rec 303 [va_rf a0, .int a1, .int s5.1, .int ((-1 : Int32)), .int a2] M7) fun x9 M8 =>
        jn (fun (s10 : Int32) =>
          jn (fun (s11 : Int32 × Mem) =>
            jn (fun (s12 : Int32) =>
              jn (fun (s13 : Int32 × Mem) =>
                gtI (13, 157) s13.2 a0 84 fun x14 =>
                if x14 = 0 then (
                  if s11.1 = 0 then (
                    ptI (13, 157) s13.2 a0 151 s13.1 fun M15 =>
                    jn (fun (s16 : Mem) =>
                      some (.int s13.1, s16)) fun j311 =>
                    lp (c304_285 rec a0 j311 s13) 4294967296 ((0 : Int32), M15)) else (
                    some (.int ((-2 : Int32)), s13.2))) else (
                  ptZ (13, 157) s13.2 a0 84 ((0 : Int32)) fun M23 =>
                  some (.int ((-4 : Int32)), M23))) fun j254 =>
              lp (c304_154 rec a0 a1 a2 j254) 4294967296 (s5.1, s12, s11.2)) fun j152 =>
            if s11.1 = 0 then (
              j152 ((1 : Int32))) else (
              j152 ((0 : Int32)))) fun j142 =>
          if s10 = 0 then (
            gtI (13, 157) M8 a0 84 fun x41 =>
            if x41 = 0 then (
              vC (13, 157) M8 a0 <|
              cI (rec 303 [va_rf a0, .int a1, .int ((0 : Int32)), .int ((-1 : Int32)), .int a2] M8) fun x43 M42 =>
              jn (fun (s44 : Int32) =>
                j142 (s44, M42)) fun j140 =>
              jn (fun (s45 : Unit) =>
                j140 ((0 : Int32))) fun j139 =>
              if x43 = 0 then (
                gtI (13, 157) M42 a0 84 fun x46 =>
                if x46 = 0 then (
                  j140 ((1 : Int32))) else (
                  j139 ())) else (
                j139 ())) else (
              j142 (s10, M8))) else (
            j142 (s10, M8))) fun j103 =>
        jn (fun (s47 : Unit) =>
          j103 ((0 : Int32))) fun j102 =>
        if x9 = 0 then (
          j102 ()) else (
          gtI (13, 157) M8 a0 84 fun x48 =>
          if x48 = 0 then (
            j103 ((1 : Int32))) else (
            j102 ()))) fun j68 =>
      lp (c304_30 rec a0 a1 a2 j68) 4294967296 ((0 : Int32), M1)) else (
      some (.int ((-2 : Int32)), M1)))
def b304 (rec : Nat → List Value → Mem → XA) (as : List Value) (M0 : Mem) : XA := aR as fun a0 as => aI as fun a1 as => aI as fun a2 as => aZ as (c304 rec a0 a1 a2 M0)
set_option maxRecDepth 100000 in
set_option maxHeartbeats 4000000 in
theorem k304 {S : XS} {G : XG} {K : Nat × Nat} {l : Launch} {d : Nat} {rec : Nat → List Value → Mem → XA} (hs : XSnd l xmt rec d) (a0 : Option Nat) (a1 : Int32) (a2 : Int32) (M0 : Mem) : Xe S G K l (yX12_blame, cX12_blame, 8, some .int) d 0 [some (va_rf a0), some (.int a1), some (.int a2), none, none, none, none, none] [] M0 (c304 rec a0 a1 a2 M0) := by
  unfold c304
  refine x_aload_n dX12_blame_0 rfl ?_
  refine x_iload_n dX12_blame_1 rfl ?_
  refine x_iload_n dX12_blame_2 rfl ?_
  refine cmX12_747 rfl hs (Nat.le_of_ble_eq_true rfl) dX12_blame_3 (fun x2 M1 => ?_)
  refine x_if_ne (tgt := 11) dX12_blame_6 (by decide) (fun _ => ?_) (fun _ => ?_)
  · refine x_iconst (v := -1) dX12_blame_9 (by decide) ?_
    exact x_iret rfl dX12_blame_10
  · refine x_aload_n dX12_blame_11 rfl ?_
    refine gfX12_73 rfl dX12_blame_12 (fun x3 => ?_)
    refine x_bipush (v := 16) dX12_blame_15 (by decide) ?_
    refine x_iload_n dX12_blame_17 rfl ?_
    refine x_imul dX12_blame_18 ?_
    refine x_iload_n dX12_blame_19 rfl ?_
    refine x_iadd dX12_blame_20 ?_
    refine x_zald dX12_blame_21 (fun x4 => ?_)
    refine x_if_eq (tgt := 28) dX12_blame_22 (by decide) (fun _ => ?_) (fun _ => ?_)
    · refine x_iconst (v := 0) dX12_blame_28 (by decide) ?_
      refine x_istore_n (lo' := [some (va_rf a0), some (.int a1), some (.int a2), some (.int ((0 : Int32))), none, none, none, none]) dX12_blame_29 (by decide) rfl rfl ?_
      refine x_jn (σ := Int32 × Mem) 68 (fun s5 => [some (va_rf a0), some (.int a1), some (.int a2), some (.int s5.1), none, none, none, none]) (fun s5 => []) (fun s5 => s5.2) (fun s5 => ?_) (fun j68 hj68 => ?_)
      · refine x_aload_n dX12_blame_68 rfl ?_
        refine x_sipush (v := 20000) dX12_blame_69 (by decide) ?_
        refine pfX12_644 rfl dX12_blame_72 (fun M6 => ?_)
        refine x_aload_n dX12_blame_75 rfl ?_
        refine x_iconst (v := 0) dX12_blame_76 (by decide) ?_
        refine pfX12_647 rfl dX12_blame_77 (fun M7 => ?_)
        refine x_aload_n dX12_blame_80 rfl ?_
        refine x_iload_n dX12_blame_81 rfl ?_
        refine x_iload_n dX12_blame_82 rfl ?_
        refine x_iconst (v := -1) dX12_blame_83 (by decide) ?_
        refine x_iload_n dX12_blame_84 rfl ?_
        refine cmX12_843 rfl hs (Nat.le_of_ble_eq_true rfl) dX12_blame_85 (fun x9 M8 => ?_)
        refine x_jn (σ := Int32) 103 (fun s10 => [some (va_rf a0), some (.int a1), some (.int a2), some (.int s5.1), none, none, none, none]) (fun s10 => [.int s10]) (fun s10 => M8) (fun s10 => ?_) (fun j103 hj103 => ?_)
        · refine x_istore (lo' := [some (va_rf a0), some (.int a1), some (.int a2), some (.int s5.1), some (.int s10), none, none, none]) dX12_blame_103 (by decide) rfl rfl ?_
          refine x_iload dX12_blame_105 rfl ?_
          refine x_jn (σ := Int32 × Mem) 142 (fun s11 => [some (va_rf a0), some (.int a1), some (.int a2), some (.int s5.1), some (.int s11.1), none, none, none]) (fun s11 => []) (fun s11 => s11.2) (fun s11 => ?_) (fun j142 hj142 => ?_)
          · refine x_iload dX12_blame_142 rfl ?_
            refine x_jn (σ := Int32) 152 (fun s12 => [some (va_rf a0), some (.int a1), some (.int a2), some (.int s5.1), some (.int s11.1), none, none, none]) (fun s12 => [.int s12]) (fun s12 => s11.2) (fun s12 => ?_) (fun j152 hj152 => ?_)
            · refine x_istore (lo' := [some (va_rf a0), some (.int a1), some (.int a2), some (.int s5.1), some (.int s11.1), some (.int s12), none, none]) dX12_blame_152 (by decide) rfl rfl ?_
              refine x_jn (σ := Int32 × Mem) 254 (fun s13 => [some (va_rf a0), none, none, some (.int s13.1), some (.int s11.1), none, none, none]) (fun s13 => []) (fun s13 => s13.2) (fun s13 => ?_) (fun j254 hj254 => ?_)
              · refine x_aload_n dX12_blame_254 rfl ?_
                refine gfX12_647 rfl dX12_blame_255 (fun x14 => ?_)
                refine x_if_eq (tgt := 269) dX12_blame_258 (by decide) (fun _ => ?_) (fun _ => ?_)
                · refine x_iload dX12_blame_269 rfl ?_
                  refine x_if_eq (tgt := 277) dX12_blame_271 (by decide) (fun _ => ?_) (fun _ => ?_)
                  · refine x_aload_n dX12_blame_277 rfl ?_
                    refine x_iload_n dX12_blame_278 rfl ?_
                    refine pfX12_847 rfl dX12_blame_279 (fun M15 => ?_)
                    refine x_iconst (v := 0) dX12_blame_282 (by decide) ?_
                    refine x_istore (lo' := [some (va_rf a0), none, none, some (.int s13.1), some (.int s11.1), none, some (.int ((0 : Int32))), none]) dX12_blame_283 (by decide) rfl rfl ?_
                    refine x_jn (σ := Mem) 311 (fun s16 => [none, none, none, some (.int s13.1), none, none, none, none]) (fun s16 => []) (fun s16 => s16) (fun s16 => ?_) (fun j311 hj311 => ?_)
                    · refine x_iload_n dX12_blame_311 rfl ?_
                      exact x_iret rfl dX12_blame_312
                    refine x_weak (by exact ⟨rfl, ⟨rfl, ⟨rfl, trivial⟩⟩⟩) (x_lp (σ := Int32 × Mem) 285 (fun s17 => [some (va_rf a0), none, none, some (.int s13.1), none, none, some (.int s17.1), none]) (fun s17 => []) (fun s17 => s17.2) (fun s17 j285 hj285 => ?_) 4294967296 ((0 : Int32), M15))
                    · refine x_iload dX12_blame_285 rfl ?_
                      refine x_iload_n dX12_blame_287 rfl ?_
                      refine x_icmp_ge (tgt := 311) dX12_blame_288 (by decide) (fun _ => ?_) (fun _ => ?_)
                      · exact x_weak (by exact ⟨rfl, trivial⟩) (hj311 s17.2)
                      · refine x_aload_n dX12_blame_291 rfl ?_
                        refine gfX12_366 rfl dX12_blame_292 (fun x18 => ?_)
                        refine x_iload dX12_blame_295 rfl ?_
                        refine x_aload_n dX12_blame_297 rfl ?_
                        refine gfX12_369 rfl dX12_blame_298 (fun x19 => ?_)
                        refine x_iload dX12_blame_301 rfl ?_
                        refine x_iald dX12_blame_303 (fun x20 => ?_)
                        refine x_iast dX12_blame_304 (fun M21 => ?_)
                        refine x_iincN (v := 1) (lo' := fun x22 => [some (va_rf a0), none, none, some (.int s13.1), none, none, some (.int x22), none]) (by decide) dX12_blame_305 rfl (by decide) rfl (fun _ => rfl) (fun x22 => ?_)
                        refine x_goto (tgt := 285) dX12_blame_308 (by decide) ?_
                        exact x_weak (by exact ⟨rfl, ⟨rfl, ⟨rfl, trivial⟩⟩⟩) (hj285 (x22, M21))
                  · refine x_bipush (v := -2) dX12_blame_274 (by decide) ?_
                    exact x_iret rfl dX12_blame_276
                · refine x_aload_n dX12_blame_261 rfl ?_
                  refine x_iconst (v := 0) dX12_blame_262 (by decide) ?_
                  refine pfX12_647 rfl dX12_blame_263 (fun M23 => ?_)
                  refine x_bipush (v := -4) dX12_blame_266 (by decide) ?_
                  exact x_iret rfl dX12_blame_268
              refine x_weak (by exact ⟨rfl, ⟨rfl, ⟨rfl, ⟨rfl, ⟨rfl, ⟨rfl, trivial⟩⟩⟩⟩⟩⟩) (x_lp (σ := Int32 × Int32 × Mem) 154 (fun s24 => [some (va_rf a0), some (.int a1), some (.int a2), some (.int s24.1), some (.int s11.1), some (.int s24.2.1), none, none]) (fun s24 => []) (fun s24 => s24.2.2) (fun s24 j154 hj154 => ?_) 4294967296 (s5.1, s12, s11.2))
              · refine x_iload dX12_blame_154 rfl ?_
                refine x_if_eq (tgt := 254) dX12_blame_156 (by decide) (fun _ => ?_) (fun _ => ?_)
                · exact x_weak (by exact ⟨rfl, ⟨rfl, ⟨rfl, trivial⟩⟩⟩) (hj254 (s24.1, s24.2.2))
                · refine x_aload_n dX12_blame_159 rfl ?_
                  refine gfX12_647 rfl dX12_blame_160 (fun x25 => ?_)
                  refine x_if_ne (tgt := 254) dX12_blame_163 (by decide) (fun _ => ?_) (fun _ => ?_)
                  · refine x_iconst (v := 0) dX12_blame_166 (by decide) ?_
                    refine x_istore (lo' := [some (va_rf a0), some (.int a1), some (.int a2), some (.int s24.1), some (.int s11.1), some (.int ((0 : Int32))), none, none]) dX12_blame_167 (by decide) rfl rfl ?_
                    refine x_iconst (v := 0) dX12_blame_169 (by decide) ?_
                    refine x_istore (lo' := [some (va_rf a0), some (.int a1), some (.int a2), some (.int s24.1), some (.int s11.1), some (.int ((0 : Int32))), some (.int ((0 : Int32))), none]) dX12_blame_170 (by decide) rfl rfl ?_
                    refine x_jn (σ := Int32 × Int32 × Mem) 251 (fun s26 => [some (va_rf a0), some (.int a1), some (.int a2), some (.int s26.1), some (.int s11.1), some (.int s26.2.1), none, none]) (fun s26 => []) (fun s26 => s26.2.2) (fun s26 => ?_) (fun j251 hj251 => ?_)
                    · refine x_goto (tgt := 154) dX12_blame_251 (by decide) ?_
                      exact x_weak (by exact ⟨rfl, ⟨rfl, ⟨rfl, ⟨rfl, ⟨rfl, ⟨rfl, trivial⟩⟩⟩⟩⟩⟩) (hj154 (s26.1, s26.2.1, s26.2.2))
                    refine x_weak (by exact ⟨rfl, ⟨rfl, ⟨rfl, ⟨rfl, ⟨rfl, ⟨rfl, ⟨rfl, trivial⟩⟩⟩⟩⟩⟩⟩) (x_lp (σ := Int32 × Int32 × Int32 × Mem) 172 (fun s27 => [some (va_rf a0), some (.int a1), some (.int a2), some (.int s27.1), some (.int s11.1), some (.int s27.2.1), some (.int s27.2.2.1), none]) (fun s27 => []) (fun s27 => s27.2.2.2) (fun s27 j172 hj172 => ?_) 4294967296 (s24.1, (0 : Int32), (0 : Int32), s24.2.2))
                    · refine x_iload dX12_blame_172 rfl ?_
                      refine x_iload_n dX12_blame_174 rfl ?_
                      refine x_icmp_ge (tgt := 251) dX12_blame_175 (by decide) (fun _ => ?_) (fun _ => ?_)
                      · exact x_weak (by exact ⟨rfl, ⟨rfl, ⟨rfl, ⟨rfl, ⟨rfl, ⟨rfl, trivial⟩⟩⟩⟩⟩⟩) (hj251 (s27.1, s27.2.1, s27.2.2.2))
                      · refine x_aload_n dX12_blame_178 rfl ?_
                        refine gfX12_647 rfl dX12_blame_179 (fun x28 => ?_)
                        refine x_if_ne (tgt := 251) dX12_blame_182 (by decide) (fun _ => ?_) (fun _ => ?_)
                        · refine x_aload_n dX12_blame_185 rfl ?_
                          refine x_iload_n dX12_blame_186 rfl ?_
                          refine x_iload_n dX12_blame_187 rfl ?_
                          refine x_iload dX12_blame_188 rfl ?_
                          refine x_iload_n dX12_blame_190 rfl ?_
                          refine cmX12_843 rfl hs (Nat.le_of_ble_eq_true rfl) dX12_blame_191 (fun x30 M29 => ?_)
                          refine x_if_eq (tgt := 203) dX12_blame_194 (by decide) (fun _ => ?_) (fun _ => ?_)
                          · refine x_aload_n dX12_blame_203 rfl ?_
                            refine gfX12_647 rfl dX12_blame_204 (fun x31 => ?_)
                            refine x_if_ne (tgt := 172) dX12_blame_207 (by decide) (fun _ => ?_) (fun _ => ?_)
                            · refine x_iincN (v := -1) (lo' := fun x32 => [some (va_rf a0), some (.int a1), some (.int a2), some (.int x32), some (.int s11.1), some (.int s27.2.1), some (.int s27.2.2.1), none]) (by decide) dX12_blame_210 rfl (by decide) rfl (fun _ => rfl) (fun x32 => ?_)
                              refine x_iload dX12_blame_213 rfl ?_
                              refine x_istore (lo' := [some (va_rf a0), some (.int a1), some (.int a2), some (.int x32), some (.int s11.1), some (.int s27.2.1), some (.int s27.2.2.1), some (.int s27.2.2.1)]) dX12_blame_215 (by decide) rfl rfl ?_
                              refine x_jn (σ := Mem) 245 (fun s33 => [some (va_rf a0), some (.int a1), some (.int a2), some (.int x32), some (.int s11.1), none, some (.int s27.2.2.1), none]) (fun s33 => []) (fun s33 => s33) (fun s33 => ?_) (fun j245 hj245 => ?_)
                              · refine x_iconst (v := 1) dX12_blame_245 (by decide) ?_
                                refine x_istore (lo' := [some (va_rf a0), some (.int a1), some (.int a2), some (.int x32), some (.int s11.1), some (.int ((1 : Int32))), some (.int s27.2.2.1), none]) dX12_blame_246 (by decide) rfl rfl ?_
                                refine x_goto (tgt := 172) dX12_blame_248 (by decide) ?_
                                exact x_weak (by exact ⟨rfl, ⟨rfl, ⟨rfl, ⟨rfl, ⟨rfl, ⟨rfl, ⟨rfl, trivial⟩⟩⟩⟩⟩⟩⟩) (hj172 (x32, (1 : Int32), s27.2.2.1, s33))
                              refine x_weak (by exact ⟨rfl, ⟨rfl, ⟨rfl, ⟨rfl, ⟨rfl, ⟨rfl, ⟨rfl, trivial⟩⟩⟩⟩⟩⟩⟩) (x_lp (σ := Int32 × Mem) 217 (fun s34 => [some (va_rf a0), some (.int a1), some (.int a2), some (.int x32), some (.int s11.1), none, some (.int s27.2.2.1), some (.int s34.1)]) (fun s34 => []) (fun s34 => s34.2) (fun s34 j217 hj217 => ?_) 4294967296 (s27.2.2.1, M29))
                              · refine x_iload dX12_blame_217 rfl ?_
                                refine x_iload_n dX12_blame_219 rfl ?_
                                refine x_icmp_ge (tgt := 245) dX12_blame_220 (by decide) (fun _ => ?_) (fun _ => ?_)
                                · exact x_weak (by exact ⟨rfl, ⟨rfl, ⟨rfl, ⟨rfl, ⟨rfl, ⟨rfl, trivial⟩⟩⟩⟩⟩⟩) (hj245 s34.2)
                                · refine x_aload_n dX12_blame_223 rfl ?_
                                  refine gfX12_369 rfl dX12_blame_224 (fun x35 => ?_)
                                  refine x_iload dX12_blame_227 rfl ?_
                                  refine x_aload_n dX12_blame_229 rfl ?_
                                  refine gfX12_369 rfl dX12_blame_230 (fun x36 => ?_)
                                  refine x_iload dX12_blame_233 rfl ?_
                                  refine x_iconst (v := 1) dX12_blame_235 (by decide) ?_
                                  refine x_iadd dX12_blame_236 ?_
                                  refine x_iald dX12_blame_237 (fun x37 => ?_)
                                  refine x_iast dX12_blame_238 (fun M38 => ?_)
                                  refine x_iincN (v := 1) (lo' := fun x39 => [some (va_rf a0), some (.int a1), some (.int a2), some (.int x32), some (.int s11.1), none, some (.int s27.2.2.1), some (.int x39)]) (by decide) dX12_blame_239 rfl (by decide) rfl (fun _ => rfl) (fun x39 => ?_)
                                  refine x_goto (tgt := 217) dX12_blame_242 (by decide) ?_
                                  exact x_weak (by exact ⟨rfl, ⟨rfl, ⟨rfl, ⟨rfl, ⟨rfl, ⟨rfl, ⟨rfl, trivial⟩⟩⟩⟩⟩⟩⟩) (hj217 (x39, M38))
                            · exact x_weak (by exact ⟨rfl, ⟨rfl, ⟨rfl, ⟨rfl, ⟨rfl, ⟨rfl, ⟨rfl, trivial⟩⟩⟩⟩⟩⟩⟩) (hj172 (s27.1, s27.2.1, s27.2.2.1, M29))
                          · refine x_iincN (v := 1) (lo' := fun x40 => [some (va_rf a0), some (.int a1), some (.int a2), some (.int s27.1), some (.int s11.1), some (.int s27.2.1), some (.int x40), none]) (by decide) dX12_blame_197 rfl (by decide) rfl (fun _ => rfl) (fun x40 => ?_)
                            refine x_goto (tgt := 172) dX12_blame_200 (by decide) ?_
                            exact x_weak (by exact ⟨rfl, ⟨rfl, ⟨rfl, ⟨rfl, ⟨rfl, ⟨rfl, ⟨rfl, trivial⟩⟩⟩⟩⟩⟩⟩) (hj172 (s27.1, s27.2.1, x40, M29))
                        · exact x_weak (by exact ⟨rfl, ⟨rfl, ⟨rfl, ⟨rfl, ⟨rfl, ⟨rfl, trivial⟩⟩⟩⟩⟩⟩) (hj251 (s27.1, s27.2.1, s27.2.2.2))
                  · exact x_weak (by exact ⟨rfl, ⟨rfl, ⟨rfl, trivial⟩⟩⟩) (hj254 (s24.1, s24.2.2))
            refine x_if_ne (tgt := 151) dX12_blame_144 (by decide) (fun _ => ?_) (fun _ => ?_)
            · refine x_iconst (v := 1) dX12_blame_147 (by decide) ?_
              refine x_goto (tgt := 152) dX12_blame_148 (by decide) ?_
              exact x_weak (by exact ⟨rfl, ⟨rfl, ⟨rfl, ⟨rfl, ⟨rfl, trivial⟩⟩⟩⟩⟩) (hj152 ((1 : Int32)))
            · refine x_iconst (v := 0) dX12_blame_151 (by decide) ?_
              exact x_weak (by exact ⟨rfl, ⟨rfl, ⟨rfl, ⟨rfl, ⟨rfl, trivial⟩⟩⟩⟩⟩) (hj152 ((0 : Int32)))
          refine x_if_ne (tgt := 142) dX12_blame_107 (by decide) (fun _ => ?_) (fun _ => ?_)
          · refine x_aload_n dX12_blame_110 rfl ?_
            refine gfX12_647 rfl dX12_blame_111 (fun x41 => ?_)
            refine x_if_ne (tgt := 142) dX12_blame_114 (by decide) (fun _ => ?_) (fun _ => ?_)
            · refine x_aload_n dX12_blame_117 rfl ?_
              refine x_iload_n dX12_blame_118 rfl ?_
              refine x_iconst (v := 0) dX12_blame_119 (by decide) ?_
              refine x_iconst (v := -1) dX12_blame_120 (by decide) ?_
              refine x_iload_n dX12_blame_121 rfl ?_
              refine cmX12_843 rfl hs (Nat.le_of_ble_eq_true rfl) dX12_blame_122 (fun x43 M42 => ?_)
              refine x_jn (σ := Int32) 140 (fun s44 => [some (va_rf a0), some (.int a1), some (.int a2), some (.int s5.1), none, none, none, none]) (fun s44 => [.int s44]) (fun s44 => M42) (fun s44 => ?_) (fun j140 hj140 => ?_)
              · refine x_istore (lo' := [some (va_rf a0), some (.int a1), some (.int a2), some (.int s5.1), some (.int s44), none, none, none]) dX12_blame_140 (by decide) rfl rfl ?_
                exact x_weak (by exact ⟨rfl, ⟨rfl, ⟨rfl, ⟨rfl, ⟨rfl, trivial⟩⟩⟩⟩⟩) (hj142 (s44, M42))
              refine x_jn (σ := Unit) 139 (fun s45 => [some (va_rf a0), some (.int a1), some (.int a2), some (.int s5.1), none, none, none, none]) (fun s45 => []) (fun s45 => M42) (fun s45 => ?_) (fun j139 hj139 => ?_)
              · refine x_iconst (v := 0) dX12_blame_139 (by decide) ?_
                exact x_weak (by exact ⟨rfl, ⟨rfl, ⟨rfl, ⟨rfl, trivial⟩⟩⟩⟩) (hj140 ((0 : Int32)))
              refine x_if_ne (tgt := 139) dX12_blame_125 (by decide) (fun _ => ?_) (fun _ => ?_)
              · refine x_aload_n dX12_blame_128 rfl ?_
                refine gfX12_647 rfl dX12_blame_129 (fun x46 => ?_)
                refine x_if_ne (tgt := 139) dX12_blame_132 (by decide) (fun _ => ?_) (fun _ => ?_)
                · refine x_iconst (v := 1) dX12_blame_135 (by decide) ?_
                  refine x_goto (tgt := 140) dX12_blame_136 (by decide) ?_
                  exact x_weak (by exact ⟨rfl, ⟨rfl, ⟨rfl, ⟨rfl, trivial⟩⟩⟩⟩) (hj140 ((1 : Int32)))
                · exact x_weak (by exact ⟨rfl, ⟨rfl, ⟨rfl, ⟨rfl, trivial⟩⟩⟩⟩) (hj139 ())
              · exact x_weak (by exact ⟨rfl, ⟨rfl, ⟨rfl, ⟨rfl, trivial⟩⟩⟩⟩) (hj139 ())
            · exact x_weak (by exact ⟨rfl, ⟨rfl, ⟨rfl, ⟨rfl, ⟨rfl, trivial⟩⟩⟩⟩⟩) (hj142 (s10, M8))
          · exact x_weak (by exact ⟨rfl, ⟨rfl, ⟨rfl, ⟨rfl, ⟨rfl, trivial⟩⟩⟩⟩⟩) (hj142 (s10, M8))
        refine x_jn (σ := Unit) 102 (fun s47 => [some (va_rf a0), some (.int a1), some (.int a2), some (.int s5.1), none, none, none, none]) (fun s47 => []) (fun s47 => M8) (fun s47 => ?_) (fun j102 hj102 => ?_)
        · refine x_iconst (v := 0) dX12_blame_102 (by decide) ?_
          exact x_weak (by exact ⟨rfl, ⟨rfl, ⟨rfl, ⟨rfl, trivial⟩⟩⟩⟩) (hj103 ((0 : Int32)))
        refine x_if_eq (tgt := 102) dX12_blame_88 (by decide) (fun _ => ?_) (fun _ => ?_)
        · exact x_weak (by exact ⟨rfl, ⟨rfl, ⟨rfl, ⟨rfl, trivial⟩⟩⟩⟩) (hj102 ())
        · refine x_aload_n dX12_blame_91 rfl ?_
          refine gfX12_647 rfl dX12_blame_92 (fun x48 => ?_)
          refine x_if_ne (tgt := 102) dX12_blame_95 (by decide) (fun _ => ?_) (fun _ => ?_)
          · refine x_iconst (v := 1) dX12_blame_98 (by decide) ?_
            refine x_goto (tgt := 103) dX12_blame_99 (by decide) ?_
            exact x_weak (by exact ⟨rfl, ⟨rfl, ⟨rfl, ⟨rfl, trivial⟩⟩⟩⟩) (hj103 ((1 : Int32)))
          · exact x_weak (by exact ⟨rfl, ⟨rfl, ⟨rfl, ⟨rfl, trivial⟩⟩⟩⟩) (hj102 ())
      refine x_weak (by exact ⟨rfl, ⟨rfl, ⟨rfl, ⟨rfl, trivial⟩⟩⟩⟩) (x_lp (σ := Int32 × Mem) 30 (fun s49 => [some (va_rf a0), some (.int a1), some (.int a2), some (.int s49.1), none, none, none, none]) (fun s49 => []) (fun s49 => s49.2) (fun s49 j30 hj30 => ?_) 4294967296 ((0 : Int32), M1))
      · refine x_aload_n dX12_blame_30 rfl ?_
        refine gfX12_79 rfl dX12_blame_31 (fun x50 => ?_)
        refine x_bipush (v := 16) dX12_blame_34 (by decide) ?_
        refine x_iload_n dX12_blame_36 rfl ?_
        refine x_imul dX12_blame_37 ?_
        refine x_iload_n dX12_blame_38 rfl ?_
        refine x_iadd dX12_blame_39 ?_
        refine x_iald dX12_blame_40 (fun x51 => ?_)
        refine x_iload_n dX12_blame_41 rfl ?_
        refine x_icmp_eq (tgt := 68) dX12_blame_42 (by decide) (fun _ => ?_) (fun _ => ?_)
        · exact x_weak (by exact ⟨rfl, ⟨rfl, ⟨rfl, ⟨rfl, trivial⟩⟩⟩⟩) (hj68 (s49.1, s49.2))
        · refine x_aload_n dX12_blame_45 rfl ?_
          refine gfX12_369 rfl dX12_blame_46 (fun x52 => ?_)
          refine x_iload_n dX12_blame_49 rfl ?_
          refine x_aload_n dX12_blame_50 rfl ?_
          refine gfX12_79 rfl dX12_blame_51 (fun x53 => ?_)
          refine x_bipush (v := 16) dX12_blame_54 (by decide) ?_
          refine x_iload_n dX12_blame_56 rfl ?_
          refine x_imul dX12_blame_57 ?_
          refine x_iload_n dX12_blame_58 rfl ?_
          refine x_iadd dX12_blame_59 ?_
          refine x_iald dX12_blame_60 (fun x54 => ?_)
          refine x_iast dX12_blame_61 (fun M55 => ?_)
          refine x_iincN (v := 1) (lo' := fun x56 => [some (va_rf a0), some (.int a1), some (.int a2), some (.int x56), none, none, none, none]) (by decide) dX12_blame_62 rfl (by decide) rfl (fun _ => rfl) (fun x56 => ?_)
          refine x_goto (tgt := 30) dX12_blame_65 (by decide) ?_
          exact x_weak (by exact ⟨rfl, ⟨rfl, ⟨rfl, ⟨rfl, trivial⟩⟩⟩⟩) (hj30 (x56, M55))
    · refine x_bipush (v := -2) dX12_blame_25 (by decide) ?_
      exact x_iret rfl dX12_blame_27
theorem s304 {l : Launch} {d : Nat} {rec : Nat → List Value → Mem → XA} (hS : Nonempty XS) (hs : XSnd l xmt rec d) : Snd1 l 304 (b304 rec) d := by
  intro as M r M' h0
  unfold b304 at h0
  obtain ⟨a0, l1, e1, h1⟩ := aR_inv h0
  obtain ⟨a1, l2, e2, h2⟩ := aI_inv h1
  obtain ⟨a2, l3, e3, h3⟩ := aI_inv h2
  obtain ⟨ez, h⟩ := aZ_inv h3
  subst ez
  subst e3
  subst e2
  subst e1
  exact xmet (M := M) (as := [va_rf a0, .int a1, .int a2]) (lo := [some (va_rf a0), some (.int a1), some (.int a2)]) 304 xq304 xm304 (by rw [xargs_rf, xargs_i, xargs_i, xargs_nil]; exact ⟨rfl, ⟨rfl, ⟨rfl, trivial⟩⟩⟩) (by rw [xargs_rf, xargs_i, xargs_i, xargs_nil]; exact Nat.le_of_ble_eq_true rfl) (fun S G K => x_weak (by exact ⟨rfl, ⟨rfl, ⟨rfl, trivial⟩⟩⟩) (k304 hs a0 a1 a2 M)) h hS
set_option maxRecDepth 100000 in
def c305 (rec : Nat → List Value → Mem → XA) (a0 : Option Nat) (a1 : Int32) (M0 : Mem) : XA :=
  gtI (13, 157) M0 a0 151 fun x1 =>
  cI (rec 184 [.int a1, .int ((0 : Int32)), .int (x1 - ((1 : Int32)))] M0) fun x3 M2 =>
  jn (fun (s4 : Int32) =>
    some (.int s4, M2)) fun j24 =>
  if x3 = 0 then (
    j24 ((-1 : Int32))) else (
    gtP (13, 157) M2 a0 152 fun x5 =>
    alI 100 M2 x5 a1 fun x6 =>
    j24 x6)
def b305 (rec : Nat → List Value → Mem → XA) (as : List Value) (M0 : Mem) : XA := aR as fun a0 as => aI as fun a1 as => aZ as (c305 rec a0 a1 M0)
set_option maxRecDepth 100000 in
set_option maxHeartbeats 4000000 in
theorem k305 {S : XS} {G : XG} {K : Nat × Nat} {l : Launch} {d : Nat} {rec : Nat → List Value → Mem → XA} (hs : XSnd l xmt rec d) (a0 : Option Nat) (a1 : Int32) (M0 : Mem) : Xe S G K l (yX12_blamed, cX12_blamed, 2, some .int) d 0 [some (va_rf a0), some (.int a1)] [] M0 (c305 rec a0 a1 M0) := by
  unfold c305
  refine x_iload_n dX12_blamed_0 rfl ?_
  refine x_iconst (v := 0) dX12_blamed_1 (by decide) ?_
  refine x_aload_n dX12_blamed_2 rfl ?_
  refine gfX12_847 rfl dX12_blamed_3 (fun x1 => ?_)
  refine x_iconst (v := 1) dX12_blamed_6 (by decide) ?_
  refine x_isub dX12_blamed_7 ?_
  refine cmX12_381 rfl hs (Nat.le_of_ble_eq_true rfl) dX12_blamed_8 (fun x3 M2 => ?_)
  refine x_jn (σ := Int32) 24 (fun s4 => [none, none]) (fun s4 => [.int s4]) (fun s4 => M2) (fun s4 => ?_) (fun j24 hj24 => ?_)
  · exact x_iret rfl dX12_blamed_24
  refine x_if_eq (tgt := 23) dX12_blamed_11 (by decide) (fun _ => ?_) (fun _ => ?_)
  · refine x_iconst (v := -1) dX12_blamed_23 (by decide) ?_
    exact x_weak (by exact trivial) (hj24 ((-1 : Int32)))
  · refine x_aload_n dX12_blamed_14 rfl ?_
    refine gfX12_366 rfl dX12_blamed_15 (fun x5 => ?_)
    refine x_iload_n dX12_blamed_18 rfl ?_
    refine x_iald dX12_blamed_19 (fun x6 => ?_)
    refine x_goto (tgt := 24) dX12_blamed_20 (by decide) ?_
    exact x_weak (by exact trivial) (hj24 x6)
theorem s305 {l : Launch} {d : Nat} {rec : Nat → List Value → Mem → XA} (hS : Nonempty XS) (hs : XSnd l xmt rec d) : Snd1 l 305 (b305 rec) d := by
  intro as M r M' h0
  unfold b305 at h0
  obtain ⟨a0, l1, e1, h1⟩ := aR_inv h0
  obtain ⟨a1, l2, e2, h2⟩ := aI_inv h1
  obtain ⟨ez, h⟩ := aZ_inv h2
  subst ez
  subst e2
  subst e1
  exact xmet (M := M) (as := [va_rf a0, .int a1]) (lo := [some (va_rf a0), some (.int a1)]) 305 xq305 xm305 (by rw [xargs_rf, xargs_i, xargs_nil]; exact ⟨rfl, ⟨rfl, trivial⟩⟩) (by rw [xargs_rf, xargs_i, xargs_nil]; exact Nat.le_of_ble_eq_true rfl) (fun S G K => x_weak (by exact ⟨rfl, ⟨rfl, trivial⟩⟩) (k305 hs a0 a1 M)) h hS
set_option maxRecDepth 100000 in
def c306 (rec : Nat → List Value → Mem → XA) (a0 : Option Nat) (a1 : Int32) (a2 : Int32) (M0 : Mem) : XA :=
  vC (13, 157) M0 a0 <|
  cI (rec 255 [va_rf a0, .int a1] M0) fun x2 M1 =>
  jn (fun (s3 : Mem) =>
    some (.int ((-1 : Int32)), s3)) fun j16 =>
  if x2 = 0 then (
    j16 M1) else (
    vC (13, 157) M1 a0 <|
    cI (rec 255 [va_rf a0, .int a2] M1) fun x5 M4 =>
    if x5 = 0 then (
      j16 M4) else (
      gtI (13, 157) M4 a0 154 fun x6 =>
      if x6 = ((8 : Int32)) then (
        some (.int ((-3 : Int32)), M4)) else (
        gtP (13, 157) M4 a0 155 fun x7 =>
        gtI (13, 157) M4 a0 154 fun x8 =>
        asI 100 M4 x7 x8 a1 fun M9 =>
        gtP (13, 157) M9 a0 156 fun x10 =>
        gtI (13, 157) M9 a0 154 fun x11 =>
        asI 100 M9 x10 x11 a2 fun M12 =>
        gtI (13, 157) M12 a0 154 fun x13 =>
        ptI (13, 157) M12 a0 154 (x13 + ((1 : Int32))) fun M14 =>
        gtI (13, 157) M14 a0 154 fun x15 =>
        some (.int (x15 - ((1 : Int32))), M14))))
def b306 (rec : Nat → List Value → Mem → XA) (as : List Value) (M0 : Mem) : XA := aR as fun a0 as => aI as fun a1 as => aI as fun a2 as => aZ as (c306 rec a0 a1 a2 M0)
set_option maxRecDepth 100000 in
set_option maxHeartbeats 4000000 in
theorem k306 {S : XS} {G : XG} {K : Nat × Nat} {l : Launch} {d : Nat} {rec : Nat → List Value → Mem → XA} (hs : XSnd l xmt rec d) (a0 : Option Nat) (a1 : Int32) (a2 : Int32) (M0 : Mem) : Xe S G K l (yX12_build, cX12_build, 3, some .int) d 0 [some (va_rf a0), some (.int a1), some (.int a2)] [] M0 (c306 rec a0 a1 a2 M0) := by
  unfold c306
  refine x_aload_n dX12_build_0 rfl ?_
  refine x_iload_n dX12_build_1 rfl ?_
  refine cmX12_735 rfl hs (Nat.le_of_ble_eq_true rfl) dX12_build_2 (fun x2 M1 => ?_)
  refine x_jn (σ := Mem) 16 (fun s3 => [none, none, none]) (fun s3 => []) (fun s3 => s3) (fun s3 => ?_) (fun j16 hj16 => ?_)
  · refine x_iconst (v := -1) dX12_build_16 (by decide) ?_
    exact x_iret rfl dX12_build_17
  refine x_if_eq (tgt := 16) dX12_build_5 (by decide) (fun _ => ?_) (fun _ => ?_)
  · exact x_weak (by exact trivial) (hj16 M1)
  · refine x_aload_n dX12_build_8 rfl ?_
    refine x_iload_n dX12_build_9 rfl ?_
    refine cmX12_735 rfl hs (Nat.le_of_ble_eq_true rfl) dX12_build_10 (fun x5 M4 => ?_)
    refine x_if_ne (tgt := 18) dX12_build_13 (by decide) (fun _ => ?_) (fun _ => ?_)
    · exact x_weak (by exact trivial) (hj16 M4)
    · refine x_aload_n dX12_build_18 rfl ?_
      refine gfX12_850 rfl dX12_build_19 (fun x6 => ?_)
      refine x_bipush (v := 8) dX12_build_22 (by decide) ?_
      refine x_icmp_ne (tgt := 30) dX12_build_24 (by decide) (fun _ => ?_) (fun _ => ?_)
      · refine x_bipush (v := -3) dX12_build_27 (by decide) ?_
        exact x_iret rfl dX12_build_29
      · refine x_aload_n dX12_build_30 rfl ?_
        refine gfX12_372 rfl dX12_build_31 (fun x7 => ?_)
        refine x_aload_n dX12_build_34 rfl ?_
        refine gfX12_850 rfl dX12_build_35 (fun x8 => ?_)
        refine x_iload_n dX12_build_38 rfl ?_
        refine x_iast dX12_build_39 (fun M9 => ?_)
        refine x_aload_n dX12_build_40 rfl ?_
        refine gfX12_375 rfl dX12_build_41 (fun x10 => ?_)
        refine x_aload_n dX12_build_44 rfl ?_
        refine gfX12_850 rfl dX12_build_45 (fun x11 => ?_)
        refine x_iload_n dX12_build_48 rfl ?_
        refine x_iast dX12_build_49 (fun M12 => ?_)
        refine x_aload_n dX12_build_50 rfl ?_
        refine x_dup dX12_build_51 (xc1_r _) ?_
        refine gfX12_850 rfl dX12_build_52 (fun x13 => ?_)
        refine x_iconst (v := 1) dX12_build_55 (by decide) ?_
        refine x_iadd dX12_build_56 ?_
        refine pfX12_850 rfl dX12_build_57 (fun M14 => ?_)
        refine x_aload_n dX12_build_60 rfl ?_
        refine gfX12_850 rfl dX12_build_61 (fun x15 => ?_)
        refine x_iconst (v := 1) dX12_build_64 (by decide) ?_
        refine x_isub dX12_build_65 ?_
        exact x_iret rfl dX12_build_66
theorem s306 {l : Launch} {d : Nat} {rec : Nat → List Value → Mem → XA} (hS : Nonempty XS) (hs : XSnd l xmt rec d) : Snd1 l 306 (b306 rec) d := by
  intro as M r M' h0
  unfold b306 at h0
  obtain ⟨a0, l1, e1, h1⟩ := aR_inv h0
  obtain ⟨a1, l2, e2, h2⟩ := aI_inv h1
  obtain ⟨a2, l3, e3, h3⟩ := aI_inv h2
  obtain ⟨ez, h⟩ := aZ_inv h3
  subst ez
  subst e3
  subst e2
  subst e1
  exact xmet (M := M) (as := [va_rf a0, .int a1, .int a2]) (lo := [some (va_rf a0), some (.int a1), some (.int a2)]) 306 xq306 xm306 (by rw [xargs_rf, xargs_i, xargs_i, xargs_nil]; exact ⟨rfl, ⟨rfl, ⟨rfl, trivial⟩⟩⟩) (by rw [xargs_rf, xargs_i, xargs_i, xargs_nil]; exact Nat.le_of_ble_eq_true rfl) (fun S G K => x_weak (by exact ⟨rfl, ⟨rfl, ⟨rfl, trivial⟩⟩⟩) (k306 hs a0 a1 a2 M)) h hS
set_option maxRecDepth 100000 in
def c307 (rec : Nat → List Value → Mem → XA) (a0 : Option Nat) (a1 : Int32) (a2 : Int32) (M0 : Mem) : XA :=
  gtP (13, 157) M0 a0 156 fun x1 =>
  alI 100 M0 x1 a1 fun x2 =>
  gtP (13, 157) M0 a0 4 fun x3 =>
  gtP (13, 157) M0 a0 155 fun x4 =>
  alI 100 M0 x4 a1 fun x5 =>
  alL M0 x3 ((((8 : Int32)) * x5) + a2) fun x6 =>
  vC (13, 157) M0 a0 <|
  cI (rec 227 [va_rf a0, .int x2, .long x6] M0) fun x8 M7 =>
  some (.int x8, M7)
def b307 (rec : Nat → List Value → Mem → XA) (as : List Value) (M0 : Mem) : XA := aR as fun a0 as => aI as fun a1 as => aI as fun a2 as => aZ as (c307 rec a0 a1 a2 M0)
set_option maxRecDepth 100000 in
set_option maxHeartbeats 4000000 in
theorem k307 {S : XS} {G : XG} {K : Nat × Nat} {l : Launch} {d : Nat} {rec : Nat → List Value → Mem → XA} (hs : XSnd l xmt rec d) (a0 : Option Nat) (a1 : Int32) (a2 : Int32) (M0 : Mem) : Xe S G K l (yX12_newUnitFor, cX12_newUnitFor, 3, some .int) d 0 [some (va_rf a0), some (.int a1), some (.int a2)] [] M0 (c307 rec a0 a1 a2 M0) := by
  unfold c307
  refine x_aload_n dX12_newUnitFor_0 rfl ?_
  refine x_aload_n dX12_newUnitFor_1 rfl ?_
  refine gfX12_375 rfl dX12_newUnitFor_2 (fun x1 => ?_)
  refine x_iload_n dX12_newUnitFor_5 rfl ?_
  refine x_iald dX12_newUnitFor_6 (fun x2 => ?_)
  refine x_aload_n dX12_newUnitFor_7 rfl ?_
  refine gfX12_17 rfl dX12_newUnitFor_8 (fun x3 => ?_)
  refine x_bipush (v := 8) dX12_newUnitFor_11 (by decide) ?_
  refine x_aload_n dX12_newUnitFor_13 rfl ?_
  refine gfX12_372 rfl dX12_newUnitFor_14 (fun x4 => ?_)
  refine x_iload_n dX12_newUnitFor_17 rfl ?_
  refine x_iald dX12_newUnitFor_18 (fun x5 => ?_)
  refine x_imul dX12_newUnitFor_19 ?_
  refine x_iload_n dX12_newUnitFor_20 rfl ?_
  refine x_iadd dX12_newUnitFor_21 ?_
  refine x_lald dX12_newUnitFor_22 (fun x6 => ?_)
  refine cmX12_571 rfl hs (Nat.le_of_ble_eq_true rfl) dX12_newUnitFor_23 (fun x8 M7 => ?_)
  exact x_iret rfl dX12_newUnitFor_26
theorem s307 {l : Launch} {d : Nat} {rec : Nat → List Value → Mem → XA} (hS : Nonempty XS) (hs : XSnd l xmt rec d) : Snd1 l 307 (b307 rec) d := by
  intro as M r M' h0
  unfold b307 at h0
  obtain ⟨a0, l1, e1, h1⟩ := aR_inv h0
  obtain ⟨a1, l2, e2, h2⟩ := aI_inv h1
  obtain ⟨a2, l3, e3, h3⟩ := aI_inv h2
  obtain ⟨ez, h⟩ := aZ_inv h3
  subst ez
  subst e3
  subst e2
  subst e1
  exact xmet (M := M) (as := [va_rf a0, .int a1, .int a2]) (lo := [some (va_rf a0), some (.int a1), some (.int a2)]) 307 xq307 xm307 (by rw [xargs_rf, xargs_i, xargs_i, xargs_nil]; exact ⟨rfl, ⟨rfl, ⟨rfl, trivial⟩⟩⟩) (by rw [xargs_rf, xargs_i, xargs_i, xargs_nil]; exact Nat.le_of_ble_eq_true rfl) (fun S G K => x_weak (by exact ⟨rfl, ⟨rfl, ⟨rfl, trivial⟩⟩⟩) (k307 hs a0 a1 a2 M)) h hS
set_option maxRecDepth 100000 in
def c308 (rec : Nat → List Value → Mem → XA) (a0 : Option Nat) (a1 : Int32) (a2 : Int32) (M0 : Mem) : XA :=
  gtI (13, 157) M0 a0 154 fun x1 =>
  cI (rec 184 [.int a1, .int ((0 : Int32)), .int (x1 - ((1 : Int32)))] M0) fun x3 M2 =>
  jn (fun (s4 : Mem) =>
    some (.int ((-1 : Int32)), s4)) fun j35 =>
  if x3 = 0 then (
    j35 M2) else (
    gtP (13, 157) M2 a0 29 fun x5 =>
    gtP (13, 157) M2 a0 155 fun x6 =>
    alI 100 M2 x6 a1 fun x7 =>
    alI 100 M2 x5 x7 fun x8 =>
    cI (rec 184 [.int a2, .int ((0 : Int32)), .int (x8 - ((1 : Int32)))] M2) fun x10 M9 =>
    if x10 = 0 then (
      j35 M9) else (
      gtP (13, 157) M9 a0 155 fun x11 =>
      alI 100 M9 x11 a1 fun x12 =>
      gtP (13, 157) M9 a0 30 fun x13 =>
      alI 101 M9 x13 ((((1000 : Int32)) * x12) + a2) fun x14 =>
      gtP (13, 157) M9 a0 32 fun x15 =>
      alI 101 M9 x15 ((((1000 : Int32)) * x12) + a2) fun x16 =>
      vC (13, 157) M9 a0 <|
      cI (rec 307 [va_rf a0, .int a1, .int x16] M9) fun x18 M17 =>
      jn (fun (s19 : Unit) =>
        some (.int ((-2 : Int32)), M17)) fun j91 =>
      if 0 ≤ x18 then (
        j91 ()) else (
        if x14 < ((3 : Int32)) then (
          j91 ()) else (
          if x14 ≤ ((7 : Int32)) then (
            gtP (13, 157) M17 a0 31 fun x20 =>
            alI 100 M17 x20 ((((1000 : Int32)) * x12) + a2) fun x21 =>
            gtP (13, 157) M17 a0 12 fun x22 =>
            alI 100 M17 x22 ((((96 : Int32)) * x12) + x21) fun x23 =>
            vC (13, 157) M17 a0 <|
            cI (rec 307 [va_rf a0, .int a1, .int x23] M17) fun x25 M24 =>
            jn (fun (s26 : Int32 × Mem) =>
              some (.int s26.1, s26.2)) fun j157 =>
            if 0 ≤ x25 then (
              gtP (13, 157) M24 a0 156 fun x27 =>
              alI 100 M24 x27 a1 fun x28 =>
              vC (13, 157) M24 a0 <|
              cI (rec 237 [va_rf a0, .int x12, .int x21, .int x28, .int x25] M24) fun x30 M29 =>
              lt (if ((0 : Int32)) < (-x30) then (-x30) else ((0 : Int32))) fun x31 =>
              j157 (x31, M29)) else (
              j157 ((-2 : Int32), M24))) else (
            j91 ())))))
def b308 (rec : Nat → List Value → Mem → XA) (as : List Value) (M0 : Mem) : XA := aR as fun a0 as => aI as fun a1 as => aI as fun a2 as => aZ as (c308 rec a0 a1 a2 M0)
set_option maxRecDepth 100000 in
set_option maxHeartbeats 4000000 in
theorem k308 {S : XS} {G : XG} {K : Nat × Nat} {l : Launch} {d : Nat} {rec : Nat → List Value → Mem → XA} (hs : XSnd l xmt rec d) (a0 : Option Nat) (a1 : Int32) (a2 : Int32) (M0 : Mem) : Xe S G K l (yX12_foretold, cX12_foretold, 7, some .int) d 0 [some (va_rf a0), some (.int a1), some (.int a2), none, none, none, none] [] M0 (c308 rec a0 a1 a2 M0) := by
  unfold c308
  refine x_iload_n dX12_foretold_0 rfl ?_
  refine x_iconst (v := 0) dX12_foretold_1 (by decide) ?_
  refine x_aload_n dX12_foretold_2 rfl ?_
  refine gfX12_850 rfl dX12_foretold_3 (fun x1 => ?_)
  refine x_iconst (v := 1) dX12_foretold_6 (by decide) ?_
  refine x_isub dX12_foretold_7 ?_
  refine cmX12_381 rfl hs (Nat.le_of_ble_eq_true rfl) dX12_foretold_8 (fun x3 M2 => ?_)
  refine x_jn (σ := Mem) 35 (fun s4 => [none, none, none, none, none, none, none]) (fun s4 => []) (fun s4 => s4) (fun s4 => ?_) (fun j35 hj35 => ?_)
  · refine x_iconst (v := -1) dX12_foretold_35 (by decide) ?_
    exact x_iret rfl dX12_foretold_36
  refine x_if_eq (tgt := 35) dX12_foretold_11 (by decide) (fun _ => ?_) (fun _ => ?_)
  · exact x_weak (by exact trivial) (hj35 M2)
  · refine x_iload_n dX12_foretold_14 rfl ?_
    refine x_iconst (v := 0) dX12_foretold_15 (by decide) ?_
    refine x_aload_n dX12_foretold_16 rfl ?_
    refine gfX12_94 rfl dX12_foretold_17 (fun x5 => ?_)
    refine x_aload_n dX12_foretold_20 rfl ?_
    refine gfX12_372 rfl dX12_foretold_21 (fun x6 => ?_)
    refine x_iload_n dX12_foretold_24 rfl ?_
    refine x_iald dX12_foretold_25 (fun x7 => ?_)
    refine x_iald dX12_foretold_26 (fun x8 => ?_)
    refine x_iconst (v := 1) dX12_foretold_27 (by decide) ?_
    refine x_isub dX12_foretold_28 ?_
    refine cmX12_381 rfl hs (Nat.le_of_ble_eq_true rfl) dX12_foretold_29 (fun x10 M9 => ?_)
    refine x_if_ne (tgt := 37) dX12_foretold_32 (by decide) (fun _ => ?_) (fun _ => ?_)
    · exact x_weak (by exact trivial) (hj35 M9)
    · refine x_aload_n dX12_foretold_37 rfl ?_
      refine gfX12_372 rfl dX12_foretold_38 (fun x11 => ?_)
      refine x_iload_n dX12_foretold_41 rfl ?_
      refine x_iald dX12_foretold_42 (fun x12 => ?_)
      refine x_istore_n (lo' := [some (va_rf a0), some (.int a1), some (.int a2), some (.int x12), none, none, none]) dX12_foretold_43 (by decide) rfl rfl ?_
      refine x_aload_n dX12_foretold_44 rfl ?_
      refine gfX12_97 rfl dX12_foretold_45 (fun x13 => ?_)
      refine x_sipush (v := 1000) dX12_foretold_48 (by decide) ?_
      refine x_iload_n dX12_foretold_51 rfl ?_
      refine x_imul dX12_foretold_52 ?_
      refine x_iload_n dX12_foretold_53 rfl ?_
      refine x_iadd dX12_foretold_54 ?_
      refine x_bald dX12_foretold_55 (fun x14 => ?_)
      refine x_istore (lo' := [some (va_rf a0), some (.int a1), some (.int a2), some (.int x12), some (.int x14), none, none]) dX12_foretold_56 (by decide) rfl rfl ?_
      refine x_aload_n dX12_foretold_58 rfl ?_
      refine x_iload_n dX12_foretold_59 rfl ?_
      refine x_aload_n dX12_foretold_60 rfl ?_
      refine gfX12_103 rfl dX12_foretold_61 (fun x15 => ?_)
      refine x_sipush (v := 1000) dX12_foretold_64 (by decide) ?_
      refine x_iload_n dX12_foretold_67 rfl ?_
      refine x_imul dX12_foretold_68 ?_
      refine x_iload_n dX12_foretold_69 rfl ?_
      refine x_iadd dX12_foretold_70 ?_
      refine x_bald dX12_foretold_71 (fun x16 => ?_)
      refine cmX12_853 rfl hs (Nat.le_of_ble_eq_true rfl) dX12_foretold_72 (fun x18 M17 => ?_)
      refine x_jn (σ := Unit) 91 (fun s19 => [none, none, none, none, none, none, none]) (fun s19 => []) (fun s19 => M17) (fun s19 => ?_) (fun j91 hj91 => ?_)
      · refine x_bipush (v := -2) dX12_foretold_91 (by decide) ?_
        exact x_iret rfl dX12_foretold_93
      refine x_if_ge (tgt := 91) dX12_foretold_75 (by decide) (fun _ => ?_) (fun _ => ?_)
      · exact x_weak (by exact trivial) (hj91 ())
      · refine x_iload dX12_foretold_78 rfl ?_
        refine x_iconst (v := 3) dX12_foretold_80 (by decide) ?_
        refine x_icmp_lt (tgt := 91) dX12_foretold_81 (by decide) (fun _ => ?_) (fun _ => ?_)
        · exact x_weak (by exact trivial) (hj91 ())
        · refine x_iload dX12_foretold_84 rfl ?_
          refine x_bipush (v := 7) dX12_foretold_86 (by decide) ?_
          refine x_icmp_le (tgt := 94) dX12_foretold_88 (by decide) (fun _ => ?_) (fun _ => ?_)
          · refine x_aload_n dX12_foretold_94 rfl ?_
            refine gfX12_100 rfl dX12_foretold_95 (fun x20 => ?_)
            refine x_sipush (v := 1000) dX12_foretold_98 (by decide) ?_
            refine x_iload_n dX12_foretold_101 rfl ?_
            refine x_imul dX12_foretold_102 ?_
            refine x_iload_n dX12_foretold_103 rfl ?_
            refine x_iadd dX12_foretold_104 ?_
            refine x_iald dX12_foretold_105 (fun x21 => ?_)
            refine x_istore (lo' := [some (va_rf a0), some (.int a1), some (.int a2), some (.int x12), some (.int x14), some (.int x21), none]) dX12_foretold_106 (by decide) rfl rfl ?_
            refine x_aload_n dX12_foretold_108 rfl ?_
            refine x_iload_n dX12_foretold_109 rfl ?_
            refine x_aload_n dX12_foretold_110 rfl ?_
            refine gfX12_42 rfl dX12_foretold_111 (fun x22 => ?_)
            refine x_bipush (v := 96) dX12_foretold_114 (by decide) ?_
            refine x_iload_n dX12_foretold_116 rfl ?_
            refine x_imul dX12_foretold_117 ?_
            refine x_iload dX12_foretold_118 rfl ?_
            refine x_iadd dX12_foretold_120 ?_
            refine x_iald dX12_foretold_121 (fun x23 => ?_)
            refine cmX12_853 rfl hs (Nat.le_of_ble_eq_true rfl) dX12_foretold_122 (fun x25 M24 => ?_)
            refine x_istore (lo' := [some (va_rf a0), some (.int a1), some (.int a2), some (.int x12), some (.int x14), some (.int x21), some (.int x25)]) dX12_foretold_125 (by decide) rfl rfl ?_
            refine x_iload dX12_foretold_127 rfl ?_
            refine x_jn (σ := Int32 × Mem) 157 (fun s26 => [none, none, none, none, none, none, none]) (fun s26 => [.int s26.1]) (fun s26 => s26.2) (fun s26 => ?_) (fun j157 hj157 => ?_)
            · exact x_iret rfl dX12_foretold_157
            refine x_if_ge (tgt := 137) dX12_foretold_129 (by decide) (fun _ => ?_) (fun _ => ?_)
            · refine x_iconst (v := 0) dX12_foretold_137 (by decide) ?_
              refine x_aload_n dX12_foretold_138 rfl ?_
              refine x_iload_n dX12_foretold_139 rfl ?_
              refine x_iload dX12_foretold_140 rfl ?_
              refine x_aload_n dX12_foretold_142 rfl ?_
              refine gfX12_375 rfl dX12_foretold_143 (fun x27 => ?_)
              refine x_iload_n dX12_foretold_146 rfl ?_
              refine x_iald dX12_foretold_147 (fun x28 => ?_)
              refine x_iload dX12_foretold_148 rfl ?_
              refine cmX12_606 rfl hs (Nat.le_of_ble_eq_true rfl) dX12_foretold_150 (fun x30 M29 => ?_)
              refine x_ineg dX12_foretold_153 ?_
              refine x_mmax lk_methodLink_X12_856 w_mmax1 w_mi w_mmax2 (Nat.le_of_ble_eq_true rfl) dX12_foretold_154 (fun x31 => ?_)
              exact x_weak (by exact trivial) (hj157 (x31, M29))
            · refine x_bipush (v := -2) dX12_foretold_132 (by decide) ?_
              refine x_goto (tgt := 157) dX12_foretold_134 (by decide) ?_
              exact x_weak (by exact trivial) (hj157 ((-2 : Int32), M24))
          · exact x_weak (by exact trivial) (hj91 ())
theorem s308 {l : Launch} {d : Nat} {rec : Nat → List Value → Mem → XA} (hS : Nonempty XS) (hs : XSnd l xmt rec d) : Snd1 l 308 (b308 rec) d := by
  intro as M r M' h0
  unfold b308 at h0
  obtain ⟨a0, l1, e1, h1⟩ := aR_inv h0
  obtain ⟨a1, l2, e2, h2⟩ := aI_inv h1
  obtain ⟨a2, l3, e3, h3⟩ := aI_inv h2
  obtain ⟨ez, h⟩ := aZ_inv h3
  subst ez
  subst e3
  subst e2
  subst e1
  exact xmet (M := M) (as := [va_rf a0, .int a1, .int a2]) (lo := [some (va_rf a0), some (.int a1), some (.int a2)]) 308 xq308 xm308 (by rw [xargs_rf, xargs_i, xargs_i, xargs_nil]; exact ⟨rfl, ⟨rfl, ⟨rfl, trivial⟩⟩⟩) (by rw [xargs_rf, xargs_i, xargs_i, xargs_nil]; exact Nat.le_of_ble_eq_true rfl) (fun S G K => x_weak (by exact ⟨rfl, ⟨rfl, ⟨rfl, trivial⟩⟩⟩) (k308 hs a0 a1 a2 M)) h hS
