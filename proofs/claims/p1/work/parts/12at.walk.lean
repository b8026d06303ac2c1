set_option maxRecDepth 100000 in
def c270 (rec : Nat → List Value → Mem → XA) (a0 : Option Nat) (a1 : Int32) (a2 : Int32) (a3 : Int32) (M0 : Mem) : XA :=
  vC (13, 157) M0 a0 <|
  cI (rec 256 [va_rf a0, .int a1, .int a2] M0) fun x2 M1 =>
  jn (fun (s3 : Mem) =>
    some (.int ((-1 : Int32)), s3)) fun j18 =>
  if x2 = 0 then (
    j18 M1) else (
    vC (13, 157) M1 a0 <|
    cI (rec 256 [va_rf a0, .int a1, .int a3] M1) fun x5 M4 =>
    if x5 = 0 then (
      j18 M4) else (
      gtP (13, 157) M4 a0 24 fun x6 =>
      alI 100 M4 x6 ((((16 : Int32)) * a1) + a2) fun x7 =>
      gtP (13, 157) M4 a0 24 fun x8 =>
      gtP (13, 157) M4 a0 24 fun x9 =>
      alI 100 M4 x9 ((((16 : Int32)) * a1) + a3) fun x10 =>
      asI 100 M4 x8 ((((16 : Int32)) * a1) + a2) x10 fun M11 =>
      gtP (13, 157) M11 a0 24 fun x12 =>
      asI 100 M11 x12 ((((16 : Int32)) * a1) + a3) x7 fun M13 =>
      gtP (13, 157) M13 a0 24 fun x14 =>
      alI 100 M13 x14 ((((16 : Int32)) * a1) + a2) fun x15 =>
      some (.int x15, M13)))
def b270 (rec : Nat → List Value → Mem → XA) (as : List Value) (M0 : Mem) : XA := aR as fun a0 as => aI as fun a1 as => aI as fun a2 as => aI as fun a3 as => aZ as (c270 rec a0 a1 a2 a3 M0)
set_option maxRecDepth 100000 in
set_option maxHeartbeats 4000000 in
theorem k270 {S : XS} {G : XG} {K : Nat × Nat} {l : Launch} {d : Nat} {rec : Nat → List Value → Mem → XA} (hs : XSnd l xmt rec d) (a0 : Option Nat) (a1 : Int32) (a2 : Int32) (a3 : Int32) (M0 : Mem) : Xe S G K l (yX12_swap, cX12_swap, 5, some .int) d 0 [some (va_rf a0), some (.int a1), some (.int a2), some (.int a3), none] [] M0 (c270 rec a0 a1 a2 a3 M0) := by
  unfold c270
  refine x_aload_n dX12_swap_0 rfl ?_
  refine x_iload_n dX12_swap_1 rfl ?_
  refine x_iload_n dX12_swap_2 rfl ?_
  refine cmX12_747 rfl hs (Nat.le_of_ble_eq_true rfl) dX12_swap_3 (fun x2 M1 => ?_)
  refine x_jn (σ := Mem) 18 (fun s3 => [none, none, none, none, none]) (fun s3 => []) (fun s3 => s3) (fun s3 => ?_) (fun j18 hj18 => ?_)
  · refine x_iconst (v := -1) dX12_swap_18 (by decide) ?_
    exact x_iret rfl dX12_swap_19
  refine x_if_eq (tgt := 18) dX12_swap_6 (by decide) (fun _ => ?_) (fun _ => ?_)
  · exact x_weak (by exact trivial) (hj18 M1)
  · refine x_aload_n dX12_swap_9 rfl ?_
    refine x_iload_n dX12_swap_10 rfl ?_
    refine x_iload_n dX12_swap_11 rfl ?_
    refine cmX12_747 rfl hs (Nat.le_of_ble_eq_true rfl) dX12_swap_12 (fun x5 M4 => ?_)
    refine x_if_ne (tgt := 20) dX12_swap_15 (by decide) (fun _ => ?_) (fun _ => ?_)
    · exact x_weak (by exact trivial) (hj18 M4)
    · refine x_aload_n dX12_swap_20 rfl ?_
      refine gfX12_79 rfl dX12_swap_21 (fun x6 => ?_)
      refine x_bipush (v := 16) dX12_swap_24 (by decide) ?_
      refine x_iload_n dX12_swap_26 rfl ?_
      refine x_imul dX12_swap_27 ?_
      refine x_iload_n dX12_swap_28 rfl ?_
      refine x_iadd dX12_swap_29 ?_
      refine x_iald dX12_swap_30 (fun x7 => ?_)
      refine x_istore (lo' := [some (va_rf a0), some (.int a1), some (.int a2), some (.int a3), some (.int x7)]) dX12_swap_31 (by decide) rfl rfl ?_
      refine x_aload_n dX12_swap_33 rfl ?_
      refine gfX12_79 rfl dX12_swap_34 (fun x8 => ?_)
      refine x_bipush (v := 16) dX12_swap_37 (by decide) ?_
      refine x_iload_n dX12_swap_39 rfl ?_
      refine x_imul dX12_swap_40 ?_
      refine x_iload_n dX12_swap_41 rfl ?_
      refine x_iadd dX12_swap_42 ?_
      refine x_aload_n dX12_swap_43 rfl ?_
      refine gfX12_79 rfl dX12_swap_44 (fun x9 => ?_)
      refine x_bipush (v := 16) dX12_swap_47 (by decide) ?_
      refine x_iload_n dX12_swap_49 rfl ?_
      refine x_imul dX12_swap_50 ?_
      refine x_iload_n dX12_swap_51 rfl ?_
      refine x_iadd dX12_swap_52 ?_
      refine x_iald dX12_swap_53 (fun x10 => ?_)
      refine x_iast dX12_swap_54 (fun M11 => ?_)
      refine x_aload_n dX12_swap_55 rfl ?_
      refine gfX12_79 rfl dX12_swap_56 (fun x12 => ?_)
      refine x_bipush (v := 16) dX12_swap_59 (by decide) ?_
      refine x_iload_n dX12_swap_61 rfl ?_
      refine x_imul dX12_swap_62 ?_
      refine x_iload_n dX12_swap_63 rfl ?_
      refine x_iadd dX12_swap_64 ?_
      refine x_iload dX12_swap_65 rfl ?_
      refine x_iast dX12_swap_67 (fun M13 => ?_)
      refine x_aload_n dX12_swap_68 rfl ?_
      refine gfX12_79 rfl dX12_swap_69 (fun x14 => ?_)
      refine x_bipush (v := 16) dX12_swap_72 (by decide) ?_
      refine x_iload_n dX12_swap_74 rfl ?_
      refine x_imul dX12_swap_75 ?_
      refine x_iload_n dX12_swap_76 rfl ?_
      refine x_iadd dX12_swap_77 ?_
      refine x_iald dX12_swap_78 (fun x15 => ?_)
      exact x_iret rfl dX12_swap_79
theorem s270 {l : Launch} {d : Nat} {rec : Nat → List Value → Mem → XA} (hS : Nonempty XS) (hs : XSnd l xmt rec d) : Snd1 l 270 (b270 rec) d := by
  intro as M r M' h0
  unfold b270 at h0
  obtain ⟨a0, l1, e1, h1⟩ := aR_inv h0
  obtain ⟨a1, l2, e2, h2⟩ := aI_inv h1
  obtain ⟨a2, l3, e3, h3⟩ := aI_inv h2
  obtain ⟨a3, l4, e4, h4⟩ := aI_inv h3
  obtain ⟨ez, h⟩ := aZ_inv h4
  subst ez
  subst e4
  subst e3
  subst e2
  subst e1
  exact xmet (M := M) (as := [va_rf a0, .int a1, .int a2, .int a3]) (lo := [some (va_rf a0), some (.int a1), some (.int a2), some (.int a3)]) 270 xq270 xm270 (by rw [xargs_rf, xargs_i, xargs_i, xargs_i, xargs_nil]; exact ⟨rfl, ⟨rfl, ⟨rfl, ⟨rfl, trivial⟩⟩⟩⟩) (by rw [xargs_rf, xargs_i, xargs_i, xargs_i, xargs_nil]; exact Nat.le_of_ble_eq_true rfl) (fun S G K => x_weak (by exact ⟨rfl, ⟨rfl, ⟨rfl, ⟨rfl, trivial⟩⟩⟩⟩) (k270 hs a0 a1 a2 a3 M)) h hS
set_option maxRecDepth 100000 in
def c271_4 (rec : Nat → List Value → Mem → XA) (a0 : Option Nat) (a1 : Int32) (M0 : Mem) (j36 : Int32 → XA) : (Int32 × Int32) → ((Int32 × Int32) → XA) → XA := fun s2 j4 =>
  if ((8 : Int32)) ≤ s2.2 then (
    j36 s2.1) else (
    jn (fun (s3 : Int32) =>
      lt (s2.2 + (1 : Int32)) fun (x4 : Int32) =>
      j4 (s3, x4)) fun j29 =>
    jn (fun (s5 : Unit) =>
      j29 s2.1) fun j28 =>
    if a1 < 0 then (
      j28 ()) else (
      gtP (13, 157) M0 a0 112 fun x6 =>
      alI 100 M0 x6 s2.2 fun x7 =>
      if x7 = a1 then (
        j29 s2.2) else (
        j28 ())))
set_option maxRecDepth 100000 in
def c271 (rec : Nat → List Value → Mem → XA) (a0 : Option Nat) (a1 : Int32) (M0 : Mem) : XA :=
  jn (fun (s1 : Int32) =>
    some (.int s1, M0)) fun j36 =>
  lp (c271_4 rec a0 a1 M0 j36) 4294967296 ((-1 : Int32), (0 : Int32))
def b271 (rec : Nat → List Value → Mem → XA) (as : List Value) (M0 : Mem) : XA := aR as fun a0 as => aI as fun a1 as => aZ as (c271 rec a0 a1 M0)
set_option maxRecDepth 100000 in
set_option maxHeartbeats 4000000 in
theorem k271 {S : XS} {G : XG} {K : Nat × Nat} {l : Launch} {d : Nat} {rec : Nat → List Value → Mem → XA} (hs : XSnd l xmt rec d) (a0 : Option Nat) (a1 : Int32) (M0 : Mem) : Xe S G K l (yX12_seatOf, cX12_seatOf, 4, some .int) d 0 [some (va_rf a0), some (.int a1), none, none] [] M0 (c271 rec a0 a1 M0) := by
  unfold c271
  refine x_iconst (v := -1) dX12_seatOf_0 (by decide) ?_
  refine x_istore_n (lo' := [some (va_rf a0), some (.int a1), some (.int ((-1 : Int32))), none]) dX12_seatOf_1 (by decide) rfl rfl ?_
  refine x_iconst (v := 0) dX12_seatOf_2 (by decide) ?_
  refine x_istore_n (lo' := [some (va_rf a0), some (.int a1), some (.int ((-1 : Int32))), some (.int ((0 : Int32)))]) dX12_seatOf_3 (by decide) rfl rfl ?_
  refine x_jn (σ := Int32) 36 (fun s1 => [none, none, some (.int s1), none]) (fun s1 => []) (fun s1 => M0) (fun s1 => ?_) (fun j36 hj36 => ?_)
  · refine x_iload_n dX12_seatOf_36 rfl ?_
    exact x_iret rfl dX12_seatOf_37
  refine x_weak (by exact ⟨rfl, ⟨rfl, ⟨rfl, ⟨rfl, trivial⟩⟩⟩⟩) (x_lp (σ := Int32 × Int32) 4 (fun s2 => [some (va_rf a0), some (.int a1), some (.int s2.1), some (.int s2.2)]) (fun s2 => []) (fun s2 => M0) (fun s2 j4 hj4 => ?_) 4294967296 ((-1 : Int32), (0 : Int32)))
  · refine x_iload_n dX12_seatOf_4 rfl ?_
    refine x_bipush (v := 8) dX12_seatOf_5 (by decide) ?_
    refine x_icmp_ge (tgt := 36) dX12_seatOf_7 (by decide) (fun _ => ?_) (fun _ => ?_)
    · exact x_weak (by exact ⟨rfl, trivial⟩) (hj36 s2.1)
    · refine x_iload_n dX12_seatOf_10 rfl ?_
      refine x_jn (σ := Int32) 29 (fun s3 => [some (va_rf a0), some (.int a1), none, some (.int s2.2)]) (fun s3 => [.int s3]) (fun s3 => M0) (fun s3 => ?_) (fun j29 hj29 => ?_)
      · refine x_istore_n (lo' := [some (va_rf a0), some (.int a1), some (.int s3), some (.int s2.2)]) dX12_seatOf_29 (by decide) rfl rfl ?_
        refine x_iincN (v := 1) (lo' := fun x4 => [some (va_rf a0), some (.int a1), some (.int s3), some (.int x4)]) (by decide) dX12_seatOf_30 rfl (by decide) rfl (fun _ => rfl) (fun x4 => ?_)
        refine x_goto (tgt := 4) dX12_seatOf_33 (by decide) ?_
        exact x_weak (by exact ⟨rfl, ⟨rfl, ⟨rfl, ⟨rfl, trivial⟩⟩⟩⟩) (hj4 (s3, x4))
      refine x_jn (σ := Unit) 28 (fun s5 => [some (va_rf a0), some (.int a1), some (.int s2.1), some (.int s2.2)]) (fun s5 => []) (fun s5 => M0) (fun s5 => ?_) (fun j28 hj28 => ?_)
      · refine x_iload_n dX12_seatOf_28 rfl ?_
        exact x_weak (by exact ⟨rfl, ⟨rfl, ⟨rfl, trivial⟩⟩⟩) (hj29 s2.1)
      refine x_if_lt (tgt := 28) dX12_seatOf_11 (by decide) (fun _ => ?_) (fun _ => ?_)
      · exact x_weak (by exact ⟨rfl, ⟨rfl, ⟨rfl, ⟨rfl, trivial⟩⟩⟩⟩) (hj28 ())
      · refine x_aload_n dX12_seatOf_14 rfl ?_
        refine gfX12_282 rfl dX12_seatOf_15 (fun x6 => ?_)
        refine x_iload_n dX12_seatOf_18 rfl ?_
        refine x_iald dX12_seatOf_19 (fun x7 => ?_)
        refine x_iload_n dX12_seatOf_20 rfl ?_
        refine x_icmp_ne (tgt := 28) dX12_seatOf_21 (by decide) (fun _ => ?_) (fun _ => ?_)
        · refine x_iload_n dX12_seatOf_24 rfl ?_
          refine x_goto (tgt := 29) dX12_seatOf_25 (by decide) ?_
          exact x_weak (by exact ⟨rfl, ⟨rfl, ⟨rfl, trivial⟩⟩⟩) (hj29 s2.2)
        · exact x_weak (by exact ⟨rfl, ⟨rfl, ⟨rfl, ⟨rfl, trivial⟩⟩⟩⟩) (hj28 ())
theorem s271 {l : Launch} {d : Nat} {rec : Nat → List Value → Mem → XA} (hS : Nonempty XS) (hs : XSnd l xmt rec d) : Snd1 l 271 (b271 rec) d := by
  intro as M r M' h0
  unfold b271 at h0
  obtain ⟨a0, l1, e1, h1⟩ := aR_inv h0
  obtain ⟨a1, l2, e2, h2⟩ := aI_inv h1
  obtain ⟨ez, h⟩ := aZ_inv h2
  subst ez
  subst e2
  subst e1
  exact xmet (M := M) (as := [va_rf a0, .int a1]) (lo := [some (va_rf a0), some (.int a1)]) 271 xq271 xm271 (by rw [xargs_rf, xargs_i, xargs_nil]; exact ⟨rfl, ⟨rfl, trivial⟩⟩) (by rw [xargs_rf, xargs_i, xargs_nil]; exact Nat.le_of_ble_eq_true rfl) (fun S G K => x_weak (by exact ⟨rfl, ⟨rfl, trivial⟩⟩) (k271 hs a0 a1 M)) h hS
set_option maxRecDepth 100000 in
def c272_5 (rec : Nat → List Value → Mem → XA) (a0 : Option Nat) (a1 : Int32) (a2 : Int32) (M0 : Mem) (j57 : Int32 → XA) : (Int32 × Int32) → ((Int32 × Int32) → XA) → XA := fun s2 j5 =>
  if ((8 : Int32)) ≤ s2.2 then (
    j57 s2.1) else (
    gtP (13, 157) M0 a0 112 fun x3 =>
    alI 100 M0 x3 s2.2 fun x4 =>
    jn (fun (s5 : Int32) =>
      lt (s2.2 + (1 : Int32)) fun (x6 : Int32) =>
      j5 (s5, x6)) fun j50 =>
    jn (fun (s7 : Unit) =>
      j50 s2.1) fun j49 =>
    if x4 < 0 then (
      j49 ()) else (
      gtP (13, 157) M0 a0 113 fun x8 =>
      alI 100 M0 x8 s2.2 fun x9 =>
      if x9 = a1 then (
        gtP (13, 157) M0 a0 114 fun x10 =>
        alI 100 M0 x10 s2.2 fun x11 =>
        if x11 = a2 then (
          j50 s2.2) else (
          j49 ())) else (
        j49 ())))
set_option maxRecDepth 100000 in
def c272 (rec : Nat → List Value → Mem → XA) (a0 : Option Nat) (a1 : Int32) (a2 : Int32) (M0 : Mem) : XA :=
  jn (fun (s1 : Int32) =>
    some (.int s1, M0)) fun j57 =>
  lp (c272_5 rec a0 a1 a2 M0 j57) 4294967296 ((-1 : Int32), (0 : Int32))
def b272 (rec : Nat → List Value → Mem → XA) (as : List Value) (M0 : Mem) : XA := aR as fun a0 as => aI as fun a1 as => aI as fun a2 as => aZ as (c272 rec a0 a1 a2 M0)
set_option maxRecDepth 100000 in
set_option maxHeartbeats 4000000 in
theorem k272 {S : XS} {G : XG} {K : Nat × Nat} {l : Launch} {d : Nat} {rec : Nat → List Value → Mem → XA} (hs : XSnd l xmt rec d) (a0 : Option Nat) (a1 : Int32) (a2 : Int32) (M0 : Mem) : Xe S G K l (yX12_doubleOf, cX12_doubleOf, 5, some .int) d 0 [some (va_rf a0), some (.int a1), some (.int a2), none, none] [] M0 (c272 rec a0 a1 a2 M0) := by
  unfold c272
  refine x_iconst (v := -1) dX12_doubleOf_0 (by decide) ?_
  refine x_istore_n (lo' := [some (va_rf a0), some (.int a1), some (.int a2), some (.int ((-1 : Int32))), none]) dX12_doubleOf_1 (by decide) rfl rfl ?_
  refine x_iconst (v := 0) dX12_doubleOf_2 (by decide) ?_
  refine x_istore (lo' := [some (va_rf a0), some (.int a1), some (.int a2), some (.int ((-1 : Int32))), some (.int ((0 : Int32)))]) dX12_doubleOf_3 (by decide) rfl rfl ?_
  refine x_jn (σ := Int32) 57 (fun s1 => [none, none, none, some (.int s1), none]) (fun s1 => []) (fun s1 => M0) (fun s1 => ?_) (fun j57 hj57 => ?_)
  · refine x_iload_n dX12_doubleOf_57 rfl ?_
    exact x_iret rfl dX12_doubleOf_58
  refine x_weak (by exact ⟨rfl, ⟨rfl, ⟨rfl, ⟨rfl, ⟨rfl, trivial⟩⟩⟩⟩⟩) (x_lp (σ := Int32 × Int32) 5 (fun s2 => [some (va_rf a0), some (.int a1), some (.int a2), some (.int s2.1), some (.int s2.2)]) (fun s2 => []) (fun s2 => M0) (fun s2 j5 hj5 => ?_) 4294967296 ((-1 : Int32), (0 : Int32)))
  · refine x_iload dX12_doubleOf_5 rfl ?_
    refine x_bipush (v := 8) dX12_doubleOf_7 (by decide) ?_
    refine x_icmp_ge (tgt := 57) dX12_doubleOf_9 (by decide) (fun _ => ?_) (fun _ => ?_)
    · exact x_weak (by exact ⟨rfl, trivial⟩) (hj57 s2.1)
    · refine x_aload_n dX12_doubleOf_12 rfl ?_
      refine gfX12_282 rfl dX12_doubleOf_13 (fun x3 => ?_)
      refine x_iload dX12_doubleOf_16 rfl ?_
      refine x_iald dX12_doubleOf_18 (fun x4 => ?_)
      refine x_jn (σ := Int32) 50 (fun s5 => [some (va_rf a0), some (.int a1), some (.int a2), none, some (.int s2.2)]) (fun s5 => [.int s5]) (fun s5 => M0) (fun s5 => ?_) (fun j50 hj50 => ?_)
      · refine x_istore_n (lo' := [some (va_rf a0), some (.int a1), some (.int a2), some (.int s5), some (.int s2.2)]) dX12_doubleOf_50 (by decide) rfl rfl ?_
        refine x_iincN (v := 1) (lo' := fun x6 => [some (va_rf a0), some (.int a1), some (.int a2), some (.int s5), some (.int x6)]) (by decide) dX12_doubleOf_51 rfl (by decide) rfl (fun _ => rfl) (fun x6 => ?_)
        refine x_goto (tgt := 5) dX12_doubleOf_54 (by decide) ?_
        exact x_weak (by exact ⟨rfl, ⟨rfl, ⟨rfl, ⟨rfl, ⟨rfl, trivial⟩⟩⟩⟩⟩) (hj5 (s5, x6))
      refine x_jn (σ := Unit) 49 (fun s7 => [some (va_rf a0), some (.int a1), some (.int a2), some (.int s2.1), some (.int s2.2)]) (fun s7 => []) (fun s7 => M0) (fun s7 => ?_) (fun j49 hj49 => ?_)
      · refine x_iload_n dX12_doubleOf_49 rfl ?_
        exact x_weak (by exact ⟨rfl, ⟨rfl, ⟨rfl, ⟨rfl, trivial⟩⟩⟩⟩) (hj50 s2.1)
      refine x_if_lt (tgt := 49) dX12_doubleOf_19 (by decide) (fun _ => ?_) (fun _ => ?_)
      · exact x_weak (by exact ⟨rfl, ⟨rfl, ⟨rfl, ⟨rfl, ⟨rfl, trivial⟩⟩⟩⟩⟩) (hj49 ())
      · refine x_aload_n dX12_doubleOf_22 rfl ?_
        refine gfX12_285 rfl dX12_doubleOf_23 (fun x8 => ?_)
        refine x_iload dX12_doubleOf_26 rfl ?_
        refine x_iald dX12_doubleOf_28 (fun x9 => ?_)
        refine x_iload_n dX12_doubleOf_29 rfl ?_
        refine x_icmp_ne (tgt := 49) dX12_doubleOf_30 (by decide) (fun _ => ?_) (fun _ => ?_)
        · refine x_aload_n dX12_doubleOf_33 rfl ?_
          refine gfX12_288 rfl dX12_doubleOf_34 (fun x10 => ?_)
          refine x_iload dX12_doubleOf_37 rfl ?_
          refine x_iald dX12_doubleOf_39 (fun x11 => ?_)
          refine x_iload_n dX12_doubleOf_40 rfl ?_
          refine x_icmp_ne (tgt := 49) dX12_doubleOf_41 (by decide) (fun _ => ?_) (fun _ => ?_)
          · refine x_iload dX12_doubleOf_44 rfl ?_
            refine x_goto (tgt := 50) dX12_doubleOf_46 (by decide) ?_
            exact x_weak (by exact ⟨rfl, ⟨rfl, ⟨rfl, ⟨rfl, trivial⟩⟩⟩⟩) (hj50 s2.2)
          · exact x_weak (by exact ⟨rfl, ⟨rfl, ⟨rfl, ⟨rfl, ⟨rfl, trivial⟩⟩⟩⟩⟩) (hj49 ())
        · exact x_weak (by exact ⟨rfl, ⟨rfl, ⟨rfl, ⟨rfl, ⟨rfl, trivial⟩⟩⟩⟩⟩) (hj49 ())
theorem s272 {l : Launch} {d : Nat} {rec : Nat → List Value → Mem → XA} (hS : Nonempty XS) (hs : XSnd l xmt rec d) : Snd1 l 272 (b272 rec) d := by
  intro as M r M' h0
  unfold b272 at h0
  obtain ⟨a0, l1, e1, h1⟩ := aR_inv h0
  obtain ⟨a1, l2, e2, h2⟩ := aI_inv h1
  obtain ⟨a2, l3, e3, h3⟩ := aI_inv h2
  obtain ⟨ez, h⟩ := aZ_inv h3
  subst ez
  subst e3
  subst e2
  subst e1
  exact xmet (M := M) (as := [va_rf a0, .int a1, .int a2]) (lo := [some (va_rf a0), some (.int a1), some (.int a2)]) 272 xq272 xm272 (by rw [xargs_rf, xargs_i, xargs_i, xargs_nil]; exact ⟨rfl, ⟨rfl, ⟨rfl, trivial⟩⟩⟩) (by rw [xargs_rf, xargs_i, xargs_i, xargs_nil]; exact Nat.le_of_ble_eq_true rfl) (fun S G K => x_weak (by exact ⟨rfl, ⟨rfl, ⟨rfl, trivial⟩⟩⟩) (k272 hs a0 a1 a2 M)) h hS
set_option maxRecDepth 100000 in
def c273_55 (rec : Nat → List Value → Mem → XA) (a0 : Option Nat) (M10 : Mem) (j76 : Int32 → XA) : (Int32) → ((Int32) → XA) → XA := fun s28 j55 =>
  if ((8 : Int32)) ≤ s28 then (
    j76 s28) else (
    gtP (13, 157) M10 a0 112 fun x29 =>
    alI 100 M10 x29 s28 fun x30 =>
    if x30 < 0 then (
      j76 s28) else (
      lt (s28 + (1 : Int32)) fun (x31 : Int32) =>
      j55 x31))
set_option maxRecDepth 100000 in
def c273 (rec : Nat → List Value → Mem → XA) (a0 : Option Nat) (a1 : Int32) (a2 : Int32) (M0 : Mem) : XA :=
  vC (13, 157) M0 a0 <|
  cI (rec 255 [va_rf a0, .int a1] M0) fun x2 M1 =>
  jn (fun (s3 : Mem) =>
    some (.int ((-1 : Int32)), s3)) fun j39 =>
  if x2 = 0 then (
    j39 M1) else (
    gtP (13, 157) M1 a0 10 fun x4 =>
    alI 100 M1 x4 a1 fun x5 =>
    cI (rec 184 [.int a2, .int ((0 : Int32)), .int (x5 - ((1 : Int32)))] M1) fun x7 M6 =>
    if x7 = 0 then (
      j39 M6) else (
      gtP (13, 157) M6 a0 13 fun x8 =>
      alI 100 M6 x8 ((((96 : Int32)) * a1) + a2) fun x9 =>
      if x9 = ((4 : Int32)) then (
        vC (13, 157) M6 a0 <|
        cI (rec 272 [va_rf a0, .int a1, .int a2] M6) fun x11 M10 =>
        if x11 < 0 then (
          jn (fun (s12 : Int32) =>
            if s12 = ((8 : Int32)) then (
              some (.int ((-3 : Int32)), M10)) else (
              gtP (13, 157) M10 a0 112 fun x13 =>
              gtI (13, 157) M10 a0 111 fun x14 =>
              asI 100 M10 x13 s12 x14 fun M15 =>
              gtI (13, 157) M15 a0 111 fun x16 =>
              ptI (13, 157) M15 a0 111 (x16 + ((1 : Int32))) fun M17 =>
              gtP (13, 157) M17 a0 113 fun x18 =>
              asI 100 M17 x18 s12 a1 fun M19 =>
              gtP (13, 157) M19 a0 114 fun x20 =>
              asI 100 M19 x20 s12 a2 fun M21 =>
              gtP (13, 157) M21 a0 115 fun x22 =>
              asI 100 M21 x22 s12 (((0 : Int32))) fun M23 =>
              gtP (13, 157) M23 a0 120 fun x24 =>
              asI 100 M23 x24 s12 (((0 : Int32))) fun M25 =>
              gtP (13, 157) M25 a0 112 fun x26 =>
              alI 100 M25 x26 s12 fun x27 =>
              some (.int x27, M25))) fun j76 =>
          lp (c273_55 rec a0 M10 j76) 4294967296 ((0 : Int32))) else (
          some (.int ((-2 : Int32)), M10))) else (
        j39 M6)))
def b273 (rec : Nat → List Value → Mem → XA) (as : List Value) (M0 : Mem) : XA := aR as fun a0 as => aI as fun a1 as => aI as fun a2 as => aZ as (c273 rec a0 a1 a2 M0)
set_option maxRecDepth 100000 in
set_option maxHeartbeats 4000000 in
theorem k273 {S : XS} {G : XG} {K : Nat × Nat} {l : Launch} {d : Nat} {rec : Nat → List Value → Mem → XA} (hs : XSnd l xmt rec d) (a0 : Option Nat) (a1 : Int32) (a2 : Int32) (M0 : Mem) : Xe S G K l (yX12_twin, cX12_twin, 4, some .int) d 0 [some (va_rf a0), some (.int a1), some (.int a2), none] [] M0 (c273 rec a0 a1 a2 M0) := by
  unfold c273
  refine x_aload_n dX12_twin_0 rfl ?_
  refine x_iload_n dX12_twin_1 rfl ?_
  refine cmX12_735 rfl hs (Nat.le_of_ble_eq_true rfl) dX12_twin_2 (fun x2 M1 => ?_)
  refine x_jn (σ := Mem) 39 (fun s3 => [none, none, none, none]) (fun s3 => []) (fun s3 => s3) (fun s3 => ?_) (fun j39 hj39 => ?_)
  · refine x_iconst (v := -1) dX12_twin_39 (by decide) ?_
    exact x_iret rfl dX12_twin_40
  refine x_if_eq (tgt := 39) dX12_twin_5 (by decide) (fun _ => ?_) (fun _ => ?_)
  · exact x_weak (by exact trivial) (hj39 M1)
  · refine x_iload_n dX12_twin_8 rfl ?_
    refine x_iconst (v := 0) dX12_twin_9 (by decide) ?_
    refine x_aload_n dX12_twin_10 rfl ?_
    refine gfX12_36 rfl dX12_twin_11 (fun x4 => ?_)
    refine x_iload_n dX12_twin_14 rfl ?_
    refine x_iald dX12_twin_15 (fun x5 => ?_)
    refine x_iconst (v := 1) dX12_twin_16 (by decide) ?_
    refine x_isub dX12_twin_17 ?_
    refine cmX12_381 rfl hs (Nat.le_of_ble_eq_true rfl) dX12_twin_18 (fun x7 M6 => ?_)
    refine x_if_eq (tgt := 39) dX12_twin_21 (by decide) (fun _ => ?_) (fun _ => ?_)
    · exact x_weak (by exact trivial) (hj39 M6)
    · refine x_aload_n dX12_twin_24 rfl ?_
      refine gfX12_45 rfl dX12_twin_25 (fun x8 => ?_)
      refine x_bipush (v := 96) dX12_twin_28 (by decide) ?_
      refine x_iload_n dX12_twin_30 rfl ?_
      refine x_imul dX12_twin_31 ?_
      refine x_iload_n dX12_twin_32 rfl ?_
      refine x_iadd dX12_twin_33 ?_
      refine x_iald dX12_twin_34 (fun x9 => ?_)
      refine x_iconst (v := 4) dX12_twin_35 (by decide) ?_
      refine x_icmp_eq (tgt := 41) dX12_twin_36 (by decide) (fun _ => ?_) (fun _ => ?_)
      · refine x_aload_n dX12_twin_41 rfl ?_
        refine x_iload_n dX12_twin_42 rfl ?_
        refine x_iload_n dX12_twin_43 rfl ?_
        refine cmX12_705 rfl hs (Nat.le_of_ble_eq_true rfl) dX12_twin_44 (fun x11 M10 => ?_)
        refine x_if_lt (tgt := 53) dX12_twin_47 (by decide) (fun _ => ?_) (fun _ => ?_)
        · refine x_iconst (v := 0) dX12_twin_53 (by decide) ?_
          refine x_istore_n (lo' := [some (va_rf a0), some (.int a1), some (.int a2), some (.int ((0 : Int32)))]) dX12_twin_54 (by decide) rfl rfl ?_
          refine x_jn (σ := Int32) 76 (fun s12 => [some (va_rf a0), some (.int a1), some (.int a2), some (.int s12)]) (fun s12 => []) (fun s12 => M10) (fun s12 => ?_) (fun j76 hj76 => ?_)
          · refine x_iload_n dX12_twin_76 rfl ?_
            refine x_bipush (v := 8) dX12_twin_77 (by decide) ?_
            refine x_icmp_ne (tgt := 85) dX12_twin_79 (by decide) (fun _ => ?_) (fun _ => ?_)
            · refine x_bipush (v := -3) dX12_twin_82 (by decide) ?_
              exact x_iret rfl dX12_twin_84
            · refine x_aload_n dX12_twin_85 rfl ?_
              refine gfX12_282 rfl dX12_twin_86 (fun x13 => ?_)
              refine x_iload_n dX12_twin_89 rfl ?_
              refine x_aload_n dX12_twin_90 rfl ?_
              refine gfX12_757 rfl dX12_twin_91 (fun x14 => ?_)
              refine x_iast dX12_twin_94 (fun M15 => ?_)
              refine x_aload_n dX12_twin_95 rfl ?_
              refine x_dup dX12_twin_96 (xc1_r _) ?_
              refine gfX12_757 rfl dX12_twin_97 (fun x16 => ?_)
              refine x_iconst (v := 1) dX12_twin_100 (by decide) ?_
              refine x_iadd dX12_twin_101 ?_
              refine pfX12_757 rfl dX12_twin_102 (fun M17 => ?_)
              refine x_aload_n dX12_twin_105 rfl ?_
              refine gfX12_285 rfl dX12_twin_106 (fun x18 => ?_)
              refine x_iload_n dX12_twin_109 rfl ?_
              refine x_iload_n dX12_twin_110 rfl ?_
              refine x_iast dX12_twin_111 (fun M19 => ?_)
              refine x_aload_n dX12_twin_112 rfl ?_
              refine gfX12_288 rfl dX12_twin_113 (fun x20 => ?_)
              refine x_iload_n dX12_twin_116 rfl ?_
              refine x_iload_n dX12_twin_117 rfl ?_
              refine x_iast dX12_twin_118 (fun M21 => ?_)
              refine x_aload_n dX12_twin_119 rfl ?_
              refine gfX12_291 rfl dX12_twin_120 (fun x22 => ?_)
              refine x_iload_n dX12_twin_123 rfl ?_
              refine x_iconst (v := 0) dX12_twin_124 (by decide) ?_
              refine x_iast dX12_twin_125 (fun M23 => ?_)
              refine x_aload_n dX12_twin_126 rfl ?_
              refine gfX12_306 rfl dX12_twin_127 (fun x24 => ?_)
              refine x_iload_n dX12_twin_130 rfl ?_
              refine x_iconst (v := 0) dX12_twin_131 (by decide) ?_
              refine x_iast dX12_twin_132 (fun M25 => ?_)
              refine x_aload_n dX12_twin_133 rfl ?_
              refine gfX12_282 rfl dX12_twin_134 (fun x26 => ?_)
              refine x_iload_n dX12_twin_137 rfl ?_
              refine x_iald dX12_twin_138 (fun x27 => ?_)
              exact x_iret rfl dX12_twin_139
          refine x_weak (by exact ⟨rfl, ⟨rfl, ⟨rfl, ⟨rfl, trivial⟩⟩⟩⟩) (x_lp (σ := Int32) 55 (fun s28 => [some (va_rf a0), some (.int a1), some (.int a2), some (.int s28)]) (fun s28 => []) (fun s28 => M10) (fun s28 j55 hj55 => ?_) 4294967296 ((0 : Int32)))
          · refine x_iload_n dX12_twin_55 rfl ?_
            refine x_bipush (v := 8) dX12_twin_56 (by decide) ?_
            refine x_icmp_ge (tgt := 76) dX12_twin_58 (by decide) (fun _ => ?_) (fun _ => ?_)
            · exact x_weak (by exact ⟨rfl, ⟨rfl, ⟨rfl, ⟨rfl, trivial⟩⟩⟩⟩) (hj76 s28)
            · refine x_aload_n dX12_twin_61 rfl ?_
              refine gfX12_282 rfl dX12_twin_62 (fun x29 => ?_)
              refine x_iload_n dX12_twin_65 rfl ?_
              refine x_iald dX12_twin_66 (fun x30 => ?_)
              refine x_if_lt (tgt := 76) dX12_twin_67 (by decide) (fun _ => ?_) (fun _ => ?_)
              · exact x_weak (by exact ⟨rfl, ⟨rfl, ⟨rfl, ⟨rfl, trivial⟩⟩⟩⟩) (hj76 s28)
              · refine x_iincN (v := 1) (lo' := fun x31 => [some (va_rf a0), some (.int a1), some (.int a2), some (.int x31)]) (by decide) dX12_twin_70 rfl (by decide) rfl (fun _ => rfl) (fun x31 => ?_)
                refine x_goto (tgt := 55) dX12_twin_73 (by decide) ?_
                exact x_weak (by exact ⟨rfl, ⟨rfl, ⟨rfl, ⟨rfl, trivial⟩⟩⟩⟩) (hj55 x31)
        · refine x_bipush (v := -2) dX12_twin_50 (by decide) ?_
          exact x_iret rfl dX12_twin_52
      · exact x_weak (by exact trivial) (hj39 M6)
theorem s273 {l : Launch} {d : Nat} {rec : Nat → List Value → Mem → XA} (hS : Nonempty XS) (hs : XSnd l xmt rec d) : Snd1 l 273 (b273 rec) d := by
  intro as M r M' h0
  unfold b273 at h0
  obtain ⟨a0, l1, e1, h1⟩ := aR_inv h0
  obtain ⟨a1, l2, e2, h2⟩ := aI_inv h1
  obtain ⟨a2, l3, e3, h3⟩ := aI_inv h2
  obtain ⟨ez, h⟩ := aZ_inv h3
  subst ez
  subst e3
  subst e2
  subst e1
  exact xmet (M := M) (as := [va_rf a0, .int a1, .int a2]) (lo := [some (va_rf a0), some (.int a1), some (.int a2)]) 273 xq273 xm273 (by rw [xargs_rf, xargs_i, xargs_i, xargs_nil]; exact ⟨rfl, ⟨rfl, ⟨rfl, trivial⟩⟩⟩) (by rw [xargs_rf, xargs_i, xargs_i, xargs_nil]; exact Nat.le_of_ble_eq_true rfl) (fun S G K => x_weak (by exact ⟨rfl, ⟨rfl, ⟨rfl, trivial⟩⟩⟩) (k273 hs a0 a1 a2 M)) h hS
set_option maxRecDepth 100000 in
def c274 (rec : Nat → List Value → Mem → XA) (a0 : Option Nat) (a1 : Int32) (M0 : Mem) : XA :=
  gtP (13, 157) M0 a0 15 fun x1 =>
  gtP (13, 157) M0 a0 113 fun x2 =>
  alI 100 M0 x2 a1 fun x3 =>
  gtP (13, 157) M0 a0 114 fun x4 =>
  alI 100 M0 x4 a1 fun x5 =>
  alI 100 M0 x1 ((((96 : Int32)) * x3) + x5) fun x6 =>
  some (.int x6, M0)
def b274 (rec : Nat → List Value → Mem → XA) (as : List Value) (M0 : Mem) : XA := aR as fun a0 as => aI as fun a1 as => aZ as (c274 rec a0 a1 M0)
set_option maxRecDepth 100000 in
set_option maxHeartbeats 4000000 in
theorem k274 {S : XS} {G : XG} {K : Nat × Nat} {l : Launch} {d : Nat} {rec : Nat → List Value → Mem → XA} (hs : XSnd l xmt rec d) (a0 : Option Nat) (a1 : Int32) (M0 : Mem) : Xe S G K l (yX12_parametersOf, cX12_parametersOf, 2, some .int) d 0 [some (va_rf a0), some (.int a1)] [] M0 (c274 rec a0 a1 M0) := by
  unfold c274
  refine x_aload_n dX12_parametersOf_0 rfl ?_
  refine gfX12_52 rfl dX12_parametersOf_1 (fun x1 => ?_)
  refine x_bipush (v := 96) dX12_parametersOf_4 (by decide) ?_
  refine x_aload_n dX12_parametersOf_6 rfl ?_
  refine gfX12_285 rfl dX12_parametersOf_7 (fun x2 => ?_)
  refine x_iload_n dX12_parametersOf_10 rfl ?_
  refine x_iald dX12_parametersOf_11 (fun x3 => ?_)
  refine x_imul dX12_parametersOf_12 ?_
  refine x_aload_n dX12_parametersOf_13 rfl ?_
  refine gfX12_288 rfl dX12_parametersOf_14 (fun x4 => ?_)
  refine x_iload_n dX12_parametersOf_17 rfl ?_
  refine x_iald dX12_parametersOf_18 (fun x5 => ?_)
  refine x_iadd dX12_parametersOf_19 ?_
  refine x_iald dX12_parametersOf_20 (fun x6 => ?_)
  exact x_iret rfl dX12_parametersOf_21
theorem s274 {l : Launch} {d : Nat} {rec : Nat → List Value → Mem → XA} (hS : Nonempty XS) (hs : XSnd l xmt rec d) : Snd1 l 274 (b274 rec) d := by
  intro as M r M' h0
  unfold b274 at h0
  obtain ⟨a0, l1, e1, h1⟩ := aR_inv h0
  obtain ⟨a1, l2, e2, h2⟩ := aI_inv h1
  obtain ⟨ez, h⟩ := aZ_inv h2
  subst ez
  subst e2
  subst e1
  exact xmet (M := M) (as := [va_rf a0, .int a1]) (lo := [some (va_rf a0), some (.int a1)]) 274 xq274 xm274 (by rw [xargs_rf, xargs_i, xargs_nil]; exact ⟨rfl, ⟨rfl, trivial⟩⟩) (by rw [xargs_rf, xargs_i, xargs_nil]; exact Nat.le_of_ble_eq_true rfl) (fun S G K => x_weak (by exact ⟨rfl, ⟨rfl, trivial⟩⟩) (k274 hs a0 a1 M)) h hS
set_option maxRecDepth 100000 in
def c275 (rec : Nat → List Value → Mem → XA) (a0 : Option Nat) (a1 : Int32) (a2 : Int32) (a3 : Int32) (a4 : Int32) (a5 : Int32) (M0 : Mem) : XA :=
  vC (13, 157) M0 a0 <|
  cI (rec 271 [va_rf a0, .int a1] M0) fun x2 M1 =>
  jn (fun (s3 : Mem) =>
    some (.int ((-1 : Int32)), s3)) fun j28 =>
  if x2 < 0 then (
    j28 M1) else (
    vC (13, 157) M1 a0 <|
    cI (rec 274 [va_rf a0, .int x2] M1) fun x5 M4 =>
    cI (rec 184 [.int a2, .int ((-1 : Int32)), .int (x5 - ((1 : Int32)))] M4) fun x7 M6 =>
    if x7 = 0 then (
      j28 M6) else (
      gtP (13, 157) M6 a0 115 fun x8 =>
      alI 100 M6 x8 x2 fun x9 =>
      if x9 = ((8 : Int32)) then (
        some (.int ((-3 : Int32)), M6)) else (
        gtP (13, 157) M6 a0 115 fun x10 =>
        alI 100 M6 x10 x2 fun x11 =>
        lt ((((8 : Int32)) * x2) + x11) fun (x12 : Int32) =>
        gtP (13, 157) M6 a0 116 fun x13 =>
        asI 100 M6 x13 x12 a2 fun M14 =>
        gtP (13, 157) M14 a0 117 fun x15 =>
        asI 100 M14 x15 x12 a3 fun M16 =>
        gtP (13, 157) M16 a0 118 fun x17 =>
        asI 102 M16 x17 x12 ((znar a4)) fun M18 =>
        gtP (13, 157) M18 a0 119 fun x19 =>
        asI 100 M18 x19 x12 a5 fun M20 =>
        gtP (13, 157) M20 a0 115 fun x21 =>
        alI 100 M20 x21 x2 fun x22 =>
        asI 100 M20 x21 x2 ((x22 + ((1 : Int32)))) fun M23 =>
        gtP (13, 157) M23 a0 115 fun x24 =>
        alI 100 M23 x24 x2 fun x25 =>
        some (.int x25, M23))))
def b275 (rec : Nat → List Value → Mem → XA) (as : List Value) (M0 : Mem) : XA := aR as fun a0 as => aI as fun a1 as => aI as fun a2 as => aI as fun a3 as => aI as fun a4 as => aI as fun a5 as => aZ as (c275 rec a0 a1 a2 a3 a4 a5 M0)
set_option maxRecDepth 100000 in
set_option maxHeartbeats 4000000 in
theorem k275 {S : XS} {G : XG} {K : Nat × Nat} {l : Launch} {d : Nat} {rec : Nat → List Value → Mem → XA} (hs : XSnd l xmt rec d) (a0 : Option Nat) (a1 : Int32) (a2 : Int32) (a3 : Int32) (a4 : Int32) (a5 : Int32) (M0 : Mem) : Xe S G K l (yX12_rule, cX12_rule, 8, some .int) d 0 [some (va_rf a0), some (.int a1), some (.int a2), some (.int a3), some (.int a4), some (.int a5), none, none] [] M0 (c275 rec a0 a1 a2 a3 a4 a5 M0) := by
  unfold c275
  refine x_aload_n dX12_rule_0 rfl ?_
  refine x_iload_n dX12_rule_1 rfl ?_
  refine cmX12_760 rfl hs (Nat.le_of_ble_eq_true rfl) dX12_rule_2 (fun x2 M1 => ?_)
  refine x_istore (lo' := [some (va_rf a0), some (.int a1), some (.int a2), some (.int a3), some (.int a4), some (.int a5), some (.int x2), none]) dX12_rule_5 (by decide) rfl rfl ?_
  refine x_iload dX12_rule_7 rfl ?_
  refine x_jn (σ := Mem) 28 (fun s3 => [none, none, none, none, none, none, none, none]) (fun s3 => []) (fun s3 => s3) (fun s3 => ?_) (fun j28 hj28 => ?_)
  · refine x_iconst (v := -1) dX12_rule_28 (by decide) ?_
    exact x_iret rfl dX12_rule_29
  refine x_if_lt (tgt := 28) dX12_rule_9 (by decide) (fun _ => ?_) (fun _ => ?_)
  · exact x_weak (by exact trivial) (hj28 M1)
  · refine x_iload_n dX12_rule_12 rfl ?_
    refine x_iconst (v := -1) dX12_rule_13 (by decide) ?_
    refine x_aload_n dX12_rule_14 rfl ?_
    refine x_iload dX12_rule_15 rfl ?_
    refine cmX12_763 rfl hs (Nat.le_of_ble_eq_true rfl) dX12_rule_17 (fun x5 M4 => ?_)
    refine x_iconst (v := 1) dX12_rule_20 (by decide) ?_
    refine x_isub dX12_rule_21 ?_
    refine cmX12_381 rfl hs (Nat.le_of_ble_eq_true rfl) dX12_rule_22 (fun x7 M6 => ?_)
    refine x_if_ne (tgt := 30) dX12_rule_25 (by decide) (fun _ => ?_) (fun _ => ?_)
    · exact x_weak (by exact trivial) (hj28 M6)
    · refine x_aload_n dX12_rule_30 rfl ?_
      refine gfX12_291 rfl dX12_rule_31 (fun x8 => ?_)
      refine x_iload dX12_rule_34 rfl ?_
      refine x_iald dX12_rule_36 (fun x9 => ?_)
      refine x_bipush (v := 8) dX12_rule_37 (by decide) ?_
      refine x_icmp_ne (tgt := 45) dX12_rule_39 (by decide) (fun _ => ?_) (fun _ => ?_)
      · refine x_bipush (v := -3) dX12_rule_42 (by decide) ?_
        exact x_iret rfl dX12_rule_44
      · refine x_bipush (v := 8) dX12_rule_45 (by decide) ?_
        refine x_iload dX12_rule_47 rfl ?_
        refine x_imul dX12_rule_49 ?_
        refine x_aload_n dX12_rule_50 rfl ?_
        refine gfX12_291 rfl dX12_rule_51 (fun x10 => ?_)
        refine x_iload dX12_rule_54 rfl ?_
        refine x_iald dX12_rule_56 (fun x11 => ?_)
        refine x_iadd dX12_rule_57 ?_
        refine x_ltI (fun x12 => ?_)
        refine x_istore (lo' := [some (va_rf a0), some (.int a1), some (.int a2), some (.int a3), some (.int a4), some (.int a5), some (.int x2), some (.int x12)]) dX12_rule_58 (by decide) rfl rfl ?_
        refine x_aload_n dX12_rule_60 rfl ?_
        refine gfX12_294 rfl dX12_rule_61 (fun x13 => ?_)
        refine x_iload dX12_rule_64 rfl ?_
        refine x_iload_n dX12_rule_66 rfl ?_
        refine x_iast dX12_rule_67 (fun M14 => ?_)
        refine x_aload_n dX12_rule_68 rfl ?_
        refine gfX12_297 rfl dX12_rule_69 (fun x15 => ?_)
        refine x_iload dX12_rule_72 rfl ?_
        refine x_iload_n dX12_rule_74 rfl ?_
        refine x_iast dX12_rule_75 (fun M16 => ?_)
        refine x_aload_n dX12_rule_76 rfl ?_
        refine gfX12_300 rfl dX12_rule_77 (fun x17 => ?_)
        refine x_iload dX12_rule_80 rfl ?_
        refine x_iload dX12_rule_82 rfl ?_
        refine x_zast dX12_rule_84 (fun M18 => ?_)
        refine x_aload_n dX12_rule_85 rfl ?_
        refine gfX12_303 rfl dX12_rule_86 (fun x19 => ?_)
        refine x_iload dX12_rule_89 rfl ?_
        refine x_iload dX12_rule_91 rfl ?_
        refine x_iast dX12_rule_93 (fun M20 => ?_)
        refine x_aload_n dX12_rule_94 rfl ?_
        refine gfX12_291 rfl dX12_rule_95 (fun x21 => ?_)
        refine x_iload dX12_rule_98 rfl ?_
        refine x_dup2 dX12_rule_100 (xc1_i _) (xc1_r _) ?_
        refine x_iald dX12_rule_101 (fun x22 => ?_)
        refine x_iconst (v := 1) dX12_rule_102 (by decide) ?_
        refine x_iadd dX12_rule_103 ?_
        refine x_iast dX12_rule_104 (fun M23 => ?_)
        refine x_aload_n dX12_rule_105 rfl ?_
        refine gfX12_291 rfl dX12_rule_106 (fun x24 => ?_)
        refine x_iload dX12_rule_109 rfl ?_
        refine x_iald dX12_rule_111 (fun x25 => ?_)
        exact x_iret rfl dX12_rule_112
theorem s275 {l : Launch} {d : Nat} {rec : Nat → List Value → Mem → XA} (hS : Nonempty XS) (hs : XSnd l xmt rec d) : Snd1 l 275 (b275 rec) d := by
  intro as M r M' h0
  unfold b275 at h0
  obtain ⟨a0, l1, e1, h1⟩ := aR_inv h0
  obtain ⟨a1, l2, e2, h2⟩ := aI_inv h1
  obtain ⟨a2, l3, e3, h3⟩ := aI_inv h2
  obtain ⟨a3, l4, e4, h4⟩ := aI_inv h3
  obtain ⟨a4, l5, e5, h5⟩ := aI_inv h4
  obtain ⟨a5, l6, e6, h6⟩ := aI_inv h5
  obtain ⟨ez, h⟩ := aZ_inv h6
  subst ez
  subst e6
  subst e5
  subst e4
  subst e3
  subst e2
  subst e1
  exact xmet (M := M) (as := [va_rf a0, .int a1, .int a2, .int a3, .int a4, .int a5]) (lo := [some (va_rf a0), some (.int a1), some (.int a2), some (.int a3), some (.int a4), some (.int a5)]) 275 xq275 xm275 (by rw [xargs_rf, xargs_i, xargs_i, xargs_i, xargs_i, xargs_i, xargs_nil]; exact ⟨rfl, ⟨rfl, ⟨rfl, ⟨rfl, ⟨rfl, ⟨rfl, trivial⟩⟩⟩⟩⟩⟩) (by rw [xargs_rf, xargs_i, xargs_i, xargs_i, xargs_i, xargs_i, xargs_nil]; exact Nat.le_of_ble_eq_true rfl) (fun S G K => x_weak (by exact ⟨rfl, ⟨rfl, ⟨rfl, ⟨rfl, ⟨rfl, ⟨rfl, trivial⟩⟩⟩⟩⟩⟩) (k275 hs a0 a1 a2 a3 a4 a5 M)) h hS
set_option maxRecDepth 100000 in
def c276 (rec : Nat → List Value → Mem → XA) (a0 : Option Nat) (a1 : Int32) (M0 : Mem) : XA :=
  vC (13, 157) M0 a0 <|
  cI (rec 271 [va_rf a0, .int a1] M0) fun x2 M1 =>
  if 0 ≤ x2 then (
    gtP (13, 157) M1 a0 112 fun x3 =>
    asI 100 M1 x3 x2 (((-1 : Int32))) fun M4 =>
    gtP (13, 157) M4 a0 115 fun x5 =>
    alI 100 M4 x5 x2 fun x6 =>
    some (.int x6, M4)) else (
    some (.int ((-1 : Int32)), M1))
def b276 (rec : Nat → List Value → Mem → XA) (as : List Value) (M0 : Mem) : XA := aR as fun a0 as => aI as fun a1 as => aZ as (c276 rec a0 a1 M0)
set_option maxRecDepth 100000 in
set_option maxHeartbeats 4000000 in
theorem k276 {S : XS} {G : XG} {K : Nat × Nat} {l : Launch} {d : Nat} {rec : Nat → List Value → Mem → XA} (hs : XSnd l xmt rec d) (a0 : Option Nat) (a1 : Int32) (M0 : Mem) : Xe S G K l (yX12_drop, cX12_drop, 3, some .int) d 0 [some (va_rf a0), some (.int a1), none] [] M0 (c276 rec a0 a1 M0) := by
  unfold c276
  refine x_aload_n dX12_drop_0 rfl ?_
  refine x_iload_n dX12_drop_1 rfl ?_
  refine cmX12_760 rfl hs (Nat.le_of_ble_eq_true rfl) dX12_drop_2 (fun x2 M1 => ?_)
  refine x_istore_n (lo' := [some (va_rf a0), some (.int a1), some (.int x2)]) dX12_drop_5 (by decide) rfl rfl ?_
  refine x_iload_n dX12_drop_6 rfl ?_
  refine x_if_ge (tgt := 12) dX12_drop_7 (by decide) (fun _ => ?_) (fun _ => ?_)
  · refine x_aload_n dX12_drop_12 rfl ?_
    refine gfX12_282 rfl dX12_drop_13 (fun x3 => ?_)
    refine x_iload_n dX12_drop_16 rfl ?_
    refine x_iconst (v := -1) dX12_drop_17 (by decide) ?_
    refine x_iast dX12_drop_18 (fun M4 => ?_)
    refine x_aload_n dX12_drop_19 rfl ?_
    refine gfX12_291 rfl dX12_drop_20 (fun x5 => ?_)
    refine x_iload_n dX12_drop_23 rfl ?_
    refine x_iald dX12_drop_24 (fun x6 => ?_)
    exact x_iret rfl dX12_drop_25
  · refine x_iconst (v := -1) dX12_drop_10 (by decide) ?_
    exact x_iret rfl dX12_drop_11
theorem s276 {l : Launch} {d : Nat} {rec : Nat → List Value → Mem → XA} (hS : Nonempty XS) (hs : XSnd l xmt rec d) : Snd1 l 276 (b276 rec) d := by
  intro as M r M' h0
  unfold b276 at h0
  obtain ⟨a0, l1, e1, h1⟩ := aR_inv h0
  obtain ⟨a1, l2, e2, h2⟩ := aI_inv h1
  obtain ⟨ez, h⟩ := aZ_inv h2
  subst ez
  subst e2
  subst e1
  exact xmet (M := M) (as := [va_rf a0, .int a1]) (lo := [some (va_rf a0), some (.int a1)]) 276 xq276 xm276 (by rw [xargs_rf, xargs_i, xargs_nil]; exact ⟨rfl, ⟨rfl, trivial⟩⟩) (by rw [xargs_rf, xargs_i, xargs_nil]; exact Nat.le_of_ble_eq_true rfl) (fun S G K => x_weak (by exact ⟨rfl, ⟨rfl, trivial⟩⟩) (k276 hs a0 a1 M)) h hS
set_option maxRecDepth 100000 in
def c277_6 (rec : Nat → List Value → Mem → XA) (a0 : Option Nat) (a1 : Int32) (a2 : Int32) (M0 : Mem) (j78 : Int32 → XA) : (Int32 × Int32) → ((Int32 × Int32) → XA) → XA := fun s2 j6 =>
  gtP (13, 157) M0 a0 115 fun x3 =>
  alI 100 M0 x3 a1 fun x4 =>
  if x4 ≤ s2.2 then (
    j78 s2.1) else (
    gtP (13, 157) M0 a0 116 fun x5 =>
    alI 100 M0 x5 ((((8 : Int32)) * a1) + s2.2) fun x6 =>
    jn (fun (s7 : Int32) =>
      lt (s2.2 + (1 : Int32)) fun (x8 : Int32) =>
      j6 (s7, x8)) fun j71 =>
    jn (fun (s9 : Unit) =>
      j71 s2.2) fun j65 =>
    if x6 < 0 then (
      j65 ()) else (
      gtP (13, 157) M0 a0 72 fun x10 =>
      gtI (13, 157) M0 a0 73 fun x11 =>
      alI 100 M0 x10 ((x11 - a2) + x6) fun x12 =>
      gtP (13, 157) M0 a0 117 fun x13 =>
      alI 100 M0 x13 ((((8 : Int32)) * a1) + s2.2) fun x14 =>
      if x12 = x14 then (
        j65 ()) else (
        j71 s2.1)))
set_option maxRecDepth 100000 in
def c277 (rec : Nat → List Value → Mem → XA) (a0 : Option Nat) (a1 : Int32) (a2 : Int32) (M0 : Mem) : XA :=
  jn (fun (s1 : Int32) =>
    some (.int s1, M0)) fun j78 =>
  lp (c277_6 rec a0 a1 a2 M0 j78) 4294967296 ((-2 : Int32), (0 : Int32))
def b277 (rec : Nat → List Value → Mem → XA) (as : List Value) (M0 : Mem) : XA := aR as fun a0 as => aI as fun a1 as => aI as fun a2 as => aZ as (c277 rec a0 a1 a2 M0)
set_option maxRecDepth 100000 in
set_option maxHeartbeats 4000000 in
theorem k277 {S : XS} {G : XG} {K : Nat × Nat} {l : Launch} {d : Nat} {rec : Nat → List Value → Mem → XA} (hs : XSnd l xmt rec d) (a0 : Option Nat) (a1 : Int32) (a2 : Int32) (M0 : Mem) : Xe S G K l (yX12_ruleFor, cX12_ruleFor, 6, some .int) d 0 [some (va_rf a0), some (.int a1), some (.int a2), none, none, none] [] M0 (c277 rec a0 a1 a2 M0) := by
  unfold c277
  refine x_bipush (v := -2) dX12_ruleFor_0 (by decide) ?_
  refine x_istore_n (lo' := [some (va_rf a0), some (.int a1), some (.int a2), some (.int ((-2 : Int32))), none, none]) dX12_ruleFor_2 (by decide) rfl rfl ?_
  refine x_iconst (v := 0) dX12_ruleFor_3 (by decide) ?_
  refine x_istore (lo' := [some (va_rf a0), some (.int a1), some (.int a2), some (.int ((-2 : Int32))), some (.int ((0 : Int32))), none]) dX12_ruleFor_4 (by decide) rfl rfl ?_
  refine x_jn (σ := Int32) 78 (fun s1 => [none, none, none, some (.int s1), none, none]) (fun s1 => []) (fun s1 => M0) (fun s1 => ?_) (fun j78 hj78 => ?_)
  · refine x_iload_n dX12_ruleFor_78 rfl ?_
    exact x_iret rfl dX12_ruleFor_79
  refine x_weak (by exact ⟨rfl, ⟨rfl, ⟨rfl, ⟨rfl, ⟨rfl, trivial⟩⟩⟩⟩⟩) (x_lp (σ := Int32 × Int32) 6 (fun s2 => [some (va_rf a0), some (.int a1), some (.int a2), some (.int s2.1), some (.int s2.2), none]) (fun s2 => []) (fun s2 => M0) (fun s2 j6 hj6 => ?_) 4294967296 ((-2 : Int32), (0 : Int32)))
  · refine x_iload dX12_ruleFor_6 rfl ?_
    refine x_aload_n dX12_ruleFor_8 rfl ?_
    refine gfX12_291 rfl dX12_ruleFor_9 (fun x3 => ?_)
    refine x_iload_n dX12_ruleFor_12 rfl ?_
    refine x_iald dX12_ruleFor_13 (fun x4 => ?_)
    refine x_icmp_ge (tgt := 78) dX12_ruleFor_14 (by decide) (fun _ => ?_) (fun _ => ?_)
    · exact x_weak (by exact ⟨rfl, trivial⟩) (hj78 s2.1)
    · refine x_aload_n dX12_ruleFor_17 rfl ?_
      refine gfX12_294 rfl dX12_ruleFor_18 (fun x5 => ?_)
      refine x_bipush (v := 8) dX12_ruleFor_21 (by decide) ?_
      refine x_iload_n dX12_ruleFor_23 rfl ?_
      refine x_imul dX12_ruleFor_24 ?_
      refine x_iload dX12_ruleFor_25 rfl ?_
      refine x_iadd dX12_ruleFor_27 ?_
      refine x_iald dX12_ruleFor_28 (fun x6 => ?_)
      refine x_istore (lo' := [some (va_rf a0), some (.int a1), some (.int a2), some (.int s2.1), some (.int s2.2), some (.int x6)]) dX12_ruleFor_29 (by decide) rfl rfl ?_
      refine x_iload dX12_ruleFor_31 rfl ?_
      refine x_jn (σ := Int32) 71 (fun s7 => [some (va_rf a0), some (.int a1), some (.int a2), none, some (.int s2.2), none]) (fun s7 => [.int s7]) (fun s7 => M0) (fun s7 => ?_) (fun j71 hj71 => ?_)
      · refine x_istore_n (lo' := [some (va_rf a0), some (.int a1), some (.int a2), some (.int s7), some (.int s2.2), none]) dX12_ruleFor_71 (by decide) rfl rfl ?_
        refine x_iincN (v := 1) (lo' := fun x8 => [some (va_rf a0), some (.int a1), some (.int a2), some (.int s7), some (.int x8), none]) (by decide) dX12_ruleFor_72 rfl (by decide) rfl (fun _ => rfl) (fun x8 => ?_)
        refine x_goto (tgt := 6) dX12_ruleFor_75 (by decide) ?_
        exact x_weak (by exact ⟨rfl, ⟨rfl, ⟨rfl, ⟨rfl, ⟨rfl, trivial⟩⟩⟩⟩⟩) (hj6 (s7, x8))
      refine x_jn (σ := Unit) 65 (fun s9 => [some (va_rf a0), some (.int a1), some (.int a2), none, some (.int s2.2), none]) (fun s9 => []) (fun s9 => M0) (fun s9 => ?_) (fun j65 hj65 => ?_)
      · refine x_iload dX12_ruleFor_65 rfl ?_
        refine x_goto (tgt := 71) dX12_ruleFor_67 (by decide) ?_
        exact x_weak (by exact ⟨rfl, ⟨rfl, ⟨rfl, ⟨rfl, trivial⟩⟩⟩⟩) (hj71 s2.2)
      refine x_if_lt (tgt := 65) dX12_ruleFor_33 (by decide) (fun _ => ?_) (fun _ => ?_)
      · exact x_weak (by exact ⟨rfl, ⟨rfl, ⟨rfl, ⟨rfl, trivial⟩⟩⟩⟩) (hj65 ())
      · refine x_aload_n dX12_ruleFor_36 rfl ?_
        refine gfX12_230 rfl dX12_ruleFor_37 (fun x10 => ?_)
        refine x_aload_n dX12_ruleFor_40 rfl ?_
        refine gfX12_638 rfl dX12_ruleFor_41 (fun x11 => ?_)
        refine x_iload_n dX12_ruleFor_44 rfl ?_
        refine x_isub dX12_ruleFor_45 ?_
        refine x_iload dX12_ruleFor_46 rfl ?_
        refine x_iadd dX12_ruleFor_48 ?_
        refine x_iald dX12_ruleFor_49 (fun x12 => ?_)
        refine x_aload_n dX12_ruleFor_50 rfl ?_
        refine gfX12_297 rfl dX12_ruleFor_51 (fun x13 => ?_)
        refine x_bipush (v := 8) dX12_ruleFor_54 (by decide) ?_
        refine x_iload_n dX12_ruleFor_56 rfl ?_
        refine x_imul dX12_ruleFor_57 ?_
        refine x_iload dX12_ruleFor_58 rfl ?_
        refine x_iadd dX12_ruleFor_60 ?_
        refine x_iald dX12_ruleFor_61 (fun x14 => ?_)
        refine x_icmp_ne (tgt := 70) dX12_ruleFor_62 (by decide) (fun _ => ?_) (fun _ => ?_)
        · exact x_weak (by exact ⟨rfl, ⟨rfl, ⟨rfl, ⟨rfl, trivial⟩⟩⟩⟩) (hj65 ())
        · refine x_iload_n dX12_ruleFor_70 rfl ?_
          exact x_weak (by exact ⟨rfl, ⟨rfl, ⟨rfl, ⟨rfl, trivial⟩⟩⟩⟩) (hj71 s2.1)
theorem s277 {l : Launch} {d : Nat} {rec : Nat → List Value → Mem → XA} (hS : Nonempty XS) (hs : XSnd l xmt rec d) : Snd1 l 277 (b277 rec) d := by
  intro as M r M' h0
  unfold b277 at h0
  obtain ⟨a0, l1, e1, h1⟩ := aR_inv h0
  obtain ⟨a1, l2, e2, h2⟩ := aI_inv h1
  obtain ⟨a2, l3, e3, h3⟩ := aI_inv h2
  obtain ⟨ez, h⟩ := aZ_inv h3
  subst ez
  subst e3
  subst e2
  subst e1
  exact xmet (M := M) (as := [va_rf a0, .int a1, .int a2]) (lo := [some (va_rf a0), some (.int a1), some (.int a2)]) 277 xq277 xm277 (by rw [xargs_rf, xargs_i, xargs_i, xargs_nil]; exact ⟨rfl, ⟨rfl, ⟨rfl, trivial⟩⟩⟩) (by rw [xargs_rf, xargs_i, xargs_i, xargs_nil]; exact Nat.le_of_ble_eq_true rfl) (fun S G K => x_weak (by exact ⟨rfl, ⟨rfl, ⟨rfl, trivial⟩⟩⟩) (k277 hs a0 a1 a2 M)) h hS
set_option maxRecDepth 100000 in
def c278_7 (rec : Nat → List Value → Mem → XA) (a0 : Option Nat) (j26 : Mem → XA) : (Int32 × Mem) → ((Int32 × Mem) → XA) → XA := fun s3 j7 =>
  if ((8 : Int32)) ≤ s3.1 then (
    j26 s3.2) else (
    gtP (13, 157) s3.2 a0 120 fun x4 =>
    asI 100 s3.2 x4 s3.1 (((0 : Int32))) fun M5 =>
    lt (s3.1 + (1 : Int32)) fun (x6 : Int32) =>
    j7 (x6, M5))
set_option maxRecDepth 100000 in
def c278 (rec : Nat → List Value → Mem → XA) (a0 : Option Nat) (M0 : Mem) : XA :=
  ptZ (13, 157) M0 a0 92 ((1 : Int32)) fun M1 =>
  jn (fun (s2 : Mem) =>
    some (.null, s2)) fun j26 =>
  lp (c278_7 rec a0 j26) 4294967296 ((0 : Int32), M1)
def b278 (rec : Nat → List Value → Mem → XA) (as : List Value) (M0 : Mem) : XA := aR as fun a0 as => aZ as (c278 rec a0 M0)
set_option maxRecDepth 100000 in
set_option maxHeartbeats 4000000 in
theorem k278 {S : XS} {G : XG} {K : Nat × Nat} {l : Launch} {d : Nat} {rec : Nat → List Value → Mem → XA} (hs : XSnd l xmt rec d) (a0 : Option Nat) (M0 : Mem) : Xe S G K l (yX12_listen, cX12_listen, 2, none) d 0 [some (va_rf a0), none] [] M0 (c278 rec a0 M0) := by
  unfold c278
  refine x_aload_n dX12_listen_0 rfl ?_
  refine x_iconst (v := 1) dX12_listen_1 (by decide) ?_
  refine pfX12_711 rfl dX12_listen_2 (fun M1 => ?_)
  refine x_iconst (v := 0) dX12_listen_5 (by decide) ?_
  refine x_istore_n (lo' := [some (va_rf a0), some (.int ((0 : Int32)))]) dX12_listen_6 (by decide) (xok_r rfl) rfl ?_
  refine x_jn (σ := Mem) 26 (fun s2 => [none, none]) (fun s2 => []) (fun s2 => s2) (fun s2 => ?_) (fun j26 hj26 => ?_)
  · exact x_vret rfl dX12_listen_26
  refine x_weak (by exact ⟨rfl, ⟨rfl, trivial⟩⟩) (x_lp (σ := Int32 × Mem) 7 (fun s3 => [some (va_rf a0), some (.int s3.1)]) (fun s3 => []) (fun s3 => s3.2) (fun s3 j7 hj7 => ?_) 4294967296 ((0 : Int32), M1))
  · refine x_iload_n dX12_listen_7 rfl ?_
    refine x_bipush (v := 8) dX12_listen_8 (by decide) ?_
    refine x_icmp_ge (tgt := 26) dX12_listen_10 (by decide) (fun _ => ?_) (fun _ => ?_)
    · exact x_weak (by exact trivial) (hj26 s3.2)
    · refine x_aload_n dX12_listen_13 rfl ?_
      refine gfX12_306 rfl dX12_listen_14 (fun x4 => ?_)
      refine x_iload_n dX12_listen_17 rfl ?_
      refine x_iconst (v := 0) dX12_listen_18 (by decide) ?_
      refine x_iast dX12_listen_19 (fun M5 => ?_)
      refine x_iincN (v := 1) (lo' := fun x6 => [some (va_rf a0), some (.int x6)]) (by decide) dX12_listen_20 rfl (by decide) (xok_r rfl) (fun _ => rfl) (fun x6 => ?_)
      refine x_goto (tgt := 7) dX12_listen_23 (by decide) ?_
      exact x_weak (by exact ⟨rfl, ⟨rfl, trivial⟩⟩) (hj7 (x6, M5))
theorem s278 {l : Launch} {d : Nat} {rec : Nat → List Value → Mem → XA} (hS : Nonempty XS) (hs : XSnd l xmt rec d) : Snd1 l 278 (b278 rec) d := by
  intro as M r M' h0
  unfold b278 at h0
  obtain ⟨a0, l1, e1, h1⟩ := aR_inv h0
  obtain ⟨ez, h⟩ := aZ_inv h1
  subst ez
  subst e1
  exact xmet (M := M) (as := [va_rf a0]) (lo := [some (va_rf a0)]) 278 xq278 xm278 (by rw [xargs_rf, xargs_nil]; exact ⟨rfl, trivial⟩) (by rw [xargs_rf, xargs_nil]; exact Nat.le_of_ble_eq_true rfl) (fun S G K => x_weak (by exact ⟨rfl, trivial⟩) (k278 hs a0 M)) h hS
set_option maxRecDepth 100000 in
def c279_31 (rec : Nat → List Value → Mem → XA) (a0 : Option Nat) (a1 : Int32) (a2 : Int32) (j75 : Mem → XA) (x2 : Int32) : (Int32 × Mem) → ((Int32 × Mem) → XA) → XA := fun s9 j31 =>
  if a2 ≤ s9.1 then (
    j75 s9.2) else (
    gtP (13, 157) s9.2 a0 122 fun x10 =>
    gtP (13, 157) s9.2 a0 72 fun x11 =>
    gtI (13, 157) s9.2 a0 73 fun x12 =>
    alI 100 s9.2 x11 ((x12 - a2) + s9.1) fun x13 =>
    asI 100 s9.2 x10 (((((200 : Int32)) * a1) + (((4 : Int32)) * x2)) + s9.1) x13 fun M14 =>
    lt (s9.1 + (1 : Int32)) fun (x15 : Int32) =>
    j31 (x15, M14))
set_option maxRecDepth 100000 in
def c279 (rec : Nat → List Value → Mem → XA) (a0 : Option Nat) (a1 : Int32) (a2 : Int32) (a3 : Int32) (M0 : Mem) : XA :=
  gtP (13, 157) M0 a0 120 fun x1 =>
  alI 100 M0 x1 a1 fun x2 =>
  jn (fun (s3 : Mem) =>
    gtP (13, 157) s3 a0 120 fun x4 =>
    alI 100 s3 x4 a1 fun x5 =>
    asI 100 s3 x4 a1 ((x5 + ((1 : Int32)))) fun M6 =>
    some (.null, M6)) fun j75 =>
  if ((50 : Int32)) ≤ x2 then (
    j75 M0) else (
    gtP (13, 157) M0 a0 121 fun x7 =>
    asI 100 M0 x7 ((((50 : Int32)) * a1) + x2) a3 fun M8 =>
    lp (c279_31 rec a0 a1 a2 j75 x2) 4294967296 ((0 : Int32), M8))
def b279 (rec : Nat → List Value → Mem → XA) (as : List Value) (M0 : Mem) : XA := aR as fun a0 as => aI as fun a1 as => aI as fun a2 as => aI as fun a3 as => aZ as (c279 rec a0 a1 a2 a3 M0)
set_option maxRecDepth 100000 in
set_option maxHeartbeats 4000000 in
theorem k279 {S : XS} {G : XG} {K : Nat × Nat} {l : Launch} {d : Nat} {rec : Nat → List Value → Mem → XA} (hs : XSnd l xmt rec d) (a0 : Option Nat) (a1 : Int32) (a2 : Int32) (a3 : Int32) (M0 : Mem) : Xe S G K l (yX12_hear, cX12_hear, 6, none) d 0 [some (va_rf a0), some (.int a1), some (.int a2), some (.int a3), none, none] [] M0 (c279 rec a0 a1 a2 a3 M0) := by
  unfold c279
  refine x_aload_n dX12_hear_0 rfl ?_
  refine gfX12_306 rfl dX12_hear_1 (fun x1 => ?_)
  refine x_iload_n dX12_hear_4 rfl ?_
  refine x_iald dX12_hear_5 (fun x2 => ?_)
  refine x_istore (lo' := [some (va_rf a0), some (.int a1), some (.int a2), some (.int a3), some (.int x2), none]) dX12_hear_6 (by decide) rfl rfl ?_
  refine x_iload dX12_hear_8 rfl ?_
  refine x_bipush (v := 50) dX12_hear_10 (by decide) ?_
  refine x_jn (σ := Mem) 75 (fun s3 => [some (va_rf a0), some (.int a1), none, none, none, none]) (fun s3 => []) (fun s3 => s3) (fun s3 => ?_) (fun j75 hj75 => ?_)
  · refine x_aload_n dX12_hear_75 rfl ?_
    refine gfX12_306 rfl dX12_hear_76 (fun x4 => ?_)
    refine x_iload_n dX12_hear_79 rfl ?_
    refine x_dup2 dX12_hear_80 (xc1_i _) (xc1_r _) ?_
    refine x_iald dX12_hear_81 (fun x5 => ?_)
    refine x_iconst (v := 1) dX12_hear_82 (by decide) ?_
    refine x_iadd dX12_hear_83 ?_
    refine x_iast dX12_hear_84 (fun M6 => ?_)
    exact x_vret rfl dX12_hear_85
  refine x_icmp_ge (tgt := 75) dX12_hear_12 (by decide) (fun _ => ?_) (fun _ => ?_)
  · exact x_weak (by exact ⟨rfl, ⟨rfl, trivial⟩⟩) (hj75 M0)
  · refine x_aload_n dX12_hear_15 rfl ?_
    refine gfX12_309 rfl dX12_hear_16 (fun x7 => ?_)
    refine x_bipush (v := 50) dX12_hear_19 (by decide) ?_
    refine x_iload_n dX12_hear_21 rfl ?_
    refine x_imul dX12_hear_22 ?_
    refine x_iload dX12_hear_23 rfl ?_
    refine x_iadd dX12_hear_25 ?_
    refine x_iload_n dX12_hear_26 rfl ?_
    refine x_iast dX12_hear_27 (fun M8 => ?_)
    refine x_iconst (v := 0) dX12_hear_28 (by decide) ?_
    refine x_istore (lo' := [some (va_rf a0), some (.int a1), some (.int a2), some (.int a3), some (.int x2), some (.int ((0 : Int32)))]) dX12_hear_29 (by decide) rfl rfl ?_
    refine x_weak (by exact ⟨rfl, ⟨rfl, ⟨rfl, ⟨rfl, ⟨rfl, trivial⟩⟩⟩⟩⟩) (x_lp (σ := Int32 × Mem) 31 (fun s9 => [some (va_rf a0), some (.int a1), some (.int a2), none, some (.int x2), some (.int s9.1)]) (fun s9 => []) (fun s9 => s9.2) (fun s9 j31 hj31 => ?_) 4294967296 ((0 : Int32), M8))
    · refine x_iload dX12_hear_31 rfl ?_
      refine x_iload_n dX12_hear_33 rfl ?_
      refine x_icmp_ge (tgt := 75) dX12_hear_34 (by decide) (fun _ => ?_) (fun _ => ?_)
      · exact x_weak (by exact ⟨rfl, ⟨rfl, trivial⟩⟩) (hj75 s9.2)
      · refine x_aload_n dX12_hear_37 rfl ?_
        refine gfX12_312 rfl dX12_hear_38 (fun x10 => ?_)
        refine x_sipush (v := 200) dX12_hear_41 (by decide) ?_
        refine x_iload_n dX12_hear_44 rfl ?_
        refine x_imul dX12_hear_45 ?_
        refine x_iconst (v := 4) dX12_hear_46 (by decide) ?_
        refine x_iload dX12_hear_47 rfl ?_
        refine x_imul dX12_hear_49 ?_
        refine x_iadd dX12_hear_50 ?_
        refine x_iload dX12_hear_51 rfl ?_
        refine x_iadd dX12_hear_53 ?_
        refine x_aload_n dX12_hear_54 rfl ?_
        refine gfX12_230 rfl dX12_hear_55 (fun x11 => ?_)
        refine x_aload_n dX12_hear_58 rfl ?_
        refine gfX12_638 rfl dX12_hear_59 (fun x12 => ?_)
        refine x_iload_n dX12_hear_62 rfl ?_
        refine x_isub dX12_hear_63 ?_
        refine x_iload dX12_hear_64 rfl ?_
        refine x_iadd dX12_hear_66 ?_
        refine x_iald dX12_hear_67 (fun x13 => ?_)
        refine x_iast dX12_hear_68 (fun M14 => ?_)
        refine x_iincN (v := 1) (lo' := fun x15 => [some (va_rf a0), some (.int a1), some (.int a2), none, some (.int x2), some (.int x15)]) (by decide) dX12_hear_69 rfl (by decide) rfl (fun _ => rfl) (fun x15 => ?_)
        refine x_goto (tgt := 31) dX12_hear_72 (by decide) ?_
        exact x_weak (by exact ⟨rfl, ⟨rfl, ⟨rfl, ⟨rfl, ⟨rfl, trivial⟩⟩⟩⟩⟩) (hj31 (x15, M14))
theorem s279 {l : Launch} {d : Nat} {rec : Nat → List Value → Mem → XA} (hS : Nonempty XS) (hs : XSnd l xmt rec d) : Snd1 l 279 (b279 rec) d := by
  intro as M r M' h0
  unfold b279 at h0
  obtain ⟨a0, l1, e1, h1⟩ := aR_inv h0
  obtain ⟨a1, l2, e2, h2⟩ := aI_inv h1
  obtain ⟨a2, l3, e3, h3⟩ := aI_inv h2
  obtain ⟨a3, l4, e4, h4⟩ := aI_inv h3
  obtain ⟨ez, h⟩ := aZ_inv h4
  subst ez
  subst e4
  subst e3
  subst e2
  subst e1
  exact xmet (M := M) (as := [va_rf a0, .int a1, .int a2, .int a3]) (lo := [some (va_rf a0), some (.int a1), some (.int a2), some (.int a3)]) 279 xq279 xm279 (by rw [xargs_rf, xargs_i, xargs_i, xargs_i, xargs_nil]; exact ⟨rfl, ⟨rfl, ⟨rfl, ⟨rfl, trivial⟩⟩⟩⟩) (by rw [xargs_rf, xargs_i, xargs_i, xargs_i, xargs_nil]; exact Nat.le_of_ble_eq_true rfl) (fun S G K => x_weak (by exact ⟨rfl, ⟨rfl, ⟨rfl, ⟨rfl, trivial⟩⟩⟩⟩) (k279 hs a0 a1 a2 a3 M)) h hS
set_option maxRecDepth 100000 in
def c280 (rec : Nat → List Value → Mem → XA) (a0 : Option Nat) (a1 : Int32) (a2 : Int32) (a3 : Int32) (M0 : Mem) : XA :=
  vC (13, 157) M0 a0 <|
  cI (rec 271 [va_rf a0, .int a1] M0) fun x2 M1 =>
  jn (fun (s3 : Unit) =>
    some (.int ((-1 : Int32)), M1)) fun j17 =>
  if x2 < 0 then (
    j17 ()) else (
    if ((-1 : Int32)) ≤ a2 then (
      if a2 = ((-1 : Int32)) then (
        gtP (13, 157) M1 a0 120 fun x4 =>
        alI 100 M1 x4 x2 fun x5 =>
        some (.int x5, M1)) else (
        gtP (13, 157) M1 a0 120 fun x6 =>
        alI 100 M1 x6 x2 fun x7 =>
        jn (fun (s8 : Mem) =>
          some (.int ((-1 : Int32)), s8)) fun j65 =>
        if x7 ≤ a2 then (
          j65 M1) else (
          if ((50 : Int32)) ≤ a2 then (
            j65 M1) else (
            vC (13, 157) M1 a0 <|
            cI (rec 274 [va_rf a0, .int x2] M1) fun x10 M9 =>
            cI (rec 184 [.int a3, .int ((-1 : Int32)), .int (x10 - ((1 : Int32)))] M9) fun x12 M11 =>
            if x12 = 0 then (
              j65 M11) else (
              jn (fun (s13 : Int32) =>
                some (.int s13, M11)) fun j103 =>
              if 0 ≤ a3 then (
                gtP (13, 157) M11 a0 122 fun x14 =>
                alI 100 M11 x14 (((((200 : Int32)) * x2) + (((4 : Int32)) * a2)) + a3) fun x15 =>
                j103 x15) else (
                gtP (13, 157) M11 a0 121 fun x16 =>
                alI 100 M11 x16 ((((50 : Int32)) * x2) + a2) fun x17 =>
                j103 x17)))))) else (
      j17 ()))
def b280 (rec : Nat → List Value → Mem → XA) (as : List Value) (M0 : Mem) : XA := aR as fun a0 as => aI as fun a1 as => aI as fun a2 as => aI as fun a3 as => aZ as (c280 rec a0 a1 a2 a3 M0)
set_option maxRecDepth 100000 in
set_option maxHeartbeats 4000000 in
theorem k280 {S : XS} {G : XG} {K : Nat × Nat} {l : Launch} {d : Nat} {rec : Nat → List Value → Mem → XA} (hs : XSnd l xmt rec d) (a0 : Option Nat) (a1 : Int32) (a2 : Int32) (a3 : Int32) (M0 : Mem) : Xe S G K l (yX12_calls, cX12_calls, 5, some .int) d 0 [some (va_rf a0), some (.int a1), some (.int a2), some (.int a3), none] [] M0 (c280 rec a0 a1 a2 a3 M0) := by
  unfold c280
  refine x_aload_n dX12_calls_0 rfl ?_
  refine x_iload_n dX12_calls_1 rfl ?_
  refine cmX12_760 rfl hs (Nat.le_of_ble_eq_true rfl) dX12_calls_2 (fun x2 M1 => ?_)
  refine x_istore (lo' := [some (va_rf a0), some (.int a1), some (.int a2), some (.int a3), some (.int x2)]) dX12_calls_5 (by decide) rfl rfl ?_
  refine x_iload dX12_calls_7 rfl ?_
  refine x_jn (σ := Unit) 17 (fun s3 => [none, none, none, none, none]) (fun s3 => []) (fun s3 => M1) (fun s3 => ?_) (fun j17 hj17 => ?_)
  · refine x_iconst (v := -1) dX12_calls_17 (by decide) ?_
    exact x_iret rfl dX12_calls_18
  refine x_if_lt (tgt := 17) dX12_calls_9 (by decide) (fun _ => ?_) (fun _ => ?_)
  · exact x_weak (by exact trivial) (hj17 ())
  · refine x_iload_n dX12_calls_12 rfl ?_
    refine x_iconst (v := -1) dX12_calls_13 (by decide) ?_
    refine x_icmp_ge (tgt := 19) dX12_calls_14 (by decide) (fun _ => ?_) (fun _ => ?_)
    · refine x_iload_n dX12_calls_19 rfl ?_
      refine x_iconst (v := -1) dX12_calls_20 (by decide) ?_
      refine x_icmp_ne (tgt := 32) dX12_calls_21 (by decide) (fun _ => ?_) (fun _ => ?_)
      · refine x_aload_n dX12_calls_24 rfl ?_
        refine gfX12_306 rfl dX12_calls_25 (fun x4 => ?_)
        refine x_iload dX12_calls_28 rfl ?_
        refine x_iald dX12_calls_30 (fun x5 => ?_)
        exact x_iret rfl dX12_calls_31
      · refine x_iload_n dX12_calls_32 rfl ?_
        refine x_aload_n dX12_calls_33 rfl ?_
        refine gfX12_306 rfl dX12_calls_34 (fun x6 => ?_)
        refine x_iload dX12_calls_37 rfl ?_
        refine x_iald dX12_calls_39 (fun x7 => ?_)
        refine x_jn (σ := Mem) 65 (fun s8 => [none, none, none, none, none]) (fun s8 => []) (fun s8 => s8) (fun s8 => ?_) (fun j65 hj65 => ?_)
        · refine x_iconst (v := -1) dX12_calls_65 (by decide) ?_
          exact x_iret rfl dX12_calls_66
        refine x_icmp_ge (tgt := 65) dX12_calls_40 (by decide) (fun _ => ?_) (fun _ => ?_)
        · exact x_weak (by exact trivial) (hj65 M1)
        · refine x_iload_n dX12_calls_43 rfl ?_
          refine x_bipush (v := 50) dX12_calls_44 (by decide) ?_
          refine x_icmp_ge (tgt := 65) dX12_calls_46 (by decide) (fun _ => ?_) (fun _ => ?_)
          · exact x_weak (by exact trivial) (hj65 M1)
          · refine x_iload_n dX12_calls_49 rfl ?_
            refine x_iconst (v := -1) dX12_calls_50 (by decide) ?_
            refine x_aload_n dX12_calls_51 rfl ?_
            refine x_iload dX12_calls_52 rfl ?_
            refine cmX12_763 rfl hs (Nat.le_of_ble_eq_true rfl) dX12_calls_54 (fun x10 M9 => ?_)
            refine x_iconst (v := 1) dX12_calls_57 (by decide) ?_
            refine x_isub dX12_calls_58 ?_
            refine cmX12_381 rfl hs (Nat.le_of_ble_eq_true rfl) dX12_calls_59 (fun x12 M11 => ?_)
            refine x_if_ne (tgt := 67) dX12_calls_62 (by decide) (fun _ => ?_) (fun _ => ?_)
            · exact x_weak (by exact trivial) (hj65 M11)
            · refine x_iload_n dX12_calls_67 rfl ?_
              refine x_jn (σ := Int32) 103 (fun s13 => [none, none, none, none, none]) (fun s13 => [.int s13]) (fun s13 => M11) (fun s13 => ?_) (fun j103 hj103 => ?_)
              · exact x_iret rfl dX12_calls_103
              refine x_if_ge (tgt := 86) dX12_calls_68 (by decide) (fun _ => ?_) (fun _ => ?_)
              · refine x_aload_n dX12_calls_86 rfl ?_
                refine gfX12_312 rfl dX12_calls_87 (fun x14 => ?_)
                refine x_sipush (v := 200) dX12_calls_90 (by decide) ?_
                refine x_iload dX12_calls_93 rfl ?_
                refine x_imul dX12_calls_95 ?_
                refine x_iconst (v := 4) dX12_calls_96 (by decide) ?_
                refine x_iload_n dX12_calls_97 rfl ?_
                refine x_imul dX12_calls_98 ?_
                refine x_iadd dX12_calls_99 ?_
                refine x_iload_n dX12_calls_100 rfl ?_
                refine x_iadd dX12_calls_101 ?_
                refine x_iald dX12_calls_102 (fun x15 => ?_)
                exact x_weak (by exact trivial) (hj103 x15)
              · refine x_aload_n dX12_calls_71 rfl ?_
                refine gfX12_309 rfl dX12_calls_72 (fun x16 => ?_)
                refine x_bipush (v := 50) dX12_calls_75 (by decide) ?_
                refine x_iload dX12_calls_77 rfl ?_
                refine x_imul dX12_calls_79 ?_
                refine x_iload_n dX12_calls_80 rfl ?_
                refine x_iadd dX12_calls_81 ?_
                refine x_iald dX12_calls_82 (fun x17 => ?_)
                refine x_goto (tgt := 103) dX12_calls_83 (by decide) ?_
                exact x_weak (by exact trivial) (hj103 x17)
    · exact x_weak (by exact trivial) (hj17 ())
theorem s280 {l : Launch} {d : Nat} {rec : Nat → List Value → Mem → XA} (hS : Nonempty XS) (hs : XSnd l xmt rec d) : Snd1 l 280 (b280 rec) d := by
  intro as M r M' h0
  unfold b280 at h0
  obtain ⟨a0, l1, e1, h1⟩ := aR_inv h0
  obtain ⟨a1, l2, e2, h2⟩ := aI_inv h1
  obtain ⟨a2, l3, e3, h3⟩ := aI_inv h2
  obtain ⟨a3, l4, e4, h4⟩ := aI_inv h3
  obtain ⟨ez, h⟩ := aZ_inv h4
  subst ez
  subst e4
  subst e3
  subst e2
  subst e1
  exact xmet (M := M) (as := [va_rf a0, .int a1, .int a2, .int a3]) (lo := [some (va_rf a0), some (.int a1), some (.int a2), some (.int a3)]) 280 xq280 xm280 (by rw [xargs_rf, xargs_i, xargs_i, xargs_i, xargs_nil]; exact ⟨rfl, ⟨rfl, ⟨rfl, ⟨rfl, trivial⟩⟩⟩⟩) (by rw [xargs_rf, xargs_i, xargs_i, xargs_i, xargs_nil]; exact Nat.le_of_ble_eq_true rfl) (fun S G K => x_weak (by exact ⟨rfl, ⟨rfl, ⟨rfl, ⟨rfl, trivial⟩⟩⟩⟩) (k280 hs a0 a1 a2 a3 M)) h hS
set_option maxRecDepth 100000 in
def c281 (rec : Nat → List Value → Mem → XA) (a0 : Option Nat) (a1 : Int32) (a2 : Int32) (a3 : Int32) (M0 : Mem) : XA :=
  vC (13, 157) M0 a0 <|
  cI (rec 255 [va_rf a0, .int a1] M0) fun x2 M1 =>
  jn (fun (s3 : Mem) =>
    some (.int ((-1 : Int32)), s3)) fun j33 =>
  if x2 = 0 then (
    j33 M1) else (
    gtP (13, 157) M1 a0 33 fun x4 =>
    alI 100 M1 x4 a1 fun x5 =>
    cI (rec 184 [.int a2, .int ((0 : Int32)), .int (x5 - ((1 : Int32)))] M1) fun x7 M6 =>
    if x7 = 0 then (
      j33 M6) else (
      cI (rec 184 [.int a3, .int ((0 : Int32)), .int ((2 : Int32))] M6) fun x9 M8 =>
      if x9 = 0 then (
        j33 M8) else (
        gtP (13, 157) M8 a0 34 fun x10 =>
        alX 103 M8 x10 ((((1000 : Int32)) * a1) + a2) fun x11 =>
        jn (fun (s12 : Int32 × Mem) =>
          some (.int s12.1, s12.2)) fun j111 =>
        if a3 = 0 then (
          j111 (x11, M8)) else (
          if a3 = ((1 : Int32)) then (
            gtP (13, 157) M8 a0 30 fun x13 =>
            alI 101 M8 x13 ((((1000 : Int32)) * a1) + x11) fun x14 =>
            cI (rec 233 [.int x14] M8) fun x16 M15 =>
            j111 (x16, M15)) else (
            gtP (13, 157) M8 a0 123 fun x17 =>
            alX 102 M8 x17 a1 fun x18 =>
            if x18 = 0 then (
              j111 ((-2 : Int32), M8)) else (
              gtP (13, 157) M8 a0 124 fun x19 =>
              alI 100 M8 x19 ((((1000 : Int32)) * a1) + a2) fun x20 =>
              cI (rec 315 [.int x20] M8) fun x22 M21 =>
              j111 (x22, M21)))))))
def b281 (rec : Nat → List Value → Mem → XA) (as : List Value) (M0 : Mem) : XA := aR as fun a0 as => aI as fun a1 as => aI as fun a2 as => aI as fun a3 as => aZ as (c281 rec a0 a1 a2 a3 M0)
set_option maxRecDepth 100000 in
set_option maxHeartbeats 4000000 in
theorem k281 {S : XS} {G : XG} {K : Nat × Nat} {l : Launch} {d : Nat} {rec : Nat → List Value → Mem → XA} (hs : XSnd l xmt rec d) (a0 : Option Nat) (a1 : Int32) (a2 : Int32) (a3 : Int32) (M0 : Mem) : Xe S G K l (yX12_mutant, cX12_mutant, 5, some .int) d 0 [some (va_rf a0), some (.int a1), some (.int a2), some (.int a3), none] [] M0 (c281 rec a0 a1 a2 a3 M0) := by
  unfold c281
  refine x_aload_n dX12_mutant_0 rfl ?_
  refine x_iload_n dX12_mutant_1 rfl ?_
  refine cmX12_735 rfl hs (Nat.le_of_ble_eq_true rfl) dX12_mutant_2 (fun x2 M1 => ?_)
  refine x_jn (σ := Mem) 33 (fun s3 => [none, none, none, none, none]) (fun s3 => []) (fun s3 => s3) (fun s3 => ?_) (fun j33 hj33 => ?_)
  · refine x_iconst (v := -1) dX12_mutant_33 (by decide) ?_
    exact x_iret rfl dX12_mutant_34
  refine x_if_eq (tgt := 33) dX12_mutant_5 (by decide) (fun _ => ?_) (fun _ => ?_)
  · exact x_weak (by exact trivial) (hj33 M1)
  · refine x_iload_n dX12_mutant_8 rfl ?_
    refine x_iconst (v := 0) dX12_mutant_9 (by decide) ?_
    refine x_aload_n dX12_mutant_10 rfl ?_
    refine gfX12_106 rfl dX12_mutant_11 (fun x4 => ?_)
    refine x_iload_n dX12_mutant_14 rfl ?_
    refine x_iald dX12_mutant_15 (fun x5 => ?_)
    refine x_iconst (v := 1) dX12_mutant_16 (by decide) ?_
    refine x_isub dX12_mutant_17 ?_
    refine cmX12_381 rfl hs (Nat.le_of_ble_eq_true rfl) dX12_mutant_18 (fun x7 M6 => ?_)
    refine x_if_eq (tgt := 33) dX12_mutant_21 (by decide) (fun _ => ?_) (fun _ => ?_)
    · exact x_weak (by exact trivial) (hj33 M6)
    · refine x_iload_n dX12_mutant_24 rfl ?_
      refine x_iconst (v := 0) dX12_mutant_25 (by decide) ?_
      refine x_iconst (v := 2) dX12_mutant_26 (by decide) ?_
      refine cmX12_381 rfl hs (Nat.le_of_ble_eq_true rfl) dX12_mutant_27 (fun x9 M8 => ?_)
      refine x_if_ne (tgt := 35) dX12_mutant_30 (by decide) (fun _ => ?_) (fun _ => ?_)
      · exact x_weak (by exact trivial) (hj33 M8)
      · refine x_aload_n dX12_mutant_35 rfl ?_
        refine gfX12_109 rfl dX12_mutant_36 (fun x10 => ?_)
        refine x_sipush (v := 1000) dX12_mutant_39 (by decide) ?_
        refine x_iload_n dX12_mutant_42 rfl ?_
        refine x_imul dX12_mutant_43 ?_
        refine x_iload_n dX12_mutant_44 rfl ?_
        refine x_iadd dX12_mutant_45 ?_
        refine x_sald dX12_mutant_46 (fun x11 => ?_)
        refine x_istore (lo' := [some (va_rf a0), some (.int a1), some (.int a2), some (.int a3), some (.int x11)]) dX12_mutant_47 (by decide) rfl rfl ?_
        refine x_iload_n dX12_mutant_49 rfl ?_
        refine x_jn (σ := Int32 × Mem) 111 (fun s12 => [none, none, none, none, none]) (fun s12 => [.int s12.1]) (fun s12 => s12.2) (fun s12 => ?_) (fun j111 hj111 => ?_)
        · exact x_iret rfl dX12_mutant_111
        refine x_if_ne (tgt := 58) dX12_mutant_50 (by decide) (fun _ => ?_) (fun _ => ?_)
        · refine x_iload dX12_mutant_53 rfl ?_
          refine x_goto (tgt := 111) dX12_mutant_55 (by decide) ?_
          exact x_weak (by exact trivial) (hj111 (x11, M8))
        · refine x_iload_n dX12_mutant_58 rfl ?_
          refine x_iconst (v := 1) dX12_mutant_59 (by decide) ?_
          refine x_icmp_ne (tgt := 82) dX12_mutant_60 (by decide) (fun _ => ?_) (fun _ => ?_)
          · refine x_aload_n dX12_mutant_63 rfl ?_
            refine gfX12_97 rfl dX12_mutant_64 (fun x13 => ?_)
            refine x_sipush (v := 1000) dX12_mutant_67 (by decide) ?_
            refine x_iload_n dX12_mutant_70 rfl ?_
            refine x_imul dX12_mutant_71 ?_
            refine x_iload dX12_mutant_72 rfl ?_
            refine x_iadd dX12_mutant_74 ?_
            refine x_bald dX12_mutant_75 (fun x14 => ?_)
            refine cmX12_597 rfl hs (Nat.le_of_ble_eq_true rfl) dX12_mutant_76 (fun x16 M15 => ?_)
            refine x_goto (tgt := 111) dX12_mutant_79 (by decide) ?_
            exact x_weak (by exact trivial) (hj111 (x16, M15))
          · refine x_aload_n dX12_mutant_82 rfl ?_
            refine gfX12_315 rfl dX12_mutant_83 (fun x17 => ?_)
            refine x_iload_n dX12_mutant_86 rfl ?_
            refine x_zald dX12_mutant_87 (fun x18 => ?_)
            refine x_if_eq (tgt := 109) dX12_mutant_88 (by decide) (fun _ => ?_) (fun _ => ?_)
            · refine x_bipush (v := -2) dX12_mutant_109 (by decide) ?_
              exact x_weak (by exact trivial) (hj111 ((-2 : Int32), M8))
            · refine x_aload_n dX12_mutant_91 rfl ?_
              refine gfX12_318 rfl dX12_mutant_92 (fun x19 => ?_)
              refine x_sipush (v := 1000) dX12_mutant_95 (by decide) ?_
              refine x_iload_n dX12_mutant_98 rfl ?_
              refine x_imul dX12_mutant_99 ?_
              refine x_iload_n dX12_mutant_100 rfl ?_
              refine x_iadd dX12_mutant_101 ?_
              refine x_iald dX12_mutant_102 (fun x20 => ?_)
              refine cmX12_766 rfl hs (Nat.le_of_ble_eq_true rfl) dX12_mutant_103 (fun x22 M21 => ?_)
              refine x_goto (tgt := 111) dX12_mutant_106 (by decide) ?_
              exact x_weak (by exact trivial) (hj111 (x22, M21))
theorem s281 {l : Launch} {d : Nat} {rec : Nat → List Value → Mem → XA} (hS : Nonempty XS) (hs : XSnd l xmt rec d) : Snd1 l 281 (b281 rec) d := by
  intro as M r M' h0
  unfold b281 at h0
  obtain ⟨a0, l1, e1, h1⟩ := aR_inv h0
  obtain ⟨a1, l2, e2, h2⟩ := aI_inv h1
  obtain ⟨a2, l3, e3, h3⟩ := aI_inv h2
  obtain ⟨a3, l4, e4, h4⟩ := aI_inv h3
  obtain ⟨ez, h⟩ := aZ_inv h4
  subst ez
  subst e4
  subst e3
  subst e2
  subst e1
  exact xmet (M := M) (as := [va_rf a0, .int a1, .int a2, .int a3]) (lo := [some (va_rf a0), some (.int a1), some (.int a2), some (.int a3)]) 281 xq281 xm281 (by rw [xargs_rf, xargs_i, xargs_i, xargs_i, xargs_nil]; exact ⟨rfl, ⟨rfl, ⟨rfl, ⟨rfl, trivial⟩⟩⟩⟩) (by rw [xargs_rf, xargs_i, xargs_i, xargs_i, xargs_nil]; exact Nat.le_of_ble_eq_true rfl) (fun S G K => x_weak (by exact ⟨rfl, ⟨rfl, ⟨rfl, ⟨rfl, trivial⟩⟩⟩⟩) (k281 hs a0 a1 a2 a3 M)) h hS
set_option maxRecDepth 100000 in
def c282_16 (rec : Nat → List Value → Mem → XA) (a0 : Option Nat) (a1 : Int32) (a2 : Int32) (j124 : Int32 × Mem → XA) : (Int32 × Int32 × Mem) → ((Int32 × Int32 × Mem) → XA) → XA := fun s7 j16 =>
  gtP (13, 157) s7.2.2 a0 17 fun x8 =>
  alI 100 s7.2.2 x8 a1 fun x9 =>
  if x9 ≤ s7.2.1 then (
    j124 (s7.1, s7.2.2)) else (
    gtI (13, 157) s7.2.2 a0 84 fun x10 =>
    if x10 = 0 then (
      gtP (13, 157) s7.2.2 a0 24 fun x11 =>
      alI 100 s7.2.2 x11 ((((16 : Int32)) * a1) + s7.2.1) fun x12 =>
      vC (13, 157) s7.2.2 a0 <|
      cV (rec 254 [va_rf a0, .int x12] s7.2.2) fun M13 =>
      jn (fun (s14 : Int32 × Mem) =>
        lt (s7.2.1 + (1 : Int32)) fun (x15 : Int32) =>
        j16 (s14.1, x15, s14.2)) fun j118 =>
      if 0 ≤ a2 then (
        gtP (13, 157) M13 a0 127 fun x16 =>
        alI 100 M13 x16 x12 fun x17 =>
        gtI (13, 157) M13 a0 101 fun x18 =>
        jn (fun (s19 : Unit) =>
          lt (s7.1 ||| (((1 : Int32)) <<< (x12 &&& 31))) fun (x20 : Int32) =>
          j118 (x20, M13)) fun j111 =>
        if x17 = x18 then (
          gtP (13, 157) M13 a0 128 fun x21 =>
          alI 100 M13 x21 x12 fun x22 =>
          gtI (13, 157) M13 a0 102 fun x23 =>
          if x22 = x23 then (
            j118 (s7.1, M13)) else (
            j111 ())) else (
          j111 ())) else (
        gtP (13, 157) M13 a0 127 fun x24 =>
        gtI (13, 157) M13 a0 101 fun x25 =>
        asI 100 M13 x24 x12 x25 fun M26 =>
        gtP (13, 157) M26 a0 128 fun x27 =>
        gtI (13, 157) M26 a0 102 fun x28 =>
        asI 100 M26 x27 x12 x28 fun M29 =>
        j118 (s7.1, M29))) else (
      j124 (s7.1, s7.2.2)))
set_option maxRecDepth 100000 in
def c282 (rec : Nat → List Value → Mem → XA) (a0 : Option Nat) (a1 : Int32) (a2 : Int32) (M0 : Mem) : XA :=
  ptI (13, 157) M0 a0 90 a2 fun M1 =>
  vC (13, 157) M1 a0 <|
  cV (rec 235 [va_rf a0, .int a1, .int ((-1 : Int32))] M1) fun M2 =>
  jn (fun (s3 : Int32 × Mem) =>
    ptI (13, 157) s3.2 a0 90 ((-1 : Int32)) fun M4 =>
    gtI (13, 157) M4 a0 84 fun x5 =>
    jn (fun (s6 : Int32) =>
      some (.int s6, M4)) fun j141 =>
    if x5 = 0 then (
      j141 s3.1) else (
      j141 ((-1 : Int32)))) fun j124 =>
  lp (c282_16 rec a0 a1 a2 j124) 4294967296 ((0 : Int32), (0 : Int32), M2)
def b282 (rec : Nat → List Value → Mem → XA) (as : List Value) (M0 : Mem) : XA := aR as fun a0 as => aI as fun a1 as => aI as fun a2 as => aZ as (c282 rec a0 a1 a2 M0)
set_option maxRecDepth 100000 in
set_option maxHeartbeats 4000000 in
theorem k282 {S : XS} {G : XG} {K : Nat × Nat} {l : Launch} {d : Nat} {rec : Nat → List Value → Mem → XA} (hs : XSnd l xmt rec d) (a0 : Option Nat) (a1 : Int32) (a2 : Int32) (M0 : Mem) : Xe S G K l (yX12_runWith, cX12_runWith, 6, some .int) d 0 [some (va_rf a0), some (.int a1), some (.int a2), none, none, none] [] M0 (c282 rec a0 a1 a2 M0) := by
  unfold c282
  refine x_aload_n dX12_runWith_0 rfl ?_
  refine x_iload_n dX12_runWith_1 rfl ?_
  refine pfX12_246 rfl dX12_runWith_2 (fun M1 => ?_)
  refine x_aload_n dX12_runWith_5 rfl ?_
  refine x_iload_n dX12_runWith_6 rfl ?_
  refine x_iconst (v := -1) dX12_runWith_7 (by decide) ?_
  refine cmX12_738 rfl hs (Nat.le_of_ble_eq_true rfl) dX12_runWith_8 (fun M2 => ?_)
  refine x_iconst (v := 0) dX12_runWith_11 (by decide) ?_
  refine x_istore_n (lo' := [some (va_rf a0), some (.int a1), some (.int a2), some (.int ((0 : Int32))), none, none]) dX12_runWith_12 (by decide) rfl rfl ?_
  refine x_iconst (v := 0) dX12_runWith_13 (by decide) ?_
  refine x_istore (lo' := [some (va_rf a0), some (.int a1), some (.int a2), some (.int ((0 : Int32))), some (.int ((0 : Int32))), none]) dX12_runWith_14 (by decide) rfl rfl ?_
  refine x_jn (σ := Int32 × Mem) 124 (fun s3 => [some (va_rf a0), none, none, some (.int s3.1), none, none]) (fun s3 => []) (fun s3 => s3.2) (fun s3 => ?_) (fun j124 hj124 => ?_)
  · refine x_aload_n dX12_runWith_124 rfl ?_
    refine x_iconst (v := -1) dX12_runWith_125 (by decide) ?_
    refine pfX12_246 rfl dX12_runWith_126 (fun M4 => ?_)
    refine x_aload_n dX12_runWith_129 rfl ?_
    refine gfX12_647 rfl dX12_runWith_130 (fun x5 => ?_)
    refine x_jn (σ := Int32) 141 (fun s6 => [none, none, none, none, none, none]) (fun s6 => [.int s6]) (fun s6 => M4) (fun s6 => ?_) (fun j141 hj141 => ?_)
    · exact x_iret rfl dX12_runWith_141
    refine x_if_eq (tgt := 140) dX12_runWith_133 (by decide) (fun _ => ?_) (fun _ => ?_)
    · refine x_iload_n dX12_runWith_140 rfl ?_
      exact x_weak (by exact trivial) (hj141 s3.1)
    · refine x_iconst (v := -1) dX12_runWith_136 (by decide) ?_
      refine x_goto (tgt := 141) dX12_runWith_137 (by decide) ?_
      exact x_weak (by exact trivial) (hj141 ((-1 : Int32)))
  refine x_weak (by exact ⟨rfl, ⟨rfl, ⟨rfl, ⟨rfl, ⟨rfl, trivial⟩⟩⟩⟩⟩) (x_lp (σ := Int32 × Int32 × Mem) 16 (fun s7 => [some (va_rf a0), some (.int a1), some (.int a2), some (.int s7.1), some (.int s7.2.1), none]) (fun s7 => []) (fun s7 => s7.2.2) (fun s7 j16 hj16 => ?_) 4294967296 ((0 : Int32), (0 : Int32), M2))
  · refine x_iload dX12_runWith_16 rfl ?_
    refine x_aload_n dX12_runWith_18 rfl ?_
    refine gfX12_58 rfl dX12_runWith_19 (fun x8 => ?_)
    refine x_iload_n dX12_runWith_22 rfl ?_
    refine x_iald dX12_runWith_23 (fun x9 => ?_)
    refine x_icmp_ge (tgt := 124) dX12_runWith_24 (by decide) (fun _ => ?_) (fun _ => ?_)
    · exact x_weak (by exact ⟨rfl, ⟨rfl, trivial⟩⟩) (hj124 (s7.1, s7.2.2))
    · refine x_aload_n dX12_runWith_27 rfl ?_
      refine gfX12_647 rfl dX12_runWith_28 (fun x10 => ?_)
      refine x_if_ne (tgt := 124) dX12_runWith_31 (by decide) (fun _ => ?_) (fun _ => ?_)
      · refine x_aload_n dX12_runWith_34 rfl ?_
        refine gfX12_79 rfl dX12_runWith_35 (fun x11 => ?_)
        refine x_bipush (v := 16) dX12_runWith_38 (by decide) ?_
        refine x_iload_n dX12_runWith_40 rfl ?_
        refine x_imul dX12_runWith_41 ?_
        refine x_iload dX12_runWith_42 rfl ?_
        refine x_iadd dX12_runWith_44 ?_
        refine x_iald dX12_runWith_45 (fun x12 => ?_)
        refine x_istore (lo' := [some (va_rf a0), some (.int a1), some (.int a2), some (.int s7.1), some (.int s7.2.1), some (.int x12)]) dX12_runWith_46 (by decide) rfl rfl ?_
        refine x_aload_n dX12_runWith_48 rfl ?_
        refine x_iload dX12_runWith_49 rfl ?_
        refine cmX12_744 rfl hs (Nat.le_of_ble_eq_true rfl) dX12_runWith_51 (fun M13 => ?_)
        refine x_iload_n dX12_runWith_54 rfl ?_
        refine x_jn (σ := Int32 × Mem) 118 (fun s14 => [some (va_rf a0), some (.int a1), some (.int a2), some (.int s14.1), some (.int s7.2.1), none]) (fun s14 => []) (fun s14 => s14.2) (fun s14 => ?_) (fun j118 hj118 => ?_)
        · refine x_iincN (v := 1) (lo' := fun x15 => [some (va_rf a0), some (.int a1), some (.int a2), some (.int s14.1), some (.int x15), none]) (by decide) dX12_runWith_118 rfl (by decide) rfl (fun _ => rfl) (fun x15 => ?_)
          refine x_goto (tgt := 16) dX12_runWith_121 (by decide) ?_
          exact x_weak (by exact ⟨rfl, ⟨rfl, ⟨rfl, ⟨rfl, ⟨rfl, trivial⟩⟩⟩⟩⟩) (hj16 (s14.1, x15, s14.2))
        refine x_if_ge (tgt := 83) dX12_runWith_55 (by decide) (fun _ => ?_) (fun _ => ?_)
        · refine x_aload_n dX12_runWith_83 rfl ?_
          refine gfX12_327 rfl dX12_runWith_84 (fun x16 => ?_)
          refine x_iload dX12_runWith_87 rfl ?_
          refine x_iald dX12_runWith_89 (fun x17 => ?_)
          refine x_aload_n dX12_runWith_90 rfl ?_
          refine gfX12_717 rfl dX12_runWith_91 (fun x18 => ?_)
          refine x_jn (σ := Unit) 111 (fun s19 => [some (va_rf a0), some (.int a1), some (.int a2), some (.int s7.1), some (.int s7.2.1), some (.int x12)]) (fun s19 => []) (fun s19 => M13) (fun s19 => ?_) (fun j111 hj111 => ?_)
          · refine x_iload_n dX12_runWith_111 rfl ?_
            refine x_iconst (v := 1) dX12_runWith_112 (by decide) ?_
            refine x_iload dX12_runWith_113 rfl ?_
            refine x_ishl dX12_runWith_115 ?_
            refine x_ior dX12_runWith_116 ?_
            refine x_ltI (fun x20 => ?_)
            refine x_istore_n (lo' := [some (va_rf a0), some (.int a1), some (.int a2), some (.int x20), some (.int s7.2.1), some (.int x12)]) dX12_runWith_117 (by decide) rfl rfl ?_
            exact x_weak (by exact ⟨rfl, ⟨rfl, ⟨rfl, ⟨rfl, ⟨rfl, trivial⟩⟩⟩⟩⟩) (hj118 (x20, M13))
          refine x_icmp_ne (tgt := 111) dX12_runWith_94 (by decide) (fun _ => ?_) (fun _ => ?_)
          · refine x_aload_n dX12_runWith_97 rfl ?_
            refine gfX12_330 rfl dX12_runWith_98 (fun x21 => ?_)
            refine x_iload dX12_runWith_101 rfl ?_
            refine x_iald dX12_runWith_103 (fun x22 => ?_)
            refine x_aload_n dX12_runWith_104 rfl ?_
            refine gfX12_720 rfl dX12_runWith_105 (fun x23 => ?_)
            refine x_icmp_eq (tgt := 118) dX12_runWith_108 (by decide) (fun _ => ?_) (fun _ => ?_)
            · exact x_weak (by exact ⟨rfl, ⟨rfl, ⟨rfl, ⟨rfl, ⟨rfl, trivial⟩⟩⟩⟩⟩) (hj118 (s7.1, M13))
            · exact x_weak (by exact ⟨rfl, ⟨rfl, ⟨rfl, ⟨rfl, ⟨rfl, ⟨rfl, trivial⟩⟩⟩⟩⟩⟩) (hj111 ())
          · exact x_weak (by exact ⟨rfl, ⟨rfl, ⟨rfl, ⟨rfl, ⟨rfl, ⟨rfl, trivial⟩⟩⟩⟩⟩⟩) (hj111 ())
        · refine x_aload_n dX12_runWith_58 rfl ?_
          refine gfX12_327 rfl dX12_runWith_59 (fun x24 => ?_)
          refine x_iload dX12_runWith_62 rfl ?_
          refine x_aload_n dX12_runWith_64 rfl ?_
          refine gfX12_717 rfl dX12_runWith_65 (fun x25 => ?_)
          refine x_iast dX12_runWith_68 (fun M26 => ?_)
          refine x_aload_n dX12_runWith_69 rfl ?_
          refine gfX12_330 rfl dX12_runWith_70 (fun x27 => ?_)
          refine x_iload dX12_runWith_73 rfl ?_
          refine x_aload_n dX12_runWith_75 rfl ?_
          refine gfX12_720 rfl dX12_runWith_76 (fun x28 => ?_)
          refine x_iast dX12_runWith_79 (fun M29 => ?_)
          refine x_goto (tgt := 118) dX12_runWith_80 (by decide) ?_
          exact x_weak (by exact ⟨rfl, ⟨rfl, ⟨rfl, ⟨rfl, ⟨rfl, trivial⟩⟩⟩⟩⟩) (hj118 (s7.1, M29))
      · exact x_weak (by exact ⟨rfl, ⟨rfl, trivial⟩⟩) (hj124 (s7.1, s7.2.2))
theorem s282 {l : Launch} {d : Nat} {rec : Nat → List Value → Mem → XA} (hS : Nonempty XS) (hs : XSnd l xmt rec d) : Snd1 l 282 (b282 rec) d := by
  intro as M r M' h0
  unfold b282 at h0
  obtain ⟨a0, l1, e1, h1⟩ := aR_inv h0
  obtain ⟨a1, l2, e2, h2⟩ := aI_inv h1
  obtain ⟨a2, l3, e3, h3⟩ := aI_inv h2
  obtain ⟨ez, h⟩ := aZ_inv h3
  subst ez
  subst e3
  subst e2
  subst e1
  exact xmet (M := M) (as := [va_rf a0, .int a1, .int a2]) (lo := [some (va_rf a0), some (.int a1), some (.int a2)]) 282 xq282 xm282 (by rw [xargs_rf, xargs_i, xargs_i, xargs_nil]; exact ⟨rfl, ⟨rfl, ⟨rfl, trivial⟩⟩⟩) (by rw [xargs_rf, xargs_i, xargs_i, xargs_nil]; exact Nat.le_of_ble_eq_true rfl) (fun S G K => x_weak (by exact ⟨rfl, ⟨rfl, ⟨rfl, trivial⟩⟩⟩) (k282 hs a0 a1 a2 M)) h hS
set_option maxRecDepth 100000 in
def c283_96 (rec : Nat → List Value → Mem → XA) (a0 : Option Nat) (a1 : Int32) (j151 : Int32 × Mem → XA) : (Int32 × Int32 × Mem) → ((Int32 × Int32 × Mem) → XA) → XA := fun s16 j96 =>
  gtP (13, 157) s16.2.2 a0 33 fun x17 =>
  alI 100 s16.2.2 x17 a1 fun x18 =>
  if x18 ≤ s16.2.1 then (
    j151 (s16.1, s16.2.2)) else (
    gtP (13, 157) s16.2.2 a0 124 fun x19 =>
    gtP (13, 157) s16.2.2 a0 125 fun x20 =>
    alI 100 s16.2.2 x20 s16.2.1 fun x21 =>
    asI 100 s16.2.2 x19 ((((1000 : Int32)) * a1) + s16.2.1) x21 fun M22 =>
    gtP (13, 157) M22 a0 125 fun x23 =>
    alI 100 M22 x23 s16.2.1 fun x24 =>
    jn (fun (s25 : Int32) =>
      lt (s16.1 + s25) fun (x26 : Int32) =>
      lt (s16.2.1 + (1 : Int32)) fun (x27 : Int32) =>
      j96 (x26, x27, M22)) fun j143 =>
    if x24 = 0 then (
      j143 ((0 : Int32))) else (
      j143 ((1 : Int32))))
set_option maxRecDepth 100000 in
def c283_31 (rec : Nat → List Value → Mem → XA) (a0 : Option Nat) (a1 : Int32) (j76 : Mem → XA) : (Int32 × Int32 × Mem) → ((Int32 × Int32 × Mem) → XA) → XA := fun s29 j31 =>
  gtP (13, 157) s29.2.2 a0 33 fun x30 =>
  alI 100 s29.2.2 x30 a1 fun x31 =>
  if x31 ≤ s29.2.1 then (
    j76 s29.2.2) else (
    if s29.1 < 0 then (
      j76 s29.2.2) else (
      gtP (13, 157) s29.2.2 a0 34 fun x32 =>
      alX 103 s29.2.2 x32 ((((1000 : Int32)) * a1) + s29.2.1) fun x33 =>
      vC (13, 157) s29.2.2 a0 <|
      cI (rec 282 [va_rf a0, .int a1, .int x33] s29.2.2) fun x35 M34 =>
      gtP (13, 157) M34 a0 125 fun x36 =>
      asI 100 M34 x36 s29.2.1 x35 fun M37 =>
      lt (s29.2.1 + (1 : Int32)) fun (x38 : Int32) =>
      j31 (x35, x38, M37)))
set_option maxRecDepth 100000 in
def c283 (rec : Nat → List Value → Mem → XA) (a0 : Option Nat) (a1 : Int32) (M0 : Mem) : XA :=
  vC (13, 157) M0 a0 <|
  cI (rec 255 [va_rf a0, .int a1] M0) fun x2 M1 =>
  if x2 = 0 then (
    some (.int ((-1 : Int32)), M1)) else (
    ptI (13, 157) M1 a0 83 ((40000 : Int32)) fun M3 =>
    ptZ (13, 157) M3 a0 84 ((0 : Int32)) fun M4 =>
    vC (13, 157) M4 a0 <|
    cI (rec 282 [va_rf a0, .int a1, .int ((-1 : Int32))] M4) fun x6 M5 =>
    jn (fun (s7 : Mem) =>
      gtI (13, 157) s7 a0 84 fun x8 =>
      if x8 = 0 then (
        jn (fun (s9 : Int32 × Mem) =>
          gtP (13, 157) s9.2 a0 123 fun x10 =>
          asI 102 s9.2 x10 a1 ((znar ((1 : Int32)))) fun M11 =>
          gtP (13, 157) M11 a0 126 fun x12 =>
          vC (13, 157) M11 a0 <|
          cI (rec 284 [va_rf a0, .int a1] M11) fun x14 M13 =>
          asI 100 M13 x12 a1 x14 fun M15 =>
          some (.int s9.1, M15)) fun j151 =>
        lp (c283_96 rec a0 a1 j151) 4294967296 ((0 : Int32), (0 : Int32), s7)) else (
        ptZ (13, 157) s7 a0 84 ((0 : Int32)) fun M28 =>
        some (.int ((-4 : Int32)), M28))) fun j76 =>
    lp (c283_31 rec a0 a1 j76) 4294967296 (x6, (0 : Int32), M5))
def b283 (rec : Nat → List Value → Mem → XA) (as : List Value) (M0 : Mem) : XA := aR as fun a0 as => aI as fun a1 as => aZ as (c283 rec a0 a1 M0)
set_option maxRecDepth 100000 in
set_option maxHeartbeats 4000000 in
theorem k283 {S : XS} {G : XG} {K : Nat × Nat} {l : Launch} {d : Nat} {rec : Nat → List Value → Mem → XA} (hs : XSnd l xmt rec d) (a0 : Option Nat) (a1 : Int32) (M0 : Mem) : Xe S G K l (yX12_kill, cX12_kill, 5, some .int) d 0 [some (va_rf a0), some (.int a1), none, none, none] [] M0 (c283 rec a0 a1 M0) := by
  unfold c283
  refine x_aload_n dX12_kill_0 rfl ?_
  refine x_iload_n dX12_kill_1 rfl ?_
  refine cmX12_735 rfl hs (Nat.le_of_ble_eq_true rfl) dX12_kill_2 (fun x2 M1 => ?_)
  refine x_if_ne (tgt := 10) dX12_kill_5 (by decide) (fun _ => ?_) (fun _ => ?_)
  · refine x_iconst (v := -1) dX12_kill_8 (by decide) ?_
    exact x_iret rfl dX12_kill_9
  · refine x_aload_n dX12_kill_10 rfl ?_
    refine x_ldcw (v := 40000) dX12_kill_11 lk_constant_X12_771 ?_
    refine pfX12_644 rfl dX12_kill_14 (fun M3 => ?_)
    refine x_aload_n dX12_kill_17 rfl ?_
    refine x_iconst (v := 0) dX12_kill_18 (by decide) ?_
    refine pfX12_647 rfl dX12_kill_19 (fun M4 => ?_)
    refine x_aload_n dX12_kill_22 rfl ?_
    refine x_iload_n dX12_kill_23 rfl ?_
    refine x_iconst (v := -1) dX12_kill_24 (by decide) ?_
    refine cmX12_772 rfl hs (Nat.le_of_ble_eq_true rfl) dX12_kill_25 (fun x6 M5 => ?_)
    refine x_istore_n (lo' := [some (va_rf a0), some (.int a1), some (.int x6), none, none]) dX12_kill_28 (by decide) rfl rfl ?_
    refine x_iconst (v := 0) dX12_kill_29 (by decide) ?_
    refine x_istore_n (lo' := [some (va_rf a0), some (.int a1), some (.int x6), some (.int ((0 : Int32))), none]) dX12_kill_30 (by decide) rfl rfl ?_
    refine x_jn (σ := Mem) 76 (fun s7 => [some (va_rf a0), some (.int a1), none, none, none]) (fun s7 => []) (fun s7 => s7) (fun s7 => ?_) (fun j76 hj76 => ?_)
    · refine x_aload_n dX12_kill_76 rfl ?_
      refine gfX12_647 rfl dX12_kill_77 (fun x8 => ?_)
      refine x_if_eq (tgt := 91) dX12_kill_80 (by decide) (fun _ => ?_) (fun _ => ?_)
      · refine x_iconst (v := 0) dX12_kill_91 (by decide) ?_
        refine x_istore_n (lo' := [some (va_rf a0), some (.int a1), none, some (.int ((0 : Int32))), none]) dX12_kill_92 (by decide) rfl rfl ?_
        refine x_iconst (v := 0) dX12_kill_93 (by decide) ?_
        refine x_istore (lo' := [some (va_rf a0), some (.int a1), none, some (.int ((0 : Int32))), some (.int ((0 : Int32)))]) dX12_kill_94 (by decide) rfl rfl ?_
        refine x_jn (σ := Int32 × Mem) 151 (fun s9 => [some (va_rf a0), some (.int a1), none, some (.int s9.1), none]) (fun s9 => []) (fun s9 => s9.2) (fun s9 => ?_) (fun j151 hj151 => ?_)
        · refine x_aload_n dX12_kill_151 rfl ?_
          refine gfX12_315 rfl dX12_kill_152 (fun x10 => ?_)
          refine x_iload_n dX12_kill_155 rfl ?_
          refine x_iconst (v := 1) dX12_kill_156 (by decide) ?_
          refine x_zast dX12_kill_157 (fun M11 => ?_)
          refine x_aload_n dX12_kill_158 rfl ?_
          refine gfX12_324 rfl dX12_kill_159 (fun x12 => ?_)
          refine x_iload_n dX12_kill_162 rfl ?_
          refine x_aload_n dX12_kill_163 rfl ?_
          refine x_iload_n dX12_kill_164 rfl ?_
          refine cmX12_775 rfl hs (Nat.le_of_ble_eq_true rfl) dX12_kill_165 (fun x14 M13 => ?_)
          refine x_iast dX12_kill_168 (fun M15 => ?_)
          refine x_iload_n dX12_kill_169 rfl ?_
          exact x_iret rfl dX12_kill_170
        refine x_weak (by exact ⟨rfl, ⟨rfl, ⟨rfl, ⟨rfl, trivial⟩⟩⟩⟩) (x_lp (σ := Int32 × Int32 × Mem) 96 (fun s16 => [some (va_rf a0), some (.int a1), none, some (.int s16.1), some (.int s16.2.1)]) (fun s16 => []) (fun s16 => s16.2.2) (fun s16 j96 hj96 => ?_) 4294967296 ((0 : Int32), (0 : Int32), s7))
        · refine x_iload dX12_kill_96 rfl ?_
          refine x_aload_n dX12_kill_98 rfl ?_
          refine gfX12_106 rfl dX12_kill_99 (fun x17 => ?_)
          refine x_iload_n dX12_kill_102 rfl ?_
          refine x_iald dX12_kill_103 (fun x18 => ?_)
          refine x_icmp_ge (tgt := 151) dX12_kill_104 (by decide) (fun _ => ?_) (fun _ => ?_)
          · exact x_weak (by exact ⟨rfl, ⟨rfl, ⟨rfl, trivial⟩⟩⟩) (hj151 (s16.1, s16.2.2))
          · refine x_aload_n dX12_kill_107 rfl ?_
            refine gfX12_318 rfl dX12_kill_108 (fun x19 => ?_)
            refine x_sipush (v := 1000) dX12_kill_111 (by decide) ?_
            refine x_iload_n dX12_kill_114 rfl ?_
            refine x_imul dX12_kill_115 ?_
            refine x_iload dX12_kill_116 rfl ?_
            refine x_iadd dX12_kill_118 ?_
            refine x_aload_n dX12_kill_119 rfl ?_
            refine gfX12_321 rfl dX12_kill_120 (fun x20 => ?_)
            refine x_iload dX12_kill_123 rfl ?_
            refine x_iald dX12_kill_125 (fun x21 => ?_)
            refine x_iast dX12_kill_126 (fun M22 => ?_)
            refine x_iload_n dX12_kill_127 rfl ?_
            refine x_aload_n dX12_kill_128 rfl ?_
            refine gfX12_321 rfl dX12_kill_129 (fun x23 => ?_)
            refine x_iload dX12_kill_132 rfl ?_
            refine x_iald dX12_kill_134 (fun x24 => ?_)
            refine x_jn (σ := Int32) 143 (fun s25 => [some (va_rf a0), some (.int a1), none, none, some (.int s16.2.1)]) (fun s25 => [.int s25, .int s16.1]) (fun s25 => M22) (fun s25 => ?_) (fun j143 hj143 => ?_)
            · refine x_iadd dX12_kill_143 ?_
              refine x_ltI (fun x26 => ?_)
              refine x_istore_n (lo' := [some (va_rf a0), some (.int a1), none, some (.int x26), some (.int s16.2.1)]) dX12_kill_144 (by decide) rfl rfl ?_
              refine x_iincN (v := 1) (lo' := fun x27 => [some (va_rf a0), some (.int a1), none, some (.int x26), some (.int x27)]) (by decide) dX12_kill_145 rfl (by decide) rfl (fun _ => rfl) (fun x27 => ?_)
              refine x_goto (tgt := 96) dX12_kill_148 (by decide) ?_
              exact x_weak (by exact ⟨rfl, ⟨rfl, ⟨rfl, ⟨rfl, trivial⟩⟩⟩⟩) (hj96 (x26, x27, M22))
            refine x_if_eq (tgt := 142) dX12_kill_135 (by decide) (fun _ => ?_) (fun _ => ?_)
            · refine x_iconst (v := 0) dX12_kill_142 (by decide) ?_
              exact x_weak (by exact ⟨rfl, ⟨rfl, ⟨rfl, trivial⟩⟩⟩) (hj143 ((0 : Int32)))
            · refine x_iconst (v := 1) dX12_kill_138 (by decide) ?_
              refine x_goto (tgt := 143) dX12_kill_139 (by decide) ?_
              exact x_weak (by exact ⟨rfl, ⟨rfl, ⟨rfl, trivial⟩⟩⟩) (hj143 ((1 : Int32)))
      · refine x_aload_n dX12_kill_83 rfl ?_
        refine x_iconst (v := 0) dX12_kill_84 (by decide) ?_
        refine pfX12_647 rfl dX12_kill_85 (fun M28 => ?_)
        refine x_bipush (v := -4) dX12_kill_88 (by decide) ?_
        exact x_iret rfl dX12_kill_90
    refine x_weak (by exact ⟨rfl, ⟨rfl, ⟨rfl, ⟨rfl, trivial⟩⟩⟩⟩) (x_lp (σ := Int32 × Int32 × Mem) 31 (fun s29 => [some (va_rf a0), some (.int a1), some (.int s29.1), some (.int s29.2.1), none]) (fun s29 => []) (fun s29 => s29.2.2) (fun s29 j31 hj31 => ?_) 4294967296 (x6, (0 : Int32), M5))
    · refine x_iload_n dX12_kill_31 rfl ?_
      refine x_aload_n dX12_kill_32 rfl ?_
      refine gfX12_106 rfl dX12_kill_33 (fun x30 => ?_)
      refine x_iload_n dX12_kill_36 rfl ?_
      refine x_iald dX12_kill_37 (fun x31 => ?_)
      refine x_icmp_ge (tgt := 76) dX12_kill_38 (by decide) (fun _ => ?_) (fun _ => ?_)
      · exact x_weak (by exact ⟨rfl, ⟨rfl, trivial⟩⟩) (hj76 s29.2.2)
      · refine x_iload_n dX12_kill_41 rfl ?_
        refine x_if_lt (tgt := 76) dX12_kill_42 (by decide) (fun _ => ?_) (fun _ => ?_)
        · exact x_weak (by exact ⟨rfl, ⟨rfl, trivial⟩⟩) (hj76 s29.2.2)
        · refine x_aload_n dX12_kill_45 rfl ?_
          refine x_iload_n dX12_kill_46 rfl ?_
          refine x_aload_n dX12_kill_47 rfl ?_
          refine gfX12_109 rfl dX12_kill_48 (fun x32 => ?_)
          refine x_sipush (v := 1000) dX12_kill_51 (by decide) ?_
          refine x_iload_n dX12_kill_54 rfl ?_
          refine x_imul dX12_kill_55 ?_
          refine x_iload_n dX12_kill_56 rfl ?_
          refine x_iadd dX12_kill_57 ?_
          refine x_sald dX12_kill_58 (fun x33 => ?_)
          refine cmX12_772 rfl hs (Nat.le_of_ble_eq_true rfl) dX12_kill_59 (fun x35 M34 => ?_)
          refine x_istore_n (lo' := [some (va_rf a0), some (.int a1), some (.int x35), some (.int s29.2.1), none]) dX12_kill_62 (by decide) rfl rfl ?_
          refine x_aload_n dX12_kill_63 rfl ?_
          refine gfX12_321 rfl dX12_kill_64 (fun x36 => ?_)
          refine x_iload_n dX12_kill_67 rfl ?_
          refine x_iload_n dX12_kill_68 rfl ?_
          refine x_iast dX12_kill_69 (fun M37 => ?_)
          refine x_iincN (v := 1) (lo' := fun x38 => [some (va_rf a0), some (.int a1), some (.int x35), some (.int x38), none]) (by decide) dX12_kill_70 rfl (by decide) rfl (fun _ => rfl) (fun x38 => ?_)
          refine x_goto (tgt := 31) dX12_kill_73 (by decide) ?_
          exact x_weak (by exact ⟨rfl, ⟨rfl, ⟨rfl, ⟨rfl, trivial⟩⟩⟩⟩) (hj31 (x35, x38, M37))
theorem s283 {l : Launch} {d : Nat} {rec : Nat → List Value → Mem → XA} (hS : Nonempty XS) (hs : XSnd l xmt rec d) : Snd1 l 283 (b283 rec) d := by
  intro as M r M' h0
  unfold b283 at h0
  obtain ⟨a0, l1, e1, h1⟩ := aR_inv h0
  obtain ⟨a1, l2, e2, h2⟩ := aI_inv h1
  obtain ⟨ez, h⟩ := aZ_inv h2
  subst ez
  subst e2
  subst e1
  exact xmet (M := M) (as := [va_rf a0, .int a1]) (lo := [some (va_rf a0), some (.int a1)]) 283 xq283 xm283 (by rw [xargs_rf, xargs_i, xargs_nil]; exact ⟨rfl, ⟨rfl, trivial⟩⟩) (by rw [xargs_rf, xargs_i, xargs_nil]; exact Nat.le_of_ble_eq_true rfl) (fun S G K => x_weak (by exact ⟨rfl, ⟨rfl, trivial⟩⟩) (k283 hs a0 a1 M)) h hS
set_option maxRecDepth 100000 in
def c284_68 (rec : Nat → List Value → Mem → XA) (a0 : Option Nat) (a1 : Int32) (j125 : Int32 → XA) (s2 : Int32 × Int32 × Mem) (s5 : Int32 × Mem) : (Int32 × Int32) → ((Int32 × Int32) → XA) → XA := fun s10 j68 =>
  gtP (13, 157) s5.2 a0 33 fun x11 =>
  alI 100 s5.2 x11 a1 fun x12 =>
  if ((((1000 : Int32)) * a1) + x12) ≤ s10.2 then (
    j125 s10.1) else (
    if s10.1 = 0 then (
      j125 s10.1) else (
      gtP (13, 157) s5.2 a0 124 fun x13 =>
      alI 100 s5.2 x13 s10.2 fun x14 =>
      jn (fun (s15 : Int32) =>
        lt (s10.2 + (1 : Int32)) fun (x16 : Int32) =>
        j68 (s15, x16)) fun j117 =>
      jn (fun (s17 : Unit) =>
        j117 ((1 : Int32))) fun j112 =>
      if x14 = 0 then (
        j112 ()) else (
        gtP (13, 157) s5.2 a0 124 fun x18 =>
        alI 100 s5.2 x18 s10.2 fun x19 =>
        if (x19 &&& s2.2.1) = 0 then (
          j117 ((0 : Int32))) else (
          j112 ()))))
set_option maxRecDepth 100000 in
def c284_4 (rec : Nat → List Value → Mem → XA) (a0 : Option Nat) (a1 : Int32) (j142 : Int32 × Mem → XA) : (Int32 × Int32 × Mem) → ((Int32 × Int32 × Mem) → XA) → XA := fun s2 j4 =>
  gtP (13, 157) s2.2.2 a0 17 fun x3 =>
  alI 100 s2.2.2 x3 a1 fun x4 =>
  if (((1 : Int32)) <<< (x4 &&& 31)) ≤ s2.2.1 then (
    j142 (s2.1, s2.2.2)) else (
    jn (fun (s5 : Int32 × Mem) =>
      lt (((1000 : Int32)) * a1) fun (x6 : Int32) =>
      jn (fun (s7 : Int32) =>
        jn (fun (s8 : Int32) =>
          lt (s2.2.1 + (1 : Int32)) fun (x9 : Int32) =>
          j4 (s8, x9, s5.2)) fun j135 =>
        if s7 = 0 then (
          j135 s2.1) else (
          j135 s2.2.1)) fun j125 =>
      lp (c284_68 rec a0 a1 j125 s2 s5) 4294967296 (s5.1, x6)) fun j55 =>
    jn (fun (s20 : Mem) =>
      j55 ((1 : Int32), s20)) fun j50 =>
    if s2.1 < 0 then (
      j50 s2.2.2) else (
      cI (rec 315 [.int s2.2.1] s2.2.2) fun x22 M21 =>
      cI (rec 315 [.int s2.1] M21) fun x24 M23 =>
      if x22 < x24 then (
        j50 M23) else (
        cI (rec 315 [.int s2.2.1] M23) fun x26 M25 =>
        cI (rec 315 [.int s2.1] M25) fun x28 M27 =>
        jn (fun (s29 : Mem) =>
          j55 ((0 : Int32), s29)) fun j54 =>
        if x26 = x28 then (
          cI (rec 285 [.int s2.2.1, .int s2.1] M27) fun x31 M30 =>
          if x31 = 0 then (
            j54 M30) else (
            j50 M30)) else (
          j54 M27))))
set_option maxRecDepth 100000 in
def c284 (rec : Nat → List Value → Mem → XA) (a0 : Option Nat) (a1 : Int32) (M0 : Mem) : XA :=
  jn (fun (s1 : Int32 × Mem) =>
    some (.int s1.1, s1.2)) fun j142 =>
  lp (c284_4 rec a0 a1 j142) 4294967296 ((-1 : Int32), (0 : Int32), M0)
def b284 (rec : Nat → List Value → Mem → XA) (as : List Value) (M0 : Mem) : XA := aR as fun a0 as => aI as fun a1 as => aZ as (c284 rec a0 a1 M0)
set_option maxRecDepth 100000 in
set_option maxHeartbeats 4000000 in
theorem k284 {S : XS} {G : XG} {K : Nat × Nat} {l : Launch} {d : Nat} {rec : Nat → List Value → Mem → XA} (hs : XSnd l xmt rec d) (a0 : Option Nat) (a1 : Int32) (M0 : Mem) : Xe S G K l (yX12_leastSuite, cX12_leastSuite, 7, some .int) d 0 [some (va_rf a0), some (.int a1), none, none, none, none, none] [] M0 (c284 rec a0 a1 M0) := by
  unfold c284
  refine x_iconst (v := -1) dX12_leastSuite_0 (by decide) ?_
  refine x_istore_n (lo' := [some (va_rf a0), some (.int a1), some (.int ((-1 : Int32))), none, none, none, none]) dX12_leastSuite_1 (by decide) rfl rfl ?_
  refine x_iconst (v := 0) dX12_leastSuite_2 (by decide) ?_
  refine x_istore_n (lo' := [some (va_rf a0), some (.int a1), some (.int ((-1 : Int32))), some (.int ((0 : Int32))), none, none, none]) dX12_leastSuite_3 (by decide) rfl rfl ?_
  refine x_jn (σ := Int32 × Mem) 142 (fun s1 => [none, none, some (.int s1.1), none, none, none, none]) (fun s1 => []) (fun s1 => s1.2) (fun s1 => ?_) (fun j142 hj142 => ?_)
  · refine x_iload_n dX12_leastSuite_142 rfl ?_
    exact x_iret rfl dX12_leastSuite_143
  refine x_weak (by exact ⟨rfl, ⟨rfl, ⟨rfl, ⟨rfl, trivial⟩⟩⟩⟩) (x_lp (σ := Int32 × Int32 × Mem) 4 (fun s2 => [some (va_rf a0), some (.int a1), some (.int s2.1), some (.int s2.2.1), none, none, none]) (fun s2 => []) (fun s2 => s2.2.2) (fun s2 j4 hj4 => ?_) 4294967296 ((-1 : Int32), (0 : Int32), M0))
  · refine x_iload_n dX12_leastSuite_4 rfl ?_
    refine x_iconst (v := 1) dX12_leastSuite_5 (by decide) ?_
    refine x_aload_n dX12_leastSuite_6 rfl ?_
    refine gfX12_58 rfl dX12_leastSuite_7 (fun x3 => ?_)
    refine x_iload_n dX12_leastSuite_10 rfl ?_
    refine x_iald dX12_leastSuite_11 (fun x4 => ?_)
    refine x_ishl dX12_leastSuite_12 ?_
    refine x_icmp_ge (tgt := 142) dX12_leastSuite_13 (by decide) (fun _ => ?_) (fun _ => ?_)
    · exact x_weak (by exact ⟨rfl, trivial⟩) (hj142 (s2.1, s2.2.2))
    · refine x_iload_n dX12_leastSuite_16 rfl ?_
      refine x_jn (σ := Int32 × Mem) 55 (fun s5 => [some (va_rf a0), some (.int a1), some (.int s2.1), some (.int s2.2.1), none, none, none]) (fun s5 => [.int s5.1]) (fun s5 => s5.2) (fun s5 => ?_) (fun j55 hj55 => ?_)
      · refine x_istore (lo' := [some (va_rf a0), some (.int a1), some (.int s2.1), some (.int s2.2.1), some (.int s5.1), none, none]) dX12_leastSuite_55 (by decide) rfl rfl ?_
        refine x_iload dX12_leastSuite_57 rfl ?_
        refine x_istore (lo' := [some (va_rf a0), some (.int a1), some (.int s2.1), some (.int s2.2.1), some (.int s5.1), some (.int s5.1), none]) dX12_leastSuite_59 (by decide) rfl rfl ?_
        refine x_sipush (v := 1000) dX12_leastSuite_61 (by decide) ?_
        refine x_iload_n dX12_leastSuite_64 rfl ?_
        refine x_imul dX12_leastSuite_65 ?_
        refine x_ltI (fun x6 => ?_)
        refine x_istore (lo' := [some (va_rf a0), some (.int a1), some (.int s2.1), some (.int s2.2.1), some (.int s5.1), some (.int s5.1), some (.int x6)]) dX12_leastSuite_66 (by decide) rfl rfl ?_
        refine x_jn (σ := Int32) 125 (fun s7 => [some (va_rf a0), some (.int a1), some (.int s2.1), some (.int s2.2.1), none, some (.int s7), none]) (fun s7 => []) (fun s7 => s5.2) (fun s7 => ?_) (fun j125 hj125 => ?_)
        · refine x_iload dX12_leastSuite_125 rfl ?_
          refine x_jn (σ := Int32) 135 (fun s8 => [some (va_rf a0), some (.int a1), none, some (.int s2.2.1), none, none, none]) (fun s8 => [.int s8]) (fun s8 => s5.2) (fun s8 => ?_) (fun j135 hj135 => ?_)
          · refine x_istore_n (lo' := [some (va_rf a0), some (.int a1), some (.int s8), some (.int s2.2.1), none, none, none]) dX12_leastSuite_135 (by decide) rfl rfl ?_
            refine x_iincN (v := 1) (lo' := fun x9 => [some (va_rf a0), some (.int a1), some (.int s8), some (.int x9), none, none, none]) (by decide) dX12_leastSuite_136 rfl (by decide) rfl (fun _ => rfl) (fun x9 => ?_)
            refine x_goto (tgt := 4) dX12_leastSuite_139 (by decide) ?_
            exact x_weak (by exact ⟨rfl, ⟨rfl, ⟨rfl, ⟨rfl, trivial⟩⟩⟩⟩) (hj4 (s8, x9, s5.2))
          refine x_if_eq (tgt := 134) dX12_leastSuite_127 (by decide) (fun _ => ?_) (fun _ => ?_)
          · refine x_iload_n dX12_leastSuite_134 rfl ?_
            exact x_weak (by exact ⟨rfl, ⟨rfl, ⟨rfl, trivial⟩⟩⟩) (hj135 s2.1)
          · refine x_iload_n dX12_leastSuite_130 rfl ?_
            refine x_goto (tgt := 135) dX12_leastSuite_131 (by decide) ?_
            exact x_weak (by exact ⟨rfl, ⟨rfl, ⟨rfl, trivial⟩⟩⟩) (hj135 s2.2.1)
        refine x_weak (by exact ⟨rfl, ⟨rfl, ⟨rfl, ⟨rfl, ⟨rfl, ⟨rfl, trivial⟩⟩⟩⟩⟩⟩) (x_lp (σ := Int32 × Int32) 68 (fun s10 => [some (va_rf a0), some (.int a1), some (.int s2.1), some (.int s2.2.1), none, some (.int s10.1), some (.int s10.2)]) (fun s10 => []) (fun s10 => s5.2) (fun s10 j68 hj68 => ?_) 4294967296 (s5.1, x6))
        · refine x_iload dX12_leastSuite_68 rfl ?_
          refine x_sipush (v := 1000) dX12_leastSuite_70 (by decide) ?_
          refine x_iload_n dX12_leastSuite_73 rfl ?_
          refine x_imul dX12_leastSuite_74 ?_
          refine x_aload_n dX12_leastSuite_75 rfl ?_
          refine gfX12_106 rfl dX12_leastSuite_76 (fun x11 => ?_)
          refine x_iload_n dX12_leastSuite_79 rfl ?_
          refine x_iald dX12_leastSuite_80 (fun x12 => ?_)
          refine x_iadd dX12_leastSuite_81 ?_
          refine x_icmp_ge (tgt := 125) dX12_leastSuite_82 (by decide) (fun _ => ?_) (fun _ => ?_)
          · exact x_weak (by exact ⟨rfl, ⟨rfl, ⟨rfl, ⟨rfl, ⟨rfl, trivial⟩⟩⟩⟩⟩) (hj125 s10.1)
          · refine x_iload dX12_leastSuite_85 rfl ?_
            refine x_if_eq (tgt := 125) dX12_leastSuite_87 (by decide) (fun _ => ?_) (fun _ => ?_)
            · exact x_weak (by exact ⟨rfl, ⟨rfl, ⟨rfl, ⟨rfl, ⟨rfl, trivial⟩⟩⟩⟩⟩) (hj125 s10.1)
            · refine x_aload_n dX12_leastSuite_90 rfl ?_
              refine gfX12_318 rfl dX12_leastSuite_91 (fun x13 => ?_)
              refine x_iload dX12_leastSuite_94 rfl ?_
              refine x_iald dX12_leastSuite_96 (fun x14 => ?_)
              refine x_jn (σ := Int32) 117 (fun s15 => [some (va_rf a0), some (.int a1), some (.int s2.1), some (.int s2.2.1), none, none, some (.int s10.2)]) (fun s15 => [.int s15]) (fun s15 => s5.2) (fun s15 => ?_) (fun j117 hj117 => ?_)
              · refine x_istore (lo' := [some (va_rf a0), some (.int a1), some (.int s2.1), some (.int s2.2.1), none, some (.int s15), some (.int s10.2)]) dX12_leastSuite_117 (by decide) rfl rfl ?_
                refine x_iincN (v := 1) (lo' := fun x16 => [some (va_rf a0), some (.int a1), some (.int s2.1), some (.int s2.2.1), none, some (.int s15), some (.int x16)]) (by decide) dX12_leastSuite_119 rfl (by decide) rfl (fun _ => rfl) (fun x16 => ?_)
                refine x_goto (tgt := 68) dX12_leastSuite_122 (by decide) ?_
                exact x_weak (by exact ⟨rfl, ⟨rfl, ⟨rfl, ⟨rfl, ⟨rfl, ⟨rfl, trivial⟩⟩⟩⟩⟩⟩) (hj68 (s15, x16))
              refine x_jn (σ := Unit) 112 (fun s17 => [some (va_rf a0), some (.int a1), some (.int s2.1), some (.int s2.2.1), none, none, some (.int s10.2)]) (fun s17 => []) (fun s17 => s5.2) (fun s17 => ?_) (fun j112 hj112 => ?_)
              · refine x_iconst (v := 1) dX12_leastSuite_112 (by decide) ?_
                refine x_goto (tgt := 117) dX12_leastSuite_113 (by decide) ?_
                exact x_weak (by exact ⟨rfl, ⟨rfl, ⟨rfl, ⟨rfl, ⟨rfl, trivial⟩⟩⟩⟩⟩) (hj117 ((1 : Int32)))
              refine x_if_eq (tgt := 112) dX12_leastSuite_97 (by decide) (fun _ => ?_) (fun _ => ?_)
              · exact x_weak (by exact ⟨rfl, ⟨rfl, ⟨rfl, ⟨rfl, ⟨rfl, trivial⟩⟩⟩⟩⟩) (hj112 ())
              · refine x_aload_n dX12_leastSuite_100 rfl ?_
                refine gfX12_318 rfl dX12_leastSuite_101 (fun x18 => ?_)
                refine x_iload dX12_leastSuite_104 rfl ?_
                refine x_iald dX12_leastSuite_106 (fun x19 => ?_)
                refine x_iload_n dX12_leastSuite_107 rfl ?_
                refine x_iand dX12_leastSuite_108 ?_
                refine x_if_eq (tgt := 116) dX12_leastSuite_109 (by decide) (fun _ => ?_) (fun _ => ?_)
                · refine x_iconst (v := 0) dX12_leastSuite_116 (by decide) ?_
                  exact x_weak (by exact ⟨rfl, ⟨rfl, ⟨rfl, ⟨rfl, ⟨rfl, trivial⟩⟩⟩⟩⟩) (hj117 ((0 : Int32)))
                · exact x_weak (by exact ⟨rfl, ⟨rfl, ⟨rfl, ⟨rfl, ⟨rfl, trivial⟩⟩⟩⟩⟩) (hj112 ())
      refine x_jn (σ := Mem) 50 (fun s20 => [some (va_rf a0), some (.int a1), some (.int s2.1), some (.int s2.2.1), none, none, none]) (fun s20 => []) (fun s20 => s20) (fun s20 => ?_) (fun j50 hj50 => ?_)
      · refine x_iconst (v := 1) dX12_leastSuite_50 (by decide) ?_
        refine x_goto (tgt := 55) dX12_leastSuite_51 (by decide) ?_
        exact x_weak (by exact ⟨rfl, ⟨rfl, ⟨rfl, ⟨rfl, trivial⟩⟩⟩⟩) (hj55 ((1 : Int32), s20))
      refine x_if_lt (tgt := 50) dX12_leastSuite_17 (by decide) (fun _ => ?_) (fun _ => ?_)
      · exact x_weak (by exact ⟨rfl, ⟨rfl, ⟨rfl, ⟨rfl, trivial⟩⟩⟩⟩) (hj50 s2.2.2)
      · refine x_iload_n dX12_leastSuite_20 rfl ?_
        refine cmX12_766 rfl hs (Nat.le_of_ble_eq_true rfl) dX12_leastSuite_21 (fun x22 M21 => ?_)
        refine x_iload_n dX12_leastSuite_24 rfl ?_
        refine cmX12_766 rfl hs (Nat.le_of_ble_eq_true rfl) dX12_leastSuite_25 (fun x24 M23 => ?_)
        refine x_icmp_lt (tgt := 50) dX12_leastSuite_28 (by decide) (fun _ => ?_) (fun _ => ?_)
        · exact x_weak (by exact ⟨rfl, ⟨rfl, ⟨rfl, ⟨rfl, trivial⟩⟩⟩⟩) (hj50 M23)
        · refine x_iload_n dX12_leastSuite_31 rfl ?_
          refine cmX12_766 rfl hs (Nat.le_of_ble_eq_true rfl) dX12_leastSuite_32 (fun x26 M25 => ?_)
          refine x_iload_n dX12_leastSuite_35 rfl ?_
          refine cmX12_766 rfl hs (Nat.le_of_ble_eq_true rfl) dX12_leastSuite_36 (fun x28 M27 => ?_)
          refine x_jn (σ := Mem) 54 (fun s29 => [some (va_rf a0), some (.int a1), some (.int s2.1), some (.int s2.2.1), none, none, none]) (fun s29 => []) (fun s29 => s29) (fun s29 => ?_) (fun j54 hj54 => ?_)
          · refine x_iconst (v := 0) dX12_leastSuite_54 (by decide) ?_
            exact x_weak (by exact ⟨rfl, ⟨rfl, ⟨rfl, ⟨rfl, trivial⟩⟩⟩⟩) (hj55 ((0 : Int32), s29))
          refine x_icmp_ne (tgt := 54) dX12_leastSuite_39 (by decide) (fun _ => ?_) (fun _ => ?_)
          · refine x_iload_n dX12_leastSuite_42 rfl ?_
            refine x_iload_n dX12_leastSuite_43 rfl ?_
            refine cmX12_778 rfl hs (Nat.le_of_ble_eq_true rfl) dX12_leastSuite_44 (fun x31 M30 => ?_)
            refine x_if_eq (tgt := 54) dX12_leastSuite_47 (by decide) (fun _ => ?_) (fun _ => ?_)
            · exact x_weak (by exact ⟨rfl, ⟨rfl, ⟨rfl, ⟨rfl, trivial⟩⟩⟩⟩) (hj54 M30)
            · exact x_weak (by exact ⟨rfl, ⟨rfl, ⟨rfl, ⟨rfl, trivial⟩⟩⟩⟩) (hj50 M30)
          · exact x_weak (by exact ⟨rfl, ⟨rfl, ⟨rfl, ⟨rfl, trivial⟩⟩⟩⟩) (hj54 M27)
theorem s284 {l : Launch} {d : Nat} {rec : Nat → List Value → Mem → XA} (hS : Nonempty XS) (hs : XSnd l xmt rec d) : Snd1 l 284 (b284 rec) d := by
  intro as M r M' h0
  unfold b284 at h0
  obtain ⟨a0, l1, e1, h1⟩ := aR_inv h0
  obtain ⟨a1, l2, e2, h2⟩ := aI_inv h1
  obtain ⟨ez, h⟩ := aZ_inv h2
  subst ez
  subst e2
  subst e1
  exact xmet (M := M) (as := [va_rf a0, .int a1]) (lo := [some (va_rf a0), some (.int a1)]) 284 xq284 xm284 (by rw [xargs_rf, xargs_i, xargs_nil]; exact ⟨rfl, ⟨rfl, trivial⟩⟩) (by rw [xargs_rf, xargs_i, xargs_nil]; exact Nat.le_of_ble_eq_true rfl) (fun S G K => x_weak (by exact ⟨rfl, ⟨rfl, trivial⟩⟩) (k284 hs a0 a1 M)) h hS
