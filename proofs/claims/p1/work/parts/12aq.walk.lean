set_option maxRecDepth 100000 in
def c236 (rec : Nat → List Value → Mem → XA) (a0 : Option Nat) (a1 : Int32) (M0 : Mem) : XA :=
  jn (fun (s1 : Int32) =>
    some (.int s1, M0)) fun j29 =>
  if ((96 : Int32)) ≤ a1 then (
    gtI (13, 157) M0 a0 67 fun x2 =>
    j29 ((((96 : Int32)) * (x2 - ((1 : Int32)))) + a1)) else (
    gtI (13, 157) M0 a0 66 fun x3 =>
    j29 ((((96 : Int32)) * x3) + a1))
def b236 (rec : Nat → List Value → Mem → XA) (as : List Value) (M0 : Mem) : XA := aR as fun a0 as => aI as fun a1 as => aZ as (c236 rec a0 a1 M0)
set_option maxRecDepth 100000 in
set_option maxHeartbeats 4000000 in
theorem k236 {S : XS} {G : XG} {K : Nat × Nat} {l : Launch} {d : Nat} {rec : Nat → List Value → Mem → XA} (hs : XSnd l xmt rec d) (a0 : Option Nat) (a1 : Int32) (M0 : Mem) : Xe S G K l (yX12_rowOf, cX12_rowOf, 2, some .int) d 0 [some (va_rf a0), some (.int a1)] [] M0 (c236 rec a0 a1 M0) := by
  unfold c236
  refine x_iload_n dX12_rowOf_0 rfl ?_
  refine x_bipush (v := 96) dX12_rowOf_1 (by decide) ?_
  refine x_jn (σ := Int32) 29 (fun s1 => [none, none]) (fun s1 => [.int s1]) (fun s1 => M0) (fun s1 => ?_) (fun j29 hj29 => ?_)
  · exact x_iret rfl dX12_rowOf_29
  refine x_icmp_ge (tgt := 18) dX12_rowOf_3 (by decide) (fun _ => ?_) (fun _ => ?_)
  · refine x_bipush (v := 96) dX12_rowOf_18 (by decide) ?_
    refine x_aload_n dX12_rowOf_20 rfl ?_
    refine gfX12_603 rfl dX12_rowOf_21 (fun x2 => ?_)
    refine x_iconst (v := 1) dX12_rowOf_24 (by decide) ?_
    refine x_isub dX12_rowOf_25 ?_
    refine x_imul dX12_rowOf_26 ?_
    refine x_iload_n dX12_rowOf_27 rfl ?_
    refine x_iadd dX12_rowOf_28 ?_
    exact x_weak (by exact trivial) (hj29 ((((96 : Int32)) * (x2 - ((1 : Int32)))) + a1))
  · refine x_bipush (v := 96) dX12_rowOf_6 (by decide) ?_
    refine x_aload_n dX12_rowOf_8 rfl ?_
    refine gfX12_600 rfl dX12_rowOf_9 (fun x3 => ?_)
    refine x_imul dX12_rowOf_12 ?_
    refine x_iload_n dX12_rowOf_13 rfl ?_
    refine x_iadd dX12_rowOf_14 ?_
    refine x_goto (tgt := 29) dX12_rowOf_15 (by decide) ?_
    exact x_weak (by exact trivial) (hj29 ((((96 : Int32)) * x3) + a1))
theorem s236 {l : Launch} {d : Nat} {rec : Nat → List Value → Mem → XA} (hS : Nonempty XS) (hs : XSnd l xmt rec d) : Snd1 l 236 (b236 rec) d := by
  intro as M r M' h0
  unfold b236 at h0
  obtain ⟨a0, l1, e1, h1⟩ := aR_inv h0
  obtain ⟨a1, l2, e2, h2⟩ := aI_inv h1
  obtain ⟨ez, h⟩ := aZ_inv h2
  subst ez
  subst e2
  subst e1
  exact xmet (M := M) (as := [va_rf a0, .int a1]) (lo := [some (va_rf a0), some (.int a1)]) 236 xq236 xm236 (by rw [xargs_rf, xargs_i, xargs_nil]; exact ⟨rfl, ⟨rfl, trivial⟩⟩) (by rw [xargs_rf, xargs_i, xargs_nil]; exact Nat.le_of_ble_eq_true rfl) (fun S G K => x_weak (by exact ⟨rfl, ⟨rfl, trivial⟩⟩) (k236 hs a0 a1 M)) h hS
set_option maxRecDepth 100000 in
def c237 (rec : Nat → List Value → Mem → XA) (a0 : Option Nat) (a1 : Int32) (a2 : Int32) (a3 : Int32) (a4 : Int32) (M0 : Mem) : XA :=
  lt ((((96 : Int32)) * a1) + a2) fun (x1 : Int32) =>
  gtP (13, 157) M0 a0 11 fun x2 =>
  alL M0 x2 x1 fun x3 =>
  vC (13, 157) M0 a0 <|
  cI (rec 228 [va_rf a0, .int a3, .int a4, .long x3] M0) fun x5 M4 =>
  if 0 ≤ x5 then (
    lt ((((96 : Int32)) * a3) + x5) fun (x6 : Int32) =>
    gtP (13, 157) M4 a0 13 fun x7 =>
    alI 100 M4 x7 x6 fun x8 =>
    gtP (13, 157) M4 a0 13 fun x9 =>
    alI 100 M4 x9 x1 fun x10 =>
    if x8 = x10 then (
      gtP (13, 157) M4 a0 14 fun x11 =>
      alX 102 M4 x11 x6 fun x12 =>
      if x12 = 0 then (
        gtP (13, 157) M4 a0 13 fun x13 =>
        alI 100 M4 x13 x6 fun x14 =>
        jn (fun (s15 : Int32) =>
          some (.int s15, M4)) fun j112 =>
        jn (fun (s16 : Unit) =>
          j112 (((96 : Int32)) + x5)) fun j107 =>
        if x14 = ((4 : Int32)) then (
          gtP (13, 157) M4 a0 15 fun x17 =>
          alI 100 M4 x17 x6 fun x18 =>
          gtP (13, 157) M4 a0 15 fun x19 =>
          alI 100 M4 x19 x1 fun x20 =>
          if x18 = x20 then (
            j107 ()) else (
            j112 ((-13 : Int32)))) else (
          j107 ())) else (
        some (.int ((-12 : Int32)), M4))) else (
      some (.int ((-11 : Int32)), M4))) else (
    some (.int ((-10 : Int32)), M4))
def b237 (rec : Nat → List Value → Mem → XA) (as : List Value) (M0 : Mem) : XA := aR as fun a0 as => aI as fun a1 as => aI as fun a2 as => aI as fun a3 as => aI as fun a4 as => aZ as (c237 rec a0 a1 a2 a3 a4 M0)
set_option maxRecDepth 100000 in
set_option maxHeartbeats 4000000 in
theorem k237 {S : XS} {G : XG} {K : Nat × Nat} {l : Launch} {d : Nat} {rec : Nat → List Value → Mem → XA} (hs : XSnd l xmt rec d) (a0 : Option Nat) (a1 : Int32) (a2 : Int32) (a3 : Int32) (a4 : Int32) (M0 : Mem) : Xe S G K l (yX12_lookedUp, cX12_lookedUp, 8, some .int) d 0 [some (va_rf a0), some (.int a1), some (.int a2), some (.int a3), some (.int a4), none, none, none] [] M0 (c237 rec a0 a1 a2 a3 a4 M0) := by
  unfold c237
  refine x_bipush (v := 96) dX12_lookedUp_0 (by decide) ?_
  refine x_iload_n dX12_lookedUp_2 rfl ?_
  refine x_imul dX12_lookedUp_3 ?_
  refine x_iload_n dX12_lookedUp_4 rfl ?_
  refine x_iadd dX12_lookedUp_5 ?_
  refine x_ltI (fun x1 => ?_)
  refine x_istore (lo' := [some (va_rf a0), some (.int a1), some (.int a2), some (.int a3), some (.int a4), some (.int x1), none, none]) dX12_lookedUp_6 (by decide) rfl rfl ?_
  refine x_aload_n dX12_lookedUp_8 rfl ?_
  refine x_iload_n dX12_lookedUp_9 rfl ?_
  refine x_iload dX12_lookedUp_10 rfl ?_
  refine x_aload_n dX12_lookedUp_12 rfl ?_
  refine gfX12_39 rfl dX12_lookedUp_13 (fun x2 => ?_)
  refine x_iload dX12_lookedUp_16 rfl ?_
  refine x_lald dX12_lookedUp_18 (fun x3 => ?_)
  refine cmX12_578 rfl hs (Nat.le_of_ble_eq_true rfl) dX12_lookedUp_19 (fun x5 M4 => ?_)
  refine x_istore (lo' := [some (va_rf a0), some (.int a1), some (.int a2), some (.int a3), some (.int a4), some (.int x1), some (.int x5), none]) dX12_lookedUp_22 (by decide) rfl rfl ?_
  refine x_iload dX12_lookedUp_24 rfl ?_
  refine x_if_ge (tgt := 32) dX12_lookedUp_26 (by decide) (fun _ => ?_) (fun _ => ?_)
  · refine x_bipush (v := 96) dX12_lookedUp_32 (by decide) ?_
    refine x_iload_n dX12_lookedUp_34 rfl ?_
    refine x_imul dX12_lookedUp_35 ?_
    refine x_iload dX12_lookedUp_36 rfl ?_
    refine x_iadd dX12_lookedUp_38 ?_
    refine x_ltI (fun x6 => ?_)
    refine x_istore (lo' := [some (va_rf a0), some (.int a1), some (.int a2), some (.int a3), some (.int a4), some (.int x1), some (.int x5), some (.int x6)]) dX12_lookedUp_39 (by decide) rfl rfl ?_
    refine x_aload_n dX12_lookedUp_41 rfl ?_
    refine gfX12_45 rfl dX12_lookedUp_42 (fun x7 => ?_)
    refine x_iload dX12_lookedUp_45 rfl ?_
    refine x_iald dX12_lookedUp_47 (fun x8 => ?_)
    refine x_aload_n dX12_lookedUp_48 rfl ?_
    refine gfX12_45 rfl dX12_lookedUp_49 (fun x9 => ?_)
    refine x_iload dX12_lookedUp_52 rfl ?_
    refine x_iald dX12_lookedUp_54 (fun x10 => ?_)
    refine x_icmp_eq (tgt := 61) dX12_lookedUp_55 (by decide) (fun _ => ?_) (fun _ => ?_)
    · refine x_aload_n dX12_lookedUp_61 rfl ?_
      refine gfX12_48 rfl dX12_lookedUp_62 (fun x11 => ?_)
      refine x_iload dX12_lookedUp_65 rfl ?_
      refine x_zald dX12_lookedUp_67 (fun x12 => ?_)
      refine x_if_eq (tgt := 74) dX12_lookedUp_68 (by decide) (fun _ => ?_) (fun _ => ?_)
      · refine x_aload_n dX12_lookedUp_74 rfl ?_
        refine gfX12_45 rfl dX12_lookedUp_75 (fun x13 => ?_)
        refine x_iload dX12_lookedUp_78 rfl ?_
        refine x_iald dX12_lookedUp_80 (fun x14 => ?_)
        refine x_iconst (v := 4) dX12_lookedUp_81 (by decide) ?_
        refine x_jn (σ := Int32) 112 (fun s15 => [none, none, none, none, none, none, none, none]) (fun s15 => [.int s15]) (fun s15 => M4) (fun s15 => ?_) (fun j112 hj112 => ?_)
        · exact x_iret rfl dX12_lookedUp_112
        refine x_jn (σ := Unit) 107 (fun s16 => [none, none, none, none, none, none, some (.int x5), none]) (fun s16 => []) (fun s16 => M4) (fun s16 => ?_) (fun j107 hj107 => ?_)
        · refine x_bipush (v := 96) dX12_lookedUp_107 (by decide) ?_
          refine x_iload dX12_lookedUp_109 rfl ?_
          refine x_iadd dX12_lookedUp_111 ?_
          exact x_weak (by exact trivial) (hj112 (((96 : Int32)) + x5))
        refine x_icmp_ne (tgt := 107) dX12_lookedUp_82 (by decide) (fun _ => ?_) (fun _ => ?_)
        · refine x_aload_n dX12_lookedUp_85 rfl ?_
          refine gfX12_52 rfl dX12_lookedUp_86 (fun x17 => ?_)
          refine x_iload dX12_lookedUp_89 rfl ?_
          refine x_iald dX12_lookedUp_91 (fun x18 => ?_)
          refine x_aload_n dX12_lookedUp_92 rfl ?_
          refine gfX12_52 rfl dX12_lookedUp_93 (fun x19 => ?_)
          refine x_iload dX12_lookedUp_96 rfl ?_
          refine x_iald dX12_lookedUp_98 (fun x20 => ?_)
          refine x_icmp_eq (tgt := 107) dX12_lookedUp_99 (by decide) (fun _ => ?_) (fun _ => ?_)
          · exact x_weak (by exact ⟨rfl, trivial⟩) (hj107 ())
          · refine x_bipush (v := -13) dX12_lookedUp_102 (by decide) ?_
            refine x_goto (tgt := 112) dX12_lookedUp_104 (by decide) ?_
            exact x_weak (by exact trivial) (hj112 ((-13 : Int32)))
        · exact x_weak (by exact ⟨rfl, trivial⟩) (hj107 ())
      · refine x_bipush (v := -12) dX12_lookedUp_71 (by decide) ?_
        exact x_iret rfl dX12_lookedUp_73
    · refine x_bipush (v := -11) dX12_lookedUp_58 (by decide) ?_
      exact x_iret rfl dX12_lookedUp_60
  · refine x_bipush (v := -10) dX12_lookedUp_29 (by decide) ?_
    exact x_iret rfl dX12_lookedUp_31
theorem s237 {l : Launch} {d : Nat} {rec : Nat → List Value → Mem → XA} (hS : Nonempty XS) (hs : XSnd l xmt rec d) : Snd1 l 237 (b237 rec) d := by
  intro as M r M' h0
  unfold b237 at h0
  obtain ⟨a0, l1, e1, h1⟩ := aR_inv h0
  obtain ⟨a1, l2, e2, h2⟩ := aI_inv h1
  obtain ⟨a2, l3, e3, h3⟩ := aI_inv h2
  obtain ⟨a3, l4, e4, h4⟩ := aI_inv h3
  obtain ⟨a4, l5, e5, h5⟩ := aI_inv h4
  obtain ⟨ez, h⟩ := aZ_inv h5
  subst ez
  subst e5
  subst e4
  subst e3
  subst e2
  subst e1
  exact xmet (M := M) (as := [va_rf a0, .int a1, .int a2, .int a3, .int a4]) (lo := [some (va_rf a0), some (.int a1), some (.int a2), some (.int a3), some (.int a4)]) 237 xq237 xm237 (by rw [xargs_rf, xargs_i, xargs_i, xargs_i, xargs_i, xargs_nil]; exact ⟨rfl, ⟨rfl, ⟨rfl, ⟨rfl, ⟨rfl, trivial⟩⟩⟩⟩⟩) (by rw [xargs_rf, xargs_i, xargs_i, xargs_i, xargs_i, xargs_nil]; exact Nat.le_of_ble_eq_true rfl) (fun S G K => x_weak (by exact ⟨rfl, ⟨rfl, ⟨rfl, ⟨rfl, ⟨rfl, trivial⟩⟩⟩⟩⟩) (k237 hs a0 a1 a2 a3 a4 M)) h hS
set_option maxRecDepth 100000 in
def c238 (rec : Nat → List Value → Mem → XA) (a0 : Option Nat) (a1 : Int32) (M0 : Mem) : XA :=
  if a1 < ((1000 : Int32)) then (
    gtP (13, 157) M0 a0 31 fun x1 =>
    gtI (13, 157) M0 a0 66 fun x2 =>
    alI 100 M0 x1 ((((1000 : Int32)) * x2) + a1) fun x3 =>
    gtP (13, 157) M0 a0 68 fun x4 =>
    gtP (13, 157) M0 a0 12 fun x5 =>
    gtI (13, 157) M0 a0 66 fun x6 =>
    alI 100 M0 x5 ((((96 : Int32)) * x6) + x3) fun x7 =>
    alI 100 M0 x4 x7 fun x8 =>
    jn (fun (s9 : Int32 × Mem) =>
      some (.int s9.1, s9.2)) fun j86 =>
    if 0 ≤ x8 then (
      gtI (13, 157) M0 a0 66 fun x10 =>
      gtI (13, 157) M0 a0 67 fun x11 =>
      vC (13, 157) M0 a0 <|
      cI (rec 237 [va_rf a0, .int x10, .int x3, .int x11, .int x8] M0) fun x13 M12 =>
      j86 (x13, M12)) else (
      j86 (x3, M0))) else (
    gtP (13, 157) M0 a0 31 fun x14 =>
    gtI (13, 157) M0 a0 67 fun x15 =>
    alI 100 M0 x14 ((((1000 : Int32)) * (x15 - ((1 : Int32)))) + a1) fun x16 =>
    some (.int (((96 : Int32)) + x16), M0))
def b238 (rec : Nat → List Value → Mem → XA) (as : List Value) (M0 : Mem) : XA := aR as fun a0 as => aI as fun a1 as => aZ as (c238 rec a0 a1 M0)
set_option maxRecDepth 100000 in
set_option maxHeartbeats 4000000 in
theorem k238 {S : XS} {G : XG} {K : Nat × Nat} {l : Launch} {d : Nat} {rec : Nat → List Value → Mem → XA} (hs : XSnd l xmt rec d) (a0 : Option Nat) (a1 : Int32) (M0 : Mem) : Xe S G K l (yX12_memberAt, cX12_memberAt, 4, some .int) d 0 [some (va_rf a0), some (.int a1), none, none] [] M0 (c238 rec a0 a1 M0) := by
  unfold c238
  refine x_iload_n dX12_memberAt_0 rfl ?_
  refine x_sipush (v := 1000) dX12_memberAt_1 (by decide) ?_
  refine x_icmp_lt (tgt := 28) dX12_memberAt_4 (by decide) (fun _ => ?_) (fun _ => ?_)
  · refine x_aload_n dX12_memberAt_28 rfl ?_
    refine gfX12_100 rfl dX12_memberAt_29 (fun x1 => ?_)
    refine x_sipush (v := 1000) dX12_memberAt_32 (by decide) ?_
    refine x_aload_n dX12_memberAt_35 rfl ?_
    refine gfX12_600 rfl dX12_memberAt_36 (fun x2 => ?_)
    refine x_imul dX12_memberAt_39 ?_
    refine x_iload_n dX12_memberAt_40 rfl ?_
    refine x_iadd dX12_memberAt_41 ?_
    refine x_iald dX12_memberAt_42 (fun x3 => ?_)
    refine x_istore_n (lo' := [some (va_rf a0), some (.int a1), some (.int x3), none]) dX12_memberAt_43 (by decide) rfl rfl ?_
    refine x_aload_n dX12_memberAt_44 rfl ?_
    refine gfX12_218 rfl dX12_memberAt_45 (fun x4 => ?_)
    refine x_aload_n dX12_memberAt_48 rfl ?_
    refine gfX12_42 rfl dX12_memberAt_49 (fun x5 => ?_)
    refine x_bipush (v := 96) dX12_memberAt_52 (by decide) ?_
    refine x_aload_n dX12_memberAt_54 rfl ?_
    refine gfX12_600 rfl dX12_memberAt_55 (fun x6 => ?_)
    refine x_imul dX12_memberAt_58 ?_
    refine x_iload_n dX12_memberAt_59 rfl ?_
    refine x_iadd dX12_memberAt_60 ?_
    refine x_iald dX12_memberAt_61 (fun x7 => ?_)
    refine x_iald dX12_memberAt_62 (fun x8 => ?_)
    refine x_istore_n (lo' := [some (va_rf a0), some (.int a1), some (.int x3), some (.int x8)]) dX12_memberAt_63 (by decide) rfl rfl ?_
    refine x_iload_n dX12_memberAt_64 rfl ?_
    refine x_jn (σ := Int32 × Mem) 86 (fun s9 => [none, none, none, none]) (fun s9 => [.int s9.1]) (fun s9 => s9.2) (fun s9 => ?_) (fun j86 hj86 => ?_)
    · exact x_iret rfl dX12_memberAt_86
    refine x_if_ge (tgt := 72) dX12_memberAt_65 (by decide) (fun _ => ?_) (fun _ => ?_)
    · refine x_aload_n dX12_memberAt_72 rfl ?_
      refine x_aload_n dX12_memberAt_73 rfl ?_
      refine gfX12_600 rfl dX12_memberAt_74 (fun x10 => ?_)
      refine x_iload_n dX12_memberAt_77 rfl ?_
      refine x_aload_n dX12_memberAt_78 rfl ?_
      refine gfX12_603 rfl dX12_memberAt_79 (fun x11 => ?_)
      refine x_iload_n dX12_memberAt_82 rfl ?_
      refine cmX12_606 rfl hs (Nat.le_of_ble_eq_true rfl) dX12_memberAt_83 (fun x13 M12 => ?_)
      exact x_weak (by exact trivial) (hj86 (x13, M12))
    · refine x_iload_n dX12_memberAt_68 rfl ?_
      refine x_goto (tgt := 86) dX12_memberAt_69 (by decide) ?_
      exact x_weak (by exact trivial) (hj86 (x3, M0))
  · refine x_bipush (v := 96) dX12_memberAt_7 (by decide) ?_
    refine x_aload_n dX12_memberAt_9 rfl ?_
    refine gfX12_100 rfl dX12_memberAt_10 (fun x14 => ?_)
    refine x_sipush (v := 1000) dX12_memberAt_13 (by decide) ?_
    refine x_aload_n dX12_memberAt_16 rfl ?_
    refine gfX12_603 rfl dX12_memberAt_17 (fun x15 => ?_)
    refine x_iconst (v := 1) dX12_memberAt_20 (by decide) ?_
    refine x_isub dX12_memberAt_21 ?_
    refine x_imul dX12_memberAt_22 ?_
    refine x_iload_n dX12_memberAt_23 rfl ?_
    refine x_iadd dX12_memberAt_24 ?_
    refine x_iald dX12_memberAt_25 (fun x16 => ?_)
    refine x_iadd dX12_memberAt_26 ?_
    exact x_iret rfl dX12_memberAt_27
theorem s238 {l : Launch} {d : Nat} {rec : Nat → List Value → Mem → XA} (hS : Nonempty XS) (hs : XSnd l xmt rec d) : Snd1 l 238 (b238 rec) d := by
  intro as M r M' h0
  unfold b238 at h0
  obtain ⟨a0, l1, e1, h1⟩ := aR_inv h0
  obtain ⟨a1, l2, e2, h2⟩ := aI_inv h1
  obtain ⟨ez, h⟩ := aZ_inv h2
  subst ez
  subst e2
  subst e1
  exact xmet (M := M) (as := [va_rf a0, .int a1]) (lo := [some (va_rf a0), some (.int a1)]) 238 xq238 xm238 (by rw [xargs_rf, xargs_i, xargs_nil]; exact ⟨rfl, ⟨rfl, trivial⟩⟩) (by rw [xargs_rf, xargs_i, xargs_nil]; exact Nat.le_of_ble_eq_true rfl) (fun S G K => x_weak (by exact ⟨rfl, ⟨rfl, trivial⟩⟩) (k238 hs a0 a1 M)) h hS
set_option maxRecDepth 100000 in
def c239 (rec : Nat → List Value → Mem → XA) (a0 : Option Nat) (a1 : Int32) (a2 : Int32) (a3 : Int32) (M0 : Mem) : XA :=
  ptZ (13, 157) M0 a0 86 ((1 : Int32)) fun M1 =>
  ptI (13, 157) M1 a0 88 a1 fun M2 =>
  ptI (13, 157) M2 a0 89 a2 fun M3 =>
  ptZ (13, 157) M3 a0 87 a3 fun M4 =>
  some (.null, M4)
def b239 (rec : Nat → List Value → Mem → XA) (as : List Value) (M0 : Mem) : XA := aR as fun a0 as => aI as fun a1 as => aI as fun a2 as => aI as fun a3 as => aZ as (c239 rec a0 a1 a2 a3 M0)
set_option maxRecDepth 100000 in
set_option maxHeartbeats 4000000 in
theorem k239 {S : XS} {G : XG} {K : Nat × Nat} {l : Launch} {d : Nat} {rec : Nat → List Value → Mem → XA} (hs : XSnd l xmt rec d) (a0 : Option Nat) (a1 : Int32) (a2 : Int32) (a3 : Int32) (M0 : Mem) : Xe S G K l (yX12_fails, cX12_fails, 4, none) d 0 [some (va_rf a0), some (.int a1), some (.int a2), some (.int a3)] [] M0 (c239 rec a0 a1 a2 a3 M0) := by
  unfold c239
  refine x_aload_n dX12_fails_0 rfl ?_
  refine x_iconst (v := 1) dX12_fails_1 (by decide) ?_
  refine pfX12_610 rfl dX12_fails_2 (fun M1 => ?_)
  refine x_aload_n dX12_fails_5 rfl ?_
  refine x_iload_n dX12_fails_6 rfl ?_
  refine pfX12_613 rfl dX12_fails_7 (fun M2 => ?_)
  refine x_aload_n dX12_fails_10 rfl ?_
  refine x_iload_n dX12_fails_11 rfl ?_
  refine pfX12_616 rfl dX12_fails_12 (fun M3 => ?_)
  refine x_aload_n dX12_fails_15 rfl ?_
  refine x_iload_n dX12_fails_16 rfl ?_
  refine pfX12_619 rfl dX12_fails_17 (fun M4 => ?_)
  exact x_vret rfl dX12_fails_20
theorem s239 {l : Launch} {d : Nat} {rec : Nat → List Value → Mem → XA} (hS : Nonempty XS) (hs : XSnd l xmt rec d) : Snd1 l 239 (b239 rec) d := by
  intro as M r M' h0
  unfold b239 at h0
  obtain ⟨a0, l1, e1, h1⟩ := aR_inv h0
  obtain ⟨a1, l2, e2, h2⟩ := aI_inv h1
  obtain ⟨a2, l3, e3, h3⟩ := aI_inv h2
  obtain ⟨a3, l4, e4, h4⟩ := aI_inv h3
  obtain ⟨ez, h⟩ := aZ_inv h4
  subst ez
  subst e4
  subst e3
  subst e2
  subst e1
  exact xmet (M := M) (as := [va_rf a0, .int a1, .int a2, .int a3]) (lo := [some (va_rf a0), some (.int a1), some (.int a2), some (.int a3)]) 239 xq239 xm239 (by rw [xargs_rf, xargs_i, xargs_i, xargs_i, xargs_nil]; exact ⟨rfl, ⟨rfl, ⟨rfl, ⟨rfl, trivial⟩⟩⟩⟩) (by rw [xargs_rf, xargs_i, xargs_i, xargs_i, xargs_nil]; exact Nat.le_of_ble_eq_true rfl) (fun S G K => x_weak (by exact ⟨rfl, ⟨rfl, ⟨rfl, ⟨rfl, trivial⟩⟩⟩⟩) (k239 hs a0 a1 a2 a3 M)) h hS
set_option maxRecDepth 100000 in
def c240_174 (rec : Nat → List Value → Mem → XA) (a0 : Option Nat) (j236 : Mem → XA) (s15 : Int32) (s34 : Int32 × Mem) (x2 : Int32) (x37 : Int32) : (Int32 × Mem) → ((Int32 × Mem) → XA) → XA := fun s45 j174 =>
  gtP (13, 157) s45.2 a0 12 fun x46 =>
  alI 100 s45.2 x46 x37 fun x47 =>
  gtP (13, 157) s45.2 a0 12 fun x48 =>
  alI 100 s45.2 x48 x2 fun x49 =>
  if x47 = x49 then (
    gtP (13, 157) s45.2 a0 13 fun x50 =>
    alI 100 s45.2 x50 x37 fun x51 =>
    if x51 = ((3 : Int32)) then (
      gtP (13, 157) s45.2 a0 15 fun x52 =>
      alI 100 s45.2 x52 x37 fun x53 =>
      if x53 ≤ s45.1 then (
        j236 s45.2) else (
        gtP (13, 157) s45.2 a0 71 fun x54 =>
        asI 100 s45.2 x54 ((((50 : Int32)) * (s15 + s34.1)) + s45.1) (((0 : Int32))) fun M55 =>
        lt (s45.1 + (1 : Int32)) fun (x56 : Int32) =>
        j174 (x56, M55))) else (
      j236 s45.2)) else (
    j236 s45.2)
set_option maxRecDepth 100000 in
def c240_105 (rec : Nat → List Value → Mem → XA) (a0 : Option Nat) (j242 : Mem → XA) (s14 : Int32) (s15 : Int32) (x2 : Int32) : (Int32 × Mem) → ((Int32 × Mem) → XA) → XA := fun s34 j105 =>
  gtP (13, 157) s34.2 a0 10 fun x35 =>
  alI 100 s34.2 x35 s14 fun x36 =>
  if x36 ≤ s34.1 then (
    j242 s34.2) else (
    lt ((((96 : Int32)) * s14) + s34.1) fun (x37 : Int32) =>
    gtP (13, 157) s34.2 a0 12 fun x38 =>
    alI 100 s34.2 x38 x37 fun x39 =>
    gtP (13, 157) s34.2 a0 12 fun x40 =>
    alI 100 s34.2 x40 x2 fun x41 =>
    jn (fun (s42 : Mem) =>
      jn (fun (s43 : Mem) =>
        lt (s34.1 + (1 : Int32)) fun (x44 : Int32) =>
        j105 (x44, s43)) fun j236 =>
      lp (c240_174 rec a0 j236 s15 s34 x2 x37) 4294967296 ((0 : Int32), s42)) fun j171 =>
    if x39 = x41 then (
      gtP (13, 157) s34.2 a0 13 fun x57 =>
      alI 100 s34.2 x57 x37 fun x58 =>
      if x58 = ((1 : Int32)) then (
        gtP (13, 157) s34.2 a0 70 fun x59 =>
        gtP (13, 157) s34.2 a0 15 fun x60 =>
        alI 100 s34.2 x60 x37 fun x61 =>
        asI 100 s34.2 x59 (s15 + s34.1) x61 fun M62 =>
        j171 M62) else (
        j171 s34.2)) else (
      j171 s34.2))
set_option maxRecDepth 100000 in
def c240 (rec : Nat → List Value → Mem → XA) (a0 : Option Nat) (a1 : Int32) (a2 : Int32) (M0 : Mem) : XA :=
  vC (13, 157) M0 a0 <|
  cI (rec 236 [va_rf a0, .int a1] M0) fun x2 M1 =>
  gtP (13, 157) M1 a0 12 fun x3 =>
  alI 100 M1 x3 x2 fun x4 =>
  jn (fun (s5 : Int32) =>
    lt (x4 + s5) fun (x6 : Int32) =>
    gtP (13, 157) M1 a0 69 fun x7 =>
    alI 100 M1 x7 x6 fun x8 =>
    if x8 = ((1 : Int32)) then (
      rtZ ((1 : Int32)) M1) else (
      gtP (13, 157) M1 a0 69 fun x9 =>
      alI 100 M1 x9 x6 fun x10 =>
      if x10 = ((2 : Int32)) then (
        vC (13, 157) M1 a0 <|
        cV (rec 239 [va_rf a0, .int ((9 : Int32)), .int a2, .int ((0 : Int32))] M1) fun M11 =>
        rtZ ((0 : Int32)) M11) else (
        gtP (13, 157) M1 a0 69 fun x12 =>
        asI 100 M1 x12 x6 (((1 : Int32))) fun M13 =>
        jn (fun (s14 : Int32) =>
          jn (fun (s15 : Int32) =>
            jn (fun (s16 : Mem) =>
              gtP (13, 157) s16 a0 5 fun x17 =>
              gtP (13, 157) s16 a0 12 fun x18 =>
              alI 100 s16 x18 x2 fun x19 =>
              alI 100 s16 x17 ((((8 : Int32)) * s14) + x19) fun x20 =>
              if 0 ≤ x20 then (
                gtI (13, 157) s16 a0 76 fun x21 =>
                jn (fun (s22 : Mem) =>
                  gtP (13, 157) s22 a0 69 fun x23 =>
                  asI 100 s22 x23 x6 (((2 : Int32))) fun M24 =>
                  vC (13, 157) M24 a0 <|
                  cV (rec 239 [va_rf a0, .int ((8 : Int32)), .int a2, .int ((0 : Int32))] M24) fun M25 =>
                  rtZ ((0 : Int32)) M25) fun j327 =>
                if ((12 : Int32)) ≤ x21 then (
                  j327 s16) else (
                  jn (fun (s26 : Int32) =>
                    vC (13, 157) s16 a0 <|
                    cI (rec 243 [va_rf a0, .int (x20 + s26), .int ((0 : Int32))] s16) fun x28 M27 =>
                    gtI (13, 157) M27 a0 85 fun x29 =>
                    jn (fun (s30 : Unit) =>
                      gtI (13, 157) M27 a0 85 fun x31 =>
                      jn (fun (s32 : Int32) =>
                        rtZ s32 M27) fun j326 =>
                      if x31 = 0 then (
                        j326 ((1 : Int32))) else (
                        j326 ((0 : Int32)))) fun j314 =>
                    if x29 = 0 then (
                      gtI (13, 157) M27 a0 86 fun x33 =>
                      if x33 = 0 then (
                        j314 ()) else (
                        j327 M27)) else (
                      j314 ())) fun j293 =>
                  if ((96 : Int32)) ≤ a1 then (
                    j293 ((1000 : Int32))) else (
                    j293 ((0 : Int32))))) else (
                rtZ ((1 : Int32)) s16)) fun j242 =>
            lp (c240_105 rec a0 j242 s14 s15 x2) 4294967296 ((0 : Int32), M13)) fun j100 =>
          if ((96 : Int32)) ≤ a1 then (
            j100 ((96 : Int32))) else (
            j100 ((0 : Int32)))) fun j86 =>
        if ((96 : Int32)) ≤ a1 then (
          gtI (13, 157) M13 a0 67 fun x63 =>
          j86 x63) else (
          gtI (13, 157) M13 a0 66 fun x64 =>
          j86 x64)))) fun j24 =>
  if ((96 : Int32)) ≤ a1 then (
    j24 ((8 : Int32))) else (
    j24 ((0 : Int32)))
def b240 (rec : Nat → List Value → Mem → XA) (as : List Value) (M0 : Mem) : XA := aR as fun a0 as => aI as fun a1 as => aI as fun a2 as => aZ as (c240 rec a0 a1 a2 M0)
set_option maxRecDepth 100000 in
set_option maxHeartbeats 4000000 in
theorem k240 {S : XS} {G : XG} {K : Nat × Nat} {l : Launch} {d : Nat} {rec : Nat → List Value → Mem → XA} (hs : XSnd l xmt rec d) (a0 : Option Nat) (a1 : Int32) (a2 : Int32) (M0 : Mem) : Xe S G K l (yX12_begins, cX12_begins, 10, some .boolean) d 0 [some (va_rf a0), some (.int a1), some (.int a2), none, none, none, none, none, none, none] [] M0 (c240 rec a0 a1 a2 M0) := by
  unfold c240
  refine x_aload_n dX12_begins_0 rfl ?_
  refine x_iload_n dX12_begins_1 rfl ?_
  refine cmX12_622 rfl hs (Nat.le_of_ble_eq_true rfl) dX12_begins_2 (fun x2 M1 => ?_)
  refine x_istore_n (lo' := [some (va_rf a0), some (.int a1), some (.int a2), some (.int x2), none, none, none, none, none, none]) dX12_begins_5 (by decide) rfl rfl ?_
  refine x_aload_n dX12_begins_6 rfl ?_
  refine gfX12_42 rfl dX12_begins_7 (fun x3 => ?_)
  refine x_iload_n dX12_begins_10 rfl ?_
  refine x_iald dX12_begins_11 (fun x4 => ?_)
  refine x_iload_n dX12_begins_12 rfl ?_
  refine x_bipush (v := 96) dX12_begins_13 (by decide) ?_
  refine x_jn (σ := Int32) 24 (fun s5 => [some (va_rf a0), some (.int a1), some (.int a2), some (.int x2), none, none, none, none, none, none]) (fun s5 => [.int s5, .int x4]) (fun s5 => M1) (fun s5 => ?_) (fun j24 hj24 => ?_)
  · refine x_iadd dX12_begins_24 ?_
    refine x_ltI (fun x6 => ?_)
    refine x_istore (lo' := [some (va_rf a0), some (.int a1), some (.int a2), some (.int x2), some (.int x6), none, none, none, none, none]) dX12_begins_25 (by decide) rfl rfl ?_
    refine x_aload_n dX12_begins_27 rfl ?_
    refine gfX12_221 rfl dX12_begins_28 (fun x7 => ?_)
    refine x_iload dX12_begins_31 rfl ?_
    refine x_iald dX12_begins_33 (fun x8 => ?_)
    refine x_iconst (v := 1) dX12_begins_34 (by decide) ?_
    refine x_icmp_ne (tgt := 40) dX12_begins_35 (by decide) (fun _ => ?_) (fun _ => ?_)
    · refine x_iconst (v := 1) dX12_begins_38 (by decide) ?_
      exact x_zret rfl dX12_begins_39
    · refine x_aload_n dX12_begins_40 rfl ?_
      refine gfX12_221 rfl dX12_begins_41 (fun x9 => ?_)
      refine x_iload dX12_begins_44 rfl ?_
      refine x_iald dX12_begins_46 (fun x10 => ?_)
      refine x_iconst (v := 2) dX12_begins_47 (by decide) ?_
      refine x_icmp_ne (tgt := 61) dX12_begins_48 (by decide) (fun _ => ?_) (fun _ => ?_)
      · refine x_aload_n dX12_begins_51 rfl ?_
        refine x_bipush (v := 9) dX12_begins_52 (by decide) ?_
        refine x_iload_n dX12_begins_54 rfl ?_
        refine x_iconst (v := 0) dX12_begins_55 (by decide) ?_
        refine cmX12_625 rfl hs (Nat.le_of_ble_eq_true rfl) dX12_begins_56 (fun M11 => ?_)
        refine x_iconst (v := 0) dX12_begins_59 (by decide) ?_
        exact x_zret rfl dX12_begins_60
      · refine x_aload_n dX12_begins_61 rfl ?_
        refine gfX12_221 rfl dX12_begins_62 (fun x12 => ?_)
        refine x_iload dX12_begins_65 rfl ?_
        refine x_iconst (v := 1) dX12_begins_67 (by decide) ?_
        refine x_iast dX12_begins_68 (fun M13 => ?_)
        refine x_iload_n dX12_begins_69 rfl ?_
        refine x_bipush (v := 96) dX12_begins_70 (by decide) ?_
        refine x_jn (σ := Int32) 86 (fun s14 => [some (va_rf a0), some (.int a1), some (.int a2), some (.int x2), some (.int x6), none, none, none, none, none]) (fun s14 => [.int s14]) (fun s14 => M13) (fun s14 => ?_) (fun j86 hj86 => ?_)
        · refine x_istore (lo' := [some (va_rf a0), some (.int a1), some (.int a2), some (.int x2), some (.int x6), some (.int s14), none, none, none, none]) dX12_begins_86 (by decide) rfl rfl ?_
          refine x_iload_n dX12_begins_88 rfl ?_
          refine x_bipush (v := 96) dX12_begins_89 (by decide) ?_
          refine x_jn (σ := Int32) 100 (fun s15 => [some (va_rf a0), some (.int a1), some (.int a2), some (.int x2), some (.int x6), some (.int s14), none, none, none, none]) (fun s15 => [.int s15]) (fun s15 => M13) (fun s15 => ?_) (fun j100 hj100 => ?_)
          · refine x_istore (lo' := [some (va_rf a0), some (.int a1), some (.int a2), some (.int x2), some (.int x6), some (.int s14), some (.int s15), none, none, none]) dX12_begins_100 (by decide) rfl rfl ?_
            refine x_iconst (v := 0) dX12_begins_102 (by decide) ?_
            refine x_istore (lo' := [some (va_rf a0), some (.int a1), some (.int a2), some (.int x2), some (.int x6), some (.int s14), some (.int s15), some (.int ((0 : Int32))), none, none]) dX12_begins_103 (by decide) rfl rfl ?_
            refine x_jn (σ := Mem) 242 (fun s16 => [some (va_rf a0), some (.int a1), some (.int a2), some (.int x2), some (.int x6), some (.int s14), none, none, none, none]) (fun s16 => []) (fun s16 => s16) (fun s16 => ?_) (fun j242 hj242 => ?_)
            · refine x_aload_n dX12_begins_242 rfl ?_
              refine gfX12_21 rfl dX12_begins_243 (fun x17 => ?_)
              refine x_bipush (v := 8) dX12_begins_246 (by decide) ?_
              refine x_iload dX12_begins_248 rfl ?_
              refine x_imul dX12_begins_250 ?_
              refine x_aload_n dX12_begins_251 rfl ?_
              refine gfX12_42 rfl dX12_begins_252 (fun x18 => ?_)
              refine x_iload_n dX12_begins_255 rfl ?_
              refine x_iald dX12_begins_256 (fun x19 => ?_)
              refine x_iadd dX12_begins_257 ?_
              refine x_iald dX12_begins_258 (fun x20 => ?_)
              refine x_istore (lo' := [some (va_rf a0), some (.int a1), some (.int a2), some (.int x2), some (.int x6), some (.int s14), none, some (.int x20), none, none]) dX12_begins_259 (by decide) rfl rfl ?_
              refine x_iload dX12_begins_261 rfl ?_
              refine x_if_ge (tgt := 268) dX12_begins_263 (by decide) (fun _ => ?_) (fun _ => ?_)
              · refine x_aload_n dX12_begins_268 rfl ?_
                refine gfX12_629 rfl dX12_begins_269 (fun x21 => ?_)
                refine x_bipush (v := 12) dX12_begins_272 (by decide) ?_
                refine x_jn (σ := Mem) 327 (fun s22 => [some (va_rf a0), none, some (.int a2), none, some (.int x6), none, none, none, none, none]) (fun s22 => []) (fun s22 => s22) (fun s22 => ?_) (fun j327 hj327 => ?_)
                · refine x_aload_n dX12_begins_327 rfl ?_
                  refine gfX12_221 rfl dX12_begins_328 (fun x23 => ?_)
                  refine x_iload dX12_begins_331 rfl ?_
                  refine x_iconst (v := 2) dX12_begins_333 (by decide) ?_
                  refine x_iast dX12_begins_334 (fun M24 => ?_)
                  refine x_aload_n dX12_begins_335 rfl ?_
                  refine x_bipush (v := 8) dX12_begins_336 (by decide) ?_
                  refine x_iload_n dX12_begins_338 rfl ?_
                  refine x_iconst (v := 0) dX12_begins_339 (by decide) ?_
                  refine cmX12_625 rfl hs (Nat.le_of_ble_eq_true rfl) dX12_begins_340 (fun M25 => ?_)
                  refine x_iconst (v := 0) dX12_begins_343 (by decide) ?_
                  exact x_zret rfl dX12_begins_344
                refine x_icmp_ge (tgt := 327) dX12_begins_274 (by decide) (fun _ => ?_) (fun _ => ?_)
                · exact x_weak (by exact ⟨rfl, ⟨rfl, ⟨rfl, trivial⟩⟩⟩) (hj327 s16)
                · refine x_aload_n dX12_begins_277 rfl ?_
                  refine x_iload dX12_begins_278 rfl ?_
                  refine x_iload_n dX12_begins_280 rfl ?_
                  refine x_bipush (v := 96) dX12_begins_281 (by decide) ?_
                  refine x_jn (σ := Int32) 293 (fun s26 => [some (va_rf a0), none, some (.int a2), none, some (.int x6), none, none, none, none, none]) (fun s26 => [.int s26, .int x20, va_rf a0]) (fun s26 => s16) (fun s26 => ?_) (fun j293 hj293 => ?_)
                  · refine x_iadd dX12_begins_293 ?_
                    refine x_iconst (v := 0) dX12_begins_294 (by decide) ?_
                    refine cmX12_632 rfl hs (Nat.le_of_ble_eq_true rfl) dX12_begins_295 (fun x28 M27 => ?_)
                    refine x_istore (lo' := [some (va_rf a0), none, some (.int a2), none, some (.int x6), none, none, none, some (.int x28), none]) dX12_begins_298 (by decide) rfl rfl ?_
                    refine x_aload_n dX12_begins_300 rfl ?_
                    refine gfX12_635 rfl dX12_begins_301 (fun x29 => ?_)
                    refine x_jn (σ := Unit) 314 (fun s30 => [some (va_rf a0), none, none, none, none, none, none, none, none, none]) (fun s30 => []) (fun s30 => M27) (fun s30 => ?_) (fun j314 hj314 => ?_)
                    · refine x_aload_n dX12_begins_314 rfl ?_
                      refine gfX12_635 rfl dX12_begins_315 (fun x31 => ?_)
                      refine x_jn (σ := Int32) 326 (fun s32 => [none, none, none, none, none, none, none, none, none, none]) (fun s32 => [.int s32]) (fun s32 => M27) (fun s32 => ?_) (fun j326 hj326 => ?_)
                      · exact x_zret rfl dX12_begins_326
                      refine x_if_ne (tgt := 325) dX12_begins_318 (by decide) (fun _ => ?_) (fun _ => ?_)
                      · refine x_iconst (v := 1) dX12_begins_321 (by decide) ?_
                        refine x_goto (tgt := 326) dX12_begins_322 (by decide) ?_
                        exact x_weak (by exact trivial) (hj326 ((1 : Int32)))
                      · refine x_iconst (v := 0) dX12_begins_325 (by decide) ?_
                        exact x_weak (by exact trivial) (hj326 ((0 : Int32)))
                    refine x_if_ne (tgt := 314) dX12_begins_304 (by decide) (fun _ => ?_) (fun _ => ?_)
                    · refine x_aload_n dX12_begins_307 rfl ?_
                      refine gfX12_610 rfl dX12_begins_308 (fun x33 => ?_)
                      refine x_if_ne (tgt := 327) dX12_begins_311 (by decide) (fun _ => ?_) (fun _ => ?_)
                      · exact x_weak (by exact ⟨rfl, trivial⟩) (hj314 ())
                      · exact x_weak (by exact ⟨rfl, ⟨rfl, ⟨rfl, trivial⟩⟩⟩) (hj327 M27)
                    · exact x_weak (by exact ⟨rfl, trivial⟩) (hj314 ())
                  refine x_icmp_ge (tgt := 290) dX12_begins_283 (by decide) (fun _ => ?_) (fun _ => ?_)
                  · refine x_sipush (v := 1000) dX12_begins_290 (by decide) ?_
                    exact x_weak (by exact ⟨rfl, ⟨rfl, ⟨rfl, trivial⟩⟩⟩) (hj293 ((1000 : Int32)))
                  · refine x_iconst (v := 0) dX12_begins_286 (by decide) ?_
                    refine x_goto (tgt := 293) dX12_begins_287 (by decide) ?_
                    exact x_weak (by exact ⟨rfl, ⟨rfl, ⟨rfl, trivial⟩⟩⟩) (hj293 ((0 : Int32)))
              · refine x_iconst (v := 1) dX12_begins_266 (by decide) ?_
                exact x_zret rfl dX12_begins_267
            refine x_weak (by exact ⟨rfl, ⟨rfl, ⟨rfl, ⟨rfl, ⟨rfl, ⟨rfl, ⟨rfl, ⟨rfl, trivial⟩⟩⟩⟩⟩⟩⟩⟩) (x_lp (σ := Int32 × Mem) 105 (fun s34 => [some (va_rf a0), some (.int a1), some (.int a2), some (.int x2), some (.int x6), some (.int s14), some (.int s15), some (.int s34.1), none, none]) (fun s34 => []) (fun s34 => s34.2) (fun s34 j105 hj105 => ?_) 4294967296 ((0 : Int32), M13))
            · refine x_iload dX12_begins_105 rfl ?_
              refine x_aload_n dX12_begins_107 rfl ?_
              refine gfX12_36 rfl dX12_begins_108 (fun x35 => ?_)
              refine x_iload dX12_begins_111 rfl ?_
              refine x_iald dX12_begins_113 (fun x36 => ?_)
              refine x_icmp_ge (tgt := 242) dX12_begins_114 (by decide) (fun _ => ?_) (fun _ => ?_)
              · exact x_weak (by exact ⟨rfl, ⟨rfl, ⟨rfl, ⟨rfl, ⟨rfl, ⟨rfl, trivial⟩⟩⟩⟩⟩⟩) (hj242 s34.2)
              · refine x_bipush (v := 96) dX12_begins_117 (by decide) ?_
                refine x_iload dX12_begins_119 rfl ?_
                refine x_imul dX12_begins_121 ?_
                refine x_iload dX12_begins_122 rfl ?_
                refine x_iadd dX12_begins_124 ?_
                refine x_ltI (fun x37 => ?_)
                refine x_istore (lo' := [some (va_rf a0), some (.int a1), some (.int a2), some (.int x2), some (.int x6), some (.int s14), some (.int s15), some (.int s34.1), some (.int x37), none]) dX12_begins_125 (by decide) rfl rfl ?_
                refine x_aload_n dX12_begins_127 rfl ?_
                refine gfX12_42 rfl dX12_begins_128 (fun x38 => ?_)
                refine x_iload dX12_begins_131 rfl ?_
                refine x_iald dX12_begins_133 (fun x39 => ?_)
                refine x_aload_n dX12_begins_134 rfl ?_
                refine gfX12_42 rfl dX12_begins_135 (fun x40 => ?_)
                refine x_iload_n dX12_begins_138 rfl ?_
                refine x_iald dX12_begins_139 (fun x41 => ?_)
                refine x_jn (σ := Mem) 171 (fun s42 => [some (va_rf a0), some (.int a1), some (.int a2), some (.int x2), some (.int x6), some (.int s14), some (.int s15), some (.int s34.1), some (.int x37), none]) (fun s42 => []) (fun s42 => s42) (fun s42 => ?_) (fun j171 hj171 => ?_)
                · refine x_iconst (v := 0) dX12_begins_171 (by decide) ?_
                  refine x_istore (lo' := [some (va_rf a0), some (.int a1), some (.int a2), some (.int x2), some (.int x6), some (.int s14), some (.int s15), some (.int s34.1), some (.int x37), some (.int ((0 : Int32)))]) dX12_begins_172 (by decide) rfl rfl ?_
                  refine x_jn (σ := Mem) 236 (fun s43 => [some (va_rf a0), some (.int a1), some (.int a2), some (.int x2), some (.int x6), some (.int s14), some (.int s15), some (.int s34.1), none, none]) (fun s43 => []) (fun s43 => s43) (fun s43 => ?_) (fun j236 hj236 => ?_)
                  · refine x_iincN (v := 1) (lo' := fun x44 => [some (va_rf a0), some (.int a1), some (.int a2), some (.int x2), some (.int x6), some (.int s14), some (.int s15), some (.int x44), none, none]) (by decide) dX12_begins_236 rfl (by decide) rfl (fun _ => rfl) (fun x44 => ?_)
                    refine x_goto (tgt := 105) dX12_begins_239 (by decide) ?_
                    exact x_weak (by exact ⟨rfl, ⟨rfl, ⟨rfl, ⟨rfl, ⟨rfl, ⟨rfl, ⟨rfl, ⟨rfl, trivial⟩⟩⟩⟩⟩⟩⟩⟩) (hj105 (x44, s43))
                  refine x_weak (by exact ⟨rfl, ⟨rfl, ⟨rfl, ⟨rfl, ⟨rfl, ⟨rfl, ⟨rfl, ⟨rfl, ⟨rfl, ⟨rfl, trivial⟩⟩⟩⟩⟩⟩⟩⟩⟩⟩) (x_lp (σ := Int32 × Mem) 174 (fun s45 => [some (va_rf a0), some (.int a1), some (.int a2), some (.int x2), some (.int x6), some (.int s14), some (.int s15), some (.int s34.1), some (.int x37), some (.int s45.1)]) (fun s45 => []) (fun s45 => s45.2) (fun s45 j174 hj174 => ?_) 4294967296 ((0 : Int32), s42))
                  · refine x_aload_n dX12_begins_174 rfl ?_
                    refine gfX12_42 rfl dX12_begins_175 (fun x46 => ?_)
                    refine x_iload dX12_begins_178 rfl ?_
                    refine x_iald dX12_begins_180 (fun x47 => ?_)
                    refine x_aload_n dX12_begins_181 rfl ?_
                    refine gfX12_42 rfl dX12_begins_182 (fun x48 => ?_)
                    refine x_iload_n dX12_begins_185 rfl ?_
                    refine x_iald dX12_begins_186 (fun x49 => ?_)
                    refine x_icmp_ne (tgt := 236) dX12_begins_187 (by decide) (fun _ => ?_) (fun _ => ?_)
                    · refine x_aload_n dX12_begins_190 rfl ?_
                      refine gfX12_45 rfl dX12_begins_191 (fun x50 => ?_)
                      refine x_iload dX12_begins_194 rfl ?_
                      refine x_iald dX12_begins_196 (fun x51 => ?_)
                      refine x_iconst (v := 3) dX12_begins_197 (by decide) ?_
                      refine x_icmp_ne (tgt := 236) dX12_begins_198 (by decide) (fun _ => ?_) (fun _ => ?_)
                      · refine x_iload dX12_begins_201 rfl ?_
                        refine x_aload_n dX12_begins_203 rfl ?_
                        refine gfX12_52 rfl dX12_begins_204 (fun x52 => ?_)
                        refine x_iload dX12_begins_207 rfl ?_
                        refine x_iald dX12_begins_209 (fun x53 => ?_)
                        refine x_icmp_ge (tgt := 236) dX12_begins_210 (by decide) (fun _ => ?_) (fun _ => ?_)
                        · exact x_weak (by exact ⟨rfl, ⟨rfl, ⟨rfl, ⟨rfl, ⟨rfl, ⟨rfl, ⟨rfl, ⟨rfl, trivial⟩⟩⟩⟩⟩⟩⟩⟩) (hj236 s45.2)
                        · refine x_aload_n dX12_begins_213 rfl ?_
                          refine gfX12_227 rfl dX12_begins_214 (fun x54 => ?_)
                          refine x_bipush (v := 50) dX12_begins_217 (by decide) ?_
                          refine x_iload dX12_begins_219 rfl ?_
                          refine x_iload dX12_begins_221 rfl ?_
                          refine x_iadd dX12_begins_223 ?_
                          refine x_imul dX12_begins_224 ?_
                          refine x_iload dX12_begins_225 rfl ?_
                          refine x_iadd dX12_begins_227 ?_
                          refine x_iconst (v := 0) dX12_begins_228 (by decide) ?_
                          refine x_iast dX12_begins_229 (fun M55 => ?_)
                          refine x_iincN (v := 1) (lo' := fun x56 => [some (va_rf a0), some (.int a1), some (.int a2), some (.int x2), some (.int x6), some (.int s14), some (.int s15), some (.int s34.1), some (.int x37), some (.int x56)]) (by decide) dX12_begins_230 rfl (by decide) rfl (fun _ => rfl) (fun x56 => ?_)
                          refine x_goto (tgt := 174) dX12_begins_233 (by decide) ?_
                          exact x_weak (by exact ⟨rfl, ⟨rfl, ⟨rfl, ⟨rfl, ⟨rfl, ⟨rfl, ⟨rfl, ⟨rfl, ⟨rfl, ⟨rfl, trivial⟩⟩⟩⟩⟩⟩⟩⟩⟩⟩) (hj174 (x56, M55))
                      · exact x_weak (by exact ⟨rfl, ⟨rfl, ⟨rfl, ⟨rfl, ⟨rfl, ⟨rfl, ⟨rfl, ⟨rfl, trivial⟩⟩⟩⟩⟩⟩⟩⟩) (hj236 s45.2)
                    · exact x_weak (by exact ⟨rfl, ⟨rfl, ⟨rfl, ⟨rfl, ⟨rfl, ⟨rfl, ⟨rfl, ⟨rfl, trivial⟩⟩⟩⟩⟩⟩⟩⟩) (hj236 s45.2)
                refine x_icmp_ne (tgt := 171) dX12_begins_140 (by decide) (fun _ => ?_) (fun _ => ?_)
                · refine x_aload_n dX12_begins_143 rfl ?_
                  refine gfX12_45 rfl dX12_begins_144 (fun x57 => ?_)
                  refine x_iload dX12_begins_147 rfl ?_
                  refine x_iald dX12_begins_149 (fun x58 => ?_)
                  refine x_iconst (v := 1) dX12_begins_150 (by decide) ?_
                  refine x_icmp_ne (tgt := 171) dX12_begins_151 (by decide) (fun _ => ?_) (fun _ => ?_)
                  · refine x_aload_n dX12_begins_154 rfl ?_
                    refine gfX12_224 rfl dX12_begins_155 (fun x59 => ?_)
                    refine x_iload dX12_begins_158 rfl ?_
                    refine x_iload dX12_begins_160 rfl ?_
                    refine x_iadd dX12_begins_162 ?_
                    refine x_aload_n dX12_begins_163 rfl ?_
                    refine gfX12_52 rfl dX12_begins_164 (fun x60 => ?_)
                    refine x_iload dX12_begins_167 rfl ?_
                    refine x_iald dX12_begins_169 (fun x61 => ?_)
                    refine x_iast dX12_begins_170 (fun M62 => ?_)
                    exact x_weak (by exact ⟨rfl, ⟨rfl, ⟨rfl, ⟨rfl, ⟨rfl, ⟨rfl, ⟨rfl, ⟨rfl, ⟨rfl, trivial⟩⟩⟩⟩⟩⟩⟩⟩⟩) (hj171 M62)
                  · exact x_weak (by exact ⟨rfl, ⟨rfl, ⟨rfl, ⟨rfl, ⟨rfl, ⟨rfl, ⟨rfl, ⟨rfl, ⟨rfl, trivial⟩⟩⟩⟩⟩⟩⟩⟩⟩) (hj171 s34.2)
                · exact x_weak (by exact ⟨rfl, ⟨rfl, ⟨rfl, ⟨rfl, ⟨rfl, ⟨rfl, ⟨rfl, ⟨rfl, ⟨rfl, trivial⟩⟩⟩⟩⟩⟩⟩⟩⟩) (hj171 s34.2)
          refine x_icmp_ge (tgt := 98) dX12_begins_91 (by decide) (fun _ => ?_) (fun _ => ?_)
          · refine x_bipush (v := 96) dX12_begins_98 (by decide) ?_
            exact x_weak (by exact ⟨rfl, ⟨rfl, ⟨rfl, ⟨rfl, ⟨rfl, ⟨rfl, trivial⟩⟩⟩⟩⟩⟩) (hj100 ((96 : Int32)))
          · refine x_iconst (v := 0) dX12_begins_94 (by decide) ?_
            refine x_goto (tgt := 100) dX12_begins_95 (by decide) ?_
            exact x_weak (by exact ⟨rfl, ⟨rfl, ⟨rfl, ⟨rfl, ⟨rfl, ⟨rfl, trivial⟩⟩⟩⟩⟩⟩) (hj100 ((0 : Int32)))
        refine x_icmp_ge (tgt := 82) dX12_begins_72 (by decide) (fun _ => ?_) (fun _ => ?_)
        · refine x_aload_n dX12_begins_82 rfl ?_
          refine gfX12_603 rfl dX12_begins_83 (fun x63 => ?_)
          exact x_weak (by exact ⟨rfl, ⟨rfl, ⟨rfl, ⟨rfl, ⟨rfl, trivial⟩⟩⟩⟩⟩) (hj86 x63)
        · refine x_aload_n dX12_begins_75 rfl ?_
          refine gfX12_600 rfl dX12_begins_76 (fun x64 => ?_)
          refine x_goto (tgt := 86) dX12_begins_79 (by decide) ?_
          exact x_weak (by exact ⟨rfl, ⟨rfl, ⟨rfl, ⟨rfl, ⟨rfl, trivial⟩⟩⟩⟩⟩) (hj86 x64)
  refine x_icmp_ge (tgt := 22) dX12_begins_15 (by decide) (fun _ => ?_) (fun _ => ?_)
  · refine x_bipush (v := 8) dX12_begins_22 (by decide) ?_
    exact x_weak (by exact ⟨rfl, ⟨rfl, ⟨rfl, ⟨rfl, trivial⟩⟩⟩⟩) (hj24 ((8 : Int32)))
  · refine x_iconst (v := 0) dX12_begins_18 (by decide) ?_
    refine x_goto (tgt := 24) dX12_begins_19 (by decide) ?_
    exact x_weak (by exact ⟨rfl, ⟨rfl, ⟨rfl, ⟨rfl, trivial⟩⟩⟩⟩) (hj24 ((0 : Int32)))
theorem s240 {l : Launch} {d : Nat} {rec : Nat → List Value → Mem → XA} (hS : Nonempty XS) (hs : XSnd l xmt rec d) : Snd1 l 240 (b240 rec) d := by
  intro as M r M' h0
  unfold b240 at h0
  obtain ⟨a0, l1, e1, h1⟩ := aR_inv h0
  obtain ⟨a1, l2, e2, h2⟩ := aI_inv h1
  obtain ⟨a2, l3, e3, h3⟩ := aI_inv h2
  obtain ⟨ez, h⟩ := aZ_inv h3
  subst ez
  subst e3
  subst e2
  subst e1
  exact xmet (M := M) (as := [va_rf a0, .int a1, .int a2]) (lo := [some (va_rf a0), some (.int a1), some (.int a2)]) 240 xq240 xm240 (by rw [xargs_rf, xargs_i, xargs_i, xargs_nil]; exact ⟨rfl, ⟨rfl, ⟨rfl, trivial⟩⟩⟩) (by rw [xargs_rf, xargs_i, xargs_i, xargs_nil]; exact Nat.le_of_ble_eq_true rfl) (fun S G K => x_weak (by exact ⟨rfl, ⟨rfl, ⟨rfl, trivial⟩⟩⟩) (k240 hs a0 a1 a2 M)) h hS
set_option maxRecDepth 100000 in
def c241 (rec : Nat → List Value → Mem → XA) (a0 : Option Nat) (a1 : Int32) (M0 : Mem) : XA :=
  gtP (13, 157) M0 a0 72 fun x1 =>
  gtI (13, 157) M0 a0 73 fun x2 =>
  asI 100 M0 x1 x2 a1 fun M3 =>
  gtI (13, 157) M3 a0 73 fun x4 =>
  ptI (13, 157) M3 a0 73 (x4 + ((1 : Int32))) fun M5 =>
  some (.null, M5)
def b241 (rec : Nat → List Value → Mem → XA) (as : List Value) (M0 : Mem) : XA := aR as fun a0 as => aI as fun a1 as => aZ as (c241 rec a0 a1 M0)
set_option maxRecDepth 100000 in
set_option maxHeartbeats 4000000 in
theorem k241 {S : XS} {G : XG} {K : Nat × Nat} {l : Launch} {d : Nat} {rec : Nat → List Value → Mem → XA} (hs : XSnd l xmt rec d) (a0 : Option Nat) (a1 : Int32) (M0 : Mem) : Xe S G K l (yX12_push, cX12_push, 2, none) d 0 [some (va_rf a0), some (.int a1)] [] M0 (c241 rec a0 a1 M0) := by
  unfold c241
  refine x_aload_n dX12_push_0 rfl ?_
  refine gfX12_230 rfl dX12_push_1 (fun x1 => ?_)
  refine x_aload_n dX12_push_4 rfl ?_
  refine gfX12_638 rfl dX12_push_5 (fun x2 => ?_)
  refine x_iload_n dX12_push_8 rfl ?_
  refine x_iast dX12_push_9 (fun M3 => ?_)
  refine x_aload_n dX12_push_10 rfl ?_
  refine x_dup dX12_push_11 (xc1_r _) ?_
  refine gfX12_638 rfl dX12_push_12 (fun x4 => ?_)
  refine x_iconst (v := 1) dX12_push_15 (by decide) ?_
  refine x_iadd dX12_push_16 ?_
  refine pfX12_638 rfl dX12_push_17 (fun M5 => ?_)
  exact x_vret rfl dX12_push_20
theorem s241 {l : Launch} {d : Nat} {rec : Nat → List Value → Mem → XA} (hS : Nonempty XS) (hs : XSnd l xmt rec d) : Snd1 l 241 (b241 rec) d := by
  intro as M r M' h0
  unfold b241 at h0
  obtain ⟨a0, l1, e1, h1⟩ := aR_inv h0
  obtain ⟨a1, l2, e2, h2⟩ := aI_inv h1
  obtain ⟨ez, h⟩ := aZ_inv h2
  subst ez
  subst e2
  subst e1
  exact xmet (M := M) (as := [va_rf a0, .int a1]) (lo := [some (va_rf a0), some (.int a1)]) 241 xq241 xm241 (by rw [xargs_rf, xargs_i, xargs_nil]; exact ⟨rfl, ⟨rfl, trivial⟩⟩) (by rw [xargs_rf, xargs_i, xargs_nil]; exact Nat.le_of_ble_eq_true rfl) (fun S G K => x_weak (by exact ⟨rfl, ⟨rfl, trivial⟩⟩) (k241 hs a0 a1 M)) h hS
set_option maxRecDepth 100000 in
def c242 (rec : Nat → List Value → Mem → XA) (a0 : Option Nat) (M0 : Mem) : XA :=
  gtI (13, 157) M0 a0 73 fun x1 =>
  ptI (13, 157) M0 a0 73 (x1 - ((1 : Int32))) fun M2 =>
  gtP (13, 157) M2 a0 72 fun x3 =>
  gtI (13, 157) M2 a0 73 fun x4 =>
  alI 100 M2 x3 x4 fun x5 =>
  some (.int x5, M2)
def b242 (rec : Nat → List Value → Mem → XA) (as : List Value) (M0 : Mem) : XA := aR as fun a0 as => aZ as (c242 rec a0 M0)
set_option maxRecDepth 100000 in
set_option maxHeartbeats 4000000 in
theorem k242 {S : XS} {G : XG} {K : Nat × Nat} {l : Launch} {d : Nat} {rec : Nat → List Value → Mem → XA} (hs : XSnd l xmt rec d) (a0 : Option Nat) (M0 : Mem) : Xe S G K l (yX12_pop, cX12_pop, 1, some .int) d 0 [some (va_rf a0)] [] M0 (c242 rec a0 M0) := by
  unfold c242
  refine x_aload_n dX12_pop_0 rfl ?_
  refine x_dup dX12_pop_1 (xc1_r _) ?_
  refine gfX12_638 rfl dX12_pop_2 (fun x1 => ?_)
  refine x_iconst (v := 1) dX12_pop_5 (by decide) ?_
  refine x_isub dX12_pop_6 ?_
  refine pfX12_638 rfl dX12_pop_7 (fun M2 => ?_)
  refine x_aload_n dX12_pop_10 rfl ?_
  refine gfX12_230 rfl dX12_pop_11 (fun x3 => ?_)
  refine x_aload_n dX12_pop_14 rfl ?_
  refine gfX12_638 rfl dX12_pop_15 (fun x4 => ?_)
  refine x_iald dX12_pop_18 (fun x5 => ?_)
  exact x_iret rfl dX12_pop_19
theorem s242 {l : Launch} {d : Nat} {rec : Nat → List Value → Mem → XA} (hS : Nonempty XS) (hs : XSnd l xmt rec d) : Snd1 l 242 (b242 rec) d := by
  intro as M r M' h0
  unfold b242 at h0
  obtain ⟨a0, l1, e1, h1⟩ := aR_inv h0
  obtain ⟨ez, h⟩ := aZ_inv h1
  subst ez
  subst e1
  exact xmet (M := M) (as := [va_rf a0]) (lo := [some (va_rf a0)]) 242 xq242 xm242 (by rw [xargs_rf, xargs_nil]; exact ⟨rfl, trivial⟩) (by rw [xargs_rf, xargs_nil]; exact Nat.le_of_ble_eq_true rfl) (fun S G K => x_weak (by exact ⟨rfl, trivial⟩) (k242 hs a0 M)) h hS
set_option maxRecDepth 100000 in
def c243_89 (rec : Nat → List Value → Mem → XA) (a0 : Option Nat) (j142 : Mem → XA) (j685 : Int32 × Mem → XA) (j733 : Mem → XA) (j778 : Mem → XA) (x1 : Int32) (x7 : Int32) : (Int32 × Int32 × Mem) → ((Int32 × Int32 × Mem) → XA) → XA := fun s22 j89 =>
  gtI (13, 157) s22.2.2 a0 80 fun x23 =>
  jn (fun (s24 : Mem) =>
    gtI (13, 157) s24 a0 85 fun x25 =>
    if x25 = 0 then (
      gtI (13, 157) s24 a0 80 fun x26 =>
      ptI (13, 157) s24 a0 80 (x26 - ((1 : Int32))) fun M27 =>
      gtI (13, 157) M27 a0 81 fun x28 =>
      ptI (13, 157) M27 a0 81 (x28 + ((1 : Int32))) fun M29 =>
      gtI (13, 157) M29 a0 83 fun x30 =>
      ptI (13, 157) M29 a0 83 (x30 - ((1 : Int32))) fun M31 =>
      jn (fun (s32 : Int32) =>
        gtI (13, 157) M31 a0 91 fun x33 =>
        jn (fun (s34 : Mem) =>
          gtI (13, 157) s34 a0 90 fun x35 =>
          jn (fun (s36 : Int32) =>
            jn (fun (s37 : Int32 × Mem) =>
              jn (fun (s38 : Int32) =>
                lt (s22.2.1 + ((1 : Int32))) fun (x39 : Int32) =>
                jn (fun (s40 : Int32 × Int32 × Mem) =>
                  gtI (13, 157) s40.2.2 a0 85 fun x41 =>
                  if x41 = 0 then (
                    gtI (13, 157) s40.2.2 a0 86 fun x42 =>
                    jn (fun (s43 : Int32 × Int32 × Mem) =>
                      j89 (s43.1, s43.2.1, s43.2.2)) fun j815 =>
                    if x42 = 0 then (
                      j815 (s40.1, s40.2.1, s40.2.2)) else (
                      ptI (13, 157) s40.2.2 a0 73 x7 fun M44 =>
                      ptI (13, 157) M44 a0 76 (x1 + ((1 : Int32))) fun M45 =>
                      gtI (13, 157) M45 a0 87 fun x46 =>
                      if x46 = 0 then (
                        if s40.1 = 0 then (
                          j778 M45) else (
                          ptZ (13, 157) M45 a0 86 ((0 : Int32)) fun M47 =>
                          lt (s40.1 + (-1 : Int32)) fun (x48 : Int32) =>
                          gtI (13, 157) M47 a0 88 fun x49 =>
                          vC (13, 157) M47 a0 <|
                          cV (rec 241 [va_rf a0, .int x49] M47) fun M50 =>
                          gtP (13, 157) M50 a0 75 fun x51 =>
                          alI 100 M50 x51 ((((25 : Int32)) * x1) + x48) fun x52 =>
                          j815 (x48, x52, M50))) else (
                        j778 M45))) else (
                    j733 s40.2.2)) fun j726 =>
                swI s37.1 [
                 ((1 : Int32), (
                    gtP (13, 157) s37.2 a0 74 fun x53 =>
                    alI 100 s37.2 x53 ((((10 : Int32)) * x1) + s38) fun x54 =>
                    vC (13, 157) s37.2 a0 <|
                    cV (rec 241 [va_rf a0, .int x54] s37.2) fun M55 =>
                    j726 (s22.1, x39, M55))),
                 ((2 : Int32), (
                    gtP (13, 157) s37.2 a0 74 fun x56 =>
                    vC (13, 157) s37.2 a0 <|
                    cI (rec 242 [va_rf a0] s37.2) fun x58 M57 =>
                    asI 100 M57 x56 ((((10 : Int32)) * x1) + s38) x58 fun M59 =>
                    j726 (s22.1, x39, M59))),
                 ((3 : Int32), (
                    vC (13, 157) s37.2 a0 <|
                    cV (rec 244 [va_rf a0, .int s37.1, .int s38, .int s22.2.1] s37.2) fun M60 =>
                    j726 (s22.1, x39, M60))),
                 ((4 : Int32), (
                    vC (13, 157) s37.2 a0 <|
                    cV (rec 244 [va_rf a0, .int s37.1, .int s38, .int s22.2.1] s37.2) fun M61 =>
                    j726 (s22.1, x39, M61))),
                 ((5 : Int32), (
                    vC (13, 157) s37.2 a0 <|
                    cV (rec 244 [va_rf a0, .int s37.1, .int s38, .int s22.2.1] s37.2) fun M62 =>
                    j726 (s22.1, x39, M62))),
                 ((6 : Int32), (
                    vC (13, 157) s37.2 a0 <|
                    cV (rec 244 [va_rf a0, .int s37.1, .int s38, .int s22.2.1] s37.2) fun M63 =>
                    j726 (s22.1, x39, M63))),
                 ((7 : Int32), (
                    vC (13, 157) s37.2 a0 <|
                    cV (rec 244 [va_rf a0, .int s37.1, .int s38, .int s22.2.1] s37.2) fun M64 =>
                    j726 (s22.1, x39, M64))),
                 ((8 : Int32), (
                    j685 (s37.1, s37.2))),
                 ((9 : Int32), (
                    vC (13, 157) s37.2 a0 <|
                    cV (rec 244 [va_rf a0, .int s37.1, .int s38, .int s22.2.1] s37.2) fun M65 =>
                    j726 (s22.1, x39, M65))),
                 ((10 : Int32), (
                    vC (13, 157) s37.2 a0 <|
                    cV (rec 244 [va_rf a0, .int s37.1, .int s38, .int s22.2.1] s37.2) fun M66 =>
                    j726 (s22.1, x39, M66))),
                 ((11 : Int32), (
                    vC (13, 157) s37.2 a0 <|
                    cV (rec 244 [va_rf a0, .int s37.1, .int s38, .int s22.2.1] s37.2) fun M67 =>
                    j726 (s22.1, x39, M67))),
                 ((12 : Int32), (
                    vC (13, 157) s37.2 a0 <|
                    cV (rec 244 [va_rf a0, .int s37.1, .int s38, .int s22.2.1] s37.2) fun M68 =>
                    j726 (s22.1, x39, M68))),
                 ((13 : Int32), (
                    vC (13, 157) s37.2 a0 <|
                    cV (rec 244 [va_rf a0, .int s37.1, .int s38, .int s22.2.1] s37.2) fun M69 =>
                    j726 (s22.1, x39, M69))),
                 ((14 : Int32), (
                    vC (13, 157) s37.2 a0 <|
                    cV (rec 244 [va_rf a0, .int s37.1, .int s38, .int s22.2.1] s37.2) fun M70 =>
                    j726 (s22.1, x39, M70))),
                 ((15 : Int32), (
                    vC (13, 157) s37.2 a0 <|
                    cV (rec 244 [va_rf a0, .int s37.1, .int s38, .int s22.2.1] s37.2) fun M71 =>
                    j726 (s22.1, x39, M71))),
                 ((16 : Int32), (
                    vC (13, 157) s37.2 a0 <|
                    cV (rec 244 [va_rf a0, .int s37.1, .int s38, .int s22.2.1] s37.2) fun M72 =>
                    j726 (s22.1, x39, M72))),
                 ((17 : Int32), (
                    vC (13, 157) s37.2 a0 <|
                    cV (rec 244 [va_rf a0, .int s37.1, .int s38, .int s22.2.1] s37.2) fun M73 =>
                    j726 (s22.1, x39, M73))),
                 ((18 : Int32), (
                    vC (13, 157) s37.2 a0 <|
                    cV (rec 244 [va_rf a0, .int s37.1, .int s38, .int s22.2.1] s37.2) fun M74 =>
                    j726 (s22.1, x39, M74))),
                 ((19 : Int32), (
                    vC (13, 157) s37.2 a0 <|
                    cV (rec 244 [va_rf a0, .int s37.1, .int s38, .int s22.2.1] s37.2) fun M75 =>
                    j726 (s22.1, x39, M75))),
                 ((20 : Int32), (
                    vC (13, 157) s37.2 a0 <|
                    cV (rec 244 [va_rf a0, .int s37.1, .int s38, .int s22.2.1] s37.2) fun M76 =>
                    j726 (s22.1, x39, M76))),
                 ((21 : Int32), (
                    vC (13, 157) s37.2 a0 <|
                    cV (rec 244 [va_rf a0, .int s37.1, .int s38, .int s22.2.1] s37.2) fun M77 =>
                    j726 (s22.1, x39, M77))),
                 ((22 : Int32), (
                    vC (13, 157) s37.2 a0 <|
                    cV (rec 244 [va_rf a0, .int s37.1, .int s38, .int s22.2.1] s37.2) fun M78 =>
                    j726 (s22.1, x39, M78))),
                 ((23 : Int32), (
                    vC (13, 157) s37.2 a0 <|
                    cV (rec 244 [va_rf a0, .int s37.1, .int s38, .int s22.2.1] s37.2) fun M79 =>
                    j726 (s22.1, x39, M79))),
                 ((24 : Int32), (
                    vC (13, 157) s37.2 a0 <|
                    cI (rec 242 [va_rf a0] s37.2) fun x81 M80 =>
                    jn (fun (s82 : Int32) =>
                      j726 (s22.1, s82, M80)) fun j580 =>
                    if x81 = 0 then (
                      jn (fun (s83 : Int32) =>
                        j580 (s38 + s83)) fun j574 =>
                      if ((1000 : Int32)) ≤ s22.2.1 then (
                        j574 ((1000 : Int32))) else (
                        j574 ((0 : Int32)))) else (
                      j580 x39))),
                 ((25 : Int32), (
                    jn (fun (s84 : Int32) =>
                      lt (s38 + s84) fun (x85 : Int32) =>
                      j726 (s22.1, x85, s37.2)) fun j637 =>
                    if ((1000 : Int32)) ≤ s22.2.1 then (
                      j637 ((1000 : Int32))) else (
                      j637 ((0 : Int32))))),
                 ((26 : Int32), (
                    gtP (13, 157) s37.2 a0 75 fun x86 =>
                    jn (fun (s87 : Int32) =>
                      asI 100 s37.2 x86 ((((25 : Int32)) * x1) + s22.1) ((s38 + s87)) fun M88 =>
                      lt (s22.1 + (1 : Int32)) fun (x89 : Int32) =>
                      j726 (x89, x39, M88)) fun j671 =>
                    if ((1000 : Int32)) ≤ s22.2.1 then (
                      j671 ((1000 : Int32))) else (
                      j671 ((0 : Int32))))),
                 ((27 : Int32), (
                    lt (s22.1 + (-1 : Int32)) fun (x90 : Int32) =>
                    j726 (x90, x39, s37.2))),
                 ((28 : Int32), (
                    vC (13, 157) s37.2 a0 <|
                    cV (rec 244 [va_rf a0, .int s37.1, .int s38, .int s22.2.1] s37.2) fun M91 =>
                    j726 (s22.1, x39, M91))),
                 ((29 : Int32), (
                    vC (13, 157) s37.2 a0 <|
                    cV (rec 244 [va_rf a0, .int s37.1, .int s38, .int s22.2.1] s37.2) fun M92 =>
                    j726 (s22.1, x39, M92))),
                 ((30 : Int32), (
                    vC (13, 157) s37.2 a0 <|
                    cV (rec 244 [va_rf a0, .int s37.1, .int s38, .int s22.2.1] s37.2) fun M93 =>
                    j726 (s22.1, x39, M93))),
                 ((31 : Int32), (
                    vC (13, 157) s37.2 a0 <|
                    cI (rec 242 [va_rf a0] s37.2) fun x95 M94 =>
                    jn (fun (s96 : Int32) =>
                      j726 (s22.1, s96, M94)) fun j615 =>
                    if x95 = 0 then (
                      j615 x39) else (
                      jn (fun (s97 : Int32) =>
                        j615 (s38 + s97)) fun j609 =>
                      if ((1000 : Int32)) ≤ s22.2.1 then (
                        j609 ((1000 : Int32))) else (
                        j609 ((0 : Int32)))))),
                 ((32 : Int32), (
                    vC (13, 157) s37.2 a0 <|
                    cV (rec 244 [va_rf a0, .int s37.1, .int s38, .int s22.2.1] s37.2) fun M98 =>
                    j726 (s22.1, x39, M98))),
                 ((33 : Int32), (
                    vC (13, 157) s37.2 a0 <|
                    cV (rec 244 [va_rf a0, .int s37.1, .int s38, .int s22.2.1] s37.2) fun M99 =>
                    j726 (s22.1, x39, M99))),
                 ((34 : Int32), (
                    j685 (s37.1, s37.2)))] (
                  vC (13, 157) s37.2 a0 <|
                  cV (rec 244 [va_rf a0, .int s37.1, .int s38, .int s22.2.1] s37.2) fun M100 =>
                  j726 (s22.1, x39, M100))) fun j352 =>
              jn (fun (s101 : Unit) =>
                gtP (13, 157) s37.2 a0 31 fun x102 =>
                alI 100 s37.2 x102 s32 fun x103 =>
                j352 x103) fun j345 =>
              if s36 = 0 then (
                j345 ()) else (
                if s37.1 = 0 then (
                  gtP (13, 157) s37.2 a0 31 fun x104 =>
                  alI 100 s37.2 x104 s32 fun x105 =>
                  j352 (x105 + ((1 : Int32)))) else (
                  j345 ()))) fun j321 =>
            if s36 = 0 then (
              gtP (13, 157) s34 a0 30 fun x106 =>
              alI 101 s34 x106 s32 fun x107 =>
              j321 (x107, s34)) else (
              gtP (13, 157) s34 a0 30 fun x108 =>
              alI 101 s34 x108 s32 fun x109 =>
              cI (rec 233 [.int x109] s34) fun x111 M110 =>
              j321 (x111, M110))) fun j294 =>
          if s22.2.1 = x35 then (
            j294 ((1 : Int32))) else (
            j294 ((0 : Int32)))) fun j280 =>
        if x33 = 0 then (
          j280 M31) else (
          gtP (13, 157) M31 a0 94 fun x112 =>
          alI 100 M31 x112 s32 fun x113 =>
          asI 100 M31 x112 s32 ((x113 + ((1 : Int32)))) fun M114 =>
          gtP (13, 157) M114 a0 95 fun x115 =>
          alI 100 M114 x115 s32 fun x116 =>
          gtP (13, 157) M114 a0 96 fun x117 =>
          alI 100 M114 x117 s32 fun x118 =>
          gtI (13, 157) M114 a0 93 fun x119 =>
          jn (fun (s120 : Int32) =>
            asI 100 M114 x115 s32 ((x116 + s120)) fun M121 =>
            gtP (13, 157) M121 a0 96 fun x122 =>
            gtI (13, 157) M121 a0 93 fun x123 =>
            asI 100 M121 x122 s32 x123 fun M124 =>
            j280 M124) fun j267 =>
          if x118 = x119 then (
            j267 ((0 : Int32))) else (
            j267 ((1 : Int32))))) fun j220 =>
      if ((1000 : Int32)) ≤ s22.2.1 then (
        gtI (13, 157) M31 a0 67 fun x125 =>
        j220 ((((1000 : Int32)) * (x125 - ((1 : Int32)))) + s22.2.1)) else (
        gtI (13, 157) M31 a0 66 fun x126 =>
        j220 ((((1000 : Int32)) * x126) + s22.2.1))) else (
      j142 s24)) fun j135 =>
  if x23 = 0 then (
    ptZ (13, 157) s22.2.2 a0 85 ((1 : Int32)) fun M127 =>
    vC (13, 157) M127 a0 <|
    cV (rec 239 [va_rf a0, .int ((6 : Int32)), .int s22.2.1, .int ((1 : Int32))] M127) fun M128 =>
    j135 M128) else (
    gtI (13, 157) s22.2.2 a0 83 fun x129 =>
    if x129 = 0 then (
      ptZ (13, 157) s22.2.2 a0 84 ((1 : Int32)) fun M130 =>
      ptZ (13, 157) M130 a0 85 ((1 : Int32)) fun M131 =>
      ptZ (13, 157) M131 a0 86 ((1 : Int32)) fun M132 =>
      j135 M132) else (
      j135 s22.2.2))
set_option maxRecDepth 100000 in
def c243_18 (rec : Nat → List Value → Mem → XA) (a0 : Option Nat) (a2 : Int32) (j67 : Mem → XA) (x1 : Int32) : (Int32 × Mem) → ((Int32 × Mem) → XA) → XA := fun s133 j18 =>
  if ((10 : Int32)) ≤ s133.1 then (
    j67 s133.2) else (
    gtP (13, 157) s133.2 a0 74 fun x134 =>
    jn (fun (s135 : Int32) =>
      asI 100 s133.2 x134 ((((10 : Int32)) * x1) + s133.1) s135 fun M136 =>
      lt (s133.1 + (1 : Int32)) fun (x137 : Int32) =>
      j18 (x137, M136)) fun j60 =>
    if a2 ≤ s133.1 then (
      j60 ((0 : Int32))) else (
      gtP (13, 157) s133.2 a0 72 fun x138 =>
      gtI (13, 157) s133.2 a0 73 fun x139 =>
      alI 100 s133.2 x138 ((x139 - a2) + s133.1) fun x140 =>
      j60 x140))
set_option maxRecDepth 100000 in
def c243 (rec : Nat → List Value → Mem → XA) (a0 : Option Nat) (a1 : Int32) (a2 : Int32) (M0 : Mem) : XA :=
  gtI (13, 157) M0 a0 76 fun x1 =>
  gtI (13, 157) M0 a0 76 fun x2 =>
  ptI (13, 157) M0 a0 76 (x2 + ((1 : Int32))) fun M3 =>
  jn (fun (s4 : Mem) =>
    gtI (13, 157) s4 a0 73 fun x5 =>
    ptI (13, 157) s4 a0 73 (x5 - a2) fun M6 =>
    gtI (13, 157) M6 a0 73 fun x7 =>
    jn (fun (s8 : Mem) =>
      ptI (13, 157) s8 a0 76 x1 fun M9 =>
      ptI (13, 157) M9 a0 73 x7 fun M10 =>
      some (.int ((0 : Int32)), M10)) fun j142 =>
    jn (fun (s11 : Mem) =>
      ptI (13, 157) s11 a0 76 x1 fun M12 =>
      ptI (13, 157) M12 a0 73 x7 fun M13 =>
      some (.int ((0 : Int32)), M13)) fun j733 =>
    jn (fun (s14 : Mem) =>
      ptI (13, 157) s14 a0 76 x1 fun M15 =>
      some (.int ((0 : Int32)), M15)) fun j778 =>
    jn (fun (s16 : Int32 × Mem) =>
      vC (13, 157) s16.2 a0 <|
      cI (rec 242 [va_rf a0] s16.2) fun x18 M17 =>
      ptI (13, 157) M17 a0 76 x1 fun M19 =>
      ptI (13, 157) M19 a0 73 x7 fun M20 =>
      jn (fun (s21 : Int32) =>
        some (.int s21, M20)) fun j715 =>
      if s16.1 = ((34 : Int32)) then (
        j715 ((0 : Int32))) else (
        j715 x18)) fun j685 =>
    lp (c243_89 rec a0 j142 j685 j733 j778 x1 x7) 4294967296 ((0 : Int32), a1, M6)) fun j67 =>
  lp (c243_18 rec a0 a2 j67 x1) 4294967296 ((0 : Int32), M3)
def b243 (rec : Nat → List Value → Mem → XA) (as : List Value) (M0 : Mem) : XA := aR as fun a0 as => aI as fun a1 as => aI as fun a2 as => aZ as (c243 rec a0 a1 a2 M0)
set_option maxRecDepth 100000 in
set_option maxHeartbeats 4000000 in
theorem k243 {S : XS} {G : XG} {K : Nat × Nat} {l : Launch} {d : Nat} {rec : Nat → List Value → Mem → XA} (hs : XSnd l xmt rec d) (a0 : Option Nat) (a1 : Int32) (a2 : Int32) (M0 : Mem) : Xe S G K l (yX12_done, cX12_done, 13, some .int) d 0 [some (va_rf a0), some (.int a1), some (.int a2), none, none, none, none, none, none, none, none, none, none] [] M0 (c243 rec a0 a1 a2 M0) := by
  unfold c243
  refine x_aload_n dX12_done_0 rfl ?_
  refine gfX12_629 rfl dX12_done_1 (fun x1 => ?_)
  refine x_istore_n (lo' := [some (va_rf a0), some (.int a1), some (.int a2), some (.int x1), none, none, none, none, none, none, none, none, none]) dX12_done_4 (by decide) rfl rfl ?_
  refine x_aload_n dX12_done_5 rfl ?_
  refine x_dup dX12_done_6 (xc1_r _) ?_
  refine gfX12_629 rfl dX12_done_7 (fun x2 => ?_)
  refine x_iconst (v := 1) dX12_done_10 (by decide) ?_
  refine x_iadd dX12_done_11 ?_
  refine pfX12_629 rfl dX12_done_12 (fun M3 => ?_)
  refine x_iconst (v := 0) dX12_done_15 (by decide) ?_
  refine x_istore (lo' := [some (va_rf a0), some (.int a1), some (.int a2), some (.int x1), some (.int ((0 : Int32))), none, none, none, none, none, none, none, none]) dX12_done_16 (by decide) rfl rfl ?_
  refine x_jn (σ := Mem) 67 (fun s4 => [some (va_rf a0), some (.int a1), some (.int a2), some (.int x1), none, none, none, none, none, none, none, none, none]) (fun s4 => []) (fun s4 => s4) (fun s4 => ?_) (fun j67 hj67 => ?_)
  · refine x_aload_n dX12_done_67 rfl ?_
    refine x_dup dX12_done_68 (xc1_r _) ?_
    refine gfX12_638 rfl dX12_done_69 (fun x5 => ?_)
    refine x_iload_n dX12_done_72 rfl ?_
    refine x_isub dX12_done_73 ?_
    refine pfX12_638 rfl dX12_done_74 (fun M6 => ?_)
    refine x_aload_n dX12_done_77 rfl ?_
    refine gfX12_638 rfl dX12_done_78 (fun x7 => ?_)
    refine x_istore (lo' := [some (va_rf a0), some (.int a1), some (.int a2), some (.int x1), some (.int x7), none, none, none, none, none, none, none, none]) dX12_done_81 (by decide) rfl rfl ?_
    refine x_iconst (v := 0) dX12_done_83 (by decide) ?_
    refine x_istore (lo' := [some (va_rf a0), some (.int a1), some (.int a2), some (.int x1), some (.int x7), some (.int ((0 : Int32))), none, none, none, none, none, none, none]) dX12_done_84 (by decide) rfl rfl ?_
    refine x_iload_n dX12_done_86 rfl ?_
    refine x_istore (lo' := [some (va_rf a0), some (.int a1), some (.int a2), some (.int x1), some (.int x7), some (.int ((0 : Int32))), some (.int a1), none, none, none, none, none, none]) dX12_done_87 (by decide) rfl rfl ?_
    refine x_jn (σ := Mem) 142 (fun s8 => [some (va_rf a0), none, none, some (.int x1), some (.int x7), none, none, none, none, none, none, none, none]) (fun s8 => []) (fun s8 => s8) (fun s8 => ?_) (fun j142 hj142 => ?_)
    · refine x_aload_n dX12_done_142 rfl ?_
      refine x_iload_n dX12_done_143 rfl ?_
      refine pfX12_629 rfl dX12_done_144 (fun M9 => ?_)
      refine x_aload_n dX12_done_147 rfl ?_
      refine x_iload dX12_done_148 rfl ?_
      refine pfX12_638 rfl dX12_done_150 (fun M10 => ?_)
      refine x_iconst (v := 0) dX12_done_153 (by decide) ?_
      exact x_iret rfl dX12_done_154
    refine x_jn (σ := Mem) 733 (fun s11 => [some (va_rf a0), none, none, some (.int x1), some (.int x7), none, none, none, none, none, none, none, none]) (fun s11 => []) (fun s11 => s11) (fun s11 => ?_) (fun j733 hj733 => ?_)
    · refine x_aload_n dX12_done_733 rfl ?_
      refine x_iload_n dX12_done_734 rfl ?_
      refine pfX12_629 rfl dX12_done_735 (fun M12 => ?_)
      refine x_aload_n dX12_done_738 rfl ?_
      refine x_iload dX12_done_739 rfl ?_
      refine pfX12_638 rfl dX12_done_741 (fun M13 => ?_)
      refine x_iconst (v := 0) dX12_done_744 (by decide) ?_
      exact x_iret rfl dX12_done_745
    refine x_jn (σ := Mem) 778 (fun s14 => [some (va_rf a0), none, none, some (.int x1), none, none, none, none, none, none, none, none, none]) (fun s14 => []) (fun s14 => s14) (fun s14 => ?_) (fun j778 hj778 => ?_)
    · refine x_aload_n dX12_done_778 rfl ?_
      refine x_iload_n dX12_done_779 rfl ?_
      refine pfX12_629 rfl dX12_done_780 (fun M15 => ?_)
      refine x_iconst (v := 0) dX12_done_783 (by decide) ?_
      exact x_iret rfl dX12_done_784
    refine x_jn (σ := Int32 × Mem) 685 (fun s16 => [some (va_rf a0), none, none, some (.int x1), some (.int x7), none, none, none, none, some (.int s16.1), none, none, none]) (fun s16 => []) (fun s16 => s16.2) (fun s16 => ?_) (fun j685 hj685 => ?_)
    · refine x_aload_n dX12_done_685 rfl ?_
      refine cmX12_662 rfl hs (Nat.le_of_ble_eq_true rfl) dX12_done_686 (fun x18 M17 => ?_)
      refine x_istore (lo' := [some (va_rf a0), none, none, some (.int x1), some (.int x7), none, none, none, none, some (.int s16.1), none, none, some (.int x18)]) dX12_done_689 (by decide) rfl rfl ?_
      refine x_aload_n dX12_done_691 rfl ?_
      refine x_iload_n dX12_done_692 rfl ?_
      refine pfX12_629 rfl dX12_done_693 (fun M19 => ?_)
      refine x_aload_n dX12_done_696 rfl ?_
      refine x_iload dX12_done_697 rfl ?_
      refine pfX12_638 rfl dX12_done_699 (fun M20 => ?_)
      refine x_iload dX12_done_702 rfl ?_
      refine x_bipush (v := 34) dX12_done_704 (by decide) ?_
      refine x_jn (σ := Int32) 715 (fun s21 => [none, none, none, none, none, none, none, none, none, none, none, none, none]) (fun s21 => [.int s21]) (fun s21 => M20) (fun s21 => ?_) (fun j715 hj715 => ?_)
      · exact x_iret rfl dX12_done_715
      refine x_icmp_ne (tgt := 713) dX12_done_706 (by decide) (fun _ => ?_) (fun _ => ?_)
      · refine x_iconst (v := 0) dX12_done_709 (by decide) ?_
        refine x_goto (tgt := 715) dX12_done_710 (by decide) ?_
        exact x_weak (by exact trivial) (hj715 ((0 : Int32)))
      · refine x_iload dX12_done_713 rfl ?_
        exact x_weak (by exact trivial) (hj715 x18)
    refine x_weak (by exact ⟨rfl, ⟨rfl, ⟨rfl, ⟨rfl, ⟨rfl, trivial⟩⟩⟩⟩⟩) (x_lp (σ := Int32 × Int32 × Mem) 89 (fun s22 => [some (va_rf a0), none, none, some (.int x1), some (.int x7), some (.int s22.1), some (.int s22.2.1), none, none, none, none, none, none]) (fun s22 => []) (fun s22 => s22.2.2) (fun s22 j89 hj89 => ?_) 4294967296 ((0 : Int32), a1, M6))
    · refine x_aload_n dX12_done_89 rfl ?_
      refine gfX12_641 rfl dX12_done_90 (fun x23 => ?_)
      refine x_jn (σ := Mem) 135 (fun s24 => [some (va_rf a0), none, none, some (.int x1), some (.int x7), some (.int s22.1), some (.int s22.2.1), none, none, none, none, none, none]) (fun s24 => []) (fun s24 => s24) (fun s24 => ?_) (fun j135 hj135 => ?_)
      · refine x_aload_n dX12_done_135 rfl ?_
        refine gfX12_635 rfl dX12_done_136 (fun x25 => ?_)
        refine x_if_eq (tgt := 155) dX12_done_139 (by decide) (fun _ => ?_) (fun _ => ?_)
        · refine x_aload_n dX12_done_155 rfl ?_
          refine x_dup dX12_done_156 (xc1_r _) ?_
          refine gfX12_641 rfl dX12_done_157 (fun x26 => ?_)
          refine x_iconst (v := 1) dX12_done_160 (by decide) ?_
          refine x_isub dX12_done_161 ?_
          refine pfX12_641 rfl dX12_done_162 (fun M27 => ?_)
          refine x_aload_n dX12_done_165 rfl ?_
          refine x_dup dX12_done_166 (xc1_r _) ?_
          refine gfX12_650 rfl dX12_done_167 (fun x28 => ?_)
          refine x_iconst (v := 1) dX12_done_170 (by decide) ?_
          refine x_iadd dX12_done_171 ?_
          refine pfX12_650 rfl dX12_done_172 (fun M29 => ?_)
          refine x_aload_n dX12_done_175 rfl ?_
          refine x_dup dX12_done_176 (xc1_r _) ?_
          refine gfX12_644 rfl dX12_done_177 (fun x30 => ?_)
          refine x_iconst (v := 1) dX12_done_180 (by decide) ?_
          refine x_isub dX12_done_181 ?_
          refine pfX12_644 rfl dX12_done_182 (fun M31 => ?_)
          refine x_iload dX12_done_185 rfl ?_
          refine x_sipush (v := 1000) dX12_done_187 (by decide) ?_
          refine x_jn (σ := Int32) 220 (fun s32 => [some (va_rf a0), none, none, some (.int x1), some (.int x7), some (.int s22.1), some (.int s22.2.1), none, none, none, none, none, none]) (fun s32 => [.int s32]) (fun s32 => M31) (fun s32 => ?_) (fun j220 hj220 => ?_)
          · refine x_istore (lo' := [some (va_rf a0), none, none, some (.int x1), some (.int x7), some (.int s22.1), some (.int s22.2.1), some (.int s32), none, none, none, none, none]) dX12_done_220 (by decide) rfl rfl ?_
            refine x_aload_n dX12_done_222 rfl ?_
            refine gfX12_653 rfl dX12_done_223 (fun x33 => ?_)
            refine x_jn (σ := Mem) 280 (fun s34 => [some (va_rf a0), none, none, some (.int x1), some (.int x7), some (.int s22.1), some (.int s22.2.1), some (.int s32), none, none, none, none, none]) (fun s34 => []) (fun s34 => s34) (fun s34 => ?_) (fun j280 hj280 => ?_)
            · refine x_iload dX12_done_280 rfl ?_
              refine x_aload_n dX12_done_282 rfl ?_
              refine gfX12_246 rfl dX12_done_283 (fun x35 => ?_)
              refine x_jn (σ := Int32) 294 (fun s36 => [some (va_rf a0), none, none, some (.int x1), some (.int x7), some (.int s22.1), some (.int s22.2.1), some (.int s32), none, none, none, none, none]) (fun s36 => [.int s36]) (fun s36 => s34) (fun s36 => ?_) (fun j294 hj294 => ?_)
              · refine x_istore (lo' := [some (va_rf a0), none, none, some (.int x1), some (.int x7), some (.int s22.1), some (.int s22.2.1), some (.int s32), some (.int s36), none, none, none, none]) dX12_done_294 (by decide) rfl rfl ?_
                refine x_iload dX12_done_296 rfl ?_
                refine x_jn (σ := Int32 × Mem) 321 (fun s37 => [some (va_rf a0), none, none, some (.int x1), some (.int x7), some (.int s22.1), some (.int s22.2.1), some (.int s32), some (.int s36), none, none, none, none]) (fun s37 => [.int s37.1]) (fun s37 => s37.2) (fun s37 => ?_) (fun j321 hj321 => ?_)
                · refine x_istore (lo' := [some (va_rf a0), none, none, some (.int x1), some (.int x7), some (.int s22.1), some (.int s22.2.1), some (.int s32), some (.int s36), some (.int s37.1), none, none, none]) dX12_done_321 (by decide) rfl rfl ?_
                  refine x_iload dX12_done_323 rfl ?_
                  refine x_jn (σ := Int32) 352 (fun s38 => [some (va_rf a0), none, none, some (.int x1), some (.int x7), some (.int s22.1), some (.int s22.2.1), none, none, some (.int s37.1), none, none, none]) (fun s38 => [.int s38]) (fun s38 => s37.2) (fun s38 => ?_) (fun j352 hj352 => ?_)
                  · refine x_istore (lo' := [some (va_rf a0), none, none, some (.int x1), some (.int x7), some (.int s22.1), some (.int s22.2.1), none, none, some (.int s37.1), some (.int s38), none, none]) dX12_done_352 (by decide) rfl rfl ?_
                    refine x_iload dX12_done_354 rfl ?_
                    refine x_iconst (v := 1) dX12_done_356 (by decide) ?_
                    refine x_iadd dX12_done_357 ?_
                    refine x_ltI (fun x39 => ?_)
                    refine x_istore (lo' := [some (va_rf a0), none, none, some (.int x1), some (.int x7), some (.int s22.1), some (.int s22.2.1), none, none, some (.int s37.1), some (.int s38), some (.int x39), none]) dX12_done_358 (by decide) rfl rfl ?_
                    refine x_iload dX12_done_360 rfl ?_
                    refine x_jn (σ := Int32 × Int32 × Mem) 726 (fun s40 => [some (va_rf a0), none, none, some (.int x1), some (.int x7), some (.int s40.1), none, none, none, none, none, some (.int s40.2.1), none]) (fun s40 => []) (fun s40 => s40.2.2) (fun s40 => ?_) (fun j726 hj726 => ?_)
                    · refine x_aload_n dX12_done_726 rfl ?_
                      refine gfX12_635 rfl dX12_done_727 (fun x41 => ?_)
                      refine x_if_eq (tgt := 746) dX12_done_730 (by decide) (fun _ => ?_) (fun _ => ?_)
                      · refine x_aload_n dX12_done_746 rfl ?_
                        refine gfX12_610 rfl dX12_done_747 (fun x42 => ?_)
                        refine x_jn (σ := Int32 × Int32 × Mem) 815 (fun s43 => [some (va_rf a0), none, none, some (.int x1), some (.int x7), some (.int s43.1), none, none, none, none, none, some (.int s43.2.1), none]) (fun s43 => []) (fun s43 => s43.2.2) (fun s43 => ?_) (fun j815 hj815 => ?_)
                        · refine x_iload dX12_done_815 rfl ?_
                          refine x_istore (lo' := [some (va_rf a0), none, none, some (.int x1), some (.int x7), some (.int s43.1), some (.int s43.2.1), none, none, none, none, some (.int s43.2.1), none]) dX12_done_817 (by decide) rfl rfl ?_
                          refine x_goto (tgt := 89) dX12_done_819 (by decide) ?_
                          exact x_weak (by exact ⟨rfl, ⟨rfl, ⟨rfl, ⟨rfl, ⟨rfl, trivial⟩⟩⟩⟩⟩) (hj89 (s43.1, s43.2.1, s43.2.2))
                        refine x_if_eq (tgt := 815) dX12_done_750 (by decide) (fun _ => ?_) (fun _ => ?_)
                        · exact x_weak (by exact ⟨rfl, ⟨rfl, ⟨rfl, ⟨rfl, ⟨rfl, trivial⟩⟩⟩⟩⟩) (hj815 (s40.1, s40.2.1, s40.2.2))
                        · refine x_aload_n dX12_done_753 rfl ?_
                          refine x_iload dX12_done_754 rfl ?_
                          refine pfX12_638 rfl dX12_done_756 (fun M44 => ?_)
                          refine x_aload_n dX12_done_759 rfl ?_
                          refine x_iload_n dX12_done_760 rfl ?_
                          refine x_iconst (v := 1) dX12_done_761 (by decide) ?_
                          refine x_iadd dX12_done_762 ?_
                          refine pfX12_629 rfl dX12_done_763 (fun M45 => ?_)
                          refine x_aload_n dX12_done_766 rfl ?_
                          refine gfX12_619 rfl dX12_done_767 (fun x46 => ?_)
                          refine x_if_ne (tgt := 778) dX12_done_770 (by decide) (fun _ => ?_) (fun _ => ?_)
                          · refine x_iload dX12_done_773 rfl ?_
                            refine x_if_ne (tgt := 785) dX12_done_775 (by decide) (fun _ => ?_) (fun _ => ?_)
                            · exact x_weak (by exact ⟨rfl, ⟨rfl, trivial⟩⟩) (hj778 M45)
                            · refine x_aload_n dX12_done_785 rfl ?_
                              refine x_iconst (v := 0) dX12_done_786 (by decide) ?_
                              refine pfX12_610 rfl dX12_done_787 (fun M47 => ?_)
                              refine x_iincN (v := -1) (lo' := fun x48 => [some (va_rf a0), none, none, some (.int x1), some (.int x7), some (.int x48), none, none, none, none, none, some (.int s40.2.1), none]) (by decide) dX12_done_790 rfl (by decide) rfl (fun _ => rfl) (fun x48 => ?_)
                              refine x_aload_n dX12_done_793 rfl ?_
                              refine x_aload_n dX12_done_794 rfl ?_
                              refine gfX12_613 rfl dX12_done_795 (fun x49 => ?_)
                              refine cmX12_659 rfl hs (Nat.le_of_ble_eq_true rfl) dX12_done_798 (fun M50 => ?_)
                              refine x_aload_n dX12_done_801 rfl ?_
                              refine gfX12_236 rfl dX12_done_802 (fun x51 => ?_)
                              refine x_bipush (v := 25) dX12_done_805 (by decide) ?_
                              refine x_iload_n dX12_done_807 rfl ?_
                              refine x_imul dX12_done_808 ?_
                              refine x_iload dX12_done_809 rfl ?_
                              refine x_iadd dX12_done_811 ?_
                              refine x_iald dX12_done_812 (fun x52 => ?_)
                              refine x_istore (lo' := [some (va_rf a0), none, none, some (.int x1), some (.int x7), some (.int x48), none, none, none, none, none, some (.int x52), none]) dX12_done_813 (by decide) rfl rfl ?_
                              exact x_weak (by exact ⟨rfl, ⟨rfl, ⟨rfl, ⟨rfl, ⟨rfl, trivial⟩⟩⟩⟩⟩) (hj815 (x48, x52, M50))
                          · exact x_weak (by exact ⟨rfl, ⟨rfl, trivial⟩⟩) (hj778 M45)
                      · exact x_weak (by exact ⟨rfl, ⟨rfl, ⟨rfl, trivial⟩⟩⟩) (hj733 s40.2.2)
                    refine x_table (tgt := 716) dX12_done_362 [(1, 512), (2, 531), (3, 716), (4, 716), (5, 716), (6, 716), (7, 716), (8, 685), (9, 716), (10, 716), (11, 716), (12, 716), (13, 716), (14, 716), (15, 716), (16, 716), (17, 716), (18, 716), (19, 716), (20, 716), (21, 716), (22, 716), (23, 716), (24, 550), (25, 620), (26, 643), (27, 679), (28, 716), (29, 716), (30, 716), (31, 585), (32, 716), (33, 716), (34, 685)] (by decide +kernel) (by decide +kernel) (by decide) ?_ ?_
                    · refine swG_d (by decide) ?_ (swG_d (by decide) ?_ (swG_d (by decide) ?_ (swG_d (by decide) ?_ (swG_d (by decide) ?_ (swG_d (by decide) ?_ (swG_d (by decide) ?_ (swG_d (by decide) ?_ (swG_d (by decide) ?_ (swG_d (by decide) ?_ (swG_d (by decide) ?_ (swG_d (by decide) ?_ (swG_d (by decide) ?_ (swG_d (by decide) ?_ (swG_d (by decide) ?_ (swG_d (by decide) ?_ (swG_d (by decide) ?_ (swG_d (by decide) ?_ (swG_d (by decide) ?_ (swG_d (by decide) ?_ (swG_d (by decide) ?_ (swG_d (by decide) ?_ (swG_d (by decide) ?_ (swG_d (by decide) ?_ (swG_d (by decide) ?_ (swG_d (by decide) ?_ (swG_d (by decide) ?_ (swG_d (by decide) ?_ (swG_d (by decide) ?_ (swG_d (by decide) ?_ (swG_d (by decide) ?_ (swG_d (by decide) ?_ (swG_d (by decide) ?_ (swG_d (by decide) ?_ (trivial))))))))))))))))))))))))))))))))))
                      · refine x_aload_n dX12_done_512 rfl ?_
                        refine x_aload_n dX12_done_513 rfl ?_
                        refine gfX12_233 rfl dX12_done_514 (fun x53 => ?_)
                        refine x_bipush (v := 10) dX12_done_517 (by decide) ?_
                        refine x_iload_n dX12_done_519 rfl ?_
                        refine x_imul dX12_done_520 ?_
                        refine x_iload dX12_done_521 rfl ?_
                        refine x_iadd dX12_done_523 ?_
                        refine x_iald dX12_done_524 (fun x54 => ?_)
                        refine cmX12_659 rfl hs (Nat.le_of_ble_eq_true rfl) dX12_done_525 (fun M55 => ?_)
                        refine x_goto (tgt := 726) dX12_done_528 (by decide) ?_
                        exact x_weak (by exact ⟨rfl, ⟨rfl, ⟨rfl, ⟨rfl, ⟨rfl, trivial⟩⟩⟩⟩⟩) (hj726 (s22.1, x39, M55))
                      · refine x_aload_n dX12_done_531 rfl ?_
                        refine gfX12_233 rfl dX12_done_532 (fun x56 => ?_)
                        refine x_bipush (v := 10) dX12_done_535 (by decide) ?_
                        refine x_iload_n dX12_done_537 rfl ?_
                        refine x_imul dX12_done_538 ?_
                        refine x_iload dX12_done_539 rfl ?_
                        refine x_iadd dX12_done_541 ?_
                        refine x_aload_n dX12_done_542 rfl ?_
                        refine cmX12_662 rfl hs (Nat.le_of_ble_eq_true rfl) dX12_done_543 (fun x58 M57 => ?_)
                        refine x_iast dX12_done_546 (fun M59 => ?_)
                        refine x_goto (tgt := 726) dX12_done_547 (by decide) ?_
                        exact x_weak (by exact ⟨rfl, ⟨rfl, ⟨rfl, ⟨rfl, ⟨rfl, trivial⟩⟩⟩⟩⟩) (hj726 (s22.1, x39, M59))
                      · refine x_aload_n dX12_done_716 rfl ?_
                        refine x_iload dX12_done_717 rfl ?_
                        refine x_iload dX12_done_719 rfl ?_
                        refine x_iload dX12_done_721 rfl ?_
                        refine cmX12_665 rfl hs (Nat.le_of_ble_eq_true rfl) dX12_done_723 (fun M60 => ?_)
                        exact x_weak (by exact ⟨rfl, ⟨rfl, ⟨rfl, ⟨rfl, ⟨rfl, trivial⟩⟩⟩⟩⟩) (hj726 (s22.1, x39, M60))
                      · refine x_aload_n dX12_done_716 rfl ?_
                        refine x_iload dX12_done_717 rfl ?_
                        refine x_iload dX12_done_719 rfl ?_
                        refine x_iload dX12_done_721 rfl ?_
                        refine cmX12_665 rfl hs (Nat.le_of_ble_eq_true rfl) dX12_done_723 (fun M61 => ?_)
                        exact x_weak (by exact ⟨rfl, ⟨rfl, ⟨rfl, ⟨rfl, ⟨rfl, trivial⟩⟩⟩⟩⟩) (hj726 (s22.1, x39, M61))
                      · refine x_aload_n dX12_done_716 rfl ?_
                        refine x_iload dX12_done_717 rfl ?_
                        refine x_iload dX12_done_719 rfl ?_
                        refine x_iload dX12_done_721 rfl ?_
                        refine cmX12_665 rfl hs (Nat.le_of_ble_eq_true rfl) dX12_done_723 (fun M62 => ?_)
                        exact x_weak (by exact ⟨rfl, ⟨rfl, ⟨rfl, ⟨rfl, ⟨rfl, trivial⟩⟩⟩⟩⟩) (hj726 (s22.1, x39, M62))
                      · refine x_aload_n dX12_done_716 rfl ?_
                        refine x_iload dX12_done_717 rfl ?_
                        refine x_iload dX12_done_719 rfl ?_
                        refine x_iload dX12_done_721 rfl ?_
                        refine cmX12_665 rfl hs (Nat.le_of_ble_eq_true rfl) dX12_done_723 (fun M63 => ?_)
                        exact x_weak (by exact ⟨rfl, ⟨rfl, ⟨rfl, ⟨rfl, ⟨rfl, trivial⟩⟩⟩⟩⟩) (hj726 (s22.1, x39, M63))
                      · refine x_aload_n dX12_done_716 rfl ?_
                        refine x_iload dX12_done_717 rfl ?_
                        refine x_iload dX12_done_719 rfl ?_
                        refine x_iload dX12_done_721 rfl ?_
                        refine cmX12_665 rfl hs (Nat.le_of_ble_eq_true rfl) dX12_done_723 (fun M64 => ?_)
                        exact x_weak (by exact ⟨rfl, ⟨rfl, ⟨rfl, ⟨rfl, ⟨rfl, trivial⟩⟩⟩⟩⟩) (hj726 (s22.1, x39, M64))
                      · exact x_weak (by exact ⟨rfl, ⟨rfl, ⟨rfl, ⟨rfl, trivial⟩⟩⟩⟩) (hj685 (s37.1, s37.2))
                      · refine x_aload_n dX12_done_716 rfl ?_
                        refine x_iload dX12_done_717 rfl ?_
                        refine x_iload dX12_done_719 rfl ?_
                        refine x_iload dX12_done_721 rfl ?_
                        refine cmX12_665 rfl hs (Nat.le_of_ble_eq_true rfl) dX12_done_723 (fun M65 => ?_)
                        exact x_weak (by exact ⟨rfl, ⟨rfl, ⟨rfl, ⟨rfl, ⟨rfl, trivial⟩⟩⟩⟩⟩) (hj726 (s22.1, x39, M65))
                      · refine x_aload_n dX12_done_716 rfl ?_
                        refine x_iload dX12_done_717 rfl ?_
                        refine x_iload dX12_done_719 rfl ?_
                        refine x_iload dX12_done_721 rfl ?_
                        refine cmX12_665 rfl hs (Nat.le_of_ble_eq_true rfl) dX12_done_723 (fun M66 => ?_)
                        exact x_weak (by exact ⟨rfl, ⟨rfl, ⟨rfl, ⟨rfl, ⟨rfl, trivial⟩⟩⟩⟩⟩) (hj726 (s22.1, x39, M66))
                      · refine x_aload_n dX12_done_716 rfl ?_
                        refine x_iload dX12_done_717 rfl ?_
                        refine x_iload dX12_done_719 rfl ?_
                        refine x_iload dX12_done_721 rfl ?_
                        refine cmX12_665 rfl hs (Nat.le_of_ble_eq_true rfl) dX12_done_723 (fun M67 => ?_)
                        exact x_weak (by exact ⟨rfl, ⟨rfl, ⟨rfl, ⟨rfl, ⟨rfl, trivial⟩⟩⟩⟩⟩) (hj726 (s22.1, x39, M67))
                      · refine x_aload_n dX12_done_716 rfl ?_
                        refine x_iload dX12_done_717 rfl ?_
                        refine x_iload dX12_done_719 rfl ?_
                        refine x_iload dX12_done_721 rfl ?_
                        refine cmX12_665 rfl hs (Nat.le_of_ble_eq_true rfl) dX12_done_723 (fun M68 => ?_)
                        exact x_weak (by exact ⟨rfl, ⟨rfl, ⟨rfl, ⟨rfl, ⟨rfl, trivial⟩⟩⟩⟩⟩) (hj726 (s22.1, x39, M68))
                      · refine x_aload_n dX12_done_716 rfl ?_
                        refine x_iload dX12_done_717 rfl ?_
                        refine x_iload dX12_done_719 rfl ?_
                        refine x_iload dX12_done_721 rfl ?_
                        refine cmX12_665 rfl hs (Nat.le_of_ble_eq_true rfl) dX12_done_723 (fun M69 => ?_)
                        exact x_weak (by exact ⟨rfl, ⟨rfl, ⟨rfl, ⟨rfl, ⟨rfl, trivial⟩⟩⟩⟩⟩) (hj726 (s22.1, x39, M69))
                      · refine x_aload_n dX12_done_716 rfl ?_
                        refine x_iload dX12_done_717 rfl ?_
                        refine x_iload dX12_done_719 rfl ?_
                        refine x_iload dX12_done_721 rfl ?_
                        refine cmX12_665 rfl hs (Nat.le_of_ble_eq_true rfl) dX12_done_723 (fun M70 => ?_)
                        exact x_weak (by exact ⟨rfl, ⟨rfl, ⟨rfl, ⟨rfl, ⟨rfl, trivial⟩⟩⟩⟩⟩) (hj726 (s22.1, x39, M70))
                      · refine x_aload_n dX12_done_716 rfl ?_
                        refine x_iload dX12_done_717 rfl ?_
                        refine x_iload dX12_done_719 rfl ?_
                        refine x_iload dX12_done_721 rfl ?_
                        refine cmX12_665 rfl hs (Nat.le_of_ble_eq_true rfl) dX12_done_723 (fun M71 => ?_)
                        exact x_weak (by exact ⟨rfl, ⟨rfl, ⟨rfl, ⟨rfl, ⟨rfl, trivial⟩⟩⟩⟩⟩) (hj726 (s22.1, x39, M71))
                      · refine x_aload_n dX12_done_716 rfl ?_
                        refine x_iload dX12_done_717 rfl ?_
                        refine x_iload dX12_done_719 rfl ?_
                        refine x_iload dX12_done_721 rfl ?_
                        refine cmX12_665 rfl hs (Nat.le_of_ble_eq_true rfl) dX12_done_723 (fun M72 => ?_)
                        exact x_weak (by exact ⟨rfl, ⟨rfl, ⟨rfl, ⟨rfl, ⟨rfl, trivial⟩⟩⟩⟩⟩) (hj726 (s22.1, x39, M72))
                      · refine x_aload_n dX12_done_716 rfl ?_
                        refine x_iload dX12_done_717 rfl ?_
                        refine x_iload dX12_done_719 rfl ?_
                        refine x_iload dX12_done_721 rfl ?_
                        refine cmX12_665 rfl hs (Nat.le_of_ble_eq_true rfl) dX12_done_723 (fun M73 => ?_)
                        exact x_weak (by exact ⟨rfl, ⟨rfl, ⟨rfl, ⟨rfl, ⟨rfl, trivial⟩⟩⟩⟩⟩) (hj726 (s22.1, x39, M73))
                      · refine x_aload_n dX12_done_716 rfl ?_
                        refine x_iload dX12_done_717 rfl ?_
                        refine x_iload dX12_done_719 rfl ?_
                        refine x_iload dX12_done_721 rfl ?_
                        refine cmX12_665 rfl hs (Nat.le_of_ble_eq_true rfl) dX12_done_723 (fun M74 => ?_)
                        exact x_weak (by exact ⟨rfl, ⟨rfl, ⟨rfl, ⟨rfl, ⟨rfl, trivial⟩⟩⟩⟩⟩) (hj726 (s22.1, x39, M74))
                      · refine x_aload_n dX12_done_716 rfl ?_
                        refine x_iload dX12_done_717 rfl ?_
                        refine x_iload dX12_done_719 rfl ?_
                        refine x_iload dX12_done_721 rfl ?_
                        refine cmX12_665 rfl hs (Nat.le_of_ble_eq_true rfl) dX12_done_723 (fun M75 => ?_)
                        exact x_weak (by exact ⟨rfl, ⟨rfl, ⟨rfl, ⟨rfl, ⟨rfl, trivial⟩⟩⟩⟩⟩) (hj726 (s22.1, x39, M75))
                      · refine x_aload_n dX12_done_716 rfl ?_
                        refine x_iload dX12_done_717 rfl ?_
                        refine x_iload dX12_done_719 rfl ?_
                        refine x_iload dX12_done_721 rfl ?_
                        refine cmX12_665 rfl hs (Nat.le_of_ble_eq_true rfl) dX12_done_723 (fun M76 => ?_)
                        exact x_weak (by exact ⟨rfl, ⟨rfl, ⟨rfl, ⟨rfl, ⟨rfl, trivial⟩⟩⟩⟩⟩) (hj726 (s22.1, x39, M76))
                      · refine x_aload_n dX12_done_716 rfl ?_
                        refine x_iload dX12_done_717 rfl ?_
                        refine x_iload dX12_done_719 rfl ?_
                        refine x_iload dX12_done_721 rfl ?_
                        refine cmX12_665 rfl hs (Nat.le_of_ble_eq_true rfl) dX12_done_723 (fun M77 => ?_)
                        exact x_weak (by exact ⟨rfl, ⟨rfl, ⟨rfl, ⟨rfl, ⟨rfl, trivial⟩⟩⟩⟩⟩) (hj726 (s22.1, x39, M77))
                      · refine x_aload_n dX12_done_716 rfl ?_
                        refine x_iload dX12_done_717 rfl ?_
                        refine x_iload dX12_done_719 rfl ?_
                        refine x_iload dX12_done_721 rfl ?_
                        refine cmX12_665 rfl hs (Nat.le_of_ble_eq_true rfl) dX12_done_723 (fun M78 => ?_)
                        exact x_weak (by exact ⟨rfl, ⟨rfl, ⟨rfl, ⟨rfl, ⟨rfl, trivial⟩⟩⟩⟩⟩) (hj726 (s22.1, x39, M78))
                      · refine x_aload_n dX12_done_716 rfl ?_
                        refine x_iload dX12_done_717 rfl ?_
                        refine x_iload dX12_done_719 rfl ?_
                        refine x_iload dX12_done_721 rfl ?_
                        refine cmX12_665 rfl hs (Nat.le_of_ble_eq_true rfl) dX12_done_723 (fun M79 => ?_)
                        exact x_weak (by exact ⟨rfl, ⟨rfl, ⟨rfl, ⟨rfl, ⟨rfl, trivial⟩⟩⟩⟩⟩) (hj726 (s22.1, x39, M79))
                      · refine x_aload_n dX12_done_550 rfl ?_
                        refine cmX12_662 rfl hs (Nat.le_of_ble_eq_true rfl) dX12_done_551 (fun x81 M80 => ?_)
                        refine x_jn (σ := Int32) 580 (fun s82 => [some (va_rf a0), none, none, some (.int x1), some (.int x7), some (.int s22.1), none, none, none, none, none, none, none]) (fun s82 => [.int s82]) (fun s82 => M80) (fun s82 => ?_) (fun j580 hj580 => ?_)
                        · refine x_istore (lo' := [some (va_rf a0), none, none, some (.int x1), some (.int x7), some (.int s22.1), none, none, none, none, none, some (.int s82), none]) dX12_done_580 (by decide) rfl rfl ?_
                          refine x_goto (tgt := 726) dX12_done_582 (by decide) ?_
                          exact x_weak (by exact ⟨rfl, ⟨rfl, ⟨rfl, ⟨rfl, ⟨rfl, trivial⟩⟩⟩⟩⟩) (hj726 (s22.1, s82, M80))
                        refine x_if_ne (tgt := 578) dX12_done_554 (by decide) (fun _ => ?_) (fun _ => ?_)
                        · refine x_iload dX12_done_557 rfl ?_
                          refine x_iload dX12_done_559 rfl ?_
                          refine x_sipush (v := 1000) dX12_done_561 (by decide) ?_
                          refine x_jn (σ := Int32) 574 (fun s83 => [some (va_rf a0), none, none, some (.int x1), some (.int x7), some (.int s22.1), none, none, none, none, none, none, none]) (fun s83 => [.int s83, .int s38]) (fun s83 => M80) (fun s83 => ?_) (fun j574 hj574 => ?_)
                          · refine x_iadd dX12_done_574 ?_
                            refine x_goto (tgt := 580) dX12_done_575 (by decide) ?_
                            exact x_weak (by exact ⟨rfl, ⟨rfl, ⟨rfl, ⟨rfl, trivial⟩⟩⟩⟩) (hj580 (s38 + s83))
                          refine x_icmp_ge (tgt := 571) dX12_done_564 (by decide) (fun _ => ?_) (fun _ => ?_)
                          · refine x_sipush (v := 1000) dX12_done_571 (by decide) ?_
                            exact x_weak (by exact ⟨rfl, ⟨rfl, ⟨rfl, ⟨rfl, trivial⟩⟩⟩⟩) (hj574 ((1000 : Int32)))
                          · refine x_iconst (v := 0) dX12_done_567 (by decide) ?_
                            refine x_goto (tgt := 574) dX12_done_568 (by decide) ?_
                            exact x_weak (by exact ⟨rfl, ⟨rfl, ⟨rfl, ⟨rfl, trivial⟩⟩⟩⟩) (hj574 ((0 : Int32)))
                        · refine x_iload dX12_done_578 rfl ?_
                          exact x_weak (by exact ⟨rfl, ⟨rfl, ⟨rfl, ⟨rfl, trivial⟩⟩⟩⟩) (hj580 x39)
                      · refine x_iload dX12_done_620 rfl ?_
                        refine x_iload dX12_done_622 rfl ?_
                        refine x_sipush (v := 1000) dX12_done_624 (by decide) ?_
                        refine x_jn (σ := Int32) 637 (fun s84 => [some (va_rf a0), none, none, some (.int x1), some (.int x7), some (.int s22.1), none, none, none, none, none, none, none]) (fun s84 => [.int s84, .int s38]) (fun s84 => s37.2) (fun s84 => ?_) (fun j637 hj637 => ?_)
                        · refine x_iadd dX12_done_637 ?_
                          refine x_ltI (fun x85 => ?_)
                          refine x_istore (lo' := [some (va_rf a0), none, none, some (.int x1), some (.int x7), some (.int s22.1), none, none, none, none, none, some (.int x85), none]) dX12_done_638 (by decide) rfl rfl ?_
                          refine x_goto (tgt := 726) dX12_done_640 (by decide) ?_
                          exact x_weak (by exact ⟨rfl, ⟨rfl, ⟨rfl, ⟨rfl, ⟨rfl, trivial⟩⟩⟩⟩⟩) (hj726 (s22.1, x85, s37.2))
                        refine x_icmp_ge (tgt := 634) dX12_done_627 (by decide) (fun _ => ?_) (fun _ => ?_)
                        · refine x_sipush (v := 1000) dX12_done_634 (by decide) ?_
                          exact x_weak (by exact ⟨rfl, ⟨rfl, ⟨rfl, ⟨rfl, trivial⟩⟩⟩⟩) (hj637 ((1000 : Int32)))
                        · refine x_iconst (v := 0) dX12_done_630 (by decide) ?_
                          refine x_goto (tgt := 637) dX12_done_631 (by decide) ?_
                          exact x_weak (by exact ⟨rfl, ⟨rfl, ⟨rfl, ⟨rfl, trivial⟩⟩⟩⟩) (hj637 ((0 : Int32)))
                      · refine x_aload_n dX12_done_643 rfl ?_
                        refine gfX12_236 rfl dX12_done_644 (fun x86 => ?_)
                        refine x_bipush (v := 25) dX12_done_647 (by decide) ?_
                        refine x_iload_n dX12_done_649 rfl ?_
                        refine x_imul dX12_done_650 ?_
                        refine x_iload dX12_done_651 rfl ?_
                        refine x_iadd dX12_done_653 ?_
                        refine x_iload dX12_done_654 rfl ?_
                        refine x_iload dX12_done_656 rfl ?_
                        refine x_sipush (v := 1000) dX12_done_658 (by decide) ?_
                        refine x_jn (σ := Int32) 671 (fun s87 => [some (va_rf a0), none, none, some (.int x1), some (.int x7), some (.int s22.1), none, none, none, none, none, some (.int x39), none]) (fun s87 => [.int s87, .int s38, .int ((((25 : Int32)) * x1) + s22.1), va_rf x86]) (fun s87 => s37.2) (fun s87 => ?_) (fun j671 hj671 => ?_)
                        · refine x_iadd dX12_done_671 ?_
                          refine x_iast dX12_done_672 (fun M88 => ?_)
                          refine x_iincN (v := 1) (lo' := fun x89 => [some (va_rf a0), none, none, some (.int x1), some (.int x7), some (.int x89), none, none, none, none, none, some (.int x39), none]) (by decide) dX12_done_673 rfl (by decide) rfl (fun _ => rfl) (fun x89 => ?_)
                          refine x_goto (tgt := 726) dX12_done_676 (by decide) ?_
                          exact x_weak (by exact ⟨rfl, ⟨rfl, ⟨rfl, ⟨rfl, ⟨rfl, trivial⟩⟩⟩⟩⟩) (hj726 (x89, x39, M88))
                        refine x_icmp_ge (tgt := 668) dX12_done_661 (by decide) (fun _ => ?_) (fun _ => ?_)
                        · refine x_sipush (v := 1000) dX12_done_668 (by decide) ?_
                          exact x_weak (by exact ⟨rfl, ⟨rfl, ⟨rfl, ⟨rfl, ⟨rfl, trivial⟩⟩⟩⟩⟩) (hj671 ((1000 : Int32)))
                        · refine x_iconst (v := 0) dX12_done_664 (by decide) ?_
                          refine x_goto (tgt := 671) dX12_done_665 (by decide) ?_
                          exact x_weak (by exact ⟨rfl, ⟨rfl, ⟨rfl, ⟨rfl, ⟨rfl, trivial⟩⟩⟩⟩⟩) (hj671 ((0 : Int32)))
                      · refine x_iincN (v := -1) (lo' := fun x90 => [some (va_rf a0), none, none, some (.int x1), some (.int x7), some (.int x90), some (.int s22.2.1), none, none, some (.int s37.1), some (.int s38), some (.int x39), none]) (by decide) dX12_done_679 rfl (by decide) rfl (fun _ => rfl) (fun x90 => ?_)
                        refine x_goto (tgt := 726) dX12_done_682 (by decide) ?_
                        exact x_weak (by exact ⟨rfl, ⟨rfl, ⟨rfl, ⟨rfl, ⟨rfl, trivial⟩⟩⟩⟩⟩) (hj726 (x90, x39, s37.2))
                      · refine x_aload_n dX12_done_716 rfl ?_
                        refine x_iload dX12_done_717 rfl ?_
                        refine x_iload dX12_done_719 rfl ?_
                        refine x_iload dX12_done_721 rfl ?_
                        refine cmX12_665 rfl hs (Nat.le_of_ble_eq_true rfl) dX12_done_723 (fun M91 => ?_)
                        exact x_weak (by exact ⟨rfl, ⟨rfl, ⟨rfl, ⟨rfl, ⟨rfl, trivial⟩⟩⟩⟩⟩) (hj726 (s22.1, x39, M91))
                      · refine x_aload_n dX12_done_716 rfl ?_
                        refine x_iload dX12_done_717 rfl ?_
                        refine x_iload dX12_done_719 rfl ?_
                        refine x_iload dX12_done_721 rfl ?_
                        refine cmX12_665 rfl hs (Nat.le_of_ble_eq_true rfl) dX12_done_723 (fun M92 => ?_)
                        exact x_weak (by exact ⟨rfl, ⟨rfl, ⟨rfl, ⟨rfl, ⟨rfl, trivial⟩⟩⟩⟩⟩) (hj726 (s22.1, x39, M92))
                      · refine x_aload_n dX12_done_716 rfl ?_
                        refine x_iload dX12_done_717 rfl ?_
                        refine x_iload dX12_done_719 rfl ?_
                        refine x_iload dX12_done_721 rfl ?_
                        refine cmX12_665 rfl hs (Nat.le_of_ble_eq_true rfl) dX12_done_723 (fun M93 => ?_)
                        exact x_weak (by exact ⟨rfl, ⟨rfl, ⟨rfl, ⟨rfl, ⟨rfl, trivial⟩⟩⟩⟩⟩) (hj726 (s22.1, x39, M93))
                      · refine x_aload_n dX12_done_585 rfl ?_
                        refine cmX12_662 rfl hs (Nat.le_of_ble_eq_true rfl) dX12_done_586 (fun x95 M94 => ?_)
                        refine x_jn (σ := Int32) 615 (fun s96 => [some (va_rf a0), none, none, some (.int x1), some (.int x7), some (.int s22.1), none, none, none, none, none, none, none]) (fun s96 => [.int s96]) (fun s96 => M94) (fun s96 => ?_) (fun j615 hj615 => ?_)
                        · refine x_istore (lo' := [some (va_rf a0), none, none, some (.int x1), some (.int x7), some (.int s22.1), none, none, none, none, none, some (.int s96), none]) dX12_done_615 (by decide) rfl rfl ?_
                          refine x_goto (tgt := 726) dX12_done_617 (by decide) ?_
                          exact x_weak (by exact ⟨rfl, ⟨rfl, ⟨rfl, ⟨rfl, ⟨rfl, trivial⟩⟩⟩⟩⟩) (hj726 (s22.1, s96, M94))
                        refine x_if_eq (tgt := 613) dX12_done_589 (by decide) (fun _ => ?_) (fun _ => ?_)
                        · refine x_iload dX12_done_613 rfl ?_
                          exact x_weak (by exact ⟨rfl, ⟨rfl, ⟨rfl, ⟨rfl, trivial⟩⟩⟩⟩) (hj615 x39)
                        · refine x_iload dX12_done_592 rfl ?_
                          refine x_iload dX12_done_594 rfl ?_
                          refine x_sipush (v := 1000) dX12_done_596 (by decide) ?_
                          refine x_jn (σ := Int32) 609 (fun s97 => [some (va_rf a0), none, none, some (.int x1), some (.int x7), some (.int s22.1), none, none, none, none, none, none, none]) (fun s97 => [.int s97, .int s38]) (fun s97 => M94) (fun s97 => ?_) (fun j609 hj609 => ?_)
                          · refine x_iadd dX12_done_609 ?_
                            refine x_goto (tgt := 615) dX12_done_610 (by decide) ?_
                            exact x_weak (by exact ⟨rfl, ⟨rfl, ⟨rfl, ⟨rfl, trivial⟩⟩⟩⟩) (hj615 (s38 + s97))
                          refine x_icmp_ge (tgt := 606) dX12_done_599 (by decide) (fun _ => ?_) (fun _ => ?_)
                          · refine x_sipush (v := 1000) dX12_done_606 (by decide) ?_
                            exact x_weak (by exact ⟨rfl, ⟨rfl, ⟨rfl, ⟨rfl, trivial⟩⟩⟩⟩) (hj609 ((1000 : Int32)))
                          · refine x_iconst (v := 0) dX12_done_602 (by decide) ?_
                            refine x_goto (tgt := 609) dX12_done_603 (by decide) ?_
                            exact x_weak (by exact ⟨rfl, ⟨rfl, ⟨rfl, ⟨rfl, trivial⟩⟩⟩⟩) (hj609 ((0 : Int32)))
                      · refine x_aload_n dX12_done_716 rfl ?_
                        refine x_iload dX12_done_717 rfl ?_
                        refine x_iload dX12_done_719 rfl ?_
                        refine x_iload dX12_done_721 rfl ?_
                        refine cmX12_665 rfl hs (Nat.le_of_ble_eq_true rfl) dX12_done_723 (fun M98 => ?_)
                        exact x_weak (by exact ⟨rfl, ⟨rfl, ⟨rfl, ⟨rfl, ⟨rfl, trivial⟩⟩⟩⟩⟩) (hj726 (s22.1, x39, M98))
                      · refine x_aload_n dX12_done_716 rfl ?_
                        refine x_iload dX12_done_717 rfl ?_
                        refine x_iload dX12_done_719 rfl ?_
                        refine x_iload dX12_done_721 rfl ?_
                        refine cmX12_665 rfl hs (Nat.le_of_ble_eq_true rfl) dX12_done_723 (fun M99 => ?_)
                        exact x_weak (by exact ⟨rfl, ⟨rfl, ⟨rfl, ⟨rfl, ⟨rfl, trivial⟩⟩⟩⟩⟩) (hj726 (s22.1, x39, M99))
                      · exact x_weak (by exact ⟨rfl, ⟨rfl, ⟨rfl, ⟨rfl, trivial⟩⟩⟩⟩) (hj685 (s37.1, s37.2))
                    · refine x_aload_n dX12_done_716 rfl ?_
                      refine x_iload dX12_done_717 rfl ?_
                      refine x_iload dX12_done_719 rfl ?_
                      refine x_iload dX12_done_721 rfl ?_
                      refine cmX12_665 rfl hs (Nat.le_of_ble_eq_true rfl) dX12_done_723 (fun M100 => ?_)
                      exact x_weak (by exact ⟨rfl, ⟨rfl, ⟨rfl, ⟨rfl, ⟨rfl, trivial⟩⟩⟩⟩⟩) (hj726 (s22.1, x39, M100))
                  refine x_jn (σ := Unit) 345 (fun s101 => [some (va_rf a0), none, none, some (.int x1), some (.int x7), some (.int s22.1), some (.int s22.2.1), some (.int s32), none, some (.int s37.1), none, none, none]) (fun s101 => []) (fun s101 => s37.2) (fun s101 => ?_) (fun j345 hj345 => ?_)
                  · refine x_aload_n dX12_done_345 rfl ?_
                    refine gfX12_100 rfl dX12_done_346 (fun x102 => ?_)
                    refine x_iload dX12_done_349 rfl ?_
                    refine x_iald dX12_done_351 (fun x103 => ?_)
                    exact x_weak (by exact ⟨rfl, ⟨rfl, ⟨rfl, ⟨rfl, ⟨rfl, ⟨rfl, trivial⟩⟩⟩⟩⟩⟩) (hj352 x103)
                  refine x_if_eq (tgt := 345) dX12_done_325 (by decide) (fun _ => ?_) (fun _ => ?_)
                  · exact x_weak (by exact ⟨rfl, ⟨rfl, ⟨rfl, ⟨rfl, ⟨rfl, ⟨rfl, ⟨rfl, trivial⟩⟩⟩⟩⟩⟩⟩) (hj345 ())
                  · refine x_iload dX12_done_328 rfl ?_
                    refine x_if_ne (tgt := 345) dX12_done_330 (by decide) (fun _ => ?_) (fun _ => ?_)
                    · refine x_aload_n dX12_done_333 rfl ?_
                      refine gfX12_100 rfl dX12_done_334 (fun x104 => ?_)
                      refine x_iload dX12_done_337 rfl ?_
                      refine x_iald dX12_done_339 (fun x105 => ?_)
                      refine x_iconst (v := 1) dX12_done_340 (by decide) ?_
                      refine x_iadd dX12_done_341 ?_
                      refine x_goto (tgt := 352) dX12_done_342 (by decide) ?_
                      exact x_weak (by exact ⟨rfl, ⟨rfl, ⟨rfl, ⟨rfl, ⟨rfl, ⟨rfl, trivial⟩⟩⟩⟩⟩⟩) (hj352 (x105 + ((1 : Int32))))
                    · exact x_weak (by exact ⟨rfl, ⟨rfl, ⟨rfl, ⟨rfl, ⟨rfl, ⟨rfl, ⟨rfl, trivial⟩⟩⟩⟩⟩⟩⟩) (hj345 ())
                refine x_if_eq (tgt := 314) dX12_done_298 (by decide) (fun _ => ?_) (fun _ => ?_)
                · refine x_aload_n dX12_done_314 rfl ?_
                  refine gfX12_97 rfl dX12_done_315 (fun x106 => ?_)
                  refine x_iload dX12_done_318 rfl ?_
                  refine x_bald dX12_done_320 (fun x107 => ?_)
                  exact x_weak (by exact ⟨rfl, ⟨rfl, ⟨rfl, ⟨rfl, ⟨rfl, ⟨rfl, ⟨rfl, trivial⟩⟩⟩⟩⟩⟩⟩) (hj321 (x107, s34))
                · refine x_aload_n dX12_done_301 rfl ?_
                  refine gfX12_97 rfl dX12_done_302 (fun x108 => ?_)
                  refine x_iload dX12_done_305 rfl ?_
                  refine x_bald dX12_done_307 (fun x109 => ?_)
                  refine cmX12_597 rfl hs (Nat.le_of_ble_eq_true rfl) dX12_done_308 (fun x111 M110 => ?_)
                  refine x_goto (tgt := 321) dX12_done_311 (by decide) ?_
                  exact x_weak (by exact ⟨rfl, ⟨rfl, ⟨rfl, ⟨rfl, ⟨rfl, ⟨rfl, ⟨rfl, trivial⟩⟩⟩⟩⟩⟩⟩) (hj321 (x111, M110))
              refine x_icmp_ne (tgt := 293) dX12_done_286 (by decide) (fun _ => ?_) (fun _ => ?_)
              · refine x_iconst (v := 1) dX12_done_289 (by decide) ?_
                refine x_goto (tgt := 294) dX12_done_290 (by decide) ?_
                exact x_weak (by exact ⟨rfl, ⟨rfl, ⟨rfl, ⟨rfl, ⟨rfl, ⟨rfl, trivial⟩⟩⟩⟩⟩⟩) (hj294 ((1 : Int32)))
              · refine x_iconst (v := 0) dX12_done_293 (by decide) ?_
                exact x_weak (by exact ⟨rfl, ⟨rfl, ⟨rfl, ⟨rfl, ⟨rfl, ⟨rfl, trivial⟩⟩⟩⟩⟩⟩) (hj294 ((0 : Int32)))
            refine x_if_eq (tgt := 280) dX12_done_226 (by decide) (fun _ => ?_) (fun _ => ?_)
            · exact x_weak (by exact ⟨rfl, ⟨rfl, ⟨rfl, ⟨rfl, ⟨rfl, ⟨rfl, trivial⟩⟩⟩⟩⟩⟩) (hj280 M31)
            · refine x_aload_n dX12_done_229 rfl ?_
              refine gfX12_249 rfl dX12_done_230 (fun x112 => ?_)
              refine x_iload dX12_done_233 rfl ?_
              refine x_dup2 dX12_done_235 (xc1_i _) (xc1_r _) ?_
              refine x_iald dX12_done_236 (fun x113 => ?_)
              refine x_iconst (v := 1) dX12_done_237 (by decide) ?_
              refine x_iadd dX12_done_238 ?_
              refine x_iast dX12_done_239 (fun M114 => ?_)
              refine x_aload_n dX12_done_240 rfl ?_
              refine gfX12_252 rfl dX12_done_241 (fun x115 => ?_)
              refine x_iload dX12_done_244 rfl ?_
              refine x_dup2 dX12_done_246 (xc1_i _) (xc1_r _) ?_
              refine x_iald dX12_done_247 (fun x116 => ?_)
              refine x_aload_n dX12_done_248 rfl ?_
              refine gfX12_255 rfl dX12_done_249 (fun x117 => ?_)
              refine x_iload dX12_done_252 rfl ?_
              refine x_iald dX12_done_254 (fun x118 => ?_)
              refine x_aload_n dX12_done_255 rfl ?_
              refine gfX12_656 rfl dX12_done_256 (fun x119 => ?_)
              refine x_jn (σ := Int32) 267 (fun s120 => [some (va_rf a0), none, none, some (.int x1), some (.int x7), some (.int s22.1), some (.int s22.2.1), some (.int s32), none, none, none, none, none]) (fun s120 => [.int s120, .int x116, .int s32, va_rf x115]) (fun s120 => M114) (fun s120 => ?_) (fun j267 hj267 => ?_)
              · refine x_iadd dX12_done_267 ?_
                refine x_iast dX12_done_268 (fun M121 => ?_)
                refine x_aload_n dX12_done_269 rfl ?_
                refine gfX12_255 rfl dX12_done_270 (fun x122 => ?_)
                refine x_iload dX12_done_273 rfl ?_
                refine x_aload_n dX12_done_275 rfl ?_
                refine gfX12_656 rfl dX12_done_276 (fun x123 => ?_)
                refine x_iast dX12_done_279 (fun M124 => ?_)
                exact x_weak (by exact ⟨rfl, ⟨rfl, ⟨rfl, ⟨rfl, ⟨rfl, ⟨rfl, trivial⟩⟩⟩⟩⟩⟩) (hj280 M124)
              refine x_icmp_ne (tgt := 266) dX12_done_259 (by decide) (fun _ => ?_) (fun _ => ?_)
              · refine x_iconst (v := 0) dX12_done_262 (by decide) ?_
                refine x_goto (tgt := 267) dX12_done_263 (by decide) ?_
                exact x_weak (by exact ⟨rfl, ⟨rfl, ⟨rfl, ⟨rfl, ⟨rfl, ⟨rfl, trivial⟩⟩⟩⟩⟩⟩) (hj267 ((0 : Int32)))
              · refine x_iconst (v := 1) dX12_done_266 (by decide) ?_
                exact x_weak (by exact ⟨rfl, ⟨rfl, ⟨rfl, ⟨rfl, ⟨rfl, ⟨rfl, trivial⟩⟩⟩⟩⟩⟩) (hj267 ((1 : Int32)))
          refine x_icmp_ge (tgt := 207) dX12_done_190 (by decide) (fun _ => ?_) (fun _ => ?_)
          · refine x_sipush (v := 1000) dX12_done_207 (by decide) ?_
            refine x_aload_n dX12_done_210 rfl ?_
            refine gfX12_603 rfl dX12_done_211 (fun x125 => ?_)
            refine x_iconst (v := 1) dX12_done_214 (by decide) ?_
            refine x_isub dX12_done_215 ?_
            refine x_imul dX12_done_216 ?_
            refine x_iload dX12_done_217 rfl ?_
            refine x_iadd dX12_done_219 ?_
            exact x_weak (by exact ⟨rfl, ⟨rfl, ⟨rfl, ⟨rfl, ⟨rfl, trivial⟩⟩⟩⟩⟩) (hj220 ((((1000 : Int32)) * (x125 - ((1 : Int32)))) + s22.2.1))
          · refine x_sipush (v := 1000) dX12_done_193 (by decide) ?_
            refine x_aload_n dX12_done_196 rfl ?_
            refine gfX12_600 rfl dX12_done_197 (fun x126 => ?_)
            refine x_imul dX12_done_200 ?_
            refine x_iload dX12_done_201 rfl ?_
            refine x_iadd dX12_done_203 ?_
            refine x_goto (tgt := 220) dX12_done_204 (by decide) ?_
            exact x_weak (by exact ⟨rfl, ⟨rfl, ⟨rfl, ⟨rfl, ⟨rfl, trivial⟩⟩⟩⟩⟩) (hj220 ((((1000 : Int32)) * x126) + s22.2.1))
        · exact x_weak (by exact ⟨rfl, ⟨rfl, ⟨rfl, trivial⟩⟩⟩) (hj142 s24)
      refine x_if_ne (tgt := 113) dX12_done_93 (by decide) (fun _ => ?_) (fun _ => ?_)
      · refine x_aload_n dX12_done_96 rfl ?_
        refine x_iconst (v := 1) dX12_done_97 (by decide) ?_
        refine pfX12_635 rfl dX12_done_98 (fun M127 => ?_)
        refine x_aload_n dX12_done_101 rfl ?_
        refine x_bipush (v := 6) dX12_done_102 (by decide) ?_
        refine x_iload dX12_done_104 rfl ?_
        refine x_iconst (v := 1) dX12_done_106 (by decide) ?_
        refine cmX12_625 rfl hs (Nat.le_of_ble_eq_true rfl) dX12_done_107 (fun M128 => ?_)
        refine x_goto (tgt := 135) dX12_done_110 (by decide) ?_
        exact x_weak (by exact ⟨rfl, ⟨rfl, ⟨rfl, ⟨rfl, ⟨rfl, trivial⟩⟩⟩⟩⟩) (hj135 M128)
      · refine x_aload_n dX12_done_113 rfl ?_
        refine gfX12_644 rfl dX12_done_114 (fun x129 => ?_)
        refine x_if_ne (tgt := 135) dX12_done_117 (by decide) (fun _ => ?_) (fun _ => ?_)
        · refine x_aload_n dX12_done_120 rfl ?_
          refine x_iconst (v := 1) dX12_done_121 (by decide) ?_
          refine pfX12_647 rfl dX12_done_122 (fun M130 => ?_)
          refine x_aload_n dX12_done_125 rfl ?_
          refine x_iconst (v := 1) dX12_done_126 (by decide) ?_
          refine pfX12_635 rfl dX12_done_127 (fun M131 => ?_)
          refine x_aload_n dX12_done_130 rfl ?_
          refine x_iconst (v := 1) dX12_done_131 (by decide) ?_
          refine pfX12_610 rfl dX12_done_132 (fun M132 => ?_)
          exact x_weak (by exact ⟨rfl, ⟨rfl, ⟨rfl, ⟨rfl, ⟨rfl, trivial⟩⟩⟩⟩⟩) (hj135 M132)
        · exact x_weak (by exact ⟨rfl, ⟨rfl, ⟨rfl, ⟨rfl, ⟨rfl, trivial⟩⟩⟩⟩⟩) (hj135 s22.2.2)
  refine x_weak (by exact ⟨rfl, ⟨rfl, ⟨rfl, ⟨rfl, ⟨rfl, trivial⟩⟩⟩⟩⟩) (x_lp (σ := Int32 × Mem) 18 (fun s133 => [some (va_rf a0), some (.int a1), some (.int a2), some (.int x1), some (.int s133.1), none, none, none, none, none, none, none, none]) (fun s133 => []) (fun s133 => s133.2) (fun s133 j18 hj18 => ?_) 4294967296 ((0 : Int32), M3))
  · refine x_iload dX12_done_18 rfl ?_
    refine x_bipush (v := 10) dX12_done_20 (by decide) ?_
    refine x_icmp_ge (tgt := 67) dX12_done_22 (by decide) (fun _ => ?_) (fun _ => ?_)
    · exact x_weak (by exact ⟨rfl, ⟨rfl, ⟨rfl, ⟨rfl, trivial⟩⟩⟩⟩) (hj67 s133.2)
    · refine x_aload_n dX12_done_25 rfl ?_
      refine gfX12_233 rfl dX12_done_26 (fun x134 => ?_)
      refine x_bipush (v := 10) dX12_done_29 (by decide) ?_
      refine x_iload_n dX12_done_31 rfl ?_
      refine x_imul dX12_done_32 ?_
      refine x_iload dX12_done_33 rfl ?_
      refine x_iadd dX12_done_35 ?_
      refine x_iload dX12_done_36 rfl ?_
      refine x_iload_n dX12_done_38 rfl ?_
      refine x_jn (σ := Int32) 60 (fun s135 => [some (va_rf a0), some (.int a1), some (.int a2), some (.int x1), some (.int s133.1), none, none, none, none, none, none, none, none]) (fun s135 => [.int s135, .int ((((10 : Int32)) * x1) + s133.1), va_rf x134]) (fun s135 => s133.2) (fun s135 => ?_) (fun j60 hj60 => ?_)
      · refine x_iast dX12_done_60 (fun M136 => ?_)
        refine x_iincN (v := 1) (lo' := fun x137 => [some (va_rf a0), some (.int a1), some (.int a2), some (.int x1), some (.int x137), none, none, none, none, none, none, none, none]) (by decide) dX12_done_61 rfl (by decide) rfl (fun _ => rfl) (fun x137 => ?_)
        refine x_goto (tgt := 18) dX12_done_64 (by decide) ?_
        exact x_weak (by exact ⟨rfl, ⟨rfl, ⟨rfl, ⟨rfl, ⟨rfl, trivial⟩⟩⟩⟩⟩) (hj18 (x137, M136))
      refine x_icmp_ge (tgt := 59) dX12_done_39 (by decide) (fun _ => ?_) (fun _ => ?_)
      · refine x_iconst (v := 0) dX12_done_59 (by decide) ?_
        exact x_weak (by exact ⟨rfl, ⟨rfl, ⟨rfl, ⟨rfl, ⟨rfl, trivial⟩⟩⟩⟩⟩) (hj60 ((0 : Int32)))
      · refine x_aload_n dX12_done_42 rfl ?_
        refine gfX12_230 rfl dX12_done_43 (fun x138 => ?_)
        refine x_aload_n dX12_done_46 rfl ?_
        refine gfX12_638 rfl dX12_done_47 (fun x139 => ?_)
        refine x_iload_n dX12_done_50 rfl ?_
        refine x_isub dX12_done_51 ?_
        refine x_iload dX12_done_52 rfl ?_
        refine x_iadd dX12_done_54 ?_
        refine x_iald dX12_done_55 (fun x140 => ?_)
        refine x_goto (tgt := 60) dX12_done_56 (by decide) ?_
        exact x_weak (by exact ⟨rfl, ⟨rfl, ⟨rfl, ⟨rfl, ⟨rfl, trivial⟩⟩⟩⟩⟩) (hj60 x140)
theorem s243 {l : Launch} {d : Nat} {rec : Nat → List Value → Mem → XA} (hS : Nonempty XS) (hs : XSnd l xmt rec d) : Snd1 l 243 (b243 rec) d := by
  intro as M r M' h0
  unfold b243 at h0
  obtain ⟨a0, l1, e1, h1⟩ := aR_inv h0
  obtain ⟨a1, l2, e2, h2⟩ := aI_inv h1
  obtain ⟨a2, l3, e3, h3⟩ := aI_inv h2
  obtain ⟨ez, h⟩ := aZ_inv h3
  subst ez
  subst e3
  subst e2
  subst e1
  exact xmet (M := M) (as := [va_rf a0, .int a1, .int a2]) (lo := [some (va_rf a0), some (.int a1), some (.int a2)]) 243 xq243 xm243 (by rw [xargs_rf, xargs_i, xargs_i, xargs_nil]; exact ⟨rfl, ⟨rfl, ⟨rfl, trivial⟩⟩⟩) (by rw [xargs_rf, xargs_i, xargs_i, xargs_nil]; exact Nat.le_of_ble_eq_true rfl) (fun S G K => x_weak (by exact ⟨rfl, ⟨rfl, ⟨rfl, trivial⟩⟩⟩) (k243 hs a0 a1 a2 M)) h hS
