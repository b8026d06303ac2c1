def c3 (rec : Nat → List Value → Mem → XA) (a0 : Option Nat) (a1 : Int32) (M0 : Mem) : XA :=
  jn (fun (s1 : Int32) =>
    rtZ s1 M0) fun j24 =>
  jn (fun (s2 : Unit) =>
    j24 ((0 : Int32))) fun j23 =>
  if a1 < 0 then (
    j23 ()) else (
    if ((8 : Int32)) ≤ a1 then (
      j23 ()) else (
      gtP (1, 4) M0 a0 2 fun x3 =>
      alI 100 M0 x3 a1 fun x4 =>
      if x4 < 0 then (
        j23 ()) else (
        j24 ((1 : Int32)))))
def b3 (rec : Nat → List Value → Mem → XA) (as : List Value) (M0 : Mem) : XA := aR as fun a0 as => aI as fun a1 as => aZ as (c3 rec a0 a1 M0)
set_option maxRecDepth 100000 in
set_option maxHeartbeats 4000000 in
theorem k3 {S : XS} {G : XG} {K : Nat × Nat} {l : Launch} {d : Nat} {rec : Nat → List Value → Mem → XA} (hs : XSnd l xmt rec d) (a0 : Option Nat) (a1 : Int32) (M0 : Mem) : Xe S G K l (yX0_isReplaced, cX0_isReplaced, 2, some .boolean) d 0 [some (va_rf a0), some (.int a1)] [] M0 (c3 rec a0 a1 M0) := by
  unfold c3
  refine x_iload_n dX0_isReplaced_0 rfl ?_
  refine x_jn (σ := Int32) 24 (fun s1 => [none, none]) (fun s1 => [.int s1]) (fun s1 => M0) (fun s1 => ?_) (fun j24 hj24 => ?_)
  · exact x_zret rfl dX0_isReplaced_24
  refine x_jn (σ := Unit) 23 (fun s2 => [none, none]) (fun s2 => []) (fun s2 => M0) (fun s2 => ?_) (fun j23 hj23 => ?_)
  · refine x_iconst (v := 0) dX0_isReplaced_23 (by decide) ?_
    exact x_weak (by exact trivial) (hj24 ((0 : Int32)))
  refine x_if_lt (tgt := 23) dX0_isReplaced_1 (by decide) (fun _ => ?_) (fun _ => ?_)
  · exact x_weak (by exact trivial) (hj23 ())
  · refine x_iload_n dX0_isReplaced_4 rfl ?_
    refine x_bipush (v := 8) dX0_isReplaced_5 (by decide) ?_
    refine x_icmp_ge (tgt := 23) dX0_isReplaced_7 (by decide) (fun _ => ?_) (fun _ => ?_)
    · exact x_weak (by exact trivial) (hj23 ())
    · refine x_aload_n dX0_isReplaced_10 rfl ?_
      refine gfX0_9 rfl dX0_isReplaced_11 (fun x3 => ?_)
      refine x_iload_n dX0_isReplaced_14 rfl ?_
      refine x_iald dX0_isReplaced_15 (fun x4 => ?_)
      refine x_if_lt (tgt := 23) dX0_isReplaced_16 (by decide) (fun _ => ?_) (fun _ => ?_)
      · exact x_weak (by exact trivial) (hj23 ())
      · refine x_iconst (v := 1) dX0_isReplaced_19 (by decide) ?_
        refine x_goto (tgt := 24) dX0_isReplaced_20 (by decide) ?_
        exact x_weak (by exact trivial) (hj24 ((1 : Int32)))
theorem s3 {l : Launch} {d : Nat} {rec : Nat → List Value → Mem → XA} (hS : Nonempty XS) (hs : XSnd l xmt rec d) : Snd1 l 3 (b3 rec) d := by
  intro as M r M' h
  unfold b3 at h
  obtain ⟨a0, as, rfl, h⟩ := aR_inv h
  obtain ⟨a1, as, rfl, h⟩ := aI_inv h
  obtain ⟨rfl, h⟩ := aZ_inv h
  exact xmet (M := M) (as := [va_rf a0, .int a1]) (lo := [some (va_rf a0), some (.int a1)]) 3 xq3 xm3 (by simp only [xargs_rf, xargs_i, xargs]; exact ⟨rfl, ⟨rfl, trivial⟩⟩) (by simp only [xargs_rf, xargs_i, xargs]; decide) (fun S G K => x_weak (by exact ⟨rfl, ⟨rfl, trivial⟩⟩) (k3 hs a0 a1 M)) h hS
def c4 (rec : Nat → List Value → Mem → XA) (a0 : Option Nat) (a1 : Int32) (M0 : Mem) : XA :=
  jn (fun (s1 : Int32) =>
    some (.int s1, M0)) fun j24 =>
  jn (fun (s2 : Unit) =>
    j24 ((-2 : Int32))) fun j13 =>
  if a1 < 0 then (
    j13 ()) else (
    gtP (1, 4) M0 a0 3 fun x3 =>
    aln M0 x3 fun x4 =>
    if a1 < x4 then (
      gtP (1, 4) M0 a0 3 fun x5 =>
      alI 100 M0 x5 a1 fun x6 =>
      j24 x6) else (
      j13 ()))
def b4 (rec : Nat → List Value → Mem → XA) (as : List Value) (M0 : Mem) : XA := aR as fun a0 as => aI as fun a1 as => aZ as (c4 rec a0 a1 M0)
set_option maxRecDepth 100000 in
set_option maxHeartbeats 4000000 in
theorem k4 {S : XS} {G : XG} {K : Nat × Nat} {l : Launch} {d : Nat} {rec : Nat → List Value → Mem → XA} (hs : XSnd l xmt rec d) (a0 : Option Nat) (a1 : Int32) (M0 : Mem) : Xe S G K l (yX0_linkOf, cX0_linkOf, 2, some .int) d 0 [some (va_rf a0), some (.int a1)] [] M0 (c4 rec a0 a1 M0) := by
  unfold c4
  refine x_iload_n dX0_linkOf_0 rfl ?_
  refine x_jn (σ := Int32) 24 (fun s1 => [none, none]) (fun s1 => [.int s1]) (fun s1 => M0) (fun s1 => ?_) (fun j24 hj24 => ?_)
  · exact x_iret rfl dX0_linkOf_24
  refine x_jn (σ := Unit) 13 (fun s2 => [none, none]) (fun s2 => []) (fun s2 => M0) (fun s2 => ?_) (fun j13 hj13 => ?_)
  · refine x_bipush (v := -2) dX0_linkOf_13 (by decide) ?_
    refine x_goto (tgt := 24) dX0_linkOf_15 (by decide) ?_
    exact x_weak (by exact trivial) (hj24 ((-2 : Int32)))
  refine x_if_lt (tgt := 13) dX0_linkOf_1 (by decide) (fun _ => ?_) (fun _ => ?_)
  · exact x_weak (by exact trivial) (hj13 ())
  · refine x_iload_n dX0_linkOf_4 rfl ?_
    refine x_aload_n dX0_linkOf_5 rfl ?_
    refine gfX0_51 rfl dX0_linkOf_6 (fun x3 => ?_)
    refine x_alen dX0_linkOf_9 (fun x4 => ?_)
    refine x_icmp_lt (tgt := 18) dX0_linkOf_10 (by decide) (fun _ => ?_) (fun _ => ?_)
    · refine x_aload_n dX0_linkOf_18 rfl ?_
      refine gfX0_51 rfl dX0_linkOf_19 (fun x5 => ?_)
      refine x_iload_n dX0_linkOf_22 rfl ?_
      refine x_iald dX0_linkOf_23 (fun x6 => ?_)
      exact x_weak (by exact trivial) (hj24 x6)
    · exact x_weak (by exact trivial) (hj13 ())
theorem s4 {l : Launch} {d : Nat} {rec : Nat → List Value → Mem → XA} (hS : Nonempty XS) (hs : XSnd l xmt rec d) : Snd1 l 4 (b4 rec) d := by
  intro as M r M' h
  unfold b4 at h
  obtain ⟨a0, as, rfl, h⟩ := aR_inv h
  obtain ⟨a1, as, rfl, h⟩ := aI_inv h
  obtain ⟨rfl, h⟩ := aZ_inv h
  exact xmet (M := M) (as := [va_rf a0, .int a1]) (lo := [some (va_rf a0), some (.int a1)]) 4 xq4 xm4 (by simp only [xargs_rf, xargs_i, xargs]; exact ⟨rfl, ⟨rfl, trivial⟩⟩) (by simp only [xargs_rf, xargs_i, xargs]; decide) (fun S G K => x_weak (by exact ⟨rfl, ⟨rfl, trivial⟩⟩) (k4 hs a0 a1 M)) h hS
def c6 (rec : Nat → List Value → Mem → XA) (a0 : Option Nat) (a1 : Int32) (a2 : Int32) (a3 : Int32) (a4 : Int32) (a5 : Int32) (M0 : Mem) : XA :=
  gtP (2, 7) M0 a0 3 fun x1 =>
  alP 113 M0 x1 ((0 : Int32)) fun x2 =>
  gtI (2, 7) M0 a0 1 fun x3 =>
  asI 100 M0 x2 x3 a1 fun M4 =>
  gtP (2, 7) M4 a0 3 fun x5 =>
  alP 113 M4 x5 ((1 : Int32)) fun x6 =>
  gtI (2, 7) M4 a0 1 fun x7 =>
  asI 100 M4 x6 x7 a2 fun M8 =>
  gtP (2, 7) M8 a0 3 fun x9 =>
  alP 113 M8 x9 ((2 : Int32)) fun x10 =>
  gtI (2, 7) M8 a0 1 fun x11 =>
  asI 100 M8 x10 x11 a3 fun M12 =>
  gtP (2, 7) M12 a0 3 fun x13 =>
  alP 113 M12 x13 ((3 : Int32)) fun x14 =>
  gtI (2, 7) M12 a0 1 fun x15 =>
  asI 100 M12 x14 x15 a4 fun M16 =>
  gtP (2, 7) M16 a0 3 fun x17 =>
  alP 113 M16 x17 ((4 : Int32)) fun x18 =>
  gtI (2, 7) M16 a0 1 fun x19 =>
  asI 100 M16 x18 x19 a5 fun M20 =>
  gtI (2, 7) M20 a0 1 fun x21 =>
  ptI (2, 7) M20 a0 1 (x21 + ((1 : Int32))) fun M22 =>
  ptZ (2, 7) M22 a0 5 ((0 : Int32)) fun M23 =>
  gtI (2, 7) M23 a0 1 fun x24 =>
  some (.int x24, M23)
def b6 (rec : Nat → List Value → Mem → XA) (as : List Value) (M0 : Mem) : XA := aR as fun a0 as => aI as fun a1 as => aI as fun a2 as => aI as fun a3 as => aI as fun a4 as => aI as fun a5 as => aZ as (c6 rec a0 a1 a2 a3 a4 a5 M0)
set_option maxRecDepth 100000 in
set_option maxHeartbeats 4000000 in
theorem k6 {S : XS} {G : XG} {K : Nat × Nat} {l : Launch} {d : Nat} {rec : Nat → List Value → Mem → XA} (hs : XSnd l xmt rec d) (a0 : Option Nat) (a1 : Int32) (a2 : Int32) (a3 : Int32) (a4 : Int32) (a5 : Int32) (M0 : Mem) : Xe S G K l (yX1_add, cX1_add, 6, some .int) d 0 [some (va_rf a0), some (.int a1), some (.int a2), some (.int a3), some (.int a4), some (.int a5)] [] M0 (c6 rec a0 a1 a2 a3 a4 a5 M0) := by
  unfold c6
  refine x_aload_n dX1_add_0 rfl ?_
  refine gfX1_17 rfl dX1_add_1 (fun x1 => ?_)
  refine x_iconst (v := 0) dX1_add_4 (by decide) ?_
  refine x_aldg (t := 113) (tn := 8) (by decide) (by decide) rfl rfl dX1_add_5 (fun x2 => ?_)
  refine x_aload_n dX1_add_6 rfl ?_
  refine gfX1_27 rfl dX1_add_7 (fun x3 => ?_)
  refine x_iload_n dX1_add_10 rfl ?_
  refine x_iast dX1_add_11 (fun M4 => ?_)
  refine x_aload_n dX1_add_12 rfl ?_
  refine gfX1_17 rfl dX1_add_13 (fun x5 => ?_)
  refine x_iconst (v := 1) dX1_add_16 (by decide) ?_
  refine x_aldg (t := 113) (tn := 8) (by decide) (by decide) rfl rfl dX1_add_17 (fun x6 => ?_)
  refine x_aload_n dX1_add_18 rfl ?_
  refine gfX1_27 rfl dX1_add_19 (fun x7 => ?_)
  refine x_iload_n dX1_add_22 rfl ?_
  refine x_iast dX1_add_23 (fun M8 => ?_)
  refine x_aload_n dX1_add_24 rfl ?_
  refine gfX1_17 rfl dX1_add_25 (fun x9 => ?_)
  refine x_iconst (v := 2) dX1_add_28 (by decide) ?_
  refine x_aldg (t := 113) (tn := 8) (by decide) (by decide) rfl rfl dX1_add_29 (fun x10 => ?_)
  refine x_aload_n dX1_add_30 rfl ?_
  refine gfX1_27 rfl dX1_add_31 (fun x11 => ?_)
  refine x_iload_n dX1_add_34 rfl ?_
  refine x_iast dX1_add_35 (fun M12 => ?_)
  refine x_aload_n dX1_add_36 rfl ?_
  refine gfX1_17 rfl dX1_add_37 (fun x13 => ?_)
  refine x_iconst (v := 3) dX1_add_40 (by decide) ?_
  refine x_aldg (t := 113) (tn := 8) (by decide) (by decide) rfl rfl dX1_add_41 (fun x14 => ?_)
  refine x_aload_n dX1_add_42 rfl ?_
  refine gfX1_27 rfl dX1_add_43 (fun x15 => ?_)
  refine x_iload dX1_add_46 rfl ?_
  refine x_iast dX1_add_48 (fun M16 => ?_)
  refine x_aload_n dX1_add_49 rfl ?_
  refine gfX1_17 rfl dX1_add_50 (fun x17 => ?_)
  refine x_iconst (v := 4) dX1_add_53 (by decide) ?_
  refine x_aldg (t := 113) (tn := 8) (by decide) (by decide) rfl rfl dX1_add_54 (fun x18 => ?_)
  refine x_aload_n dX1_add_55 rfl ?_
  refine gfX1_27 rfl dX1_add_56 (fun x19 => ?_)
  refine x_iload dX1_add_59 rfl ?_
  refine x_iast dX1_add_61 (fun M20 => ?_)
  refine x_aload_n dX1_add_62 rfl ?_
  refine x_dup dX1_add_63 (xc1_r _) ?_
  refine gfX1_27 rfl dX1_add_64 (fun x21 => ?_)
  refine x_iconst (v := 1) dX1_add_67 (by decide) ?_
  refine x_iadd dX1_add_68 ?_
  refine pfX1_27 rfl dX1_add_69 (fun M22 => ?_)
  refine x_aload_n dX1_add_72 rfl ?_
  refine x_iconst (v := 0) dX1_add_73 (by decide) ?_
  refine pfX1_30 rfl dX1_add_74 (fun M23 => ?_)
  refine x_aload_n dX1_add_77 rfl ?_
  refine gfX1_27 rfl dX1_add_78 (fun x24 => ?_)
  exact x_iret rfl dX1_add_81
theorem s6 {l : Launch} {d : Nat} {rec : Nat → List Value → Mem → XA} (hS : Nonempty XS) (hs : XSnd l xmt rec d) : Snd1 l 6 (b6 rec) d := by
  intro as M r M' h
  unfold b6 at h
  obtain ⟨a0, as, rfl, h⟩ := aR_inv h
  obtain ⟨a1, as, rfl, h⟩ := aI_inv h
  obtain ⟨a2, as, rfl, h⟩ := aI_inv h
  obtain ⟨a3, as, rfl, h⟩ := aI_inv h
  obtain ⟨a4, as, rfl, h⟩ := aI_inv h
  obtain ⟨a5, as, rfl, h⟩ := aI_inv h
  obtain ⟨rfl, h⟩ := aZ_inv h
  exact xmet (M := M) (as := [va_rf a0, .int a1, .int a2, .int a3, .int a4, .int a5]) (lo := [some (va_rf a0), some (.int a1), some (.int a2), some (.int a3), some (.int a4), some (.int a5)]) 6 xq6 xm6 (by simp only [xargs_rf, xargs_i, xargs_i, xargs_i, xargs_i, xargs_i, xargs]; exact ⟨rfl, ⟨rfl, ⟨rfl, ⟨rfl, ⟨rfl, ⟨rfl, trivial⟩⟩⟩⟩⟩⟩) (by simp only [xargs_rf, xargs_i, xargs_i, xargs_i, xargs_i, xargs_i, xargs]; decide) (fun S G K => x_weak (by exact ⟨rfl, ⟨rfl, ⟨rfl, ⟨rfl, ⟨rfl, ⟨rfl, trivial⟩⟩⟩⟩⟩⟩) (k6 hs a0 a1 a2 a3 a4 a5 M)) h hS
def c14 (rec : Nat → List Value → Mem → XA) (a0 : Option Nat) (a1 : Int32) (M0 : Mem) : XA :=
  gtI (3, 7) M0 a0 6 fun x1 =>
  if x1 < ((1000 : Int32)) then (
    gtI (3, 7) M0 a0 6 fun x2 =>
    gtI (3, 7) M0 a0 5 fun x3 =>
    jn (fun (s4 : Mem) =>
      gtI (3, 7) s4 a0 6 fun x5 =>
      ptI (3, 7) s4 a0 6 (x5 + ((1 : Int32))) fun M6 =>
      gtP (3, 7) M6 a0 3 fun x7 =>
      gtI (3, 7) M6 a0 6 fun x8 =>
      alI 100 M6 x7 (x8 - ((1 : Int32))) fun x9 =>
      some (.int x9, M6)) fun j53 =>
    if x2 < x3 then (
      j53 M0) else (
      gtP (3, 7) M0 a0 3 fun x10 =>
      gtI (3, 7) M0 a0 6 fun x11 =>
      asI 100 M0 x10 x11 (((0 : Int32))) fun M12 =>
      gtP (3, 7) M12 a0 4 fun x13 =>
      gtI (3, 7) M12 a0 6 fun x14 =>
      asI 100 M12 x13 x14 a1 fun M15 =>
      gtI (3, 7) M15 a0 6 fun x16 =>
      ptI (3, 7) M15 a0 5 (x16 + ((1 : Int32))) fun M17 =>
      j53 M17)) else (
    some (.int ((0 : Int32)), M0))
def b14 (rec : Nat → List Value → Mem → XA) (as : List Value) (M0 : Mem) : XA := aR as fun a0 as => aI as fun a1 as => aZ as (c14 rec a0 a1 M0)
set_option maxRecDepth 100000 in
set_option maxHeartbeats 4000000 in
theorem k14 {S : XS} {G : XG} {K : Nat × Nat} {l : Launch} {d : Nat} {rec : Nat → List Value → Mem → XA} (hs : XSnd l xmt rec d) (a0 : Option Nat) (a1 : Int32) (M0 : Mem) : Xe S G K l (yX2_next, cX2_next, 2, some .int) d 0 [some (va_rf a0), some (.int a1)] [] M0 (c14 rec a0 a1 M0) := by
  unfold c14
  refine x_aload_n dX2_next_0 rfl ?_
  refine gfX2_33 rfl dX2_next_1 (fun x1 => ?_)
  refine x_sipush (v := 1000) dX2_next_4 (by decide) ?_
  refine x_icmp_lt (tgt := 12) dX2_next_7 (by decide) (fun _ => ?_) (fun _ => ?_)
  · refine x_aload_n dX2_next_12 rfl ?_
    refine gfX2_33 rfl dX2_next_13 (fun x2 => ?_)
    refine x_aload_n dX2_next_16 rfl ?_
    refine gfX2_29 rfl dX2_next_17 (fun x3 => ?_)
    refine x_jn (σ := Mem) 53 (fun s4 => [some (va_rf a0), none]) (fun s4 => []) (fun s4 => s4) (fun s4 => ?_) (fun j53 hj53 => ?_)
    · refine x_aload_n dX2_next_53 rfl ?_
      refine x_dup dX2_next_54 (xc1_r _) ?_
      refine gfX2_33 rfl dX2_next_55 (fun x5 => ?_)
      refine x_iconst (v := 1) dX2_next_58 (by decide) ?_
      refine x_iadd dX2_next_59 ?_
      refine pfX2_33 rfl dX2_next_60 (fun M6 => ?_)
      refine x_aload_n dX2_next_63 rfl ?_
      refine gfX2_9 rfl dX2_next_64 (fun x7 => ?_)
      refine x_aload_n dX2_next_67 rfl ?_
      refine gfX2_33 rfl dX2_next_68 (fun x8 => ?_)
      refine x_iconst (v := 1) dX2_next_71 (by decide) ?_
      refine x_isub dX2_next_72 ?_
      refine x_iald dX2_next_73 (fun x9 => ?_)
      exact x_iret rfl dX2_next_74
    refine x_icmp_lt (tgt := 53) dX2_next_20 (by decide) (fun _ => ?_) (fun _ => ?_)
    · exact x_weak (by exact ⟨rfl, trivial⟩) (hj53 M0)
    · refine x_aload_n dX2_next_23 rfl ?_
      refine gfX2_9 rfl dX2_next_24 (fun x10 => ?_)
      refine x_aload_n dX2_next_27 rfl ?_
      refine gfX2_33 rfl dX2_next_28 (fun x11 => ?_)
      refine x_iconst (v := 0) dX2_next_31 (by decide) ?_
      refine x_iast dX2_next_32 (fun M12 => ?_)
      refine x_aload_n dX2_next_33 rfl ?_
      refine gfX2_15 rfl dX2_next_34 (fun x13 => ?_)
      refine x_aload_n dX2_next_37 rfl ?_
      refine gfX2_33 rfl dX2_next_38 (fun x14 => ?_)
      refine x_iload_n dX2_next_41 rfl ?_
      refine x_iast dX2_next_42 (fun M15 => ?_)
      refine x_aload_n dX2_next_43 rfl ?_
      refine x_aload_n dX2_next_44 rfl ?_
      refine gfX2_33 rfl dX2_next_45 (fun x16 => ?_)
      refine x_iconst (v := 1) dX2_next_48 (by decide) ?_
      refine x_iadd dX2_next_49 ?_
      refine pfX2_29 rfl dX2_next_50 (fun M17 => ?_)
      exact x_weak (by exact ⟨rfl, trivial⟩) (hj53 M17)
  · refine x_iconst (v := 0) dX2_next_10 (by decide) ?_
    exact x_iret rfl dX2_next_11
theorem s14 {l : Launch} {d : Nat} {rec : Nat → List Value → Mem → XA} (hS : Nonempty XS) (hs : XSnd l xmt rec d) : Snd1 l 14 (b14 rec) d := by
  intro as M r M' h
  unfold b14 at h
  obtain ⟨a0, as, rfl, h⟩ := aR_inv h
  obtain ⟨a1, as, rfl, h⟩ := aI_inv h
  obtain ⟨rfl, h⟩ := aZ_inv h
  exact xmet (M := M) (as := [va_rf a0, .int a1]) (lo := [some (va_rf a0), some (.int a1)]) 14 xq14 xm14 (by simp only [xargs_rf, xargs_i, xargs]; exact ⟨rfl, ⟨rfl, trivial⟩⟩) (by simp only [xargs_rf, xargs_i, xargs]; decide) (fun S G K => x_weak (by exact ⟨rfl, ⟨rfl, trivial⟩⟩) (k14 hs a0 a1 M)) h hS
def c28 (rec : Nat → List Value → Mem → XA) (a0 : Option Nat) (a1 : Int32) (M0 : Mem) : XA :=
  ptI (4, 22) M0 a0 19 ((0 : Int32)) fun M1 =>
  ptZ (4, 22) M1 a0 15 ((0 : Int32)) fun M2 =>
  ptI (4, 22) M2 a0 14 ((0 : Int32)) fun M3 =>
  vC (4, 22) M3 a0 <|
  cV (rec 29 [va_rf a0, .int a1, .int ((0 : Int32)), .int ((0 : Int32)), .int ((-2 : Int32))] M3) fun M4 =>
  lp (fun (s5 : Int32 × Mem) j26 =>
    jn (fun (s6 : Unit) =>
      gtI (4, 22) s5.2 a0 19 fun x7 =>
      jn (fun (s8 : Int32) =>
        rtZ s8 s5.2) fun j138 =>
      if x7 = 0 then (
        j138 ((1 : Int32))) else (
        j138 ((0 : Int32)))) fun j126 =>
    if ((1000000 : Int32)) ≤ s5.1 then (
      j126 ()) else (
      gtI (4, 22) s5.2 a0 14 fun x9 =>
      if x9 ≤ 0 then (
        j126 ()) else (
        gtP (4, 22) s5.2 a0 13 fun x10 =>
        gtI (4, 22) s5.2 a0 14 fun x11 =>
        alP 113 s5.2 x10 (x11 - ((1 : Int32))) fun x12 =>
        gtP (4, 22) s5.2 a0 8 fun x13 =>
        alI 100 s5.2 x12 ((2 : Int32)) fun x14 =>
        alP 111 s5.2 x13 x14 fun x15 =>
        jn (fun (s16 : Mem) =>
          lt (s5.1 + (1 : Int32)) fun (x17 : Int32) =>
          j26 (x17, s16)) fun j120 =>
        jn (fun (s18 : Unit) =>
          ptI (4, 22) s5.2 a0 14 ((0 : Int32)) fun M19 =>
          j120 M19) fun j83 =>
        if x15 = none then (
          j83 ()) else (
          alI 100 s5.2 x12 ((0 : Int32)) fun x20 =>
          if x20 < 0 then (
            j83 ()) else (
            alI 100 s5.2 x12 ((0 : Int32)) fun x21 =>
            gtI (6, 18) s5.2 x15 5 fun x22 =>
            if x21 < x22 then (
              gtI (4, 22) s5.2 a0 15 fun x23 =>
              jn (fun (s24 : Mem) =>
                ptZ (4, 22) s24 a0 15 ((0 : Int32)) fun M25 =>
                vC (4, 22) M25 a0 <|
                cV (rec 31 [va_rf a0, va_rf x15, va_rf x12] M25) fun M26 =>
                j120 M26) fun j108 =>
              if x23 = 0 then (
                vC (4, 22) s5.2 a0 <|
                cI (rec 30 [va_rf a0, va_rf x15, va_rf x12] s5.2) fun x28 M27 =>
                if x28 = 0 then (
                  j120 M27) else (
                  j108 M27)) else (
                j108 s5.2)) else (
              j83 ())))))) 4294967296 ((0 : Int32), M4)
def b28 (rec : Nat → List Value → Mem → XA) (as : List Value) (M0 : Mem) : XA := aR as fun a0 as => aI as fun a1 as => aZ as (c28 rec a0 a1 M0)
set_option maxRecDepth 100000 in
set_option maxHeartbeats 4000000 in
theorem k28 {S : XS} {G : XG} {K : Nat × Nat} {l : Launch} {d : Nat} {rec : Nat → List Value → Mem → XA} (hs : XSnd l xmt rec d) (a0 : Option Nat) (a1 : Int32) (M0 : Mem) : Xe S G K l (yX3_execute, cX3_execute, 5, some .boolean) d 0 [some (va_rf a0), some (.int a1), none, none, none] [] M0 (c28 rec a0 a1 M0) := by
  unfold c28
  refine x_aload_n dX3_execute_0 rfl ?_
  refine x_iconst (v := 0) dX3_execute_1 (by decide) ?_
  refine pfX3_164 rfl dX3_execute_2 (fun M1 => ?_)
  refine x_aload_n dX3_execute_5 rfl ?_
  refine x_iconst (v := 0) dX3_execute_6 (by decide) ?_
  refine pfX3_185 rfl dX3_execute_7 (fun M2 => ?_)
  refine x_aload_n dX3_execute_10 rfl ?_
  refine x_iconst (v := 0) dX3_execute_11 (by decide) ?_
  refine pfX3_188 rfl dX3_execute_12 (fun M3 => ?_)
  refine x_aload_n dX3_execute_15 rfl ?_
  refine x_iload_n dX3_execute_16 rfl ?_
  refine x_iconst (v := 0) dX3_execute_17 (by decide) ?_
  refine x_iconst (v := 0) dX3_execute_18 (by decide) ?_
  refine x_bipush (v := -2) dX3_execute_19 (by decide) ?_
  refine cmX3_191 rfl hs (by decide) dX3_execute_21 (fun M4 => ?_)
  refine x_iconst (v := 0) dX3_execute_24 (by decide) ?_
  refine x_istore_n (lo' := [some (va_rf a0), some (.int a1), some (.int ((0 : Int32))), none, none]) dX3_execute_25 (by decide) rfl rfl ?_
  refine x_weak (by exact ⟨rfl, ⟨rfl, trivial⟩⟩) (x_lp (σ := Int32 × Mem) 26 (fun s5 => [some (va_rf a0), none, some (.int s5.1), none, none]) (fun s5 => []) (fun s5 => s5.2) (fun s5 j26 hj26 => ?_) 4294967296 ((0 : Int32), M4))
  · refine x_iload_n dX3_execute_26 rfl ?_
    refine x_ldc (v := 1000000) dX3_execute_27 lk_constant_X3_195 ?_
    refine x_jn (σ := Unit) 126 (fun s6 => [some (va_rf a0), none, none, none, none]) (fun s6 => []) (fun s6 => s5.2) (fun s6 => ?_) (fun j126 hj126 => ?_)
    · refine x_aload_n dX3_execute_126 rfl ?_
      refine gfX3_164 rfl dX3_execute_127 (fun x7 => ?_)
      refine x_jn (σ := Int32) 138 (fun s8 => [none, none, none, none, none]) (fun s8 => [.int s8]) (fun s8 => s5.2) (fun s8 => ?_) (fun j138 hj138 => ?_)
      · exact x_zret rfl dX3_execute_138
      refine x_if_ne (tgt := 137) dX3_execute_130 (by decide) (fun _ => ?_) (fun _ => ?_)
      · refine x_iconst (v := 1) dX3_execute_133 (by decide) ?_
        refine x_goto (tgt := 138) dX3_execute_134 (by decide) ?_
        exact x_weak (by exact trivial) (hj138 ((1 : Int32)))
      · refine x_iconst (v := 0) dX3_execute_137 (by decide) ?_
        exact x_weak (by exact trivial) (hj138 ((0 : Int32)))
    refine x_icmp_ge (tgt := 126) dX3_execute_29 (by decide) (fun _ => ?_) (fun _ => ?_)
    · exact x_weak (by exact ⟨rfl, trivial⟩) (hj126 ())
    · refine x_aload_n dX3_execute_32 rfl ?_
      refine gfX3_188 rfl dX3_execute_33 (fun x9 => ?_)
      refine x_if_le (tgt := 126) dX3_execute_36 (by decide) (fun _ => ?_) (fun _ => ?_)
      · exact x_weak (by exact ⟨rfl, trivial⟩) (hj126 ())
      · refine x_aload_n dX3_execute_39 rfl ?_
        refine gfX3_43 rfl dX3_execute_40 (fun x10 => ?_)
        refine x_aload_n dX3_execute_43 rfl ?_
        refine gfX3_188 rfl dX3_execute_44 (fun x11 => ?_)
        refine x_iconst (v := 1) dX3_execute_47 (by decide) ?_
        refine x_isub dX3_execute_48 ?_
        refine x_aldg (t := 113) (tn := 8) (by decide) (by decide) rfl rfl dX3_execute_49 (fun x12 => ?_)
        refine x_astore_n (lo' := [some (va_rf a0), none, some (.int s5.1), some (va_rf x12), none]) dX3_execute_50 (by decide) rfl rfl ?_
        refine x_aload_n dX3_execute_51 rfl ?_
        refine gfX3_33 rfl dX3_execute_52 (fun x13 => ?_)
        refine x_aload_n dX3_execute_55 rfl ?_
        refine x_iconst (v := 2) dX3_execute_56 (by decide) ?_
        refine x_iald dX3_execute_57 (fun x14 => ?_)
        refine x_aldq (t := 111) (tn := 6) (by decide) (by decide) rfl dX3_execute_58 (fun x15 => ?_)
        refine x_astore (lo' := [some (va_rf a0), none, some (.int s5.1), some (va_rf x12), some (va_rf x15)]) dX3_execute_59 (by decide) rfl rfl ?_
        refine x_aload dX3_execute_61 rfl ?_
        refine x_jn (σ := Mem) 120 (fun s16 => [some (va_rf a0), none, some (.int s5.1), none, none]) (fun s16 => []) (fun s16 => s16) (fun s16 => ?_) (fun j120 hj120 => ?_)
        · refine x_iincN (v := 1) (lo' := fun x17 => [some (va_rf a0), none, some (.int x17), none, none]) (by decide) dX3_execute_120 rfl (by decide) rfl (fun _ => rfl) (fun x17 => ?_)
          refine x_goto (tgt := 26) dX3_execute_123 (by decide) ?_
          exact x_weak (by exact ⟨rfl, ⟨rfl, trivial⟩⟩) (hj26 (x17, s16))
        refine x_jn (σ := Unit) 83 (fun s18 => [some (va_rf a0), none, some (.int s5.1), none, none]) (fun s18 => []) (fun s18 => s5.2) (fun s18 => ?_) (fun j83 hj83 => ?_)
        · refine x_aload_n dX3_execute_83 rfl ?_
          refine x_iconst (v := 0) dX3_execute_84 (by decide) ?_
          refine pfX3_188 rfl dX3_execute_85 (fun M19 => ?_)
          refine x_goto (tgt := 120) dX3_execute_88 (by decide) ?_
          exact x_weak (by exact ⟨rfl, ⟨rfl, trivial⟩⟩) (hj120 M19)
        refine x_ifnull (tgt := 83) dX3_execute_63 (by decide) (fun _ => ?_) (fun _ => ?_)
        · exact x_weak (by exact ⟨rfl, ⟨rfl, trivial⟩⟩) (hj83 ())
        · refine x_aload_n dX3_execute_66 rfl ?_
          refine x_iconst (v := 0) dX3_execute_67 (by decide) ?_
          refine x_iald dX3_execute_68 (fun x20 => ?_)
          refine x_if_lt (tgt := 83) dX3_execute_69 (by decide) (fun _ => ?_) (fun _ => ?_)
          · exact x_weak (by exact ⟨rfl, ⟨rfl, trivial⟩⟩) (hj83 ())
          · refine x_aload_n dX3_execute_72 rfl ?_
            refine x_iconst (v := 0) dX3_execute_73 (by decide) ?_
            refine x_iald dX3_execute_74 (fun x21 => ?_)
            refine x_aload dX3_execute_75 rfl ?_
            refine gfX3_196 rfl dX3_execute_77 (fun x22 => ?_)
            refine x_icmp_lt (tgt := 91) dX3_execute_80 (by decide) (fun _ => ?_) (fun _ => ?_)
            · refine x_aload_n dX3_execute_91 rfl ?_
              refine gfX3_185 rfl dX3_execute_92 (fun x23 => ?_)
              refine x_jn (σ := Mem) 108 (fun s24 => [some (va_rf a0), none, some (.int s5.1), some (va_rf x12), some (va_rf x15)]) (fun s24 => []) (fun s24 => s24) (fun s24 => ?_) (fun j108 hj108 => ?_)
              · refine x_aload_n dX3_execute_108 rfl ?_
                refine x_iconst (v := 0) dX3_execute_109 (by decide) ?_
                refine pfX3_185 rfl dX3_execute_110 (fun M25 => ?_)
                refine x_aload_n dX3_execute_113 rfl ?_
                refine x_aload dX3_execute_114 rfl ?_
                refine x_aload_n dX3_execute_116 rfl ?_
                refine cmX3_202 rfl hs (by decide) dX3_execute_117 (fun M26 => ?_)
                exact x_weak (by exact ⟨rfl, ⟨rfl, trivial⟩⟩) (hj120 M26)
              refine x_if_ne (tgt := 108) dX3_execute_95 (by decide) (fun _ => ?_) (fun _ => ?_)
              · refine x_aload_n dX3_execute_98 rfl ?_
                refine x_aload dX3_execute_99 rfl ?_
                refine x_aload_n dX3_execute_101 rfl ?_
                refine cmX3_198 rfl hs (by decide) dX3_execute_102 (fun x28 M27 => ?_)
                refine x_if_eq (tgt := 120) dX3_execute_105 (by decide) (fun _ => ?_) (fun _ => ?_)
                · exact x_weak (by exact ⟨rfl, ⟨rfl, trivial⟩⟩) (hj120 M27)
                · exact x_weak (by exact ⟨rfl, ⟨rfl, ⟨rfl, ⟨rfl, trivial⟩⟩⟩⟩) (hj108 M27)
              · exact x_weak (by exact ⟨rfl, ⟨rfl, ⟨rfl, ⟨rfl, trivial⟩⟩⟩⟩) (hj108 s5.2)
            · exact x_weak (by exact ⟨rfl, ⟨rfl, trivial⟩⟩) (hj83 ())
theorem s28 {l : Launch} {d : Nat} {rec : Nat → List Value → Mem → XA} (hS : Nonempty XS) (hs : XSnd l xmt rec d) : Snd1 l 28 (b28 rec) d := by
  intro as M r M' h
  unfold b28 at h
  obtain ⟨a0, as, rfl, h⟩ := aR_inv h
  obtain ⟨a1, as, rfl, h⟩ := aI_inv h
  obtain ⟨rfl, h⟩ := aZ_inv h
  exact xmet (M := M) (as := [va_rf a0, .int a1]) (lo := [some (va_rf a0), some (.int a1)]) 28 xq28 xm28 (by simp only [xargs_rf, xargs_i, xargs]; exact ⟨rfl, ⟨rfl, trivial⟩⟩) (by simp only [xargs_rf, xargs_i, xargs]; decide) (fun S G K => x_weak (by exact ⟨rfl, ⟨rfl, trivial⟩⟩) (k28 hs a0 a1 M)) h hS
def c32 (rec : Nat → List Value → Mem → XA) (a0 : Option Nat) (a1 : Int32) (M0 : Mem) : XA :=
  gtI (4, 22) M0 a0 12 fun x1 =>
  jn (fun (s2 : Mem) =>
    some (.null, s2)) fun j39 =>
  if x1 < 0 then (
    j39 M0) else (
    gtI (4, 22) M0 a0 12 fun x3 =>
    gtP (4, 22) M0 a0 11 fun x4 =>
    aln M0 x4 fun x5 =>
    if x5 ≤ x3 then (
      j39 M0) else (
      gtP (4, 22) M0 a0 11 fun x6 =>
      gtI (4, 22) M0 a0 12 fun x7 =>
      asI 100 M0 x6 x7 a1 fun M8 =>
      gtI (4, 22) M8 a0 12 fun x9 =>
      ptI (4, 22) M8 a0 12 (x9 + ((1 : Int32))) fun M10 =>
      j39 M10))
def b32 (rec : Nat → List Value → Mem → XA) (as : List Value) (M0 : Mem) : XA := aR as fun a0 as => aI as fun a1 as => aZ as (c32 rec a0 a1 M0)
set_option maxRecDepth 100000 in
set_option maxHeartbeats 4000000 in
theorem k32 {S : XS} {G : XG} {K : Nat × Nat} {l : Launch} {d : Nat} {rec : Nat → List Value → Mem → XA} (hs : XSnd l xmt rec d) (a0 : Option Nat) (a1 : Int32) (M0 : Mem) : Xe S G K l (yX3_push, cX3_push, 2, none) d 0 [some (va_rf a0), some (.int a1)] [] M0 (c32 rec a0 a1 M0) := by
  unfold c32
  refine x_aload_n dX3_push_0 rfl ?_
  refine gfX3_206 rfl dX3_push_1 (fun x1 => ?_)
  refine x_jn (σ := Mem) 39 (fun s2 => [none, none]) (fun s2 => []) (fun s2 => s2) (fun s2 => ?_) (fun j39 hj39 => ?_)
  · exact x_vret rfl dX3_push_39
  refine x_if_lt (tgt := 39) dX3_push_4 (by decide) (fun _ => ?_) (fun _ => ?_)
  · exact x_weak (by exact trivial) (hj39 M0)
  · refine x_aload_n dX3_push_7 rfl ?_
    refine gfX3_206 rfl dX3_push_8 (fun x3 => ?_)
    refine x_aload_n dX3_push_11 rfl ?_
    refine gfX3_37 rfl dX3_push_12 (fun x4 => ?_)
    refine x_alen dX3_push_15 (fun x5 => ?_)
    refine x_icmp_ge (tgt := 39) dX3_push_16 (by decide) (fun _ => ?_) (fun _ => ?_)
    · exact x_weak (by exact trivial) (hj39 M0)
    · refine x_aload_n dX3_push_19 rfl ?_
      refine gfX3_37 rfl dX3_push_20 (fun x6 => ?_)
      refine x_aload_n dX3_push_23 rfl ?_
      refine gfX3_206 rfl dX3_push_24 (fun x7 => ?_)
      refine x_iload_n dX3_push_27 rfl ?_
      refine x_iast dX3_push_28 (fun M8 => ?_)
      refine x_aload_n dX3_push_29 rfl ?_
      refine x_dup dX3_push_30 (xc1_r _) ?_
      refine gfX3_206 rfl dX3_push_31 (fun x9 => ?_)
      refine x_iconst (v := 1) dX3_push_34 (by decide) ?_
      refine x_iadd dX3_push_35 ?_
      refine pfX3_206 rfl dX3_push_36 (fun M10 => ?_)
      exact x_weak (by exact trivial) (hj39 M10)
theorem s32 {l : Launch} {d : Nat} {rec : Nat → List Value → Mem → XA} (hS : Nonempty XS) (hs : XSnd l xmt rec d) : Snd1 l 32 (b32 rec) d := by
  intro as M r M' h
  unfold b32 at h
  obtain ⟨a0, as, rfl, h⟩ := aR_inv h
  obtain ⟨a1, as, rfl, h⟩ := aI_inv h
  obtain ⟨rfl, h⟩ := aZ_inv h
  exact xmet (M := M) (as := [va_rf a0, .int a1]) (lo := [some (va_rf a0), some (.int a1)]) 32 xq32 xm32 (by simp only [xargs_rf, xargs_i, xargs]; exact ⟨rfl, ⟨rfl, trivial⟩⟩) (by simp only [xargs_rf, xargs_i, xargs]; decide) (fun S G K => x_weak (by exact ⟨rfl, ⟨rfl, trivial⟩⟩) (k32 hs a0 a1 M)) h hS
def c33 (rec : Nat → List Value → Mem → XA) (a0 : Option Nat) (M0 : Mem) : XA :=
  gtI (4, 22) M0 a0 12 fun x1 =>
  jn (fun (s2 : Unit) =>
    some (.int ((0 : Int32)), M0)) fun j19 =>
  if x1 ≤ 0 then (
    j19 ()) else (
    gtI (4, 22) M0 a0 12 fun x3 =>
    gtP (4, 22) M0 a0 11 fun x4 =>
    aln M0 x4 fun x5 =>
    if x3 ≤ x5 then (
      gtI (4, 22) M0 a0 12 fun x6 =>
      ptI (4, 22) M0 a0 12 (x6 - ((1 : Int32))) fun M7 =>
      gtP (4, 22) M7 a0 11 fun x8 =>
      gtI (4, 22) M7 a0 12 fun x9 =>
      alI 100 M7 x8 x9 fun x10 =>
      some (.int x10, M7)) else (
      j19 ()))
def b33 (rec : Nat → List Value → Mem → XA) (as : List Value) (M0 : Mem) : XA := aR as fun a0 as => aZ as (c33 rec a0 M0)
set_option maxRecDepth 100000 in
set_option maxHeartbeats 4000000 in
theorem k33 {S : XS} {G : XG} {K : Nat × Nat} {l : Launch} {d : Nat} {rec : Nat → List Value → Mem → XA} (hs : XSnd l xmt rec d) (a0 : Option Nat) (M0 : Mem) : Xe S G K l (yX3_pop, cX3_pop, 1, some .int) d 0 [some (va_rf a0)] [] M0 (c33 rec a0 M0) := by
  unfold c33
  refine x_aload_n dX3_pop_0 rfl ?_
  refine gfX3_206 rfl dX3_pop_1 (fun x1 => ?_)
  refine x_jn (σ := Unit) 19 (fun s2 => [none]) (fun s2 => []) (fun s2 => M0) (fun s2 => ?_) (fun j19 hj19 => ?_)
  · refine x_iconst (v := 0) dX3_pop_19 (by decide) ?_
    exact x_iret rfl dX3_pop_20
  refine x_if_le (tgt := 19) dX3_pop_4 (by decide) (fun _ => ?_) (fun _ => ?_)
  · exact x_weak (by exact trivial) (hj19 ())
  · refine x_aload_n dX3_pop_7 rfl ?_
    refine gfX3_206 rfl dX3_pop_8 (fun x3 => ?_)
    refine x_aload_n dX3_pop_11 rfl ?_
    refine gfX3_37 rfl dX3_pop_12 (fun x4 => ?_)
    refine x_alen dX3_pop_15 (fun x5 => ?_)
    refine x_icmp_le (tgt := 21) dX3_pop_16 (by decide) (fun _ => ?_) (fun _ => ?_)
    · refine x_aload_n dX3_pop_21 rfl ?_
      refine x_dup dX3_pop_22 (xc1_r _) ?_
      refine gfX3_206 rfl dX3_pop_23 (fun x6 => ?_)
      refine x_iconst (v := 1) dX3_pop_26 (by decide) ?_
      refine x_isub dX3_pop_27 ?_
      refine pfX3_206 rfl dX3_pop_28 (fun M7 => ?_)
      refine x_aload_n dX3_pop_31 rfl ?_
      refine gfX3_37 rfl dX3_pop_32 (fun x8 => ?_)
      refine x_aload_n dX3_pop_35 rfl ?_
      refine gfX3_206 rfl dX3_pop_36 (fun x9 => ?_)
      refine x_iald dX3_pop_39 (fun x10 => ?_)
      exact x_iret rfl dX3_pop_40
    · exact x_weak (by exact trivial) (hj19 ())
theorem s33 {l : Launch} {d : Nat} {rec : Nat → List Value → Mem → XA} (hS : Nonempty XS) (hs : XSnd l xmt rec d) : Snd1 l 33 (b33 rec) d := by
  intro as M r M' h
  unfold b33 at h
  obtain ⟨a0, as, rfl, h⟩ := aR_inv h
  obtain ⟨rfl, h⟩ := aZ_inv h
  exact xmet (M := M) (as := [va_rf a0]) (lo := [some (va_rf a0)]) 33 xq33 xm33 (by simp only [xargs_rf, xargs]; exact ⟨rfl, trivial⟩) (by simp only [xargs_rf, xargs]; decide) (fun S G K => x_weak (by exact ⟨rfl, trivial⟩) (k33 hs a0 M)) h hS
def c114 (rec : Nat → List Value → Mem → XA) (a0 : Option Nat) (M0 : Mem) : XA :=
  lp (fun (s1 : Mem) j0 =>
    gtI (9, 8) s1 a0 7 fun x2 =>
    gtI (9, 8) s1 a0 1 fun x3 =>
    jn (fun (s4 : Unit) =>
      some (.null, s1)) fun j66 =>
    if x3 ≤ x2 then (
      j66 ()) else (
      gtP (9, 8) s1 a0 0 fun x5 =>
      gtI (9, 8) s1 a0 7 fun x6 =>
      alI 101 s1 x5 x6 fun x7 =>
      jn (fun (s8 : Unit) =>
        gtI (9, 8) s1 a0 7 fun x9 =>
        ptI (9, 8) s1 a0 7 (x9 + ((1 : Int32))) fun M10 =>
        j0 M10) fun j53 =>
      if x7 = ((10 : Int32)) then (
        j53 ()) else (
        gtP (9, 8) s1 a0 0 fun x11 =>
        gtI (9, 8) s1 a0 7 fun x12 =>
        alI 101 s1 x11 x12 fun x13 =>
        if x13 = ((13 : Int32)) then (
          j53 ()) else (
          gtP (9, 8) s1 a0 0 fun x14 =>
          gtI (9, 8) s1 a0 7 fun x15 =>
          alI 101 s1 x14 x15 fun x16 =>
          if x16 = ((32 : Int32)) then (
            j53 ()) else (
            j66 ()))))) 4294967296 M0
def b114 (rec : Nat → List Value → Mem → XA) (as : List Value) (M0 : Mem) : XA := aR as fun a0 as => aZ as (c114 rec a0 M0)
set_option maxRecDepth 100000 in
set_option maxHeartbeats 4000000 in
theorem k114 {S : XS} {G : XG} {K : Nat × Nat} {l : Launch} {d : Nat} {rec : Nat → List Value → Mem → XA} (hs : XSnd l xmt rec d) (a0 : Option Nat) (M0 : Mem) : Xe S G K l (yX8_skipBlanks, cX8_skipBlanks, 1, none) d 0 [some (va_rf a0)] [] M0 (c114 rec a0 M0) := by
  unfold c114
  refine x_weak (by exact ⟨rfl, trivial⟩) (x_lp (σ := Mem) 0 (fun s1 => [some (va_rf a0)]) (fun s1 => []) (fun s1 => s1) (fun s1 j0 hj0 => ?_) 4294967296 M0)
  · refine x_aload_n dX8_skipBlanks_0 rfl ?_
    refine gfX8_47 rfl dX8_skipBlanks_1 (fun x2 => ?_)
    refine x_aload_n dX8_skipBlanks_4 rfl ?_
    refine gfX8_41 rfl dX8_skipBlanks_5 (fun x3 => ?_)
    refine x_jn (σ := Unit) 66 (fun s4 => [none]) (fun s4 => []) (fun s4 => s1) (fun s4 => ?_) (fun j66 hj66 => ?_)
    · exact x_vret rfl dX8_skipBlanks_66
    refine x_icmp_ge (tgt := 66) dX8_skipBlanks_8 (by decide) (fun _ => ?_) (fun _ => ?_)
    · exact x_weak (by exact trivial) (hj66 ())
    · refine x_aload_n dX8_skipBlanks_11 rfl ?_
      refine gfX8_9 rfl dX8_skipBlanks_12 (fun x5 => ?_)
      refine x_aload_n dX8_skipBlanks_15 rfl ?_
      refine gfX8_47 rfl dX8_skipBlanks_16 (fun x6 => ?_)
      refine x_bald dX8_skipBlanks_19 (fun x7 => ?_)
      refine x_bipush (v := 10) dX8_skipBlanks_20 (by decide) ?_
      refine x_jn (σ := Unit) 53 (fun s8 => [some (va_rf a0)]) (fun s8 => []) (fun s8 => s1) (fun s8 => ?_) (fun j53 hj53 => ?_)
      · refine x_aload_n dX8_skipBlanks_53 rfl ?_
        refine x_dup dX8_skipBlanks_54 (xc1_r _) ?_
        refine gfX8_47 rfl dX8_skipBlanks_55 (fun x9 => ?_)
        refine x_iconst (v := 1) dX8_skipBlanks_58 (by decide) ?_
        refine x_iadd dX8_skipBlanks_59 ?_
        refine pfX8_47 rfl dX8_skipBlanks_60 (fun M10 => ?_)
        refine x_goto (tgt := 0) dX8_skipBlanks_63 (by decide) ?_
        exact x_weak (by exact ⟨rfl, trivial⟩) (hj0 M10)
      refine x_icmp_eq (tgt := 53) dX8_skipBlanks_22 (by decide) (fun _ => ?_) (fun _ => ?_)
      · exact x_weak (by exact ⟨rfl, trivial⟩) (hj53 ())
      · refine x_aload_n dX8_skipBlanks_25 rfl ?_
        refine gfX8_9 rfl dX8_skipBlanks_26 (fun x11 => ?_)
        refine x_aload_n dX8_skipBlanks_29 rfl ?_
        refine gfX8_47 rfl dX8_skipBlanks_30 (fun x12 => ?_)
        refine x_bald dX8_skipBlanks_33 (fun x13 => ?_)
        refine x_bipush (v := 13) dX8_skipBlanks_34 (by decide) ?_
        refine x_icmp_eq (tgt := 53) dX8_skipBlanks_36 (by decide) (fun _ => ?_) (fun _ => ?_)
        · exact x_weak (by exact ⟨rfl, trivial⟩) (hj53 ())
        · refine x_aload_n dX8_skipBlanks_39 rfl ?_
          refine gfX8_9 rfl dX8_skipBlanks_40 (fun x14 => ?_)
          refine x_aload_n dX8_skipBlanks_43 rfl ?_
          refine gfX8_47 rfl dX8_skipBlanks_44 (fun x15 => ?_)
          refine x_bald dX8_skipBlanks_47 (fun x16 => ?_)
          refine x_bipush (v := 32) dX8_skipBlanks_48 (by decide) ?_
          refine x_icmp_ne (tgt := 66) dX8_skipBlanks_50 (by decide) (fun _ => ?_) (fun _ => ?_)
          · exact x_weak (by exact ⟨rfl, trivial⟩) (hj53 ())
          · exact x_weak (by exact trivial) (hj66 ())
theorem s114 {l : Launch} {d : Nat} {rec : Nat → List Value → Mem → XA} (hS : Nonempty XS) (hs : XSnd l xmt rec d) : Snd1 l 114 (b114 rec) d := by
  intro as M r M' h
  unfold b114 at h
  obtain ⟨a0, as, rfl, h⟩ := aR_inv h
  obtain ⟨rfl, h⟩ := aZ_inv h
  exact xmet (M := M) (as := [va_rf a0]) (lo := [some (va_rf a0)]) 114 xq114 xm114 (by simp only [xargs_rf, xargs]; exact ⟨rfl, trivial⟩) (by simp only [xargs_rf, xargs]; decide) (fun S G K => x_weak (by exact ⟨rfl, trivial⟩) (k114 hs a0 M)) h hS
def c219 (rec : Nat → List Value → Mem → XA) (a0 : Option Nat) (M0 : Mem) : XA :=
  gtI (13, 157) M0 a0 36 fun x1 =>
  jn (fun (s2 : Int32) =>
    jn (fun (s3 : Mem) =>
      gtI (13, 157) s3 a0 41 fun x4 =>
      jn (fun (s5 : Mem) =>
        some (.null, s5)) fun j74 =>
      if x4 = 0 then (
        gtI (13, 157) s3 a0 36 fun x6 =>
        jn (fun (s7 : Int32) =>
          vC (13, 157) s3 a0 <|
          cI (rec 193 [va_rf a0, .int s7] s3) fun x9 M8 =>
          if x9 = 0 then (
            j74 M8) else (
            jn (fun (s10 : Int32) =>
              ptI (13, 157) M8 a0 62 s10 fun M11 =>
              vC (13, 157) M11 a0 <|
              cV (rec 191 [va_rf a0] M11) fun M12 =>
              j74 M12) fun j67 =>
            if s2 = 0 then (
              gtI (13, 157) M8 a0 40 fun x13 =>
              j67 x13) else (
              gtI (13, 157) M8 a0 40 fun x14 =>
              j67 (-x14)))) fun j44 =>
        if x6 = ((2 : Int32)) then (
          j44 ((1 : Int32))) else (
          j44 ((0 : Int32)))) else (
        j74 s3)) fun j23 =>
    if s2 = 0 then (
      j23 M0) else (
      vC (13, 157) M0 a0 <|
      cV (rec 191 [va_rf a0] M0) fun M15 =>
      j23 M15)) fun j14 =>
  if x1 = ((45 : Int32)) then (
    j14 ((1 : Int32))) else (
    j14 ((0 : Int32)))
def b219 (rec : Nat → List Value → Mem → XA) (as : List Value) (M0 : Mem) : XA := aR as fun a0 as => aZ as (c219 rec a0 M0)
set_option maxRecDepth 100000 in
set_option maxHeartbeats 4000000 in
theorem k219 {S : XS} {G : XG} {K : Nat × Nat} {l : Launch} {d : Nat} {rec : Nat → List Value → Mem → XA} (hs : XSnd l xmt rec d) (a0 : Option Nat) (M0 : Mem) : Xe S G K l (yX12_signed, cX12_signed, 2, none) d 0 [some (va_rf a0), none] [] M0 (c219 rec a0 M0) := by
  unfold c219
  refine x_aload_n dX12_signed_0 rfl ?_
  refine gfX12_408 rfl dX12_signed_1 (fun x1 => ?_)
  refine x_bipush (v := 45) dX12_signed_4 (by decide) ?_
  refine x_jn (σ := Int32) 14 (fun s2 => [some (va_rf a0), none]) (fun s2 => [.int s2]) (fun s2 => M0) (fun s2 => ?_) (fun j14 hj14 => ?_)
  · refine x_istore_n (lo' := [some (va_rf a0), some (.int s2)]) dX12_signed_14 (by decide) rfl rfl ?_
    refine x_iload_n dX12_signed_15 rfl ?_
    refine x_jn (σ := Mem) 23 (fun s3 => [some (va_rf a0), some (.int s2)]) (fun s3 => []) (fun s3 => s3) (fun s3 => ?_) (fun j23 hj23 => ?_)
    · refine x_aload_n dX12_signed_23 rfl ?_
      refine gfX12_395 rfl dX12_signed_24 (fun x4 => ?_)
      refine x_jn (σ := Mem) 74 (fun s5 => [none, none]) (fun s5 => []) (fun s5 => s5) (fun s5 => ?_) (fun j74 hj74 => ?_)
      · exact x_vret rfl dX12_signed_74
      refine x_if_ne (tgt := 74) dX12_signed_27 (by decide) (fun _ => ?_) (fun _ => ?_)
      · refine x_aload_n dX12_signed_30 rfl ?_
        refine x_aload_n dX12_signed_31 rfl ?_
        refine gfX12_408 rfl dX12_signed_32 (fun x6 => ?_)
        refine x_iconst (v := 2) dX12_signed_35 (by decide) ?_
        refine x_jn (σ := Int32) 44 (fun s7 => [some (va_rf a0), some (.int s2)]) (fun s7 => [.int s7, va_rf a0]) (fun s7 => s3) (fun s7 => ?_) (fun j44 hj44 => ?_)
        · refine cmX12_432 rfl hs (by decide) dX12_signed_44 (fun x9 M8 => ?_)
          refine x_if_eq (tgt := 74) dX12_signed_47 (by decide) (fun _ => ?_) (fun _ => ?_)
          · exact x_weak (by exact trivial) (hj74 M8)
          · refine x_aload_n dX12_signed_50 rfl ?_
            refine x_iload_n dX12_signed_51 rfl ?_
            refine x_jn (σ := Int32) 67 (fun s10 => [some (va_rf a0), none]) (fun s10 => [.int s10, va_rf a0]) (fun s10 => M8) (fun s10 => ?_) (fun j67 hj67 => ?_)
            · refine pfX12_536 rfl dX12_signed_67 (fun M11 => ?_)
              refine x_aload_n dX12_signed_70 rfl ?_
              refine cmX12_436 rfl hs (by decide) dX12_signed_71 (fun M12 => ?_)
              exact x_weak (by exact trivial) (hj74 M12)
            refine x_if_eq (tgt := 63) dX12_signed_52 (by decide) (fun _ => ?_) (fun _ => ?_)
            · refine x_aload_n dX12_signed_63 rfl ?_
              refine gfX12_422 rfl dX12_signed_64 (fun x13 => ?_)
              exact x_weak (by exact ⟨rfl, trivial⟩) (hj67 x13)
            · refine x_aload_n dX12_signed_55 rfl ?_
              refine gfX12_422 rfl dX12_signed_56 (fun x14 => ?_)
              refine x_ineg dX12_signed_59 ?_
              refine x_goto (tgt := 67) dX12_signed_60 (by decide) ?_
              exact x_weak (by exact ⟨rfl, trivial⟩) (hj67 (-x14))
        refine x_icmp_ne (tgt := 43) dX12_signed_36 (by decide) (fun _ => ?_) (fun _ => ?_)
        · refine x_iconst (v := 1) dX12_signed_39 (by decide) ?_
          refine x_goto (tgt := 44) dX12_signed_40 (by decide) ?_
          exact x_weak (by exact ⟨rfl, ⟨rfl, trivial⟩⟩) (hj44 ((1 : Int32)))
        · refine x_iconst (v := 0) dX12_signed_43 (by decide) ?_
          exact x_weak (by exact ⟨rfl, ⟨rfl, trivial⟩⟩) (hj44 ((0 : Int32)))
      · exact x_weak (by exact trivial) (hj74 s3)
    refine x_if_eq (tgt := 23) dX12_signed_16 (by decide) (fun _ => ?_) (fun _ => ?_)
    · exact x_weak (by exact ⟨rfl, ⟨rfl, trivial⟩⟩) (hj23 M0)
    · refine x_aload_n dX12_signed_19 rfl ?_
      refine cmX12_436 rfl hs (by decide) dX12_signed_20 (fun M15 => ?_)
      exact x_weak (by exact ⟨rfl, ⟨rfl, trivial⟩⟩) (hj23 M15)
  refine x_icmp_ne (tgt := 13) dX12_signed_6 (by decide) (fun _ => ?_) (fun _ => ?_)
  · refine x_iconst (v := 1) dX12_signed_9 (by decide) ?_
    refine x_goto (tgt := 14) dX12_signed_10 (by decide) ?_
    exact x_weak (by exact ⟨rfl, trivial⟩) (hj14 ((1 : Int32)))
  · refine x_iconst (v := 0) dX12_signed_13 (by decide) ?_
    exact x_weak (by exact ⟨rfl, trivial⟩) (hj14 ((0 : Int32)))
theorem s219 {l : Launch} {d : Nat} {rec : Nat → List Value → Mem → XA} (hS : Nonempty XS) (hs : XSnd l xmt rec d) : Snd1 l 219 (b219 rec) d := by
  intro as M r M' h
  unfold b219 at h
  obtain ⟨a0, as, rfl, h⟩ := aR_inv h
  obtain ⟨rfl, h⟩ := aZ_inv h
  exact xmet (M := M) (as := [va_rf a0]) (lo := [some (va_rf a0)]) 219 xq219 xm219 (by simp only [xargs_rf, xargs]; exact ⟨rfl, trivial⟩) (by simp only [xargs_rf, xargs]; decide) (fun S G K => x_weak (by exact ⟨rfl, trivial⟩) (k219 hs a0 M)) h hS
def c256 (rec : Nat → List Value → Mem → XA) (a0 : Option Nat) (a1 : Int32) (a2 : Int32) (M0 : Mem) : XA :=
  vC (13, 157) M0 a0 <|
  cI (rec 255 [va_rf a0, .int a1] M0) fun x2 M1 =>
  jn (fun (s3 : Int32 × Mem) =>
    rtZ s3.1 s3.2) fun j29 =>
  jn (fun (s4 : Mem) =>
    j29 ((0 : Int32), s4)) fun j28 =>
  if x2 = 0 then (
    j28 M1) else (
    gtP (13, 157) M1 a0 17 fun x5 =>
    alI 100 M1 x5 a1 fun x6 =>
    cI (rec 184 [.int a2, .int ((0 : Int32)), .int (x6 - ((1 : Int32)))] M1) fun x8 M7 =>
    if x8 = 0 then (
      j28 M7) else (
      j29 ((1 : Int32), M7)))
def b256 (rec : Nat → List Value → Mem → XA) (as : List Value) (M0 : Mem) : XA := aR as fun a0 as => aI as fun a1 as => aI as fun a2 as => aZ as (c256 rec a0 a1 a2 M0)
set_option maxRecDepth 100000 in
set_option maxHeartbeats 4000000 in
theorem k256 {S : XS} {G : XG} {K : Nat × Nat} {l : Launch} {d : Nat} {rec : Nat → List Value → Mem → XA} (hs : XSnd l xmt rec d) (a0 : Option Nat) (a1 : Int32) (a2 : Int32) (M0 : Mem) : Xe S G K l (yX12_isCase, cX12_isCase, 3, some .boolean) d 0 [some (va_rf a0), some (.int a1), some (.int a2)] [] M0 (c256 rec a0 a1 a2 M0) := by
  unfold c256
  refine x_aload_n dX12_isCase_0 rfl ?_
  refine x_iload_n dX12_isCase_1 rfl ?_
  refine cmX12_735 rfl hs (by decide) dX12_isCase_2 (fun x2 M1 => ?_)
  refine x_jn (σ := Int32 × Mem) 29 (fun s3 => [none, none, none]) (fun s3 => [.int s3.1]) (fun s3 => s3.2) (fun s3 => ?_) (fun j29 hj29 => ?_)
  · exact x_zret rfl dX12_isCase_29
  refine x_jn (σ := Mem) 28 (fun s4 => [none, none, none]) (fun s4 => []) (fun s4 => s4) (fun s4 => ?_) (fun j28 hj28 => ?_)
  · refine x_iconst (v := 0) dX12_isCase_28 (by decide) ?_
    exact x_weak (by exact trivial) (hj29 ((0 : Int32), s4))
  refine x_if_eq (tgt := 28) dX12_isCase_5 (by decide) (fun _ => ?_) (fun _ => ?_)
  · exact x_weak (by exact trivial) (hj28 M1)
  · refine x_iload_n dX12_isCase_8 rfl ?_
    refine x_iconst (v := 0) dX12_isCase_9 (by decide) ?_
    refine x_aload_n dX12_isCase_10 rfl ?_
    refine gfX12_58 rfl dX12_isCase_11 (fun x5 => ?_)
    refine x_iload_n dX12_isCase_14 rfl ?_
    refine x_iald dX12_isCase_15 (fun x6 => ?_)
    refine x_iconst (v := 1) dX12_isCase_16 (by decide) ?_
    refine x_isub dX12_isCase_17 ?_
    refine cmX12_381 rfl hs (by decide) dX12_isCase_18 (fun x8 M7 => ?_)
    refine x_if_eq (tgt := 28) dX12_isCase_21 (by decide) (fun _ => ?_) (fun _ => ?_)
    · exact x_weak (by exact trivial) (hj28 M7)
    · refine x_iconst (v := 1) dX12_isCase_24 (by decide) ?_
      refine x_goto (tgt := 29) dX12_isCase_25 (by decide) ?_
      exact x_weak (by exact trivial) (hj29 ((1 : Int32), M7))
theorem s256 {l : Launch} {d : Nat} {rec : Nat → List Value → Mem → XA} (hS : Nonempty XS) (hs : XSnd l xmt rec d) : Snd1 l 256 (b256 rec) d := by
  intro as M r M' h
  unfold b256 at h
  obtain ⟨a0, as, rfl, h⟩ := aR_inv h
  obtain ⟨a1, as, rfl, h⟩ := aI_inv h
  obtain ⟨a2, as, rfl, h⟩ := aI_inv h
  obtain ⟨rfl, h⟩ := aZ_inv h
  exact xmet (M := M) (as := [va_rf a0, .int a1, .int a2]) (lo := [some (va_rf a0), some (.int a1), some (.int a2)]) 256 xq256 xm256 (by simp only [xargs_rf, xargs_i, xargs_i, xargs]; exact ⟨rfl, ⟨rfl, ⟨rfl, trivial⟩⟩⟩) (by simp only [xargs_rf, xargs_i, xargs_i, xargs]; decide) (fun S G K => x_weak (by exact ⟨rfl, ⟨rfl, ⟨rfl, trivial⟩⟩⟩) (k256 hs a0 a1 a2 M)) h hS
def c321 (rec : Nat → List Value → Mem → XA) (a0 : Option Nat) (a1 : Int32) (M0 : Mem) : XA :=
  vS a0 <|
  cI (rec 325 [va_rf a0] M0) fun x2 M1 =>
  if x2 = 0 then (
    gsV a0 fun x3 =>
    cI (rec 338 [va_rf x3, .int a1] M1) fun x5 M4 =>
    rtC x5 M4) else (
    gsV a0 fun x6 =>
    cI (rec 328 [va_rf x6, .int a1] M1) fun x8 M7 =>
    rtC x8 M7)
def b321 (rec : Nat → List Value → Mem → XA) (as : List Value) (M0 : Mem) : XA := aR as fun a0 as => aI as fun a1 as => aZ as (c321 rec a0 a1 M0)
set_option maxRecDepth 100000 in
set_option maxHeartbeats 4000000 in
theorem k321 {S : XS} {G : XG} {K : Nat × Nat} {l : Launch} {d : Nat} {rec : Nat → List Value → Mem → XA} (hs : XSnd l xmt rec d) (a0 : Option Nat) (a1 : Int32) (M0 : Mem) : Xe S G K l (yJ0_charAt_5068e, cJ0_charAt_5068e, 2, some .char) d 0 [some (va_rf a0), some (.int a1)] [] M0 (c321 rec a0 a1 M0) := by
  unfold c321
  refine x_aload_n dJ0_charAt_5068e_0 rfl ?_
  refine cmJ0_492 rfl hs (by decide) dJ0_charAt_5068e_1 (fun x2 M1 => ?_)
  refine x_if_eq (tgt := 16) dJ0_charAt_5068e_4 (by decide) (fun _ => ?_) (fun _ => ?_)
  · refine x_aload_n dJ0_charAt_5068e_16 rfl ?_
    refine x_gsV lsJ0_9 dJ0_charAt_5068e_17 (fun x3 => ?_)
    refine x_iload_n dJ0_charAt_5068e_20 rfl ?_
    refine cmJ0_498 rfl hs (by decide) dJ0_charAt_5068e_21 (fun x5 M4 => ?_)
    exact x_cret rfl dJ0_charAt_5068e_24
  · refine x_aload_n dJ0_charAt_5068e_7 rfl ?_
    refine x_gsV lsJ0_9 dJ0_charAt_5068e_8 (fun x6 => ?_)
    refine x_iload_n dJ0_charAt_5068e_11 rfl ?_
    refine cmJ0_495 rfl hs (by decide) dJ0_charAt_5068e_12 (fun x8 M7 => ?_)
    exact x_cret rfl dJ0_charAt_5068e_15
theorem s321 {l : Launch} {d : Nat} {rec : Nat → List Value → Mem → XA} (hS : Nonempty XS) (hs : XSnd l xmt rec d) : Snd1 l 321 (b321 rec) d := by
  intro as M r M' h
  unfold b321 at h
  obtain ⟨a0, as, rfl, h⟩ := aR_inv h
  obtain ⟨a1, as, rfl, h⟩ := aI_inv h
  obtain ⟨rfl, h⟩ := aZ_inv h
  exact xmet (M := M) (as := [va_rf a0, .int a1]) (lo := [some (va_rf a0), some (.int a1)]) 321 xq321 xm321 (by simp only [xargs_rf, xargs_i, xargs]; exact ⟨rfl, ⟨rfl, trivial⟩⟩) (by simp only [xargs_rf, xargs_i, xargs]; decide) (fun S G K => x_weak (by exact ⟨rfl, ⟨rfl, trivial⟩⟩) (k321 hs a0 a1 M)) h hS
def c326 (rec : Nat → List Value → Mem → XA) (a0 : Int32) (a1 : Int32) (M0 : Mem) : XA :=
  pci a0 a1 <|
  some (.null, M0)
def b326 (rec : Nat → List Value → Mem → XA) (as : List Value) (M0 : Mem) : XA := aI as fun a0 as => aI as fun a1 as => aZ as (c326 rec a0 a1 M0)
set_option maxRecDepth 100000 in
set_option maxHeartbeats 4000000 in
theorem k326 {S : XS} {G : XG} {K : Nat × Nat} {l : Launch} {d : Nat} {rec : Nat → List Value → Mem → XA} (hs : XSnd l xmt rec d) (a0 : Int32) (a1 : Int32) (M0 : Mem) : Xe S G K l (yJ0_checkIndex_df160, cJ0_checkIndex_df160, 2, none) d 0 [some (.int a0), some (.int a1)] [] M0 (c326 rec a0 a1 M0) := by
  unfold c326
  refine x_iload_n dJ0_checkIndex_df160_0 rfl ?_
  refine x_iload_n dJ0_checkIndex_df160_1 rfl ?_
  refine x_pci rfl dJ0_checkIndex_df160_2 dJ0_checkIndex_df160_5 dJ0_checkIndex_df160_8 (by decide) ?_
  exact x_vret rfl dJ0_checkIndex_df160_9
theorem s326 {l : Launch} {d : Nat} {rec : Nat → List Value → Mem → XA} (hS : Nonempty XS) (hs : XSnd l xmt rec d) : Snd1 l 326 (b326 rec) d := by
  intro as M r M' h
  unfold b326 at h
  obtain ⟨a0, as, rfl, h⟩ := aI_inv h
  obtain ⟨a1, as, rfl, h⟩ := aI_inv h
  obtain ⟨rfl, h⟩ := aZ_inv h
  exact xmet (M := M) (as := [.int a0, .int a1]) (lo := [some (.int a0), some (.int a1)]) 326 xq326 xm326 (by simp only [xargs_i, xargs_i, xargs]; exact ⟨rfl, ⟨rfl, trivial⟩⟩) (by simp only [xargs_i, xargs_i, xargs]; decide) (fun S G K => x_weak (by exact ⟨rfl, ⟨rfl, trivial⟩⟩) (k326 hs a0 a1 M)) h hS
def c344 (rec : Nat → List Value → Mem → XA) (a0 : Option Nat) (a1 : Int32) (M0 : Mem) : XA :=
  gtP (0, 3) M0 a0 1 fun x1 =>
  aln M0 x1 fun x2 =>
  jn (fun (s3 : Unit) =>
    cI (rec 358 [.int x2, .int (a1 - x2), .int (x2 >>> (((1 : Int32)) &&& 31))] M0) fun x5 M4 =>
    gtP (0, 3) M4 a0 1 fun x6 =>
    cP (rec 354 [va_rf x6, .int x5] M4) fun x8 M7 =>
    ptP (0, 3) M7 a0 1 x8 fun M9 =>
    some (va_rf x8, M9)) fun j20 =>
  if 0 < x2 then (
    j20 ()) else (
    gtP (0, 3) M0 a0 1 fun x10 =>
    if x10 = ((some 2)) then (
      lt (if ((10 : Int32)) < a1 then a1 else ((10 : Int32))) fun x11 =>
      nA 110 M0 x11 fun x12 M13 =>
      ptP (0, 3) M13 a0 1 x12 fun M14 =>
      some (va_rf x12, M14)) else if acd M0 x10 ((some 2)) = true then (
      j20 ()) else none)
def b344 (rec : Nat → List Value → Mem → XA) (as : List Value) (M0 : Mem) : XA := aR as fun a0 as => aI as fun a1 as => aZ as (c344 rec a0 a1 M0)
set_option maxRecDepth 100000 in
set_option maxHeartbeats 4000000 in
theorem k344 {S : XS} {G : XG} {K : Nat × Nat} {l : Launch} {d : Nat} {rec : Nat → List Value → Mem → XA} (hs : XSnd l xmt rec d) (a0 : Option Nat) (a1 : Int32) (M0 : Mem) : Xe S G K l (yJx4a65c_grow_92f84, cJx4a65c_grow_92f84, 4, some (.array (.object "java/lang/Object"))) d 0 [some (va_rf a0), some (.int a1), none, none] [] M0 (c344 rec a0 a1 M0) := by
  unfold c344
  refine x_aload_n dJx4a65c_grow_92f84_0 rfl ?_
  refine gfJx4a65c_9 rfl dJx4a65c_grow_92f84_1 (fun x1 => ?_)
  refine x_alen dJx4a65c_grow_92f84_4 (fun x2 => ?_)
  refine x_istore_n (lo' := [some (va_rf a0), some (.int a1), some (.int x2), none]) dJx4a65c_grow_92f84_5 (by decide) rfl rfl ?_
  refine x_iload_n dJx4a65c_grow_92f84_6 rfl ?_
  refine x_jn (σ := Unit) 20 (fun s3 => [some (va_rf a0), some (.int a1), some (.int x2), none]) (fun s3 => []) (fun s3 => M0) (fun s3 => ?_) (fun j20 hj20 => ?_)
  · refine x_iload_n dJx4a65c_grow_92f84_20 rfl ?_
    refine x_iload_n dJx4a65c_grow_92f84_21 rfl ?_
    refine x_iload_n dJx4a65c_grow_92f84_22 rfl ?_
    refine x_isub dJx4a65c_grow_92f84_23 ?_
    refine x_iload_n dJx4a65c_grow_92f84_24 rfl ?_
    refine x_iconst (v := 1) dJx4a65c_grow_92f84_25 (by decide) ?_
    refine x_ishr dJx4a65c_grow_92f84_26 ?_
    refine cmJx4a65c_73 rfl hs (by decide) dJx4a65c_grow_92f84_27 (fun x5 M4 => ?_)
    refine x_istore_n (lo' := [some (va_rf a0), some (.int a1), some (.int x2), some (.int x5)]) dJx4a65c_grow_92f84_30 (by decide) rfl rfl ?_
    refine x_aload_n dJx4a65c_grow_92f84_31 rfl ?_
    refine x_aload_n dJx4a65c_grow_92f84_32 rfl ?_
    refine gfJx4a65c_9 rfl dJx4a65c_grow_92f84_33 (fun x6 => ?_)
    refine x_iload_n dJx4a65c_grow_92f84_36 rfl ?_
    refine cmJx4a65c_66 rfl hs (by decide) dJx4a65c_grow_92f84_37 (fun x8 M7 => ?_)
    refine x_dup_x1 dJx4a65c_grow_92f84_40 (xc1_r _) (xc1_r _) ?_
    refine pfJx4a65c_9 rfl dJx4a65c_grow_92f84_41 (fun M9 => ?_)
    exact x_aret rfl rfl dJx4a65c_grow_92f84_44
  refine x_if_gt (tgt := 20) dJx4a65c_grow_92f84_7 (by decide) (fun _ => ?_) (fun _ => ?_)
  · exact x_weak (by exact ⟨rfl, ⟨rfl, ⟨rfl, trivial⟩⟩⟩) (hj20 ())
  · refine x_aload_n dJx4a65c_grow_92f84_10 rfl ?_
    refine gfJx4a65c_9 rfl dJx4a65c_grow_92f84_11 (fun x10 => ?_)
    refine x_gets (v := va_rf (some 2)) z_emp lsJx4a65c_39 dJx4a65c_grow_92f84_14 ?_
    refine x_acmp_eq (tgt := 45) dJx4a65c_grow_92f84_17 (by decide) (fun _ => ?_) (fun _ => ?_)
    · refine x_aload_n dJx4a65c_grow_92f84_45 rfl ?_
      refine x_bipush (v := 10) dJx4a65c_grow_92f84_46 (by decide) ?_
      refine x_iload_n dJx4a65c_grow_92f84_48 rfl ?_
      refine x_mmax lk_methodLink_Jx4a65c_79 w_mmax1 w_mi w_mmax2 (by decide) dJx4a65c_grow_92f84_49 (fun x11 => ?_)
      refine x_newq (t := 110) (tn := 5) (C := "java/lang/Object") (by decide) (by decide) rfl lk_classLink_Jx4a65c_7 xov110 dJx4a65c_grow_92f84_52 (fun x12 M13 => ?_)
      refine x_dup_x1 dJx4a65c_grow_92f84_55 (xc1_r _) (xc1_r _) ?_
      refine pfJx4a65c_9 rfl dJx4a65c_grow_92f84_56 (fun M14 => ?_)
      exact x_aret rfl rfl dJx4a65c_grow_92f84_59
    · exact x_weak (by exact ⟨rfl, ⟨rfl, ⟨rfl, trivial⟩⟩⟩) (hj20 ())
theorem s344 {l : Launch} {d : Nat} {rec : Nat → List Value → Mem → XA} (hS : Nonempty XS) (hs : XSnd l xmt rec d) : Snd1 l 344 (b344 rec) d := by
  intro as M r M' h
  unfold b344 at h
  obtain ⟨a0, as, rfl, h⟩ := aR_inv h
  obtain ⟨a1, as, rfl, h⟩ := aI_inv h
  obtain ⟨rfl, h⟩ := aZ_inv h
  exact xmet (M := M) (as := [va_rf a0, .int a1]) (lo := [some (va_rf a0), some (.int a1)]) 344 xq344 xm344 (by simp only [xargs_rf, xargs_i, xargs]; exact ⟨rfl, ⟨rfl, trivial⟩⟩) (by simp only [xargs_rf, xargs_i, xargs]; decide) (fun S G K => x_weak (by exact ⟨rfl, ⟨rfl, trivial⟩⟩) (k344 hs a0 a1 M)) h hS
def c355 (rec : Nat → List Value → Mem → XA) (a0 : Option Nat) (a1 : Int32) (a2 : Option Nat) (M0 : Mem) : XA :=
  if a2 = ((some 63)) then (
    nA 110 M0 a1 fun x1 M2 =>
    aln M2 a0 fun x3 =>
    lt (if a1 < x3 then a1 else x3) fun x4 =>
    acP M2 a0 ((0 : Int32)) x1 ((0 : Int32)) x4 fun M5 =>
    some (va_rf x1, M5)) else if acd M0 a2 ((some 63)) = true then (
    none) else none
def b355 (rec : Nat → List Value → Mem → XA) (as : List Value) (M0 : Mem) : XA := aR as fun a0 as => aI as fun a1 as => aR as fun a2 as => aZ as (c355 rec a0 a1 a2 M0)
set_option maxRecDepth 100000 in
set_option maxHeartbeats 4000000 in
theorem k355 {S : XS} {G : XG} {K : Nat × Nat} {l : Launch} {d : Nat} {rec : Nat → List Value → Mem → XA} (hs : XSnd l xmt rec d) (a0 : Option Nat) (a1 : Int32) (a2 : Option Nat) (M0 : Mem) : Xe S G K l (yJ7_copyOf_6403c, cJ7_copyOf_6403c, 4, some (.array (.object "java/lang/Object"))) d 0 [some (va_rf a0), some (.int a1), some (va_rf a2), none] [] M0 (c355 rec a0 a1 a2 M0) := by
  unfold c355
  refine x_aload_n dJ7_copyOf_6403c_0 rfl ?_
  refine x_ldcM lk_classLink_J7_110 dJ7_copyOf_6403c_1 ?_
  refine x_acmp_ne (tgt := 13) dJ7_copyOf_6403c_3 (by decide) (fun _ => ?_) (fun _ => ?_)
  · refine x_iload_n dJ7_copyOf_6403c_6 rfl ?_
    refine x_newq (t := 110) (tn := 5) (C := "java/lang/Object") (by decide) (by decide) rfl lk_classLink_J7_2 xov110 dJ7_copyOf_6403c_7 (fun x1 M2 => ?_)
    refine x_goto (tgt := 24) dJ7_copyOf_6403c_10 (by decide) ?_
    refine x_astore_n (lo' := [some (va_rf a0), some (.int a1), some (va_rf a2), some (va_rf x1)]) dJ7_copyOf_6403c_24 (by decide) rfl rfl ?_
    refine x_aload_n dJ7_copyOf_6403c_25 rfl ?_
    refine x_iconst (v := 0) dJ7_copyOf_6403c_26 (by decide) ?_
    refine x_aload_n dJ7_copyOf_6403c_27 rfl ?_
    refine x_iconst (v := 0) dJ7_copyOf_6403c_28 (by decide) ?_
    refine x_aload_n dJ7_copyOf_6403c_29 rfl ?_
    refine x_alen dJ7_copyOf_6403c_30 (fun x3 => ?_)
    refine x_iload_n dJ7_copyOf_6403c_31 rfl ?_
    refine x_mmin lk_methodLink_J7_304 w_mmin1 w_mi w_mmin2 (by decide) dJ7_copyOf_6403c_32 (fun x4 => ?_)
    refine x_acP lk_methodLink_J7_150 w_acn w_acs w_aci hasg110 (by decide) dJ7_copyOf_6403c_35 (fun M5 => ?_)
    refine x_aload_n dJ7_copyOf_6403c_38 rfl ?_
    exact x_aret rfl rfl dJ7_copyOf_6403c_39
  · refine x_aload_n dJ7_copyOf_6403c_13 rfl ?_
    exact x_none
theorem s355 {l : Launch} {d : Nat} {rec : Nat → List Value → Mem → XA} (hS : Nonempty XS) (hs : XSnd l xmt rec d) : Snd1 l 355 (b355 rec) d := by
  intro as M r M' h
  unfold b355 at h
  obtain ⟨a0, as, rfl, h⟩ := aR_inv h
  obtain ⟨a1, as, rfl, h⟩ := aI_inv h
  obtain ⟨a2, as, rfl, h⟩ := aR_inv h
  obtain ⟨rfl, h⟩ := aZ_inv h
  exact xmet (M := M) (as := [va_rf a0, .int a1, va_rf a2]) (lo := [some (va_rf a0), some (.int a1), some (va_rf a2)]) 355 xq355 xm355 (by simp only [xargs_rf, xargs_i, xargs_rf, xargs]; exact ⟨rfl, ⟨rfl, ⟨rfl, trivial⟩⟩⟩) (by simp only [xargs_rf, xargs_i, xargs_rf, xargs]; decide) (fun S G K => x_weak (by exact ⟨rfl, ⟨rfl, ⟨rfl, trivial⟩⟩⟩) (k355 hs a0 a1 a2 M)) h hS
def c356 (rec : Nat → List Value → Mem → XA) (a0 : Option Nat) (a1 : Int32) (M0 : Mem) : XA :=
  aln M0 a0 fun x1 =>
  if a1 = x1 then (
    clI M0 a0 fun x2 M3 =>
    cstA 100 M3 x2 <|
    some (va_rf x2, M3)) else (
    nA 100 M0 a1 fun x4 M5 =>
    aln M5 a0 fun x6 =>
    lt (if a1 < x6 then a1 else x6) fun x7 =>
    acI M5 a0 ((0 : Int32)) x4 ((0 : Int32)) x7 fun M8 =>
    some (va_rf x4, M8))
def b356 (rec : Nat → List Value → Mem → XA) (as : List Value) (M0 : Mem) : XA := aR as fun a0 as => aI as fun a1 as => aZ as (c356 rec a0 a1 M0)
set_option maxRecDepth 100000 in
set_option maxHeartbeats 4000000 in
theorem k356 {S : XS} {G : XG} {K : Nat × Nat} {l : Launch} {d : Nat} {rec : Nat → List Value → Mem → XA} (hs : XSnd l xmt rec d) (a0 : Option Nat) (a1 : Int32) (M0 : Mem) : Xe S G K l (yJ7_copyOf_59c91, cJ7_copyOf_59c91, 3, some (.array .int)) d 0 [some (va_rf a0), some (.int a1), none] [] M0 (c356 rec a0 a1 M0) := by
  unfold c356
  refine x_iload_n dJ7_copyOf_59c91_0 rfl ?_
  refine x_aload_n dJ7_copyOf_59c91_1 rfl ?_
  refine x_alen dJ7_copyOf_59c91_2 (fun x1 => ?_)
  refine x_icmp_ne (tgt := 14) dJ7_copyOf_59c91_3 (by decide) (fun _ => ?_) (fun _ => ?_)
  · refine x_aload_n dJ7_copyOf_59c91_6 rfl ?_
    refine x_clI lk_methodLink_J7_316 w_cl1 w_cl2 w_cl3 w_cl4 (by decide) dJ7_copyOf_59c91_7 (fun x2 M3 => ?_)
    refine x_cstA (t := 100) (by decide) (by decide) nm_100 lk_classLink_J7_317 dJ7_copyOf_59c91_10 ?_
    exact x_aret rfl rfl dJ7_copyOf_59c91_13
  · refine x_iload_n dJ7_copyOf_59c91_14 rfl ?_
    refine x_newa100 dJ7_copyOf_59c91_15 (fun x4 M5 => ?_)
    refine x_astore_n (lo' := [some (va_rf a0), some (.int a1), some (va_rf x4)]) dJ7_copyOf_59c91_17 (by decide) rfl rfl ?_
    refine x_aload_n dJ7_copyOf_59c91_18 rfl ?_
    refine x_iconst (v := 0) dJ7_copyOf_59c91_19 (by decide) ?_
    refine x_aload_n dJ7_copyOf_59c91_20 rfl ?_
    refine x_iconst (v := 0) dJ7_copyOf_59c91_21 (by decide) ?_
    refine x_aload_n dJ7_copyOf_59c91_22 rfl ?_
    refine x_alen dJ7_copyOf_59c91_23 (fun x6 => ?_)
    refine x_iload_n dJ7_copyOf_59c91_24 rfl ?_
    refine x_mmin lk_methodLink_J7_304 w_mmin1 w_mi w_mmin2 (by decide) dJ7_copyOf_59c91_25 (fun x7 => ?_)
    refine x_acI lk_methodLink_J7_150 w_acn w_acs w_aci (by decide) dJ7_copyOf_59c91_28 (fun M8 => ?_)
    refine x_aload_n dJ7_copyOf_59c91_31 rfl ?_
    exact x_aret rfl rfl dJ7_copyOf_59c91_32
theorem s356 {l : Launch} {d : Nat} {rec : Nat → List Value → Mem → XA} (hS : Nonempty XS) (hs : XSnd l xmt rec d) : Snd1 l 356 (b356 rec) d := by
  intro as M r M' h
  unfold b356 at h
  obtain ⟨a0, as, rfl, h⟩ := aR_inv h
  obtain ⟨a1, as, rfl, h⟩ := aI_inv h
  obtain ⟨rfl, h⟩ := aZ_inv h
  exact xmet (M := M) (as := [va_rf a0, .int a1]) (lo := [some (va_rf a0), some (.int a1)]) 356 xq356 xm356 (by simp only [xargs_rf, xargs_i, xargs]; exact ⟨rfl, ⟨rfl, trivial⟩⟩) (by simp only [xargs_rf, xargs_i, xargs]; decide) (fun S G K => x_weak (by exact ⟨rfl, ⟨rfl, trivial⟩⟩) (k356 hs a0 a1 M)) h hS
