set_option maxRecDepth 100000 in
def c127 (rec : Nat → List Value → Mem → XA) (a0 : Option Nat) (M0 : Mem) : XA :=
  nn a0 <|
  nO (7, 20) M0 fun x1 M2 =>
  vC (7, 20) M2 x1 <|
  cV (rec 60 [va_rf x1] M2) fun M3 =>
  ptP (12, 19) M3 a0 0 x1 fun M4 =>
  nO (0, 3) M4 fun x5 M6 =>
  vC (0, 3) M6 x5 <|
  cV (rec 343 [va_rf x5] M6) fun M7 =>
  ptP (12, 19) M7 a0 1 x5 fun M8 =>
  nO (4, 22) M8 fun x9 M10 =>
  vC (4, 22) M10 x9 <|
  cV (rec 18 [va_rf x9] M10) fun M11 =>
  ptP (12, 19) M11 a0 2 x9 fun M12 =>
  nO (0, 3) M12 fun x13 M14 =>
  vC (0, 3) M14 x13 <|
  cV (rec 343 [va_rf x13] M14) fun M15 =>
  ptP (12, 19) M15 a0 4 x13 fun M16 =>
  nO (0, 3) M16 fun x17 M18 =>
  vC (0, 3) M18 x17 <|
  cV (rec 343 [va_rf x17] M18) fun M19 =>
  ptP (12, 19) M19 a0 5 x17 fun M20 =>
  nO (5, 5) M20 fun x21 M22 =>
  vC (5, 5) M22 x21 <|
  cV (rec 47 [va_rf x21] M22) fun M23 =>
  ptP (12, 19) M23 a0 6 x21 fun M24 =>
  nO (3, 7) M24 fun x25 M26 =>
  vC (3, 7) M26 x25 <|
  cV (rec 11 [va_rf x25] M26) fun M27 =>
  ptP (12, 19) M27 a0 8 x25 fun M28 =>
  nA 100 M28 ((6 : Int32)) fun x29 M30 =>
  ptP (12, 19) M30 a0 11 x29 fun M31 =>
  nA 100 M31 ((6 : Int32)) fun x32 M33 =>
  ptP (12, 19) M33 a0 12 x32 fun M34 =>
  ptI (12, 19) M34 a0 13 ((-2 : Int32)) fun M35 =>
  nA 100 M35 ((16 : Int32)) fun x36 M37 =>
  ptP (12, 19) M37 a0 14 x36 fun M38 =>
  nA 100 M38 ((16 : Int32)) fun x39 M40 =>
  ptP (12, 19) M40 a0 15 x39 fun M41 =>
  nAA 113 100 M41 ((4 : Int32)) ((16 : Int32)) fun x42 M43 =>
  ptP (12, 19) M43 a0 17 x42 fun M44 =>
  nAA 113 100 M44 ((4 : Int32)) ((16 : Int32)) fun x45 M46 =>
  ptP (12, 19) M46 a0 18 x45 fun M47 =>
  some (.null, M47)
def b127 (rec : Nat → List Value → Mem → XA) (as : List Value) (M0 : Mem) : XA := aR as fun a0 as => aZ as (c127 rec a0 M0)
set_option maxRecDepth 100000 in
set_option maxHeartbeats 4000000 in
theorem k127 {S : XS} {G : XG} {K : Nat × Nat} {l : Launch} {d : Nat} {rec : Nat → List Value → Mem → XA} (hs : XSnd l xmt rec d) (a0 : Option Nat) (M0 : Mem) : Xe S G K l (yX11_init, cX11_init, 1, none) d 0 [some (va_rf a0)] [] M0 (c127 rec a0 M0) := by
  unfold c127
  refine x_aload_n dX11_init_0 rfl ?_
  refine xoiX11 rfl (Nat.le_of_ble_eq_true rfl) dX11_init_1 ?_
  refine x_aload_n dX11_init_4 rfl ?_
  refine nwX11_9 rfl dX11_init_5 (fun x1 M2 => ?_)
  refine x_dup dX11_init_8 (xc1_r _) ?_
  refine cmX11_11 rfl hs (Nat.le_of_ble_eq_true rfl) dX11_init_9 (fun M3 => ?_)
  refine pfX11_12 rfl rfl dX11_init_12 (fun M4 => ?_)
  refine x_aload_n dX11_init_15 rfl ?_
  refine nwX11_16 rfl dX11_init_16 (fun x5 M6 => ?_)
  refine x_dup dX11_init_19 (xc1_r _) ?_
  refine cmX11_18 rfl hs (Nat.le_of_ble_eq_true rfl) dX11_init_20 (fun M7 => ?_)
  refine pfX11_19 rfl rfl dX11_init_23 (fun M8 => ?_)
  refine x_aload_n dX11_init_26 rfl ?_
  refine nwX11_23 rfl dX11_init_27 (fun x9 M10 => ?_)
  refine x_dup dX11_init_30 (xc1_r _) ?_
  refine cmX11_25 rfl hs (Nat.le_of_ble_eq_true rfl) dX11_init_31 (fun M11 => ?_)
  refine pfX11_26 rfl rfl dX11_init_34 (fun M12 => ?_)
  refine x_aload_n dX11_init_37 rfl ?_
  refine nwX11_16 rfl dX11_init_38 (fun x13 M14 => ?_)
  refine x_dup dX11_init_41 (xc1_r _) ?_
  refine cmX11_18 rfl hs (Nat.le_of_ble_eq_true rfl) dX11_init_42 (fun M15 => ?_)
  refine pfX11_30 rfl rfl dX11_init_45 (fun M16 => ?_)
  refine x_aload_n dX11_init_48 rfl ?_
  refine nwX11_16 rfl dX11_init_49 (fun x17 M18 => ?_)
  refine x_dup dX11_init_52 (xc1_r _) ?_
  refine cmX11_18 rfl hs (Nat.le_of_ble_eq_true rfl) dX11_init_53 (fun M19 => ?_)
  refine pfX11_33 rfl rfl dX11_init_56 (fun M20 => ?_)
  refine x_aload_n dX11_init_59 rfl ?_
  refine nwX11_36 rfl dX11_init_60 (fun x21 M22 => ?_)
  refine x_dup dX11_init_63 (xc1_r _) ?_
  refine cmX11_38 rfl hs (Nat.le_of_ble_eq_true rfl) dX11_init_64 (fun M23 => ?_)
  refine pfX11_39 rfl rfl dX11_init_67 (fun M24 => ?_)
  refine x_aload_n dX11_init_70 rfl ?_
  refine nwX11_43 rfl dX11_init_71 (fun x25 M26 => ?_)
  refine x_dup dX11_init_74 (xc1_r _) ?_
  refine cmX11_45 rfl hs (Nat.le_of_ble_eq_true rfl) dX11_init_75 (fun M27 => ?_)
  refine pfX11_46 rfl rfl dX11_init_78 (fun M28 => ?_)
  refine x_aload_n dX11_init_81 rfl ?_
  refine x_bipush (v := 6) dX11_init_82 (by decide) ?_
  refine x_newa100 dX11_init_84 (fun x29 M30 => ?_)
  refine pfX11_50 rfl rfl dX11_init_86 (fun M31 => ?_)
  refine x_aload_n dX11_init_89 rfl ?_
  refine x_bipush (v := 6) dX11_init_90 (by decide) ?_
  refine x_newa100 dX11_init_92 (fun x32 M33 => ?_)
  refine pfX11_54 rfl rfl dX11_init_94 (fun M34 => ?_)
  refine x_aload_n dX11_init_97 rfl ?_
  refine x_bipush (v := -2) dX11_init_98 (by decide) ?_
  refine pfX11_57 rfl dX11_init_100 (fun M35 => ?_)
  refine x_aload_n dX11_init_103 rfl ?_
  refine x_bipush (v := 16) dX11_init_104 (by decide) ?_
  refine x_newa100 dX11_init_106 (fun x36 M37 => ?_)
  refine pfX11_61 rfl rfl dX11_init_108 (fun M38 => ?_)
  refine x_aload_n dX11_init_111 rfl ?_
  refine x_bipush (v := 16) dX11_init_112 (by decide) ?_
  refine x_newa100 dX11_init_114 (fun x39 M40 => ?_)
  refine pfX11_64 rfl rfl dX11_init_116 (fun M41 => ?_)
  refine x_aload_n dX11_init_119 rfl ?_
  refine x_iconst (v := 4) dX11_init_120 (by decide) ?_
  refine x_bipush (v := 16) dX11_init_121 (by decide) ?_
  refine x_mna113 lk_classLink_X11_67 dX11_init_123 (fun x42 M43 => ?_)
  refine pfX11_69 rfl rfl dX11_init_127 (fun M44 => ?_)
  refine x_aload_n dX11_init_130 rfl ?_
  refine x_iconst (v := 4) dX11_init_131 (by decide) ?_
  refine x_bipush (v := 16) dX11_init_132 (by decide) ?_
  refine x_mna113 lk_classLink_X11_67 dX11_init_134 (fun x45 M46 => ?_)
  refine pfX11_72 rfl rfl dX11_init_138 (fun M47 => ?_)
  exact x_vret rfl dX11_init_141
theorem s127 {l : Launch} {d : Nat} {rec : Nat → List Value → Mem → XA} (hS : Nonempty XS) (hs : XSnd l xmt rec d) : Snd1 l 127 (b127 rec) d := by
  intro as M r M' h0
  unfold b127 at h0
  obtain ⟨a0, l1, e1, h1⟩ := aR_inv h0
  obtain ⟨ez, h⟩ := aZ_inv h1
  subst ez
  subst e1
  exact xmet (M := M) (as := [va_rf a0]) (lo := [some (va_rf a0)]) 127 xq127 xm127 (by rw [xargs_rf, xargs_nil]; exact ⟨rfl, trivial⟩) (by rw [xargs_rf, xargs_nil]; exact Nat.le_of_ble_eq_true rfl) (fun S G K => x_weak (by exact ⟨rfl, trivial⟩) (k127 hs a0 M)) h hS
set_option maxRecDepth 100000 in
def c128 (rec : Nat → List Value → Mem → XA) (a0 : Option Nat) (a1 : Int32) (a2 : Int32) (a3 : Int32) (a4 : Int32) (a5 : Int32) (M0 : Mem) : XA :=
  gtP (12, 19) M0 a0 0 fun x1 =>
  gtP (7, 20) M0 x1 0 fun x2 =>
  gtI (9, 8) M0 x2 1 fun x3 =>
  if (x3 + ((20 : Int32))) ≤ ((3000 : Int32)) then (
    vC (9, 8) M0 x2 <|
    cV (rec 112 [va_rf x2, .int a1] M0) fun M4 =>
    vC (9, 8) M4 x2 <|
    cV (rec 112 [va_rf x2, .int a2] M4) fun M5 =>
    vC (9, 8) M5 x2 <|
    cV (rec 112 [va_rf x2, .int a3] M5) fun M6 =>
    vC (9, 8) M6 x2 <|
    cV (rec 112 [va_rf x2, .int a4] M6) fun M7 =>
    vC (9, 8) M7 x2 <|
    cV (rec 112 [va_rf x2, .int a5] M7) fun M8 =>
    gtI (9, 8) M8 x2 1 fun x9 =>
    some (.int x9, M8)) else (
    some (.int ((-3 : Int32)), M0))
def b128 (rec : Nat → List Value → Mem → XA) (as : List Value) (M0 : Mem) : XA := aR as fun a0 as => aI as fun a1 as => aI as fun a2 as => aI as fun a3 as => aI as fun a4 as => aI as fun a5 as => aZ as (c128 rec a0 a1 a2 a3 a4 a5 M0)
set_option maxRecDepth 100000 in
set_option maxHeartbeats 4000000 in
theorem k128 {S : XS} {G : XG} {K : Nat × Nat} {l : Launch} {d : Nat} {rec : Nat → List Value → Mem → XA} (hs : XSnd l xmt rec d) (a0 : Option Nat) (a1 : Int32) (a2 : Int32) (a3 : Int32) (a4 : Int32) (a5 : Int32) (M0 : Mem) : Xe S G K l (yX11_feed, cX11_feed, 7, some .int) d 0 [some (va_rf a0), some (.int a1), some (.int a2), some (.int a3), some (.int a4), some (.int a5), none] [] M0 (c128 rec a0 a1 a2 a3 a4 a5 M0) := by
  unfold c128
  refine x_aload_n dX11_feed_0 rfl ?_
  refine gfX11_12 rfl dX11_feed_1 (fun x1 => ?_)
  refine gfX11_75 rfl dX11_feed_4 (fun x2 => ?_)
  refine x_astore (lo' := [some (va_rf a0), some (.int a1), some (.int a2), some (.int a3), some (.int a4), some (.int a5), some (va_rf x2)]) dX11_feed_7 (by decide) rfl rfl ?_
  refine x_aload dX11_feed_9 rfl ?_
  refine gfX11_79 rfl dX11_feed_11 (fun x3 => ?_)
  refine x_bipush (v := 20) dX11_feed_14 (by decide) ?_
  refine x_iadd dX11_feed_16 ?_
  refine x_sipush (v := 3000) dX11_feed_17 (by decide) ?_
  refine x_icmp_le (tgt := 26) dX11_feed_20 (by decide) (fun _ => ?_) (fun _ => ?_)
  · refine x_aload dX11_feed_26 rfl ?_
    refine x_iload_n dX11_feed_28 rfl ?_
    refine cmX11_84 rfl hs (Nat.le_of_ble_eq_true rfl) dX11_feed_29 (fun M4 => ?_)
    refine x_aload dX11_feed_32 rfl ?_
    refine x_iload_n dX11_feed_34 rfl ?_
    refine cmX11_84 rfl hs (Nat.le_of_ble_eq_true rfl) dX11_feed_35 (fun M5 => ?_)
    refine x_aload dX11_feed_38 rfl ?_
    refine x_iload_n dX11_feed_40 rfl ?_
    refine cmX11_84 rfl hs (Nat.le_of_ble_eq_true rfl) dX11_feed_41 (fun M6 => ?_)
    refine x_aload dX11_feed_44 rfl ?_
    refine x_iload dX11_feed_46 rfl ?_
    refine cmX11_84 rfl hs (Nat.le_of_ble_eq_true rfl) dX11_feed_48 (fun M7 => ?_)
    refine x_aload dX11_feed_51 rfl ?_
    refine x_iload dX11_feed_53 rfl ?_
    refine cmX11_84 rfl hs (Nat.le_of_ble_eq_true rfl) dX11_feed_55 (fun M8 => ?_)
    refine x_aload dX11_feed_58 rfl ?_
    refine gfX11_79 rfl dX11_feed_60 (fun x9 => ?_)
    exact x_iret rfl dX11_feed_63
  · refine x_bipush (v := -3) dX11_feed_23 (by decide) ?_
    exact x_iret rfl dX11_feed_25
theorem s128 {l : Launch} {d : Nat} {rec : Nat → List Value → Mem → XA} (hS : Nonempty XS) (hs : XSnd l xmt rec d) : Snd1 l 128 (b128 rec) d := by
  intro as M r M' h0
  unfold b128 at h0
  obtain ⟨a0, l1, e1, h1⟩ := aR_inv h0
  obtain ⟨a1, l2, e2, h2⟩ := aI_inv h1
  obtain ⟨a2, l3, e3, h3⟩ := aI_inv h2
  obtain ⟨a3, l4, e4, h4⟩ := aI_inv h3
  obtain ⟨a4, l5, e5, h5⟩ := aI_inv h4
  obtain ⟨a5, l6, e6, h6⟩ := aI_inv h5
  obtain ⟨ez, h⟩ := aZ_inv h6
  subst ez
  subst e6
  subst e5
  subst e4
  subst e3
  subst e2
  subst e1
  exact xmet (M := M) (as := [va_rf a0, .int a1, .int a2, .int a3, .int a4, .int a5]) (lo := [some (va_rf a0), some (.int a1), some (.int a2), some (.int a3), some (.int a4), some (.int a5)]) 128 xq128 xm128 (by rw [xargs_rf, xargs_i, xargs_i, xargs_i, xargs_i, xargs_i, xargs_nil]; exact ⟨rfl, ⟨rfl, ⟨rfl, ⟨rfl, ⟨rfl, ⟨rfl, trivial⟩⟩⟩⟩⟩⟩) (by rw [xargs_rf, xargs_i, xargs_i, xargs_i, xargs_i, xargs_i, xargs_nil]; exact Nat.le_of_ble_eq_true rfl) (fun S G K => x_weak (by exact ⟨rfl, ⟨rfl, ⟨rfl, ⟨rfl, ⟨rfl, ⟨rfl, trivial⟩⟩⟩⟩⟩⟩) (k128 hs a0 a1 a2 a3 a4 a5 M)) h hS
set_option maxRecDepth 100000 in
def c129 (rec : Nat → List Value → Mem → XA) (a0 : Option Nat) (a1 : Int32) (M0 : Mem) : XA :=
  gtP (12, 19) M0 a0 0 fun x1 =>
  gtP (7, 20) M0 x1 0 fun x2 =>
  jn (fun (s3 : Unit) =>
    some (.int ((-1 : Int32)), M0)) fun j20 =>
  if a1 < 0 then (
    j20 ()) else (
    gtI (9, 8) M0 x2 1 fun x4 =>
    if a1 ≤ x4 then (
      gtI (9, 8) M0 x2 1 fun x5 =>
      ptI (9, 8) M0 x2 1 (x5 - a1) fun M6 =>
      gtI (9, 8) M6 x2 1 fun x7 =>
      some (.int x7, M6)) else (
      j20 ()))
def b129 (rec : Nat → List Value → Mem → XA) (as : List Value) (M0 : Mem) : XA := aR as fun a0 as => aI as fun a1 as => aZ as (c129 rec a0 a1 M0)
set_option maxRecDepth 100000 in
set_option maxHeartbeats 4000000 in
theorem k129 {S : XS} {G : XG} {K : Nat × Nat} {l : Launch} {d : Nat} {rec : Nat → List Value → Mem → XA} (hs : XSnd l xmt rec d) (a0 : Option Nat) (a1 : Int32) (M0 : Mem) : Xe S G K l (yX11_cut, cX11_cut, 3, some .int) d 0 [some (va_rf a0), some (.int a1), none] [] M0 (c129 rec a0 a1 M0) := by
  unfold c129
  refine x_aload_n dX11_cut_0 rfl ?_
  refine gfX11_12 rfl dX11_cut_1 (fun x1 => ?_)
  refine gfX11_75 rfl dX11_cut_4 (fun x2 => ?_)
  refine x_astore_n (lo' := [some (va_rf a0), some (.int a1), some (va_rf x2)]) dX11_cut_7 (by decide) rfl rfl ?_
  refine x_iload_n dX11_cut_8 rfl ?_
  refine x_jn (σ := Unit) 20 (fun s3 => [none, none, none]) (fun s3 => []) (fun s3 => M0) (fun s3 => ?_) (fun j20 hj20 => ?_)
  · refine x_iconst (v := -1) dX11_cut_20 (by decide) ?_
    exact x_iret rfl dX11_cut_21
  refine x_if_lt (tgt := 20) dX11_cut_9 (by decide) (fun _ => ?_) (fun _ => ?_)
  · exact x_weak (by exact trivial) (hj20 ())
  · refine x_iload_n dX11_cut_12 rfl ?_
    refine x_aload_n dX11_cut_13 rfl ?_
    refine gfX11_79 rfl dX11_cut_14 (fun x4 => ?_)
    refine x_icmp_le (tgt := 22) dX11_cut_17 (by decide) (fun _ => ?_) (fun _ => ?_)
    · refine x_aload_n dX11_cut_22 rfl ?_
      refine x_dup dX11_cut_23 (xc1_r _) ?_
      refine gfX11_79 rfl dX11_cut_24 (fun x5 => ?_)
      refine x_iload_n dX11_cut_27 rfl ?_
      refine x_isub dX11_cut_28 ?_
      refine pfX11_79 rfl dX11_cut_29 (fun M6 => ?_)
      refine x_aload_n dX11_cut_32 rfl ?_
      refine gfX11_79 rfl dX11_cut_33 (fun x7 => ?_)
      exact x_iret rfl dX11_cut_36
    · exact x_weak (by exact trivial) (hj20 ())
theorem s129 {l : Launch} {d : Nat} {rec : Nat → List Value → Mem → XA} (hS : Nonempty XS) (hs : XSnd l xmt rec d) : Snd1 l 129 (b129 rec) d := by
  intro as M r M' h0
  unfold b129 at h0
  obtain ⟨a0, l1, e1, h1⟩ := aR_inv h0
  obtain ⟨a1, l2, e2, h2⟩ := aI_inv h1
  obtain ⟨ez, h⟩ := aZ_inv h2
  subst ez
  subst e2
  subst e1
  exact xmet (M := M) (as := [va_rf a0, .int a1]) (lo := [some (va_rf a0), some (.int a1)]) 129 xq129 xm129 (by rw [xargs_rf, xargs_i, xargs_nil]; exact ⟨rfl, ⟨rfl, trivial⟩⟩) (by rw [xargs_rf, xargs_i, xargs_nil]; exact Nat.le_of_ble_eq_true rfl) (fun S G K => x_weak (by exact ⟨rfl, ⟨rfl, trivial⟩⟩) (k129 hs a0 a1 M)) h hS
set_option maxRecDepth 100000 in
def c130 (rec : Nat → List Value → Mem → XA) (a0 : Option Nat) (M0 : Mem) : XA :=
  gtP (12, 19) M0 a0 1 fun x1 =>
  vC (0, 3) M0 x1 <|
  cI (rec 346 [va_rf x1] M0) fun x3 M2 =>
  if x3 < ((8 : Int32)) then (
    gtP (12, 19) M2 a0 0 fun x4 =>
    vC (7, 20) M2 x4 <|
    cV (rec 61 [va_rf x4] M2) fun M5 =>
    gtP (12, 19) M5 a0 0 fun x6 =>
    gtP (7, 20) M5 x6 0 fun x7 =>
    ptI (9, 8) M5 x7 1 ((0 : Int32)) fun M8 =>
    gtP (12, 19) M8 a0 0 fun x9 =>
    gtI (7, 20) M8 x9 10 fun x10 =>
    if x10 = 0 then (
      gtP (12, 19) M8 a0 1 fun x11 =>
      vC (0, 3) M8 x11 <|
      cI (rec 346 [va_rf x11] M8) fun x13 M12 =>
      gtP (12, 19) M12 a0 1 fun x14 =>
      nO (6, 18) M12 fun x15 M16 =>
      gtP (12, 19) M16 a0 0 fun x17 =>
      vC (6, 18) M16 x15 <|
      cV (rec 50 [va_rf x15, va_rf x17, .int x13] M16) fun M18 =>
      vC (0, 3) M18 x14 <|
      cI (rec 350 [va_rf x14, va_rf x15] M18) fun x20 M19 =>
      some (.int x13, M19)) else (
      gtP (12, 19) M8 a0 0 fun x21 =>
      gtI (7, 20) M8 x21 11 fun x22 =>
      some (.int (((-10 : Int32)) - x22), M8))) else (
    some (.int ((-3 : Int32)), M2))
def b130 (rec : Nat → List Value → Mem → XA) (as : List Value) (M0 : Mem) : XA := aR as fun a0 as => aZ as (c130 rec a0 M0)
set_option maxRecDepth 100000 in
set_option maxHeartbeats 4000000 in
theorem k130 {S : XS} {G : XG} {K : Nat × Nat} {l : Launch} {d : Nat} {rec : Nat → List Value → Mem → XA} (hs : XSnd l xmt rec d) (a0 : Option Nat) (M0 : Mem) : Xe S G K l (yX11_parcel, cX11_parcel, 2, some .int) d 0 [some (va_rf a0), none] [] M0 (c130 rec a0 M0) := by
  unfold c130
  refine x_aload_n dX11_parcel_0 rfl ?_
  refine gfX11_19 rfl dX11_parcel_1 (fun x1 => ?_)
  refine cmX11_88 rfl hs (Nat.le_of_ble_eq_true rfl) dX11_parcel_4 (fun x3 M2 => ?_)
  refine x_bipush (v := 8) dX11_parcel_7 (by decide) ?_
  refine x_icmp_lt (tgt := 15) dX11_parcel_9 (by decide) (fun _ => ?_) (fun _ => ?_)
  · refine x_aload_n dX11_parcel_15 rfl ?_
    refine gfX11_12 rfl dX11_parcel_16 (fun x4 => ?_)
    refine cmX11_92 rfl hs (Nat.le_of_ble_eq_true rfl) dX11_parcel_19 (fun M5 => ?_)
    refine x_aload_n dX11_parcel_22 rfl ?_
    refine gfX11_12 rfl dX11_parcel_23 (fun x6 => ?_)
    refine gfX11_75 rfl dX11_parcel_26 (fun x7 => ?_)
    refine x_iconst (v := 0) dX11_parcel_29 (by decide) ?_
    refine pfX11_79 rfl dX11_parcel_30 (fun M8 => ?_)
    refine x_aload_n dX11_parcel_33 rfl ?_
    refine gfX11_12 rfl dX11_parcel_34 (fun x9 => ?_)
    refine gfX11_95 rfl dX11_parcel_37 (fun x10 => ?_)
    refine x_if_eq (tgt := 54) dX11_parcel_40 (by decide) (fun _ => ?_) (fun _ => ?_)
    · refine x_aload_n dX11_parcel_54 rfl ?_
      refine gfX11_19 rfl dX11_parcel_55 (fun x11 => ?_)
      refine cmX11_88 rfl hs (Nat.le_of_ble_eq_true rfl) dX11_parcel_58 (fun x13 M12 => ?_)
      refine x_istore_n (lo' := [some (va_rf a0), some (.int x13)]) dX11_parcel_61 (by decide) (xok_r rfl) rfl ?_
      refine x_aload_n dX11_parcel_62 rfl ?_
      refine gfX11_19 rfl dX11_parcel_63 (fun x14 => ?_)
      refine nwX11_101 rfl dX11_parcel_66 (fun x15 M16 => ?_)
      refine x_dup dX11_parcel_69 (xc1_r _) ?_
      refine x_aload_n dX11_parcel_70 rfl ?_
      refine gfX11_12 rfl dX11_parcel_71 (fun x17 => ?_)
      refine x_iload_n dX11_parcel_74 rfl ?_
      refine cmX11_103 rfl hs (Nat.le_of_ble_eq_true rfl) dX11_parcel_75 (fun M18 => ?_)
      refine cmX11_106 rfl hs (Nat.le_of_ble_eq_true rfl) dX11_parcel_78 (fun x20 M19 => ?_)
      refine x_pop dX11_parcel_81 (xc1_i _) ?_
      refine x_iload_n dX11_parcel_82 rfl ?_
      exact x_iret rfl dX11_parcel_83
    · refine x_bipush (v := -10) dX11_parcel_43 (by decide) ?_
      refine x_aload_n dX11_parcel_45 rfl ?_
      refine gfX11_12 rfl dX11_parcel_46 (fun x21 => ?_)
      refine gfX11_98 rfl dX11_parcel_49 (fun x22 => ?_)
      refine x_isub dX11_parcel_52 ?_
      exact x_iret rfl dX11_parcel_53
  · refine x_bipush (v := -3) dX11_parcel_12 (by decide) ?_
    exact x_iret rfl dX11_parcel_14
theorem s130 {l : Launch} {d : Nat} {rec : Nat → List Value → Mem → XA} (hS : Nonempty XS) (hs : XSnd l xmt rec d) : Snd1 l 130 (b130 rec) d := by
  intro as M r M' h0
  unfold b130 at h0
  obtain ⟨a0, l1, e1, h1⟩ := aR_inv h0
  obtain ⟨ez, h⟩ := aZ_inv h1
  subst ez
  subst e1
  exact xmet (M := M) (as := [va_rf a0]) (lo := [some (va_rf a0)]) 130 xq130 xm130 (by rw [xargs_rf, xargs_nil]; exact ⟨rfl, trivial⟩) (by rw [xargs_rf, xargs_nil]; exact Nat.le_of_ble_eq_true rfl) (fun S G K => x_weak (by exact ⟨rfl, trivial⟩) (k130 hs a0 M)) h hS
set_option maxRecDepth 100000 in
def c131 (rec : Nat → List Value → Mem → XA) (a0 : Option Nat) (M0 : Mem) : XA :=
  gtP (12, 19) M0 a0 0 fun x1 =>
  gtI (7, 20) M0 x1 10 fun x2 =>
  some (.int x2, M0)
def b131 (rec : Nat → List Value → Mem → XA) (as : List Value) (M0 : Mem) : XA := aR as fun a0 as => aZ as (c131 rec a0 M0)
set_option maxRecDepth 100000 in
set_option maxHeartbeats 4000000 in
theorem k131 {S : XS} {G : XG} {K : Nat × Nat} {l : Launch} {d : Nat} {rec : Nat → List Value → Mem → XA} (hs : XSnd l xmt rec d) (a0 : Option Nat) (M0 : Mem) : Xe S G K l (yX11_fault, cX11_fault, 1, some .int) d 0 [some (va_rf a0)] [] M0 (c131 rec a0 M0) := by
  unfold c131
  refine x_aload_n dX11_fault_0 rfl ?_
  refine gfX11_12 rfl dX11_fault_1 (fun x1 => ?_)
  refine gfX11_95 rfl dX11_fault_4 (fun x2 => ?_)
  exact x_iret rfl dX11_fault_7
theorem s131 {l : Launch} {d : Nat} {rec : Nat → List Value → Mem → XA} (hS : Nonempty XS) (hs : XSnd l xmt rec d) : Snd1 l 131 (b131 rec) d := by
  intro as M r M' h0
  unfold b131 at h0
  obtain ⟨a0, l1, e1, h1⟩ := aR_inv h0
  obtain ⟨ez, h⟩ := aZ_inv h1
  subst ez
  subst e1
  exact xmet (M := M) (as := [va_rf a0]) (lo := [some (va_rf a0)]) 131 xq131 xm131 (by rw [xargs_rf, xargs_nil]; exact ⟨rfl, trivial⟩) (by rw [xargs_rf, xargs_nil]; exact Nat.le_of_ble_eq_true rfl) (fun S G K => x_weak (by exact ⟨rfl, trivial⟩) (k131 hs a0 M)) h hS
set_option maxRecDepth 100000 in
def c132 (rec : Nat → List Value → Mem → XA) (a0 : Option Nat) (a1 : Int32) (a2 : Int32) (M0 : Mem) : XA :=
  if a2 = 0 then (
    gtP (12, 19) M0 a0 1 fun x1 =>
    vC (0, 3) M0 x1 <|
    cI (rec 346 [va_rf x1] M0) fun x3 M2 =>
    some (.int x3, M2)) else (
    vC (12, 19) M0 a0 <|
    cP (rec 167 [va_rf a0, .int a1] M0) fun x5 M4 =>
    if x5 = none then (
      some (.int ((-1 : Int32)), M4)) else (
      swI a2 [
       ((1 : Int32), (
          gtP (6, 18) M4 x5 1 fun x6 =>
          vC (0, 3) M4 x6 <|
          cI (rec 346 [va_rf x6] M4) fun x8 M7 =>
          some (.int x8, M7))),
       ((2 : Int32), (
          gtP (6, 18) M4 x5 2 fun x9 =>
          vC (0, 3) M4 x9 <|
          cI (rec 346 [va_rf x9] M4) fun x11 M10 =>
          some (.int x11, M10))),
       ((3 : Int32), (
          gtI (6, 18) M4 x5 5 fun x12 =>
          some (.int x12, M4))),
       ((4 : Int32), (
          gtP (6, 18) M4 x5 3 fun x13 =>
          vC (0, 3) M4 x13 <|
          cI (rec 346 [va_rf x13] M4) fun x15 M14 =>
          some (.int x15, M14))),
       ((5 : Int32), (
          gtP (6, 18) M4 x5 4 fun x16 =>
          vC (0, 3) M4 x16 <|
          cI (rec 346 [va_rf x16] M4) fun x18 M17 =>
          some (.int x18, M17))),
       ((6 : Int32), (
          gtP (6, 18) M4 x5 9 fun x19 =>
          aln M4 x19 fun x20 =>
          some (.int x20, M4)))] (
        some (.int ((-1 : Int32)), M4))))
def b132 (rec : Nat → List Value → Mem → XA) (as : List Value) (M0 : Mem) : XA := aR as fun a0 as => aI as fun a1 as => aI as fun a2 as => aZ as (c132 rec a0 a1 a2 M0)
set_option maxRecDepth 100000 in
set_option maxHeartbeats 4000000 in
theorem k132 {S : XS} {G : XG} {K : Nat × Nat} {l : Launch} {d : Nat} {rec : Nat → List Value → Mem → XA} (hs : XSnd l xmt rec d) (a0 : Option Nat) (a1 : Int32) (a2 : Int32) (M0 : Mem) : Xe S G K l (yX11_count, cX11_count, 4, some .int) d 0 [some (va_rf a0), some (.int a1), some (.int a2), none] [] M0 (c132 rec a0 a1 a2 M0) := by
  unfold c132
  refine x_iload_n dX11_count_0 rfl ?_
  refine x_if_ne (tgt := 12) dX11_count_1 (by decide) (fun _ => ?_) (fun _ => ?_)
  · refine x_aload_n dX11_count_4 rfl ?_
    refine gfX11_19 rfl dX11_count_5 (fun x1 => ?_)
    refine cmX11_88 rfl hs (Nat.le_of_ble_eq_true rfl) dX11_count_8 (fun x3 M2 => ?_)
    exact x_iret rfl dX11_count_11
  · refine x_aload_n dX11_count_12 rfl ?_
    refine x_iload_n dX11_count_13 rfl ?_
    refine cmX11_109 rfl hs (Nat.le_of_ble_eq_true rfl) dX11_count_14 (fun x5 M4 => ?_)
    refine x_astore_n (lo' := [some (va_rf a0), some (.int a1), some (.int a2), some (va_rf x5)]) dX11_count_17 (by decide) rfl rfl ?_
    refine x_aload_n dX11_count_18 rfl ?_
    refine x_ifnonnull (tgt := 24) dX11_count_19 (by decide) (fun _ => ?_) (fun _ => ?_)
    · refine x_iconst (v := -1) dX11_count_22 (by decide) ?_
      exact x_iret rfl dX11_count_23
    · refine x_iload_n dX11_count_24 rfl ?_
      refine x_table (tgt := 107) dX11_count_25 [(1, 64), (2, 72), (3, 80), (4, 85), (5, 93), (6, 101)] (by decide +kernel) (by decide +kernel) (by decide) ?_ ?_
      · refine swG_d (by decide) ?_ (swG_d (by decide) ?_ (swG_d (by decide) ?_ (swG_d (by decide) ?_ (swG_d (by decide) ?_ (swG_d (by decide) ?_ (trivial))))))
        · refine x_aload_n dX11_count_64 rfl ?_
          refine gfX11_113 rfl dX11_count_65 (fun x6 => ?_)
          refine cmX11_88 rfl hs (Nat.le_of_ble_eq_true rfl) dX11_count_68 (fun x8 M7 => ?_)
          exact x_iret rfl dX11_count_71
        · refine x_aload_n dX11_count_72 rfl ?_
          refine gfX11_116 rfl dX11_count_73 (fun x9 => ?_)
          refine cmX11_88 rfl hs (Nat.le_of_ble_eq_true rfl) dX11_count_76 (fun x11 M10 => ?_)
          exact x_iret rfl dX11_count_79
        · refine x_aload_n dX11_count_80 rfl ?_
          refine gfX11_119 rfl dX11_count_81 (fun x12 => ?_)
          exact x_iret rfl dX11_count_84
        · refine x_aload_n dX11_count_85 rfl ?_
          refine gfX11_121 rfl dX11_count_86 (fun x13 => ?_)
          refine cmX11_88 rfl hs (Nat.le_of_ble_eq_true rfl) dX11_count_89 (fun x15 M14 => ?_)
          exact x_iret rfl dX11_count_92
        · refine x_aload_n dX11_count_93 rfl ?_
          refine gfX11_124 rfl dX11_count_94 (fun x16 => ?_)
          refine cmX11_88 rfl hs (Nat.le_of_ble_eq_true rfl) dX11_count_97 (fun x18 M17 => ?_)
          exact x_iret rfl dX11_count_100
        · refine x_aload_n dX11_count_101 rfl ?_
          refine gfX11_127 rfl dX11_count_102 (fun x19 => ?_)
          refine x_alen dX11_count_105 (fun x20 => ?_)
          exact x_iret rfl dX11_count_106
      · refine x_iconst (v := -1) dX11_count_107 (by decide) ?_
        exact x_iret rfl dX11_count_108
theorem s132 {l : Launch} {d : Nat} {rec : Nat → List Value → Mem → XA} (hS : Nonempty XS) (hs : XSnd l xmt rec d) : Snd1 l 132 (b132 rec) d := by
  intro as M r M' h0
  unfold b132 at h0
  obtain ⟨a0, l1, e1, h1⟩ := aR_inv h0
  obtain ⟨a1, l2, e2, h2⟩ := aI_inv h1
  obtain ⟨a2, l3, e3, h3⟩ := aI_inv h2
  obtain ⟨ez, h⟩ := aZ_inv h3
  subst ez
  subst e3
  subst e2
  subst e1
  exact xmet (M := M) (as := [va_rf a0, .int a1, .int a2]) (lo := [some (va_rf a0), some (.int a1), some (.int a2)]) 132 xq132 xm132 (by rw [xargs_rf, xargs_i, xargs_i, xargs_nil]; exact ⟨rfl, ⟨rfl, ⟨rfl, trivial⟩⟩⟩) (by rw [xargs_rf, xargs_i, xargs_i, xargs_nil]; exact Nat.le_of_ble_eq_true rfl) (fun S G K => x_weak (by exact ⟨rfl, ⟨rfl, ⟨rfl, trivial⟩⟩⟩) (k132 hs a0 a1 a2 M)) h hS
set_option maxRecDepth 100000 in
def c133 (rec : Nat → List Value → Mem → XA) (a0 : Option Nat) (a1 : Int32) (a2 : Int32) (a3 : Int32) (M0 : Mem) : XA :=
  vC (12, 19) M0 a0 <|
  cP (rec 167 [va_rf a0, .int a1] M0) fun x2 M1 =>
  jn (fun (s3 : Option Nat × Mem) =>
    if s3.1 = none then (
      some (.int ((-1 : Int32)), s3.2)) else (
      swI a3 [
       ((0 : Int32), (
          gtI (8, 9) s3.2 s3.1 1 fun x4 =>
          some (.int x4, s3.2))),
       ((1 : Int32), (
          gtI (8, 9) s3.2 s3.1 2 fun x5 =>
          some (.int x5, s3.2))),
       ((2 : Int32), (
          gtI (8, 9) s3.2 s3.1 3 fun x6 =>
          jn (fun (s7 : Int32) =>
            some (.int s7, s3.2)) fun j93 =>
          if x6 = 0 then (
            j93 ((0 : Int32))) else (
            j93 ((1 : Int32))))),
       ((3 : Int32), (
          gtI (8, 9) s3.2 s3.1 4 fun x8 =>
          some (.int x8, s3.2))),
       ((4 : Int32), (
          gtI (8, 9) s3.2 s3.1 2 fun x9 =>
          jn (fun (s10 : Int32) =>
            some (.int s10, s3.2)) fun j119 =>
          if x9 = ((4 : Int32)) then (
            gtI (8, 9) s3.2 s3.1 5 fun x11 =>
            j119 x11) else (
            j119 ((-2 : Int32)))))] (
        some (.int ((-1 : Int32)), s3.2)))) fun j25 =>
  if x2 = none then (
    j25 (none, M1)) else (
    gtP (6, 18) M1 x2 2 fun x12 =>
    cP (rec 168 [va_rf x12, .int a2] M1) fun x14 M13 =>
    j25 (x14, M13))
def b133 (rec : Nat → List Value → Mem → XA) (as : List Value) (M0 : Mem) : XA := aR as fun a0 as => aI as fun a1 as => aI as fun a2 as => aI as fun a3 as => aZ as (c133 rec a0 a1 a2 a3 M0)
set_option maxRecDepth 100000 in
set_option maxHeartbeats 4000000 in
theorem k133 {S : XS} {G : XG} {K : Nat × Nat} {l : Launch} {d : Nat} {rec : Nat → List Value → Mem → XA} (hs : XSnd l xmt rec d) (a0 : Option Nat) (a1 : Int32) (a2 : Int32) (a3 : Int32) (M0 : Mem) : Xe S G K l (yX11_member, cX11_member, 6, some .int) d 0 [some (va_rf a0), some (.int a1), some (.int a2), some (.int a3), none, none] [] M0 (c133 rec a0 a1 a2 a3 M0) := by
  unfold c133
  refine x_aload_n dX11_member_0 rfl ?_
  refine x_iload_n dX11_member_1 rfl ?_
  refine cmX11_109 rfl hs (Nat.le_of_ble_eq_true rfl) dX11_member_2 (fun x2 M1 => ?_)
  refine x_astore (lo' := [some (va_rf a0), some (.int a1), some (.int a2), some (.int a3), some (va_rf x2), none]) dX11_member_5 (by decide) rfl rfl ?_
  refine x_aload dX11_member_7 rfl ?_
  refine x_jn (σ := Option Nat × Mem) 25 (fun s3 => [none, none, none, some (.int a3), none, none]) (fun s3 => [va_rf s3.1]) (fun s3 => s3.2) (fun s3 => ?_) (fun j25 hj25 => ?_)
  · refine x_astore (lo' := [none, none, none, some (.int a3), none, some (va_rf s3.1)]) dX11_member_25 (by decide) rfl rfl ?_
    refine x_aload dX11_member_27 rfl ?_
    refine x_ifnonnull (tgt := 34) dX11_member_29 (by decide) (fun _ => ?_) (fun _ => ?_)
    · refine x_iconst (v := -1) dX11_member_32 (by decide) ?_
      exact x_iret rfl dX11_member_33
    · refine x_iload_n dX11_member_34 rfl ?_
      refine x_table (tgt := 120) dX11_member_35 [(0, 68), (1, 74), (2, 80), (3, 94), (4, 100)] (by decide +kernel) (by decide +kernel) (by decide) ?_ ?_
      · refine swG_d (by decide) ?_ (swG_d (by decide) ?_ (swG_d (by decide) ?_ (swG_d (by decide) ?_ (swG_d (by decide) ?_ (trivial)))))
        · refine x_aload dX11_member_68 rfl ?_
          refine gfX11_134 rfl dX11_member_70 (fun x4 => ?_)
          exact x_iret rfl dX11_member_73
        · refine x_aload dX11_member_74 rfl ?_
          refine gfX11_139 rfl dX11_member_76 (fun x5 => ?_)
          exact x_iret rfl dX11_member_79
        · refine x_aload dX11_member_80 rfl ?_
          refine gfX11_142 rfl dX11_member_82 (fun x6 => ?_)
          refine x_jn (σ := Int32) 93 (fun s7 => [none, none, none, none, none, none]) (fun s7 => [.int s7]) (fun s7 => s3.2) (fun s7 => ?_) (fun j93 hj93 => ?_)
          · exact x_iret rfl dX11_member_93
          refine x_if_eq (tgt := 92) dX11_member_85 (by decide) (fun _ => ?_) (fun _ => ?_)
          · refine x_iconst (v := 0) dX11_member_92 (by decide) ?_
            exact x_weak (by exact trivial) (hj93 ((0 : Int32)))
          · refine x_iconst (v := 1) dX11_member_88 (by decide) ?_
            refine x_goto (tgt := 93) dX11_member_89 (by decide) ?_
            exact x_weak (by exact trivial) (hj93 ((1 : Int32)))
        · refine x_aload dX11_member_94 rfl ?_
          refine gfX11_146 rfl dX11_member_96 (fun x8 => ?_)
          exact x_iret rfl dX11_member_99
        · refine x_aload dX11_member_100 rfl ?_
          refine gfX11_139 rfl dX11_member_102 (fun x9 => ?_)
          refine x_iconst (v := 4) dX11_member_105 (by decide) ?_
          refine x_jn (σ := Int32) 119 (fun s10 => [none, none, none, none, none, none]) (fun s10 => [.int s10]) (fun s10 => s3.2) (fun s10 => ?_) (fun j119 hj119 => ?_)
          · exact x_iret rfl dX11_member_119
          refine x_icmp_ne (tgt := 117) dX11_member_106 (by decide) (fun _ => ?_) (fun _ => ?_)
          · refine x_aload dX11_member_109 rfl ?_
            refine gfX11_149 rfl dX11_member_111 (fun x11 => ?_)
            refine x_goto (tgt := 119) dX11_member_114 (by decide) ?_
            exact x_weak (by exact trivial) (hj119 x11)
          · refine x_bipush (v := -2) dX11_member_117 (by decide) ?_
            exact x_weak (by exact trivial) (hj119 ((-2 : Int32)))
      · refine x_iconst (v := -1) dX11_member_120 (by decide) ?_
        exact x_iret rfl dX11_member_121
  refine x_ifnonnull (tgt := 16) dX11_member_9 (by decide) (fun _ => ?_) (fun _ => ?_)
  · refine x_null dX11_member_12 ?_
    refine x_goto (tgt := 25) dX11_member_13 (by decide) ?_
    exact x_weak (by exact ⟨rfl, trivial⟩) (hj25 (none, M1))
  · refine x_aload dX11_member_16 rfl ?_
    refine gfX11_116 rfl dX11_member_18 (fun x12 => ?_)
    refine x_iload_n dX11_member_21 rfl ?_
    refine cmX11_130 rfl hs (Nat.le_of_ble_eq_true rfl) dX11_member_22 (fun x14 M13 => ?_)
    exact x_weak (by exact ⟨rfl, trivial⟩) (hj25 (x14, M13))
theorem s133 {l : Launch} {d : Nat} {rec : Nat → List Value → Mem → XA} (hS : Nonempty XS) (hs : XSnd l xmt rec d) : Snd1 l 133 (b133 rec) d := by
  intro as M r M' h0
  unfold b133 at h0
  obtain ⟨a0, l1, e1, h1⟩ := aR_inv h0
  obtain ⟨a1, l2, e2, h2⟩ := aI_inv h1
  obtain ⟨a2, l3, e3, h3⟩ := aI_inv h2
  obtain ⟨a3, l4, e4, h4⟩ := aI_inv h3
  obtain ⟨ez, h⟩ := aZ_inv h4
  subst ez
  subst e4
  subst e3
  subst e2
  subst e1
  exact xmet (M := M) (as := [va_rf a0, .int a1, .int a2, .int a3]) (lo := [some (va_rf a0), some (.int a1), some (.int a2), some (.int a3)]) 133 xq133 xm133 (by rw [xargs_rf, xargs_i, xargs_i, xargs_i, xargs_nil]; exact ⟨rfl, ⟨rfl, ⟨rfl, ⟨rfl, trivial⟩⟩⟩⟩) (by rw [xargs_rf, xargs_i, xargs_i, xargs_i, xargs_nil]; exact Nat.le_of_ble_eq_true rfl) (fun S G K => x_weak (by exact ⟨rfl, ⟨rfl, ⟨rfl, ⟨rfl, trivial⟩⟩⟩⟩) (k133 hs a0 a1 a2 a3 M)) h hS
set_option maxRecDepth 100000 in
def c134 (rec : Nat → List Value → Mem → XA) (a0 : Option Nat) (a1 : Int32) (a2 : Int32) (a3 : Int32) (M0 : Mem) : XA :=
  vC (12, 19) M0 a0 <|
  cP (rec 167 [va_rf a0, .int a1] M0) fun x2 M1 =>
  cP (rec 169 [va_rf x2, .int a2] M1) fun x4 M3 =>
  if x4 = none then (
    some (.int ((-1 : Int32)), M3)) else (
    swI a3 [
     ((0 : Int32), (
        gtI (8, 9) M3 x4 1 fun x5 =>
        some (.int x5, M3))),
     ((1 : Int32), (
        gtI (8, 9) M3 x4 4 fun x6 =>
        some (.int x6, M3))),
     ((2 : Int32), (
        gtI (8, 9) M3 x4 6 fun x7 =>
        some (.int x7, M3))),
     ((3 : Int32), (
        gtI (8, 9) M3 x4 7 fun x8 =>
        jn (fun (s9 : Int32) =>
          some (.int s9, M3)) fun j83 =>
        if x8 = 0 then (
          j83 ((0 : Int32))) else (
          j83 ((1 : Int32))))),
     ((4 : Int32), (
        gtI (8, 9) M3 x4 5 fun x10 =>
        some (.int x10, M3)))] (
      some (.int ((-1 : Int32)), M3)))
def b134 (rec : Nat → List Value → Mem → XA) (as : List Value) (M0 : Mem) : XA := aR as fun a0 as => aI as fun a1 as => aI as fun a2 as => aI as fun a3 as => aZ as (c134 rec a0 a1 a2 a3 M0)
set_option maxRecDepth 100000 in
set_option maxHeartbeats 4000000 in
theorem k134 {S : XS} {G : XG} {K : Nat × Nat} {l : Launch} {d : Nat} {rec : Nat → List Value → Mem → XA} (hs : XSnd l xmt rec d) (a0 : Option Nat) (a1 : Int32) (a2 : Int32) (a3 : Int32) (M0 : Mem) : Xe S G K l (yX11_about, cX11_about, 5, some .int) d 0 [some (va_rf a0), some (.int a1), some (.int a2), some (.int a3), none] [] M0 (c134 rec a0 a1 a2 a3 M0) := by
  unfold c134
  refine x_aload_n dX11_about_0 rfl ?_
  refine x_iload_n dX11_about_1 rfl ?_
  refine cmX11_109 rfl hs (Nat.le_of_ble_eq_true rfl) dX11_about_2 (fun x2 M1 => ?_)
  refine x_iload_n dX11_about_5 rfl ?_
  refine cmX11_152 rfl hs (Nat.le_of_ble_eq_true rfl) dX11_about_6 (fun x4 M3 => ?_)
  refine x_astore (lo' := [some (va_rf a0), some (.int a1), some (.int a2), some (.int a3), some (va_rf x4)]) dX11_about_9 (by decide) rfl rfl ?_
  refine x_aload dX11_about_11 rfl ?_
  refine x_ifnonnull (tgt := 18) dX11_about_13 (by decide) (fun _ => ?_) (fun _ => ?_)
  · refine x_iconst (v := -1) dX11_about_16 (by decide) ?_
    exact x_iret rfl dX11_about_17
  · refine x_iload_n dX11_about_18 rfl ?_
    refine x_table (tgt := 90) dX11_about_19 [(0, 52), (1, 58), (2, 64), (3, 70), (4, 84)] (by decide +kernel) (by decide +kernel) (by decide) ?_ ?_
    · refine swG_d (by decide) ?_ (swG_d (by decide) ?_ (swG_d (by decide) ?_ (swG_d (by decide) ?_ (swG_d (by decide) ?_ (trivial)))))
      · refine x_aload dX11_about_52 rfl ?_
        refine gfX11_134 rfl dX11_about_54 (fun x5 => ?_)
        exact x_iret rfl dX11_about_57
      · refine x_aload dX11_about_58 rfl ?_
        refine gfX11_146 rfl dX11_about_60 (fun x6 => ?_)
        exact x_iret rfl dX11_about_63
      · refine x_aload dX11_about_64 rfl ?_
        refine gfX11_156 rfl dX11_about_66 (fun x7 => ?_)
        exact x_iret rfl dX11_about_69
      · refine x_aload dX11_about_70 rfl ?_
        refine gfX11_159 rfl dX11_about_72 (fun x8 => ?_)
        refine x_jn (σ := Int32) 83 (fun s9 => [none, none, none, none, none]) (fun s9 => [.int s9]) (fun s9 => M3) (fun s9 => ?_) (fun j83 hj83 => ?_)
        · exact x_iret rfl dX11_about_83
        refine x_if_eq (tgt := 82) dX11_about_75 (by decide) (fun _ => ?_) (fun _ => ?_)
        · refine x_iconst (v := 0) dX11_about_82 (by decide) ?_
          exact x_weak (by exact trivial) (hj83 ((0 : Int32)))
        · refine x_iconst (v := 1) dX11_about_78 (by decide) ?_
          refine x_goto (tgt := 83) dX11_about_79 (by decide) ?_
          exact x_weak (by exact trivial) (hj83 ((1 : Int32)))
      · refine x_aload dX11_about_84 rfl ?_
        refine gfX11_149 rfl dX11_about_86 (fun x10 => ?_)
        exact x_iret rfl dX11_about_89
    · refine x_iconst (v := -1) dX11_about_90 (by decide) ?_
      exact x_iret rfl dX11_about_91
theorem s134 {l : Launch} {d : Nat} {rec : Nat → List Value → Mem → XA} (hS : Nonempty XS) (hs : XSnd l xmt rec d) : Snd1 l 134 (b134 rec) d := by
  intro as M r M' h0
  unfold b134 at h0
  obtain ⟨a0, l1, e1, h1⟩ := aR_inv h0
  obtain ⟨a1, l2, e2, h2⟩ := aI_inv h1
  obtain ⟨a2, l3, e3, h3⟩ := aI_inv h2
  obtain ⟨a3, l4, e4, h4⟩ := aI_inv h3
  obtain ⟨ez, h⟩ := aZ_inv h4
  subst ez
  subst e4
  subst e3
  subst e2
  subst e1
  exact xmet (M := M) (as := [va_rf a0, .int a1, .int a2, .int a3]) (lo := [some (va_rf a0), some (.int a1), some (.int a2), some (.int a3)]) 134 xq134 xm134 (by rw [xargs_rf, xargs_i, xargs_i, xargs_i, xargs_nil]; exact ⟨rfl, ⟨rfl, ⟨rfl, ⟨rfl, trivial⟩⟩⟩⟩) (by rw [xargs_rf, xargs_i, xargs_i, xargs_i, xargs_nil]; exact Nat.le_of_ble_eq_true rfl) (fun S G K => x_weak (by exact ⟨rfl, ⟨rfl, ⟨rfl, ⟨rfl, trivial⟩⟩⟩⟩) (k134 hs a0 a1 a2 a3 M)) h hS
set_option maxRecDepth 100000 in
def c135 (rec : Nat → List Value → Mem → XA) (a0 : Option Nat) (a1 : Int32) (a2 : Int32) (a3 : Int32) (a4 : Int32) (M0 : Mem) : XA :=
  vC (12, 19) M0 a0 <|
  cP (rec 167 [va_rf a0, .int a1] M0) fun x2 M1 =>
  jn (fun (s3 : Unit) =>
    some (.int ((-1 : Int32)), M1)) fun j21 =>
  if x2 = none then (
    j21 ()) else (
    if a2 < 0 then (
      j21 ()) else (
      if a2 ≤ ((3 : Int32)) then (
        if a2 = 0 then (
          jn (fun (s4 : Int32 × Mem) =>
            some (.int s4.1, s4.2)) fun j67 =>
          jn (fun (s5 : Mem) =>
            j67 ((-1 : Int32), s5)) fun j43 =>
          if a3 < 0 then (
            j43 M1) else (
            gtP (6, 18) M1 x2 1 fun x6 =>
            vC (0, 3) M1 x6 <|
            cI (rec 346 [va_rf x6] M1) fun x8 M7 =>
            if a3 < x8 then (
              gtP (6, 18) M7 x2 1 fun x9 =>
              vC (0, 3) M7 x9 <|
              cP (rec 348 [va_rf x9, .int a3] M7) fun x11 M10 =>
              cst (11, 10) M10 x11 <|
              gtL (11, 10) M10 x11 0 fun x12 =>
              cI (rec 173 [.long x12, .int a4] M10) fun x14 M13 =>
              j67 (x14, M13)) else (
              j43 M7))) else (
          jn (fun (s15 : Option Nat) =>
            cP (rec 168 [va_rf s15, .int a3] M1) fun x17 M16 =>
            jn (fun (s18 : Int32 × Mem) =>
              some (.int s18.1, s18.2)) fun j124 =>
            if x17 = none then (
              j124 ((-1 : Int32), M16)) else (
              gtL (8, 9) M16 x17 0 fun x19 =>
              cI (rec 173 [.long x19, .int a4] M16) fun x21 M20 =>
              j124 (x21, M20))) fun j99 =>
          if a2 = ((1 : Int32)) then (
            gtP (6, 18) M1 x2 2 fun x22 =>
            j99 x22) else (
            if a2 = ((2 : Int32)) then (
              gtP (6, 18) M1 x2 3 fun x23 =>
              j99 x23) else (
              gtP (6, 18) M1 x2 4 fun x24 =>
              j99 x24)))) else (
        j21 ())))
def b135 (rec : Nat → List Value → Mem → XA) (as : List Value) (M0 : Mem) : XA := aR as fun a0 as => aI as fun a1 as => aI as fun a2 as => aI as fun a3 as => aI as fun a4 as => aZ as (c135 rec a0 a1 a2 a3 a4 M0)
set_option maxRecDepth 100000 in
set_option maxHeartbeats 4000000 in
theorem k135 {S : XS} {G : XG} {K : Nat × Nat} {l : Launch} {d : Nat} {rec : Nat → List Value → Mem → XA} (hs : XSnd l xmt rec d) (a0 : Option Nat) (a1 : Int32) (a2 : Int32) (a3 : Int32) (a4 : Int32) (M0 : Mem) : Xe S G K l (yX11_name, cX11_name, 7, some .int) d 0 [some (va_rf a0), some (.int a1), some (.int a2), some (.int a3), some (.int a4), none, none] [] M0 (c135 rec a0 a1 a2 a3 a4 M0) := by
  unfold c135
  refine x_aload_n dX11_name_0 rfl ?_
  refine x_iload_n dX11_name_1 rfl ?_
  refine cmX11_109 rfl hs (Nat.le_of_ble_eq_true rfl) dX11_name_2 (fun x2 M1 => ?_)
  refine x_astore (lo' := [some (va_rf a0), some (.int a1), some (.int a2), some (.int a3), some (.int a4), some (va_rf x2), none]) dX11_name_5 (by decide) rfl rfl ?_
  refine x_aload dX11_name_7 rfl ?_
  refine x_jn (σ := Unit) 21 (fun s3 => [none, none, none, none, none, none, none]) (fun s3 => []) (fun s3 => M1) (fun s3 => ?_) (fun j21 hj21 => ?_)
  · refine x_iconst (v := -1) dX11_name_21 (by decide) ?_
    exact x_iret rfl dX11_name_22
  refine x_ifnull (tgt := 21) dX11_name_9 (by decide) (fun _ => ?_) (fun _ => ?_)
  · exact x_weak (by exact trivial) (hj21 ())
  · refine x_iload_n dX11_name_12 rfl ?_
    refine x_if_lt (tgt := 21) dX11_name_13 (by decide) (fun _ => ?_) (fun _ => ?_)
    · exact x_weak (by exact trivial) (hj21 ())
    · refine x_iload_n dX11_name_16 rfl ?_
      refine x_iconst (v := 3) dX11_name_17 (by decide) ?_
      refine x_icmp_le (tgt := 23) dX11_name_18 (by decide) (fun _ => ?_) (fun _ => ?_)
      · refine x_iload_n dX11_name_23 rfl ?_
        refine x_if_ne (tgt := 68) dX11_name_24 (by decide) (fun _ => ?_) (fun _ => ?_)
        · refine x_iload_n dX11_name_27 rfl ?_
          refine x_jn (σ := Int32 × Mem) 67 (fun s4 => [none, none, none, none, none, none, none]) (fun s4 => [.int s4.1]) (fun s4 => s4.2) (fun s4 => ?_) (fun j67 hj67 => ?_)
          · exact x_iret rfl dX11_name_67
          refine x_jn (σ := Mem) 43 (fun s5 => [none, none, none, none, none, none, none]) (fun s5 => []) (fun s5 => s5) (fun s5 => ?_) (fun j43 hj43 => ?_)
          · refine x_iconst (v := -1) dX11_name_43 (by decide) ?_
            refine x_goto (tgt := 67) dX11_name_44 (by decide) ?_
            exact x_weak (by exact trivial) (hj67 ((-1 : Int32), s5))
          refine x_if_lt (tgt := 43) dX11_name_28 (by decide) (fun _ => ?_) (fun _ => ?_)
          · exact x_weak (by exact trivial) (hj43 M1)
          · refine x_iload_n dX11_name_31 rfl ?_
            refine x_aload dX11_name_32 rfl ?_
            refine gfX11_113 rfl dX11_name_34 (fun x6 => ?_)
            refine cmX11_88 rfl hs (Nat.le_of_ble_eq_true rfl) dX11_name_37 (fun x8 M7 => ?_)
            refine x_icmp_lt (tgt := 47) dX11_name_40 (by decide) (fun _ => ?_) (fun _ => ?_)
            · refine x_aload dX11_name_47 rfl ?_
              refine gfX11_113 rfl dX11_name_49 (fun x9 => ?_)
              refine x_iload_n dX11_name_52 rfl ?_
              refine cmX11_162 rfl hs (Nat.le_of_ble_eq_true rfl) dX11_name_53 (fun x11 M10 => ?_)
              refine ccX11_166 rfl dX11_name_56 ?_
              refine gfX11_168 rfl dX11_name_59 (fun x12 => ?_)
              refine x_iload dX11_name_62 rfl ?_
              refine cmX11_172 rfl hs (Nat.le_of_ble_eq_true rfl) dX11_name_64 (fun x14 M13 => ?_)
              exact x_weak (by exact trivial) (hj67 (x14, M13))
            · exact x_weak (by exact trivial) (hj43 M7)
        · refine x_iload_n dX11_name_68 rfl ?_
          refine x_iconst (v := 1) dX11_name_69 (by decide) ?_
          refine x_jn (σ := Option Nat) 99 (fun s15 => [none, none, none, some (.int a3), some (.int a4), none, none]) (fun s15 => [va_rf s15]) (fun s15 => M1) (fun s15 => ?_) (fun j99 hj99 => ?_)
          · refine x_iload_n dX11_name_99 rfl ?_
            refine cmX11_130 rfl hs (Nat.le_of_ble_eq_true rfl) dX11_name_100 (fun x17 M16 => ?_)
            refine x_astore (lo' := [none, none, none, some (.int a3), some (.int a4), none, some (va_rf x17)]) dX11_name_103 (by decide) rfl rfl ?_
            refine x_aload dX11_name_105 rfl ?_
            refine x_jn (σ := Int32 × Mem) 124 (fun s18 => [none, none, none, none, none, none, none]) (fun s18 => [.int s18.1]) (fun s18 => s18.2) (fun s18 => ?_) (fun j124 hj124 => ?_)
            · exact x_iret rfl dX11_name_124
            refine x_ifnonnull (tgt := 114) dX11_name_107 (by decide) (fun _ => ?_) (fun _ => ?_)
            · refine x_iconst (v := -1) dX11_name_110 (by decide) ?_
              refine x_goto (tgt := 124) dX11_name_111 (by decide) ?_
              exact x_weak (by exact trivial) (hj124 ((-1 : Int32), M16))
            · refine x_aload dX11_name_114 rfl ?_
              refine gfX11_176 rfl dX11_name_116 (fun x19 => ?_)
              refine x_iload dX11_name_119 rfl ?_
              refine cmX11_172 rfl hs (Nat.le_of_ble_eq_true rfl) dX11_name_121 (fun x21 M20 => ?_)
              exact x_weak (by exact trivial) (hj124 (x21, M20))
          refine x_icmp_ne (tgt := 81) dX11_name_70 (by decide) (fun _ => ?_) (fun _ => ?_)
          · refine x_aload dX11_name_73 rfl ?_
            refine gfX11_116 rfl dX11_name_75 (fun x22 => ?_)
            refine x_goto (tgt := 99) dX11_name_78 (by decide) ?_
            exact x_weak (by exact ⟨rfl, ⟨rfl, trivial⟩⟩) (hj99 x22)
          · refine x_iload_n dX11_name_81 rfl ?_
            refine x_iconst (v := 2) dX11_name_82 (by decide) ?_
            refine x_icmp_ne (tgt := 94) dX11_name_83 (by decide) (fun _ => ?_) (fun _ => ?_)
            · refine x_aload dX11_name_86 rfl ?_
              refine gfX11_121 rfl dX11_name_88 (fun x23 => ?_)
              refine x_goto (tgt := 99) dX11_name_91 (by decide) ?_
              exact x_weak (by exact ⟨rfl, ⟨rfl, trivial⟩⟩) (hj99 x23)
            · refine x_aload dX11_name_94 rfl ?_
              refine gfX11_124 rfl dX11_name_96 (fun x24 => ?_)
              exact x_weak (by exact ⟨rfl, ⟨rfl, trivial⟩⟩) (hj99 x24)
      · exact x_weak (by exact trivial) (hj21 ())
theorem s135 {l : Launch} {d : Nat} {rec : Nat → List Value → Mem → XA} (hS : Nonempty XS) (hs : XSnd l xmt rec d) : Snd1 l 135 (b135 rec) d := by
  intro as M r M' h0
  unfold b135 at h0
  obtain ⟨a0, l1, e1, h1⟩ := aR_inv h0
  obtain ⟨a1, l2, e2, h2⟩ := aI_inv h1
  obtain ⟨a2, l3, e3, h3⟩ := aI_inv h2
  obtain ⟨a3, l4, e4, h4⟩ := aI_inv h3
  obtain ⟨a4, l5, e5, h5⟩ := aI_inv h4
  obtain ⟨ez, h⟩ := aZ_inv h5
  subst ez
  subst e5
  subst e4
  subst e3
  subst e2
  subst e1
  exact xmet (M := M) (as := [va_rf a0, .int a1, .int a2, .int a3, .int a4]) (lo := [some (va_rf a0), some (.int a1), some (.int a2), some (.int a3), some (.int a4)]) 135 xq135 xm135 (by rw [xargs_rf, xargs_i, xargs_i, xargs_i, xargs_i, xargs_nil]; exact ⟨rfl, ⟨rfl, ⟨rfl, ⟨rfl, ⟨rfl, trivial⟩⟩⟩⟩⟩) (by rw [xargs_rf, xargs_i, xargs_i, xargs_i, xargs_i, xargs_nil]; exact Nat.le_of_ble_eq_true rfl) (fun S G K => x_weak (by exact ⟨rfl, ⟨rfl, ⟨rfl, ⟨rfl, ⟨rfl, trivial⟩⟩⟩⟩⟩) (k135 hs a0 a1 a2 a3 a4 M)) h hS
set_option maxRecDepth 100000 in
def c136 (rec : Nat → List Value → Mem → XA) (a0 : Option Nat) (a1 : Int32) (a2 : Int32) (a3 : Int32) (M0 : Mem) : XA :=
  vC (12, 19) M0 a0 <|
  cP (rec 167 [va_rf a0, .int a1] M0) fun x2 M1 =>
  jn (fun (s3 : Unit) =>
    some (.int ((-1 : Int32)), M1)) fun j34 =>
  if x2 = none then (
    j34 ()) else (
    if a2 < 0 then (
      j34 ()) else (
      gtI (6, 18) M1 x2 5 fun x4 =>
      if x4 ≤ a2 then (
        j34 ()) else (
        if a3 < 0 then (
          j34 ()) else (
          if a3 ≤ ((1 : Int32)) then (
            jn (fun (s5 : Int32) =>
              some (.int s5, M1)) fun j57 =>
            if a3 = 0 then (
              gtP (6, 18) M1 x2 6 fun x6 =>
              alI 100 M1 x6 a2 fun x7 =>
              j57 x7) else (
              gtP (6, 18) M1 x2 7 fun x8 =>
              alI 100 M1 x8 a2 fun x9 =>
              j57 x9)) else (
            j34 ())))))
def b136 (rec : Nat → List Value → Mem → XA) (as : List Value) (M0 : Mem) : XA := aR as fun a0 as => aI as fun a1 as => aI as fun a2 as => aI as fun a3 as => aZ as (c136 rec a0 a1 a2 a3 M0)
set_option maxRecDepth 100000 in
set_option maxHeartbeats 4000000 in
theorem k136 {S : XS} {G : XG} {K : Nat × Nat} {l : Launch} {d : Nat} {rec : Nat → List Value → Mem → XA} (hs : XSnd l xmt rec d) (a0 : Option Nat) (a1 : Int32) (a2 : Int32) (a3 : Int32) (M0 : Mem) : Xe S G K l (yX11_code, cX11_code, 5, some .int) d 0 [some (va_rf a0), some (.int a1), some (.int a2), some (.int a3), none] [] M0 (c136 rec a0 a1 a2 a3 M0) := by
  unfold c136
  refine x_aload_n dX11_code_0 rfl ?_
  refine x_iload_n dX11_code_1 rfl ?_
  refine cmX11_109 rfl hs (Nat.le_of_ble_eq_true rfl) dX11_code_2 (fun x2 M1 => ?_)
  refine x_astore (lo' := [some (va_rf a0), some (.int a1), some (.int a2), some (.int a3), some (va_rf x2)]) dX11_code_5 (by decide) rfl rfl ?_
  refine x_aload dX11_code_7 rfl ?_
  refine x_jn (σ := Unit) 34 (fun s3 => [none, none, none, none, none]) (fun s3 => []) (fun s3 => M1) (fun s3 => ?_) (fun j34 hj34 => ?_)
  · refine x_iconst (v := -1) dX11_code_34 (by decide) ?_
    exact x_iret rfl dX11_code_35
  refine x_ifnull (tgt := 34) dX11_code_9 (by decide) (fun _ => ?_) (fun _ => ?_)
  · exact x_weak (by exact trivial) (hj34 ())
  · refine x_iload_n dX11_code_12 rfl ?_
    refine x_if_lt (tgt := 34) dX11_code_13 (by decide) (fun _ => ?_) (fun _ => ?_)
    · exact x_weak (by exact trivial) (hj34 ())
    · refine x_iload_n dX11_code_16 rfl ?_
      refine x_aload dX11_code_17 rfl ?_
      refine gfX11_119 rfl dX11_code_19 (fun x4 => ?_)
      refine x_icmp_ge (tgt := 34) dX11_code_22 (by decide) (fun _ => ?_) (fun _ => ?_)
      · exact x_weak (by exact trivial) (hj34 ())
      · refine x_iload_n dX11_code_25 rfl ?_
        refine x_if_lt (tgt := 34) dX11_code_26 (by decide) (fun _ => ?_) (fun _ => ?_)
        · exact x_weak (by exact trivial) (hj34 ())
        · refine x_iload_n dX11_code_29 rfl ?_
          refine x_iconst (v := 1) dX11_code_30 (by decide) ?_
          refine x_icmp_le (tgt := 36) dX11_code_31 (by decide) (fun _ => ?_) (fun _ => ?_)
          · refine x_iload_n dX11_code_36 rfl ?_
            refine x_jn (σ := Int32) 57 (fun s5 => [none, none, none, none, none]) (fun s5 => [.int s5]) (fun s5 => M1) (fun s5 => ?_) (fun j57 hj57 => ?_)
            · exact x_iret rfl dX11_code_57
            refine x_if_ne (tgt := 50) dX11_code_37 (by decide) (fun _ => ?_) (fun _ => ?_)
            · refine x_aload dX11_code_40 rfl ?_
              refine gfX11_177 rfl dX11_code_42 (fun x6 => ?_)
              refine x_iload_n dX11_code_45 rfl ?_
              refine x_iald dX11_code_46 (fun x7 => ?_)
              refine x_goto (tgt := 57) dX11_code_47 (by decide) ?_
              exact x_weak (by exact trivial) (hj57 x7)
            · refine x_aload dX11_code_50 rfl ?_
              refine gfX11_180 rfl dX11_code_52 (fun x8 => ?_)
              refine x_iload_n dX11_code_55 rfl ?_
              refine x_iald dX11_code_56 (fun x9 => ?_)
              exact x_weak (by exact trivial) (hj57 x9)
          · exact x_weak (by exact trivial) (hj34 ())
theorem s136 {l : Launch} {d : Nat} {rec : Nat → List Value → Mem → XA} (hS : Nonempty XS) (hs : XSnd l xmt rec d) : Snd1 l 136 (b136 rec) d := by
  intro as M r M' h0
  unfold b136 at h0
  obtain ⟨a0, l1, e1, h1⟩ := aR_inv h0
  obtain ⟨a1, l2, e2, h2⟩ := aI_inv h1
  obtain ⟨a2, l3, e3, h3⟩ := aI_inv h2
  obtain ⟨a3, l4, e4, h4⟩ := aI_inv h3
  obtain ⟨ez, h⟩ := aZ_inv h4
  subst ez
  subst e4
  subst e3
  subst e2
  subst e1
  exact xmet (M := M) (as := [va_rf a0, .int a1, .int a2, .int a3]) (lo := [some (va_rf a0), some (.int a1), some (.int a2), some (.int a3)]) 136 xq136 xm136 (by rw [xargs_rf, xargs_i, xargs_i, xargs_i, xargs_nil]; exact ⟨rfl, ⟨rfl, ⟨rfl, ⟨rfl, trivial⟩⟩⟩⟩) (by rw [xargs_rf, xargs_i, xargs_i, xargs_i, xargs_nil]; exact Nat.le_of_ble_eq_true rfl) (fun S G K => x_weak (by exact ⟨rfl, ⟨rfl, ⟨rfl, ⟨rfl, trivial⟩⟩⟩⟩) (k136 hs a0 a1 a2 a3 M)) h hS
set_option maxRecDepth 100000 in
def c137 (rec : Nat → List Value → Mem → XA) (a0 : Option Nat) (a1 : Int32) (M0 : Mem) : XA :=
  jn (fun (s1 : Unit) =>
    some (.int ((-1 : Int32)), M0)) fun j12 =>
  if a1 < ((1 : Int32)) then (
    j12 ()) else (
    if a1 ≤ ((1000 : Int32)) then (
      gtP (12, 19) M0 a0 2 fun x2 =>
      gtI (4, 22) M0 x2 1 fun x3 =>
      gtP (12, 19) M0 a0 2 fun x4 =>
      ptI (4, 22) M0 x4 1 a1 fun M5 =>
      some (.int x3, M5)) else (
      j12 ()))
def b137 (rec : Nat → List Value → Mem → XA) (as : List Value) (M0 : Mem) : XA := aR as fun a0 as => aI as fun a1 as => aZ as (c137 rec a0 a1 M0)
set_option maxRecDepth 100000 in
set_option maxHeartbeats 4000000 in
theorem k137 {S : XS} {G : XG} {K : Nat × Nat} {l : Launch} {d : Nat} {rec : Nat → List Value → Mem → XA} (hs : XSnd l xmt rec d) (a0 : Option Nat) (a1 : Int32) (M0 : Mem) : Xe S G K l (yX11_steps, cX11_steps, 3, some .int) d 0 [some (va_rf a0), some (.int a1), none] [] M0 (c137 rec a0 a1 M0) := by
  unfold c137
  refine x_iload_n dX11_steps_0 rfl ?_
  refine x_iconst (v := 1) dX11_steps_1 (by decide) ?_
  refine x_jn (σ := Unit) 12 (fun s1 => [none, none, none]) (fun s1 => []) (fun s1 => M0) (fun s1 => ?_) (fun j12 hj12 => ?_)
  · refine x_iconst (v := -1) dX11_steps_12 (by decide) ?_
    exact x_iret rfl dX11_steps_13
  refine x_icmp_lt (tgt := 12) dX11_steps_2 (by decide) (fun _ => ?_) (fun _ => ?_)
  · exact x_weak (by exact trivial) (hj12 ())
  · refine x_iload_n dX11_steps_5 rfl ?_
    refine x_sipush (v := 1000) dX11_steps_6 (by decide) ?_
    refine x_icmp_le (tgt := 14) dX11_steps_9 (by decide) (fun _ => ?_) (fun _ => ?_)
    · refine x_aload_n dX11_steps_14 rfl ?_
      refine gfX11_26 rfl dX11_steps_15 (fun x2 => ?_)
      refine gfX11_183 rfl dX11_steps_18 (fun x3 => ?_)
      refine x_istore_n (lo' := [some (va_rf a0), some (.int a1), some (.int x3)]) dX11_steps_21 (by decide) rfl rfl ?_
      refine x_aload_n dX11_steps_22 rfl ?_
      refine gfX11_26 rfl dX11_steps_23 (fun x4 => ?_)
      refine x_iload_n dX11_steps_26 rfl ?_
      refine pfX11_183 rfl dX11_steps_27 (fun M5 => ?_)
      refine x_iload_n dX11_steps_30 rfl ?_
      exact x_iret rfl dX11_steps_31
    · exact x_weak (by exact trivial) (hj12 ())
theorem s137 {l : Launch} {d : Nat} {rec : Nat → List Value → Mem → XA} (hS : Nonempty XS) (hs : XSnd l xmt rec d) : Snd1 l 137 (b137 rec) d := by
  intro as M r M' h0
  unfold b137 at h0
  obtain ⟨a0, l1, e1, h1⟩ := aR_inv h0
  obtain ⟨a1, l2, e2, h2⟩ := aI_inv h1
  obtain ⟨ez, h⟩ := aZ_inv h2
  subst ez
  subst e2
  subst e1
  exact xmet (M := M) (as := [va_rf a0, .int a1]) (lo := [some (va_rf a0), some (.int a1)]) 137 xq137 xm137 (by rw [xargs_rf, xargs_i, xargs_nil]; exact ⟨rfl, ⟨rfl, trivial⟩⟩) (by rw [xargs_rf, xargs_i, xargs_nil]; exact Nat.le_of_ble_eq_true rfl) (fun S G K => x_weak (by exact ⟨rfl, ⟨rfl, trivial⟩⟩) (k137 hs a0 a1 M)) h hS
set_option maxRecDepth 100000 in
def c138 (rec : Nat → List Value → Mem → XA) (a0 : Option Nat) (a1 : Int32) (M0 : Mem) : XA :=
  gtP (12, 19) M0 a0 2 fun x1 =>
  gtI (4, 22) M0 x1 2 fun x2 =>
  gtP (12, 19) M0 a0 2 fun x3 =>
  ptI (4, 22) M0 x3 2 a1 fun M4 =>
  some (.int x2, M4)
def b138 (rec : Nat → List Value → Mem → XA) (as : List Value) (M0 : Mem) : XA := aR as fun a0 as => aI as fun a1 as => aZ as (c138 rec a0 a1 M0)
set_option maxRecDepth 100000 in
set_option maxHeartbeats 4000000 in
theorem k138 {S : XS} {G : XG} {K : Nat × Nat} {l : Launch} {d : Nat} {rec : Nat → List Value → Mem → XA} (hs : XSnd l xmt rec d) (a0 : Option Nat) (a1 : Int32) (M0 : Mem) : Xe S G K l (yX11_seed, cX11_seed, 3, some .int) d 0 [some (va_rf a0), some (.int a1), none] [] M0 (c138 rec a0 a1 M0) := by
  unfold c138
  refine x_aload_n dX11_seed_0 rfl ?_
  refine gfX11_26 rfl dX11_seed_1 (fun x1 => ?_)
  refine gfX11_186 rfl dX11_seed_4 (fun x2 => ?_)
  refine x_istore_n (lo' := [some (va_rf a0), some (.int a1), some (.int x2)]) dX11_seed_7 (by decide) rfl rfl ?_
  refine x_aload_n dX11_seed_8 rfl ?_
  refine gfX11_26 rfl dX11_seed_9 (fun x3 => ?_)
  refine x_iload_n dX11_seed_12 rfl ?_
  refine pfX11_186 rfl dX11_seed_13 (fun M4 => ?_)
  refine x_iload_n dX11_seed_16 rfl ?_
  exact x_iret rfl dX11_seed_17
theorem s138 {l : Launch} {d : Nat} {rec : Nat → List Value → Mem → XA} (hS : Nonempty XS) (hs : XSnd l xmt rec d) : Snd1 l 138 (b138 rec) d := by
  intro as M r M' h0
  unfold b138 at h0
  obtain ⟨a0, l1, e1, h1⟩ := aR_inv h0
  obtain ⟨a1, l2, e2, h2⟩ := aI_inv h1
  obtain ⟨ez, h⟩ := aZ_inv h2
  subst ez
  subst e2
  subst e1
  exact xmet (M := M) (as := [va_rf a0, .int a1]) (lo := [some (va_rf a0), some (.int a1)]) 138 xq138 xm138 (by rw [xargs_rf, xargs_i, xargs_nil]; exact ⟨rfl, ⟨rfl, trivial⟩⟩) (by rw [xargs_rf, xargs_i, xargs_nil]; exact Nat.le_of_ble_eq_true rfl) (fun S G K => x_weak (by exact ⟨rfl, ⟨rfl, trivial⟩⟩) (k138 hs a0 a1 M)) h hS
set_option maxRecDepth 100000 in
def c139 (rec : Nat → List Value → Mem → XA) (a0 : Option Nat) (a1 : Int32) (a2 : Int32) (a3 : Int32) (M0 : Mem) : XA :=
  vC (12, 19) M0 a0 <|
  cP (rec 167 [va_rf a0, .int a1] M0) fun x2 M1 =>
  jn (fun (s3 : Unit) =>
    some (.int ((-1 : Int32)), M1)) fun j40 =>
  if x2 = none then (
    j40 ()) else (
    if a2 < 0 then (
      j40 ()) else (
      gtP (6, 18) M1 x2 10 fun x4 =>
      aln M1 x4 fun x5 =>
      if x5 ≤ a2 then (
        j40 ()) else (
        if a3 < 0 then (
          j40 ()) else (
          gtP (6, 18) M1 x2 10 fun x6 =>
          aln M1 x6 fun x7 =>
          if a3 < x7 then (
            gtP (6, 18) M1 x2 10 fun x8 =>
            alI 100 M1 x8 a2 fun x9 =>
            gtP (6, 18) M1 x2 10 fun x10 =>
            gtP (6, 18) M1 x2 10 fun x11 =>
            alI 100 M1 x11 a3 fun x12 =>
            asI 100 M1 x10 a2 x12 fun M13 =>
            gtP (6, 18) M13 x2 10 fun x14 =>
            asI 100 M13 x14 a3 x9 fun M15 =>
            gtP (6, 18) M15 x2 10 fun x16 =>
            alI 100 M15 x16 a2 fun x17 =>
            some (.int x17, M15)) else (
            j40 ())))))
def b139 (rec : Nat → List Value → Mem → XA) (as : List Value) (M0 : Mem) : XA := aR as fun a0 as => aI as fun a1 as => aI as fun a2 as => aI as fun a3 as => aZ as (c139 rec a0 a1 a2 a3 M0)
set_option maxRecDepth 100000 in
set_option maxHeartbeats 4000000 in
theorem k139 {S : XS} {G : XG} {K : Nat × Nat} {l : Launch} {d : Nat} {rec : Nat → List Value → Mem → XA} (hs : XSnd l xmt rec d) (a0 : Option Nat) (a1 : Int32) (a2 : Int32) (a3 : Int32) (M0 : Mem) : Xe S G K l (yX11_swap, cX11_swap, 6, some .int) d 0 [some (va_rf a0), some (.int a1), some (.int a2), some (.int a3), none, none] [] M0 (c139 rec a0 a1 a2 a3 M0) := by
  unfold c139
  refine x_aload_n dX11_swap_0 rfl ?_
  refine x_iload_n dX11_swap_1 rfl ?_
  refine cmX11_109 rfl hs (Nat.le_of_ble_eq_true rfl) dX11_swap_2 (fun x2 M1 => ?_)
  refine x_astore (lo' := [some (va_rf a0), some (.int a1), some (.int a2), some (.int a3), some (va_rf x2), none]) dX11_swap_5 (by decide) rfl rfl ?_
  refine x_aload dX11_swap_7 rfl ?_
  refine x_jn (σ := Unit) 40 (fun s3 => [none, none, none, none, none, none]) (fun s3 => []) (fun s3 => M1) (fun s3 => ?_) (fun j40 hj40 => ?_)
  · refine x_iconst (v := -1) dX11_swap_40 (by decide) ?_
    exact x_iret rfl dX11_swap_41
  refine x_ifnull (tgt := 40) dX11_swap_9 (by decide) (fun _ => ?_) (fun _ => ?_)
  · exact x_weak (by exact trivial) (hj40 ())
  · refine x_iload_n dX11_swap_12 rfl ?_
    refine x_if_lt (tgt := 40) dX11_swap_13 (by decide) (fun _ => ?_) (fun _ => ?_)
    · exact x_weak (by exact trivial) (hj40 ())
    · refine x_iload_n dX11_swap_16 rfl ?_
      refine x_aload dX11_swap_17 rfl ?_
      refine gfX11_189 rfl dX11_swap_19 (fun x4 => ?_)
      refine x_alen dX11_swap_22 (fun x5 => ?_)
      refine x_icmp_ge (tgt := 40) dX11_swap_23 (by decide) (fun _ => ?_) (fun _ => ?_)
      · exact x_weak (by exact trivial) (hj40 ())
      · refine x_iload_n dX11_swap_26 rfl ?_
        refine x_if_lt (tgt := 40) dX11_swap_27 (by decide) (fun _ => ?_) (fun _ => ?_)
        · exact x_weak (by exact trivial) (hj40 ())
        · refine x_iload_n dX11_swap_30 rfl ?_
          refine x_aload dX11_swap_31 rfl ?_
          refine gfX11_189 rfl dX11_swap_33 (fun x6 => ?_)
          refine x_alen dX11_swap_36 (fun x7 => ?_)
          refine x_icmp_lt (tgt := 42) dX11_swap_37 (by decide) (fun _ => ?_) (fun _ => ?_)
          · refine x_aload dX11_swap_42 rfl ?_
            refine gfX11_189 rfl dX11_swap_44 (fun x8 => ?_)
            refine x_iload_n dX11_swap_47 rfl ?_
            refine x_iald dX11_swap_48 (fun x9 => ?_)
            refine x_istore (lo' := [some (va_rf a0), some (.int a1), some (.int a2), some (.int a3), some (va_rf x2), some (.int x9)]) dX11_swap_49 (by decide) (xok_r rfl) rfl ?_
            refine x_aload dX11_swap_51 rfl ?_
            refine gfX11_189 rfl dX11_swap_53 (fun x10 => ?_)
            refine x_iload_n dX11_swap_56 rfl ?_
            refine x_aload dX11_swap_57 rfl ?_
            refine gfX11_189 rfl dX11_swap_59 (fun x11 => ?_)
            refine x_iload_n dX11_swap_62 rfl ?_
            refine x_iald dX11_swap_63 (fun x12 => ?_)
            refine x_iast dX11_swap_64 (fun M13 => ?_)
            refine x_aload dX11_swap_65 rfl ?_
            refine gfX11_189 rfl dX11_swap_67 (fun x14 => ?_)
            refine x_iload_n dX11_swap_70 rfl ?_
            refine x_iload dX11_swap_71 rfl ?_
            refine x_iast dX11_swap_73 (fun M15 => ?_)
            refine x_aload dX11_swap_74 rfl ?_
            refine gfX11_189 rfl dX11_swap_76 (fun x16 => ?_)
            refine x_iload_n dX11_swap_79 rfl ?_
            refine x_iald dX11_swap_80 (fun x17 => ?_)
            exact x_iret rfl dX11_swap_81
          · exact x_weak (by exact trivial) (hj40 ())
theorem s139 {l : Launch} {d : Nat} {rec : Nat → List Value → Mem → XA} (hS : Nonempty XS) (hs : XSnd l xmt rec d) : Snd1 l 139 (b139 rec) d := by
  intro as M r M' h0
  unfold b139 at h0
  obtain ⟨a0, l1, e1, h1⟩ := aR_inv h0
  obtain ⟨a1, l2, e2, h2⟩ := aI_inv h1
  obtain ⟨a2, l3, e3, h3⟩ := aI_inv h2
  obtain ⟨a3, l4, e4, h4⟩ := aI_inv h3
  obtain ⟨ez, h⟩ := aZ_inv h4
  subst ez
  subst e4
  subst e3
  subst e2
  subst e1
  exact xmet (M := M) (as := [va_rf a0, .int a1, .int a2, .int a3]) (lo := [some (va_rf a0), some (.int a1), some (.int a2), some (.int a3)]) 139 xq139 xm139 (by rw [xargs_rf, xargs_i, xargs_i, xargs_i, xargs_nil]; exact ⟨rfl, ⟨rfl, ⟨rfl, ⟨rfl, trivial⟩⟩⟩⟩) (by rw [xargs_rf, xargs_i, xargs_i, xargs_i, xargs_nil]; exact Nat.le_of_ble_eq_true rfl) (fun S G K => x_weak (by exact ⟨rfl, ⟨rfl, ⟨rfl, ⟨rfl, trivial⟩⟩⟩⟩) (k139 hs a0 a1 a2 a3 M)) h hS
set_option maxRecDepth 100000 in
def c140_64 (rec : Nat → List Value → Mem → XA) (M13 : Mem) (j96 : Int32 → XA) (x2 : Option Nat) : (Int32 × Int32) → ((Int32 × Int32) → XA) → XA := fun s15 j64 =>
  gtP (6, 18) M13 x2 10 fun x16 =>
  aln M13 x16 fun x17 =>
  if x17 ≤ s15.2 then (
    j96 s15.1) else (
    gtP (6, 18) M13 x2 11 fun x18 =>
    alP 113 M13 x18 ((0 : Int32)) fun x19 =>
    alI 100 M13 x19 s15.2 fun x20 =>
    jn (fun (s21 : Int32) =>
      lt (s15.2 + (1 : Int32)) fun (x22 : Int32) =>
      j64 (s21, x22)) fun j90 =>
    if x20 = ((1 : Int32)) then (
      lt (s15.1 + (1 : Int32)) fun (x23 : Int32) =>
      j90 x23) else (
      j90 s15.1))
set_option maxRecDepth 100000 in
def c140 (rec : Nat → List Value → Mem → XA) (a0 : Option Nat) (a1 : Int32) (M0 : Mem) : XA :=
  vC (12, 19) M0 a0 <|
  cP (rec 167 [va_rf a0, .int a1] M0) fun x2 M1 =>
  if x2 = none then (
    some (.int ((-1 : Int32)), M1)) else (
    gtP (12, 19) M1 a0 2 fun x3 =>
    vC (4, 22) M1 x3 <|
    cV (rec 19 [va_rf x3, va_rf x2, .int ((2147483647 : Int32))] M1) fun M4 =>
    gtP (12, 19) M4 a0 2 fun x5 =>
    vC (4, 22) M4 x5 <|
    cV (rec 21 [va_rf x5, .int ((2 : Int32))] M4) fun M6 =>
    vC (6, 18) M6 x2 <|
    cV (rec 54 [va_rf x2] M6) fun M7 =>
    gtP (6, 18) M7 x2 10 fun x8 =>
    gtP (6, 18) M7 x2 10 fun x9 =>
    aln M7 x9 fun x10 =>
    gtP (6, 18) M7 x2 11 fun x11 =>
    vC (12, 19) M7 a0 <|
    cV (rec 174 [va_rf a0, va_rf x2, va_rf x8, .int x10, .int ((-2 : Int32)), va_rf x11] M7) fun M12 =>
    ptZ (6, 18) M12 x2 13 ((1 : Int32)) fun M13 =>
    jn (fun (s14 : Int32) =>
      some (.int s14, M13)) fun j96 =>
    lp (c140_64 rec M13 j96 x2) 4294967296 ((0 : Int32), (0 : Int32)))
def b140 (rec : Nat → List Value → Mem → XA) (as : List Value) (M0 : Mem) : XA := aR as fun a0 as => aI as fun a1 as => aZ as (c140 rec a0 a1 M0)
set_option maxRecDepth 100000 in
set_option maxHeartbeats 4000000 in
theorem k140 {S : XS} {G : XG} {K : Nat × Nat} {l : Launch} {d : Nat} {rec : Nat → List Value → Mem → XA} (hs : XSnd l xmt rec d) (a0 : Option Nat) (a1 : Int32) (M0 : Mem) : Xe S G K l (yX11_run, cX11_run, 5, some .int) d 0 [some (va_rf a0), some (.int a1), none, none, none] [] M0 (c140 rec a0 a1 M0) := by
  unfold c140
  refine x_aload_n dX11_run_0 rfl ?_
  refine x_iload_n dX11_run_1 rfl ?_
  refine cmX11_109 rfl hs (Nat.le_of_ble_eq_true rfl) dX11_run_2 (fun x2 M1 => ?_)
  refine x_astore_n (lo' := [some (va_rf a0), some (.int a1), some (va_rf x2), none, none]) dX11_run_5 (by decide) rfl rfl ?_
  refine x_aload_n dX11_run_6 rfl ?_
  refine x_ifnonnull (tgt := 12) dX11_run_7 (by decide) (fun _ => ?_) (fun _ => ?_)
  · refine x_iconst (v := -1) dX11_run_10 (by decide) ?_
    exact x_iret rfl dX11_run_11
  · refine x_aload_n dX11_run_12 rfl ?_
    refine gfX11_26 rfl dX11_run_13 (fun x3 => ?_)
    refine x_aload_n dX11_run_16 rfl ?_
    refine x_ldc (v := 2147483647) dX11_run_17 lk_constant_X11_192 ?_
    refine cmX11_193 rfl hs (Nat.le_of_ble_eq_true rfl) dX11_run_19 (fun M4 => ?_)
    refine x_aload_n dX11_run_22 rfl ?_
    refine gfX11_26 rfl dX11_run_23 (fun x5 => ?_)
    refine x_iconst (v := 2) dX11_run_26 (by decide) ?_
    refine cmX11_197 rfl hs (Nat.le_of_ble_eq_true rfl) dX11_run_27 (fun M6 => ?_)
    refine x_aload_n dX11_run_30 rfl ?_
    refine cmX11_200 rfl hs (Nat.le_of_ble_eq_true rfl) dX11_run_31 (fun M7 => ?_)
    refine x_aload_n dX11_run_34 rfl ?_
    refine x_aload_n dX11_run_35 rfl ?_
    refine x_aload_n dX11_run_36 rfl ?_
    refine gfX11_189 rfl dX11_run_37 (fun x8 => ?_)
    refine x_aload_n dX11_run_40 rfl ?_
    refine gfX11_189 rfl dX11_run_41 (fun x9 => ?_)
    refine x_alen dX11_run_44 (fun x10 => ?_)
    refine x_bipush (v := -2) dX11_run_45 (by decide) ?_
    refine x_aload_n dX11_run_47 rfl ?_
    refine gfX11_203 rfl dX11_run_48 (fun x11 => ?_)
    refine cmX11_206 rfl hs (Nat.le_of_ble_eq_true rfl) dX11_run_51 (fun M12 => ?_)
    refine x_aload_n dX11_run_54 rfl ?_
    refine x_iconst (v := 1) dX11_run_55 (by decide) ?_
    refine pfX11_210 rfl dX11_run_56 (fun M13 => ?_)
    refine x_iconst (v := 0) dX11_run_59 (by decide) ?_
    refine x_istore_n (lo' := [some (va_rf a0), some (.int a1), some (va_rf x2), some (.int ((0 : Int32))), none]) dX11_run_60 (by decide) (xok_r rfl) rfl ?_
    refine x_iconst (v := 0) dX11_run_61 (by decide) ?_
    refine x_istore (lo' := [some (va_rf a0), some (.int a1), some (va_rf x2), some (.int ((0 : Int32))), some (.int ((0 : Int32)))]) dX11_run_62 (by decide) rfl rfl ?_
    refine x_jn (σ := Int32) 96 (fun s14 => [none, none, none, some (.int s14), none]) (fun s14 => []) (fun s14 => M13) (fun s14 => ?_) (fun j96 hj96 => ?_)
    · refine x_iload_n dX11_run_96 rfl ?_
      exact x_iret rfl dX11_run_97
    refine x_weak (by exact ⟨rfl, ⟨rfl, ⟨rfl, trivial⟩⟩⟩) (x_lp (σ := Int32 × Int32) 64 (fun s15 => [none, none, some (va_rf x2), some (.int s15.1), some (.int s15.2)]) (fun s15 => []) (fun s15 => M13) (fun s15 j64 hj64 => ?_) 4294967296 ((0 : Int32), (0 : Int32)))
    · refine x_iload dX11_run_64 rfl ?_
      refine x_aload_n dX11_run_66 rfl ?_
      refine gfX11_189 rfl dX11_run_67 (fun x16 => ?_)
      refine x_alen dX11_run_70 (fun x17 => ?_)
      refine x_icmp_ge (tgt := 96) dX11_run_71 (by decide) (fun _ => ?_) (fun _ => ?_)
      · exact x_weak (by exact ⟨rfl, trivial⟩) (hj96 s15.1)
      · refine x_aload_n dX11_run_74 rfl ?_
        refine gfX11_203 rfl dX11_run_75 (fun x18 => ?_)
        refine x_iconst (v := 0) dX11_run_78 (by decide) ?_
        refine x_aldg (t := 113) (tn := 8) (by decide) (by decide) rfl rfl dX11_run_79 (fun x19 => ?_)
        refine x_iload dX11_run_80 rfl ?_
        refine x_iald dX11_run_82 (fun x20 => ?_)
        refine x_iconst (v := 1) dX11_run_83 (by decide) ?_
        refine x_jn (σ := Int32) 90 (fun s21 => [none, none, some (va_rf x2), some (.int s21), some (.int s15.2)]) (fun s21 => []) (fun s21 => M13) (fun s21 => ?_) (fun j90 hj90 => ?_)
        · refine x_iincN (v := 1) (lo' := fun x22 => [none, none, some (va_rf x2), some (.int s21), some (.int x22)]) (by decide) dX11_run_90 rfl (by decide) rfl (fun _ => rfl) (fun x22 => ?_)
          refine x_goto (tgt := 64) dX11_run_93 (by decide) ?_
          exact x_weak (by exact ⟨rfl, ⟨rfl, ⟨rfl, trivial⟩⟩⟩) (hj64 (s21, x22))
        refine x_icmp_ne (tgt := 90) dX11_run_84 (by decide) (fun _ => ?_) (fun _ => ?_)
        · refine x_iincN (v := 1) (lo' := fun x23 => [none, none, some (va_rf x2), some (.int x23), some (.int s15.2)]) (by decide) dX11_run_87 rfl (by decide) (xok_r rfl) (fun _ => rfl) (fun x23 => ?_)
          exact x_weak (by exact ⟨rfl, ⟨rfl, ⟨rfl, trivial⟩⟩⟩) (hj90 x23)
        · exact x_weak (by exact ⟨rfl, ⟨rfl, ⟨rfl, trivial⟩⟩⟩) (hj90 s15.1)
theorem s140 {l : Launch} {d : Nat} {rec : Nat → List Value → Mem → XA} (hS : Nonempty XS) (hs : XSnd l xmt rec d) : Snd1 l 140 (b140 rec) d := by
  intro as M r M' h0
  unfold b140 at h0
  obtain ⟨a0, l1, e1, h1⟩ := aR_inv h0
  obtain ⟨a1, l2, e2, h2⟩ := aI_inv h1
  obtain ⟨ez, h⟩ := aZ_inv h2
  subst ez
  subst e2
  subst e1
  exact xmet (M := M) (as := [va_rf a0, .int a1]) (lo := [some (va_rf a0), some (.int a1)]) 140 xq140 xm140 (by rw [xargs_rf, xargs_i, xargs_nil]; exact ⟨rfl, ⟨rfl, trivial⟩⟩) (by rw [xargs_rf, xargs_i, xargs_nil]; exact Nat.le_of_ble_eq_true rfl) (fun S G K => x_weak (by exact ⟨rfl, ⟨rfl, trivial⟩⟩) (k140 hs a0 a1 M)) h hS
set_option maxRecDepth 100000 in
def c141 (rec : Nat → List Value → Mem → XA) (a0 : Option Nat) (a1 : Int32) (a2 : Int32) (a3 : Int32) (M0 : Mem) : XA :=
  vC (12, 19) M0 a0 <|
  cP (rec 167 [va_rf a0, .int a1] M0) fun x2 M1 =>
  cP (rec 169 [va_rf x2, .int a2] M1) fun x4 M3 =>
  jn (fun (s5 : Unit) =>
    some (.int ((-1 : Int32)), M3)) fun j25 =>
  if x4 = none then (
    j25 ()) else (
    if a3 < 0 then (
      j25 ()) else (
      if a3 < ((4 : Int32)) then (
        gtI (6, 18) M3 x2 13 fun x6 =>
        jn (fun (s7 : Int32) =>
          some (.int s7, M3)) fun j49 =>
        if x6 = 0 then (
          j49 ((-2 : Int32))) else (
          gtP (6, 18) M3 x2 11 fun x8 =>
          alP 113 M3 x8 a3 fun x9 =>
          alI 100 M3 x9 a2 fun x10 =>
          j49 x10)) else (
        j25 ())))
def b141 (rec : Nat → List Value → Mem → XA) (as : List Value) (M0 : Mem) : XA := aR as fun a0 as => aI as fun a1 as => aI as fun a2 as => aI as fun a3 as => aZ as (c141 rec a0 a1 a2 a3 M0)
set_option maxRecDepth 100000 in
set_option maxHeartbeats 4000000 in
theorem k141 {S : XS} {G : XG} {K : Nat × Nat} {l : Launch} {d : Nat} {rec : Nat → List Value → Mem → XA} (hs : XSnd l xmt rec d) (a0 : Option Nat) (a1 : Int32) (a2 : Int32) (a3 : Int32) (M0 : Mem) : Xe S G K l (yX11_verdict, cX11_verdict, 5, some .int) d 0 [some (va_rf a0), some (.int a1), some (.int a2), some (.int a3), none] [] M0 (c141 rec a0 a1 a2 a3 M0) := by
  unfold c141
  refine x_aload_n dX11_verdict_0 rfl ?_
  refine x_iload_n dX11_verdict_1 rfl ?_
  refine cmX11_109 rfl hs (Nat.le_of_ble_eq_true rfl) dX11_verdict_2 (fun x2 M1 => ?_)
  refine x_astore (lo' := [some (va_rf a0), some (.int a1), some (.int a2), some (.int a3), some (va_rf x2)]) dX11_verdict_5 (by decide) rfl rfl ?_
  refine x_aload dX11_verdict_7 rfl ?_
  refine x_iload_n dX11_verdict_9 rfl ?_
  refine cmX11_152 rfl hs (Nat.le_of_ble_eq_true rfl) dX11_verdict_10 (fun x4 M3 => ?_)
  refine x_jn (σ := Unit) 25 (fun s5 => [none, none, none, none, none]) (fun s5 => []) (fun s5 => M3) (fun s5 => ?_) (fun j25 hj25 => ?_)
  · refine x_iconst (v := -1) dX11_verdict_25 (by decide) ?_
    exact x_iret rfl dX11_verdict_26
  refine x_ifnull (tgt := 25) dX11_verdict_13 (by decide) (fun _ => ?_) (fun _ => ?_)
  · exact x_weak (by exact trivial) (hj25 ())
  · refine x_iload_n dX11_verdict_16 rfl ?_
    refine x_if_lt (tgt := 25) dX11_verdict_17 (by decide) (fun _ => ?_) (fun _ => ?_)
    · exact x_weak (by exact trivial) (hj25 ())
    · refine x_iload_n dX11_verdict_20 rfl ?_
      refine x_iconst (v := 4) dX11_verdict_21 (by decide) ?_
      refine x_icmp_lt (tgt := 27) dX11_verdict_22 (by decide) (fun _ => ?_) (fun _ => ?_)
      · refine x_aload dX11_verdict_27 rfl ?_
        refine gfX11_210 rfl dX11_verdict_29 (fun x6 => ?_)
        refine x_jn (σ := Int32) 49 (fun s7 => [none, none, none, none, none]) (fun s7 => [.int s7]) (fun s7 => M3) (fun s7 => ?_) (fun j49 hj49 => ?_)
        · exact x_iret rfl dX11_verdict_49
        refine x_if_eq (tgt := 47) dX11_verdict_32 (by decide) (fun _ => ?_) (fun _ => ?_)
        · refine x_bipush (v := -2) dX11_verdict_47 (by decide) ?_
          exact x_weak (by exact trivial) (hj49 ((-2 : Int32)))
        · refine x_aload dX11_verdict_35 rfl ?_
          refine gfX11_203 rfl dX11_verdict_37 (fun x8 => ?_)
          refine x_iload_n dX11_verdict_40 rfl ?_
          refine x_aldg (t := 113) (tn := 8) (by decide) (by decide) rfl rfl dX11_verdict_41 (fun x9 => ?_)
          refine x_iload_n dX11_verdict_42 rfl ?_
          refine x_iald dX11_verdict_43 (fun x10 => ?_)
          refine x_goto (tgt := 49) dX11_verdict_44 (by decide) ?_
          exact x_weak (by exact trivial) (hj49 x10)
      · exact x_weak (by exact trivial) (hj25 ())
theorem s141 {l : Launch} {d : Nat} {rec : Nat → List Value → Mem → XA} (hS : Nonempty XS) (hs : XSnd l xmt rec d) : Snd1 l 141 (b141 rec) d := by
  intro as M r M' h0
  unfold b141 at h0
  obtain ⟨a0, l1, e1, h1⟩ := aR_inv h0
  obtain ⟨a1, l2, e2, h2⟩ := aI_inv h1
  obtain ⟨a2, l3, e3, h3⟩ := aI_inv h2
  obtain ⟨a3, l4, e4, h4⟩ := aI_inv h3
  obtain ⟨ez, h⟩ := aZ_inv h4
  subst ez
  subst e4
  subst e3
  subst e2
  subst e1
  exact xmet (M := M) (as := [va_rf a0, .int a1, .int a2, .int a3]) (lo := [some (va_rf a0), some (.int a1), some (.int a2), some (.int a3)]) 141 xq141 xm141 (by rw [xargs_rf, xargs_i, xargs_i, xargs_i, xargs_nil]; exact ⟨rfl, ⟨rfl, ⟨rfl, ⟨rfl, trivial⟩⟩⟩⟩) (by rw [xargs_rf, xargs_i, xargs_i, xargs_i, xargs_nil]; exact Nat.le_of_ble_eq_true rfl) (fun S G K => x_weak (by exact ⟨rfl, ⟨rfl, ⟨rfl, ⟨rfl, trivial⟩⟩⟩⟩) (k141 hs a0 a1 a2 a3 M)) h hS
set_option maxRecDepth 100000 in
def c142 (rec : Nat → List Value → Mem → XA) (a0 : Option Nat) (a1 : Int32) (a2 : Int32) (a3 : Int32) (M0 : Mem) : XA :=
  vC (12, 19) M0 a0 <|
  cP (rec 167 [va_rf a0, .int a1] M0) fun x2 M1 =>
  jn (fun (s3 : Unit) =>
    some (.int ((-1 : Int32)), M1)) fun j34 =>
  if x2 = none then (
    j34 ()) else (
    if a2 < 0 then (
      j34 ()) else (
      gtI (6, 18) M1 x2 5 fun x4 =>
      if x4 ≤ a2 then (
        j34 ()) else (
        if a3 < 0 then (
          j34 ()) else (
          if a3 ≤ ((1 : Int32)) then (
            gtI (6, 18) M1 x2 13 fun x5 =>
            jn (fun (s6 : Int32) =>
              some (.int s6, M1)) fun j66 =>
            if x5 = 0 then (
              j66 ((-2 : Int32))) else (
              gtP (6, 18) M1 x2 12 fun x7 =>
              jn (fun (s8 : Int32) =>
                alP 113 M1 x7 s8 fun x9 =>
                alI 100 M1 x9 a2 fun x10 =>
                j66 x10) fun j58 =>
              if a3 = 0 then (
                j58 ((0 : Int32))) else (
                j58 ((1 : Int32))))) else (
            j34 ())))))
def b142 (rec : Nat → List Value → Mem → XA) (as : List Value) (M0 : Mem) : XA := aR as fun a0 as => aI as fun a1 as => aI as fun a2 as => aI as fun a3 as => aZ as (c142 rec a0 a1 a2 a3 M0)
set_option maxRecDepth 100000 in
set_option maxHeartbeats 4000000 in
theorem k142 {S : XS} {G : XG} {K : Nat × Nat} {l : Launch} {d : Nat} {rec : Nat → List Value → Mem → XA} (hs : XSnd l xmt rec d) (a0 : Option Nat) (a1 : Int32) (a2 : Int32) (a3 : Int32) (M0 : Mem) : Xe S G K l (yX11_cover, cX11_cover, 5, some .int) d 0 [some (va_rf a0), some (.int a1), some (.int a2), some (.int a3), none] [] M0 (c142 rec a0 a1 a2 a3 M0) := by
  unfold c142
  refine x_aload_n dX11_cover_0 rfl ?_
  refine x_iload_n dX11_cover_1 rfl ?_
  refine cmX11_109 rfl hs (Nat.le_of_ble_eq_true rfl) dX11_cover_2 (fun x2 M1 => ?_)
  refine x_astore (lo' := [some (va_rf a0), some (.int a1), some (.int a2), some (.int a3), some (va_rf x2)]) dX11_cover_5 (by decide) rfl rfl ?_
  refine x_aload dX11_cover_7 rfl ?_
  refine x_jn (σ := Unit) 34 (fun s3 => [none, none, none, none, none]) (fun s3 => []) (fun s3 => M1) (fun s3 => ?_) (fun j34 hj34 => ?_)
  · refine x_iconst (v := -1) dX11_cover_34 (by decide) ?_
    exact x_iret rfl dX11_cover_35
  refine x_ifnull (tgt := 34) dX11_cover_9 (by decide) (fun _ => ?_) (fun _ => ?_)
  · exact x_weak (by exact trivial) (hj34 ())
  · refine x_iload_n dX11_cover_12 rfl ?_
    refine x_if_lt (tgt := 34) dX11_cover_13 (by decide) (fun _ => ?_) (fun _ => ?_)
    · exact x_weak (by exact trivial) (hj34 ())
    · refine x_iload_n dX11_cover_16 rfl ?_
      refine x_aload dX11_cover_17 rfl ?_
      refine gfX11_119 rfl dX11_cover_19 (fun x4 => ?_)
      refine x_icmp_ge (tgt := 34) dX11_cover_22 (by decide) (fun _ => ?_) (fun _ => ?_)
      · exact x_weak (by exact trivial) (hj34 ())
      · refine x_iload_n dX11_cover_25 rfl ?_
        refine x_if_lt (tgt := 34) dX11_cover_26 (by decide) (fun _ => ?_) (fun _ => ?_)
        · exact x_weak (by exact trivial) (hj34 ())
        · refine x_iload_n dX11_cover_29 rfl ?_
          refine x_iconst (v := 1) dX11_cover_30 (by decide) ?_
          refine x_icmp_le (tgt := 36) dX11_cover_31 (by decide) (fun _ => ?_) (fun _ => ?_)
          · refine x_aload dX11_cover_36 rfl ?_
            refine gfX11_210 rfl dX11_cover_38 (fun x5 => ?_)
            refine x_jn (σ := Int32) 66 (fun s6 => [none, none, none, none, none]) (fun s6 => [.int s6]) (fun s6 => M1) (fun s6 => ?_) (fun j66 hj66 => ?_)
            · exact x_iret rfl dX11_cover_66
            refine x_if_eq (tgt := 64) dX11_cover_41 (by decide) (fun _ => ?_) (fun _ => ?_)
            · refine x_bipush (v := -2) dX11_cover_64 (by decide) ?_
              exact x_weak (by exact trivial) (hj66 ((-2 : Int32)))
            · refine x_aload dX11_cover_44 rfl ?_
              refine gfX11_213 rfl dX11_cover_46 (fun x7 => ?_)
              refine x_iload_n dX11_cover_49 rfl ?_
              refine x_jn (σ := Int32) 58 (fun s8 => [none, none, some (.int a2), none, none]) (fun s8 => [.int s8, va_rf x7]) (fun s8 => M1) (fun s8 => ?_) (fun j58 hj58 => ?_)
              · refine x_aldg (t := 113) (tn := 8) (by decide) (by decide) rfl rfl dX11_cover_58 (fun x9 => ?_)
                refine x_iload_n dX11_cover_59 rfl ?_
                refine x_iald dX11_cover_60 (fun x10 => ?_)
                refine x_goto (tgt := 66) dX11_cover_61 (by decide) ?_
                exact x_weak (by exact trivial) (hj66 x10)
              refine x_if_ne (tgt := 57) dX11_cover_50 (by decide) (fun _ => ?_) (fun _ => ?_)
              · refine x_iconst (v := 0) dX11_cover_53 (by decide) ?_
                refine x_goto (tgt := 58) dX11_cover_54 (by decide) ?_
                exact x_weak (by exact ⟨rfl, trivial⟩) (hj58 ((0 : Int32)))
              · refine x_iconst (v := 1) dX11_cover_57 (by decide) ?_
                exact x_weak (by exact ⟨rfl, trivial⟩) (hj58 ((1 : Int32)))
          · exact x_weak (by exact trivial) (hj34 ())
theorem s142 {l : Launch} {d : Nat} {rec : Nat → List Value → Mem → XA} (hS : Nonempty XS) (hs : XSnd l xmt rec d) : Snd1 l 142 (b142 rec) d := by
  intro as M r M' h0
  unfold b142 at h0
  obtain ⟨a0, l1, e1, h1⟩ := aR_inv h0
  obtain ⟨a1, l2, e2, h2⟩ := aI_inv h1
  obtain ⟨a2, l3, e3, h3⟩ := aI_inv h2
  obtain ⟨a3, l4, e4, h4⟩ := aI_inv h3
  obtain ⟨ez, h⟩ := aZ_inv h4
  subst ez
  subst e4
  subst e3
  subst e2
  subst e1
  exact xmet (M := M) (as := [va_rf a0, .int a1, .int a2, .int a3]) (lo := [some (va_rf a0), some (.int a1), some (.int a2), some (.int a3)]) 142 xq142 xm142 (by rw [xargs_rf, xargs_i, xargs_i, xargs_i, xargs_nil]; exact ⟨rfl, ⟨rfl, ⟨rfl, ⟨rfl, trivial⟩⟩⟩⟩) (by rw [xargs_rf, xargs_i, xargs_i, xargs_i, xargs_nil]; exact Nat.le_of_ble_eq_true rfl) (fun S G K => x_weak (by exact ⟨rfl, ⟨rfl, ⟨rfl, ⟨rfl, trivial⟩⟩⟩⟩) (k142 hs a0 a1 a2 a3 M)) h hS
set_option maxRecDepth 100000 in
def c143 (rec : Nat → List Value → Mem → XA) (a0 : Option Nat) (a1 : Int32) (a2 : Int32) (M0 : Mem) : XA :=
  vC (12, 19) M0 a0 <|
  cP (rec 167 [va_rf a0, .int a1] M0) fun x2 M1 =>
  cP (rec 169 [va_rf x2, .int a2] M1) fun x4 M3 =>
  if x4 = none then (
    some (.int ((-1 : Int32)), M3)) else (
    gtP (12, 19) M3 a0 2 fun x5 =>
    vC (4, 22) M3 x5 <|
    cV (rec 19 [va_rf x5, va_rf x2, .int ((2147483647 : Int32))] M3) fun M6 =>
    vC (12, 19) M6 a0 <|
    cI (rec 175 [va_rf a0, va_rf x4] M6) fun x8 M7 =>
    some (.int x8, M7))
def b143 (rec : Nat → List Value → Mem → XA) (as : List Value) (M0 : Mem) : XA := aR as fun a0 as => aI as fun a1 as => aI as fun a2 as => aZ as (c143 rec a0 a1 a2 M0)
set_option maxRecDepth 100000 in
set_option maxHeartbeats 4000000 in
theorem k143 {S : XS} {G : XG} {K : Nat × Nat} {l : Launch} {d : Nat} {rec : Nat → List Value → Mem → XA} (hs : XSnd l xmt rec d) (a0 : Option Nat) (a1 : Int32) (a2 : Int32) (M0 : Mem) : Xe S G K l (yX11_alone, cX11_alone, 5, some .int) d 0 [some (va_rf a0), some (.int a1), some (.int a2), none, none] [] M0 (c143 rec a0 a1 a2 M0) := by
  unfold c143
  refine x_aload_n dX11_alone_0 rfl ?_
  refine x_iload_n dX11_alone_1 rfl ?_
  refine cmX11_109 rfl hs (Nat.le_of_ble_eq_true rfl) dX11_alone_2 (fun x2 M1 => ?_)
  refine x_astore_n (lo' := [some (va_rf a0), some (.int a1), some (.int a2), some (va_rf x2), none]) dX11_alone_5 (by decide) rfl rfl ?_
  refine x_aload_n dX11_alone_6 rfl ?_
  refine x_iload_n dX11_alone_7 rfl ?_
  refine cmX11_152 rfl hs (Nat.le_of_ble_eq_true rfl) dX11_alone_8 (fun x4 M3 => ?_)
  refine x_astore (lo' := [some (va_rf a0), some (.int a1), some (.int a2), some (va_rf x2), some (va_rf x4)]) dX11_alone_11 (by decide) (xok_r rfl) rfl ?_
  refine x_aload dX11_alone_13 rfl ?_
  refine x_ifnonnull (tgt := 20) dX11_alone_15 (by decide) (fun _ => ?_) (fun _ => ?_)
  · refine x_iconst (v := -1) dX11_alone_18 (by decide) ?_
    exact x_iret rfl dX11_alone_19
  · refine x_aload_n dX11_alone_20 rfl ?_
    refine gfX11_26 rfl dX11_alone_21 (fun x5 => ?_)
    refine x_aload_n dX11_alone_24 rfl ?_
    refine x_ldc (v := 2147483647) dX11_alone_25 lk_constant_X11_192 ?_
    refine cmX11_193 rfl hs (Nat.le_of_ble_eq_true rfl) dX11_alone_27 (fun M6 => ?_)
    refine x_aload_n dX11_alone_30 rfl ?_
    refine x_aload dX11_alone_31 rfl ?_
    refine cmX11_216 rfl hs (Nat.le_of_ble_eq_true rfl) dX11_alone_33 (fun x8 M7 => ?_)
    exact x_iret rfl dX11_alone_36
theorem s143 {l : Launch} {d : Nat} {rec : Nat → List Value → Mem → XA} (hS : Nonempty XS) (hs : XSnd l xmt rec d) : Snd1 l 143 (b143 rec) d := by
  intro as M r M' h0
  unfold b143 at h0
  obtain ⟨a0, l1, e1, h1⟩ := aR_inv h0
  obtain ⟨a1, l2, e2, h2⟩ := aI_inv h1
  obtain ⟨a2, l3, e3, h3⟩ := aI_inv h2
  obtain ⟨ez, h⟩ := aZ_inv h3
  subst ez
  subst e3
  subst e2
  subst e1
  exact xmet (M := M) (as := [va_rf a0, .int a1, .int a2]) (lo := [some (va_rf a0), some (.int a1), some (.int a2)]) 143 xq143 xm143 (by rw [xargs_rf, xargs_i, xargs_i, xargs_nil]; exact ⟨rfl, ⟨rfl, ⟨rfl, trivial⟩⟩⟩) (by rw [xargs_rf, xargs_i, xargs_i, xargs_nil]; exact Nat.le_of_ble_eq_true rfl) (fun S G K => x_weak (by exact ⟨rfl, ⟨rfl, ⟨rfl, trivial⟩⟩⟩) (k143 hs a0 a1 a2 M)) h hS
set_option maxRecDepth 100000 in
def c144 (rec : Nat → List Value → Mem → XA) (a0 : Option Nat) (a1 : Int32) (M0 : Mem) : XA :=
  gtI (12, 19) M0 a0 7 fun x1 =>
  jn (fun (s2 : Unit) =>
    some (.int ((-1 : Int32)), M0)) fun j16 =>
  if x1 = 0 then (
    j16 ()) else (
    if a1 < 0 then (
      j16 ()) else (
      if a1 ≤ ((3 : Int32)) then (
        swI a1 [
         ((0 : Int32), (
            gtP (12, 19) M0 a0 6 fun x3 =>
            gtI (5, 5) M0 x3 1 fun x4 =>
            some (.int x4, M0))),
         ((1 : Int32), (
            gtP (12, 19) M0 a0 6 fun x5 =>
            gtI (5, 5) M0 x5 2 fun x6 =>
            some (.int x6, M0))),
         ((2 : Int32), (
            gtP (12, 19) M0 a0 6 fun x7 =>
            gtI (5, 5) M0 x7 3 fun x8 =>
            some (.int x8, M0)))] (
          gtP (12, 19) M0 a0 6 fun x9 =>
          gtI (5, 5) M0 x9 4 fun x10 =>
          some (.int x10, M0))) else (
        j16 ())))
def b144 (rec : Nat → List Value → Mem → XA) (as : List Value) (M0 : Mem) : XA := aR as fun a0 as => aI as fun a1 as => aZ as (c144 rec a0 a1 M0)
set_option maxRecDepth 100000 in
set_option maxHeartbeats 4000000 in
theorem k144 {S : XS} {G : XG} {K : Nat × Nat} {l : Launch} {d : Nat} {rec : Nat → List Value → Mem → XA} (hs : XSnd l xmt rec d) (a0 : Option Nat) (a1 : Int32) (M0 : Mem) : Xe S G K l (yX11_told, cX11_told, 2, some .int) d 0 [some (va_rf a0), some (.int a1)] [] M0 (c144 rec a0 a1 M0) := by
  unfold c144
  refine x_aload_n dX11_told_0 rfl ?_
  refine gfX11_220 rfl dX11_told_1 (fun x1 => ?_)
  refine x_jn (σ := Unit) 16 (fun s2 => [none, none]) (fun s2 => []) (fun s2 => M0) (fun s2 => ?_) (fun j16 hj16 => ?_)
  · refine x_iconst (v := -1) dX11_told_16 (by decide) ?_
    exact x_iret rfl dX11_told_17
  refine x_if_eq (tgt := 16) dX11_told_4 (by decide) (fun _ => ?_) (fun _ => ?_)
  · exact x_weak (by exact trivial) (hj16 ())
  · refine x_iload_n dX11_told_7 rfl ?_
    refine x_if_lt (tgt := 16) dX11_told_8 (by decide) (fun _ => ?_) (fun _ => ?_)
    · exact x_weak (by exact trivial) (hj16 ())
    · refine x_iload_n dX11_told_11 rfl ?_
      refine x_iconst (v := 3) dX11_told_12 (by decide) ?_
      refine x_icmp_le (tgt := 18) dX11_told_13 (by decide) (fun _ => ?_) (fun _ => ?_)
      · refine x_iload_n dX11_told_18 rfl ?_
        refine x_table (tgt := 68) dX11_told_19 [(0, 44), (1, 52), (2, 60)] (by decide +kernel) (by decide +kernel) (by decide) ?_ ?_
        · refine swG_d (by decide) ?_ (swG_d (by decide) ?_ (swG_d (by decide) ?_ (trivial)))
          · refine x_aload_n dX11_told_44 rfl ?_
            refine gfX11_39 rfl dX11_told_45 (fun x3 => ?_)
            refine gfX11_223 rfl dX11_told_48 (fun x4 => ?_)
            exact x_iret rfl dX11_told_51
          · refine x_aload_n dX11_told_52 rfl ?_
            refine gfX11_39 rfl dX11_told_53 (fun x5 => ?_)
            refine gfX11_226 rfl dX11_told_56 (fun x6 => ?_)
            exact x_iret rfl dX11_told_59
          · refine x_aload_n dX11_told_60 rfl ?_
            refine gfX11_39 rfl dX11_told_61 (fun x7 => ?_)
            refine gfX11_229 rfl dX11_told_64 (fun x8 => ?_)
            exact x_iret rfl dX11_told_67
        · refine x_aload_n dX11_told_68 rfl ?_
          refine gfX11_39 rfl dX11_told_69 (fun x9 => ?_)
          refine gfX11_232 rfl dX11_told_72 (fun x10 => ?_)
          exact x_iret rfl dX11_told_75
      · exact x_weak (by exact trivial) (hj16 ())
theorem s144 {l : Launch} {d : Nat} {rec : Nat → List Value → Mem → XA} (hS : Nonempty XS) (hs : XSnd l xmt rec d) : Snd1 l 144 (b144 rec) d := by
  intro as M r M' h0
  unfold b144 at h0
  obtain ⟨a0, l1, e1, h1⟩ := aR_inv h0
  obtain ⟨a1, l2, e2, h2⟩ := aI_inv h1
  obtain ⟨ez, h⟩ := aZ_inv h2
  subst ez
  subst e2
  subst e1
  exact xmet (M := M) (as := [va_rf a0, .int a1]) (lo := [some (va_rf a0), some (.int a1)]) 144 xq144 xm144 (by rw [xargs_rf, xargs_i, xargs_nil]; exact ⟨rfl, ⟨rfl, trivial⟩⟩) (by rw [xargs_rf, xargs_i, xargs_nil]; exact Nat.le_of_ble_eq_true rfl) (fun S G K => x_weak (by exact ⟨rfl, ⟨rfl, trivial⟩⟩) (k144 hs a0 a1 M)) h hS
set_option maxRecDepth 100000 in
def c145_46 (rec : Nat → List Value → Mem → XA) (a0 : Option Nat) (a1 : Int32) (a2 : Int32) (j71 : Mem → XA) (j108 : Option Nat × Mem → XA) : (Option Nat × Int32 × Mem) → ((Option Nat × Int32 × Mem) → XA) → XA := fun s13 j46 =>
  if ((8 : Int32)) ≤ s13.2.1 then (
    j108 (s13.1, s13.2.2)) else (
    gtP (12, 19) s13.2.2 a0 2 fun x14 =>
    gtP (4, 22) s13.2.2 x14 7 fun x15 =>
    alP 112 s13.2.2 x15 s13.2.1 fun x16 =>
    vC (10, 9) s13.2.2 x16 <|
    cI (rec 122 [va_rf x16, .int a1, .int a2] s13.2.2) fun x18 M17 =>
    if x18 = 0 then (
      gtP (12, 19) M17 a0 2 fun x19 =>
      gtP (4, 22) M17 x19 7 fun x20 =>
      alP 112 M17 x20 s13.2.1 fun x21 =>
      gtI (10, 9) M17 x21 0 fun x22 =>
      jn (fun (s23 : Option Nat) =>
        lt (s13.2.1 + (1 : Int32)) fun (x24 : Int32) =>
        j46 (s23, x24, M17)) fun j102 =>
      if 0 ≤ x22 then (
        j102 s13.1) else (
        gtP (12, 19) M17 a0 2 fun x25 =>
        gtP (4, 22) M17 x25 7 fun x26 =>
        alP 112 M17 x26 s13.2.1 fun x27 =>
        j102 x27)) else (
      j71 M17))
set_option maxRecDepth 100000 in
def c145 (rec : Nat → List Value → Mem → XA) (a0 : Option Nat) (a1 : Int32) (a2 : Int32) (M0 : Mem) : XA :=
  vC (12, 19) M0 a0 <|
  cP (rec 167 [va_rf a0, .int a1] M0) fun x2 M1 =>
  jn (fun (s3 : Option Nat × Mem) =>
    jn (fun (s4 : Unit) =>
      some (.int ((-1 : Int32)), s3.2)) fun j38 =>
    if s3.1 = none then (
      j38 ()) else (
      gtI (8, 9) s3.2 s3.1 2 fun x5 =>
      if x5 = ((4 : Int32)) then (
        jn (fun (s6 : Mem) =>
          some (.int ((-2 : Int32)), s6)) fun j71 =>
        jn (fun (s7 : Option Nat × Mem) =>
          if s7.1 = none then (
            some (.int ((-3 : Int32)), s7.2)) else (
            gtI (12, 19) s7.2 a0 3 fun x8 =>
            gtI (8, 9) s7.2 s3.1 4 fun x9 =>
            vC (10, 9) s7.2 s7.1 <|
            cV (rec 121 [va_rf s7.1, .int x8, .int a1, .int a2, .int x9] s7.2) fun M10 =>
            gtI (12, 19) M10 a0 3 fun x11 =>
            ptI (12, 19) M10 a0 3 (x11 + ((1 : Int32))) fun M12 =>
            some (.int x11, M12))) fun j108 =>
        lp (c145_46 rec a0 a1 a2 j71 j108) 4294967296 (none, (0 : Int32), s3.2)) else (
        j38 ()))) fun j22 =>
  if x2 = none then (
    j22 (none, M1)) else (
    gtP (6, 18) M1 x2 2 fun x28 =>
    cP (rec 168 [va_rf x28, .int a2] M1) fun x30 M29 =>
    j22 (x30, M29))
def b145 (rec : Nat → List Value → Mem → XA) (as : List Value) (M0 : Mem) : XA := aR as fun a0 as => aI as fun a1 as => aI as fun a2 as => aZ as (c145 rec a0 a1 a2 M0)
set_option maxRecDepth 100000 in
set_option maxHeartbeats 4000000 in
theorem k145 {S : XS} {G : XG} {K : Nat × Nat} {l : Launch} {d : Nat} {rec : Nat → List Value → Mem → XA} (hs : XSnd l xmt rec d) (a0 : Option Nat) (a1 : Int32) (a2 : Int32) (M0 : Mem) : Xe S G K l (yX11_twin, cX11_twin, 7, some .int) d 0 [some (va_rf a0), some (.int a1), some (.int a2), none, none, none, none] [] M0 (c145 rec a0 a1 a2 M0) := by
  unfold c145
  refine x_aload_n dX11_twin_0 rfl ?_
  refine x_iload_n dX11_twin_1 rfl ?_
  refine cmX11_109 rfl hs (Nat.le_of_ble_eq_true rfl) dX11_twin_2 (fun x2 M1 => ?_)
  refine x_astore_n (lo' := [some (va_rf a0), some (.int a1), some (.int a2), some (va_rf x2), none, none, none]) dX11_twin_5 (by decide) rfl rfl ?_
  refine x_aload_n dX11_twin_6 rfl ?_
  refine x_jn (σ := Option Nat × Mem) 22 (fun s3 => [some (va_rf a0), some (.int a1), some (.int a2), none, none, none, none]) (fun s3 => [va_rf s3.1]) (fun s3 => s3.2) (fun s3 => ?_) (fun j22 hj22 => ?_)
  · refine x_astore (lo' := [some (va_rf a0), some (.int a1), some (.int a2), none, some (va_rf s3.1), none, none]) dX11_twin_22 (by decide) rfl rfl ?_
    refine x_aload dX11_twin_24 rfl ?_
    refine x_jn (σ := Unit) 38 (fun s4 => [none, none, none, none, none, none, none]) (fun s4 => []) (fun s4 => s3.2) (fun s4 => ?_) (fun j38 hj38 => ?_)
    · refine x_iconst (v := -1) dX11_twin_38 (by decide) ?_
      exact x_iret rfl dX11_twin_39
    refine x_ifnull (tgt := 38) dX11_twin_26 (by decide) (fun _ => ?_) (fun _ => ?_)
    · exact x_weak (by exact trivial) (hj38 ())
    · refine x_aload dX11_twin_29 rfl ?_
      refine gfX11_139 rfl dX11_twin_31 (fun x5 => ?_)
      refine x_iconst (v := 4) dX11_twin_34 (by decide) ?_
      refine x_icmp_eq (tgt := 40) dX11_twin_35 (by decide) (fun _ => ?_) (fun _ => ?_)
      · refine x_null dX11_twin_40 ?_
        refine x_astore (lo' := [some (va_rf a0), some (.int a1), some (.int a2), none, some (va_rf s3.1), some (va_rf none), none]) dX11_twin_41 (by decide) (xok_r rfl) rfl ?_
        refine x_iconst (v := 0) dX11_twin_43 (by decide) ?_
        refine x_istore (lo' := [some (va_rf a0), some (.int a1), some (.int a2), none, some (va_rf s3.1), some (va_rf none), some (.int ((0 : Int32)))]) dX11_twin_44 (by decide) (xok_r rfl) rfl ?_
        refine x_jn (σ := Mem) 71 (fun s6 => [none, none, none, none, none, none, none]) (fun s6 => []) (fun s6 => s6) (fun s6 => ?_) (fun j71 hj71 => ?_)
        · refine x_bipush (v := -2) dX11_twin_71 (by decide) ?_
          exact x_iret rfl dX11_twin_73
        refine x_jn (σ := Option Nat × Mem) 108 (fun s7 => [some (va_rf a0), some (.int a1), some (.int a2), none, some (va_rf s3.1), some (va_rf s7.1), none]) (fun s7 => []) (fun s7 => s7.2) (fun s7 => ?_) (fun j108 hj108 => ?_)
        · refine x_aload dX11_twin_108 rfl ?_
          refine x_ifnonnull (tgt := 116) dX11_twin_110 (by decide) (fun _ => ?_) (fun _ => ?_)
          · refine x_bipush (v := -3) dX11_twin_113 (by decide) ?_
            exact x_iret rfl dX11_twin_115
          · refine x_aload dX11_twin_116 rfl ?_
            refine x_aload_n dX11_twin_118 rfl ?_
            refine gfX11_248 rfl dX11_twin_119 (fun x8 => ?_)
            refine x_iload_n dX11_twin_122 rfl ?_
            refine x_iload_n dX11_twin_123 rfl ?_
            refine x_aload dX11_twin_124 rfl ?_
            refine gfX11_146 rfl dX11_twin_126 (fun x9 => ?_)
            refine cmX11_251 rfl hs (Nat.le_of_ble_eq_true rfl) dX11_twin_129 (fun M10 => ?_)
            refine x_aload_n dX11_twin_132 rfl ?_
            refine x_dup dX11_twin_133 (xc1_r _) ?_
            refine gfX11_248 rfl dX11_twin_134 (fun x11 => ?_)
            refine x_dup_x1 dX11_twin_137 (xc1_i _) (xc1_r _) ?_
            refine x_iconst (v := 1) dX11_twin_138 (by decide) ?_
            refine x_iadd dX11_twin_139 ?_
            refine pfX11_248 rfl dX11_twin_140 (fun M12 => ?_)
            exact x_iret rfl dX11_twin_143
        refine x_weak (by exact ⟨rfl, ⟨rfl, ⟨rfl, ⟨rfl, ⟨rfl, ⟨rfl, trivial⟩⟩⟩⟩⟩⟩) (x_lp (σ := Option Nat × Int32 × Mem) 46 (fun s13 => [some (va_rf a0), some (.int a1), some (.int a2), none, some (va_rf s3.1), some (va_rf s13.1), some (.int s13.2.1)]) (fun s13 => []) (fun s13 => s13.2.2) (fun s13 j46 hj46 => ?_) 4294967296 (none, (0 : Int32), s3.2))
        · refine x_iload dX11_twin_46 rfl ?_
          refine x_bipush (v := 8) dX11_twin_48 (by decide) ?_
          refine x_icmp_ge (tgt := 108) dX11_twin_50 (by decide) (fun _ => ?_) (fun _ => ?_)
          · exact x_weak (by exact ⟨rfl, ⟨rfl, ⟨rfl, ⟨rfl, ⟨rfl, trivial⟩⟩⟩⟩⟩) (hj108 (s13.1, s13.2.2))
          · refine x_aload_n dX11_twin_53 rfl ?_
            refine gfX11_26 rfl dX11_twin_54 (fun x14 => ?_)
            refine gfX11_235 rfl dX11_twin_57 (fun x15 => ?_)
            refine x_iload dX11_twin_60 rfl ?_
            refine x_aldq (t := 112) (tn := 7) (by decide) (by decide) rfl dX11_twin_62 (fun x16 => ?_)
            refine x_iload_n dX11_twin_63 rfl ?_
            refine x_iload_n dX11_twin_64 rfl ?_
            refine cmX11_239 rfl hs (Nat.le_of_ble_eq_true rfl) dX11_twin_65 (fun x18 M17 => ?_)
            refine x_if_eq (tgt := 74) dX11_twin_68 (by decide) (fun _ => ?_) (fun _ => ?_)
            · refine x_aload_n dX11_twin_74 rfl ?_
              refine gfX11_26 rfl dX11_twin_75 (fun x19 => ?_)
              refine gfX11_235 rfl dX11_twin_78 (fun x20 => ?_)
              refine x_iload dX11_twin_81 rfl ?_
              refine x_aldq (t := 112) (tn := 7) (by decide) (by decide) rfl dX11_twin_83 (fun x21 => ?_)
              refine gfX11_245 rfl dX11_twin_84 (fun x22 => ?_)
              refine x_jn (σ := Option Nat) 102 (fun s23 => [some (va_rf a0), some (.int a1), some (.int a2), none, some (va_rf s3.1), some (va_rf s23), some (.int s13.2.1)]) (fun s23 => []) (fun s23 => M17) (fun s23 => ?_) (fun j102 hj102 => ?_)
              · refine x_iincN (v := 1) (lo' := fun x24 => [some (va_rf a0), some (.int a1), some (.int a2), none, some (va_rf s3.1), some (va_rf s23), some (.int x24)]) (by decide) dX11_twin_102 rfl (by decide) (xok_r rfl) (fun _ => rfl) (fun x24 => ?_)
                refine x_goto (tgt := 46) dX11_twin_105 (by decide) ?_
                exact x_weak (by exact ⟨rfl, ⟨rfl, ⟨rfl, ⟨rfl, ⟨rfl, ⟨rfl, trivial⟩⟩⟩⟩⟩⟩) (hj46 (s23, x24, M17))
              refine x_if_ge (tgt := 102) dX11_twin_87 (by decide) (fun _ => ?_) (fun _ => ?_)
              · exact x_weak (by exact ⟨rfl, ⟨rfl, ⟨rfl, ⟨rfl, ⟨rfl, ⟨rfl, trivial⟩⟩⟩⟩⟩⟩) (hj102 s13.1)
              · refine x_aload_n dX11_twin_90 rfl ?_
                refine gfX11_26 rfl dX11_twin_91 (fun x25 => ?_)
                refine gfX11_235 rfl dX11_twin_94 (fun x26 => ?_)
                refine x_iload dX11_twin_97 rfl ?_
                refine x_aldq (t := 112) (tn := 7) (by decide) (by decide) rfl dX11_twin_99 (fun x27 => ?_)
                refine x_astore (lo' := [some (va_rf a0), some (.int a1), some (.int a2), none, some (va_rf s3.1), some (va_rf x27), some (.int s13.2.1)]) dX11_twin_100 (by decide) (xok_r rfl) rfl ?_
                exact x_weak (by exact ⟨rfl, ⟨rfl, ⟨rfl, ⟨rfl, ⟨rfl, ⟨rfl, trivial⟩⟩⟩⟩⟩⟩) (hj102 x27)
            · exact x_weak (by exact trivial) (hj71 M17)
      · exact x_weak (by exact trivial) (hj38 ())
  refine x_ifnonnull (tgt := 14) dX11_twin_7 (by decide) (fun _ => ?_) (fun _ => ?_)
  · refine x_null dX11_twin_10 ?_
    refine x_goto (tgt := 22) dX11_twin_11 (by decide) ?_
    exact x_weak (by exact ⟨rfl, ⟨rfl, ⟨rfl, trivial⟩⟩⟩) (hj22 (none, M1))
  · refine x_aload_n dX11_twin_14 rfl ?_
    refine gfX11_116 rfl dX11_twin_15 (fun x28 => ?_)
    refine x_iload_n dX11_twin_18 rfl ?_
    refine cmX11_130 rfl hs (Nat.le_of_ble_eq_true rfl) dX11_twin_19 (fun x30 M29 => ?_)
    exact x_weak (by exact ⟨rfl, ⟨rfl, ⟨rfl, trivial⟩⟩⟩) (hj22 (x30, M29))
theorem s145 {l : Launch} {d : Nat} {rec : Nat → List Value → Mem → XA} (hS : Nonempty XS) (hs : XSnd l xmt rec d) : Snd1 l 145 (b145 rec) d := by
  intro as M r M' h0
  unfold b145 at h0
  obtain ⟨a0, l1, e1, h1⟩ := aR_inv h0
  obtain ⟨a1, l2, e2, h2⟩ := aI_inv h1
  obtain ⟨a2, l3, e3, h3⟩ := aI_inv h2
  obtain ⟨ez, h⟩ := aZ_inv h3
  subst ez
  subst e3
  subst e2
  subst e1
  exact xmet (M := M) (as := [va_rf a0, .int a1, .int a2]) (lo := [some (va_rf a0), some (.int a1), some (.int a2)]) 145 xq145 xm145 (by rw [xargs_rf, xargs_i, xargs_i, xargs_nil]; exact ⟨rfl, ⟨rfl, ⟨rfl, trivial⟩⟩⟩) (by rw [xargs_rf, xargs_i, xargs_i, xargs_nil]; exact Nat.le_of_ble_eq_true rfl) (fun S G K => x_weak (by exact ⟨rfl, ⟨rfl, ⟨rfl, trivial⟩⟩⟩) (k145 hs a0 a1 a2 M)) h hS
