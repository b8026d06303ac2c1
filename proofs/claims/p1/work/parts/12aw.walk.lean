set_option maxRecDepth 100000 in
def c309 (rec : Nat → List Value → Mem → XA) (a0 : Option Nat) (a1 : Int32) (a2 : Int32) (M0 : Mem) : XA :=
  gtI (13, 157) M0 a0 154 fun x1 =>
  cI (rec 184 [.int a1, .int ((0 : Int32)), .int (x1 - ((1 : Int32)))] M0) fun x3 M2 =>
  jn (fun (s4 : Mem) =>
    some (.int ((-1 : Int32)), s4)) fun j35 =>
  if x3 = 0 then (
    j35 M2) else (
    gtP (13, 157) M2 a0 17 fun x5 =>
    gtP (13, 157) M2 a0 155 fun x6 =>
    alI 100 M2 x6 a1 fun x7 =>
    alI 100 M2 x5 x7 fun x8 =>
    cI (rec 184 [.int a2, .int ((0 : Int32)), .int (x8 - ((1 : Int32)))] M2) fun x10 M9 =>
    if x10 = 0 then (
      j35 M9) else (
      gtP (13, 157) M9 a0 19 fun x11 =>
      gtP (13, 157) M9 a0 155 fun x12 =>
      alI 100 M9 x12 a1 fun x13 =>
      alI 100 M9 x11 ((((16 : Int32)) * x13) + a2) fun x14 =>
      vC (13, 157) M9 a0 <|
      cI (rec 307 [va_rf a0, .int a1, .int x14] M9) fun x16 M15 =>
      if x16 < 0 then (
        gtP (13, 157) M15 a0 155 fun x17 =>
        alI 100 M15 x17 a1 fun x18 =>
        gtP (13, 157) M15 a0 156 fun x19 =>
        alI 100 M15 x19 a1 fun x20 =>
        vC (13, 157) M15 a0 <|
        cV (rec 235 [va_rf a0, .int x18, .int x20] M15) fun M21 =>
        vC (13, 157) M21 a0 <|
        cI (rec 260 [va_rf a0, .int a2] M21) fun x23 M22 =>
        some (.int x23, M22)) else (
        some (.int ((-2 : Int32)), M15))))
def b309 (rec : Nat → List Value → Mem → XA) (as : List Value) (M0 : Mem) : XA := aR as fun a0 as => aI as fun a1 as => aI as fun a2 as => aZ as (c309 rec a0 a1 a2 M0)
set_option maxRecDepth 100000 in
set_option maxHeartbeats 4000000 in
theorem k309 {S : XS} {G : XG} {K : Nat × Nat} {l : Launch} {d : Nat} {rec : Nat → List Value → Mem → XA} (hs : XSnd l xmt rec d) (a0 : Option Nat) (a1 : Int32) (a2 : Int32) (M0 : Mem) : Xe S G K l (yX12_touch, cX12_touch, 3, some .int) d 0 [some (va_rf a0), some (.int a1), some (.int a2)] [] M0 (c309 rec a0 a1 a2 M0) := by
  unfold c309
  refine x_iload_n dX12_touch_0 rfl ?_
  refine x_iconst (v := 0) dX12_touch_1 (by decide) ?_
  refine x_aload_n dX12_touch_2 rfl ?_
  refine gfX12_850 rfl dX12_touch_3 (fun x1 => ?_)
  refine x_iconst (v := 1) dX12_touch_6 (by decide) ?_
  refine x_isub dX12_touch_7 ?_
  refine cmX12_381 rfl hs (Nat.le_of_ble_eq_true rfl) dX12_touch_8 (fun x3 M2 => ?_)
  refine x_jn (σ := Mem) 35 (fun s4 => [none, none, none]) (fun s4 => []) (fun s4 => s4) (fun s4 => ?_) (fun j35 hj35 => ?_)
  · refine x_iconst (v := -1) dX12_touch_35 (by decide) ?_
    exact x_iret rfl dX12_touch_36
  refine x_if_eq (tgt := 35) dX12_touch_11 (by decide) (fun _ => ?_) (fun _ => ?_)
  · exact x_weak (by exact trivial) (hj35 M2)
  · refine x_iload_n dX12_touch_14 rfl ?_
    refine x_iconst (v := 0) dX12_touch_15 (by decide) ?_
    refine x_aload_n dX12_touch_16 rfl ?_
    refine gfX12_58 rfl dX12_touch_17 (fun x5 => ?_)
    refine x_aload_n dX12_touch_20 rfl ?_
    refine gfX12_372 rfl dX12_touch_21 (fun x6 => ?_)
    refine x_iload_n dX12_touch_24 rfl ?_
    refine x_iald dX12_touch_25 (fun x7 => ?_)
    refine x_iald dX12_touch_26 (fun x8 => ?_)
    refine x_iconst (v := 1) dX12_touch_27 (by decide) ?_
    refine x_isub dX12_touch_28 ?_
    refine cmX12_381 rfl hs (Nat.le_of_ble_eq_true rfl) dX12_touch_29 (fun x10 M9 => ?_)
    refine x_if_ne (tgt := 37) dX12_touch_32 (by decide) (fun _ => ?_) (fun _ => ?_)
    · exact x_weak (by exact trivial) (hj35 M9)
    · refine x_aload_n dX12_touch_37 rfl ?_
      refine x_iload_n dX12_touch_38 rfl ?_
      refine x_aload_n dX12_touch_39 rfl ?_
      refine gfX12_64 rfl dX12_touch_40 (fun x11 => ?_)
      refine x_bipush (v := 16) dX12_touch_43 (by decide) ?_
      refine x_aload_n dX12_touch_45 rfl ?_
      refine gfX12_372 rfl dX12_touch_46 (fun x12 => ?_)
      refine x_iload_n dX12_touch_49 rfl ?_
      refine x_iald dX12_touch_50 (fun x13 => ?_)
      refine x_imul dX12_touch_51 ?_
      refine x_iload_n dX12_touch_52 rfl ?_
      refine x_iadd dX12_touch_53 ?_
      refine x_iald dX12_touch_54 (fun x14 => ?_)
      refine cmX12_853 rfl hs (Nat.le_of_ble_eq_true rfl) dX12_touch_55 (fun x16 M15 => ?_)
      refine x_if_lt (tgt := 64) dX12_touch_58 (by decide) (fun _ => ?_) (fun _ => ?_)
      · refine x_aload_n dX12_touch_64 rfl ?_
        refine x_aload_n dX12_touch_65 rfl ?_
        refine gfX12_372 rfl dX12_touch_66 (fun x17 => ?_)
        refine x_iload_n dX12_touch_69 rfl ?_
        refine x_iald dX12_touch_70 (fun x18 => ?_)
        refine x_aload_n dX12_touch_71 rfl ?_
        refine gfX12_375 rfl dX12_touch_72 (fun x19 => ?_)
        refine x_iload_n dX12_touch_75 rfl ?_
        refine x_iald dX12_touch_76 (fun x20 => ?_)
        refine cmX12_738 rfl hs (Nat.le_of_ble_eq_true rfl) dX12_touch_77 (fun M21 => ?_)
        refine x_aload_n dX12_touch_80 rfl ?_
        refine x_iload_n dX12_touch_81 rfl ?_
        refine cmX12_752 rfl hs (Nat.le_of_ble_eq_true rfl) dX12_touch_82 (fun x23 M22 => ?_)
        exact x_iret rfl dX12_touch_85
      · refine x_bipush (v := -2) dX12_touch_61 (by decide) ?_
        exact x_iret rfl dX12_touch_63
theorem s309 {l : Launch} {d : Nat} {rec : Nat → List Value → Mem → XA} (hS : Nonempty XS) (hs : XSnd l xmt rec d) : Snd1 l 309 (b309 rec) d := by
  intro as M r M' h0
  unfold b309 at h0
  obtain ⟨a0, l1, e1, h1⟩ := aR_inv h0
  obtain ⟨a1, l2, e2, h2⟩ := aI_inv h1
  obtain ⟨a2, l3, e3, h3⟩ := aI_inv h2
  obtain ⟨ez, h⟩ := aZ_inv h3
  subst ez
  subst e3
  subst e2
  subst e1
  exact xmet (M := M) (as := [va_rf a0, .int a1, .int a2]) (lo := [some (va_rf a0), some (.int a1), some (.int a2)]) 309 xq309 xm309 (by rw [xargs_rf, xargs_i, xargs_i, xargs_nil]; exact ⟨rfl, ⟨rfl, ⟨rfl, trivial⟩⟩⟩) (by rw [xargs_rf, xargs_i, xargs_i, xargs_nil]; exact Nat.le_of_ble_eq_true rfl) (fun S G K => x_weak (by exact ⟨rfl, ⟨rfl, ⟨rfl, trivial⟩⟩⟩) (k309 hs a0 a1 a2 M)) h hS
set_option maxRecDepth 100000 in
def c310 (rec : Nat → List Value → Mem → XA) (a0 : Int32) (M0 : Mem) : XA :=
  lt ((Int32.toUInt32 a0 >>> (Int32.toUInt32 ((16 : Int32)) &&& Int32.toUInt32 31)).toInt32) fun (x1 : Int32) =>
  jn (fun (s2 : Int32) =>
    rtZ s2 M0) fun j16 =>
  if ((17 : Int32)) ≤ x1 then (
    j16 ((0 : Int32))) else (
    j16 ((1 : Int32)))
def b310 (rec : Nat → List Value → Mem → XA) (as : List Value) (M0 : Mem) : XA := aI as fun a0 as => aZ as (c310 rec a0 M0)
set_option maxRecDepth 100000 in
set_option maxHeartbeats 4000000 in
theorem k310 {S : XS} {G : XG} {K : Nat × Nat} {l : Launch} {d : Nat} {rec : Nat → List Value → Mem → XA} (hs : XSnd l xmt rec d) (a0 : Int32) (M0 : Mem) : Xe S G K l (yJ11_isValidCodePoint_9a6ad, cJ11_isValidCodePoint_9a6ad, 2, some .boolean) d 0 [some (.int a0), none] [] M0 (c310 rec a0 M0) := by
  unfold c310
  refine x_iload_n dJ11_isValidCodePoint_9a6ad_0 rfl ?_
  refine x_bipush (v := 16) dJ11_isValidCodePoint_9a6ad_1 (by decide) ?_
  refine x_iushr dJ11_isValidCodePoint_9a6ad_3 ?_
  refine x_ltI (fun x1 => ?_)
  refine x_istore_n (lo' := [some (.int a0), some (.int x1)]) dJ11_isValidCodePoint_9a6ad_4 (by decide) rfl rfl ?_
  refine x_iload_n dJ11_isValidCodePoint_9a6ad_5 rfl ?_
  refine x_bipush (v := 17) dJ11_isValidCodePoint_9a6ad_6 (by decide) ?_
  refine x_jn (σ := Int32) 16 (fun s2 => [none, none]) (fun s2 => [.int s2]) (fun s2 => M0) (fun s2 => ?_) (fun j16 hj16 => ?_)
  · exact x_zret rfl dJ11_isValidCodePoint_9a6ad_16
  refine x_icmp_ge (tgt := 15) dJ11_isValidCodePoint_9a6ad_8 (by decide) (fun _ => ?_) (fun _ => ?_)
  · refine x_iconst (v := 0) dJ11_isValidCodePoint_9a6ad_15 (by decide) ?_
    exact x_weak (by exact trivial) (hj16 ((0 : Int32)))
  · refine x_iconst (v := 1) dJ11_isValidCodePoint_9a6ad_11 (by decide) ?_
    refine x_goto (tgt := 16) dJ11_isValidCodePoint_9a6ad_12 (by decide) ?_
    exact x_weak (by exact trivial) (hj16 ((1 : Int32)))
theorem s310 {l : Launch} {d : Nat} {rec : Nat → List Value → Mem → XA} (hS : Nonempty XS) (hs : XSnd l xmt rec d) : Snd1 l 310 (b310 rec) d := by
  intro as M r M' h0
  unfold b310 at h0
  obtain ⟨a0, l1, e1, h1⟩ := aI_inv h0
  obtain ⟨ez, h⟩ := aZ_inv h1
  subst ez
  subst e1
  exact xmet (M := M) (as := [.int a0]) (lo := [some (.int a0)]) 310 xq310 xm310 (by rw [xargs_i, xargs_nil]; exact ⟨rfl, trivial⟩) (by rw [xargs_i, xargs_nil]; exact Nat.le_of_ble_eq_true rfl) (fun S G K => x_weak (by exact ⟨rfl, trivial⟩) (k310 hs a0 M)) h hS
set_option maxRecDepth 100000 in
def c311 (rec : Nat → List Value → Mem → XA) (a0 : Int32) (M0 : Mem) : XA :=
  rtC (((((Int32.toUInt32 a0 >>> (Int32.toUInt32 ((10 : Int32)) &&& Int32.toUInt32 31)).toInt32) + ((55232 : Int32))).toUInt32 % 65536).toInt32) M0
def b311 (rec : Nat → List Value → Mem → XA) (as : List Value) (M0 : Mem) : XA := aI as fun a0 as => aZ as (c311 rec a0 M0)
set_option maxRecDepth 100000 in
set_option maxHeartbeats 4000000 in
theorem k311 {S : XS} {G : XG} {K : Nat × Nat} {l : Launch} {d : Nat} {rec : Nat → List Value → Mem → XA} (hs : XSnd l xmt rec d) (a0 : Int32) (M0 : Mem) : Xe S G K l (yJ11_highSurrogate_5068e, cJ11_highSurrogate_5068e, 1, some .char) d 0 [some (.int a0)] [] M0 (c311 rec a0 M0) := by
  unfold c311
  refine x_iload_n dJ11_highSurrogate_5068e_0 rfl ?_
  refine x_bipush (v := 10) dJ11_highSurrogate_5068e_1 (by decide) ?_
  refine x_iushr dJ11_highSurrogate_5068e_3 ?_
  refine x_ldc (v := 55232) dJ11_highSurrogate_5068e_4 lk_constant_J11_110 ?_
  refine x_iadd dJ11_highSurrogate_5068e_6 ?_
  refine x_i2c dJ11_highSurrogate_5068e_7 ?_
  exact x_cret rfl dJ11_highSurrogate_5068e_8
theorem s311 {l : Launch} {d : Nat} {rec : Nat → List Value → Mem → XA} (hS : Nonempty XS) (hs : XSnd l xmt rec d) : Snd1 l 311 (b311 rec) d := by
  intro as M r M' h0
  unfold b311 at h0
  obtain ⟨a0, l1, e1, h1⟩ := aI_inv h0
  obtain ⟨ez, h⟩ := aZ_inv h1
  subst ez
  subst e1
  exact xmet (M := M) (as := [.int a0]) (lo := [some (.int a0)]) 311 xq311 xm311 (by rw [xargs_i, xargs_nil]; exact ⟨rfl, trivial⟩) (by rw [xargs_i, xargs_nil]; exact Nat.le_of_ble_eq_true rfl) (fun S G K => x_weak (by exact ⟨rfl, trivial⟩) (k311 hs a0 M)) h hS
set_option maxRecDepth 100000 in
def c312 (rec : Nat → List Value → Mem → XA) (a0 : Int32) (M0 : Mem) : XA :=
  rtC ((((a0 &&& ((1023 : Int32))) + ((56320 : Int32))).toUInt32 % 65536).toInt32) M0
def b312 (rec : Nat → List Value → Mem → XA) (as : List Value) (M0 : Mem) : XA := aI as fun a0 as => aZ as (c312 rec a0 M0)
set_option maxRecDepth 100000 in
set_option maxHeartbeats 4000000 in
theorem k312 {S : XS} {G : XG} {K : Nat × Nat} {l : Launch} {d : Nat} {rec : Nat → List Value → Mem → XA} (hs : XSnd l xmt rec d) (a0 : Int32) (M0 : Mem) : Xe S G K l (yJ11_lowSurrogate_5068e, cJ11_lowSurrogate_5068e, 1, some .char) d 0 [some (.int a0)] [] M0 (c312 rec a0 M0) := by
  unfold c312
  refine x_iload_n dJ11_lowSurrogate_5068e_0 rfl ?_
  refine x_sipush (v := 1023) dJ11_lowSurrogate_5068e_1 (by decide) ?_
  refine x_iand dJ11_lowSurrogate_5068e_4 ?_
  refine x_ldc (v := 56320) dJ11_lowSurrogate_5068e_5 lk_constant_J11_76 ?_
  refine x_iadd dJ11_lowSurrogate_5068e_7 ?_
  refine x_i2c dJ11_lowSurrogate_5068e_8 ?_
  exact x_cret rfl dJ11_lowSurrogate_5068e_9
theorem s312 {l : Launch} {d : Nat} {rec : Nat → List Value → Mem → XA} (hS : Nonempty XS) (hs : XSnd l xmt rec d) : Snd1 l 312 (b312 rec) d := by
  intro as M r M' h0
  unfold b312 at h0
  obtain ⟨a0, l1, e1, h1⟩ := aI_inv h0
  obtain ⟨ez, h⟩ := aZ_inv h1
  subst ez
  subst e1
  exact xmet (M := M) (as := [.int a0]) (lo := [some (.int a0)]) 312 xq312 xm312 (by rw [xargs_i, xargs_nil]; exact ⟨rfl, trivial⟩) (by rw [xargs_i, xargs_nil]; exact Nat.le_of_ble_eq_true rfl) (fun S G K => x_weak (by exact ⟨rfl, trivial⟩) (k312 hs a0 M)) h hS
set_option maxRecDepth 100000 in
def c313 (rec : Nat → List Value → Mem → XA) (a0 : Int32) (M0 : Mem) : XA :=
  some (.int (a0 &&& (-a0)), M0)
def b313 (rec : Nat → List Value → Mem → XA) (as : List Value) (M0 : Mem) : XA := aI as fun a0 as => aZ as (c313 rec a0 M0)
set_option maxRecDepth 100000 in
set_option maxHeartbeats 4000000 in
theorem k313 {S : XS} {G : XG} {K : Nat × Nat} {l : Launch} {d : Nat} {rec : Nat → List Value → Mem → XA} (hs : XSnd l xmt rec d) (a0 : Int32) (M0 : Mem) : Xe S G K l (yJ6_lowestOneBit_0f7a4, cJ6_lowestOneBit_0f7a4, 1, some .int) d 0 [some (.int a0)] [] M0 (c313 rec a0 M0) := by
  unfold c313
  refine x_iload_n dJ6_lowestOneBit_0f7a4_0 rfl ?_
  refine x_iload_n dJ6_lowestOneBit_0f7a4_1 rfl ?_
  refine x_ineg dJ6_lowestOneBit_0f7a4_2 ?_
  refine x_iand dJ6_lowestOneBit_0f7a4_3 ?_
  exact x_iret rfl dJ6_lowestOneBit_0f7a4_4
theorem s313 {l : Launch} {d : Nat} {rec : Nat → List Value → Mem → XA} (hS : Nonempty XS) (hs : XSnd l xmt rec d) : Snd1 l 313 (b313 rec) d := by
  intro as M r M' h0
  unfold b313 at h0
  obtain ⟨a0, l1, e1, h1⟩ := aI_inv h0
  obtain ⟨ez, h⟩ := aZ_inv h1
  subst ez
  subst e1
  exact xmet (M := M) (as := [.int a0]) (lo := [some (.int a0)]) 313 xq313 xm313 (by rw [xargs_i, xargs_nil]; exact ⟨rfl, trivial⟩) (by rw [xargs_i, xargs_nil]; exact Nat.le_of_ble_eq_true rfl) (fun S G K => x_weak (by exact ⟨rfl, trivial⟩) (k313 hs a0 M)) h hS
set_option maxRecDepth 100000 in
def c314 (rec : Nat → List Value → Mem → XA) (a0 : Int32) (M0 : Mem) : XA :=
  if 0 < a0 then (
    jn (fun (s1 : Int32 × Int32) =>
      jn (fun (s2 : Int32 × Int32) =>
        jn (fun (s3 : Int32 × Int32) =>
          jn (fun (s4 : Int32 × Int32) =>
            some (.int (s4.2 - ((Int32.toUInt32 s4.1 >>> (Int32.toUInt32 ((1 : Int32)) &&& Int32.toUInt32 31)).toInt32)), M0)) fun j73 =>
          if s3.1 < ((4 : Int32)) then (
            j73 (s3.1, s3.2)) else (
            lt (s3.2 + (-2 : Int32)) fun (x5 : Int32) =>
            lt ((Int32.toUInt32 s3.1 >>> (Int32.toUInt32 ((2 : Int32)) &&& Int32.toUInt32 31)).toInt32) fun (x6 : Int32) =>
            j73 (x6, x5))) fun j61 =>
        if s2.1 < ((16 : Int32)) then (
          j61 (s2.1, s2.2)) else (
          lt (s2.2 + (-4 : Int32)) fun (x7 : Int32) =>
          lt ((Int32.toUInt32 s2.1 >>> (Int32.toUInt32 ((4 : Int32)) &&& Int32.toUInt32 31)).toInt32) fun (x8 : Int32) =>
          j61 (x8, x7))) fun j48 =>
      if s1.1 < ((256 : Int32)) then (
        j48 (s1.1, s1.2)) else (
        lt (s1.2 + (-8 : Int32)) fun (x9 : Int32) =>
        lt ((Int32.toUInt32 s1.1 >>> (Int32.toUInt32 ((8 : Int32)) &&& Int32.toUInt32 31)).toInt32) fun (x10 : Int32) =>
        j48 (x10, x9))) fun j33 =>
    if a0 < ((65536 : Int32)) then (
      j33 (a0, (31 : Int32))) else (
      lt (((31 : Int32)) + (-16 : Int32)) fun (x11 : Int32) =>
      lt ((Int32.toUInt32 a0 >>> (Int32.toUInt32 ((16 : Int32)) &&& Int32.toUInt32 31)).toInt32) fun (x12 : Int32) =>
      j33 (x12, x11))) else (
    jn (fun (s13 : Int32) =>
      some (.int s13, M0)) fun j14 =>
    if a0 = 0 then (
      j14 ((32 : Int32))) else (
      j14 ((0 : Int32))))
def b314 (rec : Nat → List Value → Mem → XA) (as : List Value) (M0 : Mem) : XA := aI as fun a0 as => aZ as (c314 rec a0 M0)
set_option maxRecDepth 100000 in
set_option maxHeartbeats 4000000 in
theorem k314 {S : XS} {G : XG} {K : Nat × Nat} {l : Launch} {d : Nat} {rec : Nat → List Value → Mem → XA} (hs : XSnd l xmt rec d) (a0 : Int32) (M0 : Mem) : Xe S G K l (yJ6_numberOfLeadingZeros_0f7a4, cJ6_numberOfLeadingZeros_0f7a4, 2, some .int) d 0 [some (.int a0), none] [] M0 (c314 rec a0 M0) := by
  unfold c314
  refine x_iload_n dJ6_numberOfLeadingZeros_0f7a4_0 rfl ?_
  refine x_if_gt (tgt := 15) dJ6_numberOfLeadingZeros_0f7a4_1 (by decide) (fun _ => ?_) (fun _ => ?_)
  · refine x_bipush (v := 31) dJ6_numberOfLeadingZeros_0f7a4_15 (by decide) ?_
    refine x_istore_n (lo' := [some (.int a0), some (.int ((31 : Int32)))]) dJ6_numberOfLeadingZeros_0f7a4_17 (by decide) rfl rfl ?_
    refine x_iload_n dJ6_numberOfLeadingZeros_0f7a4_18 rfl ?_
    refine x_ldcw (v := 65536) dJ6_numberOfLeadingZeros_0f7a4_19 lk_constant_J6_264 ?_
    refine x_jn (σ := Int32 × Int32) 33 (fun s1 => [some (.int s1.1), some (.int s1.2)]) (fun s1 => []) (fun s1 => M0) (fun s1 => ?_) (fun j33 hj33 => ?_)
    · refine x_iload_n dJ6_numberOfLeadingZeros_0f7a4_33 rfl ?_
      refine x_sipush (v := 256) dJ6_numberOfLeadingZeros_0f7a4_34 (by decide) ?_
      refine x_jn (σ := Int32 × Int32) 48 (fun s2 => [some (.int s2.1), some (.int s2.2)]) (fun s2 => []) (fun s2 => M0) (fun s2 => ?_) (fun j48 hj48 => ?_)
      · refine x_iload_n dJ6_numberOfLeadingZeros_0f7a4_48 rfl ?_
        refine x_bipush (v := 16) dJ6_numberOfLeadingZeros_0f7a4_49 (by decide) ?_
        refine x_jn (σ := Int32 × Int32) 61 (fun s3 => [some (.int s3.1), some (.int s3.2)]) (fun s3 => []) (fun s3 => M0) (fun s3 => ?_) (fun j61 hj61 => ?_)
        · refine x_iload_n dJ6_numberOfLeadingZeros_0f7a4_61 rfl ?_
          refine x_iconst (v := 4) dJ6_numberOfLeadingZeros_0f7a4_62 (by decide) ?_
          refine x_jn (σ := Int32 × Int32) 73 (fun s4 => [some (.int s4.1), some (.int s4.2)]) (fun s4 => []) (fun s4 => M0) (fun s4 => ?_) (fun j73 hj73 => ?_)
          · refine x_iload_n dJ6_numberOfLeadingZeros_0f7a4_73 rfl ?_
            refine x_iload_n dJ6_numberOfLeadingZeros_0f7a4_74 rfl ?_
            refine x_iconst (v := 1) dJ6_numberOfLeadingZeros_0f7a4_75 (by decide) ?_
            refine x_iushr dJ6_numberOfLeadingZeros_0f7a4_76 ?_
            refine x_isub dJ6_numberOfLeadingZeros_0f7a4_77 ?_
            exact x_iret rfl dJ6_numberOfLeadingZeros_0f7a4_78
          refine x_icmp_lt (tgt := 73) dJ6_numberOfLeadingZeros_0f7a4_63 (by decide) (fun _ => ?_) (fun _ => ?_)
          · exact x_weak (by exact ⟨rfl, ⟨rfl, trivial⟩⟩) (hj73 (s3.1, s3.2))
          · refine x_iincN (v := -2) (lo' := fun x5 => [some (.int s3.1), some (.int x5)]) (by decide) dJ6_numberOfLeadingZeros_0f7a4_66 rfl (by decide) rfl (fun _ => rfl) (fun x5 => ?_)
            refine x_iload_n dJ6_numberOfLeadingZeros_0f7a4_69 rfl ?_
            refine x_iconst (v := 2) dJ6_numberOfLeadingZeros_0f7a4_70 (by decide) ?_
            refine x_iushr dJ6_numberOfLeadingZeros_0f7a4_71 ?_
            refine x_ltI (fun x6 => ?_)
            refine x_istore_n (lo' := [some (.int x6), some (.int x5)]) dJ6_numberOfLeadingZeros_0f7a4_72 (by decide) rfl rfl ?_
            exact x_weak (by exact ⟨rfl, ⟨rfl, trivial⟩⟩) (hj73 (x6, x5))
        refine x_icmp_lt (tgt := 61) dJ6_numberOfLeadingZeros_0f7a4_51 (by decide) (fun _ => ?_) (fun _ => ?_)
        · exact x_weak (by exact ⟨rfl, ⟨rfl, trivial⟩⟩) (hj61 (s2.1, s2.2))
        · refine x_iincN (v := -4) (lo' := fun x7 => [some (.int s2.1), some (.int x7)]) (by decide) dJ6_numberOfLeadingZeros_0f7a4_54 rfl (by decide) rfl (fun _ => rfl) (fun x7 => ?_)
          refine x_iload_n dJ6_numberOfLeadingZeros_0f7a4_57 rfl ?_
          refine x_iconst (v := 4) dJ6_numberOfLeadingZeros_0f7a4_58 (by decide) ?_
          refine x_iushr dJ6_numberOfLeadingZeros_0f7a4_59 ?_
          refine x_ltI (fun x8 => ?_)
          refine x_istore_n (lo' := [some (.int x8), some (.int x7)]) dJ6_numberOfLeadingZeros_0f7a4_60 (by decide) rfl rfl ?_
          exact x_weak (by exact ⟨rfl, ⟨rfl, trivial⟩⟩) (hj61 (x8, x7))
      refine x_icmp_lt (tgt := 48) dJ6_numberOfLeadingZeros_0f7a4_37 (by decide) (fun _ => ?_) (fun _ => ?_)
      · exact x_weak (by exact ⟨rfl, ⟨rfl, trivial⟩⟩) (hj48 (s1.1, s1.2))
      · refine x_iincN (v := -8) (lo' := fun x9 => [some (.int s1.1), some (.int x9)]) (by decide) dJ6_numberOfLeadingZeros_0f7a4_40 rfl (by decide) rfl (fun _ => rfl) (fun x9 => ?_)
        refine x_iload_n dJ6_numberOfLeadingZeros_0f7a4_43 rfl ?_
        refine x_bipush (v := 8) dJ6_numberOfLeadingZeros_0f7a4_44 (by decide) ?_
        refine x_iushr dJ6_numberOfLeadingZeros_0f7a4_46 ?_
        refine x_ltI (fun x10 => ?_)
        refine x_istore_n (lo' := [some (.int x10), some (.int x9)]) dJ6_numberOfLeadingZeros_0f7a4_47 (by decide) rfl rfl ?_
        exact x_weak (by exact ⟨rfl, ⟨rfl, trivial⟩⟩) (hj48 (x10, x9))
    refine x_icmp_lt (tgt := 33) dJ6_numberOfLeadingZeros_0f7a4_22 (by decide) (fun _ => ?_) (fun _ => ?_)
    · exact x_weak (by exact ⟨rfl, ⟨rfl, trivial⟩⟩) (hj33 (a0, (31 : Int32)))
    · refine x_iincN (v := -16) (lo' := fun x11 => [some (.int a0), some (.int x11)]) (by decide) dJ6_numberOfLeadingZeros_0f7a4_25 rfl (by decide) rfl (fun _ => rfl) (fun x11 => ?_)
      refine x_iload_n dJ6_numberOfLeadingZeros_0f7a4_28 rfl ?_
      refine x_bipush (v := 16) dJ6_numberOfLeadingZeros_0f7a4_29 (by decide) ?_
      refine x_iushr dJ6_numberOfLeadingZeros_0f7a4_31 ?_
      refine x_ltI (fun x12 => ?_)
      refine x_istore_n (lo' := [some (.int x12), some (.int x11)]) dJ6_numberOfLeadingZeros_0f7a4_32 (by decide) rfl rfl ?_
      exact x_weak (by exact ⟨rfl, ⟨rfl, trivial⟩⟩) (hj33 (x12, x11))
  · refine x_iload_n dJ6_numberOfLeadingZeros_0f7a4_4 rfl ?_
    refine x_jn (σ := Int32) 14 (fun s13 => [none, none]) (fun s13 => [.int s13]) (fun s13 => M0) (fun s13 => ?_) (fun j14 hj14 => ?_)
    · exact x_iret rfl dJ6_numberOfLeadingZeros_0f7a4_14
    refine x_if_ne (tgt := 13) dJ6_numberOfLeadingZeros_0f7a4_5 (by decide) (fun _ => ?_) (fun _ => ?_)
    · refine x_bipush (v := 32) dJ6_numberOfLeadingZeros_0f7a4_8 (by decide) ?_
      refine x_goto (tgt := 14) dJ6_numberOfLeadingZeros_0f7a4_10 (by decide) ?_
      exact x_weak (by exact trivial) (hj14 ((32 : Int32)))
    · refine x_iconst (v := 0) dJ6_numberOfLeadingZeros_0f7a4_13 (by decide) ?_
      exact x_weak (by exact trivial) (hj14 ((0 : Int32)))
theorem s314 {l : Launch} {d : Nat} {rec : Nat → List Value → Mem → XA} (hS : Nonempty XS) (hs : XSnd l xmt rec d) : Snd1 l 314 (b314 rec) d := by
  intro as M r M' h0
  unfold b314 at h0
  obtain ⟨a0, l1, e1, h1⟩ := aI_inv h0
  obtain ⟨ez, h⟩ := aZ_inv h1
  subst ez
  subst e1
  exact xmet (M := M) (as := [.int a0]) (lo := [some (.int a0)]) 314 xq314 xm314 (by rw [xargs_i, xargs_nil]; exact ⟨rfl, trivial⟩) (by rw [xargs_i, xargs_nil]; exact Nat.le_of_ble_eq_true rfl) (fun S G K => x_weak (by exact ⟨rfl, trivial⟩) (k314 hs a0 M)) h hS
set_option maxRecDepth 100000 in
def c315 (rec : Nat → List Value → Mem → XA) (a0 : Int32) (M0 : Mem) : XA :=
  lt (a0 - (((Int32.toUInt32 a0 >>> (Int32.toUInt32 ((1 : Int32)) &&& Int32.toUInt32 31)).toInt32) &&& ((1431655765 : Int32)))) fun (x1 : Int32) =>
  lt ((x1 &&& ((858993459 : Int32))) + (((Int32.toUInt32 x1 >>> (Int32.toUInt32 ((2 : Int32)) &&& Int32.toUInt32 31)).toInt32) &&& ((858993459 : Int32)))) fun (x2 : Int32) =>
  lt ((x2 + ((Int32.toUInt32 x2 >>> (Int32.toUInt32 ((4 : Int32)) &&& Int32.toUInt32 31)).toInt32)) &&& ((252645135 : Int32))) fun (x3 : Int32) =>
  lt (x3 + ((Int32.toUInt32 x3 >>> (Int32.toUInt32 ((8 : Int32)) &&& Int32.toUInt32 31)).toInt32)) fun (x4 : Int32) =>
  lt (x4 + ((Int32.toUInt32 x4 >>> (Int32.toUInt32 ((16 : Int32)) &&& Int32.toUInt32 31)).toInt32)) fun (x5 : Int32) =>
  some (.int (x5 &&& ((63 : Int32))), M0)
def b315 (rec : Nat → List Value → Mem → XA) (as : List Value) (M0 : Mem) : XA := aI as fun a0 as => aZ as (c315 rec a0 M0)
set_option maxRecDepth 100000 in
set_option maxHeartbeats 4000000 in
theorem k315 {S : XS} {G : XG} {K : Nat × Nat} {l : Launch} {d : Nat} {rec : Nat → List Value → Mem → XA} (hs : XSnd l xmt rec d) (a0 : Int32) (M0 : Mem) : Xe S G K l (yJ6_bitCount_0f7a4, cJ6_bitCount_0f7a4, 1, some .int) d 0 [some (.int a0)] [] M0 (c315 rec a0 M0) := by
  unfold c315
  refine x_iload_n dJ6_bitCount_0f7a4_0 rfl ?_
  refine x_iload_n dJ6_bitCount_0f7a4_1 rfl ?_
  refine x_iconst (v := 1) dJ6_bitCount_0f7a4_2 (by decide) ?_
  refine x_iushr dJ6_bitCount_0f7a4_3 ?_
  refine x_ldcw (v := 1431655765) dJ6_bitCount_0f7a4_4 lk_constant_J6_265 ?_
  refine x_iand dJ6_bitCount_0f7a4_7 ?_
  refine x_isub dJ6_bitCount_0f7a4_8 ?_
  refine x_ltI (fun x1 => ?_)
  refine x_istore_n (lo' := [some (.int x1)]) dJ6_bitCount_0f7a4_9 (by decide) rfl rfl ?_
  refine x_iload_n dJ6_bitCount_0f7a4_10 rfl ?_
  refine x_ldcw (v := 858993459) dJ6_bitCount_0f7a4_11 lk_constant_J6_266 ?_
  refine x_iand dJ6_bitCount_0f7a4_14 ?_
  refine x_iload_n dJ6_bitCount_0f7a4_15 rfl ?_
  refine x_iconst (v := 2) dJ6_bitCount_0f7a4_16 (by decide) ?_
  refine x_iushr dJ6_bitCount_0f7a4_17 ?_
  refine x_ldcw (v := 858993459) dJ6_bitCount_0f7a4_18 lk_constant_J6_266 ?_
  refine x_iand dJ6_bitCount_0f7a4_21 ?_
  refine x_iadd dJ6_bitCount_0f7a4_22 ?_
  refine x_ltI (fun x2 => ?_)
  refine x_istore_n (lo' := [some (.int x2)]) dJ6_bitCount_0f7a4_23 (by decide) rfl rfl ?_
  refine x_iload_n dJ6_bitCount_0f7a4_24 rfl ?_
  refine x_iload_n dJ6_bitCount_0f7a4_25 rfl ?_
  refine x_iconst (v := 4) dJ6_bitCount_0f7a4_26 (by decide) ?_
  refine x_iushr dJ6_bitCount_0f7a4_27 ?_
  refine x_iadd dJ6_bitCount_0f7a4_28 ?_
  refine x_ldcw (v := 252645135) dJ6_bitCount_0f7a4_29 lk_constant_J6_267 ?_
  refine x_iand dJ6_bitCount_0f7a4_32 ?_
  refine x_ltI (fun x3 => ?_)
  refine x_istore_n (lo' := [some (.int x3)]) dJ6_bitCount_0f7a4_33 (by decide) rfl rfl ?_
  refine x_iload_n dJ6_bitCount_0f7a4_34 rfl ?_
  refine x_iload_n dJ6_bitCount_0f7a4_35 rfl ?_
  refine x_bipush (v := 8) dJ6_bitCount_0f7a4_36 (by decide) ?_
  refine x_iushr dJ6_bitCount_0f7a4_38 ?_
  refine x_iadd dJ6_bitCount_0f7a4_39 ?_
  refine x_ltI (fun x4 => ?_)
  refine x_istore_n (lo' := [some (.int x4)]) dJ6_bitCount_0f7a4_40 (by decide) rfl rfl ?_
  refine x_iload_n dJ6_bitCount_0f7a4_41 rfl ?_
  refine x_iload_n dJ6_bitCount_0f7a4_42 rfl ?_
  refine x_bipush (v := 16) dJ6_bitCount_0f7a4_43 (by decide) ?_
  refine x_iushr dJ6_bitCount_0f7a4_45 ?_
  refine x_iadd dJ6_bitCount_0f7a4_46 ?_
  refine x_ltI (fun x5 => ?_)
  refine x_istore_n (lo' := [some (.int x5)]) dJ6_bitCount_0f7a4_47 (by decide) rfl rfl ?_
  refine x_iload_n dJ6_bitCount_0f7a4_48 rfl ?_
  refine x_bipush (v := 63) dJ6_bitCount_0f7a4_49 (by decide) ?_
  refine x_iand dJ6_bitCount_0f7a4_51 ?_
  exact x_iret rfl dJ6_bitCount_0f7a4_52
theorem s315 {l : Launch} {d : Nat} {rec : Nat → List Value → Mem → XA} (hS : Nonempty XS) (hs : XSnd l xmt rec d) : Snd1 l 315 (b315 rec) d := by
  intro as M r M' h0
  unfold b315 at h0
  obtain ⟨a0, l1, e1, h1⟩ := aI_inv h0
  obtain ⟨ez, h⟩ := aZ_inv h1
  subst ez
  subst e1
  exact xmet (M := M) (as := [.int a0]) (lo := [some (.int a0)]) 315 xq315 xm315 (by rw [xargs_i, xargs_nil]; exact ⟨rfl, trivial⟩) (by rw [xargs_i, xargs_nil]; exact Nat.le_of_ble_eq_true rfl) (fun S G K => x_weak (by exact ⟨rfl, trivial⟩) (k315 hs a0 M)) h hS
set_option maxRecDepth 100000 in
def c316 (rec : Nat → List Value → Mem → XA) (a0 : Int64) (M0 : Mem) : XA :=
  lt (((Int64.toUInt64 a0 >>> ((Int32.toInt64 ((32 : Int32))).toUInt64 &&& Int64.toUInt64 63)).toInt64).toInt32) fun (x1 : Int32) =>
  jn (fun (s2 : Int32 × Mem) =>
    some (.int s2.1, s2.2)) fun j25 =>
  if x1 = 0 then (
    cI (rec 314 [.int a0.toInt32] M0) fun x4 M3 =>
    j25 (((32 : Int32)) + x4, M3)) else (
    cI (rec 314 [.int x1] M0) fun x6 M5 =>
    j25 (x6, M5))
def b316 (rec : Nat → List Value → Mem → XA) (as : List Value) (M0 : Mem) : XA := aL as fun a0 as => aZ as (c316 rec a0 M0)
set_option maxRecDepth 100000 in
set_option maxHeartbeats 4000000 in
theorem k316 {S : XS} {G : XG} {K : Nat × Nat} {l : Launch} {d : Nat} {rec : Nat → List Value → Mem → XA} (hs : XSnd l xmt rec d) (a0 : Int64) (M0 : Mem) : Xe S G K l (yJ13_numberOfLeadingZeros_95d88, cJ13_numberOfLeadingZeros_95d88, 3, some .int) d 0 [some (.long a0), none, none] [] M0 (c316 rec a0 M0) := by
  unfold c316
  refine x_lload_n dJ13_numberOfLeadingZeros_95d88_0 rfl ?_
  refine x_bipush (v := 32) dJ13_numberOfLeadingZeros_95d88_1 (by decide) ?_
  refine x_lushr dJ13_numberOfLeadingZeros_95d88_3 ?_
  refine x_l2i dJ13_numberOfLeadingZeros_95d88_4 ?_
  refine x_ltI (fun x1 => ?_)
  refine x_istore_n (lo' := [some (.long a0), none, some (.int x1)]) dJ13_numberOfLeadingZeros_95d88_5 (by decide) rfl rfl ?_
  refine x_iload_n dJ13_numberOfLeadingZeros_95d88_6 rfl ?_
  refine x_jn (σ := Int32 × Mem) 25 (fun s2 => [none, none, none]) (fun s2 => [.int s2.1]) (fun s2 => s2.2) (fun s2 => ?_) (fun j25 hj25 => ?_)
  · exact x_iret rfl dJ13_numberOfLeadingZeros_95d88_25
  refine x_if_ne (tgt := 21) dJ13_numberOfLeadingZeros_95d88_7 (by decide) (fun _ => ?_) (fun _ => ?_)
  · refine x_bipush (v := 32) dJ13_numberOfLeadingZeros_95d88_10 (by decide) ?_
    refine x_lload_n dJ13_numberOfLeadingZeros_95d88_12 rfl ?_
    refine x_l2i dJ13_numberOfLeadingZeros_95d88_13 ?_
    refine cmJ13_308 rfl hs (Nat.le_of_ble_eq_true rfl) dJ13_numberOfLeadingZeros_95d88_14 (fun x4 M3 => ?_)
    refine x_iadd dJ13_numberOfLeadingZeros_95d88_17 ?_
    refine x_goto (tgt := 25) dJ13_numberOfLeadingZeros_95d88_18 (by decide) ?_
    exact x_weak (by exact trivial) (hj25 (((32 : Int32)) + x4, M3))
  · refine x_iload_n dJ13_numberOfLeadingZeros_95d88_21 rfl ?_
    refine cmJ13_308 rfl hs (Nat.le_of_ble_eq_true rfl) dJ13_numberOfLeadingZeros_95d88_22 (fun x6 M5 => ?_)
    exact x_weak (by exact trivial) (hj25 (x6, M5))
theorem s316 {l : Launch} {d : Nat} {rec : Nat → List Value → Mem → XA} (hS : Nonempty XS) (hs : XSnd l xmt rec d) : Snd1 l 316 (b316 rec) d := by
  intro as M r M' h0
  unfold b316 at h0
  obtain ⟨a0, l1, e1, h1⟩ := aL_inv h0
  obtain ⟨ez, h⟩ := aZ_inv h1
  subst ez
  subst e1
  exact xmet (M := M) (as := [.long a0]) (lo := [some (.long a0)]) 316 xq316 xm316 (by rw [xargs_l, xargs_nil]; exact ⟨rfl, trivial⟩) (by rw [xargs_l, xargs_nil]; exact Nat.le_of_ble_eq_true rfl) (fun S G K => x_weak (by exact ⟨rfl, trivial⟩) (k316 hs a0 M)) h hS
def b317 (rec : Nat → List Value → Mem → XA) (as : List Value) (M0 : Mem) : XA := none
theorem s317 {l : Launch} {d : Nat} {rec : Nat → List Value → Mem → XA} (hS : Nonempty XS) (hs : XSnd l xmt rec d) : Snd1 l 317 (b317 rec) d := fun as M r M' h => nomatch h
def b318 (rec : Nat → List Value → Mem → XA) (as : List Value) (M0 : Mem) : XA := none
theorem s318 {l : Launch} {d : Nat} {rec : Nat → List Value → Mem → XA} (hS : Nonempty XS) (hs : XSnd l xmt rec d) : Snd1 l 318 (b318 rec) d := fun as M r M' h => nomatch h
def b319 (rec : Nat → List Value → Mem → XA) (as : List Value) (M0 : Mem) : XA := none
theorem s319 {l : Launch} {d : Nat} {rec : Nat → List Value → Mem → XA} (hS : Nonempty XS) (hs : XSnd l xmt rec d) : Snd1 l 319 (b319 rec) d := fun as M r M' h => nomatch h
set_option maxRecDepth 100000 in
def c320 (rec : Nat → List Value → Mem → XA) (a0 : Option Nat) (M0 : Mem) : XA :=
  gsV a0 fun x1 =>
  aln M0 x1 fun x2 =>
  vS a0 <|
  cI (rec 324 [va_rf a0] M0) fun x4 M3 =>
  some (.int (x2 >>> (x4 &&& 31)), M3)
def b320 (rec : Nat → List Value → Mem → XA) (as : List Value) (M0 : Mem) : XA := aR as fun a0 as => aZ as (c320 rec a0 M0)
set_option maxRecDepth 100000 in
set_option maxHeartbeats 4000000 in
theorem k320 {S : XS} {G : XG} {K : Nat × Nat} {l : Launch} {d : Nat} {rec : Nat → List Value → Mem → XA} (hs : XSnd l xmt rec d) (a0 : Option Nat) (M0 : Mem) : Xe S G K l (yJ0_length_8abf5, cJ0_length_8abf5, 1, some .int) d 0 [some (va_rf a0)] [] M0 (c320 rec a0 M0) := by
  unfold c320
  refine x_aload_n dJ0_length_8abf5_0 rfl ?_
  refine x_gsV lsJ0_9 dJ0_length_8abf5_1 (fun x1 => ?_)
  refine x_alen dJ0_length_8abf5_4 (fun x2 => ?_)
  refine x_aload_n dJ0_length_8abf5_5 rfl ?_
  refine cmJ0_335 rfl hs (Nat.le_of_ble_eq_true rfl) dJ0_length_8abf5_6 (fun x4 M3 => ?_)
  refine x_ishr dJ0_length_8abf5_9 ?_
  exact x_iret rfl dJ0_length_8abf5_10
theorem s320 {l : Launch} {d : Nat} {rec : Nat → List Value → Mem → XA} (hS : Nonempty XS) (hs : XSnd l xmt rec d) : Snd1 l 320 (b320 rec) d := by
  intro as M r M' h0
  unfold b320 at h0
  obtain ⟨a0, l1, e1, h1⟩ := aR_inv h0
  obtain ⟨ez, h⟩ := aZ_inv h1
  subst ez
  subst e1
  exact xmet (M := M) (as := [va_rf a0]) (lo := [some (va_rf a0)]) 320 xq320 xm320 (by rw [xargs_rf, xargs_nil]; exact ⟨rfl, trivial⟩) (by rw [xargs_rf, xargs_nil]; exact Nat.le_of_ble_eq_true rfl) (fun S G K => x_weak (by exact ⟨rfl, trivial⟩) (k320 hs a0 M)) h hS
set_option maxRecDepth 100000 in
def c321 (rec : Nat → List Value → Mem → XA) (a0 : Option Nat) (a1 : Int32) (M0 : Mem) : XA :=
  vS a0 <|
  cI (rec 325 [va_rf a0] M0) fun x2 M1 =>
  if x2 = 0 then (
    gsV a0 fun x3 =>
    cI (rec 338 [va_rf x3, .int a1] M1) fun x5 M4 =>
    rtC x5 M4) else (
    gsV a0 fun x6 =>
    cI (rec 328 [va_rf x6, .int a1] M1) fun x8 M7 =>
    rtC x8 M7)
def b321 (rec : Nat → List Value → Mem → XA) (as : List Value) (M0 : Mem) : XA := aR as fun a0 as => aI as fun a1 as => aZ as (c321 rec a0 a1 M0)
set_option maxRecDepth 100000 in
set_option maxHeartbeats 4000000 in
theorem k321 {S : XS} {G : XG} {K : Nat × Nat} {l : Launch} {d : Nat} {rec : Nat → List Value → Mem → XA} (hs : XSnd l xmt rec d) (a0 : Option Nat) (a1 : Int32) (M0 : Mem) : Xe S G K l (yJ0_charAt_5068e, cJ0_charAt_5068e, 2, some .char) d 0 [some (va_rf a0), some (.int a1)] [] M0 (c321 rec a0 a1 M0) := by
  unfold c321
  refine x_aload_n dJ0_charAt_5068e_0 rfl ?_
  refine cmJ0_492 rfl hs (Nat.le_of_ble_eq_true rfl) dJ0_charAt_5068e_1 (fun x2 M1 => ?_)
  refine x_if_eq (tgt := 16) dJ0_charAt_5068e_4 (by decide) (fun _ => ?_) (fun _ => ?_)
  · refine x_aload_n dJ0_charAt_5068e_16 rfl ?_
    refine x_gsV lsJ0_9 dJ0_charAt_5068e_17 (fun x3 => ?_)
    refine x_iload_n dJ0_charAt_5068e_20 rfl ?_
    refine cmJ0_498 rfl hs (Nat.le_of_ble_eq_true rfl) dJ0_charAt_5068e_21 (fun x5 M4 => ?_)
    exact x_cret rfl dJ0_charAt_5068e_24
  · refine x_aload_n dJ0_charAt_5068e_7 rfl ?_
    refine x_gsV lsJ0_9 dJ0_charAt_5068e_8 (fun x6 => ?_)
    refine x_iload_n dJ0_charAt_5068e_11 rfl ?_
    refine cmJ0_495 rfl hs (Nat.le_of_ble_eq_true rfl) dJ0_charAt_5068e_12 (fun x8 M7 => ?_)
    exact x_cret rfl dJ0_charAt_5068e_15
theorem s321 {l : Launch} {d : Nat} {rec : Nat → List Value → Mem → XA} (hS : Nonempty XS) (hs : XSnd l xmt rec d) : Snd1 l 321 (b321 rec) d := by
  intro as M r M' h0
  unfold b321 at h0
  obtain ⟨a0, l1, e1, h1⟩ := aR_inv h0
  obtain ⟨a1, l2, e2, h2⟩ := aI_inv h1
  obtain ⟨ez, h⟩ := aZ_inv h2
  subst ez
  subst e2
  subst e1
  exact xmet (M := M) (as := [va_rf a0, .int a1]) (lo := [some (va_rf a0), some (.int a1)]) 321 xq321 xm321 (by rw [xargs_rf, xargs_i, xargs_nil]; exact ⟨rfl, ⟨rfl, trivial⟩⟩) (by rw [xargs_rf, xargs_i, xargs_nil]; exact Nat.le_of_ble_eq_true rfl) (fun S G K => x_weak (by exact ⟨rfl, ⟨rfl, trivial⟩⟩) (k321 hs a0 a1 M)) h hS
set_option maxRecDepth 100000 in
def c322 (rec : Nat → List Value → Mem → XA) (a0 : Option Nat) (a1 : Int32) (M0 : Mem) : XA :=
  vS a0 <|
  cI (rec 323 [va_rf a0, .int a1, .int ((0 : Int32))] M0) fun x2 M1 =>
  some (.int x2, M1)
def b322 (rec : Nat → List Value → Mem → XA) (as : List Value) (M0 : Mem) : XA := aR as fun a0 as => aI as fun a1 as => aZ as (c322 rec a0 a1 M0)
set_option maxRecDepth 100000 in
set_option maxHeartbeats 4000000 in
theorem k322 {S : XS} {G : XG} {K : Nat × Nat} {l : Launch} {d : Nat} {rec : Nat → List Value → Mem → XA} (hs : XSnd l xmt rec d) (a0 : Option Nat) (a1 : Int32) (M0 : Mem) : Xe S G K l (yJ0_indexOf_0f7a4, cJ0_indexOf_0f7a4, 2, some .int) d 0 [some (va_rf a0), some (.int a1)] [] M0 (c322 rec a0 a1 M0) := by
  unfold c322
  refine x_aload_n dJ0_indexOf_0f7a4_0 rfl ?_
  refine x_iload_n dJ0_indexOf_0f7a4_1 rfl ?_
  refine x_iconst (v := 0) dJ0_indexOf_0f7a4_2 (by decide) ?_
  refine cmJ0_633 rfl hs (Nat.le_of_ble_eq_true rfl) dJ0_indexOf_0f7a4_3 (fun x2 M1 => ?_)
  exact x_iret rfl dJ0_indexOf_0f7a4_6
theorem s322 {l : Launch} {d : Nat} {rec : Nat → List Value → Mem → XA} (hS : Nonempty XS) (hs : XSnd l xmt rec d) : Snd1 l 322 (b322 rec) d := by
  intro as M r M' h0
  unfold b322 at h0
  obtain ⟨a0, l1, e1, h1⟩ := aR_inv h0
  obtain ⟨a1, l2, e2, h2⟩ := aI_inv h1
  obtain ⟨ez, h⟩ := aZ_inv h2
  subst ez
  subst e2
  subst e1
  exact xmet (M := M) (as := [va_rf a0, .int a1]) (lo := [some (va_rf a0), some (.int a1)]) 322 xq322 xm322 (by rw [xargs_rf, xargs_i, xargs_nil]; exact ⟨rfl, ⟨rfl, trivial⟩⟩) (by rw [xargs_rf, xargs_i, xargs_nil]; exact Nat.le_of_ble_eq_true rfl) (fun S G K => x_weak (by exact ⟨rfl, ⟨rfl, trivial⟩⟩) (k322 hs a0 a1 M)) h hS
set_option maxRecDepth 100000 in
def c323 (rec : Nat → List Value → Mem → XA) (a0 : Option Nat) (a1 : Int32) (a2 : Int32) (M0 : Mem) : XA :=
  vS a0 <|
  cI (rec 325 [va_rf a0] M0) fun x2 M1 =>
  jn (fun (s3 : Int32 × Mem) =>
    some (.int s3.1, s3.2)) fun j36 =>
  if x2 = 0 then (
    gsV a0 fun x4 =>
    vS a0 <|
    cI (rec 320 [va_rf a0] M1) fun x6 M5 =>
    cI (rec 334 [va_rf x4, .int a1, .int a2, .int x6] M5) fun x8 M7 =>
    j36 (x8, M7)) else (
    gsV a0 fun x9 =>
    vS a0 <|
    cI (rec 320 [va_rf a0] M1) fun x11 M10 =>
    cI (rec 330 [va_rf x9, .int a1, .int a2, .int x11] M10) fun x13 M12 =>
    j36 (x13, M12))
def b323 (rec : Nat → List Value → Mem → XA) (as : List Value) (M0 : Mem) : XA := aR as fun a0 as => aI as fun a1 as => aI as fun a2 as => aZ as (c323 rec a0 a1 a2 M0)
set_option maxRecDepth 100000 in
set_option maxHeartbeats 4000000 in
theorem k323 {S : XS} {G : XG} {K : Nat × Nat} {l : Launch} {d : Nat} {rec : Nat → List Value → Mem → XA} (hs : XSnd l xmt rec d) (a0 : Option Nat) (a1 : Int32) (a2 : Int32) (M0 : Mem) : Xe S G K l (yJ0_indexOf_7cf53, cJ0_indexOf_7cf53, 3, some .int) d 0 [some (va_rf a0), some (.int a1), some (.int a2)] [] M0 (c323 rec a0 a1 a2 M0) := by
  unfold c323
  refine x_aload_n dJ0_indexOf_7cf53_0 rfl ?_
  refine cmJ0_492 rfl hs (Nat.le_of_ble_eq_true rfl) dJ0_indexOf_7cf53_1 (fun x2 M1 => ?_)
  refine x_jn (σ := Int32 × Mem) 36 (fun s3 => [none, none, none]) (fun s3 => [.int s3.1]) (fun s3 => s3.2) (fun s3 => ?_) (fun j36 hj36 => ?_)
  · exact x_iret rfl dJ0_indexOf_7cf53_36
  refine x_if_eq (tgt := 23) dJ0_indexOf_7cf53_4 (by decide) (fun _ => ?_) (fun _ => ?_)
  · refine x_aload_n dJ0_indexOf_7cf53_23 rfl ?_
    refine x_gsV lsJ0_9 dJ0_indexOf_7cf53_24 (fun x4 => ?_)
    refine x_iload_n dJ0_indexOf_7cf53_27 rfl ?_
    refine x_iload_n dJ0_indexOf_7cf53_28 rfl ?_
    refine x_aload_n dJ0_indexOf_7cf53_29 rfl ?_
    refine cmJ0_505 rfl hs (Nat.le_of_ble_eq_true rfl) dJ0_indexOf_7cf53_30 (fun x6 M5 => ?_)
    refine cmJ0_640 rfl hs (Nat.le_of_ble_eq_true rfl) dJ0_indexOf_7cf53_33 (fun x8 M7 => ?_)
    exact x_weak (by exact trivial) (hj36 (x8, M7))
  · refine x_aload_n dJ0_indexOf_7cf53_7 rfl ?_
    refine x_gsV lsJ0_9 dJ0_indexOf_7cf53_8 (fun x9 => ?_)
    refine x_iload_n dJ0_indexOf_7cf53_11 rfl ?_
    refine x_iload_n dJ0_indexOf_7cf53_12 rfl ?_
    refine x_aload_n dJ0_indexOf_7cf53_13 rfl ?_
    refine cmJ0_505 rfl hs (Nat.le_of_ble_eq_true rfl) dJ0_indexOf_7cf53_14 (fun x11 M10 => ?_)
    refine cmJ0_637 rfl hs (Nat.le_of_ble_eq_true rfl) dJ0_indexOf_7cf53_17 (fun x13 M12 => ?_)
    refine x_goto (tgt := 36) dJ0_indexOf_7cf53_20 (by decide) ?_
    exact x_weak (by exact trivial) (hj36 (x13, M12))
theorem s323 {l : Launch} {d : Nat} {rec : Nat → List Value → Mem → XA} (hS : Nonempty XS) (hs : XSnd l xmt rec d) : Snd1 l 323 (b323 rec) d := by
  intro as M r M' h0
  unfold b323 at h0
  obtain ⟨a0, l1, e1, h1⟩ := aR_inv h0
  obtain ⟨a1, l2, e2, h2⟩ := aI_inv h1
  obtain ⟨a2, l3, e3, h3⟩ := aI_inv h2
  obtain ⟨ez, h⟩ := aZ_inv h3
  subst ez
  subst e3
  subst e2
  subst e1
  exact xmet (M := M) (as := [va_rf a0, .int a1, .int a2]) (lo := [some (va_rf a0), some (.int a1), some (.int a2)]) 323 xq323 xm323 (by rw [xargs_rf, xargs_i, xargs_i, xargs_nil]; exact ⟨rfl, ⟨rfl, ⟨rfl, trivial⟩⟩⟩) (by rw [xargs_rf, xargs_i, xargs_i, xargs_nil]; exact Nat.le_of_ble_eq_true rfl) (fun S G K => x_weak (by exact ⟨rfl, ⟨rfl, ⟨rfl, trivial⟩⟩⟩) (k323 hs a0 a1 a2 M)) h hS
set_option maxRecDepth 100000 in
def c324 (rec : Nat → List Value → Mem → XA) (a0 : Option Nat) (M0 : Mem) : XA :=
  jn (fun (s1 : Int32) =>
    rtB s1 M0) fun j14 =>
  if ((1 : Int32)) = 0 then (
    j14 ((1 : Int32))) else (
    gsC a0 fun x2 =>
    j14 x2)
def b324 (rec : Nat → List Value → Mem → XA) (as : List Value) (M0 : Mem) : XA := aR as fun a0 as => aZ as (c324 rec a0 M0)
set_option maxRecDepth 100000 in
set_option maxHeartbeats 4000000 in
theorem k324 {S : XS} {G : XG} {K : Nat × Nat} {l : Launch} {d : Nat} {rec : Nat → List Value → Mem → XA} (hs : XSnd l xmt rec d) (a0 : Option Nat) (M0 : Mem) : Xe S G K l (yJ0_coder_7d493, cJ0_coder_7d493, 1, some .byte) d 0 [some (va_rf a0)] [] M0 (c324 rec a0 M0) := by
  unfold c324
  refine x_gets (v := .int 1) z_com lsJ0_38 dJ0_coder_7d493_0 ?_
  refine x_jn (σ := Int32) 14 (fun s1 => [none]) (fun s1 => [.int s1]) (fun s1 => M0) (fun s1 => ?_) (fun j14 hj14 => ?_)
  · exact x_bret rfl dJ0_coder_7d493_14
  refine x_if_eq (tgt := 13) dJ0_coder_7d493_3 (by decide) (fun _ => ?_) (fun _ => ?_)
  · refine x_iconst (v := 1) dJ0_coder_7d493_13 (by decide) ?_
    exact x_weak (by exact trivial) (hj14 ((1 : Int32)))
  · refine x_aload_n dJ0_coder_7d493_6 rfl ?_
    refine x_gsC lsJ0_15 dJ0_coder_7d493_7 (fun x2 => ?_)
    refine x_goto (tgt := 14) dJ0_coder_7d493_10 (by decide) ?_
    exact x_weak (by exact trivial) (hj14 x2)
theorem s324 {l : Launch} {d : Nat} {rec : Nat → List Value → Mem → XA} (hS : Nonempty XS) (hs : XSnd l xmt rec d) : Snd1 l 324 (b324 rec) d := by
  intro as M r M' h0
  unfold b324 at h0
  obtain ⟨a0, l1, e1, h1⟩ := aR_inv h0
  obtain ⟨ez, h⟩ := aZ_inv h1
  subst ez
  subst e1
  exact xmet (M := M) (as := [va_rf a0]) (lo := [some (va_rf a0)]) 324 xq324 xm324 (by rw [xargs_rf, xargs_nil]; exact ⟨rfl, trivial⟩) (by rw [xargs_rf, xargs_nil]; exact Nat.le_of_ble_eq_true rfl) (fun S G K => x_weak (by exact ⟨rfl, trivial⟩) (k324 hs a0 M)) h hS
set_option maxRecDepth 100000 in
def c325 (rec : Nat → List Value → Mem → XA) (a0 : Option Nat) (M0 : Mem) : XA :=
  jn (fun (s1 : Int32) =>
    rtZ s1 M0) fun j18 =>
  jn (fun (s2 : Unit) =>
    j18 ((0 : Int32))) fun j17 =>
  if ((1 : Int32)) = 0 then (
    j17 ()) else (
    gsC a0 fun x3 =>
    if x3 = 0 then (
      j18 ((1 : Int32))) else (
      j17 ()))
def b325 (rec : Nat → List Value → Mem → XA) (as : List Value) (M0 : Mem) : XA := aR as fun a0 as => aZ as (c325 rec a0 M0)
set_option maxRecDepth 100000 in
set_option maxHeartbeats 4000000 in
theorem k325 {S : XS} {G : XG} {K : Nat × Nat} {l : Launch} {d : Nat} {rec : Nat → List Value → Mem → XA} (hs : XSnd l xmt rec d) (a0 : Option Nat) (M0 : Mem) : Xe S G K l (yJ0_isLatin1_aae02, cJ0_isLatin1_aae02, 1, some .boolean) d 0 [some (va_rf a0)] [] M0 (c325 rec a0 M0) := by
  unfold c325
  refine x_gets (v := .int 1) z_com lsJ0_38 dJ0_isLatin1_aae02_0 ?_
  refine x_jn (σ := Int32) 18 (fun s1 => [none]) (fun s1 => [.int s1]) (fun s1 => M0) (fun s1 => ?_) (fun j18 hj18 => ?_)
  · exact x_zret rfl dJ0_isLatin1_aae02_18
  refine x_jn (σ := Unit) 17 (fun s2 => [none]) (fun s2 => []) (fun s2 => M0) (fun s2 => ?_) (fun j17 hj17 => ?_)
  · refine x_iconst (v := 0) dJ0_isLatin1_aae02_17 (by decide) ?_
    exact x_weak (by exact trivial) (hj18 ((0 : Int32)))
  refine x_if_eq (tgt := 17) dJ0_isLatin1_aae02_3 (by decide) (fun _ => ?_) (fun _ => ?_)
  · exact x_weak (by exact trivial) (hj17 ())
  · refine x_aload_n dJ0_isLatin1_aae02_6 rfl ?_
    refine x_gsC lsJ0_15 dJ0_isLatin1_aae02_7 (fun x3 => ?_)
    refine x_if_ne (tgt := 17) dJ0_isLatin1_aae02_10 (by decide) (fun _ => ?_) (fun _ => ?_)
    · refine x_iconst (v := 1) dJ0_isLatin1_aae02_13 (by decide) ?_
      refine x_goto (tgt := 18) dJ0_isLatin1_aae02_14 (by decide) ?_
      exact x_weak (by exact trivial) (hj18 ((1 : Int32)))
    · exact x_weak (by exact trivial) (hj17 ())
theorem s325 {l : Launch} {d : Nat} {rec : Nat → List Value → Mem → XA} (hS : Nonempty XS) (hs : XSnd l xmt rec d) : Snd1 l 325 (b325 rec) d := by
  intro as M r M' h0
  unfold b325 at h0
  obtain ⟨a0, l1, e1, h1⟩ := aR_inv h0
  obtain ⟨ez, h⟩ := aZ_inv h1
  subst ez
  subst e1
  exact xmet (M := M) (as := [va_rf a0]) (lo := [some (va_rf a0)]) 325 xq325 xm325 (by rw [xargs_rf, xargs_nil]; exact ⟨rfl, trivial⟩) (by rw [xargs_rf, xargs_nil]; exact Nat.le_of_ble_eq_true rfl) (fun S G K => x_weak (by exact ⟨rfl, trivial⟩) (k325 hs a0 M)) h hS
set_option maxRecDepth 100000 in
def c326 (rec : Nat → List Value → Mem → XA) (a0 : Int32) (a1 : Int32) (M0 : Mem) : XA :=
  pci a0 a1 <|
  some (.null, M0)
def b326 (rec : Nat → List Value → Mem → XA) (as : List Value) (M0 : Mem) : XA := aI as fun a0 as => aI as fun a1 as => aZ as (c326 rec a0 a1 M0)
set_option maxRecDepth 100000 in
set_option maxHeartbeats 4000000 in
theorem k326 {S : XS} {G : XG} {K : Nat × Nat} {l : Launch} {d : Nat} {rec : Nat → List Value → Mem → XA} (hs : XSnd l xmt rec d) (a0 : Int32) (a1 : Int32) (M0 : Mem) : Xe S G K l (yJ0_checkIndex_df160, cJ0_checkIndex_df160, 2, none) d 0 [some (.int a0), some (.int a1)] [] M0 (c326 rec a0 a1 M0) := by
  unfold c326
  refine x_iload_n dJ0_checkIndex_df160_0 rfl ?_
  refine x_iload_n dJ0_checkIndex_df160_1 rfl ?_
  refine x_pci rfl dJ0_checkIndex_df160_2 dJ0_checkIndex_df160_5 dJ0_checkIndex_df160_8 (by decide) ?_
  exact x_vret rfl dJ0_checkIndex_df160_9
theorem s326 {l : Launch} {d : Nat} {rec : Nat → List Value → Mem → XA} (hS : Nonempty XS) (hs : XSnd l xmt rec d) : Snd1 l 326 (b326 rec) d := by
  intro as M r M' h0
  unfold b326 at h0
  obtain ⟨a0, l1, e1, h1⟩ := aI_inv h0
  obtain ⟨a1, l2, e2, h2⟩ := aI_inv h1
  obtain ⟨ez, h⟩ := aZ_inv h2
  subst ez
  subst e2
  subst e1
  exact xmet (M := M) (as := [.int a0, .int a1]) (lo := [some (.int a0), some (.int a1)]) 326 xq326 xm326 (by rw [xargs_i, xargs_i, xargs_nil]; exact ⟨rfl, ⟨rfl, trivial⟩⟩) (by rw [xargs_i, xargs_i, xargs_nil]; exact Nat.le_of_ble_eq_true rfl) (fun S G K => x_weak (by exact ⟨rfl, ⟨rfl, trivial⟩⟩) (k326 hs a0 a1 M)) h hS
set_option maxRecDepth 100000 in
def c327 (rec : Nat → List Value → Mem → XA) (a0 : Int32) (a1 : Int32) (a2 : Int32) (M0 : Mem) : XA :=
  none
def b327 (rec : Nat → List Value → Mem → XA) (as : List Value) (M0 : Mem) : XA := aI as fun a0 as => aI as fun a1 as => aI as fun a2 as => aZ as (c327 rec a0 a1 a2 M0)
set_option maxRecDepth 100000 in
set_option maxHeartbeats 4000000 in
theorem k327 {S : XS} {G : XG} {K : Nat × Nat} {l : Launch} {d : Nat} {rec : Nat → List Value → Mem → XA} (hs : XSnd l xmt rec d) (a0 : Int32) (a1 : Int32) (a2 : Int32) (M0 : Mem) : Xe S G K l (yJ0_checkBoundsBeginEnd_23922, cJ0_checkBoundsBeginEnd_23922, 3, none) d 0 [some (.int a0), some (.int a1), some (.int a2)] [] M0 (c327 rec a0 a1 a2 M0) := by
  unfold c327
  refine x_iload_n dJ0_checkBoundsBeginEnd_23922_0 rfl ?_
  refine x_iload_n dJ0_checkBoundsBeginEnd_23922_1 rfl ?_
  refine x_iload_n dJ0_checkBoundsBeginEnd_23922_2 rfl ?_
  exact x_none
theorem s327 {l : Launch} {d : Nat} {rec : Nat → List Value → Mem → XA} (hS : Nonempty XS) (hs : XSnd l xmt rec d) : Snd1 l 327 (b327 rec) d := by
  intro as M r M' h0
  unfold b327 at h0
  obtain ⟨a0, l1, e1, h1⟩ := aI_inv h0
  obtain ⟨a1, l2, e2, h2⟩ := aI_inv h1
  obtain ⟨a2, l3, e3, h3⟩ := aI_inv h2
  obtain ⟨ez, h⟩ := aZ_inv h3
  subst ez
  subst e3
  subst e2
  subst e1
  exact xmet (M := M) (as := [.int a0, .int a1, .int a2]) (lo := [some (.int a0), some (.int a1), some (.int a2)]) 327 xq327 xm327 (by rw [xargs_i, xargs_i, xargs_i, xargs_nil]; exact ⟨rfl, ⟨rfl, ⟨rfl, trivial⟩⟩⟩) (by rw [xargs_i, xargs_i, xargs_i, xargs_nil]; exact Nat.le_of_ble_eq_true rfl) (fun S G K => x_weak (by exact ⟨rfl, ⟨rfl, ⟨rfl, trivial⟩⟩⟩) (k327 hs a0 a1 a2 M)) h hS
set_option maxRecDepth 100000 in
def c328 (rec : Nat → List Value → Mem → XA) (a0 : Option Nat) (a1 : Int32) (M0 : Mem) : XA :=
  aln M0 a0 fun x1 =>
  cV (rec 326 [.int a1, .int x1] M0) fun M2 =>
  alI 101 M2 a0 a1 fun x3 =>
  rtC (((x3 &&& ((255 : Int32))).toUInt32 % 65536).toInt32) M2
def b328 (rec : Nat → List Value → Mem → XA) (as : List Value) (M0 : Mem) : XA := aR as fun a0 as => aI as fun a1 as => aZ as (c328 rec a0 a1 M0)
set_option maxRecDepth 100000 in
set_option maxHeartbeats 4000000 in
theorem k328 {S : XS} {G : XG} {K : Nat × Nat} {l : Launch} {d : Nat} {rec : Nat → List Value → Mem → XA} (hs : XSnd l xmt rec d) (a0 : Option Nat) (a1 : Int32) (M0 : Mem) : Xe S G K l (yJ1_charAt_3b067, cJ1_charAt_3b067, 2, some .char) d 0 [some (va_rf a0), some (.int a1)] [] M0 (c328 rec a0 a1 M0) := by
  unfold c328
  refine x_iload_n dJ1_charAt_3b067_0 rfl ?_
  refine x_aload_n dJ1_charAt_3b067_1 rfl ?_
  refine x_alen dJ1_charAt_3b067_2 (fun x1 => ?_)
  refine cmJ1_9 rfl hs (Nat.le_of_ble_eq_true rfl) dJ1_charAt_3b067_3 (fun M2 => ?_)
  refine x_aload_n dJ1_charAt_3b067_6 rfl ?_
  refine x_iload_n dJ1_charAt_3b067_7 rfl ?_
  refine x_bald dJ1_charAt_3b067_8 (fun x3 => ?_)
  refine x_sipush (v := 255) dJ1_charAt_3b067_9 (by decide) ?_
  refine x_iand dJ1_charAt_3b067_12 ?_
  refine x_i2c dJ1_charAt_3b067_13 ?_
  exact x_cret rfl dJ1_charAt_3b067_14
theorem s328 {l : Launch} {d : Nat} {rec : Nat → List Value → Mem → XA} (hS : Nonempty XS) (hs : XSnd l xmt rec d) : Snd1 l 328 (b328 rec) d := by
  intro as M r M' h0
  unfold b328 at h0
  obtain ⟨a0, l1, e1, h1⟩ := aR_inv h0
  obtain ⟨a1, l2, e2, h2⟩ := aI_inv h1
  obtain ⟨ez, h⟩ := aZ_inv h2
  subst ez
  subst e2
  subst e1
  exact xmet (M := M) (as := [va_rf a0, .int a1]) (lo := [some (va_rf a0), some (.int a1)]) 328 xq328 xm328 (by rw [xargs_rf, xargs_i, xargs_nil]; exact ⟨rfl, ⟨rfl, trivial⟩⟩) (by rw [xargs_rf, xargs_i, xargs_nil]; exact Nat.le_of_ble_eq_true rfl) (fun S G K => x_weak (by exact ⟨rfl, ⟨rfl, trivial⟩⟩) (k328 hs a0 a1 M)) h hS
set_option maxRecDepth 100000 in
def c329 (rec : Nat → List Value → Mem → XA) (a0 : Int32) (M0 : Mem) : XA :=
  jn (fun (s1 : Int32) =>
    rtZ s1 M0) fun j16 =>
  jn (fun (s2 : Unit) =>
    j16 ((0 : Int32))) fun j15 =>
  if a0 < 0 then (
    j15 ()) else (
    if ((255 : Int32)) < a0 then (
      j15 ()) else (
      j16 ((1 : Int32))))
def b329 (rec : Nat → List Value → Mem → XA) (as : List Value) (M0 : Mem) : XA := aI as fun a0 as => aZ as (c329 rec a0 M0)
set_option maxRecDepth 100000 in
set_option maxHeartbeats 4000000 in
theorem k329 {S : XS} {G : XG} {K : Nat × Nat} {l : Launch} {d : Nat} {rec : Nat → List Value → Mem → XA} (hs : XSnd l xmt rec d) (a0 : Int32) (M0 : Mem) : Xe S G K l (yJ1_canEncode_9a6ad, cJ1_canEncode_9a6ad, 1, some .boolean) d 0 [some (.int a0)] [] M0 (c329 rec a0 M0) := by
  unfold c329
  refine x_iload_n dJ1_canEncode_9a6ad_0 rfl ?_
  refine x_jn (σ := Int32) 16 (fun s1 => [none]) (fun s1 => [.int s1]) (fun s1 => M0) (fun s1 => ?_) (fun j16 hj16 => ?_)
  · exact x_zret rfl dJ1_canEncode_9a6ad_16
  refine x_jn (σ := Unit) 15 (fun s2 => [none]) (fun s2 => []) (fun s2 => M0) (fun s2 => ?_) (fun j15 hj15 => ?_)
  · refine x_iconst (v := 0) dJ1_canEncode_9a6ad_15 (by decide) ?_
    exact x_weak (by exact trivial) (hj16 ((0 : Int32)))
  refine x_if_lt (tgt := 15) dJ1_canEncode_9a6ad_1 (by decide) (fun _ => ?_) (fun _ => ?_)
  · exact x_weak (by exact trivial) (hj15 ())
  · refine x_iload_n dJ1_canEncode_9a6ad_4 rfl ?_
    refine x_sipush (v := 255) dJ1_canEncode_9a6ad_5 (by decide) ?_
    refine x_icmp_gt (tgt := 15) dJ1_canEncode_9a6ad_8 (by decide) (fun _ => ?_) (fun _ => ?_)
    · exact x_weak (by exact trivial) (hj15 ())
    · refine x_iconst (v := 1) dJ1_canEncode_9a6ad_11 (by decide) ?_
      refine x_goto (tgt := 16) dJ1_canEncode_9a6ad_12 (by decide) ?_
      exact x_weak (by exact trivial) (hj16 ((1 : Int32)))
theorem s329 {l : Launch} {d : Nat} {rec : Nat → List Value → Mem → XA} (hS : Nonempty XS) (hs : XSnd l xmt rec d) : Snd1 l 329 (b329 rec) d := by
  intro as M r M' h0
  unfold b329 at h0
  obtain ⟨a0, l1, e1, h1⟩ := aI_inv h0
  obtain ⟨ez, h⟩ := aZ_inv h1
  subst ez
  subst e1
  exact xmet (M := M) (as := [.int a0]) (lo := [some (.int a0)]) 329 xq329 xm329 (by rw [xargs_i, xargs_nil]; exact ⟨rfl, trivial⟩) (by rw [xargs_i, xargs_nil]; exact Nat.le_of_ble_eq_true rfl) (fun S G K => x_weak (by exact ⟨rfl, trivial⟩) (k329 hs a0 M)) h hS
set_option maxRecDepth 100000 in
def c330 (rec : Nat → List Value → Mem → XA) (a0 : Option Nat) (a1 : Int32) (a2 : Int32) (a3 : Int32) (M0 : Mem) : XA :=
  cI (rec 329 [.int a1] M0) fun x2 M1 =>
  if x2 = 0 then (
    some (.int ((-1 : Int32)), M1)) else (
    lt (if a2 < ((0 : Int32)) then ((0 : Int32)) else a2) fun x3 =>
    aln M1 a0 fun x4 =>
    lt (if x4 < a3 then x4 else a3) fun x5 =>
    if x3 < x5 then (
      cI (rec 331 [va_rf a0, .int a1, .int x3, .int x5] M1) fun x7 M6 =>
      some (.int x7, M6)) else (
      some (.int ((-1 : Int32)), M1)))
def b330 (rec : Nat → List Value → Mem → XA) (as : List Value) (M0 : Mem) : XA := aR as fun a0 as => aI as fun a1 as => aI as fun a2 as => aI as fun a3 as => aZ as (c330 rec a0 a1 a2 a3 M0)
set_option maxRecDepth 100000 in
set_option maxHeartbeats 4000000 in
theorem k330 {S : XS} {G : XG} {K : Nat × Nat} {l : Launch} {d : Nat} {rec : Nat → List Value → Mem → XA} (hs : XSnd l xmt rec d) (a0 : Option Nat) (a1 : Int32) (a2 : Int32) (a3 : Int32) (M0 : Mem) : Xe S G K l (yJ1_indexOf_4cfef, cJ1_indexOf_4cfef, 4, some .int) d 0 [some (va_rf a0), some (.int a1), some (.int a2), some (.int a3)] [] M0 (c330 rec a0 a1 a2 a3 M0) := by
  unfold c330
  refine x_iload_n dJ1_indexOf_4cfef_0 rfl ?_
  refine cmJ1_88 rfl hs (Nat.le_of_ble_eq_true rfl) dJ1_indexOf_4cfef_1 (fun x2 M1 => ?_)
  refine x_if_ne (tgt := 9) dJ1_indexOf_4cfef_4 (by decide) (fun _ => ?_) (fun _ => ?_)
  · refine x_iconst (v := -1) dJ1_indexOf_4cfef_7 (by decide) ?_
    exact x_iret rfl dJ1_indexOf_4cfef_8
  · refine x_iload_n dJ1_indexOf_4cfef_9 rfl ?_
    refine x_iconst (v := 0) dJ1_indexOf_4cfef_10 (by decide) ?_
    refine x_mmax lk_methodLink_J1_92 w_mmax1 w_mi w_mmax2 (Nat.le_of_ble_eq_true rfl) dJ1_indexOf_4cfef_11 (fun x3 => ?_)
    refine x_istore_n (lo' := [some (va_rf a0), some (.int a1), some (.int x3), some (.int a3)]) dJ1_indexOf_4cfef_14 (by decide) rfl rfl ?_
    refine x_iload_n dJ1_indexOf_4cfef_15 rfl ?_
    refine x_aload_n dJ1_indexOf_4cfef_16 rfl ?_
    refine x_alen dJ1_indexOf_4cfef_17 (fun x4 => ?_)
    refine x_mmin lk_methodLink_J1_38 w_mmin1 w_mi w_mmin2 (Nat.le_of_ble_eq_true rfl) dJ1_indexOf_4cfef_18 (fun x5 => ?_)
    refine x_istore_n (lo' := [some (va_rf a0), some (.int a1), some (.int x3), some (.int x5)]) dJ1_indexOf_4cfef_21 (by decide) rfl rfl ?_
    refine x_iload_n dJ1_indexOf_4cfef_22 rfl ?_
    refine x_iload_n dJ1_indexOf_4cfef_23 rfl ?_
    refine x_icmp_lt (tgt := 29) dJ1_indexOf_4cfef_24 (by decide) (fun _ => ?_) (fun _ => ?_)
    · refine x_aload_n dJ1_indexOf_4cfef_29 rfl ?_
      refine x_iload_n dJ1_indexOf_4cfef_30 rfl ?_
      refine x_iload_n dJ1_indexOf_4cfef_31 rfl ?_
      refine x_iload_n dJ1_indexOf_4cfef_32 rfl ?_
      refine cmJ1_95 rfl hs (Nat.le_of_ble_eq_true rfl) dJ1_indexOf_4cfef_33 (fun x7 M6 => ?_)
      exact x_iret rfl dJ1_indexOf_4cfef_36
    · refine x_iconst (v := -1) dJ1_indexOf_4cfef_27 (by decide) ?_
      exact x_iret rfl dJ1_indexOf_4cfef_28
theorem s330 {l : Launch} {d : Nat} {rec : Nat → List Value → Mem → XA} (hS : Nonempty XS) (hs : XSnd l xmt rec d) : Snd1 l 330 (b330 rec) d := by
  intro as M r M' h0
  unfold b330 at h0
  obtain ⟨a0, l1, e1, h1⟩ := aR_inv h0
  obtain ⟨a1, l2, e2, h2⟩ := aI_inv h1
  obtain ⟨a2, l3, e3, h3⟩ := aI_inv h2
  obtain ⟨a3, l4, e4, h4⟩ := aI_inv h3
  obtain ⟨ez, h⟩ := aZ_inv h4
  subst ez
  subst e4
  subst e3
  subst e2
  subst e1
  exact xmet (M := M) (as := [va_rf a0, .int a1, .int a2, .int a3]) (lo := [some (va_rf a0), some (.int a1), some (.int a2), some (.int a3)]) 330 xq330 xm330 (by rw [xargs_rf, xargs_i, xargs_i, xargs_i, xargs_nil]; exact ⟨rfl, ⟨rfl, ⟨rfl, ⟨rfl, trivial⟩⟩⟩⟩) (by rw [xargs_rf, xargs_i, xargs_i, xargs_i, xargs_nil]; exact Nat.le_of_ble_eq_true rfl) (fun S G K => x_weak (by exact ⟨rfl, ⟨rfl, ⟨rfl, ⟨rfl, trivial⟩⟩⟩⟩) (k330 hs a0 a1 a2 a3 M)) h hS
set_option maxRecDepth 100000 in
def c331_7 (rec : Nat → List Value → Mem → XA) (a0 : Option Nat) (a1 : Int32) (a3 : Int32) (M0 : Mem) (j22 : Int32 → XA) (j31 : Unit → XA) : (Int32) → ((Int32) → XA) → XA := fun s3 j7 =>
  if a3 ≤ s3 then (
    j31 ()) else (
    alI 101 M0 a0 s3 fun x4 =>
    if x4 = a1.toInt8.toInt32 then (
      j22 s3) else (
      lt (s3 + (1 : Int32)) fun (x5 : Int32) =>
      j7 x5))
set_option maxRecDepth 100000 in
def c331 (rec : Nat → List Value → Mem → XA) (a0 : Option Nat) (a1 : Int32) (a2 : Int32) (a3 : Int32) (M0 : Mem) : XA :=
  jn (fun (s1 : Int32) =>
    some (.int s1, M0)) fun j22 =>
  jn (fun (s2 : Unit) =>
    some (.int ((-1 : Int32)), M0)) fun j31 =>
  lp (c331_7 rec a0 a1 a3 M0 j22 j31) 4294967296 a2
def b331 (rec : Nat → List Value → Mem → XA) (as : List Value) (M0 : Mem) : XA := aR as fun a0 as => aI as fun a1 as => aI as fun a2 as => aI as fun a3 as => aZ as (c331 rec a0 a1 a2 a3 M0)
set_option maxRecDepth 100000 in
set_option maxHeartbeats 4000000 in
theorem k331 {S : XS} {G : XG} {K : Nat × Nat} {l : Launch} {d : Nat} {rec : Nat → List Value → Mem → XA} (hs : XSnd l xmt rec d) (a0 : Option Nat) (a1 : Int32) (a2 : Int32) (a3 : Int32) (M0 : Mem) : Xe S G K l (yJ1_indexOfChar_4cfef, cJ1_indexOfChar_4cfef, 6, some .int) d 0 [some (va_rf a0), some (.int a1), some (.int a2), some (.int a3), none, none] [] M0 (c331 rec a0 a1 a2 a3 M0) := by
  unfold c331
  refine x_iload_n dJ1_indexOfChar_4cfef_0 rfl ?_
  refine x_i2b dJ1_indexOfChar_4cfef_1 ?_
  refine x_istore (lo' := [some (va_rf a0), some (.int a1), some (.int a2), some (.int a3), some (.int a1.toInt8.toInt32), none]) dJ1_indexOfChar_4cfef_2 (by decide) rfl rfl ?_
  refine x_iload_n dJ1_indexOfChar_4cfef_4 rfl ?_
  refine x_istore (lo' := [some (va_rf a0), some (.int a1), some (.int a2), some (.int a3), some (.int a1.toInt8.toInt32), some (.int a2)]) dJ1_indexOfChar_4cfef_5 (by decide) rfl rfl ?_
  refine x_jn (σ := Int32) 22 (fun s1 => [none, none, none, none, none, some (.int s1)]) (fun s1 => []) (fun s1 => M0) (fun s1 => ?_) (fun j22 hj22 => ?_)
  · refine x_iload dJ1_indexOfChar_4cfef_22 rfl ?_
    exact x_iret rfl dJ1_indexOfChar_4cfef_24
  refine x_jn (σ := Unit) 31 (fun s2 => [none, none, none, none, none, none]) (fun s2 => []) (fun s2 => M0) (fun s2 => ?_) (fun j31 hj31 => ?_)
  · refine x_iconst (v := -1) dJ1_indexOfChar_4cfef_31 (by decide) ?_
    exact x_iret rfl dJ1_indexOfChar_4cfef_32
  refine x_weak (by exact ⟨rfl, ⟨rfl, ⟨rfl, ⟨rfl, trivial⟩⟩⟩⟩) (x_lp (σ := Int32) 7 (fun s3 => [some (va_rf a0), none, none, some (.int a3), some (.int a1.toInt8.toInt32), some (.int s3)]) (fun s3 => []) (fun s3 => M0) (fun s3 j7 hj7 => ?_) 4294967296 a2)
  · refine x_iload dJ1_indexOfChar_4cfef_7 rfl ?_
    refine x_iload_n dJ1_indexOfChar_4cfef_9 rfl ?_
    refine x_icmp_ge (tgt := 31) dJ1_indexOfChar_4cfef_10 (by decide) (fun _ => ?_) (fun _ => ?_)
    · exact x_weak (by exact trivial) (hj31 ())
    · refine x_aload_n dJ1_indexOfChar_4cfef_13 rfl ?_
      refine x_iload dJ1_indexOfChar_4cfef_14 rfl ?_
      refine x_bald dJ1_indexOfChar_4cfef_16 (fun x4 => ?_)
      refine x_iload dJ1_indexOfChar_4cfef_17 rfl ?_
      refine x_icmp_ne (tgt := 25) dJ1_indexOfChar_4cfef_19 (by decide) (fun _ => ?_) (fun _ => ?_)
      · exact x_weak (by exact ⟨rfl, trivial⟩) (hj22 s3)
      · refine x_iincN (v := 1) (lo' := fun x5 => [some (va_rf a0), none, none, some (.int a3), some (.int a1.toInt8.toInt32), some (.int x5)]) (by decide) dJ1_indexOfChar_4cfef_25 rfl (by decide) rfl (fun _ => rfl) (fun x5 => ?_)
        refine x_goto (tgt := 7) dJ1_indexOfChar_4cfef_28 (by decide) ?_
        exact x_weak (by exact ⟨rfl, ⟨rfl, ⟨rfl, ⟨rfl, trivial⟩⟩⟩⟩) (hj7 x5)
theorem s331 {l : Launch} {d : Nat} {rec : Nat → List Value → Mem → XA} (hS : Nonempty XS) (hs : XSnd l xmt rec d) : Snd1 l 331 (b331 rec) d := by
  intro as M r M' h0
  unfold b331 at h0
  obtain ⟨a0, l1, e1, h1⟩ := aR_inv h0
  obtain ⟨a1, l2, e2, h2⟩ := aI_inv h1
  obtain ⟨a2, l3, e3, h3⟩ := aI_inv h2
  obtain ⟨a3, l4, e4, h4⟩ := aI_inv h3
  obtain ⟨ez, h⟩ := aZ_inv h4
  subst ez
  subst e4
  subst e3
  subst e2
  subst e1
  exact xmet (M := M) (as := [va_rf a0, .int a1, .int a2, .int a3]) (lo := [some (va_rf a0), some (.int a1), some (.int a2), some (.int a3)]) 331 xq331 xm331 (by rw [xargs_rf, xargs_i, xargs_i, xargs_i, xargs_nil]; exact ⟨rfl, ⟨rfl, ⟨rfl, ⟨rfl, trivial⟩⟩⟩⟩) (by rw [xargs_rf, xargs_i, xargs_i, xargs_i, xargs_nil]; exact Nat.le_of_ble_eq_true rfl) (fun S G K => x_weak (by exact ⟨rfl, ⟨rfl, ⟨rfl, ⟨rfl, trivial⟩⟩⟩⟩) (k331 hs a0 a1 a2 a3 M)) h hS
set_option maxRecDepth 100000 in
def c332 (rec : Nat → List Value → Mem → XA) (a0 : Option Nat) (a1 : Int32) (M0 : Mem) : XA :=
  none
def b332 (rec : Nat → List Value → Mem → XA) (as : List Value) (M0 : Mem) : XA := aR as fun a0 as => aI as fun a1 as => aZ as (c332 rec a0 a1 M0)
set_option maxRecDepth 100000 in
set_option maxHeartbeats 4000000 in
theorem k332 {S : XS} {G : XG} {K : Nat × Nat} {l : Launch} {d : Nat} {rec : Nat → List Value → Mem → XA} (hs : XSnd l xmt rec d) (a0 : Option Nat) (a1 : Int32) (M0 : Mem) : Xe S G K l (yJ2_getChar_3b067, cJ2_getChar_3b067, 2, some .char) d 0 [some (va_rf a0), some (.int a1)] [] M0 (c332 rec a0 a1 M0) := by
  unfold c332
  exact x_none
theorem s332 {l : Launch} {d : Nat} {rec : Nat → List Value → Mem → XA} (hS : Nonempty XS) (hs : XSnd l xmt rec d) : Snd1 l 332 (b332 rec) d := by
  intro as M r M' h0
  unfold b332 at h0
  obtain ⟨a0, l1, e1, h1⟩ := aR_inv h0
  obtain ⟨a1, l2, e2, h2⟩ := aI_inv h1
  obtain ⟨ez, h⟩ := aZ_inv h2
  subst ez
  subst e2
  subst e1
  exact xmet (M := M) (as := [va_rf a0, .int a1]) (lo := [some (va_rf a0), some (.int a1)]) 332 xq332 xm332 (by rw [xargs_rf, xargs_i, xargs_nil]; exact ⟨rfl, ⟨rfl, trivial⟩⟩) (by rw [xargs_rf, xargs_i, xargs_nil]; exact Nat.le_of_ble_eq_true rfl) (fun S G K => x_weak (by exact ⟨rfl, ⟨rfl, trivial⟩⟩) (k332 hs a0 a1 M)) h hS
set_option maxRecDepth 100000 in
def c333 (rec : Nat → List Value → Mem → XA) (a0 : Option Nat) (M0 : Mem) : XA :=
  aln M0 a0 fun x1 =>
  some (.int (x1 >>> (((1 : Int32)) &&& 31)), M0)
def b333 (rec : Nat → List Value → Mem → XA) (as : List Value) (M0 : Mem) : XA := aR as fun a0 as => aZ as (c333 rec a0 M0)
set_option maxRecDepth 100000 in
set_option maxHeartbeats 4000000 in
theorem k333 {S : XS} {G : XG} {K : Nat × Nat} {l : Launch} {d : Nat} {rec : Nat → List Value → Mem → XA} (hs : XSnd l xmt rec d) (a0 : Option Nat) (M0 : Mem) : Xe S G K l (yJ2_length_9d52b, cJ2_length_9d52b, 1, some .int) d 0 [some (va_rf a0)] [] M0 (c333 rec a0 M0) := by
  unfold c333
  refine x_aload_n dJ2_length_9d52b_0 rfl ?_
  refine x_alen dJ2_length_9d52b_1 (fun x1 => ?_)
  refine x_iconst (v := 1) dJ2_length_9d52b_2 (by decide) ?_
  refine x_ishr dJ2_length_9d52b_3 ?_
  exact x_iret rfl dJ2_length_9d52b_4
theorem s333 {l : Launch} {d : Nat} {rec : Nat → List Value → Mem → XA} (hS : Nonempty XS) (hs : XSnd l xmt rec d) : Snd1 l 333 (b333 rec) d := by
  intro as M r M' h0
  unfold b333 at h0
  obtain ⟨a0, l1, e1, h1⟩ := aR_inv h0
  obtain ⟨ez, h⟩ := aZ_inv h1
  subst ez
  subst e1
  exact xmet (M := M) (as := [va_rf a0]) (lo := [some (va_rf a0)]) 333 xq333 xm333 (by rw [xargs_rf, xargs_nil]; exact ⟨rfl, trivial⟩) (by rw [xargs_rf, xargs_nil]; exact Nat.le_of_ble_eq_true rfl) (fun S G K => x_weak (by exact ⟨rfl, trivial⟩) (k333 hs a0 M)) h hS
set_option maxRecDepth 100000 in
def c334 (rec : Nat → List Value → Mem → XA) (a0 : Option Nat) (a1 : Int32) (a2 : Int32) (a3 : Int32) (M0 : Mem) : XA :=
  lt (if a2 < ((0 : Int32)) then ((0 : Int32)) else a2) fun x1 =>
  aln M0 a0 fun x2 =>
  lt (if (x2 >>> (((1 : Int32)) &&& 31)) < a3 then (x2 >>> (((1 : Int32)) &&& 31)) else a3) fun x3 =>
  if x1 < x3 then (
    if ((65536 : Int32)) ≤ a1 then (
      cI (rec 337 [va_rf a0, .int a1, .int x1, .int x3] M0) fun x5 M4 =>
      some (.int x5, M4)) else (
      cI (rec 335 [va_rf a0, .int a1, .int x1, .int x3] M0) fun x7 M6 =>
      some (.int x7, M6))) else (
    some (.int ((-1 : Int32)), M0))
def b334 (rec : Nat → List Value → Mem → XA) (as : List Value) (M0 : Mem) : XA := aR as fun a0 as => aI as fun a1 as => aI as fun a2 as => aI as fun a3 as => aZ as (c334 rec a0 a1 a2 a3 M0)
set_option maxRecDepth 100000 in
set_option maxHeartbeats 4000000 in
theorem k334 {S : XS} {G : XG} {K : Nat × Nat} {l : Launch} {d : Nat} {rec : Nat → List Value → Mem → XA} (hs : XSnd l xmt rec d) (a0 : Option Nat) (a1 : Int32) (a2 : Int32) (a3 : Int32) (M0 : Mem) : Xe S G K l (yJ2_indexOf_4cfef, cJ2_indexOf_4cfef, 4, some .int) d 0 [some (va_rf a0), some (.int a1), some (.int a2), some (.int a3)] [] M0 (c334 rec a0 a1 a2 a3 M0) := by
  unfold c334
  refine x_iload_n dJ2_indexOf_4cfef_0 rfl ?_
  refine x_iconst (v := 0) dJ2_indexOf_4cfef_1 (by decide) ?_
  refine x_mmax lk_methodLink_J2_224 w_mmax1 w_mi w_mmax2 (Nat.le_of_ble_eq_true rfl) dJ2_indexOf_4cfef_2 (fun x1 => ?_)
  refine x_istore_n (lo' := [some (va_rf a0), some (.int a1), some (.int x1), some (.int a3)]) dJ2_indexOf_4cfef_5 (by decide) rfl rfl ?_
  refine x_iload_n dJ2_indexOf_4cfef_6 rfl ?_
  refine x_aload_n dJ2_indexOf_4cfef_7 rfl ?_
  refine x_alen dJ2_indexOf_4cfef_8 (fun x2 => ?_)
  refine x_iconst (v := 1) dJ2_indexOf_4cfef_9 (by decide) ?_
  refine x_ishr dJ2_indexOf_4cfef_10 ?_
  refine x_mmin lk_methodLink_J2_183 w_mmin1 w_mi w_mmin2 (Nat.le_of_ble_eq_true rfl) dJ2_indexOf_4cfef_11 (fun x3 => ?_)
  refine x_istore_n (lo' := [some (va_rf a0), some (.int a1), some (.int x1), some (.int x3)]) dJ2_indexOf_4cfef_14 (by decide) rfl rfl ?_
  refine x_iload_n dJ2_indexOf_4cfef_15 rfl ?_
  refine x_iload_n dJ2_indexOf_4cfef_16 rfl ?_
  refine x_icmp_lt (tgt := 22) dJ2_indexOf_4cfef_17 (by decide) (fun _ => ?_) (fun _ => ?_)
  · refine x_iload_n dJ2_indexOf_4cfef_22 rfl ?_
    refine x_ldc (v := 65536) dJ2_indexOf_4cfef_23 lk_constant_J2_227 ?_
    refine x_icmp_ge (tgt := 36) dJ2_indexOf_4cfef_25 (by decide) (fun _ => ?_) (fun _ => ?_)
    · refine x_aload_n dJ2_indexOf_4cfef_36 rfl ?_
      refine x_iload_n dJ2_indexOf_4cfef_37 rfl ?_
      refine x_iload_n dJ2_indexOf_4cfef_38 rfl ?_
      refine x_iload_n dJ2_indexOf_4cfef_39 rfl ?_
      refine cmJ2_232 rfl hs (Nat.le_of_ble_eq_true rfl) dJ2_indexOf_4cfef_40 (fun x5 M4 => ?_)
      exact x_iret rfl dJ2_indexOf_4cfef_43
    · refine x_aload_n dJ2_indexOf_4cfef_28 rfl ?_
      refine x_iload_n dJ2_indexOf_4cfef_29 rfl ?_
      refine x_iload_n dJ2_indexOf_4cfef_30 rfl ?_
      refine x_iload_n dJ2_indexOf_4cfef_31 rfl ?_
      refine cmJ2_228 rfl hs (Nat.le_of_ble_eq_true rfl) dJ2_indexOf_4cfef_32 (fun x7 M6 => ?_)
      exact x_iret rfl dJ2_indexOf_4cfef_35
  · refine x_iconst (v := -1) dJ2_indexOf_4cfef_20 (by decide) ?_
    exact x_iret rfl dJ2_indexOf_4cfef_21
theorem s334 {l : Launch} {d : Nat} {rec : Nat → List Value → Mem → XA} (hS : Nonempty XS) (hs : XSnd l xmt rec d) : Snd1 l 334 (b334 rec) d := by
  intro as M r M' h0
  unfold b334 at h0
  obtain ⟨a0, l1, e1, h1⟩ := aR_inv h0
  obtain ⟨a1, l2, e2, h2⟩ := aI_inv h1
  obtain ⟨a2, l3, e3, h3⟩ := aI_inv h2
  obtain ⟨a3, l4, e4, h4⟩ := aI_inv h3
  obtain ⟨ez, h⟩ := aZ_inv h4
  subst ez
  subst e4
  subst e3
  subst e2
  subst e1
  exact xmet (M := M) (as := [va_rf a0, .int a1, .int a2, .int a3]) (lo := [some (va_rf a0), some (.int a1), some (.int a2), some (.int a3)]) 334 xq334 xm334 (by rw [xargs_rf, xargs_i, xargs_i, xargs_i, xargs_nil]; exact ⟨rfl, ⟨rfl, ⟨rfl, ⟨rfl, trivial⟩⟩⟩⟩) (by rw [xargs_rf, xargs_i, xargs_i, xargs_i, xargs_nil]; exact Nat.le_of_ble_eq_true rfl) (fun S G K => x_weak (by exact ⟨rfl, ⟨rfl, ⟨rfl, ⟨rfl, trivial⟩⟩⟩⟩) (k334 hs a0 a1 a2 a3 M)) h hS
set_option maxRecDepth 100000 in
def c335 (rec : Nat → List Value → Mem → XA) (a0 : Option Nat) (a1 : Int32) (a2 : Int32) (a3 : Int32) (M0 : Mem) : XA :=
  cV (rec 340 [.int a2, .int a3, va_rf a0] M0) fun M1 =>
  cI (rec 336 [va_rf a0, .int a1, .int a2, .int a3] M1) fun x3 M2 =>
  some (.int x3, M2)
def b335 (rec : Nat → List Value → Mem → XA) (as : List Value) (M0 : Mem) : XA := aR as fun a0 as => aI as fun a1 as => aI as fun a2 as => aI as fun a3 as => aZ as (c335 rec a0 a1 a2 a3 M0)
set_option maxRecDepth 100000 in
set_option maxHeartbeats 4000000 in
theorem k335 {S : XS} {G : XG} {K : Nat × Nat} {l : Launch} {d : Nat} {rec : Nat → List Value → Mem → XA} (hs : XSnd l xmt rec d) (a0 : Option Nat) (a1 : Int32) (a2 : Int32) (a3 : Int32) (M0 : Mem) : Xe S G K l (yJ2_indexOfChar_4cfef, cJ2_indexOfChar_4cfef, 4, some .int) d 0 [some (va_rf a0), some (.int a1), some (.int a2), some (.int a3)] [] M0 (c335 rec a0 a1 a2 a3 M0) := by
  unfold c335
  refine x_iload_n dJ2_indexOfChar_4cfef_0 rfl ?_
  refine x_iload_n dJ2_indexOfChar_4cfef_1 rfl ?_
  refine x_aload_n dJ2_indexOfChar_4cfef_2 rfl ?_
  refine cmJ2_96 rfl hs (Nat.le_of_ble_eq_true rfl) dJ2_indexOfChar_4cfef_3 (fun M1 => ?_)
  refine x_aload_n dJ2_indexOfChar_4cfef_6 rfl ?_
  refine x_iload_n dJ2_indexOfChar_4cfef_7 rfl ?_
  refine x_iload_n dJ2_indexOfChar_4cfef_8 rfl ?_
  refine x_iload_n dJ2_indexOfChar_4cfef_9 rfl ?_
  refine cmJ2_244 rfl hs (Nat.le_of_ble_eq_true rfl) dJ2_indexOfChar_4cfef_10 (fun x3 M2 => ?_)
  exact x_iret rfl dJ2_indexOfChar_4cfef_13
theorem s335 {l : Launch} {d : Nat} {rec : Nat → List Value → Mem → XA} (hS : Nonempty XS) (hs : XSnd l xmt rec d) : Snd1 l 335 (b335 rec) d := by
  intro as M r M' h0
  unfold b335 at h0
  obtain ⟨a0, l1, e1, h1⟩ := aR_inv h0
  obtain ⟨a1, l2, e2, h2⟩ := aI_inv h1
  obtain ⟨a2, l3, e3, h3⟩ := aI_inv h2
  obtain ⟨a3, l4, e4, h4⟩ := aI_inv h3
  obtain ⟨ez, h⟩ := aZ_inv h4
  subst ez
  subst e4
  subst e3
  subst e2
  subst e1
  exact xmet (M := M) (as := [va_rf a0, .int a1, .int a2, .int a3]) (lo := [some (va_rf a0), some (.int a1), some (.int a2), some (.int a3)]) 335 xq335 xm335 (by rw [xargs_rf, xargs_i, xargs_i, xargs_i, xargs_nil]; exact ⟨rfl, ⟨rfl, ⟨rfl, ⟨rfl, trivial⟩⟩⟩⟩) (by rw [xargs_rf, xargs_i, xargs_i, xargs_i, xargs_nil]; exact Nat.le_of_ble_eq_true rfl) (fun S G K => x_weak (by exact ⟨rfl, ⟨rfl, ⟨rfl, ⟨rfl, trivial⟩⟩⟩⟩) (k335 hs a0 a1 a2 a3 M)) h hS
set_option maxRecDepth 100000 in
def c336_3 (rec : Nat → List Value → Mem → XA) (a0 : Option Nat) (a1 : Int32) (a3 : Int32) (j19 : Int32 × Mem → XA) (j28 : Mem → XA) : (Int32 × Mem) → ((Int32 × Mem) → XA) → XA := fun s3 j3 =>
  if a3 ≤ s3.1 then (
    j28 s3.2) else (
    cI (rec 332 [va_rf a0, .int s3.1] s3.2) fun x5 M4 =>
    if x5 = a1 then (
      j19 (s3.1, M4)) else (
      lt (s3.1 + (1 : Int32)) fun (x6 : Int32) =>
      j3 (x6, M4)))
set_option maxRecDepth 100000 in
def c336 (rec : Nat → List Value → Mem → XA) (a0 : Option Nat) (a1 : Int32) (a2 : Int32) (a3 : Int32) (M0 : Mem) : XA :=
  jn (fun (s1 : Int32 × Mem) =>
    some (.int s1.1, s1.2)) fun j19 =>
  jn (fun (s2 : Mem) =>
    some (.int ((-1 : Int32)), s2)) fun j28 =>
  lp (c336_3 rec a0 a1 a3 j19 j28) 4294967296 (a2, M0)
def b336 (rec : Nat → List Value → Mem → XA) (as : List Value) (M0 : Mem) : XA := aR as fun a0 as => aI as fun a1 as => aI as fun a2 as => aI as fun a3 as => aZ as (c336 rec a0 a1 a2 a3 M0)
set_option maxRecDepth 100000 in
set_option maxHeartbeats 4000000 in
theorem k336 {S : XS} {G : XG} {K : Nat × Nat} {l : Launch} {d : Nat} {rec : Nat → List Value → Mem → XA} (hs : XSnd l xmt rec d) (a0 : Option Nat) (a1 : Int32) (a2 : Int32) (a3 : Int32) (M0 : Mem) : Xe S G K l (yJ2_indexOfCharUnsafe_4cfef, cJ2_indexOfCharUnsafe_4cfef, 5, some .int) d 0 [some (va_rf a0), some (.int a1), some (.int a2), some (.int a3), none] [] M0 (c336 rec a0 a1 a2 a3 M0) := by
  unfold c336
  refine x_iload_n dJ2_indexOfCharUnsafe_4cfef_0 rfl ?_
  refine x_istore (lo' := [some (va_rf a0), some (.int a1), some (.int a2), some (.int a3), some (.int a2)]) dJ2_indexOfCharUnsafe_4cfef_1 (by decide) rfl rfl ?_
  refine x_jn (σ := Int32 × Mem) 19 (fun s1 => [none, none, none, none, some (.int s1.1)]) (fun s1 => []) (fun s1 => s1.2) (fun s1 => ?_) (fun j19 hj19 => ?_)
  · refine x_iload dJ2_indexOfCharUnsafe_4cfef_19 rfl ?_
    exact x_iret rfl dJ2_indexOfCharUnsafe_4cfef_21
  refine x_jn (σ := Mem) 28 (fun s2 => [none, none, none, none, none]) (fun s2 => []) (fun s2 => s2) (fun s2 => ?_) (fun j28 hj28 => ?_)
  · refine x_iconst (v := -1) dJ2_indexOfCharUnsafe_4cfef_28 (by decide) ?_
    exact x_iret rfl dJ2_indexOfCharUnsafe_4cfef_29
  refine x_weak (by exact ⟨rfl, ⟨rfl, ⟨rfl, ⟨rfl, trivial⟩⟩⟩⟩) (x_lp (σ := Int32 × Mem) 3 (fun s3 => [some (va_rf a0), some (.int a1), none, some (.int a3), some (.int s3.1)]) (fun s3 => []) (fun s3 => s3.2) (fun s3 j3 hj3 => ?_) 4294967296 (a2, M0))
  · refine x_iload dJ2_indexOfCharUnsafe_4cfef_3 rfl ?_
    refine x_iload_n dJ2_indexOfCharUnsafe_4cfef_5 rfl ?_
    refine x_icmp_ge (tgt := 28) dJ2_indexOfCharUnsafe_4cfef_6 (by decide) (fun _ => ?_) (fun _ => ?_)
    · exact x_weak (by exact trivial) (hj28 s3.2)
    · refine x_aload_n dJ2_indexOfCharUnsafe_4cfef_9 rfl ?_
      refine x_iload dJ2_indexOfCharUnsafe_4cfef_10 rfl ?_
      refine cmJ2_71 rfl hs (Nat.le_of_ble_eq_true rfl) dJ2_indexOfCharUnsafe_4cfef_12 (fun x5 M4 => ?_)
      refine x_iload_n dJ2_indexOfCharUnsafe_4cfef_15 rfl ?_
      refine x_icmp_ne (tgt := 22) dJ2_indexOfCharUnsafe_4cfef_16 (by decide) (fun _ => ?_) (fun _ => ?_)
      · exact x_weak (by exact ⟨rfl, trivial⟩) (hj19 (s3.1, M4))
      · refine x_iincN (v := 1) (lo' := fun x6 => [some (va_rf a0), some (.int a1), none, some (.int a3), some (.int x6)]) (by decide) dJ2_indexOfCharUnsafe_4cfef_22 rfl (by decide) rfl (fun _ => rfl) (fun x6 => ?_)
        refine x_goto (tgt := 3) dJ2_indexOfCharUnsafe_4cfef_25 (by decide) ?_
        exact x_weak (by exact ⟨rfl, ⟨rfl, ⟨rfl, ⟨rfl, trivial⟩⟩⟩⟩) (hj3 (x6, M4))
theorem s336 {l : Launch} {d : Nat} {rec : Nat → List Value → Mem → XA} (hS : Nonempty XS) (hs : XSnd l xmt rec d) : Snd1 l 336 (b336 rec) d := by
  intro as M r M' h0
  unfold b336 at h0
  obtain ⟨a0, l1, e1, h1⟩ := aR_inv h0
  obtain ⟨a1, l2, e2, h2⟩ := aI_inv h1
  obtain ⟨a2, l3, e3, h3⟩ := aI_inv h2
  obtain ⟨a3, l4, e4, h4⟩ := aI_inv h3
  obtain ⟨ez, h⟩ := aZ_inv h4
  subst ez
  subst e4
  subst e3
  subst e2
  subst e1
  exact xmet (M := M) (as := [va_rf a0, .int a1, .int a2, .int a3]) (lo := [some (va_rf a0), some (.int a1), some (.int a2), some (.int a3)]) 336 xq336 xm336 (by rw [xargs_rf, xargs_i, xargs_i, xargs_i, xargs_nil]; exact ⟨rfl, ⟨rfl, ⟨rfl, ⟨rfl, trivial⟩⟩⟩⟩) (by rw [xargs_rf, xargs_i, xargs_i, xargs_i, xargs_nil]; exact Nat.le_of_ble_eq_true rfl) (fun S G K => x_weak (by exact ⟨rfl, ⟨rfl, ⟨rfl, ⟨rfl, trivial⟩⟩⟩⟩) (k336 hs a0 a1 a2 a3 M)) h hS
set_option maxRecDepth 100000 in
def c337_28 (rec : Nat → List Value → Mem → XA) (a0 : Option Nat) (a3 : Int32) (j60 : Int32 × Mem → XA) (j69 : Mem → XA) (x5 : Int32) (x7 : Int32) : (Int32 × Mem) → ((Int32 × Mem) → XA) → XA := fun s10 j28 =>
  if (a3 - ((1 : Int32))) ≤ s10.1 then (
    j69 s10.2) else (
    cI (rec 332 [va_rf a0, .int s10.1] s10.2) fun x12 M11 =>
    jn (fun (s13 : Mem) =>
      lt (s10.1 + (1 : Int32)) fun (x14 : Int32) =>
      j28 (x14, s13)) fun j63 =>
    if x12 = x5 then (
      cI (rec 332 [va_rf a0, .int (s10.1 + ((1 : Int32)))] M11) fun x16 M15 =>
      if x16 = x7 then (
        j60 (s10.1, M15)) else (
        j63 M15)) else (
      j63 M11))
set_option maxRecDepth 100000 in
def c337 (rec : Nat → List Value → Mem → XA) (a0 : Option Nat) (a1 : Int32) (a2 : Int32) (a3 : Int32) (M0 : Mem) : XA :=
  cI (rec 310 [.int a1] M0) fun x2 M1 =>
  jn (fun (s3 : Mem) =>
    some (.int ((-1 : Int32)), s3)) fun j69 =>
  if x2 = 0 then (
    j69 M1) else (
    cI (rec 311 [.int a1] M1) fun x5 M4 =>
    cI (rec 312 [.int a1] M4) fun x7 M6 =>
    cV (rec 340 [.int a2, .int a3, va_rf a0] M6) fun M8 =>
    jn (fun (s9 : Int32 × Mem) =>
      some (.int s9.1, s9.2)) fun j60 =>
    lp (c337_28 rec a0 a3 j60 j69 x5 x7) 4294967296 (a2, M8))
def b337 (rec : Nat → List Value → Mem → XA) (as : List Value) (M0 : Mem) : XA := aR as fun a0 as => aI as fun a1 as => aI as fun a2 as => aI as fun a3 as => aZ as (c337 rec a0 a1 a2 a3 M0)
set_option maxRecDepth 100000 in
set_option maxHeartbeats 4000000 in
theorem k337 {S : XS} {G : XG} {K : Nat × Nat} {l : Launch} {d : Nat} {rec : Nat → List Value → Mem → XA} (hs : XSnd l xmt rec d) (a0 : Option Nat) (a1 : Int32) (a2 : Int32) (a3 : Int32) (M0 : Mem) : Xe S G K l (yJ2_indexOfSupplementary_4cfef, cJ2_indexOfSupplementary_4cfef, 7, some .int) d 0 [some (va_rf a0), some (.int a1), some (.int a2), some (.int a3), none, none, none] [] M0 (c337 rec a0 a1 a2 a3 M0) := by
  unfold c337
  refine x_iload_n dJ2_indexOfSupplementary_4cfef_0 rfl ?_
  refine cmJ2_164 rfl hs (Nat.le_of_ble_eq_true rfl) dJ2_indexOfSupplementary_4cfef_1 (fun x2 M1 => ?_)
  refine x_jn (σ := Mem) 69 (fun s3 => [none, none, none, none, none, none, none]) (fun s3 => []) (fun s3 => s3) (fun s3 => ?_) (fun j69 hj69 => ?_)
  · refine x_iconst (v := -1) dJ2_indexOfSupplementary_4cfef_69 (by decide) ?_
    exact x_iret rfl dJ2_indexOfSupplementary_4cfef_70
  refine x_if_eq (tgt := 69) dJ2_indexOfSupplementary_4cfef_4 (by decide) (fun _ => ?_) (fun _ => ?_)
  · exact x_weak (by exact trivial) (hj69 M1)
  · refine x_iload_n dJ2_indexOfSupplementary_4cfef_7 rfl ?_
    refine cmJ2_157 rfl hs (Nat.le_of_ble_eq_true rfl) dJ2_indexOfSupplementary_4cfef_8 (fun x5 M4 => ?_)
    refine x_istore (lo' := [some (va_rf a0), some (.int a1), some (.int a2), some (.int a3), some (.int x5), none, none]) dJ2_indexOfSupplementary_4cfef_11 (by decide) rfl rfl ?_
    refine x_iload_n dJ2_indexOfSupplementary_4cfef_13 rfl ?_
    refine cmJ2_161 rfl hs (Nat.le_of_ble_eq_true rfl) dJ2_indexOfSupplementary_4cfef_14 (fun x7 M6 => ?_)
    refine x_istore (lo' := [some (va_rf a0), some (.int a1), some (.int a2), some (.int a3), some (.int x5), some (.int x7), none]) dJ2_indexOfSupplementary_4cfef_17 (by decide) rfl rfl ?_
    refine x_iload_n dJ2_indexOfSupplementary_4cfef_19 rfl ?_
    refine x_iload_n dJ2_indexOfSupplementary_4cfef_20 rfl ?_
    refine x_aload_n dJ2_indexOfSupplementary_4cfef_21 rfl ?_
    refine cmJ2_96 rfl hs (Nat.le_of_ble_eq_true rfl) dJ2_indexOfSupplementary_4cfef_22 (fun M8 => ?_)
    refine x_iload_n dJ2_indexOfSupplementary_4cfef_25 rfl ?_
    refine x_istore (lo' := [some (va_rf a0), some (.int a1), some (.int a2), some (.int a3), some (.int x5), some (.int x7), some (.int a2)]) dJ2_indexOfSupplementary_4cfef_26 (by decide) rfl rfl ?_
    refine x_jn (σ := Int32 × Mem) 60 (fun s9 => [none, none, none, none, none, none, some (.int s9.1)]) (fun s9 => []) (fun s9 => s9.2) (fun s9 => ?_) (fun j60 hj60 => ?_)
    · refine x_iload dJ2_indexOfSupplementary_4cfef_60 rfl ?_
      exact x_iret rfl dJ2_indexOfSupplementary_4cfef_62
    refine x_weak (by exact ⟨rfl, ⟨rfl, ⟨rfl, ⟨rfl, ⟨rfl, trivial⟩⟩⟩⟩⟩) (x_lp (σ := Int32 × Mem) 28 (fun s10 => [some (va_rf a0), none, none, some (.int a3), some (.int x5), some (.int x7), some (.int s10.1)]) (fun s10 => []) (fun s10 => s10.2) (fun s10 j28 hj28 => ?_) 4294967296 (a2, M8))
    · refine x_iload dJ2_indexOfSupplementary_4cfef_28 rfl ?_
      refine x_iload_n dJ2_indexOfSupplementary_4cfef_30 rfl ?_
      refine x_iconst (v := 1) dJ2_indexOfSupplementary_4cfef_31 (by decide) ?_
      refine x_isub dJ2_indexOfSupplementary_4cfef_32 ?_
      refine x_icmp_ge (tgt := 69) dJ2_indexOfSupplementary_4cfef_33 (by decide) (fun _ => ?_) (fun _ => ?_)
      · exact x_weak (by exact trivial) (hj69 s10.2)
      · refine x_aload_n dJ2_indexOfSupplementary_4cfef_36 rfl ?_
        refine x_iload dJ2_indexOfSupplementary_4cfef_37 rfl ?_
        refine cmJ2_71 rfl hs (Nat.le_of_ble_eq_true rfl) dJ2_indexOfSupplementary_4cfef_39 (fun x12 M11 => ?_)
        refine x_iload dJ2_indexOfSupplementary_4cfef_42 rfl ?_
        refine x_jn (σ := Mem) 63 (fun s13 => [some (va_rf a0), none, none, some (.int a3), some (.int x5), some (.int x7), some (.int s10.1)]) (fun s13 => []) (fun s13 => s13) (fun s13 => ?_) (fun j63 hj63 => ?_)
        · refine x_iincN (v := 1) (lo' := fun x14 => [some (va_rf a0), none, none, some (.int a3), some (.int x5), some (.int x7), some (.int x14)]) (by decide) dJ2_indexOfSupplementary_4cfef_63 rfl (by decide) rfl (fun _ => rfl) (fun x14 => ?_)
          refine x_goto (tgt := 28) dJ2_indexOfSupplementary_4cfef_66 (by decide) ?_
          exact x_weak (by exact ⟨rfl, ⟨rfl, ⟨rfl, ⟨rfl, ⟨rfl, trivial⟩⟩⟩⟩⟩) (hj28 (x14, s13))
        refine x_icmp_ne (tgt := 63) dJ2_indexOfSupplementary_4cfef_44 (by decide) (fun _ => ?_) (fun _ => ?_)
        · refine x_aload_n dJ2_indexOfSupplementary_4cfef_47 rfl ?_
          refine x_iload dJ2_indexOfSupplementary_4cfef_48 rfl ?_
          refine x_iconst (v := 1) dJ2_indexOfSupplementary_4cfef_50 (by decide) ?_
          refine x_iadd dJ2_indexOfSupplementary_4cfef_51 ?_
          refine cmJ2_71 rfl hs (Nat.le_of_ble_eq_true rfl) dJ2_indexOfSupplementary_4cfef_52 (fun x16 M15 => ?_)
          refine x_iload dJ2_indexOfSupplementary_4cfef_55 rfl ?_
          refine x_icmp_ne (tgt := 63) dJ2_indexOfSupplementary_4cfef_57 (by decide) (fun _ => ?_) (fun _ => ?_)
          · exact x_weak (by exact ⟨rfl, trivial⟩) (hj60 (s10.1, M15))
          · exact x_weak (by exact ⟨rfl, ⟨rfl, ⟨rfl, ⟨rfl, ⟨rfl, trivial⟩⟩⟩⟩⟩) (hj63 M15)
        · exact x_weak (by exact ⟨rfl, ⟨rfl, ⟨rfl, ⟨rfl, ⟨rfl, trivial⟩⟩⟩⟩⟩) (hj63 M11)
theorem s337 {l : Launch} {d : Nat} {rec : Nat → List Value → Mem → XA} (hS : Nonempty XS) (hs : XSnd l xmt rec d) : Snd1 l 337 (b337 rec) d := by
  intro as M r M' h0
  unfold b337 at h0
  obtain ⟨a0, l1, e1, h1⟩ := aR_inv h0
  obtain ⟨a1, l2, e2, h2⟩ := aI_inv h1
  obtain ⟨a2, l3, e3, h3⟩ := aI_inv h2
  obtain ⟨a3, l4, e4, h4⟩ := aI_inv h3
  obtain ⟨ez, h⟩ := aZ_inv h4
  subst ez
  subst e4
  subst e3
  subst e2
  subst e1
  exact xmet (M := M) (as := [va_rf a0, .int a1, .int a2, .int a3]) (lo := [some (va_rf a0), some (.int a1), some (.int a2), some (.int a3)]) 337 xq337 xm337 (by rw [xargs_rf, xargs_i, xargs_i, xargs_i, xargs_nil]; exact ⟨rfl, ⟨rfl, ⟨rfl, ⟨rfl, trivial⟩⟩⟩⟩) (by rw [xargs_rf, xargs_i, xargs_i, xargs_i, xargs_nil]; exact Nat.le_of_ble_eq_true rfl) (fun S G K => x_weak (by exact ⟨rfl, ⟨rfl, ⟨rfl, ⟨rfl, trivial⟩⟩⟩⟩) (k337 hs a0 a1 a2 a3 M)) h hS
set_option maxRecDepth 100000 in
def c338 (rec : Nat → List Value → Mem → XA) (a0 : Option Nat) (a1 : Int32) (M0 : Mem) : XA :=
  cV (rec 339 [.int a1, va_rf a0] M0) fun M1 =>
  cI (rec 332 [va_rf a0, .int a1] M1) fun x3 M2 =>
  rtC x3 M2
def b338 (rec : Nat → List Value → Mem → XA) (as : List Value) (M0 : Mem) : XA := aR as fun a0 as => aI as fun a1 as => aZ as (c338 rec a0 a1 M0)
set_option maxRecDepth 100000 in
set_option maxHeartbeats 4000000 in
theorem k338 {S : XS} {G : XG} {K : Nat × Nat} {l : Launch} {d : Nat} {rec : Nat → List Value → Mem → XA} (hs : XSnd l xmt rec d) (a0 : Option Nat) (a1 : Int32) (M0 : Mem) : Xe S G K l (yJ2_charAt_3b067, cJ2_charAt_3b067, 2, some .char) d 0 [some (va_rf a0), some (.int a1)] [] M0 (c338 rec a0 a1 M0) := by
  unfold c338
  refine x_iload_n dJ2_charAt_3b067_0 rfl ?_
  refine x_aload_n dJ2_charAt_3b067_1 rfl ?_
  refine cmJ2_67 rfl hs (Nat.le_of_ble_eq_true rfl) dJ2_charAt_3b067_2 (fun M1 => ?_)
  refine x_aload_n dJ2_charAt_3b067_5 rfl ?_
  refine x_iload_n dJ2_charAt_3b067_6 rfl ?_
  refine cmJ2_71 rfl hs (Nat.le_of_ble_eq_true rfl) dJ2_charAt_3b067_7 (fun x3 M2 => ?_)
  exact x_cret rfl dJ2_charAt_3b067_10
theorem s338 {l : Launch} {d : Nat} {rec : Nat → List Value → Mem → XA} (hS : Nonempty XS) (hs : XSnd l xmt rec d) : Snd1 l 338 (b338 rec) d := by
  intro as M r M' h0
  unfold b338 at h0
  obtain ⟨a0, l1, e1, h1⟩ := aR_inv h0
  obtain ⟨a1, l2, e2, h2⟩ := aI_inv h1
  obtain ⟨ez, h⟩ := aZ_inv h2
  subst ez
  subst e2
  subst e1
  exact xmet (M := M) (as := [va_rf a0, .int a1]) (lo := [some (va_rf a0), some (.int a1)]) 338 xq338 xm338 (by rw [xargs_rf, xargs_i, xargs_nil]; exact ⟨rfl, ⟨rfl, trivial⟩⟩) (by rw [xargs_rf, xargs_i, xargs_nil]; exact Nat.le_of_ble_eq_true rfl) (fun S G K => x_weak (by exact ⟨rfl, ⟨rfl, trivial⟩⟩) (k338 hs a0 a1 M)) h hS
set_option maxRecDepth 100000 in
def c339 (rec : Nat → List Value → Mem → XA) (a0 : Int32) (a1 : Option Nat) (M0 : Mem) : XA :=
  cI (rec 333 [va_rf a1] M0) fun x2 M1 =>
  cV (rec 326 [.int a0, .int x2] M1) fun M3 =>
  some (.null, M3)
def b339 (rec : Nat → List Value → Mem → XA) (as : List Value) (M0 : Mem) : XA := aI as fun a0 as => aR as fun a1 as => aZ as (c339 rec a0 a1 M0)
set_option maxRecDepth 100000 in
set_option maxHeartbeats 4000000 in
theorem k339 {S : XS} {G : XG} {K : Nat × Nat} {l : Launch} {d : Nat} {rec : Nat → List Value → Mem → XA} (hs : XSnd l xmt rec d) (a0 : Int32) (a1 : Option Nat) (M0 : Mem) : Xe S G K l (yJ2_checkIndex_2214a, cJ2_checkIndex_2214a, 2, none) d 0 [some (.int a0), some (va_rf a1)] [] M0 (c339 rec a0 a1 M0) := by
  unfold c339
  refine x_iload_n dJ2_checkIndex_2214a_0 rfl ?_
  refine x_aload_n dJ2_checkIndex_2214a_1 rfl ?_
  refine cmJ2_48 rfl hs (Nat.le_of_ble_eq_true rfl) dJ2_checkIndex_2214a_2 (fun x2 M1 => ?_)
  refine cmJ2_414 rfl hs (Nat.le_of_ble_eq_true rfl) dJ2_checkIndex_2214a_5 (fun M3 => ?_)
  exact x_vret rfl dJ2_checkIndex_2214a_8
theorem s339 {l : Launch} {d : Nat} {rec : Nat → List Value → Mem → XA} (hS : Nonempty XS) (hs : XSnd l xmt rec d) : Snd1 l 339 (b339 rec) d := by
  intro as M r M' h0
  unfold b339 at h0
  obtain ⟨a0, l1, e1, h1⟩ := aI_inv h0
  obtain ⟨a1, l2, e2, h2⟩ := aR_inv h1
  obtain ⟨ez, h⟩ := aZ_inv h2
  subst ez
  subst e2
  subst e1
  exact xmet (M := M) (as := [.int a0, va_rf a1]) (lo := [some (.int a0), some (va_rf a1)]) 339 xq339 xm339 (by rw [xargs_i, xargs_rf, xargs_nil]; exact ⟨rfl, ⟨rfl, trivial⟩⟩) (by rw [xargs_i, xargs_rf, xargs_nil]; exact Nat.le_of_ble_eq_true rfl) (fun S G K => x_weak (by exact ⟨rfl, ⟨rfl, trivial⟩⟩) (k339 hs a0 a1 M)) h hS
set_option maxRecDepth 100000 in
def c340 (rec : Nat → List Value → Mem → XA) (a0 : Int32) (a1 : Int32) (a2 : Option Nat) (M0 : Mem) : XA :=
  cI (rec 333 [va_rf a2] M0) fun x2 M1 =>
  cV (rec 327 [.int a0, .int a1, .int x2] M1) fun M3 =>
  some (.null, M3)
def b340 (rec : Nat → List Value → Mem → XA) (as : List Value) (M0 : Mem) : XA := aI as fun a0 as => aI as fun a1 as => aR as fun a2 as => aZ as (c340 rec a0 a1 a2 M0)
set_option maxRecDepth 100000 in
set_option maxHeartbeats 4000000 in
theorem k340 {S : XS} {G : XG} {K : Nat × Nat} {l : Launch} {d : Nat} {rec : Nat → List Value → Mem → XA} (hs : XSnd l xmt rec d) (a0 : Int32) (a1 : Int32) (a2 : Option Nat) (M0 : Mem) : Xe S G K l (yJ2_checkBoundsBeginEnd_d044e, cJ2_checkBoundsBeginEnd_d044e, 3, none) d 0 [some (.int a0), some (.int a1), some (va_rf a2)] [] M0 (c340 rec a0 a1 a2 M0) := by
  unfold c340
  refine x_iload_n dJ2_checkBoundsBeginEnd_d044e_0 rfl ?_
  refine x_iload_n dJ2_checkBoundsBeginEnd_d044e_1 rfl ?_
  refine x_aload_n dJ2_checkBoundsBeginEnd_d044e_2 rfl ?_
  refine cmJ2_48 rfl hs (Nat.le_of_ble_eq_true rfl) dJ2_checkBoundsBeginEnd_d044e_3 (fun x2 M1 => ?_)
  refine cmJ2_241 rfl hs (Nat.le_of_ble_eq_true rfl) dJ2_checkBoundsBeginEnd_d044e_6 (fun M3 => ?_)
  exact x_vret rfl dJ2_checkBoundsBeginEnd_d044e_9
theorem s340 {l : Launch} {d : Nat} {rec : Nat → List Value → Mem → XA} (hS : Nonempty XS) (hs : XSnd l xmt rec d) : Snd1 l 340 (b340 rec) d := by
  intro as M r M' h0
  unfold b340 at h0
  obtain ⟨a0, l1, e1, h1⟩ := aI_inv h0
  obtain ⟨a1, l2, e2, h2⟩ := aI_inv h1
  obtain ⟨a2, l3, e3, h3⟩ := aR_inv h2
  obtain ⟨ez, h⟩ := aZ_inv h3
  subst ez
  subst e3
  subst e2
  subst e1
  exact xmet (M := M) (as := [.int a0, .int a1, va_rf a2]) (lo := [some (.int a0), some (.int a1), some (va_rf a2)]) 340 xq340 xm340 (by rw [xargs_i, xargs_i, xargs_rf, xargs_nil]; exact ⟨rfl, ⟨rfl, ⟨rfl, trivial⟩⟩⟩) (by rw [xargs_i, xargs_i, xargs_rf, xargs_nil]; exact Nat.le_of_ble_eq_true rfl) (fun S G K => x_weak (by exact ⟨rfl, ⟨rfl, ⟨rfl, trivial⟩⟩⟩) (k340 hs a0 a1 a2 M)) h hS
set_option maxRecDepth 100000 in
def c341 (rec : Nat → List Value → Mem → XA) (a0 : Option Nat) (M0 : Mem) : XA :=
  nn a0 <|
  some (.null, M0)
def b341 (rec : Nat → List Value → Mem → XA) (as : List Value) (M0 : Mem) : XA := aR as fun a0 as => aZ as (c341 rec a0 M0)
set_option maxRecDepth 100000 in
set_option maxHeartbeats 4000000 in
theorem k341 {S : XS} {G : XG} {K : Nat × Nat} {l : Launch} {d : Nat} {rec : Nat → List Value → Mem → XA} (hs : XSnd l xmt rec d) (a0 : Option Nat) (M0 : Mem) : Xe S G K l (yJxa1e45_init_da8c8, cJxa1e45_init_da8c8, 1, none) d 0 [some (va_rf a0)] [] M0 (c341 rec a0 M0) := by
  unfold c341
  refine x_aload_n dJxa1e45_init_da8c8_0 rfl ?_
  refine xoiJxa1e45 rfl (Nat.le_of_ble_eq_true rfl) dJxa1e45_init_da8c8_1 ?_
  exact x_vret rfl dJxa1e45_init_da8c8_4
theorem s341 {l : Launch} {d : Nat} {rec : Nat → List Value → Mem → XA} (hS : Nonempty XS) (hs : XSnd l xmt rec d) : Snd1 l 341 (b341 rec) d := by
  intro as M r M' h0
  unfold b341 at h0
  obtain ⟨a0, l1, e1, h1⟩ := aR_inv h0
  obtain ⟨ez, h⟩ := aZ_inv h1
  subst ez
  subst e1
  exact xmet (M := M) (as := [va_rf a0]) (lo := [some (va_rf a0)]) 341 xq341 xm341 (by rw [xargs_rf, xargs_nil]; exact ⟨rfl, trivial⟩) (by rw [xargs_rf, xargs_nil]; exact Nat.le_of_ble_eq_true rfl) (fun S G K => x_weak (by exact ⟨rfl, trivial⟩) (k341 hs a0 M)) h hS
set_option maxRecDepth 100000 in
def c342 (rec : Nat → List Value → Mem → XA) (a0 : Option Nat) (M0 : Mem) : XA :=
  vC (0, 3) M0 a0 <|
  cV (rec 341 [va_rf a0] M0) fun M1 =>
  ptI (0, 3) M1 a0 0 ((0 : Int32)) fun M2 =>
  some (.null, M2)
def b342 (rec : Nat → List Value → Mem → XA) (as : List Value) (M0 : Mem) : XA := aR as fun a0 as => aZ as (c342 rec a0 M0)
set_option maxRecDepth 100000 in
set_option maxHeartbeats 4000000 in
theorem k342 {S : XS} {G : XG} {K : Nat × Nat} {l : Launch} {d : Nat} {rec : Nat → List Value → Mem → XA} (hs : XSnd l xmt rec d) (a0 : Option Nat) (M0 : Mem) : Xe S G K l (yJxc12de_init_da8c8, cJxc12de_init_da8c8, 1, none) d 0 [some (va_rf a0)] [] M0 (c342 rec a0 M0) := by
  unfold c342
  refine x_aload_n dJxc12de_init_da8c8_0 rfl ?_
  refine cmJxc12de_1 rfl hs (Nat.le_of_ble_eq_true rfl) dJxc12de_init_da8c8_1 (fun M1 => ?_)
  refine x_aload_n dJxc12de_init_da8c8_4 rfl ?_
  refine x_iconst (v := 0) dJxc12de_init_da8c8_5 (by decide) ?_
  refine pfJxc12de_7 rfl dJxc12de_init_da8c8_6 (fun M2 => ?_)
  exact x_vret rfl dJxc12de_init_da8c8_9
theorem s342 {l : Launch} {d : Nat} {rec : Nat → List Value → Mem → XA} (hS : Nonempty XS) (hs : XSnd l xmt rec d) : Snd1 l 342 (b342 rec) d := by
  intro as M r M' h0
  unfold b342 at h0
  obtain ⟨a0, l1, e1, h1⟩ := aR_inv h0
  obtain ⟨ez, h⟩ := aZ_inv h1
  subst ez
  subst e1
  exact xmet (M := M) (as := [va_rf a0]) (lo := [some (va_rf a0)]) 342 xq342 xm342 (by rw [xargs_rf, xargs_nil]; exact ⟨rfl, trivial⟩) (by rw [xargs_rf, xargs_nil]; exact Nat.le_of_ble_eq_true rfl) (fun S G K => x_weak (by exact ⟨rfl, trivial⟩) (k342 hs a0 M)) h hS
set_option maxRecDepth 100000 in
def c343 (rec : Nat → List Value → Mem → XA) (a0 : Option Nat) (M0 : Mem) : XA :=
  vC (0, 3) M0 a0 <|
  cV (rec 342 [va_rf a0] M0) fun M1 =>
  ptP (0, 3) M1 a0 1 ((some 2)) fun M2 =>
  some (.null, M2)
def b343 (rec : Nat → List Value → Mem → XA) (as : List Value) (M0 : Mem) : XA := aR as fun a0 as => aZ as (c343 rec a0 M0)
set_option maxRecDepth 100000 in
set_option maxHeartbeats 4000000 in
theorem k343 {S : XS} {G : XG} {K : Nat × Nat} {l : Launch} {d : Nat} {rec : Nat → List Value → Mem → XA} (hs : XSnd l xmt rec d) (a0 : Option Nat) (M0 : Mem) : Xe S G K l (yJx4a65c_init_da8c8, cJx4a65c_init_da8c8, 1, none) d 0 [some (va_rf a0)] [] M0 (c343 rec a0 M0) := by
  unfold c343
  refine x_aload_n dJx4a65c_init_da8c8_0 rfl ?_
  refine cmJx4a65c_1 rfl hs (Nat.le_of_ble_eq_true rfl) dJx4a65c_init_da8c8_1 (fun M1 => ?_)
  refine x_aload_n dJx4a65c_init_da8c8_4 rfl ?_
  refine x_gets (v := va_rf (some 2)) z_emp lsJx4a65c_39 dJx4a65c_init_da8c8_5 ?_
  refine pfJx4a65c_9 rfl dJx4a65c_init_da8c8_8 (fun M2 => ?_)
  exact x_vret rfl dJx4a65c_init_da8c8_11
theorem s343 {l : Launch} {d : Nat} {rec : Nat → List Value → Mem → XA} (hS : Nonempty XS) (hs : XSnd l xmt rec d) : Snd1 l 343 (b343 rec) d := by
  intro as M r M' h0
  unfold b343 at h0
  obtain ⟨a0, l1, e1, h1⟩ := aR_inv h0
  obtain ⟨ez, h⟩ := aZ_inv h1
  subst ez
  subst e1
  exact xmet (M := M) (as := [va_rf a0]) (lo := [some (va_rf a0)]) 343 xq343 xm343 (by rw [xargs_rf, xargs_nil]; exact ⟨rfl, trivial⟩) (by rw [xargs_rf, xargs_nil]; exact Nat.le_of_ble_eq_true rfl) (fun S G K => x_weak (by exact ⟨rfl, trivial⟩) (k343 hs a0 M)) h hS
set_option maxRecDepth 100000 in
def c344 (rec : Nat → List Value → Mem → XA) (a0 : Option Nat) (a1 : Int32) (M0 : Mem) : XA :=
  gtP (0, 3) M0 a0 1 fun x1 =>
  aln M0 x1 fun x2 =>
  jn (fun (s3 : Unit) =>
    cI (rec 358 [.int x2, .int (a1 - x2), .int (x2 >>> (((1 : Int32)) &&& 31))] M0) fun x5 M4 =>
    gtP (0, 3) M4 a0 1 fun x6 =>
    cP (rec 354 [va_rf x6, .int x5] M4) fun x8 M7 =>
    ptP (0, 3) M7 a0 1 x8 fun M9 =>
    some (va_rf x8, M9)) fun j20 =>
  if 0 < x2 then (
    j20 ()) else (
    gtP (0, 3) M0 a0 1 fun x10 =>
    if x10 = ((some 2)) then (
      lt (if ((10 : Int32)) < a1 then a1 else ((10 : Int32))) fun x11 =>
      nA 110 M0 x11 fun x12 M13 =>
      ptP (0, 3) M13 a0 1 x12 fun M14 =>
      some (va_rf x12, M14)) else if acd M0 x10 ((some 2)) = true then (
      j20 ()) else none)
def b344 (rec : Nat → List Value → Mem → XA) (as : List Value) (M0 : Mem) : XA := aR as fun a0 as => aI as fun a1 as => aZ as (c344 rec a0 a1 M0)
set_option maxRecDepth 100000 in
set_option maxHeartbeats 4000000 in
theorem k344 {S : XS} {G : XG} {K : Nat × Nat} {l : Launch} {d : Nat} {rec : Nat → List Value → Mem → XA} (hs : XSnd l xmt rec d) (a0 : Option Nat) (a1 : Int32) (M0 : Mem) : Xe S G K l (yJx4a65c_grow_92f84, cJx4a65c_grow_92f84, 4, some (.array (.object "java/lang/Object"))) d 0 [some (va_rf a0), some (.int a1), none, none] [] M0 (c344 rec a0 a1 M0) := by
  unfold c344
  refine x_aload_n dJx4a65c_grow_92f84_0 rfl ?_
  refine gfJx4a65c_9 rfl dJx4a65c_grow_92f84_1 (fun x1 => ?_)
  refine x_alen dJx4a65c_grow_92f84_4 (fun x2 => ?_)
  refine x_istore_n (lo' := [some (va_rf a0), some (.int a1), some (.int x2), none]) dJx4a65c_grow_92f84_5 (by decide) rfl rfl ?_
  refine x_iload_n dJx4a65c_grow_92f84_6 rfl ?_
  refine x_jn (σ := Unit) 20 (fun s3 => [some (va_rf a0), some (.int a1), some (.int x2), none]) (fun s3 => []) (fun s3 => M0) (fun s3 => ?_) (fun j20 hj20 => ?_)
  · refine x_iload_n dJx4a65c_grow_92f84_20 rfl ?_
    refine x_iload_n dJx4a65c_grow_92f84_21 rfl ?_
    refine x_iload_n dJx4a65c_grow_92f84_22 rfl ?_
    refine x_isub dJx4a65c_grow_92f84_23 ?_
    refine x_iload_n dJx4a65c_grow_92f84_24 rfl ?_
    refine x_iconst (v := 1) dJx4a65c_grow_92f84_25 (by decide) ?_
    refine x_ishr dJx4a65c_grow_92f84_26 ?_
    refine cmJx4a65c_73 rfl hs (Nat.le_of_ble_eq_true rfl) dJx4a65c_grow_92f84_27 (fun x5 M4 => ?_)
    refine x_istore_n (lo' := [some (va_rf a0), some (.int a1), some (.int x2), some (.int x5)]) dJx4a65c_grow_92f84_30 (by decide) rfl rfl ?_
    refine x_aload_n dJx4a65c_grow_92f84_31 rfl ?_
    refine x_aload_n dJx4a65c_grow_92f84_32 rfl ?_
    refine gfJx4a65c_9 rfl dJx4a65c_grow_92f84_33 (fun x6 => ?_)
    refine x_iload_n dJx4a65c_grow_92f84_36 rfl ?_
    refine cmJx4a65c_66 rfl hs (Nat.le_of_ble_eq_true rfl) dJx4a65c_grow_92f84_37 (fun x8 M7 => ?_)
    refine x_dup_x1 dJx4a65c_grow_92f84_40 (xc1_r _) (xc1_r _) ?_
    refine pfJx4a65c_9 rfl dJx4a65c_grow_92f84_41 (fun M9 => ?_)
    exact x_aret rfl rfl dJx4a65c_grow_92f84_44
  refine x_if_gt (tgt := 20) dJx4a65c_grow_92f84_7 (by decide) (fun _ => ?_) (fun _ => ?_)
  · exact x_weak (by exact ⟨rfl, ⟨rfl, ⟨rfl, trivial⟩⟩⟩) (hj20 ())
  · refine x_aload_n dJx4a65c_grow_92f84_10 rfl ?_
    refine gfJx4a65c_9 rfl dJx4a65c_grow_92f84_11 (fun x10 => ?_)
    refine x_gets (v := va_rf (some 2)) z_emp lsJx4a65c_39 dJx4a65c_grow_92f84_14 ?_
    refine x_acmp_eq (tgt := 45) dJx4a65c_grow_92f84_17 (by decide) (fun _ => ?_) (fun _ => ?_)
    · refine x_aload_n dJx4a65c_grow_92f84_45 rfl ?_
      refine x_bipush (v := 10) dJx4a65c_grow_92f84_46 (by decide) ?_
      refine x_iload_n dJx4a65c_grow_92f84_48 rfl ?_
      refine x_mmax lk_methodLink_Jx4a65c_79 w_mmax1 w_mi w_mmax2 (Nat.le_of_ble_eq_true rfl) dJx4a65c_grow_92f84_49 (fun x11 => ?_)
      refine x_newq (t := 110) (tn := 5) (C := "java/lang/Object") (by decide) (by decide) rfl lk_classLink_Jx4a65c_7 xov110 dJx4a65c_grow_92f84_52 (fun x12 M13 => ?_)
      refine x_dup_x1 dJx4a65c_grow_92f84_55 (xc1_r _) (xc1_r _) ?_
      refine pfJx4a65c_9 rfl dJx4a65c_grow_92f84_56 (fun M14 => ?_)
      exact x_aret rfl rfl dJx4a65c_grow_92f84_59
    · exact x_weak (by exact ⟨rfl, ⟨rfl, ⟨rfl, trivial⟩⟩⟩) (hj20 ())
theorem s344 {l : Launch} {d : Nat} {rec : Nat → List Value → Mem → XA} (hS : Nonempty XS) (hs : XSnd l xmt rec d) : Snd1 l 344 (b344 rec) d := by
  intro as M r M' h0
  unfold b344 at h0
  obtain ⟨a0, l1, e1, h1⟩ := aR_inv h0
  obtain ⟨a1, l2, e2, h2⟩ := aI_inv h1
  obtain ⟨ez, h⟩ := aZ_inv h2
  subst ez
  subst e2
  subst e1
  exact xmet (M := M) (as := [va_rf a0, .int a1]) (lo := [some (va_rf a0), some (.int a1)]) 344 xq344 xm344 (by rw [xargs_rf, xargs_i, xargs_nil]; exact ⟨rfl, ⟨rfl, trivial⟩⟩) (by rw [xargs_rf, xargs_i, xargs_nil]; exact Nat.le_of_ble_eq_true rfl) (fun S G K => x_weak (by exact ⟨rfl, ⟨rfl, trivial⟩⟩) (k344 hs a0 a1 M)) h hS
set_option maxRecDepth 100000 in
def c345 (rec : Nat → List Value → Mem → XA) (a0 : Option Nat) (M0 : Mem) : XA :=
  gtI (0, 3) M0 a0 2 fun x1 =>
  vC (0, 3) M0 a0 <|
  cP (rec 344 [va_rf a0, .int (x1 + ((1 : Int32)))] M0) fun x3 M2 =>
  some (va_rf x3, M2)
def b345 (rec : Nat → List Value → Mem → XA) (as : List Value) (M0 : Mem) : XA := aR as fun a0 as => aZ as (c345 rec a0 M0)
set_option maxRecDepth 100000 in
set_option maxHeartbeats 4000000 in
theorem k345 {S : XS} {G : XG} {K : Nat × Nat} {l : Launch} {d : Nat} {rec : Nat → List Value → Mem → XA} (hs : XSnd l xmt rec d) (a0 : Option Nat) (M0 : Mem) : Xe S G K l (yJx4a65c_grow_d5877, cJx4a65c_grow_d5877, 1, some (.array (.object "java/lang/Object"))) d 0 [some (va_rf a0)] [] M0 (c345 rec a0 M0) := by
  unfold c345
  refine x_aload_n dJx4a65c_grow_d5877_0 rfl ?_
  refine x_aload_n dJx4a65c_grow_d5877_1 rfl ?_
  refine gfJx4a65c_48 rfl dJx4a65c_grow_d5877_2 (fun x1 => ?_)
  refine x_iconst (v := 1) dJx4a65c_grow_d5877_5 (by decide) ?_
  refine x_iadd dJx4a65c_grow_d5877_6 ?_
  refine cmJx4a65c_69 rfl hs (Nat.le_of_ble_eq_true rfl) dJx4a65c_grow_d5877_7 (fun x3 M2 => ?_)
  exact x_aret rfl rfl dJx4a65c_grow_d5877_10
theorem s345 {l : Launch} {d : Nat} {rec : Nat → List Value → Mem → XA} (hS : Nonempty XS) (hs : XSnd l xmt rec d) : Snd1 l 345 (b345 rec) d := by
  intro as M r M' h0
  unfold b345 at h0
  obtain ⟨a0, l1, e1, h1⟩ := aR_inv h0
  obtain ⟨ez, h⟩ := aZ_inv h1
  subst ez
  subst e1
  exact xmet (M := M) (as := [va_rf a0]) (lo := [some (va_rf a0)]) 345 xq345 xm345 (by rw [xargs_rf, xargs_nil]; exact ⟨rfl, trivial⟩) (by rw [xargs_rf, xargs_nil]; exact Nat.le_of_ble_eq_true rfl) (fun S G K => x_weak (by exact ⟨rfl, trivial⟩) (k345 hs a0 M)) h hS
set_option maxRecDepth 100000 in
def c346 (rec : Nat → List Value → Mem → XA) (a0 : Option Nat) (M0 : Mem) : XA :=
  gtI (0, 3) M0 a0 2 fun x1 =>
  some (.int x1, M0)
def b346 (rec : Nat → List Value → Mem → XA) (as : List Value) (M0 : Mem) : XA := aR as fun a0 as => aZ as (c346 rec a0 M0)
set_option maxRecDepth 100000 in
set_option maxHeartbeats 4000000 in
theorem k346 {S : XS} {G : XG} {K : Nat × Nat} {l : Launch} {d : Nat} {rec : Nat → List Value → Mem → XA} (hs : XSnd l xmt rec d) (a0 : Option Nat) (M0 : Mem) : Xe S G K l (yJx4a65c_size_8abf5, cJx4a65c_size_8abf5, 1, some .int) d 0 [some (va_rf a0)] [] M0 (c346 rec a0 M0) := by
  unfold c346
  refine x_aload_n dJx4a65c_size_8abf5_0 rfl ?_
  refine gfJx4a65c_48 rfl dJx4a65c_size_8abf5_1 (fun x1 => ?_)
  exact x_iret rfl dJx4a65c_size_8abf5_4
theorem s346 {l : Launch} {d : Nat} {rec : Nat → List Value → Mem → XA} (hS : Nonempty XS) (hs : XSnd l xmt rec d) : Snd1 l 346 (b346 rec) d := by
  intro as M r M' h0
  unfold b346 at h0
  obtain ⟨a0, l1, e1, h1⟩ := aR_inv h0
  obtain ⟨ez, h⟩ := aZ_inv h1
  subst ez
  subst e1
  exact xmet (M := M) (as := [va_rf a0]) (lo := [some (va_rf a0)]) 346 xq346 xm346 (by rw [xargs_rf, xargs_nil]; exact ⟨rfl, trivial⟩) (by rw [xargs_rf, xargs_nil]; exact Nat.le_of_ble_eq_true rfl) (fun S G K => x_weak (by exact ⟨rfl, trivial⟩) (k346 hs a0 M)) h hS
set_option maxRecDepth 100000 in
def c347 (rec : Nat → List Value → Mem → XA) (a0 : Option Nat) (a1 : Int32) (M0 : Mem) : XA :=
  gtP (0, 3) M0 a0 1 fun x1 =>
  alP 110 M0 x1 a1 fun x2 =>
  some (va_rf x2, M0)
def b347 (rec : Nat → List Value → Mem → XA) (as : List Value) (M0 : Mem) : XA := aR as fun a0 as => aI as fun a1 as => aZ as (c347 rec a0 a1 M0)
set_option maxRecDepth 100000 in
set_option maxHeartbeats 4000000 in
theorem k347 {S : XS} {G : XG} {K : Nat × Nat} {l : Launch} {d : Nat} {rec : Nat → List Value → Mem → XA} (hs : XSnd l xmt rec d) (a0 : Option Nat) (a1 : Int32) (M0 : Mem) : Xe S G K l (yJx4a65c_elementData_915e3, cJx4a65c_elementData_915e3, 2, some (.object "java/lang/Object")) d 0 [some (va_rf a0), some (.int a1)] [] M0 (c347 rec a0 a1 M0) := by
  unfold c347
  refine x_aload_n dJx4a65c_elementData_915e3_0 rfl ?_
  refine gfJx4a65c_9 rfl dJx4a65c_elementData_915e3_1 (fun x1 => ?_)
  refine x_iload_n dJx4a65c_elementData_915e3_4 rfl ?_
  refine x_aldq (t := 110) (tn := 5) (by decide) (by decide) rfl dJx4a65c_elementData_915e3_5 (fun x2 => ?_)
  exact x_aret rfl rfl dJx4a65c_elementData_915e3_6
theorem s347 {l : Launch} {d : Nat} {rec : Nat → List Value → Mem → XA} (hS : Nonempty XS) (hs : XSnd l xmt rec d) : Snd1 l 347 (b347 rec) d := by
  intro as M r M' h0
  unfold b347 at h0
  obtain ⟨a0, l1, e1, h1⟩ := aR_inv h0
  obtain ⟨a1, l2, e2, h2⟩ := aI_inv h1
  obtain ⟨ez, h⟩ := aZ_inv h2
  subst ez
  subst e2
  subst e1
  exact xmet (M := M) (as := [va_rf a0, .int a1]) (lo := [some (va_rf a0), some (.int a1)]) 347 xq347 xm347 (by rw [xargs_rf, xargs_i, xargs_nil]; exact ⟨rfl, ⟨rfl, trivial⟩⟩) (by rw [xargs_rf, xargs_i, xargs_nil]; exact Nat.le_of_ble_eq_true rfl) (fun S G K => x_weak (by exact ⟨rfl, ⟨rfl, trivial⟩⟩) (k347 hs a0 a1 M)) h hS
set_option maxRecDepth 100000 in
def c348 (rec : Nat → List Value → Mem → XA) (a0 : Option Nat) (a1 : Int32) (M0 : Mem) : XA :=
  gtI (0, 3) M0 a0 2 fun x1 =>
  cI (rec 357 [.int a1, .int x1] M0) fun x3 M2 =>
  vC (0, 3) M2 a0 <|
  cP (rec 347 [va_rf a0, .int a1] M2) fun x5 M4 =>
  some (va_rf x5, M4)
def b348 (rec : Nat → List Value → Mem → XA) (as : List Value) (M0 : Mem) : XA := aR as fun a0 as => aI as fun a1 as => aZ as (c348 rec a0 a1 M0)
set_option maxRecDepth 100000 in
set_option maxHeartbeats 4000000 in
theorem k348 {S : XS} {G : XG} {K : Nat × Nat} {l : Launch} {d : Nat} {rec : Nat → List Value → Mem → XA} (hs : XSnd l xmt rec d) (a0 : Option Nat) (a1 : Int32) (M0 : Mem) : Xe S G K l (yJx4a65c_get_915e3, cJx4a65c_get_915e3, 2, some (.object "java/lang/Object")) d 0 [some (va_rf a0), some (.int a1)] [] M0 (c348 rec a0 a1 M0) := by
  unfold c348
  refine x_iload_n dJx4a65c_get_915e3_0 rfl ?_
  refine x_aload_n dJx4a65c_get_915e3_1 rfl ?_
  refine gfJx4a65c_48 rfl dJx4a65c_get_915e3_2 (fun x1 => ?_)
  refine cmJx4a65c_118 rfl hs (Nat.le_of_ble_eq_true rfl) dJx4a65c_get_915e3_5 (fun x3 M2 => ?_)
  refine x_pop dJx4a65c_get_915e3_8 (xc1_i _) ?_
  refine x_aload_n dJx4a65c_get_915e3_9 rfl ?_
  refine x_iload_n dJx4a65c_get_915e3_10 rfl ?_
  refine cmJx4a65c_123 rfl hs (Nat.le_of_ble_eq_true rfl) dJx4a65c_get_915e3_11 (fun x5 M4 => ?_)
  exact x_aret rfl rfl dJx4a65c_get_915e3_14
theorem s348 {l : Launch} {d : Nat} {rec : Nat → List Value → Mem → XA} (hS : Nonempty XS) (hs : XSnd l xmt rec d) : Snd1 l 348 (b348 rec) d := by
  intro as M r M' h0
  unfold b348 at h0
  obtain ⟨a0, l1, e1, h1⟩ := aR_inv h0
  obtain ⟨a1, l2, e2, h2⟩ := aI_inv h1
  obtain ⟨ez, h⟩ := aZ_inv h2
  subst ez
  subst e2
  subst e1
  exact xmet (M := M) (as := [va_rf a0, .int a1]) (lo := [some (va_rf a0), some (.int a1)]) 348 xq348 xm348 (by rw [xargs_rf, xargs_i, xargs_nil]; exact ⟨rfl, ⟨rfl, trivial⟩⟩) (by rw [xargs_rf, xargs_i, xargs_nil]; exact Nat.le_of_ble_eq_true rfl) (fun S G K => x_weak (by exact ⟨rfl, ⟨rfl, trivial⟩⟩) (k348 hs a0 a1 M)) h hS
set_option maxRecDepth 100000 in
def c349 (rec : Nat → List Value → Mem → XA) (a0 : Option Nat) (a1 : Option Nat) (a2 : Option Nat) (a3 : Int32) (M0 : Mem) : XA :=
  aln M0 a2 fun x1 =>
  jn (fun (s2 : Option Nat × Mem) =>
    asP 110 s2.2 s2.1 a3 a1 fun M3 =>
    ptI (0, 3) M3 a0 2 (a3 + ((1 : Int32))) fun M4 =>
    some (.null, M4)) fun j11 =>
  if a3 = x1 then (
    vC (0, 3) M0 a0 <|
    cP (rec 345 [va_rf a0] M0) fun x6 M5 =>
    j11 (x6, M5)) else (
    j11 (a2, M0))
def b349 (rec : Nat → List Value → Mem → XA) (as : List Value) (M0 : Mem) : XA := aR as fun a0 as => aR as fun a1 as => aR as fun a2 as => aI as fun a3 as => aZ as (c349 rec a0 a1 a2 a3 M0)
set_option maxRecDepth 100000 in
set_option maxHeartbeats 4000000 in
theorem k349 {S : XS} {G : XG} {K : Nat × Nat} {l : Launch} {d : Nat} {rec : Nat → List Value → Mem → XA} (hs : XSnd l xmt rec d) (a0 : Option Nat) (a1 : Option Nat) (a2 : Option Nat) (a3 : Int32) (M0 : Mem) : Xe S G K l (yJx4a65c_add_72be8, cJx4a65c_add_72be8, 4, none) d 0 [some (va_rf a0), some (va_rf a1), some (va_rf a2), some (.int a3)] [] M0 (c349 rec a0 a1 a2 a3 M0) := by
  unfold c349
  refine x_iload_n dJx4a65c_add_72be8_0 rfl ?_
  refine x_aload_n dJx4a65c_add_72be8_1 rfl ?_
  refine x_alen dJx4a65c_add_72be8_2 (fun x1 => ?_)
  refine x_jn (σ := Option Nat × Mem) 11 (fun s2 => [some (va_rf a0), some (va_rf a1), some (va_rf s2.1), some (.int a3)]) (fun s2 => []) (fun s2 => s2.2) (fun s2 => ?_) (fun j11 hj11 => ?_)
  · refine x_aload_n dJx4a65c_add_72be8_11 rfl ?_
    refine x_iload_n dJx4a65c_add_72be8_12 rfl ?_
    refine x_aload_n dJx4a65c_add_72be8_13 rfl ?_
    refine x_aast110 dJx4a65c_add_72be8_14 (fun M3 => ?_)
    refine x_aload_n dJx4a65c_add_72be8_15 rfl ?_
    refine x_iload_n dJx4a65c_add_72be8_16 rfl ?_
    refine x_iconst (v := 1) dJx4a65c_add_72be8_17 (by decide) ?_
    refine x_iadd dJx4a65c_add_72be8_18 ?_
    refine pfJx4a65c_48 rfl dJx4a65c_add_72be8_19 (fun M4 => ?_)
    exact x_vret rfl dJx4a65c_add_72be8_22
  refine x_icmp_ne (tgt := 11) dJx4a65c_add_72be8_3 (by decide) (fun _ => ?_) (fun _ => ?_)
  · refine x_aload_n dJx4a65c_add_72be8_6 rfl ?_
    refine cmJx4a65c_129 rfl hs (Nat.le_of_ble_eq_true rfl) dJx4a65c_add_72be8_7 (fun x6 M5 => ?_)
    refine x_astore_n (lo' := [some (va_rf a0), some (va_rf a1), some (va_rf x6), some (.int a3)]) dJx4a65c_add_72be8_10 (by decide) (xok_r rfl) rfl ?_
    exact x_weak (by exact ⟨rfl, ⟨rfl, ⟨rfl, ⟨rfl, trivial⟩⟩⟩⟩) (hj11 (x6, M5))
  · exact x_weak (by exact ⟨rfl, ⟨rfl, ⟨rfl, ⟨rfl, trivial⟩⟩⟩⟩) (hj11 (a2, M0))
theorem s349 {l : Launch} {d : Nat} {rec : Nat → List Value → Mem → XA} (hS : Nonempty XS) (hs : XSnd l xmt rec d) : Snd1 l 349 (b349 rec) d := by
  intro as M r M' h0
  unfold b349 at h0
  obtain ⟨a0, l1, e1, h1⟩ := aR_inv h0
  obtain ⟨a1, l2, e2, h2⟩ := aR_inv h1
  obtain ⟨a2, l3, e3, h3⟩ := aR_inv h2
  obtain ⟨a3, l4, e4, h4⟩ := aI_inv h3
  obtain ⟨ez, h⟩ := aZ_inv h4
  subst ez
  subst e4
  subst e3
  subst e2
  subst e1
  exact xmet (M := M) (as := [va_rf a0, va_rf a1, va_rf a2, .int a3]) (lo := [some (va_rf a0), some (va_rf a1), some (va_rf a2), some (.int a3)]) 349 xq349 xm349 (by rw [xargs_rf, xargs_rf, xargs_rf, xargs_i, xargs_nil]; exact ⟨rfl, ⟨rfl, ⟨rfl, ⟨rfl, trivial⟩⟩⟩⟩) (by rw [xargs_rf, xargs_rf, xargs_rf, xargs_i, xargs_nil]; exact Nat.le_of_ble_eq_true rfl) (fun S G K => x_weak (by exact ⟨rfl, ⟨rfl, ⟨rfl, ⟨rfl, trivial⟩⟩⟩⟩) (k349 hs a0 a1 a2 a3 M)) h hS
