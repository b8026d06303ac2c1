set_option maxRecDepth 100000 in
def c255 (rec : Nat → List Value → Mem → XA) (a0 : Option Nat) (a1 : Int32) (M0 : Mem) : XA :=
  gtI (13, 157) M0 a0 2 fun x1 =>
  cI (rec 184 [.int a1, .int ((0 : Int32)), .int (x1 - ((1 : Int32)))] M0) fun x3 M2 =>
  rtZ x3 M2
def b255 (rec : Nat → List Value → Mem → XA) (as : List Value) (M0 : Mem) : XA := aR as fun a0 as => aI as fun a1 as => aZ as (c255 rec a0 a1 M0)
set_option maxRecDepth 100000 in
set_option maxHeartbeats 4000000 in
theorem k255 {S : XS} {G : XG} {K : Nat × Nat} {l : Launch} {d : Nat} {rec : Nat → List Value → Mem → XA} (hs : XSnd l xmt rec d) (a0 : Option Nat) (a1 : Int32) (M0 : Mem) : Xe S G K l (yX12_isParcel, cX12_isParcel, 2, some .boolean) d 0 [some (va_rf a0), some (.int a1)] [] M0 (c255 rec a0 a1 M0) := by
  unfold c255
  refine x_iload_n dX12_isParcel_0 rfl ?_
  refine x_iconst (v := 0) dX12_isParcel_1 (by decide) ?_
  refine x_aload_n dX12_isParcel_2 rfl ?_
  refine gfX12_582 rfl dX12_isParcel_3 (fun x1 => ?_)
  refine x_iconst (v := 1) dX12_isParcel_6 (by decide) ?_
  refine x_isub dX12_isParcel_7 ?_
  refine cmX12_381 rfl hs (Nat.le_of_ble_eq_true rfl) dX12_isParcel_8 (fun x3 M2 => ?_)
  exact x_zret rfl dX12_isParcel_11
theorem s255 {l : Launch} {d : Nat} {rec : Nat → List Value → Mem → XA} (hS : Nonempty XS) (hs : XSnd l xmt rec d) : Snd1 l 255 (b255 rec) d := by
  intro as M r M' h0
  unfold b255 at h0
  obtain ⟨a0, l1, e1, h1⟩ := aR_inv h0
  obtain ⟨a1, l2, e2, h2⟩ := aI_inv h1
  obtain ⟨ez, h⟩ := aZ_inv h2
  subst ez
  subst e2
  subst e1
  exact xmet (M := M) (as := [va_rf a0, .int a1]) (lo := [some (va_rf a0), some (.int a1)]) 255 xq255 xm255 (by rw [xargs_rf, xargs_i, xargs_nil]; exact ⟨rfl, ⟨rfl, trivial⟩⟩) (by rw [xargs_rf, xargs_i, xargs_nil]; exact Nat.le_of_ble_eq_true rfl) (fun S G K => x_weak (by exact ⟨rfl, ⟨rfl, trivial⟩⟩) (k255 hs a0 a1 M)) h hS
set_option maxRecDepth 100000 in
def c256 (rec : Nat → List Value → Mem → XA) (a0 : Option Nat) (a1 : Int32) (a2 : Int32) (M0 : Mem) : XA :=
  vC (13, 157) M0 a0 <|
  cI (rec 255 [va_rf a0, .int a1] M0) fun x2 M1 =>
  jn (fun (s3 : Int32 × Mem) =>
    rtZ s3.1 s3.2) fun j29 =>
  jn (fun (s4 : Mem) =>
    j29 ((0 : Int32), s4)) fun j28 =>
  if x2 = 0 then (
    j28 M1) else (
    gtP (13, 157) M1 a0 17 fun x5 =>
    alI 100 M1 x5 a1 fun x6 =>
    cI (rec 184 [.int a2, .int ((0 : Int32)), .int (x6 - ((1 : Int32)))] M1) fun x8 M7 =>
    if x8 = 0 then (
      j28 M7) else (
      j29 ((1 : Int32), M7)))
def b256 (rec : Nat → List Value → Mem → XA) (as : List Value) (M0 : Mem) : XA := aR as fun a0 as => aI as fun a1 as => aI as fun a2 as => aZ as (c256 rec a0 a1 a2 M0)
set_option maxRecDepth 100000 in
set_option maxHeartbeats 4000000 in
theorem k256 {S : XS} {G : XG} {K : Nat × Nat} {l : Launch} {d : Nat} {rec : Nat → List Value → Mem → XA} (hs : XSnd l xmt rec d) (a0 : Option Nat) (a1 : Int32) (a2 : Int32) (M0 : Mem) : Xe S G K l (yX12_isCase, cX12_isCase, 3, some .boolean) d 0 [some (va_rf a0), some (.int a1), some (.int a2)] [] M0 (c256 rec a0 a1 a2 M0) := by
  unfold c256
  refine x_aload_n dX12_isCase_0 rfl ?_
  refine x_iload_n dX12_isCase_1 rfl ?_
  refine cmX12_735 rfl hs (Nat.le_of_ble_eq_true rfl) dX12_isCase_2 (fun x2 M1 => ?_)
  refine x_jn (σ := Int32 × Mem) 29 (fun s3 => [none, none, none]) (fun s3 => [.int s3.1]) (fun s3 => s3.2) (fun s3 => ?_) (fun j29 hj29 => ?_)
  · exact x_zret rfl dX12_isCase_29
  refine x_jn (σ := Mem) 28 (fun s4 => [none, none, none]) (fun s4 => []) (fun s4 => s4) (fun s4 => ?_) (fun j28 hj28 => ?_)
  · refine x_iconst (v := 0) dX12_isCase_28 (by decide) ?_
    exact x_weak (by exact trivial) (hj29 ((0 : Int32), s4))
  refine x_if_eq (tgt := 28) dX12_isCase_5 (by decide) (fun _ => ?_) (fun _ => ?_)
  · exact x_weak (by exact trivial) (hj28 M1)
  · refine x_iload_n dX12_isCase_8 rfl ?_
    refine x_iconst (v := 0) dX12_isCase_9 (by decide) ?_
    refine x_aload_n dX12_isCase_10 rfl ?_
    refine gfX12_58 rfl dX12_isCase_11 (fun x5 => ?_)
    refine x_iload_n dX12_isCase_14 rfl ?_
    refine x_iald dX12_isCase_15 (fun x6 => ?_)
    refine x_iconst (v := 1) dX12_isCase_16 (by decide) ?_
    refine x_isub dX12_isCase_17 ?_
    refine cmX12_381 rfl hs (Nat.le_of_ble_eq_true rfl) dX12_isCase_18 (fun x8 M7 => ?_)
    refine x_if_eq (tgt := 28) dX12_isCase_21 (by decide) (fun _ => ?_) (fun _ => ?_)
    · exact x_weak (by exact trivial) (hj28 M7)
    · refine x_iconst (v := 1) dX12_isCase_24 (by decide) ?_
      refine x_goto (tgt := 29) dX12_isCase_25 (by decide) ?_
      exact x_weak (by exact trivial) (hj29 ((1 : Int32), M7))
theorem s256 {l : Launch} {d : Nat} {rec : Nat → List Value → Mem → XA} (hS : Nonempty XS) (hs : XSnd l xmt rec d) : Snd1 l 256 (b256 rec) d := by
  intro as M r M' h0
  unfold b256 at h0
  obtain ⟨a0, l1, e1, h1⟩ := aR_inv h0
  obtain ⟨a1, l2, e2, h2⟩ := aI_inv h1
  obtain ⟨a2, l3, e3, h3⟩ := aI_inv h2
  obtain ⟨ez, h⟩ := aZ_inv h3
  subst ez
  subst e3
  subst e2
  subst e1
  exact xmet (M := M) (as := [va_rf a0, .int a1, .int a2]) (lo := [some (va_rf a0), some (.int a1), some (.int a2)]) 256 xq256 xm256 (by rw [xargs_rf, xargs_i, xargs_i, xargs_nil]; exact ⟨rfl, ⟨rfl, ⟨rfl, trivial⟩⟩⟩) (by rw [xargs_rf, xargs_i, xargs_i, xargs_nil]; exact Nat.le_of_ble_eq_true rfl) (fun S G K => x_weak (by exact ⟨rfl, ⟨rfl, ⟨rfl, trivial⟩⟩⟩) (k256 hs a0 a1 a2 M)) h hS
set_option maxRecDepth 100000 in
def c257_83 (rec : Nat → List Value → Mem → XA) (a0 : Option Nat) (a1 : Int32) (j203 : Int32 × Mem → XA) : (Int32 × Int32 × Mem) → ((Int32 × Int32 × Mem) → XA) → XA := fun s14 j83 =>
  gtP (13, 157) s14.2.2 a0 17 fun x15 =>
  alI 100 s14.2.2 x15 a1 fun x16 =>
  if x16 ≤ s14.2.1 then (
    j203 (s14.1, s14.2.2)) else (
    gtP (13, 157) s14.2.2 a0 24 fun x17 =>
    alI 100 s14.2.2 x17 ((((16 : Int32)) * a1) + s14.2.1) fun x18 =>
    ptI (13, 157) s14.2.2 a0 93 s14.2.1 fun M19 =>
    vC (13, 157) M19 a0 <|
    cV (rec 254 [va_rf a0, .int x18] M19) fun M20 =>
    gtP (13, 157) M20 a0 105 fun x21 =>
    gtI (13, 157) M20 a0 101 fun x22 =>
    asI 100 M20 x21 ((((16 : Int32)) * a1) + x18) x22 fun M23 =>
    gtP (13, 157) M23 a0 106 fun x24 =>
    gtI (13, 157) M23 a0 102 fun x25 =>
    asI 100 M23 x24 ((((16 : Int32)) * a1) + x18) x25 fun M26 =>
    gtP (13, 157) M26 a0 107 fun x27 =>
    gtI (13, 157) M26 a0 103 fun x28 =>
    asI 100 M26 x27 ((((16 : Int32)) * a1) + x18) x28 fun M29 =>
    gtP (13, 157) M29 a0 108 fun x30 =>
    gtI (13, 157) M29 a0 81 fun x31 =>
    asI 100 M29 x30 ((((16 : Int32)) * a1) + x18) x31 fun M32 =>
    gtI (13, 157) M32 a0 101 fun x33 =>
    jn (fun (s34 : Int32) =>
      lt (s14.1 + s34) fun (x35 : Int32) =>
      lt (s14.2.1 + (1 : Int32)) fun (x36 : Int32) =>
      j83 (x35, x36, M32)) fun j195 =>
    if x33 = ((1 : Int32)) then (
      j195 ((1 : Int32))) else (
      j195 ((0 : Int32))))
set_option maxRecDepth 100000 in
def c257_16 (rec : Nat → List Value → Mem → XA) (a0 : Option Nat) (a1 : Int32) (j59 : Mem → XA) : (Int32 × Mem) → ((Int32 × Mem) → XA) → XA := fun s37 j16 =>
  gtP (13, 157) s37.2 a0 29 fun x38 =>
  alI 100 s37.2 x38 a1 fun x39 =>
  if ((((1000 : Int32)) * a1) + x39) ≤ s37.1 then (
    j59 s37.2) else (
    gtP (13, 157) s37.2 a0 94 fun x40 =>
    asI 100 s37.2 x40 s37.1 (((0 : Int32))) fun M41 =>
    gtP (13, 157) M41 a0 95 fun x42 =>
    asI 100 M41 x42 s37.1 (((0 : Int32))) fun M43 =>
    gtP (13, 157) M43 a0 96 fun x44 =>
    asI 100 M43 x44 s37.1 (((-1 : Int32))) fun M45 =>
    lt (s37.1 + (1 : Int32)) fun (x46 : Int32) =>
    j16 (x46, M45))
set_option maxRecDepth 100000 in
def c257 (rec : Nat → List Value → Mem → XA) (a0 : Option Nat) (a1 : Int32) (M0 : Mem) : XA :=
  vC (13, 157) M0 a0 <|
  cI (rec 255 [va_rf a0, .int a1] M0) fun x2 M1 =>
  if x2 = 0 then (
    some (.int ((-1 : Int32)), M1)) else (
    lt (((1000 : Int32)) * a1) fun (x3 : Int32) =>
    jn (fun (s4 : Mem) =>
      vC (13, 157) s4 a0 <|
      cV (rec 235 [va_rf a0, .int a1, .int ((-1 : Int32))] s4) fun M5 =>
      vC (13, 157) M5 a0 <|
      cV (rec 278 [va_rf a0] M5) fun M6 =>
      ptI (13, 157) M6 a0 83 ((-1 : Int32)) fun M7 =>
      ptZ (13, 157) M7 a0 91 ((1 : Int32)) fun M8 =>
      jn (fun (s9 : Int32 × Mem) =>
        ptZ (13, 157) s9.2 a0 91 ((0 : Int32)) fun M10 =>
        ptZ (13, 157) M10 a0 92 ((0 : Int32)) fun M11 =>
        gtP (13, 157) M11 a0 104 fun x12 =>
        asI 102 M11 x12 a1 ((znar ((1 : Int32)))) fun M13 =>
        some (.int s9.1, M13)) fun j203 =>
      lp (c257_83 rec a0 a1 j203) 4294967296 ((0 : Int32), (0 : Int32), M8)) fun j59 =>
    lp (c257_16 rec a0 a1 j59) 4294967296 (x3, M1))
def b257 (rec : Nat → List Value → Mem → XA) (as : List Value) (M0 : Mem) : XA := aR as fun a0 as => aI as fun a1 as => aZ as (c257 rec a0 a1 M0)
set_option maxRecDepth 100000 in
set_option maxHeartbeats 4000000 in
theorem k257 {S : XS} {G : XG} {K : Nat × Nat} {l : Launch} {d : Nat} {rec : Nat → List Value → Mem → XA} (hs : XSnd l xmt rec d) (a0 : Option Nat) (a1 : Int32) (M0 : Mem) : Xe S G K l (yX12_run, cX12_run, 5, some .int) d 0 [some (va_rf a0), some (.int a1), none, none, none] [] M0 (c257 rec a0 a1 M0) := by
  unfold c257
  refine x_aload_n dX12_run_0 rfl ?_
  refine x_iload_n dX12_run_1 rfl ?_
  refine cmX12_735 rfl hs (Nat.le_of_ble_eq_true rfl) dX12_run_2 (fun x2 M1 => ?_)
  refine x_if_ne (tgt := 10) dX12_run_5 (by decide) (fun _ => ?_) (fun _ => ?_)
  · refine x_iconst (v := -1) dX12_run_8 (by decide) ?_
    exact x_iret rfl dX12_run_9
  · refine x_sipush (v := 1000) dX12_run_10 (by decide) ?_
    refine x_iload_n dX12_run_13 rfl ?_
    refine x_imul dX12_run_14 ?_
    refine x_ltI (fun x3 => ?_)
    refine x_istore_n (lo' := [some (va_rf a0), some (.int a1), some (.int x3), none, none]) dX12_run_15 (by decide) rfl rfl ?_
    refine x_jn (σ := Mem) 59 (fun s4 => [some (va_rf a0), some (.int a1), none, none, none]) (fun s4 => []) (fun s4 => s4) (fun s4 => ?_) (fun j59 hj59 => ?_)
    · refine x_aload_n dX12_run_59 rfl ?_
      refine x_iload_n dX12_run_60 rfl ?_
      refine x_iconst (v := -1) dX12_run_61 (by decide) ?_
      refine cmX12_738 rfl hs (Nat.le_of_ble_eq_true rfl) dX12_run_62 (fun M5 => ?_)
      refine x_aload_n dX12_run_65 rfl ?_
      refine cmX12_741 rfl hs (Nat.le_of_ble_eq_true rfl) dX12_run_66 (fun M6 => ?_)
      refine x_aload_n dX12_run_69 rfl ?_
      refine x_iconst (v := -1) dX12_run_70 (by decide) ?_
      refine pfX12_644 rfl dX12_run_71 (fun M7 => ?_)
      refine x_aload_n dX12_run_74 rfl ?_
      refine x_iconst (v := 1) dX12_run_75 (by decide) ?_
      refine pfX12_653 rfl dX12_run_76 (fun M8 => ?_)
      refine x_iconst (v := 0) dX12_run_79 (by decide) ?_
      refine x_istore_n (lo' := [some (va_rf a0), some (.int a1), some (.int ((0 : Int32))), none, none]) dX12_run_80 (by decide) rfl rfl ?_
      refine x_iconst (v := 0) dX12_run_81 (by decide) ?_
      refine x_istore_n (lo' := [some (va_rf a0), some (.int a1), some (.int ((0 : Int32))), some (.int ((0 : Int32))), none]) dX12_run_82 (by decide) rfl rfl ?_
      refine x_jn (σ := Int32 × Mem) 203 (fun s9 => [some (va_rf a0), some (.int a1), some (.int s9.1), none, none]) (fun s9 => []) (fun s9 => s9.2) (fun s9 => ?_) (fun j203 hj203 => ?_)
      · refine x_aload_n dX12_run_203 rfl ?_
        refine x_iconst (v := 0) dX12_run_204 (by decide) ?_
        refine pfX12_653 rfl dX12_run_205 (fun M10 => ?_)
        refine x_aload_n dX12_run_208 rfl ?_
        refine x_iconst (v := 0) dX12_run_209 (by decide) ?_
        refine pfX12_711 rfl dX12_run_210 (fun M11 => ?_)
        refine x_aload_n dX12_run_213 rfl ?_
        refine gfX12_264 rfl dX12_run_214 (fun x12 => ?_)
        refine x_iload_n dX12_run_217 rfl ?_
        refine x_iconst (v := 1) dX12_run_218 (by decide) ?_
        refine x_zast dX12_run_219 (fun M13 => ?_)
        refine x_iload_n dX12_run_220 rfl ?_
        exact x_iret rfl dX12_run_221
      refine x_weak (by exact ⟨rfl, ⟨rfl, ⟨rfl, ⟨rfl, trivial⟩⟩⟩⟩) (x_lp (σ := Int32 × Int32 × Mem) 83 (fun s14 => [some (va_rf a0), some (.int a1), some (.int s14.1), some (.int s14.2.1), none]) (fun s14 => []) (fun s14 => s14.2.2) (fun s14 j83 hj83 => ?_) 4294967296 ((0 : Int32), (0 : Int32), M8))
      · refine x_iload_n dX12_run_83 rfl ?_
        refine x_aload_n dX12_run_84 rfl ?_
        refine gfX12_58 rfl dX12_run_85 (fun x15 => ?_)
        refine x_iload_n dX12_run_88 rfl ?_
        refine x_iald dX12_run_89 (fun x16 => ?_)
        refine x_icmp_ge (tgt := 203) dX12_run_90 (by decide) (fun _ => ?_) (fun _ => ?_)
        · exact x_weak (by exact ⟨rfl, ⟨rfl, ⟨rfl, trivial⟩⟩⟩) (hj203 (s14.1, s14.2.2))
        · refine x_aload_n dX12_run_93 rfl ?_
          refine gfX12_79 rfl dX12_run_94 (fun x17 => ?_)
          refine x_bipush (v := 16) dX12_run_97 (by decide) ?_
          refine x_iload_n dX12_run_99 rfl ?_
          refine x_imul dX12_run_100 ?_
          refine x_iload_n dX12_run_101 rfl ?_
          refine x_iadd dX12_run_102 ?_
          refine x_iald dX12_run_103 (fun x18 => ?_)
          refine x_istore (lo' := [some (va_rf a0), some (.int a1), some (.int s14.1), some (.int s14.2.1), some (.int x18)]) dX12_run_104 (by decide) rfl rfl ?_
          refine x_aload_n dX12_run_106 rfl ?_
          refine x_iload_n dX12_run_107 rfl ?_
          refine pfX12_656 rfl dX12_run_108 (fun M19 => ?_)
          refine x_aload_n dX12_run_111 rfl ?_
          refine x_iload dX12_run_112 rfl ?_
          refine cmX12_744 rfl hs (Nat.le_of_ble_eq_true rfl) dX12_run_114 (fun M20 => ?_)
          refine x_aload_n dX12_run_117 rfl ?_
          refine gfX12_267 rfl dX12_run_118 (fun x21 => ?_)
          refine x_bipush (v := 16) dX12_run_121 (by decide) ?_
          refine x_iload_n dX12_run_123 rfl ?_
          refine x_imul dX12_run_124 ?_
          refine x_iload dX12_run_125 rfl ?_
          refine x_iadd dX12_run_127 ?_
          refine x_aload_n dX12_run_128 rfl ?_
          refine gfX12_717 rfl dX12_run_129 (fun x22 => ?_)
          refine x_iast dX12_run_132 (fun M23 => ?_)
          refine x_aload_n dX12_run_133 rfl ?_
          refine gfX12_270 rfl dX12_run_134 (fun x24 => ?_)
          refine x_bipush (v := 16) dX12_run_137 (by decide) ?_
          refine x_iload_n dX12_run_139 rfl ?_
          refine x_imul dX12_run_140 ?_
          refine x_iload dX12_run_141 rfl ?_
          refine x_iadd dX12_run_143 ?_
          refine x_aload_n dX12_run_144 rfl ?_
          refine gfX12_720 rfl dX12_run_145 (fun x25 => ?_)
          refine x_iast dX12_run_148 (fun M26 => ?_)
          refine x_aload_n dX12_run_149 rfl ?_
          refine gfX12_273 rfl dX12_run_150 (fun x27 => ?_)
          refine x_bipush (v := 16) dX12_run_153 (by decide) ?_
          refine x_iload_n dX12_run_155 rfl ?_
          refine x_imul dX12_run_156 ?_
          refine x_iload dX12_run_157 rfl ?_
          refine x_iadd dX12_run_159 ?_
          refine x_aload_n dX12_run_160 rfl ?_
          refine gfX12_723 rfl dX12_run_161 (fun x28 => ?_)
          refine x_iast dX12_run_164 (fun M29 => ?_)
          refine x_aload_n dX12_run_165 rfl ?_
          refine gfX12_276 rfl dX12_run_166 (fun x30 => ?_)
          refine x_bipush (v := 16) dX12_run_169 (by decide) ?_
          refine x_iload_n dX12_run_171 rfl ?_
          refine x_imul dX12_run_172 ?_
          refine x_iload dX12_run_173 rfl ?_
          refine x_iadd dX12_run_175 ?_
          refine x_aload_n dX12_run_176 rfl ?_
          refine gfX12_650 rfl dX12_run_177 (fun x31 => ?_)
          refine x_iast dX12_run_180 (fun M32 => ?_)
          refine x_iload_n dX12_run_181 rfl ?_
          refine x_aload_n dX12_run_182 rfl ?_
          refine gfX12_717 rfl dX12_run_183 (fun x33 => ?_)
          refine x_iconst (v := 1) dX12_run_186 (by decide) ?_
          refine x_jn (σ := Int32) 195 (fun s34 => [some (va_rf a0), some (.int a1), none, some (.int s14.2.1), none]) (fun s34 => [.int s34, .int s14.1]) (fun s34 => M32) (fun s34 => ?_) (fun j195 hj195 => ?_)
          · refine x_iadd dX12_run_195 ?_
            refine x_ltI (fun x35 => ?_)
            refine x_istore_n (lo' := [some (va_rf a0), some (.int a1), some (.int x35), some (.int s14.2.1), none]) dX12_run_196 (by decide) rfl rfl ?_
            refine x_iincN (v := 1) (lo' := fun x36 => [some (va_rf a0), some (.int a1), some (.int x35), some (.int x36), none]) (by decide) dX12_run_197 rfl (by decide) rfl (fun _ => rfl) (fun x36 => ?_)
            refine x_goto (tgt := 83) dX12_run_200 (by decide) ?_
            exact x_weak (by exact ⟨rfl, ⟨rfl, ⟨rfl, ⟨rfl, trivial⟩⟩⟩⟩) (hj83 (x35, x36, M32))
          refine x_icmp_ne (tgt := 194) dX12_run_187 (by decide) (fun _ => ?_) (fun _ => ?_)
          · refine x_iconst (v := 1) dX12_run_190 (by decide) ?_
            refine x_goto (tgt := 195) dX12_run_191 (by decide) ?_
            exact x_weak (by exact ⟨rfl, ⟨rfl, ⟨rfl, trivial⟩⟩⟩) (hj195 ((1 : Int32)))
          · refine x_iconst (v := 0) dX12_run_194 (by decide) ?_
            exact x_weak (by exact ⟨rfl, ⟨rfl, ⟨rfl, trivial⟩⟩⟩) (hj195 ((0 : Int32)))
    refine x_weak (by exact ⟨rfl, ⟨rfl, ⟨rfl, trivial⟩⟩⟩) (x_lp (σ := Int32 × Mem) 16 (fun s37 => [some (va_rf a0), some (.int a1), some (.int s37.1), none, none]) (fun s37 => []) (fun s37 => s37.2) (fun s37 j16 hj16 => ?_) 4294967296 (x3, M1))
    · refine x_iload_n dX12_run_16 rfl ?_
      refine x_sipush (v := 1000) dX12_run_17 (by decide) ?_
      refine x_iload_n dX12_run_20 rfl ?_
      refine x_imul dX12_run_21 ?_
      refine x_aload_n dX12_run_22 rfl ?_
      refine gfX12_94 rfl dX12_run_23 (fun x38 => ?_)
      refine x_iload_n dX12_run_26 rfl ?_
      refine x_iald dX12_run_27 (fun x39 => ?_)
      refine x_iadd dX12_run_28 ?_
      refine x_icmp_ge (tgt := 59) dX12_run_29 (by decide) (fun _ => ?_) (fun _ => ?_)
      · exact x_weak (by exact ⟨rfl, ⟨rfl, trivial⟩⟩) (hj59 s37.2)
      · refine x_aload_n dX12_run_32 rfl ?_
        refine gfX12_249 rfl dX12_run_33 (fun x40 => ?_)
        refine x_iload_n dX12_run_36 rfl ?_
        refine x_iconst (v := 0) dX12_run_37 (by decide) ?_
        refine x_iast dX12_run_38 (fun M41 => ?_)
        refine x_aload_n dX12_run_39 rfl ?_
        refine gfX12_252 rfl dX12_run_40 (fun x42 => ?_)
        refine x_iload_n dX12_run_43 rfl ?_
        refine x_iconst (v := 0) dX12_run_44 (by decide) ?_
        refine x_iast dX12_run_45 (fun M43 => ?_)
        refine x_aload_n dX12_run_46 rfl ?_
        refine gfX12_255 rfl dX12_run_47 (fun x44 => ?_)
        refine x_iload_n dX12_run_50 rfl ?_
        refine x_iconst (v := -1) dX12_run_51 (by decide) ?_
        refine x_iast dX12_run_52 (fun M45 => ?_)
        refine x_iincN (v := 1) (lo' := fun x46 => [some (va_rf a0), some (.int a1), some (.int x46), none, none]) (by decide) dX12_run_53 rfl (by decide) rfl (fun _ => rfl) (fun x46 => ?_)
        refine x_goto (tgt := 16) dX12_run_56 (by decide) ?_
        exact x_weak (by exact ⟨rfl, ⟨rfl, ⟨rfl, trivial⟩⟩⟩) (hj16 (x46, M45))
theorem s257 {l : Launch} {d : Nat} {rec : Nat → List Value → Mem → XA} (hS : Nonempty XS) (hs : XSnd l xmt rec d) : Snd1 l 257 (b257 rec) d := by
  intro as M r M' h0
  unfold b257 at h0
  obtain ⟨a0, l1, e1, h1⟩ := aR_inv h0
  obtain ⟨a1, l2, e2, h2⟩ := aI_inv h1
  obtain ⟨ez, h⟩ := aZ_inv h2
  subst ez
  subst e2
  subst e1
  exact xmet (M := M) (as := [va_rf a0, .int a1]) (lo := [some (va_rf a0), some (.int a1)]) 257 xq257 xm257 (by rw [xargs_rf, xargs_i, xargs_nil]; exact ⟨rfl, ⟨rfl, trivial⟩⟩) (by rw [xargs_rf, xargs_i, xargs_nil]; exact Nat.le_of_ble_eq_true rfl) (fun S G K => x_weak (by exact ⟨rfl, ⟨rfl, trivial⟩⟩) (k257 hs a0 a1 M)) h hS
set_option maxRecDepth 100000 in
def c258 (rec : Nat → List Value → Mem → XA) (a0 : Option Nat) (a1 : Int32) (a2 : Int32) (a3 : Int32) (M0 : Mem) : XA :=
  vC (13, 157) M0 a0 <|
  cI (rec 256 [va_rf a0, .int a1, .int a2] M0) fun x2 M1 =>
  jn (fun (s3 : Mem) =>
    some (.int ((-1 : Int32)), s3)) fun j18 =>
  if x2 = 0 then (
    j18 M1) else (
    cI (rec 184 [.int a3, .int ((0 : Int32)), .int ((3 : Int32))] M1) fun x5 M4 =>
    if x5 = 0 then (
      j18 M4) else (
      gtP (13, 157) M4 a0 104 fun x6 =>
      alX 102 M4 x6 a1 fun x7 =>
      if x7 = 0 then (
        some (.int ((-2 : Int32)), M4)) else (
        lt ((((16 : Int32)) * a1) + a2) fun (x8 : Int32) =>
        jn (fun (s9 : Int32) =>
          some (.int s9, M4)) fun j91 =>
        if a3 = 0 then (
          gtP (13, 157) M4 a0 105 fun x10 =>
          alI 100 M4 x10 x8 fun x11 =>
          j91 x11) else (
          if a3 = ((1 : Int32)) then (
            gtP (13, 157) M4 a0 106 fun x12 =>
            alI 100 M4 x12 x8 fun x13 =>
            j91 x13) else (
            if a3 = ((2 : Int32)) then (
              gtP (13, 157) M4 a0 107 fun x14 =>
              alI 100 M4 x14 x8 fun x15 =>
              j91 x15) else (
              gtP (13, 157) M4 a0 108 fun x16 =>
              alI 100 M4 x16 x8 fun x17 =>
              j91 x17))))))
def b258 (rec : Nat → List Value → Mem → XA) (as : List Value) (M0 : Mem) : XA := aR as fun a0 as => aI as fun a1 as => aI as fun a2 as => aI as fun a3 as => aZ as (c258 rec a0 a1 a2 a3 M0)
set_option maxRecDepth 100000 in
set_option maxHeartbeats 4000000 in
theorem k258 {S : XS} {G : XG} {K : Nat × Nat} {l : Launch} {d : Nat} {rec : Nat → List Value → Mem → XA} (hs : XSnd l xmt rec d) (a0 : Option Nat) (a1 : Int32) (a2 : Int32) (a3 : Int32) (M0 : Mem) : Xe S G K l (yX12_verdict, cX12_verdict, 5, some .int) d 0 [some (va_rf a0), some (.int a1), some (.int a2), some (.int a3), none] [] M0 (c258 rec a0 a1 a2 a3 M0) := by
  unfold c258
  refine x_aload_n dX12_verdict_0 rfl ?_
  refine x_iload_n dX12_verdict_1 rfl ?_
  refine x_iload_n dX12_verdict_2 rfl ?_
  refine cmX12_747 rfl hs (Nat.le_of_ble_eq_true rfl) dX12_verdict_3 (fun x2 M1 => ?_)
  refine x_jn (σ := Mem) 18 (fun s3 => [none, none, none, none, none]) (fun s3 => []) (fun s3 => s3) (fun s3 => ?_) (fun j18 hj18 => ?_)
  · refine x_iconst (v := -1) dX12_verdict_18 (by decide) ?_
    exact x_iret rfl dX12_verdict_19
  refine x_if_eq (tgt := 18) dX12_verdict_6 (by decide) (fun _ => ?_) (fun _ => ?_)
  · exact x_weak (by exact trivial) (hj18 M1)
  · refine x_iload_n dX12_verdict_9 rfl ?_
    refine x_iconst (v := 0) dX12_verdict_10 (by decide) ?_
    refine x_iconst (v := 3) dX12_verdict_11 (by decide) ?_
    refine cmX12_381 rfl hs (Nat.le_of_ble_eq_true rfl) dX12_verdict_12 (fun x5 M4 => ?_)
    refine x_if_ne (tgt := 20) dX12_verdict_15 (by decide) (fun _ => ?_) (fun _ => ?_)
    · exact x_weak (by exact trivial) (hj18 M4)
    · refine x_aload_n dX12_verdict_20 rfl ?_
      refine gfX12_264 rfl dX12_verdict_21 (fun x6 => ?_)
      refine x_iload_n dX12_verdict_24 rfl ?_
      refine x_zald dX12_verdict_25 (fun x7 => ?_)
      refine x_if_ne (tgt := 32) dX12_verdict_26 (by decide) (fun _ => ?_) (fun _ => ?_)
      · refine x_bipush (v := -2) dX12_verdict_29 (by decide) ?_
        exact x_iret rfl dX12_verdict_31
      · refine x_bipush (v := 16) dX12_verdict_32 (by decide) ?_
        refine x_iload_n dX12_verdict_34 rfl ?_
        refine x_imul dX12_verdict_35 ?_
        refine x_iload_n dX12_verdict_36 rfl ?_
        refine x_iadd dX12_verdict_37 ?_
        refine x_ltI (fun x8 => ?_)
        refine x_istore (lo' := [some (va_rf a0), some (.int a1), some (.int a2), some (.int a3), some (.int x8)]) dX12_verdict_38 (by decide) rfl rfl ?_
        refine x_iload_n dX12_verdict_40 rfl ?_
        refine x_jn (σ := Int32) 91 (fun s9 => [none, none, none, none, none]) (fun s9 => [.int s9]) (fun s9 => M4) (fun s9 => ?_) (fun j91 hj91 => ?_)
        · exact x_iret rfl dX12_verdict_91
        refine x_if_ne (tgt := 54) dX12_verdict_41 (by decide) (fun _ => ?_) (fun _ => ?_)
        · refine x_aload_n dX12_verdict_44 rfl ?_
          refine gfX12_267 rfl dX12_verdict_45 (fun x10 => ?_)
          refine x_iload dX12_verdict_48 rfl ?_
          refine x_iald dX12_verdict_50 (fun x11 => ?_)
          refine x_goto (tgt := 91) dX12_verdict_51 (by decide) ?_
          exact x_weak (by exact trivial) (hj91 x11)
        · refine x_iload_n dX12_verdict_54 rfl ?_
          refine x_iconst (v := 1) dX12_verdict_55 (by decide) ?_
          refine x_icmp_ne (tgt := 69) dX12_verdict_56 (by decide) (fun _ => ?_) (fun _ => ?_)
          · refine x_aload_n dX12_verdict_59 rfl ?_
            refine gfX12_270 rfl dX12_verdict_60 (fun x12 => ?_)
            refine x_iload dX12_verdict_63 rfl ?_
            refine x_iald dX12_verdict_65 (fun x13 => ?_)
            refine x_goto (tgt := 91) dX12_verdict_66 (by decide) ?_
            exact x_weak (by exact trivial) (hj91 x13)
          · refine x_iload_n dX12_verdict_69 rfl ?_
            refine x_iconst (v := 2) dX12_verdict_70 (by decide) ?_
            refine x_icmp_ne (tgt := 84) dX12_verdict_71 (by decide) (fun _ => ?_) (fun _ => ?_)
            · refine x_aload_n dX12_verdict_74 rfl ?_
              refine gfX12_273 rfl dX12_verdict_75 (fun x14 => ?_)
              refine x_iload dX12_verdict_78 rfl ?_
              refine x_iald dX12_verdict_80 (fun x15 => ?_)
              refine x_goto (tgt := 91) dX12_verdict_81 (by decide) ?_
              exact x_weak (by exact trivial) (hj91 x15)
            · refine x_aload_n dX12_verdict_84 rfl ?_
              refine gfX12_276 rfl dX12_verdict_85 (fun x16 => ?_)
              refine x_iload dX12_verdict_88 rfl ?_
              refine x_iald dX12_verdict_90 (fun x17 => ?_)
              exact x_weak (by exact trivial) (hj91 x17)
theorem s258 {l : Launch} {d : Nat} {rec : Nat → List Value → Mem → XA} (hS : Nonempty XS) (hs : XSnd l xmt rec d) : Snd1 l 258 (b258 rec) d := by
  intro as M r M' h0
  unfold b258 at h0
  obtain ⟨a0, l1, e1, h1⟩ := aR_inv h0
  obtain ⟨a1, l2, e2, h2⟩ := aI_inv h1
  obtain ⟨a2, l3, e3, h3⟩ := aI_inv h2
  obtain ⟨a3, l4, e4, h4⟩ := aI_inv h3
  obtain ⟨ez, h⟩ := aZ_inv h4
  subst ez
  subst e4
  subst e3
  subst e2
  subst e1
  exact xmet (M := M) (as := [va_rf a0, .int a1, .int a2, .int a3]) (lo := [some (va_rf a0), some (.int a1), some (.int a2), some (.int a3)]) 258 xq258 xm258 (by rw [xargs_rf, xargs_i, xargs_i, xargs_i, xargs_nil]; exact ⟨rfl, ⟨rfl, ⟨rfl, ⟨rfl, trivial⟩⟩⟩⟩) (by rw [xargs_rf, xargs_i, xargs_i, xargs_i, xargs_nil]; exact Nat.le_of_ble_eq_true rfl) (fun S G K => x_weak (by exact ⟨rfl, ⟨rfl, ⟨rfl, ⟨rfl, trivial⟩⟩⟩⟩) (k258 hs a0 a1 a2 a3 M)) h hS
set_option maxRecDepth 100000 in
def c259 (rec : Nat → List Value → Mem → XA) (a0 : Option Nat) (a1 : Int32) (a2 : Int32) (a3 : Int32) (M0 : Mem) : XA :=
  vC (13, 157) M0 a0 <|
  cI (rec 255 [va_rf a0, .int a1] M0) fun x2 M1 =>
  jn (fun (s3 : Mem) =>
    some (.int ((-1 : Int32)), s3)) fun j33 =>
  if x2 = 0 then (
    j33 M1) else (
    gtP (13, 157) M1 a0 29 fun x4 =>
    alI 100 M1 x4 a1 fun x5 =>
    cI (rec 184 [.int a2, .int ((0 : Int32)), .int (x5 - ((1 : Int32)))] M1) fun x7 M6 =>
    if x7 = 0 then (
      j33 M6) else (
      cI (rec 184 [.int a3, .int ((0 : Int32)), .int ((1 : Int32))] M6) fun x9 M8 =>
      if x9 = 0 then (
        j33 M8) else (
        gtP (13, 157) M8 a0 104 fun x10 =>
        alX 102 M8 x10 a1 fun x11 =>
        jn (fun (s12 : Int32) =>
          some (.int s12, M8)) fun j80 =>
        if x11 = 0 then (
          j80 ((-2 : Int32))) else (
          if a3 = 0 then (
            gtP (13, 157) M8 a0 94 fun x13 =>
            alI 100 M8 x13 ((((1000 : Int32)) * a1) + a2) fun x14 =>
            j80 x14) else (
            gtP (13, 157) M8 a0 95 fun x15 =>
            alI 100 M8 x15 ((((1000 : Int32)) * a1) + a2) fun x16 =>
            j80 x16)))))
def b259 (rec : Nat → List Value → Mem → XA) (as : List Value) (M0 : Mem) : XA := aR as fun a0 as => aI as fun a1 as => aI as fun a2 as => aI as fun a3 as => aZ as (c259 rec a0 a1 a2 a3 M0)
set_option maxRecDepth 100000 in
set_option maxHeartbeats 4000000 in
theorem k259 {S : XS} {G : XG} {K : Nat × Nat} {l : Launch} {d : Nat} {rec : Nat → List Value → Mem → XA} (hs : XSnd l xmt rec d) (a0 : Option Nat) (a1 : Int32) (a2 : Int32) (a3 : Int32) (M0 : Mem) : Xe S G K l (yX12_cover, cX12_cover, 4, some .int) d 0 [some (va_rf a0), some (.int a1), some (.int a2), some (.int a3)] [] M0 (c259 rec a0 a1 a2 a3 M0) := by
  unfold c259
  refine x_aload_n dX12_cover_0 rfl ?_
  refine x_iload_n dX12_cover_1 rfl ?_
  refine cmX12_735 rfl hs (Nat.le_of_ble_eq_true rfl) dX12_cover_2 (fun x2 M1 => ?_)
  refine x_jn (σ := Mem) 33 (fun s3 => [none, none, none, none]) (fun s3 => []) (fun s3 => s3) (fun s3 => ?_) (fun j33 hj33 => ?_)
  · refine x_iconst (v := -1) dX12_cover_33 (by decide) ?_
    exact x_iret rfl dX12_cover_34
  refine x_if_eq (tgt := 33) dX12_cover_5 (by decide) (fun _ => ?_) (fun _ => ?_)
  · exact x_weak (by exact trivial) (hj33 M1)
  · refine x_iload_n dX12_cover_8 rfl ?_
    refine x_iconst (v := 0) dX12_cover_9 (by decide) ?_
    refine x_aload_n dX12_cover_10 rfl ?_
    refine gfX12_94 rfl dX12_cover_11 (fun x4 => ?_)
    refine x_iload_n dX12_cover_14 rfl ?_
    refine x_iald dX12_cover_15 (fun x5 => ?_)
    refine x_iconst (v := 1) dX12_cover_16 (by decide) ?_
    refine x_isub dX12_cover_17 ?_
    refine cmX12_381 rfl hs (Nat.le_of_ble_eq_true rfl) dX12_cover_18 (fun x7 M6 => ?_)
    refine x_if_eq (tgt := 33) dX12_cover_21 (by decide) (fun _ => ?_) (fun _ => ?_)
    · exact x_weak (by exact trivial) (hj33 M6)
    · refine x_iload_n dX12_cover_24 rfl ?_
      refine x_iconst (v := 0) dX12_cover_25 (by decide) ?_
      refine x_iconst (v := 1) dX12_cover_26 (by decide) ?_
      refine cmX12_381 rfl hs (Nat.le_of_ble_eq_true rfl) dX12_cover_27 (fun x9 M8 => ?_)
      refine x_if_ne (tgt := 35) dX12_cover_30 (by decide) (fun _ => ?_) (fun _ => ?_)
      · exact x_weak (by exact trivial) (hj33 M8)
      · refine x_aload_n dX12_cover_35 rfl ?_
        refine gfX12_264 rfl dX12_cover_36 (fun x10 => ?_)
        refine x_iload_n dX12_cover_39 rfl ?_
        refine x_zald dX12_cover_40 (fun x11 => ?_)
        refine x_jn (σ := Int32) 80 (fun s12 => [none, none, none, none]) (fun s12 => [.int s12]) (fun s12 => M8) (fun s12 => ?_) (fun j80 hj80 => ?_)
        · exact x_iret rfl dX12_cover_80
        refine x_if_ne (tgt := 49) dX12_cover_41 (by decide) (fun _ => ?_) (fun _ => ?_)
        · refine x_bipush (v := -2) dX12_cover_44 (by decide) ?_
          refine x_goto (tgt := 80) dX12_cover_46 (by decide) ?_
          exact x_weak (by exact trivial) (hj80 ((-2 : Int32)))
        · refine x_iload_n dX12_cover_49 rfl ?_
          refine x_if_ne (tgt := 68) dX12_cover_50 (by decide) (fun _ => ?_) (fun _ => ?_)
          · refine x_aload_n dX12_cover_53 rfl ?_
            refine gfX12_249 rfl dX12_cover_54 (fun x13 => ?_)
            refine x_sipush (v := 1000) dX12_cover_57 (by decide) ?_
            refine x_iload_n dX12_cover_60 rfl ?_
            refine x_imul dX12_cover_61 ?_
            refine x_iload_n dX12_cover_62 rfl ?_
            refine x_iadd dX12_cover_63 ?_
            refine x_iald dX12_cover_64 (fun x14 => ?_)
            refine x_goto (tgt := 80) dX12_cover_65 (by decide) ?_
            exact x_weak (by exact trivial) (hj80 x14)
          · refine x_aload_n dX12_cover_68 rfl ?_
            refine gfX12_252 rfl dX12_cover_69 (fun x15 => ?_)
            refine x_sipush (v := 1000) dX12_cover_72 (by decide) ?_
            refine x_iload_n dX12_cover_75 rfl ?_
            refine x_imul dX12_cover_76 ?_
            refine x_iload_n dX12_cover_77 rfl ?_
            refine x_iadd dX12_cover_78 ?_
            refine x_iald dX12_cover_79 (fun x16 => ?_)
            exact x_weak (by exact trivial) (hj80 x16)
theorem s259 {l : Launch} {d : Nat} {rec : Nat → List Value → Mem → XA} (hS : Nonempty XS) (hs : XSnd l xmt rec d) : Snd1 l 259 (b259 rec) d := by
  intro as M r M' h0
  unfold b259 at h0
  obtain ⟨a0, l1, e1, h1⟩ := aR_inv h0
  obtain ⟨a1, l2, e2, h2⟩ := aI_inv h1
  obtain ⟨a2, l3, e3, h3⟩ := aI_inv h2
  obtain ⟨a3, l4, e4, h4⟩ := aI_inv h3
  obtain ⟨ez, h⟩ := aZ_inv h4
  subst ez
  subst e4
  subst e3
  subst e2
  subst e1
  exact xmet (M := M) (as := [va_rf a0, .int a1, .int a2, .int a3]) (lo := [some (va_rf a0), some (.int a1), some (.int a2), some (.int a3)]) 259 xq259 xm259 (by rw [xargs_rf, xargs_i, xargs_i, xargs_i, xargs_nil]; exact ⟨rfl, ⟨rfl, ⟨rfl, ⟨rfl, trivial⟩⟩⟩⟩) (by rw [xargs_rf, xargs_i, xargs_i, xargs_i, xargs_nil]; exact Nat.le_of_ble_eq_true rfl) (fun S G K => x_weak (by exact ⟨rfl, ⟨rfl, ⟨rfl, ⟨rfl, trivial⟩⟩⟩⟩) (k259 hs a0 a1 a2 a3 M)) h hS
set_option maxRecDepth 100000 in
def c260 (rec : Nat → List Value → Mem → XA) (a0 : Option Nat) (a1 : Int32) (M0 : Mem) : XA :=
  vC (13, 157) M0 a0 <|
  cV (rec 278 [va_rf a0] M0) fun M1 =>
  ptI (13, 157) M1 a0 83 ((-1 : Int32)) fun M2 =>
  vC (13, 157) M2 a0 <|
  cV (rec 254 [va_rf a0, .int a1] M2) fun M3 =>
  ptZ (13, 157) M3 a0 92 ((0 : Int32)) fun M4 =>
  ptZ (13, 157) M4 a0 109 ((1 : Int32)) fun M5 =>
  gtP (13, 157) M5 a0 110 fun x6 =>
  gtI (13, 157) M5 a0 102 fun x7 =>
  asI 100 M5 x6 ((0 : Int32)) x7 fun M8 =>
  gtP (13, 157) M8 a0 110 fun x9 =>
  gtI (13, 157) M8 a0 103 fun x10 =>
  asI 100 M8 x9 ((1 : Int32)) x10 fun M11 =>
  gtP (13, 157) M11 a0 110 fun x12 =>
  gtI (13, 157) M11 a0 81 fun x13 =>
  asI 100 M11 x12 ((2 : Int32)) x13 fun M14 =>
  gtP (13, 157) M14 a0 110 fun x15 =>
  gtI (13, 157) M14 a0 82 fun x16 =>
  asI 100 M14 x15 ((3 : Int32)) x16 fun M17 =>
  gtI (13, 157) M17 a0 101 fun x18 =>
  some (.int x18, M17)
def b260 (rec : Nat → List Value → Mem → XA) (as : List Value) (M0 : Mem) : XA := aR as fun a0 as => aI as fun a1 as => aZ as (c260 rec a0 a1 M0)
set_option maxRecDepth 100000 in
set_option maxHeartbeats 4000000 in
theorem k260 {S : XS} {G : XG} {K : Nat × Nat} {l : Launch} {d : Nat} {rec : Nat → List Value → Mem → XA} (hs : XSnd l xmt rec d) (a0 : Option Nat) (a1 : Int32) (M0 : Mem) : Xe S G K l (yX12_aloneIn, cX12_aloneIn, 2, some .int) d 0 [some (va_rf a0), some (.int a1)] [] M0 (c260 rec a0 a1 M0) := by
  unfold c260
  refine x_aload_n dX12_aloneIn_0 rfl ?_
  refine cmX12_741 rfl hs (Nat.le_of_ble_eq_true rfl) dX12_aloneIn_1 (fun M1 => ?_)
  refine x_aload_n dX12_aloneIn_4 rfl ?_
  refine x_iconst (v := -1) dX12_aloneIn_5 (by decide) ?_
  refine pfX12_644 rfl dX12_aloneIn_6 (fun M2 => ?_)
  refine x_aload_n dX12_aloneIn_9 rfl ?_
  refine x_iload_n dX12_aloneIn_10 rfl ?_
  refine cmX12_744 rfl hs (Nat.le_of_ble_eq_true rfl) dX12_aloneIn_11 (fun M3 => ?_)
  refine x_aload_n dX12_aloneIn_14 rfl ?_
  refine x_iconst (v := 0) dX12_aloneIn_15 (by decide) ?_
  refine pfX12_711 rfl dX12_aloneIn_16 (fun M4 => ?_)
  refine x_aload_n dX12_aloneIn_19 rfl ?_
  refine x_iconst (v := 1) dX12_aloneIn_20 (by decide) ?_
  refine pfX12_750 rfl dX12_aloneIn_21 (fun M5 => ?_)
  refine x_aload_n dX12_aloneIn_24 rfl ?_
  refine gfX12_279 rfl dX12_aloneIn_25 (fun x6 => ?_)
  refine x_iconst (v := 0) dX12_aloneIn_28 (by decide) ?_
  refine x_aload_n dX12_aloneIn_29 rfl ?_
  refine gfX12_720 rfl dX12_aloneIn_30 (fun x7 => ?_)
  refine x_iast dX12_aloneIn_33 (fun M8 => ?_)
  refine x_aload_n dX12_aloneIn_34 rfl ?_
  refine gfX12_279 rfl dX12_aloneIn_35 (fun x9 => ?_)
  refine x_iconst (v := 1) dX12_aloneIn_38 (by decide) ?_
  refine x_aload_n dX12_aloneIn_39 rfl ?_
  refine gfX12_723 rfl dX12_aloneIn_40 (fun x10 => ?_)
  refine x_iast dX12_aloneIn_43 (fun M11 => ?_)
  refine x_aload_n dX12_aloneIn_44 rfl ?_
  refine gfX12_279 rfl dX12_aloneIn_45 (fun x12 => ?_)
  refine x_iconst (v := 2) dX12_aloneIn_48 (by decide) ?_
  refine x_aload_n dX12_aloneIn_49 rfl ?_
  refine gfX12_650 rfl dX12_aloneIn_50 (fun x13 => ?_)
  refine x_iast dX12_aloneIn_53 (fun M14 => ?_)
  refine x_aload_n dX12_aloneIn_54 rfl ?_
  refine gfX12_279 rfl dX12_aloneIn_55 (fun x15 => ?_)
  refine x_iconst (v := 3) dX12_aloneIn_58 (by decide) ?_
  refine x_aload_n dX12_aloneIn_59 rfl ?_
  refine gfX12_685 rfl dX12_aloneIn_60 (fun x16 => ?_)
  refine x_iast dX12_aloneIn_63 (fun M17 => ?_)
  refine x_aload_n dX12_aloneIn_64 rfl ?_
  refine gfX12_717 rfl dX12_aloneIn_65 (fun x18 => ?_)
  exact x_iret rfl dX12_aloneIn_68
theorem s260 {l : Launch} {d : Nat} {rec : Nat → List Value → Mem → XA} (hS : Nonempty XS) (hs : XSnd l xmt rec d) : Snd1 l 260 (b260 rec) d := by
  intro as M r M' h0
  unfold b260 at h0
  obtain ⟨a0, l1, e1, h1⟩ := aR_inv h0
  obtain ⟨a1, l2, e2, h2⟩ := aI_inv h1
  obtain ⟨ez, h⟩ := aZ_inv h2
  subst ez
  subst e2
  subst e1
  exact xmet (M := M) (as := [va_rf a0, .int a1]) (lo := [some (va_rf a0), some (.int a1)]) 260 xq260 xm260 (by rw [xargs_rf, xargs_i, xargs_nil]; exact ⟨rfl, ⟨rfl, trivial⟩⟩) (by rw [xargs_rf, xargs_i, xargs_nil]; exact Nat.le_of_ble_eq_true rfl) (fun S G K => x_weak (by exact ⟨rfl, ⟨rfl, trivial⟩⟩) (k260 hs a0 a1 M)) h hS
set_option maxRecDepth 100000 in
def c261 (rec : Nat → List Value → Mem → XA) (a0 : Option Nat) (a1 : Int32) (a2 : Int32) (M0 : Mem) : XA :=
  vC (13, 157) M0 a0 <|
  cI (rec 256 [va_rf a0, .int a1, .int a2] M0) fun x2 M1 =>
  if x2 = 0 then (
    some (.int ((-1 : Int32)), M1)) else (
    vC (13, 157) M1 a0 <|
    cV (rec 235 [va_rf a0, .int a1, .int ((-1 : Int32))] M1) fun M3 =>
    vC (13, 157) M3 a0 <|
    cI (rec 260 [va_rf a0, .int a2] M3) fun x5 M4 =>
    some (.int x5, M4))
def b261 (rec : Nat → List Value → Mem → XA) (as : List Value) (M0 : Mem) : XA := aR as fun a0 as => aI as fun a1 as => aI as fun a2 as => aZ as (c261 rec a0 a1 a2 M0)
set_option maxRecDepth 100000 in
set_option maxHeartbeats 4000000 in
theorem k261 {S : XS} {G : XG} {K : Nat × Nat} {l : Launch} {d : Nat} {rec : Nat → List Value → Mem → XA} (hs : XSnd l xmt rec d) (a0 : Option Nat) (a1 : Int32) (a2 : Int32) (M0 : Mem) : Xe S G K l (yX12_alone, cX12_alone, 3, some .int) d 0 [some (va_rf a0), some (.int a1), some (.int a2)] [] M0 (c261 rec a0 a1 a2 M0) := by
  unfold c261
  refine x_aload_n dX12_alone_0 rfl ?_
  refine x_iload_n dX12_alone_1 rfl ?_
  refine x_iload_n dX12_alone_2 rfl ?_
  refine cmX12_747 rfl hs (Nat.le_of_ble_eq_true rfl) dX12_alone_3 (fun x2 M1 => ?_)
  refine x_if_ne (tgt := 11) dX12_alone_6 (by decide) (fun _ => ?_) (fun _ => ?_)
  · refine x_iconst (v := -1) dX12_alone_9 (by decide) ?_
    exact x_iret rfl dX12_alone_10
  · refine x_aload_n dX12_alone_11 rfl ?_
    refine x_iload_n dX12_alone_12 rfl ?_
    refine x_iconst (v := -1) dX12_alone_13 (by decide) ?_
    refine cmX12_738 rfl hs (Nat.le_of_ble_eq_true rfl) dX12_alone_14 (fun M3 => ?_)
    refine x_aload_n dX12_alone_17 rfl ?_
    refine x_iload_n dX12_alone_18 rfl ?_
    refine cmX12_752 rfl hs (Nat.le_of_ble_eq_true rfl) dX12_alone_19 (fun x5 M4 => ?_)
    exact x_iret rfl dX12_alone_22
theorem s261 {l : Launch} {d : Nat} {rec : Nat → List Value → Mem → XA} (hS : Nonempty XS) (hs : XSnd l xmt rec d) : Snd1 l 261 (b261 rec) d := by
  intro as M r M' h0
  unfold b261 at h0
  obtain ⟨a0, l1, e1, h1⟩ := aR_inv h0
  obtain ⟨a1, l2, e2, h2⟩ := aI_inv h1
  obtain ⟨a2, l3, e3, h3⟩ := aI_inv h2
  obtain ⟨ez, h⟩ := aZ_inv h3
  subst ez
  subst e3
  subst e2
  subst e1
  exact xmet (M := M) (as := [va_rf a0, .int a1, .int a2]) (lo := [some (va_rf a0), some (.int a1), some (.int a2)]) 261 xq261 xm261 (by rw [xargs_rf, xargs_i, xargs_i, xargs_nil]; exact ⟨rfl, ⟨rfl, ⟨rfl, trivial⟩⟩⟩) (by rw [xargs_rf, xargs_i, xargs_i, xargs_nil]; exact Nat.le_of_ble_eq_true rfl) (fun S G K => x_weak (by exact ⟨rfl, ⟨rfl, ⟨rfl, trivial⟩⟩⟩) (k261 hs a0 a1 a2 M)) h hS
set_option maxRecDepth 100000 in
def c262 (rec : Nat → List Value → Mem → XA) (a0 : Option Nat) (a1 : Int32) (M0 : Mem) : XA :=
  gtI (13, 157) M0 a0 109 fun x1 =>
  jn (fun (s2 : Int32 × Mem) =>
    some (.int s2.1, s2.2)) fun j26 =>
  jn (fun (s3 : Mem) =>
    j26 ((-1 : Int32), s3)) fun j25 =>
  if x1 = 0 then (
    j25 M0) else (
    cI (rec 184 [.int a1, .int ((0 : Int32)), .int ((3 : Int32))] M0) fun x5 M4 =>
    if x5 = 0 then (
      j25 M4) else (
      gtP (13, 157) M4 a0 110 fun x6 =>
      alI 100 M4 x6 a1 fun x7 =>
      j26 (x7, M4)))
def b262 (rec : Nat → List Value → Mem → XA) (as : List Value) (M0 : Mem) : XA := aR as fun a0 as => aI as fun a1 as => aZ as (c262 rec a0 a1 M0)
set_option maxRecDepth 100000 in
set_option maxHeartbeats 4000000 in
theorem k262 {S : XS} {G : XG} {K : Nat × Nat} {l : Launch} {d : Nat} {rec : Nat → List Value → Mem → XA} (hs : XSnd l xmt rec d) (a0 : Option Nat) (a1 : Int32) (M0 : Mem) : Xe S G K l (yX12_told, cX12_told, 2, some .int) d 0 [some (va_rf a0), some (.int a1)] [] M0 (c262 rec a0 a1 M0) := by
  unfold c262
  refine x_aload_n dX12_told_0 rfl ?_
  refine gfX12_750 rfl dX12_told_1 (fun x1 => ?_)
  refine x_jn (σ := Int32 × Mem) 26 (fun s2 => [none, none]) (fun s2 => [.int s2.1]) (fun s2 => s2.2) (fun s2 => ?_) (fun j26 hj26 => ?_)
  · exact x_iret rfl dX12_told_26
  refine x_jn (σ := Mem) 25 (fun s3 => [none, none]) (fun s3 => []) (fun s3 => s3) (fun s3 => ?_) (fun j25 hj25 => ?_)
  · refine x_iconst (v := -1) dX12_told_25 (by decide) ?_
    exact x_weak (by exact trivial) (hj26 ((-1 : Int32), s3))
  refine x_if_eq (tgt := 25) dX12_told_4 (by decide) (fun _ => ?_) (fun _ => ?_)
  · exact x_weak (by exact trivial) (hj25 M0)
  · refine x_iload_n dX12_told_7 rfl ?_
    refine x_iconst (v := 0) dX12_told_8 (by decide) ?_
    refine x_iconst (v := 3) dX12_told_9 (by decide) ?_
    refine cmX12_381 rfl hs (Nat.le_of_ble_eq_true rfl) dX12_told_10 (fun x5 M4 => ?_)
    refine x_if_eq (tgt := 25) dX12_told_13 (by decide) (fun _ => ?_) (fun _ => ?_)
    · exact x_weak (by exact trivial) (hj25 M4)
    · refine x_aload_n dX12_told_16 rfl ?_
      refine gfX12_279 rfl dX12_told_17 (fun x6 => ?_)
      refine x_iload_n dX12_told_20 rfl ?_
      refine x_iald dX12_told_21 (fun x7 => ?_)
      refine x_goto (tgt := 26) dX12_told_22 (by decide) ?_
      exact x_weak (by exact trivial) (hj26 (x7, M4))
theorem s262 {l : Launch} {d : Nat} {rec : Nat → List Value → Mem → XA} (hS : Nonempty XS) (hs : XSnd l xmt rec d) : Snd1 l 262 (b262 rec) d := by
  intro as M r M' h0
  unfold b262 at h0
  obtain ⟨a0, l1, e1, h1⟩ := aR_inv h0
  obtain ⟨a1, l2, e2, h2⟩ := aI_inv h1
  obtain ⟨ez, h⟩ := aZ_inv h2
  subst ez
  subst e2
  subst e1
  exact xmet (M := M) (as := [va_rf a0, .int a1]) (lo := [some (va_rf a0), some (.int a1)]) 262 xq262 xm262 (by rw [xargs_rf, xargs_i, xargs_nil]; exact ⟨rfl, ⟨rfl, trivial⟩⟩) (by rw [xargs_rf, xargs_i, xargs_nil]; exact Nat.le_of_ble_eq_true rfl) (fun S G K => x_weak (by exact ⟨rfl, ⟨rfl, trivial⟩⟩) (k262 hs a0 a1 M)) h hS
set_option maxRecDepth 100000 in
def c263 (rec : Nat → List Value → Mem → XA) (a0 : Option Nat) (a1 : Int32) (a2 : Int32) (M0 : Mem) : XA :=
  if a2 = 0 then (
    gtI (13, 157) M0 a0 2 fun x1 =>
    some (.int x1, M0)) else (
    vC (13, 157) M0 a0 <|
    cI (rec 255 [va_rf a0, .int a1] M0) fun x3 M2 =>
    jn (fun (s4 : Mem) =>
      some (.int ((-1 : Int32)), s4)) fun j27 =>
    if x3 = 0 then (
      j27 M2) else (
      cI (rec 184 [.int a2, .int ((1 : Int32)), .int ((6 : Int32))] M2) fun x6 M5 =>
      if x6 = 0 then (
        j27 M5) else (
        jn (fun (s7 : Int32) =>
          some (.int s7, M5)) fun j105 =>
        if a2 = ((1 : Int32)) then (
          gtP (13, 157) M5 a0 3 fun x8 =>
          alI 100 M5 x8 a1 fun x9 =>
          j105 x9) else (
          if a2 = ((2 : Int32)) then (
            gtP (13, 157) M5 a0 10 fun x10 =>
            alI 100 M5 x10 a1 fun x11 =>
            j105 x11) else (
            if a2 = ((3 : Int32)) then (
              gtP (13, 157) M5 a0 29 fun x12 =>
              alI 100 M5 x12 a1 fun x13 =>
              j105 x13) else (
              if a2 = ((4 : Int32)) then (
                gtP (13, 157) M5 a0 17 fun x14 =>
                alI 100 M5 x14 a1 fun x15 =>
                j105 x15) else (
                if a2 = ((5 : Int32)) then (
                  gtP (13, 157) M5 a0 25 fun x16 =>
                  alI 100 M5 x16 a1 fun x17 =>
                  j105 x17) else (
                  gtP (13, 157) M5 a0 33 fun x18 =>
                  alI 100 M5 x18 a1 fun x19 =>
                  j105 x19))))))))
def b263 (rec : Nat → List Value → Mem → XA) (as : List Value) (M0 : Mem) : XA := aR as fun a0 as => aI as fun a1 as => aI as fun a2 as => aZ as (c263 rec a0 a1 a2 M0)
set_option maxRecDepth 100000 in
set_option maxHeartbeats 4000000 in
theorem k263 {S : XS} {G : XG} {K : Nat × Nat} {l : Launch} {d : Nat} {rec : Nat → List Value → Mem → XA} (hs : XSnd l xmt rec d) (a0 : Option Nat) (a1 : Int32) (a2 : Int32) (M0 : Mem) : Xe S G K l (yX12_count, cX12_count, 3, some .int) d 0 [some (va_rf a0), some (.int a1), some (.int a2)] [] M0 (c263 rec a0 a1 a2 M0) := by
  unfold c263
  refine x_iload_n dX12_count_0 rfl ?_
  refine x_if_ne (tgt := 9) dX12_count_1 (by decide) (fun _ => ?_) (fun _ => ?_)
  · refine x_aload_n dX12_count_4 rfl ?_
    refine gfX12_582 rfl dX12_count_5 (fun x1 => ?_)
    exact x_iret rfl dX12_count_8
  · refine x_aload_n dX12_count_9 rfl ?_
    refine x_iload_n dX12_count_10 rfl ?_
    refine cmX12_735 rfl hs (Nat.le_of_ble_eq_true rfl) dX12_count_11 (fun x3 M2 => ?_)
    refine x_jn (σ := Mem) 27 (fun s4 => [none, none, none]) (fun s4 => []) (fun s4 => s4) (fun s4 => ?_) (fun j27 hj27 => ?_)
    · refine x_iconst (v := -1) dX12_count_27 (by decide) ?_
      exact x_iret rfl dX12_count_28
    refine x_if_eq (tgt := 27) dX12_count_14 (by decide) (fun _ => ?_) (fun _ => ?_)
    · exact x_weak (by exact trivial) (hj27 M2)
    · refine x_iload_n dX12_count_17 rfl ?_
      refine x_iconst (v := 1) dX12_count_18 (by decide) ?_
      refine x_bipush (v := 6) dX12_count_19 (by decide) ?_
      refine cmX12_381 rfl hs (Nat.le_of_ble_eq_true rfl) dX12_count_21 (fun x6 M5 => ?_)
      refine x_if_ne (tgt := 29) dX12_count_24 (by decide) (fun _ => ?_) (fun _ => ?_)
      · exact x_weak (by exact trivial) (hj27 M5)
      · refine x_iload_n dX12_count_29 rfl ?_
        refine x_iconst (v := 1) dX12_count_30 (by decide) ?_
        refine x_jn (σ := Int32) 105 (fun s7 => [none, none, none]) (fun s7 => [.int s7]) (fun s7 => M5) (fun s7 => ?_) (fun j105 hj105 => ?_)
        · exact x_iret rfl dX12_count_105
        refine x_icmp_ne (tgt := 43) dX12_count_31 (by decide) (fun _ => ?_) (fun _ => ?_)
        · refine x_aload_n dX12_count_34 rfl ?_
          refine gfX12_13 rfl dX12_count_35 (fun x8 => ?_)
          refine x_iload_n dX12_count_38 rfl ?_
          refine x_iald dX12_count_39 (fun x9 => ?_)
          refine x_goto (tgt := 105) dX12_count_40 (by decide) ?_
          exact x_weak (by exact trivial) (hj105 x9)
        · refine x_iload_n dX12_count_43 rfl ?_
          refine x_iconst (v := 2) dX12_count_44 (by decide) ?_
          refine x_icmp_ne (tgt := 57) dX12_count_45 (by decide) (fun _ => ?_) (fun _ => ?_)
          · refine x_aload_n dX12_count_48 rfl ?_
            refine gfX12_36 rfl dX12_count_49 (fun x10 => ?_)
            refine x_iload_n dX12_count_52 rfl ?_
            refine x_iald dX12_count_53 (fun x11 => ?_)
            refine x_goto (tgt := 105) dX12_count_54 (by decide) ?_
            exact x_weak (by exact trivial) (hj105 x11)
          · refine x_iload_n dX12_count_57 rfl ?_
            refine x_iconst (v := 3) dX12_count_58 (by decide) ?_
            refine x_icmp_ne (tgt := 71) dX12_count_59 (by decide) (fun _ => ?_) (fun _ => ?_)
            · refine x_aload_n dX12_count_62 rfl ?_
              refine gfX12_94 rfl dX12_count_63 (fun x12 => ?_)
              refine x_iload_n dX12_count_66 rfl ?_
              refine x_iald dX12_count_67 (fun x13 => ?_)
              refine x_goto (tgt := 105) dX12_count_68 (by decide) ?_
              exact x_weak (by exact trivial) (hj105 x13)
            · refine x_iload_n dX12_count_71 rfl ?_
              refine x_iconst (v := 4) dX12_count_72 (by decide) ?_
              refine x_icmp_ne (tgt := 85) dX12_count_73 (by decide) (fun _ => ?_) (fun _ => ?_)
              · refine x_aload_n dX12_count_76 rfl ?_
                refine gfX12_58 rfl dX12_count_77 (fun x14 => ?_)
                refine x_iload_n dX12_count_80 rfl ?_
                refine x_iald dX12_count_81 (fun x15 => ?_)
                refine x_goto (tgt := 105) dX12_count_82 (by decide) ?_
                exact x_weak (by exact trivial) (hj105 x15)
              · refine x_iload_n dX12_count_85 rfl ?_
                refine x_iconst (v := 5) dX12_count_86 (by decide) ?_
                refine x_icmp_ne (tgt := 99) dX12_count_87 (by decide) (fun _ => ?_) (fun _ => ?_)
                · refine x_aload_n dX12_count_90 rfl ?_
                  refine gfX12_82 rfl dX12_count_91 (fun x16 => ?_)
                  refine x_iload_n dX12_count_94 rfl ?_
                  refine x_iald dX12_count_95 (fun x17 => ?_)
                  refine x_goto (tgt := 105) dX12_count_96 (by decide) ?_
                  exact x_weak (by exact trivial) (hj105 x17)
                · refine x_aload_n dX12_count_99 rfl ?_
                  refine gfX12_106 rfl dX12_count_100 (fun x18 => ?_)
                  refine x_iload_n dX12_count_103 rfl ?_
                  refine x_iald dX12_count_104 (fun x19 => ?_)
                  exact x_weak (by exact trivial) (hj105 x19)
theorem s263 {l : Launch} {d : Nat} {rec : Nat → List Value → Mem → XA} (hS : Nonempty XS) (hs : XSnd l xmt rec d) : Snd1 l 263 (b263 rec) d := by
  intro as M r M' h0
  unfold b263 at h0
  obtain ⟨a0, l1, e1, h1⟩ := aR_inv h0
  obtain ⟨a1, l2, e2, h2⟩ := aI_inv h1
  obtain ⟨a2, l3, e3, h3⟩ := aI_inv h2
  obtain ⟨ez, h⟩ := aZ_inv h3
  subst ez
  subst e3
  subst e2
  subst e1
  exact xmet (M := M) (as := [va_rf a0, .int a1, .int a2]) (lo := [some (va_rf a0), some (.int a1), some (.int a2)]) 263 xq263 xm263 (by rw [xargs_rf, xargs_i, xargs_i, xargs_nil]; exact ⟨rfl, ⟨rfl, ⟨rfl, trivial⟩⟩⟩) (by rw [xargs_rf, xargs_i, xargs_i, xargs_nil]; exact Nat.le_of_ble_eq_true rfl) (fun S G K => x_weak (by exact ⟨rfl, ⟨rfl, ⟨rfl, trivial⟩⟩⟩) (k263 hs a0 a1 a2 M)) h hS
set_option maxRecDepth 100000 in
def c264 (rec : Nat → List Value → Mem → XA) (a0 : Option Nat) (a1 : Int32) (a2 : Int32) (a3 : Int32) (M0 : Mem) : XA :=
  vC (13, 157) M0 a0 <|
  cI (rec 255 [va_rf a0, .int a1] M0) fun x2 M1 =>
  jn (fun (s3 : Mem) =>
    some (.int ((-1 : Int32)), s3)) fun j33 =>
  if x2 = 0 then (
    j33 M1) else (
    gtP (13, 157) M1 a0 10 fun x4 =>
    alI 100 M1 x4 a1 fun x5 =>
    cI (rec 184 [.int a2, .int ((0 : Int32)), .int (x5 - ((1 : Int32)))] M1) fun x7 M6 =>
    if x7 = 0 then (
      j33 M6) else (
      cI (rec 184 [.int a3, .int ((0 : Int32)), .int ((4 : Int32))] M6) fun x9 M8 =>
      if x9 = 0 then (
        j33 M8) else (
        lt ((((96 : Int32)) * a1) + a2) fun (x10 : Int32) =>
        jn (fun (s11 : Int32 × Mem) =>
          some (.int s11.1, s11.2)) fun j112 =>
        if a3 = 0 then (
          gtP (13, 157) M8 a0 12 fun x12 =>
          alI 100 M8 x12 x10 fun x13 =>
          j112 (x13, M8)) else (
          if a3 = ((1 : Int32)) then (
            gtP (13, 157) M8 a0 13 fun x14 =>
            alI 100 M8 x14 x10 fun x15 =>
            j112 (x15, M8)) else (
            if a3 = ((2 : Int32)) then (
              gtP (13, 157) M8 a0 14 fun x16 =>
              alX 102 M8 x16 x10 fun x17 =>
              cI (rec 245 [.int x17] M8) fun x19 M18 =>
              j112 (x19, M18)) else (
              if a3 = ((3 : Int32)) then (
                gtP (13, 157) M8 a0 15 fun x20 =>
                alI 100 M8 x20 x10 fun x21 =>
                j112 (x21, M8)) else (
                gtP (13, 157) M8 a0 16 fun x22 =>
                alI 100 M8 x22 x10 fun x23 =>
                j112 (x23, M8))))))))
def b264 (rec : Nat → List Value → Mem → XA) (as : List Value) (M0 : Mem) : XA := aR as fun a0 as => aI as fun a1 as => aI as fun a2 as => aI as fun a3 as => aZ as (c264 rec a0 a1 a2 a3 M0)
set_option maxRecDepth 100000 in
set_option maxHeartbeats 4000000 in
theorem k264 {S : XS} {G : XG} {K : Nat × Nat} {l : Launch} {d : Nat} {rec : Nat → List Value → Mem → XA} (hs : XSnd l xmt rec d) (a0 : Option Nat) (a1 : Int32) (a2 : Int32) (a3 : Int32) (M0 : Mem) : Xe S G K l (yX12_member_, cX12_member_, 5, some .int) d 0 [some (va_rf a0), some (.int a1), some (.int a2), some (.int a3), none] [] M0 (c264 rec a0 a1 a2 a3 M0) := by
  unfold c264
  refine x_aload_n dX12_member__0 rfl ?_
  refine x_iload_n dX12_member__1 rfl ?_
  refine cmX12_735 rfl hs (Nat.le_of_ble_eq_true rfl) dX12_member__2 (fun x2 M1 => ?_)
  refine x_jn (σ := Mem) 33 (fun s3 => [none, none, none, none, none]) (fun s3 => []) (fun s3 => s3) (fun s3 => ?_) (fun j33 hj33 => ?_)
  · refine x_iconst (v := -1) dX12_member__33 (by decide) ?_
    exact x_iret rfl dX12_member__34
  refine x_if_eq (tgt := 33) dX12_member__5 (by decide) (fun _ => ?_) (fun _ => ?_)
  · exact x_weak (by exact trivial) (hj33 M1)
  · refine x_iload_n dX12_member__8 rfl ?_
    refine x_iconst (v := 0) dX12_member__9 (by decide) ?_
    refine x_aload_n dX12_member__10 rfl ?_
    refine gfX12_36 rfl dX12_member__11 (fun x4 => ?_)
    refine x_iload_n dX12_member__14 rfl ?_
    refine x_iald dX12_member__15 (fun x5 => ?_)
    refine x_iconst (v := 1) dX12_member__16 (by decide) ?_
    refine x_isub dX12_member__17 ?_
    refine cmX12_381 rfl hs (Nat.le_of_ble_eq_true rfl) dX12_member__18 (fun x7 M6 => ?_)
    refine x_if_eq (tgt := 33) dX12_member__21 (by decide) (fun _ => ?_) (fun _ => ?_)
    · exact x_weak (by exact trivial) (hj33 M6)
    · refine x_iload_n dX12_member__24 rfl ?_
      refine x_iconst (v := 0) dX12_member__25 (by decide) ?_
      refine x_iconst (v := 4) dX12_member__26 (by decide) ?_
      refine cmX12_381 rfl hs (Nat.le_of_ble_eq_true rfl) dX12_member__27 (fun x9 M8 => ?_)
      refine x_if_ne (tgt := 35) dX12_member__30 (by decide) (fun _ => ?_) (fun _ => ?_)
      · exact x_weak (by exact trivial) (hj33 M8)
      · refine x_bipush (v := 96) dX12_member__35 (by decide) ?_
        refine x_iload_n dX12_member__37 rfl ?_
        refine x_imul dX12_member__38 ?_
        refine x_iload_n dX12_member__39 rfl ?_
        refine x_iadd dX12_member__40 ?_
        refine x_ltI (fun x10 => ?_)
        refine x_istore (lo' := [some (va_rf a0), some (.int a1), some (.int a2), some (.int a3), some (.int x10)]) dX12_member__41 (by decide) rfl rfl ?_
        refine x_iload_n dX12_member__43 rfl ?_
        refine x_jn (σ := Int32 × Mem) 112 (fun s11 => [none, none, none, none, none]) (fun s11 => [.int s11.1]) (fun s11 => s11.2) (fun s11 => ?_) (fun j112 hj112 => ?_)
        · exact x_iret rfl dX12_member__112
        refine x_if_ne (tgt := 57) dX12_member__44 (by decide) (fun _ => ?_) (fun _ => ?_)
        · refine x_aload_n dX12_member__47 rfl ?_
          refine gfX12_42 rfl dX12_member__48 (fun x12 => ?_)
          refine x_iload dX12_member__51 rfl ?_
          refine x_iald dX12_member__53 (fun x13 => ?_)
          refine x_goto (tgt := 112) dX12_member__54 (by decide) ?_
          exact x_weak (by exact trivial) (hj112 (x13, M8))
        · refine x_iload_n dX12_member__57 rfl ?_
          refine x_iconst (v := 1) dX12_member__58 (by decide) ?_
          refine x_icmp_ne (tgt := 72) dX12_member__59 (by decide) (fun _ => ?_) (fun _ => ?_)
          · refine x_aload_n dX12_member__62 rfl ?_
            refine gfX12_45 rfl dX12_member__63 (fun x14 => ?_)
            refine x_iload dX12_member__66 rfl ?_
            refine x_iald dX12_member__68 (fun x15 => ?_)
            refine x_goto (tgt := 112) dX12_member__69 (by decide) ?_
            exact x_weak (by exact trivial) (hj112 (x15, M8))
          · refine x_iload_n dX12_member__72 rfl ?_
            refine x_iconst (v := 2) dX12_member__73 (by decide) ?_
            refine x_icmp_ne (tgt := 90) dX12_member__74 (by decide) (fun _ => ?_) (fun _ => ?_)
            · refine x_aload_n dX12_member__77 rfl ?_
              refine gfX12_48 rfl dX12_member__78 (fun x16 => ?_)
              refine x_iload dX12_member__81 rfl ?_
              refine x_zald dX12_member__83 (fun x17 => ?_)
              refine cmX12_677 rfl hs (Nat.le_of_ble_eq_true rfl) dX12_member__84 (fun x19 M18 => ?_)
              refine x_goto (tgt := 112) dX12_member__87 (by decide) ?_
              exact x_weak (by exact trivial) (hj112 (x19, M18))
            · refine x_iload_n dX12_member__90 rfl ?_
              refine x_iconst (v := 3) dX12_member__91 (by decide) ?_
              refine x_icmp_ne (tgt := 105) dX12_member__92 (by decide) (fun _ => ?_) (fun _ => ?_)
              · refine x_aload_n dX12_member__95 rfl ?_
                refine gfX12_52 rfl dX12_member__96 (fun x20 => ?_)
                refine x_iload dX12_member__99 rfl ?_
                refine x_iald dX12_member__101 (fun x21 => ?_)
                refine x_goto (tgt := 112) dX12_member__102 (by decide) ?_
                exact x_weak (by exact trivial) (hj112 (x21, M8))
              · refine x_aload_n dX12_member__105 rfl ?_
                refine gfX12_55 rfl dX12_member__106 (fun x22 => ?_)
                refine x_iload dX12_member__109 rfl ?_
                refine x_iald dX12_member__111 (fun x23 => ?_)
                exact x_weak (by exact trivial) (hj112 (x23, M8))
theorem s264 {l : Launch} {d : Nat} {rec : Nat → List Value → Mem → XA} (hS : Nonempty XS) (hs : XSnd l xmt rec d) : Snd1 l 264 (b264 rec) d := by
  intro as M r M' h0
  unfold b264 at h0
  obtain ⟨a0, l1, e1, h1⟩ := aR_inv h0
  obtain ⟨a1, l2, e2, h2⟩ := aI_inv h1
  obtain ⟨a2, l3, e3, h3⟩ := aI_inv h2
  obtain ⟨a3, l4, e4, h4⟩ := aI_inv h3
  obtain ⟨ez, h⟩ := aZ_inv h4
  subst ez
  subst e4
  subst e3
  subst e2
  subst e1
  exact xmet (M := M) (as := [va_rf a0, .int a1, .int a2, .int a3]) (lo := [some (va_rf a0), some (.int a1), some (.int a2), some (.int a3)]) 264 xq264 xm264 (by rw [xargs_rf, xargs_i, xargs_i, xargs_i, xargs_nil]; exact ⟨rfl, ⟨rfl, ⟨rfl, ⟨rfl, trivial⟩⟩⟩⟩) (by rw [xargs_rf, xargs_i, xargs_i, xargs_i, xargs_nil]; exact Nat.le_of_ble_eq_true rfl) (fun S G K => x_weak (by exact ⟨rfl, ⟨rfl, ⟨rfl, ⟨rfl, trivial⟩⟩⟩⟩) (k264 hs a0 a1 a2 a3 M)) h hS
set_option maxRecDepth 100000 in
def c265 (rec : Nat → List Value → Mem → XA) (a0 : Option Nat) (a1 : Int32) (a2 : Int32) (a3 : Int32) (M0 : Mem) : XA :=
  vC (13, 157) M0 a0 <|
  cI (rec 256 [va_rf a0, .int a1, .int a2] M0) fun x2 M1 =>
  jn (fun (s3 : Mem) =>
    some (.int ((-1 : Int32)), s3)) fun j18 =>
  if x2 = 0 then (
    j18 M1) else (
    cI (rec 184 [.int a3, .int ((0 : Int32)), .int ((4 : Int32))] M1) fun x5 M4 =>
    if x5 = 0 then (
      j18 M4) else (
      lt ((((16 : Int32)) * a1) + a2) fun (x6 : Int32) =>
      jn (fun (s7 : Int32 × Mem) =>
        some (.int s7.1, s7.2)) fun j97 =>
      if a3 = 0 then (
        gtP (13, 157) M4 a0 19 fun x8 =>
        alI 100 M4 x8 x6 fun x9 =>
        j97 (x9, M4)) else (
        if a3 = ((1 : Int32)) then (
          gtP (13, 157) M4 a0 20 fun x10 =>
          alI 100 M4 x10 x6 fun x11 =>
          j97 (x11, M4)) else (
          if a3 = ((2 : Int32)) then (
            gtP (13, 157) M4 a0 21 fun x12 =>
            alI 100 M4 x12 x6 fun x13 =>
            j97 (x13, M4)) else (
            if a3 = ((3 : Int32)) then (
              gtP (13, 157) M4 a0 22 fun x14 =>
              alX 102 M4 x14 x6 fun x15 =>
              cI (rec 245 [.int x15] M4) fun x17 M16 =>
              j97 (x17, M16)) else (
              gtP (13, 157) M4 a0 23 fun x18 =>
              alI 100 M4 x18 x6 fun x19 =>
              j97 (x19, M4)))))))
def b265 (rec : Nat → List Value → Mem → XA) (as : List Value) (M0 : Mem) : XA := aR as fun a0 as => aI as fun a1 as => aI as fun a2 as => aI as fun a3 as => aZ as (c265 rec a0 a1 a2 a3 M0)
set_option maxRecDepth 100000 in
set_option maxHeartbeats 4000000 in
theorem k265 {S : XS} {G : XG} {K : Nat × Nat} {l : Launch} {d : Nat} {rec : Nat → List Value → Mem → XA} (hs : XSnd l xmt rec d) (a0 : Option Nat) (a1 : Int32) (a2 : Int32) (a3 : Int32) (M0 : Mem) : Xe S G K l (yX12_about, cX12_about, 5, some .int) d 0 [some (va_rf a0), some (.int a1), some (.int a2), some (.int a3), none] [] M0 (c265 rec a0 a1 a2 a3 M0) := by
  unfold c265
  refine x_aload_n dX12_about_0 rfl ?_
  refine x_iload_n dX12_about_1 rfl ?_
  refine x_iload_n dX12_about_2 rfl ?_
  refine cmX12_747 rfl hs (Nat.le_of_ble_eq_true rfl) dX12_about_3 (fun x2 M1 => ?_)
  refine x_jn (σ := Mem) 18 (fun s3 => [none, none, none, none, none]) (fun s3 => []) (fun s3 => s3) (fun s3 => ?_) (fun j18 hj18 => ?_)
  · refine x_iconst (v := -1) dX12_about_18 (by decide) ?_
    exact x_iret rfl dX12_about_19
  refine x_if_eq (tgt := 18) dX12_about_6 (by decide) (fun _ => ?_) (fun _ => ?_)
  · exact x_weak (by exact trivial) (hj18 M1)
  · refine x_iload_n dX12_about_9 rfl ?_
    refine x_iconst (v := 0) dX12_about_10 (by decide) ?_
    refine x_iconst (v := 4) dX12_about_11 (by decide) ?_
    refine cmX12_381 rfl hs (Nat.le_of_ble_eq_true rfl) dX12_about_12 (fun x5 M4 => ?_)
    refine x_if_ne (tgt := 20) dX12_about_15 (by decide) (fun _ => ?_) (fun _ => ?_)
    · exact x_weak (by exact trivial) (hj18 M4)
    · refine x_bipush (v := 16) dX12_about_20 (by decide) ?_
      refine x_iload_n dX12_about_22 rfl ?_
      refine x_imul dX12_about_23 ?_
      refine x_iload_n dX12_about_24 rfl ?_
      refine x_iadd dX12_about_25 ?_
      refine x_ltI (fun x6 => ?_)
      refine x_istore (lo' := [some (va_rf a0), some (.int a1), some (.int a2), some (.int a3), some (.int x6)]) dX12_about_26 (by decide) rfl rfl ?_
      refine x_iload_n dX12_about_28 rfl ?_
      refine x_jn (σ := Int32 × Mem) 97 (fun s7 => [none, none, none, none, none]) (fun s7 => [.int s7.1]) (fun s7 => s7.2) (fun s7 => ?_) (fun j97 hj97 => ?_)
      · exact x_iret rfl dX12_about_97
      refine x_if_ne (tgt := 42) dX12_about_29 (by decide) (fun _ => ?_) (fun _ => ?_)
      · refine x_aload_n dX12_about_32 rfl ?_
        refine gfX12_64 rfl dX12_about_33 (fun x8 => ?_)
        refine x_iload dX12_about_36 rfl ?_
        refine x_iald dX12_about_38 (fun x9 => ?_)
        refine x_goto (tgt := 97) dX12_about_39 (by decide) ?_
        exact x_weak (by exact trivial) (hj97 (x9, M4))
      · refine x_iload_n dX12_about_42 rfl ?_
        refine x_iconst (v := 1) dX12_about_43 (by decide) ?_
        refine x_icmp_ne (tgt := 57) dX12_about_44 (by decide) (fun _ => ?_) (fun _ => ?_)
        · refine x_aload_n dX12_about_47 rfl ?_
          refine gfX12_67 rfl dX12_about_48 (fun x10 => ?_)
          refine x_iload dX12_about_51 rfl ?_
          refine x_iald dX12_about_53 (fun x11 => ?_)
          refine x_goto (tgt := 97) dX12_about_54 (by decide) ?_
          exact x_weak (by exact trivial) (hj97 (x11, M4))
        · refine x_iload_n dX12_about_57 rfl ?_
          refine x_iconst (v := 2) dX12_about_58 (by decide) ?_
          refine x_icmp_ne (tgt := 72) dX12_about_59 (by decide) (fun _ => ?_) (fun _ => ?_)
          · refine x_aload_n dX12_about_62 rfl ?_
            refine gfX12_70 rfl dX12_about_63 (fun x12 => ?_)
            refine x_iload dX12_about_66 rfl ?_
            refine x_iald dX12_about_68 (fun x13 => ?_)
            refine x_goto (tgt := 97) dX12_about_69 (by decide) ?_
            exact x_weak (by exact trivial) (hj97 (x13, M4))
          · refine x_iload_n dX12_about_72 rfl ?_
            refine x_iconst (v := 3) dX12_about_73 (by decide) ?_
            refine x_icmp_ne (tgt := 90) dX12_about_74 (by decide) (fun _ => ?_) (fun _ => ?_)
            · refine x_aload_n dX12_about_77 rfl ?_
              refine gfX12_73 rfl dX12_about_78 (fun x14 => ?_)
              refine x_iload dX12_about_81 rfl ?_
              refine x_zald dX12_about_83 (fun x15 => ?_)
              refine cmX12_677 rfl hs (Nat.le_of_ble_eq_true rfl) dX12_about_84 (fun x17 M16 => ?_)
              refine x_goto (tgt := 97) dX12_about_87 (by decide) ?_
              exact x_weak (by exact trivial) (hj97 (x17, M16))
            · refine x_aload_n dX12_about_90 rfl ?_
              refine gfX12_76 rfl dX12_about_91 (fun x18 => ?_)
              refine x_iload dX12_about_94 rfl ?_
              refine x_iald dX12_about_96 (fun x19 => ?_)
              exact x_weak (by exact trivial) (hj97 (x19, M4))
theorem s265 {l : Launch} {d : Nat} {rec : Nat → List Value → Mem → XA} (hS : Nonempty XS) (hs : XSnd l xmt rec d) : Snd1 l 265 (b265 rec) d := by
  intro as M r M' h0
  unfold b265 at h0
  obtain ⟨a0, l1, e1, h1⟩ := aR_inv h0
  obtain ⟨a1, l2, e2, h2⟩ := aI_inv h1
  obtain ⟨a2, l3, e3, h3⟩ := aI_inv h2
  obtain ⟨a3, l4, e4, h4⟩ := aI_inv h3
  obtain ⟨ez, h⟩ := aZ_inv h4
  subst ez
  subst e4
  subst e3
  subst e2
  subst e1
  exact xmet (M := M) (as := [va_rf a0, .int a1, .int a2, .int a3]) (lo := [some (va_rf a0), some (.int a1), some (.int a2), some (.int a3)]) 265 xq265 xm265 (by rw [xargs_rf, xargs_i, xargs_i, xargs_i, xargs_nil]; exact ⟨rfl, ⟨rfl, ⟨rfl, ⟨rfl, trivial⟩⟩⟩⟩) (by rw [xargs_rf, xargs_i, xargs_i, xargs_i, xargs_nil]; exact Nat.le_of_ble_eq_true rfl) (fun S G K => x_weak (by exact ⟨rfl, ⟨rfl, ⟨rfl, ⟨rfl, trivial⟩⟩⟩⟩) (k265 hs a0 a1 a2 a3 M)) h hS
set_option maxRecDepth 100000 in
def c266_151 (rec : Nat → List Value → Mem → XA) (j177 : Int32 → XA) (s6 : Int64) : (Int32) → ((Int32) → XA) → XA := fun s9 j151 =>
  if ((8 : Int32)) ≤ s9 then (
    j177 s9) else (
    if (lg_cmp ((Int64.toUInt64 s6 >>> ((Int32.toInt64 (((8 : Int32)) * s9)).toUInt64 &&& Int64.toUInt64 63)).toInt64) ((0 : Int64))) = 0 then (
      j177 s9) else (
      lt (s9 + (1 : Int32)) fun (x10 : Int32) =>
      j151 x10))
set_option maxRecDepth 100000 in
def c266 (rec : Nat → List Value → Mem → XA) (a0 : Option Nat) (a1 : Int32) (a2 : Int32) (a3 : Int32) (a4 : Int32) (M0 : Mem) : XA :=
  vC (13, 157) M0 a0 <|
  cI (rec 255 [va_rf a0, .int a1] M0) fun x2 M1 =>
  jn (fun (s3 : Mem) =>
    some (.int ((-1 : Int32)), s3)) fun j23 =>
  if x2 = 0 then (
    j23 M1) else (
    if a3 < 0 then (
      j23 M1) else (
      cI (rec 184 [.int a4, .int ((0 : Int32)), .int ((7 : Int32))] M1) fun x5 M4 =>
      if x5 = 0 then (
        j23 M4) else (
        jn (fun (s6 : Int64) =>
          jn (fun (s7 : Int32) =>
            jn (fun (s8 : Int32) =>
              some (.int s8, M4)) fun j206 =>
            if s7 ≤ a4 then (
              j206 ((-1 : Int32))) else (
              j206 ((((Int64.toUInt64 s6 >>> ((Int32.toInt64 (((8 : Int32)) * ((s7 - ((1 : Int32))) - a4))).toUInt64 &&& Int64.toUInt64 63)).toInt64) &&& ((255 : Int64))).toInt32))) fun j177 =>
          lp (c266_151 rec j177 s6) 4294967296 ((0 : Int32))) fun j148 =>
        jn (fun (s11 : Unit) =>
          jn (fun (s12 : Unit) =>
            jn (fun (s13 : Unit) =>
              if a2 = ((3 : Int32)) then (
                gtP (13, 157) M4 a0 25 fun x14 =>
                alI 100 M4 x14 a1 fun x15 =>
                if x15 ≤ a3 then (
                  j148 ((0 : Int64))) else (
                  gtP (13, 157) M4 a0 26 fun x16 =>
                  alL M4 x16 ((((6 : Int32)) * a1) + a3) fun x17 =>
                  j148 x17)) else (
                j148 ((0 : Int64)))) fun j120 =>
            if a2 = ((2 : Int32)) then (
              gtP (13, 157) M4 a0 17 fun x18 =>
              alI 100 M4 x18 a1 fun x19 =>
              if x19 ≤ a3 then (
                j120 ()) else (
                gtP (13, 157) M4 a0 18 fun x20 =>
                alL M4 x20 ((((16 : Int32)) * a1) + a3) fun x21 =>
                j148 x21)) else (
              j120 ())) fun j89 =>
          if a2 = ((1 : Int32)) then (
            gtP (13, 157) M4 a0 10 fun x22 =>
            alI 100 M4 x22 a1 fun x23 =>
            if x23 ≤ a3 then (
              j89 ()) else (
              gtP (13, 157) M4 a0 11 fun x24 =>
              alL M4 x24 ((((96 : Int32)) * a1) + a3) fun x25 =>
              j148 x25)) else (
            j89 ())) fun j58 =>
        if a2 = 0 then (
          gtP (13, 157) M4 a0 3 fun x26 =>
          alI 100 M4 x26 a1 fun x27 =>
          if x27 ≤ a3 then (
            j58 ()) else (
            gtP (13, 157) M4 a0 4 fun x28 =>
            alL M4 x28 ((((8 : Int32)) * a1) + a3) fun x29 =>
            j148 x29)) else (
          j58 ()))))
def b266 (rec : Nat → List Value → Mem → XA) (as : List Value) (M0 : Mem) : XA := aR as fun a0 as => aI as fun a1 as => aI as fun a2 as => aI as fun a3 as => aI as fun a4 as => aZ as (c266 rec a0 a1 a2 a3 a4 M0)
set_option maxRecDepth 100000 in
set_option maxHeartbeats 4000000 in
theorem k266 {S : XS} {G : XG} {K : Nat × Nat} {l : Launch} {d : Nat} {rec : Nat → List Value → Mem → XA} (hs : XSnd l xmt rec d) (a0 : Option Nat) (a1 : Int32) (a2 : Int32) (a3 : Int32) (a4 : Int32) (M0 : Mem) : Xe S G K l (yX12_name, cX12_name, 8, some .int) d 0 [some (va_rf a0), some (.int a1), some (.int a2), some (.int a3), some (.int a4), none, none, none] [] M0 (c266 rec a0 a1 a2 a3 a4 M0) := by
  unfold c266
  refine x_aload_n dX12_name_0 rfl ?_
  refine x_iload_n dX12_name_1 rfl ?_
  refine cmX12_735 rfl hs (Nat.le_of_ble_eq_true rfl) dX12_name_2 (fun x2 M1 => ?_)
  refine x_jn (σ := Mem) 23 (fun s3 => [none, none, none, none, none, none, none, none]) (fun s3 => []) (fun s3 => s3) (fun s3 => ?_) (fun j23 hj23 => ?_)
  · refine x_iconst (v := -1) dX12_name_23 (by decide) ?_
    exact x_iret rfl dX12_name_24
  refine x_if_eq (tgt := 23) dX12_name_5 (by decide) (fun _ => ?_) (fun _ => ?_)
  · exact x_weak (by exact trivial) (hj23 M1)
  · refine x_iload_n dX12_name_8 rfl ?_
    refine x_if_lt (tgt := 23) dX12_name_9 (by decide) (fun _ => ?_) (fun _ => ?_)
    · exact x_weak (by exact trivial) (hj23 M1)
    · refine x_iload dX12_name_12 rfl ?_
      refine x_iconst (v := 0) dX12_name_14 (by decide) ?_
      refine x_bipush (v := 7) dX12_name_15 (by decide) ?_
      refine cmX12_381 rfl hs (Nat.le_of_ble_eq_true rfl) dX12_name_17 (fun x5 M4 => ?_)
      refine x_if_ne (tgt := 25) dX12_name_20 (by decide) (fun _ => ?_) (fun _ => ?_)
      · exact x_weak (by exact trivial) (hj23 M4)
      · refine x_lconst (v := 0) dX12_name_25 (by decide) ?_
        refine x_lstore (lo' := [some (va_rf a0), some (.int a1), some (.int a2), some (.int a3), some (.int a4), some (.long ((0 : Int64))), none, none]) dX12_name_26 (by decide) rfl rfl ?_
        refine x_iload_n dX12_name_28 rfl ?_
        refine x_jn (σ := Int64) 148 (fun s6 => [none, none, none, none, some (.int a4), some (.long s6), none, none]) (fun s6 => []) (fun s6 => M4) (fun s6 => ?_) (fun j148 hj148 => ?_)
        · refine x_iconst (v := 0) dX12_name_148 (by decide) ?_
          refine x_istore (lo' := [none, none, none, none, some (.int a4), some (.long s6), none, some (.int ((0 : Int32)))]) dX12_name_149 (by decide) rfl rfl ?_
          refine x_jn (σ := Int32) 177 (fun s7 => [none, none, none, none, some (.int a4), some (.long s6), none, some (.int s7)]) (fun s7 => []) (fun s7 => M4) (fun s7 => ?_) (fun j177 hj177 => ?_)
          · refine x_iload dX12_name_177 rfl ?_
            refine x_iload dX12_name_179 rfl ?_
            refine x_jn (σ := Int32) 206 (fun s8 => [none, none, none, none, none, none, none, none]) (fun s8 => [.int s8]) (fun s8 => M4) (fun s8 => ?_) (fun j206 hj206 => ?_)
            · exact x_iret rfl dX12_name_206
            refine x_icmp_ge (tgt := 205) dX12_name_181 (by decide) (fun _ => ?_) (fun _ => ?_)
            · refine x_iconst (v := -1) dX12_name_205 (by decide) ?_
              exact x_weak (by exact trivial) (hj206 ((-1 : Int32)))
            · refine x_lload dX12_name_184 rfl ?_
              refine x_bipush (v := 8) dX12_name_186 (by decide) ?_
              refine x_iload dX12_name_188 rfl ?_
              refine x_iconst (v := 1) dX12_name_190 (by decide) ?_
              refine x_isub dX12_name_191 ?_
              refine x_iload dX12_name_192 rfl ?_
              refine x_isub dX12_name_194 ?_
              refine x_imul dX12_name_195 ?_
              refine x_lushr dX12_name_196 ?_
              refine x_ldc2 (v := 255) dX12_name_197 lk_constantLong_X12_755 ?_
              refine x_land dX12_name_200 ?_
              refine x_l2i dX12_name_201 ?_
              refine x_goto (tgt := 206) dX12_name_202 (by decide) ?_
              exact x_weak (by exact trivial) (hj206 ((((Int64.toUInt64 s6 >>> ((Int32.toInt64 (((8 : Int32)) * ((s7 - ((1 : Int32))) - a4))).toUInt64 &&& Int64.toUInt64 63)).toInt64) &&& ((255 : Int64))).toInt32))
          refine x_weak (by exact ⟨rfl, ⟨rfl, ⟨rfl, trivial⟩⟩⟩) (x_lp (σ := Int32) 151 (fun s9 => [none, none, none, none, some (.int a4), some (.long s6), none, some (.int s9)]) (fun s9 => []) (fun s9 => M4) (fun s9 j151 hj151 => ?_) 4294967296 ((0 : Int32)))
          · refine x_iload dX12_name_151 rfl ?_
            refine x_bipush (v := 8) dX12_name_153 (by decide) ?_
            refine x_icmp_ge (tgt := 177) dX12_name_155 (by decide) (fun _ => ?_) (fun _ => ?_)
            · exact x_weak (by exact ⟨rfl, ⟨rfl, ⟨rfl, trivial⟩⟩⟩) (hj177 s9)
            · refine x_lload dX12_name_158 rfl ?_
              refine x_bipush (v := 8) dX12_name_160 (by decide) ?_
              refine x_iload dX12_name_162 rfl ?_
              refine x_imul dX12_name_164 ?_
              refine x_lushr dX12_name_165 ?_
              refine x_lconst (v := 0) dX12_name_166 (by decide) ?_
              refine x_lcmp dX12_name_167 ?_
              refine x_if_eq (tgt := 177) dX12_name_168 (by decide) (fun _ => ?_) (fun _ => ?_)
              · exact x_weak (by exact ⟨rfl, ⟨rfl, ⟨rfl, trivial⟩⟩⟩) (hj177 s9)
              · refine x_iincN (v := 1) (lo' := fun x10 => [none, none, none, none, some (.int a4), some (.long s6), none, some (.int x10)]) (by decide) dX12_name_171 rfl (by decide) rfl (fun _ => rfl) (fun x10 => ?_)
                refine x_goto (tgt := 151) dX12_name_174 (by decide) ?_
                exact x_weak (by exact ⟨rfl, ⟨rfl, ⟨rfl, trivial⟩⟩⟩) (hj151 x10)
        refine x_jn (σ := Unit) 58 (fun s11 => [some (va_rf a0), some (.int a1), some (.int a2), some (.int a3), some (.int a4), some (.long ((0 : Int64))), none, none]) (fun s11 => []) (fun s11 => M4) (fun s11 => ?_) (fun j58 hj58 => ?_)
        · refine x_iload_n dX12_name_58 rfl ?_
          refine x_iconst (v := 1) dX12_name_59 (by decide) ?_
          refine x_jn (σ := Unit) 89 (fun s12 => [some (va_rf a0), some (.int a1), some (.int a2), some (.int a3), some (.int a4), some (.long ((0 : Int64))), none, none]) (fun s12 => []) (fun s12 => M4) (fun s12 => ?_) (fun j89 hj89 => ?_)
          · refine x_iload_n dX12_name_89 rfl ?_
            refine x_iconst (v := 2) dX12_name_90 (by decide) ?_
            refine x_jn (σ := Unit) 120 (fun s13 => [some (va_rf a0), some (.int a1), some (.int a2), some (.int a3), some (.int a4), some (.long ((0 : Int64))), none, none]) (fun s13 => []) (fun s13 => M4) (fun s13 => ?_) (fun j120 hj120 => ?_)
            · refine x_iload_n dX12_name_120 rfl ?_
              refine x_iconst (v := 3) dX12_name_121 (by decide) ?_
              refine x_icmp_ne (tgt := 148) dX12_name_122 (by decide) (fun _ => ?_) (fun _ => ?_)
              · refine x_iload_n dX12_name_125 rfl ?_
                refine x_aload_n dX12_name_126 rfl ?_
                refine gfX12_82 rfl dX12_name_127 (fun x14 => ?_)
                refine x_iload_n dX12_name_130 rfl ?_
                refine x_iald dX12_name_131 (fun x15 => ?_)
                refine x_icmp_ge (tgt := 148) dX12_name_132 (by decide) (fun _ => ?_) (fun _ => ?_)
                · exact x_weak (by exact ⟨rfl, ⟨rfl, trivial⟩⟩) (hj148 ((0 : Int64)))
                · refine x_aload_n dX12_name_135 rfl ?_
                  refine gfX12_85 rfl dX12_name_136 (fun x16 => ?_)
                  refine x_bipush (v := 6) dX12_name_139 (by decide) ?_
                  refine x_iload_n dX12_name_141 rfl ?_
                  refine x_imul dX12_name_142 ?_
                  refine x_iload_n dX12_name_143 rfl ?_
                  refine x_iadd dX12_name_144 ?_
                  refine x_lald dX12_name_145 (fun x17 => ?_)
                  refine x_lstore (lo' := [some (va_rf a0), some (.int a1), some (.int a2), some (.int a3), some (.int a4), some (.long x17), none, none]) dX12_name_146 (by decide) rfl rfl ?_
                  exact x_weak (by exact ⟨rfl, ⟨rfl, trivial⟩⟩) (hj148 x17)
              · exact x_weak (by exact ⟨rfl, ⟨rfl, trivial⟩⟩) (hj148 ((0 : Int64)))
            refine x_icmp_ne (tgt := 120) dX12_name_91 (by decide) (fun _ => ?_) (fun _ => ?_)
            · refine x_iload_n dX12_name_94 rfl ?_
              refine x_aload_n dX12_name_95 rfl ?_
              refine gfX12_58 rfl dX12_name_96 (fun x18 => ?_)
              refine x_iload_n dX12_name_99 rfl ?_
              refine x_iald dX12_name_100 (fun x19 => ?_)
              refine x_icmp_ge (tgt := 120) dX12_name_101 (by decide) (fun _ => ?_) (fun _ => ?_)
              · exact x_weak (by exact ⟨rfl, ⟨rfl, ⟨rfl, ⟨rfl, ⟨rfl, ⟨rfl, trivial⟩⟩⟩⟩⟩⟩) (hj120 ())
              · refine x_aload_n dX12_name_104 rfl ?_
                refine gfX12_61 rfl dX12_name_105 (fun x20 => ?_)
                refine x_bipush (v := 16) dX12_name_108 (by decide) ?_
                refine x_iload_n dX12_name_110 rfl ?_
                refine x_imul dX12_name_111 ?_
                refine x_iload_n dX12_name_112 rfl ?_
                refine x_iadd dX12_name_113 ?_
                refine x_lald dX12_name_114 (fun x21 => ?_)
                refine x_lstore (lo' := [some (va_rf a0), some (.int a1), some (.int a2), some (.int a3), some (.int a4), some (.long x21), none, none]) dX12_name_115 (by decide) rfl rfl ?_
                refine x_goto (tgt := 148) dX12_name_117 (by decide) ?_
                exact x_weak (by exact ⟨rfl, ⟨rfl, trivial⟩⟩) (hj148 x21)
            · exact x_weak (by exact ⟨rfl, ⟨rfl, ⟨rfl, ⟨rfl, ⟨rfl, ⟨rfl, trivial⟩⟩⟩⟩⟩⟩) (hj120 ())
          refine x_icmp_ne (tgt := 89) dX12_name_60 (by decide) (fun _ => ?_) (fun _ => ?_)
          · refine x_iload_n dX12_name_63 rfl ?_
            refine x_aload_n dX12_name_64 rfl ?_
            refine gfX12_36 rfl dX12_name_65 (fun x22 => ?_)
            refine x_iload_n dX12_name_68 rfl ?_
            refine x_iald dX12_name_69 (fun x23 => ?_)
            refine x_icmp_ge (tgt := 89) dX12_name_70 (by decide) (fun _ => ?_) (fun _ => ?_)
            · exact x_weak (by exact ⟨rfl, ⟨rfl, ⟨rfl, ⟨rfl, ⟨rfl, ⟨rfl, trivial⟩⟩⟩⟩⟩⟩) (hj89 ())
            · refine x_aload_n dX12_name_73 rfl ?_
              refine gfX12_39 rfl dX12_name_74 (fun x24 => ?_)
              refine x_bipush (v := 96) dX12_name_77 (by decide) ?_
              refine x_iload_n dX12_name_79 rfl ?_
              refine x_imul dX12_name_80 ?_
              refine x_iload_n dX12_name_81 rfl ?_
              refine x_iadd dX12_name_82 ?_
              refine x_lald dX12_name_83 (fun x25 => ?_)
              refine x_lstore (lo' := [some (va_rf a0), some (.int a1), some (.int a2), some (.int a3), some (.int a4), some (.long x25), none, none]) dX12_name_84 (by decide) rfl rfl ?_
              refine x_goto (tgt := 148) dX12_name_86 (by decide) ?_
              exact x_weak (by exact ⟨rfl, ⟨rfl, trivial⟩⟩) (hj148 x25)
          · exact x_weak (by exact ⟨rfl, ⟨rfl, ⟨rfl, ⟨rfl, ⟨rfl, ⟨rfl, trivial⟩⟩⟩⟩⟩⟩) (hj89 ())
        refine x_if_ne (tgt := 58) dX12_name_29 (by decide) (fun _ => ?_) (fun _ => ?_)
        · refine x_iload_n dX12_name_32 rfl ?_
          refine x_aload_n dX12_name_33 rfl ?_
          refine gfX12_13 rfl dX12_name_34 (fun x26 => ?_)
          refine x_iload_n dX12_name_37 rfl ?_
          refine x_iald dX12_name_38 (fun x27 => ?_)
          refine x_icmp_ge (tgt := 58) dX12_name_39 (by decide) (fun _ => ?_) (fun _ => ?_)
          · exact x_weak (by exact ⟨rfl, ⟨rfl, ⟨rfl, ⟨rfl, ⟨rfl, ⟨rfl, trivial⟩⟩⟩⟩⟩⟩) (hj58 ())
          · refine x_aload_n dX12_name_42 rfl ?_
            refine gfX12_17 rfl dX12_name_43 (fun x28 => ?_)
            refine x_bipush (v := 8) dX12_name_46 (by decide) ?_
            refine x_iload_n dX12_name_48 rfl ?_
            refine x_imul dX12_name_49 ?_
            refine x_iload_n dX12_name_50 rfl ?_
            refine x_iadd dX12_name_51 ?_
            refine x_lald dX12_name_52 (fun x29 => ?_)
            refine x_lstore (lo' := [some (va_rf a0), some (.int a1), some (.int a2), some (.int a3), some (.int a4), some (.long x29), none, none]) dX12_name_53 (by decide) rfl rfl ?_
            refine x_goto (tgt := 148) dX12_name_55 (by decide) ?_
            exact x_weak (by exact ⟨rfl, ⟨rfl, trivial⟩⟩) (hj148 x29)
        · exact x_weak (by exact ⟨rfl, ⟨rfl, ⟨rfl, ⟨rfl, ⟨rfl, ⟨rfl, trivial⟩⟩⟩⟩⟩⟩) (hj58 ())
theorem s266 {l : Launch} {d : Nat} {rec : Nat → List Value → Mem → XA} (hS : Nonempty XS) (hs : XSnd l xmt rec d) : Snd1 l 266 (b266 rec) d := by
  intro as M r M' h0
  unfold b266 at h0
  obtain ⟨a0, l1, e1, h1⟩ := aR_inv h0
  obtain ⟨a1, l2, e2, h2⟩ := aI_inv h1
  obtain ⟨a2, l3, e3, h3⟩ := aI_inv h2
  obtain ⟨a3, l4, e4, h4⟩ := aI_inv h3
  obtain ⟨a4, l5, e5, h5⟩ := aI_inv h4
  obtain ⟨ez, h⟩ := aZ_inv h5
  subst ez
  subst e5
  subst e4
  subst e3
  subst e2
  subst e1
  exact xmet (M := M) (as := [va_rf a0, .int a1, .int a2, .int a3, .int a4]) (lo := [some (va_rf a0), some (.int a1), some (.int a2), some (.int a3), some (.int a4)]) 266 xq266 xm266 (by rw [xargs_rf, xargs_i, xargs_i, xargs_i, xargs_i, xargs_nil]; exact ⟨rfl, ⟨rfl, ⟨rfl, ⟨rfl, ⟨rfl, trivial⟩⟩⟩⟩⟩) (by rw [xargs_rf, xargs_i, xargs_i, xargs_i, xargs_i, xargs_nil]; exact Nat.le_of_ble_eq_true rfl) (fun S G K => x_weak (by exact ⟨rfl, ⟨rfl, ⟨rfl, ⟨rfl, ⟨rfl, trivial⟩⟩⟩⟩⟩) (k266 hs a0 a1 a2 a3 a4 M)) h hS
set_option maxRecDepth 100000 in
def c267 (rec : Nat → List Value → Mem → XA) (a0 : Option Nat) (a1 : Int32) (a2 : Int32) (a3 : Int32) (M0 : Mem) : XA :=
  vC (13, 157) M0 a0 <|
  cI (rec 255 [va_rf a0, .int a1] M0) fun x2 M1 =>
  jn (fun (s3 : Mem) =>
    some (.int ((-1 : Int32)), s3)) fun j33 =>
  if x2 = 0 then (
    j33 M1) else (
    gtP (13, 157) M1 a0 29 fun x4 =>
    alI 100 M1 x4 a1 fun x5 =>
    cI (rec 184 [.int a2, .int ((0 : Int32)), .int (x5 - ((1 : Int32)))] M1) fun x7 M6 =>
    if x7 = 0 then (
      j33 M6) else (
      cI (rec 184 [.int a3, .int ((0 : Int32)), .int ((1 : Int32))] M6) fun x9 M8 =>
      if x9 = 0 then (
        j33 M8) else (
        gtP (13, 157) M8 a0 30 fun x10 =>
        alI 101 M8 x10 ((((1000 : Int32)) * a1) + a2) fun x11 =>
        jn (fun (s12 : Int32) =>
          jn (fun (s13 : Int32) =>
            some (.int s13, M8)) fun j107 =>
          if a3 = 0 then (
            j107 x11) else (
            if s12 = 0 then (
              j107 ((0 : Int32))) else (
              gtP (13, 157) M8 a0 31 fun x14 =>
              alI 100 M8 x14 ((((1000 : Int32)) * a1) + a2) fun x15 =>
              j107 x15))) fun j75 =>
        jn (fun (s16 : Unit) =>
          j75 ((1 : Int32))) fun j70 =>
        if x11 ≤ ((7 : Int32)) then (
          j70 ()) else (
          jn (fun (s17 : Unit) =>
            j75 ((0 : Int32))) fun j74 =>
          if x11 < ((24 : Int32)) then (
            j74 ()) else (
            if ((26 : Int32)) < x11 then (
              j74 ()) else (
              j70 ()))))))
def b267 (rec : Nat → List Value → Mem → XA) (as : List Value) (M0 : Mem) : XA := aR as fun a0 as => aI as fun a1 as => aI as fun a2 as => aI as fun a3 as => aZ as (c267 rec a0 a1 a2 a3 M0)
set_option maxRecDepth 100000 in
set_option maxHeartbeats 4000000 in
theorem k267 {S : XS} {G : XG} {K : Nat × Nat} {l : Launch} {d : Nat} {rec : Nat → List Value → Mem → XA} (hs : XSnd l xmt rec d) (a0 : Option Nat) (a1 : Int32) (a2 : Int32) (a3 : Int32) (M0 : Mem) : Xe S G K l (yX12_code_, cX12_code_, 6, some .int) d 0 [some (va_rf a0), some (.int a1), some (.int a2), some (.int a3), none, none] [] M0 (c267 rec a0 a1 a2 a3 M0) := by
  unfold c267
  refine x_aload_n dX12_code__0 rfl ?_
  refine x_iload_n dX12_code__1 rfl ?_
  refine cmX12_735 rfl hs (Nat.le_of_ble_eq_true rfl) dX12_code__2 (fun x2 M1 => ?_)
  refine x_jn (σ := Mem) 33 (fun s3 => [none, none, none, none, none, none]) (fun s3 => []) (fun s3 => s3) (fun s3 => ?_) (fun j33 hj33 => ?_)
  · refine x_iconst (v := -1) dX12_code__33 (by decide) ?_
    exact x_iret rfl dX12_code__34
  refine x_if_eq (tgt := 33) dX12_code__5 (by decide) (fun _ => ?_) (fun _ => ?_)
  · exact x_weak (by exact trivial) (hj33 M1)
  · refine x_iload_n dX12_code__8 rfl ?_
    refine x_iconst (v := 0) dX12_code__9 (by decide) ?_
    refine x_aload_n dX12_code__10 rfl ?_
    refine gfX12_94 rfl dX12_code__11 (fun x4 => ?_)
    refine x_iload_n dX12_code__14 rfl ?_
    refine x_iald dX12_code__15 (fun x5 => ?_)
    refine x_iconst (v := 1) dX12_code__16 (by decide) ?_
    refine x_isub dX12_code__17 ?_
    refine cmX12_381 rfl hs (Nat.le_of_ble_eq_true rfl) dX12_code__18 (fun x7 M6 => ?_)
    refine x_if_eq (tgt := 33) dX12_code__21 (by decide) (fun _ => ?_) (fun _ => ?_)
    · exact x_weak (by exact trivial) (hj33 M6)
    · refine x_iload_n dX12_code__24 rfl ?_
      refine x_iconst (v := 0) dX12_code__25 (by decide) ?_
      refine x_iconst (v := 1) dX12_code__26 (by decide) ?_
      refine cmX12_381 rfl hs (Nat.le_of_ble_eq_true rfl) dX12_code__27 (fun x9 M8 => ?_)
      refine x_if_ne (tgt := 35) dX12_code__30 (by decide) (fun _ => ?_) (fun _ => ?_)
      · exact x_weak (by exact trivial) (hj33 M8)
      · refine x_aload_n dX12_code__35 rfl ?_
        refine gfX12_97 rfl dX12_code__36 (fun x10 => ?_)
        refine x_sipush (v := 1000) dX12_code__39 (by decide) ?_
        refine x_iload_n dX12_code__42 rfl ?_
        refine x_imul dX12_code__43 ?_
        refine x_iload_n dX12_code__44 rfl ?_
        refine x_iadd dX12_code__45 ?_
        refine x_bald dX12_code__46 (fun x11 => ?_)
        refine x_istore (lo' := [some (va_rf a0), some (.int a1), some (.int a2), some (.int a3), some (.int x11), none]) dX12_code__47 (by decide) rfl rfl ?_
        refine x_iload dX12_code__49 rfl ?_
        refine x_bipush (v := 7) dX12_code__51 (by decide) ?_
        refine x_jn (σ := Int32) 75 (fun s12 => [some (va_rf a0), some (.int a1), some (.int a2), some (.int a3), some (.int x11), none]) (fun s12 => [.int s12]) (fun s12 => M8) (fun s12 => ?_) (fun j75 hj75 => ?_)
        · refine x_istore (lo' := [some (va_rf a0), some (.int a1), some (.int a2), some (.int a3), some (.int x11), some (.int s12)]) dX12_code__75 (by decide) rfl rfl ?_
          refine x_iload_n dX12_code__77 rfl ?_
          refine x_jn (σ := Int32) 107 (fun s13 => [none, none, none, none, none, none]) (fun s13 => [.int s13]) (fun s13 => M8) (fun s13 => ?_) (fun j107 hj107 => ?_)
          · exact x_iret rfl dX12_code__107
          refine x_if_ne (tgt := 86) dX12_code__78 (by decide) (fun _ => ?_) (fun _ => ?_)
          · refine x_iload dX12_code__81 rfl ?_
            refine x_goto (tgt := 107) dX12_code__83 (by decide) ?_
            exact x_weak (by exact trivial) (hj107 x11)
          · refine x_iload dX12_code__86 rfl ?_
            refine x_if_eq (tgt := 106) dX12_code__88 (by decide) (fun _ => ?_) (fun _ => ?_)
            · refine x_iconst (v := 0) dX12_code__106 (by decide) ?_
              exact x_weak (by exact trivial) (hj107 ((0 : Int32)))
            · refine x_aload_n dX12_code__91 rfl ?_
              refine gfX12_100 rfl dX12_code__92 (fun x14 => ?_)
              refine x_sipush (v := 1000) dX12_code__95 (by decide) ?_
              refine x_iload_n dX12_code__98 rfl ?_
              refine x_imul dX12_code__99 ?_
              refine x_iload_n dX12_code__100 rfl ?_
              refine x_iadd dX12_code__101 ?_
              refine x_iald dX12_code__102 (fun x15 => ?_)
              refine x_goto (tgt := 107) dX12_code__103 (by decide) ?_
              exact x_weak (by exact trivial) (hj107 x15)
        refine x_jn (σ := Unit) 70 (fun s16 => [some (va_rf a0), some (.int a1), some (.int a2), some (.int a3), some (.int x11), none]) (fun s16 => []) (fun s16 => M8) (fun s16 => ?_) (fun j70 hj70 => ?_)
        · refine x_iconst (v := 1) dX12_code__70 (by decide) ?_
          refine x_goto (tgt := 75) dX12_code__71 (by decide) ?_
          exact x_weak (by exact ⟨rfl, ⟨rfl, ⟨rfl, ⟨rfl, ⟨rfl, trivial⟩⟩⟩⟩⟩) (hj75 ((1 : Int32)))
        refine x_icmp_le (tgt := 70) dX12_code__53 (by decide) (fun _ => ?_) (fun _ => ?_)
        · exact x_weak (by exact ⟨rfl, ⟨rfl, ⟨rfl, ⟨rfl, ⟨rfl, trivial⟩⟩⟩⟩⟩) (hj70 ())
        · refine x_iload dX12_code__56 rfl ?_
          refine x_bipush (v := 24) dX12_code__58 (by decide) ?_
          refine x_jn (σ := Unit) 74 (fun s17 => [some (va_rf a0), some (.int a1), some (.int a2), some (.int a3), some (.int x11), none]) (fun s17 => []) (fun s17 => M8) (fun s17 => ?_) (fun j74 hj74 => ?_)
          · refine x_iconst (v := 0) dX12_code__74 (by decide) ?_
            exact x_weak (by exact ⟨rfl, ⟨rfl, ⟨rfl, ⟨rfl, ⟨rfl, trivial⟩⟩⟩⟩⟩) (hj75 ((0 : Int32)))
          refine x_icmp_lt (tgt := 74) dX12_code__60 (by decide) (fun _ => ?_) (fun _ => ?_)
          · exact x_weak (by exact ⟨rfl, ⟨rfl, ⟨rfl, ⟨rfl, ⟨rfl, trivial⟩⟩⟩⟩⟩) (hj74 ())
          · refine x_iload dX12_code__63 rfl ?_
            refine x_bipush (v := 26) dX12_code__65 (by decide) ?_
            refine x_icmp_gt (tgt := 74) dX12_code__67 (by decide) (fun _ => ?_) (fun _ => ?_)
            · exact x_weak (by exact ⟨rfl, ⟨rfl, ⟨rfl, ⟨rfl, ⟨rfl, trivial⟩⟩⟩⟩⟩) (hj74 ())
            · exact x_weak (by exact ⟨rfl, ⟨rfl, ⟨rfl, ⟨rfl, ⟨rfl, trivial⟩⟩⟩⟩⟩) (hj70 ())
theorem s267 {l : Launch} {d : Nat} {rec : Nat → List Value → Mem → XA} (hS : Nonempty XS) (hs : XSnd l xmt rec d) : Snd1 l 267 (b267 rec) d := by
  intro as M r M' h0
  unfold b267 at h0
  obtain ⟨a0, l1, e1, h1⟩ := aR_inv h0
  obtain ⟨a1, l2, e2, h2⟩ := aI_inv h1
  obtain ⟨a2, l3, e3, h3⟩ := aI_inv h2
  obtain ⟨a3, l4, e4, h4⟩ := aI_inv h3
  obtain ⟨ez, h⟩ := aZ_inv h4
  subst ez
  subst e4
  subst e3
  subst e2
  subst e1
  exact xmet (M := M) (as := [va_rf a0, .int a1, .int a2, .int a3]) (lo := [some (va_rf a0), some (.int a1), some (.int a2), some (.int a3)]) 267 xq267 xm267 (by rw [xargs_rf, xargs_i, xargs_i, xargs_i, xargs_nil]; exact ⟨rfl, ⟨rfl, ⟨rfl, ⟨rfl, trivial⟩⟩⟩⟩) (by rw [xargs_rf, xargs_i, xargs_i, xargs_i, xargs_nil]; exact Nat.le_of_ble_eq_true rfl) (fun S G K => x_weak (by exact ⟨rfl, ⟨rfl, ⟨rfl, ⟨rfl, trivial⟩⟩⟩⟩) (k267 hs a0 a1 a2 a3 M)) h hS
set_option maxRecDepth 100000 in
def c268 (rec : Nat → List Value → Mem → XA) (a0 : Option Nat) (a1 : Int32) (M0 : Mem) : XA :=
  cI (rec 184 [.int a1, .int ((1 : Int32)), .int ((1000 : Int32))] M0) fun x2 M1 =>
  if x2 = 0 then (
    some (.int ((-1 : Int32)), M1)) else (
    gtI (13, 157) M1 a0 77 fun x3 =>
    ptI (13, 157) M1 a0 77 a1 fun M4 =>
    some (.int x3, M4))
def b268 (rec : Nat → List Value → Mem → XA) (as : List Value) (M0 : Mem) : XA := aR as fun a0 as => aI as fun a1 as => aZ as (c268 rec a0 a1 M0)
set_option maxRecDepth 100000 in
set_option maxHeartbeats 4000000 in
theorem k268 {S : XS} {G : XG} {K : Nat × Nat} {l : Launch} {d : Nat} {rec : Nat → List Value → Mem → XA} (hs : XSnd l xmt rec d) (a0 : Option Nat) (a1 : Int32) (M0 : Mem) : Xe S G K l (yX12_steps, cX12_steps, 3, some .int) d 0 [some (va_rf a0), some (.int a1), none] [] M0 (c268 rec a0 a1 M0) := by
  unfold c268
  refine x_iload_n dX12_steps_0 rfl ?_
  refine x_iconst (v := 1) dX12_steps_1 (by decide) ?_
  refine x_sipush (v := 1000) dX12_steps_2 (by decide) ?_
  refine cmX12_381 rfl hs (Nat.le_of_ble_eq_true rfl) dX12_steps_5 (fun x2 M1 => ?_)
  refine x_if_ne (tgt := 13) dX12_steps_8 (by decide) (fun _ => ?_) (fun _ => ?_)
  · refine x_iconst (v := -1) dX12_steps_11 (by decide) ?_
    exact x_iret rfl dX12_steps_12
  · refine x_aload_n dX12_steps_13 rfl ?_
    refine gfX12_239 rfl dX12_steps_14 (fun x3 => ?_)
    refine x_istore_n (lo' := [some (va_rf a0), some (.int a1), some (.int x3)]) dX12_steps_17 (by decide) rfl rfl ?_
    refine x_aload_n dX12_steps_18 rfl ?_
    refine x_iload_n dX12_steps_19 rfl ?_
    refine pfX12_239 rfl dX12_steps_20 (fun M4 => ?_)
    refine x_iload_n dX12_steps_23 rfl ?_
    exact x_iret rfl dX12_steps_24
theorem s268 {l : Launch} {d : Nat} {rec : Nat → List Value → Mem → XA} (hS : Nonempty XS) (hs : XSnd l xmt rec d) : Snd1 l 268 (b268 rec) d := by
  intro as M r M' h0
  unfold b268 at h0
  obtain ⟨a0, l1, e1, h1⟩ := aR_inv h0
  obtain ⟨a1, l2, e2, h2⟩ := aI_inv h1
  obtain ⟨ez, h⟩ := aZ_inv h2
  subst ez
  subst e2
  subst e1
  exact xmet (M := M) (as := [va_rf a0, .int a1]) (lo := [some (va_rf a0), some (.int a1)]) 268 xq268 xm268 (by rw [xargs_rf, xargs_i, xargs_nil]; exact ⟨rfl, ⟨rfl, trivial⟩⟩) (by rw [xargs_rf, xargs_i, xargs_nil]; exact Nat.le_of_ble_eq_true rfl) (fun S G K => x_weak (by exact ⟨rfl, ⟨rfl, trivial⟩⟩) (k268 hs a0 a1 M)) h hS
set_option maxRecDepth 100000 in
def c269 (rec : Nat → List Value → Mem → XA) (a0 : Option Nat) (a1 : Int32) (M0 : Mem) : XA :=
  gtI (13, 157) M0 a0 78 fun x1 =>
  ptI (13, 157) M0 a0 78 a1 fun M2 =>
  some (.int x1, M2)
def b269 (rec : Nat → List Value → Mem → XA) (as : List Value) (M0 : Mem) : XA := aR as fun a0 as => aI as fun a1 as => aZ as (c269 rec a0 a1 M0)
set_option maxRecDepth 100000 in
set_option maxHeartbeats 4000000 in
theorem k269 {S : XS} {G : XG} {K : Nat × Nat} {l : Launch} {d : Nat} {rec : Nat → List Value → Mem → XA} (hs : XSnd l xmt rec d) (a0 : Option Nat) (a1 : Int32) (M0 : Mem) : Xe S G K l (yX12_seed, cX12_seed, 3, some .int) d 0 [some (va_rf a0), some (.int a1), none] [] M0 (c269 rec a0 a1 M0) := by
  unfold c269
  refine x_aload_n dX12_seed_0 rfl ?_
  refine gfX12_243 rfl dX12_seed_1 (fun x1 => ?_)
  refine x_istore_n (lo' := [some (va_rf a0), some (.int a1), some (.int x1)]) dX12_seed_4 (by decide) rfl rfl ?_
  refine x_aload_n dX12_seed_5 rfl ?_
  refine x_iload_n dX12_seed_6 rfl ?_
  refine pfX12_243 rfl dX12_seed_7 (fun M2 => ?_)
  refine x_iload_n dX12_seed_10 rfl ?_
  exact x_iret rfl dX12_seed_11
theorem s269 {l : Launch} {d : Nat} {rec : Nat → List Value → Mem → XA} (hS : Nonempty XS) (hs : XSnd l xmt rec d) : Snd1 l 269 (b269 rec) d := by
  intro as M r M' h0
  unfold b269 at h0
  obtain ⟨a0, l1, e1, h1⟩ := aR_inv h0
  obtain ⟨a1, l2, e2, h2⟩ := aI_inv h1
  obtain ⟨ez, h⟩ := aZ_inv h2
  subst ez
  subst e2
  subst e1
  exact xmet (M := M) (as := [va_rf a0, .int a1]) (lo := [some (va_rf a0), some (.int a1)]) 269 xq269 xm269 (by rw [xargs_rf, xargs_i, xargs_nil]; exact ⟨rfl, ⟨rfl, trivial⟩⟩) (by rw [xargs_rf, xargs_i, xargs_nil]; exact Nat.le_of_ble_eq_true rfl) (fun S G K => x_weak (by exact ⟨rfl, ⟨rfl, trivial⟩⟩) (k269 hs a0 a1 M)) h hS
