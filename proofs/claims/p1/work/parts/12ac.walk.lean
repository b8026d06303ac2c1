set_option maxRecDepth 100000 in
def c32 (rec : Nat → List Value → Mem → XA) (a0 : Option Nat) (a1 : Int32) (M0 : Mem) : XA :=
  gtI (4, 22) M0 a0 12 fun x1 =>
  jn (fun (s2 : Mem) =>
    some (.null, s2)) fun j39 =>
  if x1 < 0 then (
    j39 M0) else (
    gtI (4, 22) M0 a0 12 fun x3 =>
    gtP (4, 22) M0 a0 11 fun x4 =>
    aln M0 x4 fun x5 =>
    if x5 ≤ x3 then (
      j39 M0) else (
      gtP (4, 22) M0 a0 11 fun x6 =>
      gtI (4, 22) M0 a0 12 fun x7 =>
      asI 100 M0 x6 x7 a1 fun M8 =>
      gtI (4, 22) M8 a0 12 fun x9 =>
      ptI (4, 22) M8 a0 12 (x9 + ((1 : Int32))) fun M10 =>
      j39 M10))
def b32 (rec : Nat → List Value → Mem → XA) (as : List Value) (M0 : Mem) : XA := aR as fun a0 as => aI as fun a1 as => aZ as (c32 rec a0 a1 M0)
set_option maxRecDepth 100000 in
set_option maxHeartbeats 4000000 in
theorem k32 {S : XS} {G : XG} {K : Nat × Nat} {l : Launch} {d : Nat} {rec : Nat → List Value → Mem → XA} (hs : XSnd l xmt rec d) (a0 : Option Nat) (a1 : Int32) (M0 : Mem) : Xe S G K l (yX3_push, cX3_push, 2, none) d 0 [some (va_rf a0), some (.int a1)] [] M0 (c32 rec a0 a1 M0) := by
  unfold c32
  refine x_aload_n dX3_push_0 rfl ?_
  refine gfX3_206 rfl dX3_push_1 (fun x1 => ?_)
  refine x_jn (σ := Mem) 39 (fun s2 => [none, none]) (fun s2 => []) (fun s2 => s2) (fun s2 => ?_) (fun j39 hj39 => ?_)
  · exact x_vret rfl dX3_push_39
  refine x_if_lt (tgt := 39) dX3_push_4 (by decide) (fun _ => ?_) (fun _ => ?_)
  · exact x_weak (by exact trivial) (hj39 M0)
  · refine x_aload_n dX3_push_7 rfl ?_
    refine gfX3_206 rfl dX3_push_8 (fun x3 => ?_)
    refine x_aload_n dX3_push_11 rfl ?_
    refine gfX3_37 rfl dX3_push_12 (fun x4 => ?_)
    refine x_alen dX3_push_15 (fun x5 => ?_)
    refine x_icmp_ge (tgt := 39) dX3_push_16 (by decide) (fun _ => ?_) (fun _ => ?_)
    · exact x_weak (by exact trivial) (hj39 M0)
    · refine x_aload_n dX3_push_19 rfl ?_
      refine gfX3_37 rfl dX3_push_20 (fun x6 => ?_)
      refine x_aload_n dX3_push_23 rfl ?_
      refine gfX3_206 rfl dX3_push_24 (fun x7 => ?_)
      refine x_iload_n dX3_push_27 rfl ?_
      refine x_iast dX3_push_28 (fun M8 => ?_)
      refine x_aload_n dX3_push_29 rfl ?_
      refine x_dup dX3_push_30 (xc1_r _) ?_
      refine gfX3_206 rfl dX3_push_31 (fun x9 => ?_)
      refine x_iconst (v := 1) dX3_push_34 (by decide) ?_
      refine x_iadd dX3_push_35 ?_
      refine pfX3_206 rfl dX3_push_36 (fun M10 => ?_)
      exact x_weak (by exact trivial) (hj39 M10)
theorem s32 {l : Launch} {d : Nat} {rec : Nat → List Value → Mem → XA} (hS : Nonempty XS) (hs : XSnd l xmt rec d) : Snd1 l 32 (b32 rec) d := by
  intro as M r M' h0
  unfold b32 at h0
  obtain ⟨a0, l1, e1, h1⟩ := aR_inv h0
  obtain ⟨a1, l2, e2, h2⟩ := aI_inv h1
  obtain ⟨ez, h⟩ := aZ_inv h2
  subst ez
  subst e2
  subst e1
  exact xmet (M := M) (as := [va_rf a0, .int a1]) (lo := [some (va_rf a0), some (.int a1)]) 32 xq32 xm32 (by rw [xargs_rf, xargs_i, xargs_nil]; exact ⟨rfl, ⟨rfl, trivial⟩⟩) (by rw [xargs_rf, xargs_i, xargs_nil]; exact Nat.le_of_ble_eq_true rfl) (fun S G K => x_weak (by exact ⟨rfl, ⟨rfl, trivial⟩⟩) (k32 hs a0 a1 M)) h hS
set_option maxRecDepth 100000 in
def c33 (rec : Nat → List Value → Mem → XA) (a0 : Option Nat) (M0 : Mem) : XA :=
  gtI (4, 22) M0 a0 12 fun x1 =>
  jn (fun (s2 : Unit) =>
    some (.int ((0 : Int32)), M0)) fun j19 =>
  if x1 ≤ 0 then (
    j19 ()) else (
    gtI (4, 22) M0 a0 12 fun x3 =>
    gtP (4, 22) M0 a0 11 fun x4 =>
    aln M0 x4 fun x5 =>
    if x3 ≤ x5 then (
      gtI (4, 22) M0 a0 12 fun x6 =>
      ptI (4, 22) M0 a0 12 (x6 - ((1 : Int32))) fun M7 =>
      gtP (4, 22) M7 a0 11 fun x8 =>
      gtI (4, 22) M7 a0 12 fun x9 =>
      alI 100 M7 x8 x9 fun x10 =>
      some (.int x10, M7)) else (
      j19 ()))
def b33 (rec : Nat → List Value → Mem → XA) (as : List Value) (M0 : Mem) : XA := aR as fun a0 as => aZ as (c33 rec a0 M0)
set_option maxRecDepth 100000 in
set_option maxHeartbeats 4000000 in
theorem k33 {S : XS} {G : XG} {K : Nat × Nat} {l : Launch} {d : Nat} {rec : Nat → List Value → Mem → XA} (hs : XSnd l xmt rec d) (a0 : Option Nat) (M0 : Mem) : Xe S G K l (yX3_pop, cX3_pop, 1, some .int) d 0 [some (va_rf a0)] [] M0 (c33 rec a0 M0) := by
  unfold c33
  refine x_aload_n dX3_pop_0 rfl ?_
  refine gfX3_206 rfl dX3_pop_1 (fun x1 => ?_)
  refine x_jn (σ := Unit) 19 (fun s2 => [none]) (fun s2 => []) (fun s2 => M0) (fun s2 => ?_) (fun j19 hj19 => ?_)
  · refine x_iconst (v := 0) dX3_pop_19 (by decide) ?_
    exact x_iret rfl dX3_pop_20
  refine x_if_le (tgt := 19) dX3_pop_4 (by decide) (fun _ => ?_) (fun _ => ?_)
  · exact x_weak (by exact trivial) (hj19 ())
  · refine x_aload_n dX3_pop_7 rfl ?_
    refine gfX3_206 rfl dX3_pop_8 (fun x3 => ?_)
    refine x_aload_n dX3_pop_11 rfl ?_
    refine gfX3_37 rfl dX3_pop_12 (fun x4 => ?_)
    refine x_alen dX3_pop_15 (fun x5 => ?_)
    refine x_icmp_le (tgt := 21) dX3_pop_16 (by decide) (fun _ => ?_) (fun _ => ?_)
    · refine x_aload_n dX3_pop_21 rfl ?_
      refine x_dup dX3_pop_22 (xc1_r _) ?_
      refine gfX3_206 rfl dX3_pop_23 (fun x6 => ?_)
      refine x_iconst (v := 1) dX3_pop_26 (by decide) ?_
      refine x_isub dX3_pop_27 ?_
      refine pfX3_206 rfl dX3_pop_28 (fun M7 => ?_)
      refine x_aload_n dX3_pop_31 rfl ?_
      refine gfX3_37 rfl dX3_pop_32 (fun x8 => ?_)
      refine x_aload_n dX3_pop_35 rfl ?_
      refine gfX3_206 rfl dX3_pop_36 (fun x9 => ?_)
      refine x_iald dX3_pop_39 (fun x10 => ?_)
      exact x_iret rfl dX3_pop_40
    · exact x_weak (by exact trivial) (hj19 ())
theorem s33 {l : Launch} {d : Nat} {rec : Nat → List Value → Mem → XA} (hS : Nonempty XS) (hs : XSnd l xmt rec d) : Snd1 l 33 (b33 rec) d := by
  intro as M r M' h0
  unfold b33 at h0
  obtain ⟨a0, l1, e1, h1⟩ := aR_inv h0
  obtain ⟨ez, h⟩ := aZ_inv h1
  subst ez
  subst e1
  exact xmet (M := M) (as := [va_rf a0]) (lo := [some (va_rf a0)]) 33 xq33 xm33 (by rw [xargs_rf, xargs_nil]; exact ⟨rfl, trivial⟩) (by rw [xargs_rf, xargs_nil]; exact Nat.le_of_ble_eq_true rfl) (fun S G K => x_weak (by exact ⟨rfl, trivial⟩) (k33 hs a0 M)) h hS
set_option maxRecDepth 100000 in
def c34 (rec : Nat → List Value → Mem → XA) (a0 : Option Nat) (a1 : Int32) (a2 : Int32) (a3 : Option Nat) (M0 : Mem) : XA :=
  alI 100 M0 a3 ((1 : Int32)) fun x1 =>
  lt (x1 + a2) fun (x2 : Int32) =>
  alI 100 M0 a3 ((0 : Int32)) fun x3 =>
  asI 100 M0 a3 ((0 : Int32)) ((x3 + ((1 : Int32)))) fun M4 =>
  jn (fun (s5 : Mem) =>
    some (.null, s5)) fun j262 =>
  swI a1 [
   ((0 : Int32), (
      vC (4, 22) M4 a0 <|
      cV (rec 32 [va_rf a0, .int a2] M4) fun M6 =>
      j262 M6)),
   ((1 : Int32), (
      jn (fun (s7 : Int32) =>
        vC (4, 22) M4 a0 <|
        cV (rec 32 [va_rf a0, .int s7] M4) fun M8 =>
        j262 M8) fun j123 =>
      jn (fun (s9 : Unit) =>
        j123 ((0 : Int32))) fun j122 =>
      if x2 < 0 then (
        j122 ()) else (
        gtP (4, 22) M4 a0 11 fun x10 =>
        aln M4 x10 fun x11 =>
        if x11 ≤ x2 then (
          j122 ()) else (
          gtP (4, 22) M4 a0 11 fun x12 =>
          alI 100 M4 x12 x2 fun x13 =>
          j123 x13)))),
   ((2 : Int32), (
      vC (4, 22) M4 a0 <|
      cI (rec 33 [va_rf a0] M4) fun x15 M14 =>
      if x2 < 0 then (
        j262 M14) else (
        gtP (4, 22) M14 a0 11 fun x16 =>
        aln M14 x16 fun x17 =>
        if x17 ≤ x2 then (
          j262 M14) else (
          gtP (4, 22) M14 a0 11 fun x18 =>
          asI 100 M14 x18 x2 x15 fun M19 =>
          j262 M19)))),
   ((9 : Int32), (
      vC (4, 22) M4 a0 <|
      cI (rec 33 [va_rf a0] M4) fun x21 M20 =>
      j262 M20)),
   ((21 : Int32), (
      vC (4, 22) M4 a0 <|
      cI (rec 33 [va_rf a0] M4) fun x23 M22 =>
      jn (fun (s24 : Int32) =>
        vC (4, 22) M22 a0 <|
        cV (rec 32 [va_rf a0, .int s24] M22) fun M25 =>
        j262 M25) fun j196 =>
      if x23 = 0 then (
        j196 ((1 : Int32))) else (
        j196 ((0 : Int32))))),
   ((22 : Int32), (
      vC (4, 22) M4 a0 <|
      cI (rec 33 [va_rf a0] M4) fun x27 M26 =>
      vC (4, 22) M26 a0 <|
      cV (rec 32 [va_rf a0, .int (-x27)] M26) fun M28 =>
      j262 M28)),
   ((32 : Int32), (
      gtP (4, 22) M4 a0 8 fun x29 =>
      alI 100 M4 a3 ((2 : Int32)) fun x30 =>
      alP 111 M4 x29 x30 fun x31 =>
      gtP (6, 18) M4 x31 2 fun x32 =>
      cP (rec 168 [va_rf x32, .int a2] M4) fun x34 M33 =>
      gtI (4, 22) M33 a0 12 fun x35 =>
      jn (fun (s36 : Int32) =>
        ptI (4, 22) M33 a0 12 (x35 - s36) fun M37 =>
        vC (4, 22) M37 a0 <|
        cV (rec 32 [va_rf a0, .int ((0 : Int32))] M37) fun M38 =>
        j262 M38) fun j250 =>
      if x34 = none then (
        j250 ((0 : Int32))) else (
        gtI (8, 9) M33 x34 4 fun x39 =>
        j250 x39))),
   ((33 : Int32), (
      vC (4, 22) M4 a0 <|
      cI (rec 33 [va_rf a0] M4) fun x41 M40 =>
      vC (4, 22) M40 a0 <|
      cI (rec 33 [va_rf a0] M40) fun x43 M42 =>
      j262 M42))] (
    j262 M4)
def b34 (rec : Nat → List Value → Mem → XA) (as : List Value) (M0 : Mem) : XA := aR as fun a0 as => aI as fun a1 as => aI as fun a2 as => aR as fun a3 as => aZ as (c34 rec a0 a1 a2 a3 M0)
set_option maxRecDepth 100000 in
set_option maxHeartbeats 4000000 in
theorem k34 {S : XS} {G : XG} {K : Nat × Nat} {l : Launch} {d : Nat} {rec : Nat → List Value → Mem → XA} (hs : XSnd l xmt rec d) (a0 : Option Nat) (a1 : Int32) (a2 : Int32) (a3 : Option Nat) (M0 : Mem) : Xe S G K l (yX3_doPlain, cX3_doPlain, 7, none) d 0 [some (va_rf a0), some (.int a1), some (.int a2), some (va_rf a3), none, none, none] [] M0 (c34 rec a0 a1 a2 a3 M0) := by
  unfold c34
  refine x_aload_n dX3_doPlain_0 rfl ?_
  refine x_iconst (v := 1) dX3_doPlain_1 (by decide) ?_
  refine x_iald dX3_doPlain_2 (fun x1 => ?_)
  refine x_iload_n dX3_doPlain_3 rfl ?_
  refine x_iadd dX3_doPlain_4 ?_
  refine x_ltI (fun x2 => ?_)
  refine x_istore (lo' := [some (va_rf a0), some (.int a1), some (.int a2), some (va_rf a3), some (.int x2), none, none]) dX3_doPlain_5 (by decide) (xok_r rfl) rfl ?_
  refine x_aload_n dX3_doPlain_7 rfl ?_
  refine x_iconst (v := 0) dX3_doPlain_8 (by decide) ?_
  refine x_dup2 dX3_doPlain_9 (xc1_i _) (xc1_r _) ?_
  refine x_iald dX3_doPlain_10 (fun x3 => ?_)
  refine x_iconst (v := 1) dX3_doPlain_11 (by decide) ?_
  refine x_iadd dX3_doPlain_12 ?_
  refine x_iast dX3_doPlain_13 (fun M4 => ?_)
  refine x_iload_n dX3_doPlain_14 rfl ?_
  refine x_jn (σ := Mem) 262 (fun s5 => [none, none, none, none, none, none, none]) (fun s5 => []) (fun s5 => s5) (fun s5 => ?_) (fun j262 hj262 => ?_)
  · exact x_vret rfl dX3_doPlain_262
  refine x_lookup (tgt := 262) dX3_doPlain_15 [(0, 88), (1, 96), (2, 129), (9, 162), (21, 183), (22, 202), (32, 214), (33, 170)] (by decide +kernel) (by decide +kernel) (by decide) ?_ ?_
  · refine swG_d (by decide) ?_ (swG_d (by decide) ?_ (swG_d (by decide) ?_ (swG_d (by decide) ?_ (swG_d (by decide) ?_ (swG_d (by decide) ?_ (swG_d (by decide) ?_ (swG_d (by decide) ?_ (trivial))))))))
    · refine x_aload_n dX3_doPlain_88 rfl ?_
      refine x_iload_n dX3_doPlain_89 rfl ?_
      refine cmX3_255 rfl hs (Nat.le_of_ble_eq_true rfl) dX3_doPlain_90 (fun M6 => ?_)
      refine x_goto (tgt := 262) dX3_doPlain_93 (by decide) ?_
      exact x_weak (by exact trivial) (hj262 M6)
    · refine x_aload_n dX3_doPlain_96 rfl ?_
      refine x_iload dX3_doPlain_97 rfl ?_
      refine x_jn (σ := Int32) 123 (fun s7 => [none, none, none, none, none, none, none]) (fun s7 => [.int s7, va_rf a0]) (fun s7 => M4) (fun s7 => ?_) (fun j123 hj123 => ?_)
      · refine cmX3_255 rfl hs (Nat.le_of_ble_eq_true rfl) dX3_doPlain_123 (fun M8 => ?_)
        refine x_goto (tgt := 262) dX3_doPlain_126 (by decide) ?_
        exact x_weak (by exact trivial) (hj262 M8)
      refine x_jn (σ := Unit) 122 (fun s9 => [none, none, none, none, none, none, none]) (fun s9 => [va_rf a0]) (fun s9 => M4) (fun s9 => ?_) (fun j122 hj122 => ?_)
      · refine x_iconst (v := 0) dX3_doPlain_122 (by decide) ?_
        exact x_weak (by exact trivial) (hj123 ((0 : Int32)))
      refine x_if_lt (tgt := 122) dX3_doPlain_99 (by decide) (fun _ => ?_) (fun _ => ?_)
      · exact x_weak (by exact trivial) (hj122 ())
      · refine x_iload dX3_doPlain_102 rfl ?_
        refine x_aload_n dX3_doPlain_104 rfl ?_
        refine gfX3_37 rfl dX3_doPlain_105 (fun x10 => ?_)
        refine x_alen dX3_doPlain_108 (fun x11 => ?_)
        refine x_icmp_ge (tgt := 122) dX3_doPlain_109 (by decide) (fun _ => ?_) (fun _ => ?_)
        · exact x_weak (by exact trivial) (hj122 ())
        · refine x_aload_n dX3_doPlain_112 rfl ?_
          refine gfX3_37 rfl dX3_doPlain_113 (fun x12 => ?_)
          refine x_iload dX3_doPlain_116 rfl ?_
          refine x_iald dX3_doPlain_118 (fun x13 => ?_)
          refine x_goto (tgt := 123) dX3_doPlain_119 (by decide) ?_
          exact x_weak (by exact trivial) (hj123 x13)
    · refine x_aload_n dX3_doPlain_129 rfl ?_
      refine cmX3_236 rfl hs (Nat.le_of_ble_eq_true rfl) dX3_doPlain_130 (fun x15 M14 => ?_)
      refine x_istore (lo' := [some (va_rf a0), some (.int a1), some (.int a2), some (va_rf a3), some (.int x2), some (.int x15), none]) dX3_doPlain_133 (by decide) rfl rfl ?_
      refine x_iload dX3_doPlain_135 rfl ?_
      refine x_if_lt (tgt := 262) dX3_doPlain_137 (by decide) (fun _ => ?_) (fun _ => ?_)
      · exact x_weak (by exact trivial) (hj262 M14)
      · refine x_iload dX3_doPlain_140 rfl ?_
        refine x_aload_n dX3_doPlain_142 rfl ?_
        refine gfX3_37 rfl dX3_doPlain_143 (fun x16 => ?_)
        refine x_alen dX3_doPlain_146 (fun x17 => ?_)
        refine x_icmp_ge (tgt := 262) dX3_doPlain_147 (by decide) (fun _ => ?_) (fun _ => ?_)
        · exact x_weak (by exact trivial) (hj262 M14)
        · refine x_aload_n dX3_doPlain_150 rfl ?_
          refine gfX3_37 rfl dX3_doPlain_151 (fun x18 => ?_)
          refine x_iload dX3_doPlain_154 rfl ?_
          refine x_iload dX3_doPlain_156 rfl ?_
          refine x_iast dX3_doPlain_158 (fun M19 => ?_)
          refine x_goto (tgt := 262) dX3_doPlain_159 (by decide) ?_
          exact x_weak (by exact trivial) (hj262 M19)
    · refine x_aload_n dX3_doPlain_162 rfl ?_
      refine cmX3_236 rfl hs (Nat.le_of_ble_eq_true rfl) dX3_doPlain_163 (fun x21 M20 => ?_)
      refine x_pop dX3_doPlain_166 (xc1_i _) ?_
      refine x_goto (tgt := 262) dX3_doPlain_167 (by decide) ?_
      exact x_weak (by exact trivial) (hj262 M20)
    · refine x_aload_n dX3_doPlain_183 rfl ?_
      refine x_aload_n dX3_doPlain_184 rfl ?_
      refine cmX3_236 rfl hs (Nat.le_of_ble_eq_true rfl) dX3_doPlain_185 (fun x23 M22 => ?_)
      refine x_jn (σ := Int32) 196 (fun s24 => [none, none, none, none, none, none, none]) (fun s24 => [.int s24, va_rf a0]) (fun s24 => M22) (fun s24 => ?_) (fun j196 hj196 => ?_)
      · refine cmX3_255 rfl hs (Nat.le_of_ble_eq_true rfl) dX3_doPlain_196 (fun M25 => ?_)
        refine x_goto (tgt := 262) dX3_doPlain_199 (by decide) ?_
        exact x_weak (by exact trivial) (hj262 M25)
      refine x_if_ne (tgt := 195) dX3_doPlain_188 (by decide) (fun _ => ?_) (fun _ => ?_)
      · refine x_iconst (v := 1) dX3_doPlain_191 (by decide) ?_
        refine x_goto (tgt := 196) dX3_doPlain_192 (by decide) ?_
        exact x_weak (by exact trivial) (hj196 ((1 : Int32)))
      · refine x_iconst (v := 0) dX3_doPlain_195 (by decide) ?_
        exact x_weak (by exact trivial) (hj196 ((0 : Int32)))
    · refine x_aload_n dX3_doPlain_202 rfl ?_
      refine x_aload_n dX3_doPlain_203 rfl ?_
      refine cmX3_236 rfl hs (Nat.le_of_ble_eq_true rfl) dX3_doPlain_204 (fun x27 M26 => ?_)
      refine x_ineg dX3_doPlain_207 ?_
      refine cmX3_255 rfl hs (Nat.le_of_ble_eq_true rfl) dX3_doPlain_208 (fun M28 => ?_)
      refine x_goto (tgt := 262) dX3_doPlain_211 (by decide) ?_
      exact x_weak (by exact trivial) (hj262 M28)
    · refine x_aload_n dX3_doPlain_214 rfl ?_
      refine gfX3_33 rfl dX3_doPlain_215 (fun x29 => ?_)
      refine x_aload_n dX3_doPlain_218 rfl ?_
      refine x_iconst (v := 2) dX3_doPlain_219 (by decide) ?_
      refine x_iald dX3_doPlain_220 (fun x30 => ?_)
      refine x_aldq (t := 111) (tn := 6) (by decide) (by decide) rfl dX3_doPlain_221 (fun x31 => ?_)
      refine gfX3_79 rfl dX3_doPlain_222 (fun x32 => ?_)
      refine x_iload_n dX3_doPlain_225 rfl ?_
      refine cmX3_259 rfl hs (Nat.le_of_ble_eq_true rfl) dX3_doPlain_226 (fun x34 M33 => ?_)
      refine x_astore (lo' := [some (va_rf a0), some (.int a1), some (.int a2), some (va_rf a3), some (.int x2), none, some (va_rf x34)]) dX3_doPlain_229 (by decide) rfl rfl ?_
      refine x_aload_n dX3_doPlain_231 rfl ?_
      refine x_dup dX3_doPlain_232 (xc1_r _) ?_
      refine gfX3_206 rfl dX3_doPlain_233 (fun x35 => ?_)
      refine x_aload dX3_doPlain_236 rfl ?_
      refine x_jn (σ := Int32) 250 (fun s36 => [some (va_rf a0), none, none, none, none, none, none]) (fun s36 => [.int s36, .int x35, va_rf a0]) (fun s36 => M33) (fun s36 => ?_) (fun j250 hj250 => ?_)
      · refine x_isub dX3_doPlain_250 ?_
        refine pfX3_206 rfl dX3_doPlain_251 (fun M37 => ?_)
        refine x_aload_n dX3_doPlain_254 rfl ?_
        refine x_iconst (v := 0) dX3_doPlain_255 (by decide) ?_
        refine cmX3_255 rfl hs (Nat.le_of_ble_eq_true rfl) dX3_doPlain_256 (fun M38 => ?_)
        refine x_goto (tgt := 262) dX3_doPlain_259 (by decide) ?_
        exact x_weak (by exact trivial) (hj262 M38)
      refine x_ifnonnull (tgt := 245) dX3_doPlain_238 (by decide) (fun _ => ?_) (fun _ => ?_)
      · refine x_iconst (v := 0) dX3_doPlain_241 (by decide) ?_
        refine x_goto (tgt := 250) dX3_doPlain_242 (by decide) ?_
        exact x_weak (by exact ⟨rfl, trivial⟩) (hj250 ((0 : Int32)))
      · refine x_aload dX3_doPlain_245 rfl ?_
        refine gfX3_101 rfl dX3_doPlain_247 (fun x39 => ?_)
        exact x_weak (by exact ⟨rfl, trivial⟩) (hj250 x39)
    · refine x_aload_n dX3_doPlain_170 rfl ?_
      refine cmX3_236 rfl hs (Nat.le_of_ble_eq_true rfl) dX3_doPlain_171 (fun x41 M40 => ?_)
      refine x_pop dX3_doPlain_174 (xc1_i _) ?_
      refine x_aload_n dX3_doPlain_175 rfl ?_
      refine cmX3_236 rfl hs (Nat.le_of_ble_eq_true rfl) dX3_doPlain_176 (fun x43 M42 => ?_)
      refine x_pop dX3_doPlain_179 (xc1_i _) ?_
      refine x_goto (tgt := 262) dX3_doPlain_180 (by decide) ?_
      exact x_weak (by exact trivial) (hj262 M42)
  · exact x_weak (by exact trivial) (hj262 M4)
theorem s34 {l : Launch} {d : Nat} {rec : Nat → List Value → Mem → XA} (hS : Nonempty XS) (hs : XSnd l xmt rec d) : Snd1 l 34 (b34 rec) d := by
  intro as M r M' h0
  unfold b34 at h0
  obtain ⟨a0, l1, e1, h1⟩ := aR_inv h0
  obtain ⟨a1, l2, e2, h2⟩ := aI_inv h1
  obtain ⟨a2, l3, e3, h3⟩ := aI_inv h2
  obtain ⟨a3, l4, e4, h4⟩ := aR_inv h3
  obtain ⟨ez, h⟩ := aZ_inv h4
  subst ez
  subst e4
  subst e3
  subst e2
  subst e1
  exact xmet (M := M) (as := [va_rf a0, .int a1, .int a2, va_rf a3]) (lo := [some (va_rf a0), some (.int a1), some (.int a2), some (va_rf a3)]) 34 xq34 xm34 (by rw [xargs_rf, xargs_i, xargs_i, xargs_rf, xargs_nil]; exact ⟨rfl, ⟨rfl, ⟨rfl, ⟨rfl, trivial⟩⟩⟩⟩) (by rw [xargs_rf, xargs_i, xargs_i, xargs_rf, xargs_nil]; exact Nat.le_of_ble_eq_true rfl) (fun S G K => x_weak (by exact ⟨rfl, ⟨rfl, ⟨rfl, ⟨rfl, trivial⟩⟩⟩⟩) (k34 hs a0 a1 a2 a3 M)) h hS
set_option maxRecDepth 100000 in
def c35 (rec : Nat → List Value → Mem → XA) (a0 : Option Nat) (a1 : Option Nat) (M0 : Mem) : XA :=
  vC (4, 22) M0 a0 <|
  cI (rec 33 [va_rf a0] M0) fun x2 M1 =>
  jn (fun (s3 : Mem) =>
    some (.null, s3)) fun j23 =>
  if x2 = 0 then (
    vC (4, 22) M1 a0 <|
    cV (rec 41 [va_rf a0, .int ((5 : Int32)), .int ((1 : Int32))] M1) fun M4 =>
    j23 M4) else (
    alI 100 M1 a1 ((0 : Int32)) fun x5 =>
    asI 100 M1 a1 ((0 : Int32)) ((x5 + ((1 : Int32)))) fun M6 =>
    j23 M6)
def b35 (rec : Nat → List Value → Mem → XA) (as : List Value) (M0 : Mem) : XA := aR as fun a0 as => aR as fun a1 as => aZ as (c35 rec a0 a1 M0)
set_option maxRecDepth 100000 in
set_option maxHeartbeats 4000000 in
theorem k35 {S : XS} {G : XG} {K : Nat × Nat} {l : Launch} {d : Nat} {rec : Nat → List Value → Mem → XA} (hs : XSnd l xmt rec d) (a0 : Option Nat) (a1 : Option Nat) (M0 : Mem) : Xe S G K l (yX3_checkValue, cX3_checkValue, 2, none) d 0 [some (va_rf a0), some (va_rf a1)] [] M0 (c35 rec a0 a1 M0) := by
  unfold c35
  refine x_aload_n dX3_checkValue_0 rfl ?_
  refine cmX3_236 rfl hs (Nat.le_of_ble_eq_true rfl) dX3_checkValue_1 (fun x2 M1 => ?_)
  refine x_jn (σ := Mem) 23 (fun s3 => [none, none]) (fun s3 => []) (fun s3 => s3) (fun s3 => ?_) (fun j23 hj23 => ?_)
  · exact x_vret rfl dX3_checkValue_23
  refine x_if_ne (tgt := 16) dX3_checkValue_4 (by decide) (fun _ => ?_) (fun _ => ?_)
  · refine x_aload_n dX3_checkValue_7 rfl ?_
    refine x_iconst (v := 5) dX3_checkValue_8 (by decide) ?_
    refine x_iconst (v := 1) dX3_checkValue_9 (by decide) ?_
    refine cmX3_246 rfl hs (Nat.le_of_ble_eq_true rfl) dX3_checkValue_10 (fun M4 => ?_)
    refine x_goto (tgt := 23) dX3_checkValue_13 (by decide) ?_
    exact x_weak (by exact trivial) (hj23 M4)
  · refine x_aload_n dX3_checkValue_16 rfl ?_
    refine x_iconst (v := 0) dX3_checkValue_17 (by decide) ?_
    refine x_dup2 dX3_checkValue_18 (xc1_i _) (xc1_r _) ?_
    refine x_iald dX3_checkValue_19 (fun x5 => ?_)
    refine x_iconst (v := 1) dX3_checkValue_20 (by decide) ?_
    refine x_iadd dX3_checkValue_21 ?_
    refine x_iast dX3_checkValue_22 (fun M6 => ?_)
    exact x_weak (by exact trivial) (hj23 M6)
theorem s35 {l : Launch} {d : Nat} {rec : Nat → List Value → Mem → XA} (hS : Nonempty XS) (hs : XSnd l xmt rec d) : Snd1 l 35 (b35 rec) d := by
  intro as M r M' h0
  unfold b35 at h0
  obtain ⟨a0, l1, e1, h1⟩ := aR_inv h0
  obtain ⟨a1, l2, e2, h2⟩ := aR_inv h1
  obtain ⟨ez, h⟩ := aZ_inv h2
  subst ez
  subst e2
  subst e1
  exact xmet (M := M) (as := [va_rf a0, va_rf a1]) (lo := [some (va_rf a0), some (va_rf a1)]) 35 xq35 xm35 (by rw [xargs_rf, xargs_rf, xargs_nil]; exact ⟨rfl, ⟨rfl, trivial⟩⟩) (by rw [xargs_rf, xargs_rf, xargs_nil]; exact Nat.le_of_ble_eq_true rfl) (fun S G K => x_weak (by exact ⟨rfl, ⟨rfl, trivial⟩⟩) (k35 hs a0 a1 M)) h hS
set_option maxRecDepth 100000 in
def c36 (rec : Nat → List Value → Mem → XA) (a0 : Option Nat) (a1 : Int32) (a2 : Int32) (a3 : Option Nat) (M0 : Mem) : XA :=
  jn (fun (s1 : Int32) =>
    jn (fun (s2 : Int32 × Mem) =>
      jn (fun (s3 : Int32) =>
        asI 100 s2.2 a3 ((0 : Int32)) s3 fun M4 =>
        some (.null, M4)) fun j72 =>
      if s2.1 = 0 then (
        alI 100 s2.2 a3 ((0 : Int32)) fun x5 =>
        j72 (x5 + ((1 : Int32)))) else (
        j72 a2)) fun j56 =>
    if a1 = ((24 : Int32)) then (
      vC (4, 22) M0 a0 <|
      cI (rec 33 [va_rf a0] M0) fun x7 M6 =>
      jn (fun (s8 : Int32) =>
        j56 (s8, M6)) fun j31 =>
      if x7 = 0 then (
        j31 ((1 : Int32))) else (
        j31 ((0 : Int32)))) else (
      if a1 = ((31 : Int32)) then (
        vC (4, 22) M0 a0 <|
        cI (rec 33 [va_rf a0] M0) fun x10 M9 =>
        jn (fun (s11 : Int32) =>
          j56 (s11, M9)) fun j54 =>
        if x10 = 0 then (
          j54 ((0 : Int32))) else (
          j54 ((1 : Int32)))) else (
        j56 (s1, M0)))) fun j11 =>
  if a1 = ((25 : Int32)) then (
    j11 ((1 : Int32))) else (
    j11 ((0 : Int32)))
def b36 (rec : Nat → List Value → Mem → XA) (as : List Value) (M0 : Mem) : XA := aR as fun a0 as => aI as fun a1 as => aI as fun a2 as => aR as fun a3 as => aZ as (c36 rec a0 a1 a2 a3 M0)
set_option maxRecDepth 100000 in
set_option maxHeartbeats 4000000 in
theorem k36 {S : XS} {G : XG} {K : Nat × Nat} {l : Launch} {d : Nat} {rec : Nat → List Value → Mem → XA} (hs : XSnd l xmt rec d) (a0 : Option Nat) (a1 : Int32) (a2 : Int32) (a3 : Option Nat) (M0 : Mem) : Xe S G K l (yX3_jump, cX3_jump, 5, none) d 0 [some (va_rf a0), some (.int a1), some (.int a2), some (va_rf a3), none] [] M0 (c36 rec a0 a1 a2 a3 M0) := by
  unfold c36
  refine x_iload_n dX3_jump_0 rfl ?_
  refine x_bipush (v := 25) dX3_jump_1 (by decide) ?_
  refine x_jn (σ := Int32) 11 (fun s1 => [some (va_rf a0), some (.int a1), some (.int a2), some (va_rf a3), none]) (fun s1 => [.int s1]) (fun s1 => M0) (fun s1 => ?_) (fun j11 hj11 => ?_)
  · refine x_istore (lo' := [some (va_rf a0), some (.int a1), some (.int a2), some (va_rf a3), some (.int s1)]) dX3_jump_11 (by decide) (xok_r rfl) rfl ?_
    refine x_iload_n dX3_jump_13 rfl ?_
    refine x_bipush (v := 24) dX3_jump_14 (by decide) ?_
    refine x_jn (σ := Int32 × Mem) 56 (fun s2 => [none, none, some (.int a2), some (va_rf a3), some (.int s2.1)]) (fun s2 => []) (fun s2 => s2.2) (fun s2 => ?_) (fun j56 hj56 => ?_)
    · refine x_aload_n dX3_jump_56 rfl ?_
      refine x_iconst (v := 0) dX3_jump_57 (by decide) ?_
      refine x_iload dX3_jump_58 rfl ?_
      refine x_jn (σ := Int32) 72 (fun s3 => [none, none, none, none, none]) (fun s3 => [.int s3, .int ((0 : Int32)), va_rf a3]) (fun s3 => s2.2) (fun s3 => ?_) (fun j72 hj72 => ?_)
      · refine x_iast dX3_jump_72 (fun M4 => ?_)
        exact x_vret rfl dX3_jump_73
      refine x_if_eq (tgt := 67) dX3_jump_60 (by decide) (fun _ => ?_) (fun _ => ?_)
      · refine x_aload_n dX3_jump_67 rfl ?_
        refine x_iconst (v := 0) dX3_jump_68 (by decide) ?_
        refine x_iald dX3_jump_69 (fun x5 => ?_)
        refine x_iconst (v := 1) dX3_jump_70 (by decide) ?_
        refine x_iadd dX3_jump_71 ?_
        exact x_weak (by exact trivial) (hj72 (x5 + ((1 : Int32))))
      · refine x_iload_n dX3_jump_63 rfl ?_
        refine x_goto (tgt := 72) dX3_jump_64 (by decide) ?_
        exact x_weak (by exact trivial) (hj72 a2)
    refine x_icmp_ne (tgt := 36) dX3_jump_16 (by decide) (fun _ => ?_) (fun _ => ?_)
    · refine x_aload_n dX3_jump_19 rfl ?_
      refine cmX3_236 rfl hs (Nat.le_of_ble_eq_true rfl) dX3_jump_20 (fun x7 M6 => ?_)
      refine x_jn (σ := Int32) 31 (fun s8 => [none, none, some (.int a2), some (va_rf a3), none]) (fun s8 => [.int s8]) (fun s8 => M6) (fun s8 => ?_) (fun j31 hj31 => ?_)
      · refine x_istore (lo' := [none, none, some (.int a2), some (va_rf a3), some (.int s8)]) dX3_jump_31 (by decide) (xok_r rfl) rfl ?_
        refine x_goto (tgt := 56) dX3_jump_33 (by decide) ?_
        exact x_weak (by exact ⟨rfl, ⟨rfl, ⟨rfl, trivial⟩⟩⟩) (hj56 (s8, M6))
      refine x_if_ne (tgt := 30) dX3_jump_23 (by decide) (fun _ => ?_) (fun _ => ?_)
      · refine x_iconst (v := 1) dX3_jump_26 (by decide) ?_
        refine x_goto (tgt := 31) dX3_jump_27 (by decide) ?_
        exact x_weak (by exact ⟨rfl, ⟨rfl, trivial⟩⟩) (hj31 ((1 : Int32)))
      · refine x_iconst (v := 0) dX3_jump_30 (by decide) ?_
        exact x_weak (by exact ⟨rfl, ⟨rfl, trivial⟩⟩) (hj31 ((0 : Int32)))
    · refine x_iload_n dX3_jump_36 rfl ?_
      refine x_bipush (v := 31) dX3_jump_37 (by decide) ?_
      refine x_icmp_ne (tgt := 56) dX3_jump_39 (by decide) (fun _ => ?_) (fun _ => ?_)
      · refine x_aload_n dX3_jump_42 rfl ?_
        refine cmX3_236 rfl hs (Nat.le_of_ble_eq_true rfl) dX3_jump_43 (fun x10 M9 => ?_)
        refine x_jn (σ := Int32) 54 (fun s11 => [none, none, some (.int a2), some (va_rf a3), none]) (fun s11 => [.int s11]) (fun s11 => M9) (fun s11 => ?_) (fun j54 hj54 => ?_)
        · refine x_istore (lo' := [none, none, some (.int a2), some (va_rf a3), some (.int s11)]) dX3_jump_54 (by decide) (xok_r rfl) rfl ?_
          exact x_weak (by exact ⟨rfl, ⟨rfl, ⟨rfl, trivial⟩⟩⟩) (hj56 (s11, M9))
        refine x_if_eq (tgt := 53) dX3_jump_46 (by decide) (fun _ => ?_) (fun _ => ?_)
        · refine x_iconst (v := 0) dX3_jump_53 (by decide) ?_
          exact x_weak (by exact ⟨rfl, ⟨rfl, trivial⟩⟩) (hj54 ((0 : Int32)))
        · refine x_iconst (v := 1) dX3_jump_49 (by decide) ?_
          refine x_goto (tgt := 54) dX3_jump_50 (by decide) ?_
          exact x_weak (by exact ⟨rfl, ⟨rfl, trivial⟩⟩) (hj54 ((1 : Int32)))
      · exact x_weak (by exact ⟨rfl, ⟨rfl, ⟨rfl, trivial⟩⟩⟩) (hj56 (s1, M0))
  refine x_icmp_ne (tgt := 10) dX3_jump_3 (by decide) (fun _ => ?_) (fun _ => ?_)
  · refine x_iconst (v := 1) dX3_jump_6 (by decide) ?_
    refine x_goto (tgt := 11) dX3_jump_7 (by decide) ?_
    exact x_weak (by exact ⟨rfl, ⟨rfl, ⟨rfl, ⟨rfl, trivial⟩⟩⟩⟩) (hj11 ((1 : Int32)))
  · refine x_iconst (v := 0) dX3_jump_10 (by decide) ?_
    exact x_weak (by exact ⟨rfl, ⟨rfl, ⟨rfl, ⟨rfl, trivial⟩⟩⟩⟩) (hj11 ((0 : Int32)))
theorem s36 {l : Launch} {d : Nat} {rec : Nat → List Value → Mem → XA} (hS : Nonempty XS) (hs : XSnd l xmt rec d) : Snd1 l 36 (b36 rec) d := by
  intro as M r M' h0
  unfold b36 at h0
  obtain ⟨a0, l1, e1, h1⟩ := aR_inv h0
  obtain ⟨a1, l2, e2, h2⟩ := aI_inv h1
  obtain ⟨a2, l3, e3, h3⟩ := aI_inv h2
  obtain ⟨a3, l4, e4, h4⟩ := aR_inv h3
  obtain ⟨ez, h⟩ := aZ_inv h4
  subst ez
  subst e4
  subst e3
  subst e2
  subst e1
  exact xmet (M := M) (as := [va_rf a0, .int a1, .int a2, va_rf a3]) (lo := [some (va_rf a0), some (.int a1), some (.int a2), some (va_rf a3)]) 36 xq36 xm36 (by rw [xargs_rf, xargs_i, xargs_i, xargs_rf, xargs_nil]; exact ⟨rfl, ⟨rfl, ⟨rfl, ⟨rfl, trivial⟩⟩⟩⟩) (by rw [xargs_rf, xargs_i, xargs_i, xargs_rf, xargs_nil]; exact Nat.le_of_ble_eq_true rfl) (fun S G K => x_weak (by exact ⟨rfl, ⟨rfl, ⟨rfl, ⟨rfl, trivial⟩⟩⟩⟩) (k36 hs a0 a1 a2 a3 M)) h hS
set_option maxRecDepth 100000 in
def c37 (rec : Nat → List Value → Mem → XA) (a0 : Option Nat) (a1 : Int32) (a2 : Option Nat) (M0 : Mem) : XA :=
  vC (4, 22) M0 a0 <|
  cI (rec 33 [va_rf a0] M0) fun x2 M1 =>
  vC (4, 22) M1 a0 <|
  cI (rec 33 [va_rf a0] M1) fun x4 M3 =>
  jn (fun (s5 : Unit) =>
    cI (rec 38 [.int a1, .int x4, .int x2] M3) fun x7 M6 =>
    vC (4, 22) M6 a0 <|
    cV (rec 32 [va_rf a0, .int x7] M6) fun M8 =>
    alI 100 M8 a2 ((0 : Int32)) fun x9 =>
    asI 100 M8 a2 ((0 : Int32)) ((x9 + ((1 : Int32)))) fun M10 =>
    some (.null, M10)) fun j34 =>
  if x2 = 0 then (
    jn (fun (s11 : Unit) =>
      vC (4, 22) M3 a0 <|
      cV (rec 41 [va_rf a0, .int ((1 : Int32)), .int ((1 : Int32))] M3) fun M12 =>
      some (.null, M12)) fun j27 =>
    if a1 = ((13 : Int32)) then (
      j27 ()) else (
      if a1 = ((14 : Int32)) then (
        j27 ()) else (
        j34 ()))) else (
    j34 ())
def b37 (rec : Nat → List Value → Mem → XA) (as : List Value) (M0 : Mem) : XA := aR as fun a0 as => aI as fun a1 as => aR as fun a2 as => aZ as (c37 rec a0 a1 a2 M0)
set_option maxRecDepth 100000 in
set_option maxHeartbeats 4000000 in
theorem k37 {S : XS} {G : XG} {K : Nat × Nat} {l : Launch} {d : Nat} {rec : Nat → List Value → Mem → XA} (hs : XSnd l xmt rec d) (a0 : Option Nat) (a1 : Int32) (a2 : Option Nat) (M0 : Mem) : Xe S G K l (yX3_combine, cX3_combine, 5, none) d 0 [some (va_rf a0), some (.int a1), some (va_rf a2), none, none] [] M0 (c37 rec a0 a1 a2 M0) := by
  unfold c37
  refine x_aload_n dX3_combine_0 rfl ?_
  refine cmX3_236 rfl hs (Nat.le_of_ble_eq_true rfl) dX3_combine_1 (fun x2 M1 => ?_)
  refine x_istore_n (lo' := [some (va_rf a0), some (.int a1), some (va_rf a2), some (.int x2), none]) dX3_combine_4 (by decide) (xok_r rfl) rfl ?_
  refine x_aload_n dX3_combine_5 rfl ?_
  refine cmX3_236 rfl hs (Nat.le_of_ble_eq_true rfl) dX3_combine_6 (fun x4 M3 => ?_)
  refine x_istore (lo' := [some (va_rf a0), some (.int a1), some (va_rf a2), some (.int x2), some (.int x4)]) dX3_combine_9 (by decide) rfl rfl ?_
  refine x_iload_n dX3_combine_11 rfl ?_
  refine x_jn (σ := Unit) 34 (fun s5 => [some (va_rf a0), some (.int a1), some (va_rf a2), some (.int x2), some (.int x4)]) (fun s5 => []) (fun s5 => M3) (fun s5 => ?_) (fun j34 hj34 => ?_)
  · refine x_aload_n dX3_combine_34 rfl ?_
    refine x_iload_n dX3_combine_35 rfl ?_
    refine x_iload dX3_combine_36 rfl ?_
    refine x_iload_n dX3_combine_38 rfl ?_
    refine cmX3_263 rfl hs (Nat.le_of_ble_eq_true rfl) dX3_combine_39 (fun x7 M6 => ?_)
    refine cmX3_255 rfl hs (Nat.le_of_ble_eq_true rfl) dX3_combine_42 (fun M8 => ?_)
    refine x_aload_n dX3_combine_45 rfl ?_
    refine x_iconst (v := 0) dX3_combine_46 (by decide) ?_
    refine x_dup2 dX3_combine_47 (xc1_i _) (xc1_r _) ?_
    refine x_iald dX3_combine_48 (fun x9 => ?_)
    refine x_iconst (v := 1) dX3_combine_49 (by decide) ?_
    refine x_iadd dX3_combine_50 ?_
    refine x_iast dX3_combine_51 (fun M10 => ?_)
    exact x_vret rfl dX3_combine_52
  refine x_if_ne (tgt := 34) dX3_combine_12 (by decide) (fun _ => ?_) (fun _ => ?_)
  · refine x_iload_n dX3_combine_15 rfl ?_
    refine x_bipush (v := 13) dX3_combine_16 (by decide) ?_
    refine x_jn (σ := Unit) 27 (fun s11 => [some (va_rf a0), none, none, none, none]) (fun s11 => []) (fun s11 => M3) (fun s11 => ?_) (fun j27 hj27 => ?_)
    · refine x_aload_n dX3_combine_27 rfl ?_
      refine x_iconst (v := 1) dX3_combine_28 (by decide) ?_
      refine x_iconst (v := 1) dX3_combine_29 (by decide) ?_
      refine cmX3_246 rfl hs (Nat.le_of_ble_eq_true rfl) dX3_combine_30 (fun M12 => ?_)
      exact x_vret rfl dX3_combine_33
    refine x_icmp_eq (tgt := 27) dX3_combine_18 (by decide) (fun _ => ?_) (fun _ => ?_)
    · exact x_weak (by exact ⟨rfl, trivial⟩) (hj27 ())
    · refine x_iload_n dX3_combine_21 rfl ?_
      refine x_bipush (v := 14) dX3_combine_22 (by decide) ?_
      refine x_icmp_ne (tgt := 34) dX3_combine_24 (by decide) (fun _ => ?_) (fun _ => ?_)
      · exact x_weak (by exact ⟨rfl, trivial⟩) (hj27 ())
      · exact x_weak (by exact ⟨rfl, ⟨rfl, ⟨rfl, ⟨rfl, ⟨rfl, trivial⟩⟩⟩⟩⟩) (hj34 ())
  · exact x_weak (by exact ⟨rfl, ⟨rfl, ⟨rfl, ⟨rfl, ⟨rfl, trivial⟩⟩⟩⟩⟩) (hj34 ())
theorem s37 {l : Launch} {d : Nat} {rec : Nat → List Value → Mem → XA} (hS : Nonempty XS) (hs : XSnd l xmt rec d) : Snd1 l 37 (b37 rec) d := by
  intro as M r M' h0
  unfold b37 at h0
  obtain ⟨a0, l1, e1, h1⟩ := aR_inv h0
  obtain ⟨a1, l2, e2, h2⟩ := aI_inv h1
  obtain ⟨a2, l3, e3, h3⟩ := aR_inv h2
  obtain ⟨ez, h⟩ := aZ_inv h3
  subst ez
  subst e3
  subst e2
  subst e1
  exact xmet (M := M) (as := [va_rf a0, .int a1, va_rf a2]) (lo := [some (va_rf a0), some (.int a1), some (va_rf a2)]) 37 xq37 xm37 (by rw [xargs_rf, xargs_i, xargs_rf, xargs_nil]; exact ⟨rfl, ⟨rfl, ⟨rfl, trivial⟩⟩⟩) (by rw [xargs_rf, xargs_i, xargs_rf, xargs_nil]; exact Nat.le_of_ble_eq_true rfl) (fun S G K => x_weak (by exact ⟨rfl, ⟨rfl, ⟨rfl, trivial⟩⟩⟩) (k37 hs a0 a1 a2 M)) h hS
set_option maxRecDepth 100000 in
def c38 (rec : Nat → List Value → Mem → XA) (a0 : Int32) (a1 : Int32) (a2 : Int32) (M0 : Mem) : XA :=
  swI a0 [
   ((10 : Int32), (
      some (.int (a1 + a2), M0))),
   ((11 : Int32), (
      some (.int (a1 - a2), M0))),
   ((12 : Int32), (
      some (.int (a1 * a2), M0))),
   ((13 : Int32), (
      jn (fun (s1 : Int32) =>
        some (.int s1, M0)) fun j79 =>
      if a2 = 0 then (
        j79 ((0 : Int32))) else (
        if a2 = 0 then none else
        j79 (a1 / a2)))),
   ((14 : Int32), (
      jn (fun (s2 : Int32) =>
        some (.int s2, M0)) fun j91 =>
      if a2 = 0 then (
        j91 ((0 : Int32))) else (
        if a2 = 0 then none else
        j91 (xrem a1 a2)))),
   ((15 : Int32), (
      jn (fun (s3 : Int32) =>
        some (.int s3, M0)) fun j102 =>
      if a2 ≤ a1 then (
        j102 ((0 : Int32))) else (
        j102 ((1 : Int32))))),
   ((16 : Int32), (
      jn (fun (s4 : Int32) =>
        some (.int s4, M0)) fun j113 =>
      if a2 < a1 then (
        j113 ((0 : Int32))) else (
        j113 ((1 : Int32))))),
   ((17 : Int32), (
      jn (fun (s5 : Int32) =>
        some (.int s5, M0)) fun j124 =>
      if a1 = a2 then (
        j124 ((1 : Int32))) else (
        j124 ((0 : Int32))))),
   ((18 : Int32), (
      jn (fun (s6 : Int32) =>
        some (.int s6, M0)) fun j135 =>
      if a1 = a2 then (
        j135 ((0 : Int32))) else (
        j135 ((1 : Int32))))),
   ((19 : Int32), (
      jn (fun (s7 : Int32) =>
        some (.int s7, M0)) fun j149 =>
      jn (fun (s8 : Unit) =>
        j149 ((0 : Int32))) fun j148 =>
      if a1 = 0 then (
        j148 ()) else (
        if a2 = 0 then (
          j148 ()) else (
          j149 ((1 : Int32))))))] (
    jn (fun (s9 : Int32) =>
      some (.int s9, M0)) fun j163 =>
    jn (fun (s10 : Unit) =>
      j163 ((1 : Int32))) fun j158 =>
    if a1 = 0 then (
      if a2 = 0 then (
        j163 ((0 : Int32))) else (
        j158 ())) else (
      j158 ()))
def b38 (rec : Nat → List Value → Mem → XA) (as : List Value) (M0 : Mem) : XA := aI as fun a0 as => aI as fun a1 as => aI as fun a2 as => aZ as (c38 rec a0 a1 a2 M0)
set_option maxRecDepth 100000 in
set_option maxHeartbeats 4000000 in
theorem k38 {S : XS} {G : XG} {K : Nat × Nat} {l : Launch} {d : Nat} {rec : Nat → List Value → Mem → XA} (hs : XSnd l xmt rec d) (a0 : Int32) (a1 : Int32) (a2 : Int32) (M0 : Mem) : Xe S G K l (yX3_combined, cX3_combined, 3, some .int) d 0 [some (.int a0), some (.int a1), some (.int a2)] [] M0 (c38 rec a0 a1 a2 M0) := by
  unfold c38
  refine x_iload_n dX3_combined_0 rfl ?_
  refine x_table (tgt := 150) dX3_combined_1 [(10, 56), (11, 60), (12, 64), (13, 68), (14, 80), (15, 92), (16, 103), (17, 114), (18, 125), (19, 136)] (by decide +kernel) (by decide +kernel) (by decide) ?_ ?_
  · refine swG_d (by decide) ?_ (swG_d (by decide) ?_ (swG_d (by decide) ?_ (swG_d (by decide) ?_ (swG_d (by decide) ?_ (swG_d (by decide) ?_ (swG_d (by decide) ?_ (swG_d (by decide) ?_ (swG_d (by decide) ?_ (swG_d (by decide) ?_ (trivial))))))))))
    · refine x_iload_n dX3_combined_56 rfl ?_
      refine x_iload_n dX3_combined_57 rfl ?_
      refine x_iadd dX3_combined_58 ?_
      exact x_iret rfl dX3_combined_59
    · refine x_iload_n dX3_combined_60 rfl ?_
      refine x_iload_n dX3_combined_61 rfl ?_
      refine x_isub dX3_combined_62 ?_
      exact x_iret rfl dX3_combined_63
    · refine x_iload_n dX3_combined_64 rfl ?_
      refine x_iload_n dX3_combined_65 rfl ?_
      refine x_imul dX3_combined_66 ?_
      exact x_iret rfl dX3_combined_67
    · refine x_iload_n dX3_combined_68 rfl ?_
      refine x_jn (σ := Int32) 79 (fun s1 => [none, none, none]) (fun s1 => [.int s1]) (fun s1 => M0) (fun s1 => ?_) (fun j79 hj79 => ?_)
      · exact x_iret rfl dX3_combined_79
      refine x_if_ne (tgt := 76) dX3_combined_69 (by decide) (fun _ => ?_) (fun _ => ?_)
      · refine x_iconst (v := 0) dX3_combined_72 (by decide) ?_
        refine x_goto (tgt := 79) dX3_combined_73 (by decide) ?_
        exact x_weak (by exact trivial) (hj79 ((0 : Int32)))
      · refine x_iload_n dX3_combined_76 rfl ?_
        refine x_iload_n dX3_combined_77 rfl ?_
        refine x_idiv dX3_combined_78 (fun _ => ?_)
        exact x_weak (by exact trivial) (hj79 (a1 / a2))
    · refine x_iload_n dX3_combined_80 rfl ?_
      refine x_jn (σ := Int32) 91 (fun s2 => [none, none, none]) (fun s2 => [.int s2]) (fun s2 => M0) (fun s2 => ?_) (fun j91 hj91 => ?_)
      · exact x_iret rfl dX3_combined_91
      refine x_if_ne (tgt := 88) dX3_combined_81 (by decide) (fun _ => ?_) (fun _ => ?_)
      · refine x_iconst (v := 0) dX3_combined_84 (by decide) ?_
        refine x_goto (tgt := 91) dX3_combined_85 (by decide) ?_
        exact x_weak (by exact trivial) (hj91 ((0 : Int32)))
      · refine x_iload_n dX3_combined_88 rfl ?_
        refine x_iload_n dX3_combined_89 rfl ?_
        refine x_irem dX3_combined_90 (fun _ => ?_)
        exact x_weak (by exact trivial) (hj91 (xrem a1 a2))
    · refine x_iload_n dX3_combined_92 rfl ?_
      refine x_iload_n dX3_combined_93 rfl ?_
      refine x_jn (σ := Int32) 102 (fun s3 => [none, none, none]) (fun s3 => [.int s3]) (fun s3 => M0) (fun s3 => ?_) (fun j102 hj102 => ?_)
      · exact x_iret rfl dX3_combined_102
      refine x_icmp_ge (tgt := 101) dX3_combined_94 (by decide) (fun _ => ?_) (fun _ => ?_)
      · refine x_iconst (v := 0) dX3_combined_101 (by decide) ?_
        exact x_weak (by exact trivial) (hj102 ((0 : Int32)))
      · refine x_iconst (v := 1) dX3_combined_97 (by decide) ?_
        refine x_goto (tgt := 102) dX3_combined_98 (by decide) ?_
        exact x_weak (by exact trivial) (hj102 ((1 : Int32)))
    · refine x_iload_n dX3_combined_103 rfl ?_
      refine x_iload_n dX3_combined_104 rfl ?_
      refine x_jn (σ := Int32) 113 (fun s4 => [none, none, none]) (fun s4 => [.int s4]) (fun s4 => M0) (fun s4 => ?_) (fun j113 hj113 => ?_)
      · exact x_iret rfl dX3_combined_113
      refine x_icmp_gt (tgt := 112) dX3_combined_105 (by decide) (fun _ => ?_) (fun _ => ?_)
      · refine x_iconst (v := 0) dX3_combined_112 (by decide) ?_
        exact x_weak (by exact trivial) (hj113 ((0 : Int32)))
      · refine x_iconst (v := 1) dX3_combined_108 (by decide) ?_
        refine x_goto (tgt := 113) dX3_combined_109 (by decide) ?_
        exact x_weak (by exact trivial) (hj113 ((1 : Int32)))
    · refine x_iload_n dX3_combined_114 rfl ?_
      refine x_iload_n dX3_combined_115 rfl ?_
      refine x_jn (σ := Int32) 124 (fun s5 => [none, none, none]) (fun s5 => [.int s5]) (fun s5 => M0) (fun s5 => ?_) (fun j124 hj124 => ?_)
      · exact x_iret rfl dX3_combined_124
      refine x_icmp_ne (tgt := 123) dX3_combined_116 (by decide) (fun _ => ?_) (fun _ => ?_)
      · refine x_iconst (v := 1) dX3_combined_119 (by decide) ?_
        refine x_goto (tgt := 124) dX3_combined_120 (by decide) ?_
        exact x_weak (by exact trivial) (hj124 ((1 : Int32)))
      · refine x_iconst (v := 0) dX3_combined_123 (by decide) ?_
        exact x_weak (by exact trivial) (hj124 ((0 : Int32)))
    · refine x_iload_n dX3_combined_125 rfl ?_
      refine x_iload_n dX3_combined_126 rfl ?_
      refine x_jn (σ := Int32) 135 (fun s6 => [none, none, none]) (fun s6 => [.int s6]) (fun s6 => M0) (fun s6 => ?_) (fun j135 hj135 => ?_)
      · exact x_iret rfl dX3_combined_135
      refine x_icmp_eq (tgt := 134) dX3_combined_127 (by decide) (fun _ => ?_) (fun _ => ?_)
      · refine x_iconst (v := 0) dX3_combined_134 (by decide) ?_
        exact x_weak (by exact trivial) (hj135 ((0 : Int32)))
      · refine x_iconst (v := 1) dX3_combined_130 (by decide) ?_
        refine x_goto (tgt := 135) dX3_combined_131 (by decide) ?_
        exact x_weak (by exact trivial) (hj135 ((1 : Int32)))
    · refine x_iload_n dX3_combined_136 rfl ?_
      refine x_jn (σ := Int32) 149 (fun s7 => [none, none, none]) (fun s7 => [.int s7]) (fun s7 => M0) (fun s7 => ?_) (fun j149 hj149 => ?_)
      · exact x_iret rfl dX3_combined_149
      refine x_jn (σ := Unit) 148 (fun s8 => [none, none, none]) (fun s8 => []) (fun s8 => M0) (fun s8 => ?_) (fun j148 hj148 => ?_)
      · refine x_iconst (v := 0) dX3_combined_148 (by decide) ?_
        exact x_weak (by exact trivial) (hj149 ((0 : Int32)))
      refine x_if_eq (tgt := 148) dX3_combined_137 (by decide) (fun _ => ?_) (fun _ => ?_)
      · exact x_weak (by exact trivial) (hj148 ())
      · refine x_iload_n dX3_combined_140 rfl ?_
        refine x_if_eq (tgt := 148) dX3_combined_141 (by decide) (fun _ => ?_) (fun _ => ?_)
        · exact x_weak (by exact trivial) (hj148 ())
        · refine x_iconst (v := 1) dX3_combined_144 (by decide) ?_
          refine x_goto (tgt := 149) dX3_combined_145 (by decide) ?_
          exact x_weak (by exact trivial) (hj149 ((1 : Int32)))
  · refine x_iload_n dX3_combined_150 rfl ?_
    refine x_jn (σ := Int32) 163 (fun s9 => [none, none, none]) (fun s9 => [.int s9]) (fun s9 => M0) (fun s9 => ?_) (fun j163 hj163 => ?_)
    · exact x_iret rfl dX3_combined_163
    refine x_jn (σ := Unit) 158 (fun s10 => [none, none, none]) (fun s10 => []) (fun s10 => M0) (fun s10 => ?_) (fun j158 hj158 => ?_)
    · refine x_iconst (v := 1) dX3_combined_158 (by decide) ?_
      refine x_goto (tgt := 163) dX3_combined_159 (by decide) ?_
      exact x_weak (by exact trivial) (hj163 ((1 : Int32)))
    refine x_if_ne (tgt := 158) dX3_combined_151 (by decide) (fun _ => ?_) (fun _ => ?_)
    · refine x_iload_n dX3_combined_154 rfl ?_
      refine x_if_eq (tgt := 162) dX3_combined_155 (by decide) (fun _ => ?_) (fun _ => ?_)
      · refine x_iconst (v := 0) dX3_combined_162 (by decide) ?_
        exact x_weak (by exact trivial) (hj163 ((0 : Int32)))
      · exact x_weak (by exact trivial) (hj158 ())
    · exact x_weak (by exact trivial) (hj158 ())
theorem s38 {l : Launch} {d : Nat} {rec : Nat → List Value → Mem → XA} (hS : Nonempty XS) (hs : XSnd l xmt rec d) : Snd1 l 38 (b38 rec) d := by
  intro as M r M' h0
  unfold b38 at h0
  obtain ⟨a0, l1, e1, h1⟩ := aI_inv h0
  obtain ⟨a1, l2, e2, h2⟩ := aI_inv h1
  obtain ⟨a2, l3, e3, h3⟩ := aI_inv h2
  obtain ⟨ez, h⟩ := aZ_inv h3
  subst ez
  subst e3
  subst e2
  subst e1
  exact xmet (M := M) (as := [.int a0, .int a1, .int a2]) (lo := [some (.int a0), some (.int a1), some (.int a2)]) 38 xq38 xm38 (by rw [xargs_i, xargs_i, xargs_i, xargs_nil]; exact ⟨rfl, ⟨rfl, ⟨rfl, trivial⟩⟩⟩) (by rw [xargs_i, xargs_i, xargs_i, xargs_nil]; exact Nat.le_of_ble_eq_true rfl) (fun S G K => x_weak (by exact ⟨rfl, ⟨rfl, ⟨rfl, trivial⟩⟩⟩) (k38 hs a0 a1 a2 M)) h hS
set_option maxRecDepth 100000 in
def c39 (rec : Nat → List Value → Mem → XA) (a0 : Option Nat) (a1 : Option Nat) (M0 : Mem) : XA :=
  vC (4, 22) M0 a0 <|
  cI (rec 33 [va_rf a0] M0) fun x2 M1 =>
  if ((1 : Int32)) ≤ x2 then (
    gtP (4, 22) M1 a0 0 fun x3 =>
    gtI (5, 5) M1 x3 4 fun x4 =>
    ptI (5, 5) M1 x3 4 (x4 + ((1 : Int32))) fun M5 =>
    gtP (4, 22) M5 a0 4 fun x6 =>
    jn (fun (s7 : Mem) =>
      alI 100 s7 a1 ((0 : Int32)) fun x8 =>
      asI 100 s7 a1 ((0 : Int32)) ((x8 + ((1 : Int32)))) fun M9 =>
      some (.null, M9)) fun j81 =>
    if x6 = none then (
      gtI (4, 22) M5 a0 18 fun x10 =>
      ptI (4, 22) M5 a0 18 ((x10 * ((1103515245 : Int32))) + ((12345 : Int32))) fun M11 =>
      gtI (4, 22) M11 a0 18 fun x12 =>
      if x2 = 0 then none else
      vC (4, 22) M11 a0 <|
      cV (rec 32 [va_rf a0, .int (xrem ((Int32.toUInt32 x12 >>> (Int32.toUInt32 ((16 : Int32)) &&& Int32.toUInt32 31)).toInt32) x2)] M11) fun M13 =>
      j81 M13) else (
      gtP (4, 22) M5 a0 4 fun x14 =>
      vC (3, 7) M5 x14 <|
      cI (rec 14 [va_rf x14, .int x2] M5) fun x16 M15 =>
      vC (4, 22) M15 a0 <|
      cV (rec 32 [va_rf a0, .int x16] M15) fun M17 =>
      j81 M17)) else (
    vC (4, 22) M1 a0 <|
    cV (rec 41 [va_rf a0, .int ((3 : Int32)), .int ((1 : Int32))] M1) fun M18 =>
    some (.null, M18))
def b39 (rec : Nat → List Value → Mem → XA) (as : List Value) (M0 : Mem) : XA := aR as fun a0 as => aR as fun a1 as => aZ as (c39 rec a0 a1 M0)
set_option maxRecDepth 100000 in
set_option maxHeartbeats 4000000 in
theorem k39 {S : XS} {G : XG} {K : Nat × Nat} {l : Launch} {d : Nat} {rec : Nat → List Value → Mem → XA} (hs : XSnd l xmt rec d) (a0 : Option Nat) (a1 : Option Nat) (M0 : Mem) : Xe S G K l (yX3_drawNumber, cX3_drawNumber, 3, none) d 0 [some (va_rf a0), some (va_rf a1), none] [] M0 (c39 rec a0 a1 M0) := by
  unfold c39
  refine x_aload_n dX3_drawNumber_0 rfl ?_
  refine cmX3_236 rfl hs (Nat.le_of_ble_eq_true rfl) dX3_drawNumber_1 (fun x2 M1 => ?_)
  refine x_istore_n (lo' := [some (va_rf a0), some (va_rf a1), some (.int x2)]) dX3_drawNumber_4 (by decide) (xok_r rfl) rfl ?_
  refine x_iload_n dX3_drawNumber_5 rfl ?_
  refine x_iconst (v := 1) dX3_drawNumber_6 (by decide) ?_
  refine x_icmp_ge (tgt := 17) dX3_drawNumber_7 (by decide) (fun _ => ?_) (fun _ => ?_)
  · refine x_aload_n dX3_drawNumber_17 rfl ?_
    refine gfX3_12 rfl dX3_drawNumber_18 (fun x3 => ?_)
    refine x_dup dX3_drawNumber_21 (xc1_r _) ?_
    refine gfX3_116 rfl dX3_drawNumber_22 (fun x4 => ?_)
    refine x_iconst (v := 1) dX3_drawNumber_25 (by decide) ?_
    refine x_iadd dX3_drawNumber_26 ?_
    refine pfX3_116 rfl dX3_drawNumber_27 (fun M5 => ?_)
    refine x_aload_n dX3_drawNumber_30 rfl ?_
    refine gfX3_63 rfl dX3_drawNumber_31 (fun x6 => ?_)
    refine x_jn (σ := Mem) 81 (fun s7 => [none, some (va_rf a1), none]) (fun s7 => []) (fun s7 => s7) (fun s7 => ?_) (fun j81 hj81 => ?_)
    · refine x_aload_n dX3_drawNumber_81 rfl ?_
      refine x_iconst (v := 0) dX3_drawNumber_82 (by decide) ?_
      refine x_dup2 dX3_drawNumber_83 (xc1_i _) (xc1_r _) ?_
      refine x_iald dX3_drawNumber_84 (fun x8 => ?_)
      refine x_iconst (v := 1) dX3_drawNumber_85 (by decide) ?_
      refine x_iadd dX3_drawNumber_86 ?_
      refine x_iast dX3_drawNumber_87 (fun M9 => ?_)
      exact x_vret rfl dX3_drawNumber_88
    refine x_ifnull (tgt := 52) dX3_drawNumber_34 (by decide) (fun _ => ?_) (fun _ => ?_)
    · refine x_aload_n dX3_drawNumber_52 rfl ?_
      refine x_aload_n dX3_drawNumber_53 rfl ?_
      refine gfX3_110 rfl dX3_drawNumber_54 (fun x10 => ?_)
      refine x_ldcw (v := 1103515245) dX3_drawNumber_57 lk_constant_X3_273 ?_
      refine x_imul dX3_drawNumber_60 ?_
      refine x_sipush (v := 12345) dX3_drawNumber_61 (by decide) ?_
      refine x_iadd dX3_drawNumber_64 ?_
      refine pfX3_110 rfl dX3_drawNumber_65 (fun M11 => ?_)
      refine x_aload_n dX3_drawNumber_68 rfl ?_
      refine x_aload_n dX3_drawNumber_69 rfl ?_
      refine gfX3_110 rfl dX3_drawNumber_70 (fun x12 => ?_)
      refine x_bipush (v := 16) dX3_drawNumber_73 (by decide) ?_
      refine x_iushr dX3_drawNumber_75 ?_
      refine x_iload_n dX3_drawNumber_76 rfl ?_
      refine x_irem dX3_drawNumber_77 (fun _ => ?_)
      refine cmX3_255 rfl hs (Nat.le_of_ble_eq_true rfl) dX3_drawNumber_78 (fun M13 => ?_)
      exact x_weak (by exact ⟨rfl, trivial⟩) (hj81 M13)
    · refine x_aload_n dX3_drawNumber_37 rfl ?_
      refine x_aload_n dX3_drawNumber_38 rfl ?_
      refine gfX3_63 rfl dX3_drawNumber_39 (fun x14 => ?_)
      refine x_iload_n dX3_drawNumber_42 rfl ?_
      refine cmX3_267 rfl hs (Nat.le_of_ble_eq_true rfl) dX3_drawNumber_43 (fun x16 M15 => ?_)
      refine cmX3_255 rfl hs (Nat.le_of_ble_eq_true rfl) dX3_drawNumber_46 (fun M17 => ?_)
      refine x_goto (tgt := 81) dX3_drawNumber_49 (by decide) ?_
      exact x_weak (by exact ⟨rfl, trivial⟩) (hj81 M17)
  · refine x_aload_n dX3_drawNumber_10 rfl ?_
    refine x_iconst (v := 3) dX3_drawNumber_11 (by decide) ?_
    refine x_iconst (v := 1) dX3_drawNumber_12 (by decide) ?_
    refine cmX3_246 rfl hs (Nat.le_of_ble_eq_true rfl) dX3_drawNumber_13 (fun M18 => ?_)
    exact x_vret rfl dX3_drawNumber_16
theorem s39 {l : Launch} {d : Nat} {rec : Nat → List Value → Mem → XA} (hS : Nonempty XS) (hs : XSnd l xmt rec d) : Snd1 l 39 (b39 rec) d := by
  intro as M r M' h0
  unfold b39 at h0
  obtain ⟨a0, l1, e1, h1⟩ := aR_inv h0
  obtain ⟨a1, l2, e2, h2⟩ := aR_inv h1
  obtain ⟨ez, h⟩ := aZ_inv h2
  subst ez
  subst e2
  subst e1
  exact xmet (M := M) (as := [va_rf a0, va_rf a1]) (lo := [some (va_rf a0), some (va_rf a1)]) 39 xq39 xm39 (by rw [xargs_rf, xargs_rf, xargs_nil]; exact ⟨rfl, ⟨rfl, trivial⟩⟩) (by rw [xargs_rf, xargs_rf, xargs_nil]; exact Nat.le_of_ble_eq_true rfl) (fun S G K => x_weak (by exact ⟨rfl, ⟨rfl, trivial⟩⟩) (k39 hs a0 a1 M)) h hS
set_option maxRecDepth 100000 in
def c40 (rec : Nat → List Value → Mem → XA) (a0 : Option Nat) (a1 : Int32) (a2 : Option Nat) (M0 : Mem) : XA :=
  gtI (4, 22) M0 a0 14 fun x1 =>
  ptI (4, 22) M0 a0 14 (x1 - ((1 : Int32))) fun M2 =>
  alI 100 M2 a2 ((1 : Int32)) fun x3 =>
  ptI (4, 22) M2 a0 12 x3 fun M4 =>
  alI 100 M4 a2 ((3 : Int32)) fun x5 =>
  jn (fun (s6 : Mem) =>
    some (.null, s6)) fun j60 =>
  if x5 < 0 then (
    gtI (4, 22) M4 a0 14 fun x7 =>
    if x7 ≤ 0 then (
      j60 M4) else (
      vC (4, 22) M4 a0 <|
      cV (rec 32 [va_rf a0, .int a1] M4) fun M8 =>
      gtP (4, 22) M8 a0 13 fun x9 =>
      gtI (4, 22) M8 a0 14 fun x10 =>
      alP 113 M8 x9 (x10 - ((1 : Int32))) fun x11 =>
      alI 100 M8 x11 ((0 : Int32)) fun x12 =>
      asI 100 M8 x11 ((0 : Int32)) ((x12 + ((1 : Int32)))) fun M13 =>
      j60 M13)) else (
    ptZ (4, 22) M4 a0 15 ((1 : Int32)) fun M14 =>
    j60 M14)
def b40 (rec : Nat → List Value → Mem → XA) (as : List Value) (M0 : Mem) : XA := aR as fun a0 as => aI as fun a1 as => aR as fun a2 as => aZ as (c40 rec a0 a1 a2 M0)
set_option maxRecDepth 100000 in
set_option maxHeartbeats 4000000 in
theorem k40 {S : XS} {G : XG} {K : Nat × Nat} {l : Launch} {d : Nat} {rec : Nat → List Value → Mem → XA} (hs : XSnd l xmt rec d) (a0 : Option Nat) (a1 : Int32) (a2 : Option Nat) (M0 : Mem) : Xe S G K l (yX3_leave, cX3_leave, 3, none) d 0 [some (va_rf a0), some (.int a1), some (va_rf a2)] [] M0 (c40 rec a0 a1 a2 M0) := by
  unfold c40
  refine x_aload_n dX3_leave_0 rfl ?_
  refine x_dup dX3_leave_1 (xc1_r _) ?_
  refine gfX3_188 rfl dX3_leave_2 (fun x1 => ?_)
  refine x_iconst (v := 1) dX3_leave_5 (by decide) ?_
  refine x_isub dX3_leave_6 ?_
  refine pfX3_188 rfl dX3_leave_7 (fun M2 => ?_)
  refine x_aload_n dX3_leave_10 rfl ?_
  refine x_aload_n dX3_leave_11 rfl ?_
  refine x_iconst (v := 1) dX3_leave_12 (by decide) ?_
  refine x_iald dX3_leave_13 (fun x3 => ?_)
  refine pfX3_206 rfl dX3_leave_14 (fun M4 => ?_)
  refine x_aload_n dX3_leave_17 rfl ?_
  refine x_iconst (v := 3) dX3_leave_18 (by decide) ?_
  refine x_iald dX3_leave_19 (fun x5 => ?_)
  refine x_jn (σ := Mem) 60 (fun s6 => [none, none, none]) (fun s6 => []) (fun s6 => s6) (fun s6 => ?_) (fun j60 hj60 => ?_)
  · exact x_vret rfl dX3_leave_60
  refine x_if_lt (tgt := 31) dX3_leave_20 (by decide) (fun _ => ?_) (fun _ => ?_)
  · refine x_aload_n dX3_leave_31 rfl ?_
    refine gfX3_188 rfl dX3_leave_32 (fun x7 => ?_)
    refine x_if_le (tgt := 60) dX3_leave_35 (by decide) (fun _ => ?_) (fun _ => ?_)
    · exact x_weak (by exact trivial) (hj60 M4)
    · refine x_aload_n dX3_leave_38 rfl ?_
      refine x_iload_n dX3_leave_39 rfl ?_
      refine cmX3_255 rfl hs (Nat.le_of_ble_eq_true rfl) dX3_leave_40 (fun M8 => ?_)
      refine x_aload_n dX3_leave_43 rfl ?_
      refine gfX3_43 rfl dX3_leave_44 (fun x9 => ?_)
      refine x_aload_n dX3_leave_47 rfl ?_
      refine gfX3_188 rfl dX3_leave_48 (fun x10 => ?_)
      refine x_iconst (v := 1) dX3_leave_51 (by decide) ?_
      refine x_isub dX3_leave_52 ?_
      refine x_aldg (t := 113) (tn := 8) (by decide) (by decide) rfl rfl dX3_leave_53 (fun x11 => ?_)
      refine x_iconst (v := 0) dX3_leave_54 (by decide) ?_
      refine x_dup2 dX3_leave_55 (xc1_i _) (xc1_r _) ?_
      refine x_iald dX3_leave_56 (fun x12 => ?_)
      refine x_iconst (v := 1) dX3_leave_57 (by decide) ?_
      refine x_iadd dX3_leave_58 ?_
      refine x_iast dX3_leave_59 (fun M13 => ?_)
      exact x_weak (by exact trivial) (hj60 M13)
  · refine x_aload_n dX3_leave_23 rfl ?_
    refine x_iconst (v := 1) dX3_leave_24 (by decide) ?_
    refine pfX3_185 rfl dX3_leave_25 (fun M14 => ?_)
    refine x_goto (tgt := 60) dX3_leave_28 (by decide) ?_
    exact x_weak (by exact trivial) (hj60 M14)
theorem s40 {l : Launch} {d : Nat} {rec : Nat → List Value → Mem → XA} (hS : Nonempty XS) (hs : XSnd l xmt rec d) : Snd1 l 40 (b40 rec) d := by
  intro as M r M' h0
  unfold b40 at h0
  obtain ⟨a0, l1, e1, h1⟩ := aR_inv h0
  obtain ⟨a1, l2, e2, h2⟩ := aI_inv h1
  obtain ⟨a2, l3, e3, h3⟩ := aR_inv h2
  obtain ⟨ez, h⟩ := aZ_inv h3
  subst ez
  subst e3
  subst e2
  subst e1
  exact xmet (M := M) (as := [va_rf a0, .int a1, va_rf a2]) (lo := [some (va_rf a0), some (.int a1), some (va_rf a2)]) 40 xq40 xm40 (by rw [xargs_rf, xargs_i, xargs_rf, xargs_nil]; exact ⟨rfl, ⟨rfl, ⟨rfl, trivial⟩⟩⟩) (by rw [xargs_rf, xargs_i, xargs_rf, xargs_nil]; exact Nat.le_of_ble_eq_true rfl) (fun S G K => x_weak (by exact ⟨rfl, ⟨rfl, ⟨rfl, trivial⟩⟩⟩) (k40 hs a0 a1 a2 M)) h hS
set_option maxRecDepth 100000 in
def c41_12 (rec : Nat → List Value → Mem → XA) (a0 : Option Nat) (j104 : Option Nat × Int32 × Int32 × Mem → XA) (j186 : Mem → XA) : (Int32 × Mem) → ((Int32 × Mem) → XA) → XA := fun s11 j12 =>
  gtI (4, 22) s11.2 a0 14 fun x12 =>
  if x12 ≤ 0 then (
    j186 s11.2) else (
    gtP (4, 22) s11.2 a0 13 fun x13 =>
    gtI (4, 22) s11.2 a0 14 fun x14 =>
    alP 113 s11.2 x13 (x14 - ((1 : Int32))) fun x15 =>
    jn (fun (s16 : Mem) =>
      gtP (4, 22) s16 a0 8 fun x17 =>
      alI 100 s16 x15 ((2 : Int32)) fun x18 =>
      alP 111 s16 x17 x18 fun x19 =>
      gtP (6, 18) s16 x19 8 fun x20 =>
      alI 100 s16 x15 ((0 : Int32)) fun x21 =>
      alI 100 s16 x20 x21 fun x22 =>
      alI 100 s16 x15 ((1 : Int32)) fun x23 =>
      lt (x23 + ((10 : Int32))) fun (x24 : Int32) =>
      gtI (4, 22) s16 a0 19 fun x25 =>
      jn (fun (s26 : Unit) =>
        gtI (4, 22) s16 a0 14 fun x27 =>
        ptI (4, 22) s16 a0 14 (x27 - ((1 : Int32))) fun M28 =>
        alI 100 M28 x15 ((3 : Int32)) fun x29 =>
        jn (fun (s30 : Int32) =>
          jn (fun (s31 : Mem) =>
            j12 (s30, s31)) fun j183 =>
          if s30 = 0 then (
            j183 M28) else (
            gtP (4, 22) M28 a0 17 fun x32 =>
            alI 100 M28 x15 ((3 : Int32)) fun x33 =>
            asI 100 M28 x32 x33 (((2 : Int32))) fun M34 =>
            ptI (4, 22) M34 a0 19 ((1 : Int32)) fun M35 =>
            ptI (4, 22) M35 a0 20 ((8 : Int32)) fun M36 =>
            j183 M36)) fun j157 =>
        if x29 < 0 then (
          j157 ((0 : Int32))) else (
          j157 ((1 : Int32)))) fun j135 =>
      if x25 = ((1 : Int32)) then (
        if x22 < 0 then (
          j135 ()) else (
          gtP (4, 22) s16 a0 11 fun x37 =>
          aln s16 x37 fun x38 =>
          if x38 ≤ x24 then (
            j135 ()) else (
            j104 (x15, x22, x24, s16)))) else (
        j135 ())) fun j53 =>
    if s11.1 = 0 then (
      j53 s11.2) else (
      alI 100 s11.2 x15 ((0 : Int32)) fun x39 =>
      alI 100 s11.2 x15 ((2 : Int32)) fun x40 =>
      ptI (4, 22) s11.2 a0 21 (x39 + (((1000 : Int32)) * x40)) fun M41 =>
      j53 M41))
set_option maxRecDepth 100000 in
def c41 (rec : Nat → List Value → Mem → XA) (a0 : Option Nat) (a1 : Int32) (a2 : Int32) (M0 : Mem) : XA :=
  ptI (4, 22) M0 a0 19 a2 fun M1 =>
  ptI (4, 22) M1 a0 20 a1 fun M2 =>
  jn (fun (s3 : Option Nat × Int32 × Int32 × Mem) =>
    asI 100 s3.2.2.2 s3.1 ((0 : Int32)) s3.2.1 fun M4 =>
    gtP (4, 22) M4 a0 11 fun x5 =>
    gtI (4, 22) M4 a0 20 fun x6 =>
    asI 100 M4 x5 s3.2.2.1 x6 fun M7 =>
    ptI (4, 22) M7 a0 12 (s3.2.2.1 + ((1 : Int32))) fun M8 =>
    ptI (4, 22) M8 a0 19 ((0 : Int32)) fun M9 =>
    some (.null, M9)) fun j104 =>
  jn (fun (s10 : Mem) =>
    some (.null, s10)) fun j186 =>
  lp (c41_12 rec a0 j104 j186) 4294967296 ((1 : Int32), M2)
def b41 (rec : Nat → List Value → Mem → XA) (as : List Value) (M0 : Mem) : XA := aR as fun a0 as => aI as fun a1 as => aI as fun a2 as => aZ as (c41 rec a0 a1 a2 M0)
set_option maxRecDepth 100000 in
set_option maxHeartbeats 4000000 in
theorem k41 {S : XS} {G : XG} {K : Nat × Nat} {l : Launch} {d : Nat} {rec : Nat → List Value → Mem → XA} (hs : XSnd l xmt rec d) (a0 : Option Nat) (a1 : Int32) (a2 : Int32) (M0 : Mem) : Xe S G K l (yX3_fail, cX3_fail, 7, none) d 0 [some (va_rf a0), some (.int a1), some (.int a2), none, none, none, none] [] M0 (c41 rec a0 a1 a2 M0) := by
  unfold c41
  refine x_aload_n dX3_fail_0 rfl ?_
  refine x_iload_n dX3_fail_1 rfl ?_
  refine pfX3_164 rfl dX3_fail_2 (fun M1 => ?_)
  refine x_aload_n dX3_fail_5 rfl ?_
  refine x_iload_n dX3_fail_6 rfl ?_
  refine pfX3_155 rfl dX3_fail_7 (fun M2 => ?_)
  refine x_iconst (v := 1) dX3_fail_10 (by decide) ?_
  refine x_istore_n (lo' := [some (va_rf a0), some (.int a1), some (.int a2), some (.int ((1 : Int32))), none, none, none]) dX3_fail_11 (by decide) rfl rfl ?_
  refine x_jn (σ := Option Nat × Int32 × Int32 × Mem) 104 (fun s3 => [some (va_rf a0), none, none, none, some (va_rf s3.1), some (.int s3.2.1), some (.int s3.2.2.1)]) (fun s3 => []) (fun s3 => s3.2.2.2) (fun s3 => ?_) (fun j104 hj104 => ?_)
  · refine x_aload dX3_fail_104 rfl ?_
    refine x_iconst (v := 0) dX3_fail_106 (by decide) ?_
    refine x_iload dX3_fail_107 rfl ?_
    refine x_iast dX3_fail_109 (fun M4 => ?_)
    refine x_aload_n dX3_fail_110 rfl ?_
    refine gfX3_37 rfl dX3_fail_111 (fun x5 => ?_)
    refine x_iload dX3_fail_114 rfl ?_
    refine x_aload_n dX3_fail_116 rfl ?_
    refine gfX3_155 rfl dX3_fail_117 (fun x6 => ?_)
    refine x_iast dX3_fail_120 (fun M7 => ?_)
    refine x_aload_n dX3_fail_121 rfl ?_
    refine x_iload dX3_fail_122 rfl ?_
    refine x_iconst (v := 1) dX3_fail_124 (by decide) ?_
    refine x_iadd dX3_fail_125 ?_
    refine pfX3_206 rfl dX3_fail_126 (fun M8 => ?_)
    refine x_aload_n dX3_fail_129 rfl ?_
    refine x_iconst (v := 0) dX3_fail_130 (by decide) ?_
    refine pfX3_164 rfl dX3_fail_131 (fun M9 => ?_)
    exact x_vret rfl dX3_fail_134
  refine x_jn (σ := Mem) 186 (fun s10 => [none, none, none, none, none, none, none]) (fun s10 => []) (fun s10 => s10) (fun s10 => ?_) (fun j186 hj186 => ?_)
  · exact x_vret rfl dX3_fail_186
  refine x_weak (by exact ⟨rfl, ⟨rfl, trivial⟩⟩) (x_lp (σ := Int32 × Mem) 12 (fun s11 => [some (va_rf a0), none, none, some (.int s11.1), none, none, none]) (fun s11 => []) (fun s11 => s11.2) (fun s11 j12 hj12 => ?_) 4294967296 ((1 : Int32), M2))
  · refine x_aload_n dX3_fail_12 rfl ?_
    refine gfX3_188 rfl dX3_fail_13 (fun x12 => ?_)
    refine x_if_le (tgt := 186) dX3_fail_16 (by decide) (fun _ => ?_) (fun _ => ?_)
    · exact x_weak (by exact trivial) (hj186 s11.2)
    · refine x_aload_n dX3_fail_19 rfl ?_
      refine gfX3_43 rfl dX3_fail_20 (fun x13 => ?_)
      refine x_aload_n dX3_fail_23 rfl ?_
      refine gfX3_188 rfl dX3_fail_24 (fun x14 => ?_)
      refine x_iconst (v := 1) dX3_fail_27 (by decide) ?_
      refine x_isub dX3_fail_28 ?_
      refine x_aldg (t := 113) (tn := 8) (by decide) (by decide) rfl rfl dX3_fail_29 (fun x15 => ?_)
      refine x_astore (lo' := [some (va_rf a0), none, none, some (.int s11.1), some (va_rf x15), none, none]) dX3_fail_30 (by decide) rfl rfl ?_
      refine x_iload_n dX3_fail_32 rfl ?_
      refine x_jn (σ := Mem) 53 (fun s16 => [some (va_rf a0), none, none, none, some (va_rf x15), none, none]) (fun s16 => []) (fun s16 => s16) (fun s16 => ?_) (fun j53 hj53 => ?_)
      · refine x_aload_n dX3_fail_53 rfl ?_
        refine gfX3_33 rfl dX3_fail_54 (fun x17 => ?_)
        refine x_aload dX3_fail_57 rfl ?_
        refine x_iconst (v := 2) dX3_fail_59 (by decide) ?_
        refine x_iald dX3_fail_60 (fun x18 => ?_)
        refine x_aldq (t := 111) (tn := 6) (by decide) (by decide) rfl dX3_fail_61 (fun x19 => ?_)
        refine gfX3_274 rfl dX3_fail_62 (fun x20 => ?_)
        refine x_aload dX3_fail_65 rfl ?_
        refine x_iconst (v := 0) dX3_fail_67 (by decide) ?_
        refine x_iald dX3_fail_68 (fun x21 => ?_)
        refine x_iald dX3_fail_69 (fun x22 => ?_)
        refine x_istore (lo' := [some (va_rf a0), none, none, none, some (va_rf x15), some (.int x22), none]) dX3_fail_70 (by decide) (xok_r rfl) rfl ?_
        refine x_aload dX3_fail_72 rfl ?_
        refine x_iconst (v := 1) dX3_fail_74 (by decide) ?_
        refine x_iald dX3_fail_75 (fun x23 => ?_)
        refine x_bipush (v := 10) dX3_fail_76 (by decide) ?_
        refine x_iadd dX3_fail_78 ?_
        refine x_ltI (fun x24 => ?_)
        refine x_istore (lo' := [some (va_rf a0), none, none, none, some (va_rf x15), some (.int x22), some (.int x24)]) dX3_fail_79 (by decide) rfl rfl ?_
        refine x_aload_n dX3_fail_81 rfl ?_
        refine gfX3_164 rfl dX3_fail_82 (fun x25 => ?_)
        refine x_iconst (v := 1) dX3_fail_85 (by decide) ?_
        refine x_jn (σ := Unit) 135 (fun s26 => [some (va_rf a0), none, none, none, some (va_rf x15), none, none]) (fun s26 => []) (fun s26 => s16) (fun s26 => ?_) (fun j135 hj135 => ?_)
        · refine x_aload_n dX3_fail_135 rfl ?_
          refine x_dup dX3_fail_136 (xc1_r _) ?_
          refine gfX3_188 rfl dX3_fail_137 (fun x27 => ?_)
          refine x_iconst (v := 1) dX3_fail_140 (by decide) ?_
          refine x_isub dX3_fail_141 ?_
          refine pfX3_188 rfl dX3_fail_142 (fun M28 => ?_)
          refine x_aload dX3_fail_145 rfl ?_
          refine x_iconst (v := 3) dX3_fail_147 (by decide) ?_
          refine x_iald dX3_fail_148 (fun x29 => ?_)
          refine x_jn (σ := Int32) 157 (fun s30 => [some (va_rf a0), none, none, none, some (va_rf x15), none, none]) (fun s30 => [.int s30]) (fun s30 => M28) (fun s30 => ?_) (fun j157 hj157 => ?_)
          · refine x_istore_n (lo' := [some (va_rf a0), none, none, some (.int s30), some (va_rf x15), none, none]) dX3_fail_157 (by decide) rfl rfl ?_
            refine x_iload_n dX3_fail_158 rfl ?_
            refine x_jn (σ := Mem) 183 (fun s31 => [some (va_rf a0), none, none, some (.int s30), none, none, none]) (fun s31 => []) (fun s31 => s31) (fun s31 => ?_) (fun j183 hj183 => ?_)
            · refine x_goto (tgt := 12) dX3_fail_183 (by decide) ?_
              exact x_weak (by exact ⟨rfl, ⟨rfl, trivial⟩⟩) (hj12 (s30, s31))
            refine x_if_eq (tgt := 183) dX3_fail_159 (by decide) (fun _ => ?_) (fun _ => ?_)
            · exact x_weak (by exact ⟨rfl, ⟨rfl, trivial⟩⟩) (hj183 M28)
            · refine x_aload_n dX3_fail_162 rfl ?_
              refine gfX3_49 rfl dX3_fail_163 (fun x32 => ?_)
              refine x_aload dX3_fail_166 rfl ?_
              refine x_iconst (v := 3) dX3_fail_168 (by decide) ?_
              refine x_iald dX3_fail_169 (fun x33 => ?_)
              refine x_iconst (v := 2) dX3_fail_170 (by decide) ?_
              refine x_iast dX3_fail_171 (fun M34 => ?_)
              refine x_aload_n dX3_fail_172 rfl ?_
              refine x_iconst (v := 1) dX3_fail_173 (by decide) ?_
              refine pfX3_164 rfl dX3_fail_174 (fun M35 => ?_)
              refine x_aload_n dX3_fail_177 rfl ?_
              refine x_bipush (v := 8) dX3_fail_178 (by decide) ?_
              refine pfX3_155 rfl dX3_fail_180 (fun M36 => ?_)
              exact x_weak (by exact ⟨rfl, ⟨rfl, trivial⟩⟩) (hj183 M36)
          refine x_if_lt (tgt := 156) dX3_fail_149 (by decide) (fun _ => ?_) (fun _ => ?_)
          · refine x_iconst (v := 0) dX3_fail_156 (by decide) ?_
            exact x_weak (by exact ⟨rfl, ⟨rfl, trivial⟩⟩) (hj157 ((0 : Int32)))
          · refine x_iconst (v := 1) dX3_fail_152 (by decide) ?_
            refine x_goto (tgt := 157) dX3_fail_153 (by decide) ?_
            exact x_weak (by exact ⟨rfl, ⟨rfl, trivial⟩⟩) (hj157 ((1 : Int32)))
        refine x_icmp_ne (tgt := 135) dX3_fail_86 (by decide) (fun _ => ?_) (fun _ => ?_)
        · refine x_iload dX3_fail_89 rfl ?_
          refine x_if_lt (tgt := 135) dX3_fail_91 (by decide) (fun _ => ?_) (fun _ => ?_)
          · exact x_weak (by exact ⟨rfl, ⟨rfl, trivial⟩⟩) (hj135 ())
          · refine x_iload dX3_fail_94 rfl ?_
            refine x_aload_n dX3_fail_96 rfl ?_
            refine gfX3_37 rfl dX3_fail_97 (fun x37 => ?_)
            refine x_alen dX3_fail_100 (fun x38 => ?_)
            refine x_icmp_ge (tgt := 135) dX3_fail_101 (by decide) (fun _ => ?_) (fun _ => ?_)
            · exact x_weak (by exact ⟨rfl, ⟨rfl, trivial⟩⟩) (hj135 ())
            · exact x_weak (by exact ⟨rfl, ⟨rfl, ⟨rfl, ⟨rfl, trivial⟩⟩⟩⟩) (hj104 (x15, x22, x24, s16))
        · exact x_weak (by exact ⟨rfl, ⟨rfl, trivial⟩⟩) (hj135 ())
      refine x_if_eq (tgt := 53) dX3_fail_33 (by decide) (fun _ => ?_) (fun _ => ?_)
      · exact x_weak (by exact ⟨rfl, ⟨rfl, trivial⟩⟩) (hj53 s11.2)
      · refine x_aload_n dX3_fail_36 rfl ?_
        refine x_aload dX3_fail_37 rfl ?_
        refine x_iconst (v := 0) dX3_fail_39 (by decide) ?_
        refine x_iald dX3_fail_40 (fun x39 => ?_)
        refine x_sipush (v := 1000) dX3_fail_41 (by decide) ?_
        refine x_aload dX3_fail_44 rfl ?_
        refine x_iconst (v := 2) dX3_fail_46 (by decide) ?_
        refine x_iald dX3_fail_47 (fun x40 => ?_)
        refine x_imul dX3_fail_48 ?_
        refine x_iadd dX3_fail_49 ?_
        refine pfX3_158 rfl dX3_fail_50 (fun M41 => ?_)
        exact x_weak (by exact ⟨rfl, ⟨rfl, trivial⟩⟩) (hj53 M41)
theorem s41 {l : Launch} {d : Nat} {rec : Nat → List Value → Mem → XA} (hS : Nonempty XS) (hs : XSnd l xmt rec d) : Snd1 l 41 (b41 rec) d := by
  intro as M r M' h0
  unfold b41 at h0
  obtain ⟨a0, l1, e1, h1⟩ := aR_inv h0
  obtain ⟨a1, l2, e2, h2⟩ := aI_inv h1
  obtain ⟨a2, l3, e3, h3⟩ := aI_inv h2
  obtain ⟨ez, h⟩ := aZ_inv h3
  subst ez
  subst e3
  subst e2
  subst e1
  exact xmet (M := M) (as := [va_rf a0, .int a1, .int a2]) (lo := [some (va_rf a0), some (.int a1), some (.int a2)]) 41 xq41 xm41 (by rw [xargs_rf, xargs_i, xargs_i, xargs_nil]; exact ⟨rfl, ⟨rfl, ⟨rfl, trivial⟩⟩⟩) (by rw [xargs_rf, xargs_i, xargs_i, xargs_nil]; exact Nat.le_of_ble_eq_true rfl) (fun S G K => x_weak (by exact ⟨rfl, ⟨rfl, ⟨rfl, trivial⟩⟩⟩) (k41 hs a0 a1 a2 M)) h hS
set_option maxRecDepth 100000 in
def c42 (rec : Nat → List Value → Mem → XA) (a0 : Option Nat) (a1 : Int32) (a2 : Int32) (a3 : Option Nat) (M0 : Mem) : XA :=
  alI 100 M0 a3 ((2 : Int32)) fun x1 =>
  gtP (4, 22) M0 a0 9 fun x2 =>
  jn (fun (s3 : Int32 × Mem) =>
    jn (fun (s4 : Int32 × Int32) =>
      gtP (4, 22) s3.2 a0 8 fun x5 =>
      alP 111 s3.2 x5 s4.1 fun x6 =>
      gtP (6, 18) s3.2 x6 2 fun x7 =>
      cP (rec 168 [va_rf x7, .int s4.2] s3.2) fun x9 M8 =>
      jn (fun (s10 : Mem) =>
        some (.null, s10)) fun j102 =>
      if x9 = none then (
        j102 M8) else (
        gtI (8, 9) M8 x9 1 fun x11 =>
        vC (4, 22) M8 a0 <|
        cI (rec 44 [va_rf a0, .int s4.1, .int x11] M8) fun x13 M12 =>
        if x13 = 0 then (
          j102 M12) else (
          gtI (8, 9) M12 x9 8 fun x14 =>
          lt ((s4.1 * ((4800 : Int32))) + x14) fun (x15 : Int32) =>
          jn (fun (s16 : Mem) =>
            some (.null, s16)) fun j200 =>
          if a1 = ((7 : Int32)) then (
            vC (4, 22) M12 a0 <|
            cV (rec 46 [va_rf a0, .int s4.1, .int s4.2, va_rf x9] M12) fun M17 =>
            j200 M17) else (
            if a1 = ((3 : Int32)) then (
              gtP (4, 22) M12 a0 16 fun x18 =>
              alI 100 M12 x18 x15 fun x19 =>
              vC (4, 22) M12 a0 <|
              cV (rec 32 [va_rf a0, .int x19] M12) fun M20 =>
              alI 100 M20 a3 ((0 : Int32)) fun x21 =>
              asI 100 M20 a3 ((0 : Int32)) ((x21 + ((1 : Int32)))) fun M22 =>
              j200 M22) else (
              if a1 = ((4 : Int32)) then (
                gtP (4, 22) M12 a0 16 fun x23 =>
                vC (4, 22) M12 a0 <|
                cI (rec 33 [va_rf a0] M12) fun x25 M24 =>
                asI 100 M24 x23 x15 x25 fun M26 =>
                alI 100 M26 a3 ((0 : Int32)) fun x27 =>
                asI 100 M26 a3 ((0 : Int32)) ((x27 + ((1 : Int32)))) fun M28 =>
                j200 M28) else (
                gtI (8, 9) M12 x9 4 fun x29 =>
                vC (4, 22) M12 a0 <|
                cV (rec 43 [va_rf a0, .int a1, .int x15, .int x29] M12) fun M30 =>
                j200 M30)))))) fun j66 =>
    if s3.1 < 0 then (
      if s3.1 = ((-2 : Int32)) then (
        j66 (x1, a2)) else (
        vC (4, 22) s3.2 a0 <|
        cV (rec 41 [va_rf a0, .int (-s3.1), .int ((1 : Int32))] s3.2) fun M31 =>
        some (.null, M31))) else (
      j66 ((1 : Int32), s3.1))) fun j33 =>
  jn (fun (s32 : Unit) =>
    j33 ((-2 : Int32), M0)) fun j20 =>
  if x2 = none then (
    j20 ()) else (
    if x1 = 0 then (
      gtP (4, 22) M0 a0 9 fun x33 =>
      vC (1, 4) M0 x33 <|
      cI (rec 4 [va_rf x33, .int a2] M0) fun x35 M34 =>
      j33 (x35, M34)) else (
      j20 ()))
def b42 (rec : Nat → List Value → Mem → XA) (as : List Value) (M0 : Mem) : XA := aR as fun a0 as => aI as fun a1 as => aI as fun a2 as => aR as fun a3 as => aZ as (c42 rec a0 a1 a2 a3 M0)
set_option maxRecDepth 100000 in
set_option maxHeartbeats 4000000 in
theorem k42 {S : XS} {G : XG} {K : Nat × Nat} {l : Launch} {d : Nat} {rec : Nat → List Value → Mem → XA} (hs : XSnd l xmt rec d) (a0 : Option Nat) (a1 : Int32) (a2 : Int32) (a3 : Option Nat) (M0 : Mem) : Xe S G K l (yX3_useMember, cX3_useMember, 9, none) d 0 [some (va_rf a0), some (.int a1), some (.int a2), some (va_rf a3), none, none, none, none, none] [] M0 (c42 rec a0 a1 a2 a3 M0) := by
  unfold c42
  refine x_aload_n dX3_useMember_0 rfl ?_
  refine x_iconst (v := 2) dX3_useMember_1 (by decide) ?_
  refine x_iald dX3_useMember_2 (fun x1 => ?_)
  refine x_istore (lo' := [some (va_rf a0), some (.int a1), some (.int a2), some (va_rf a3), some (.int x1), none, none, none, none]) dX3_useMember_3 (by decide) (xok_r rfl) rfl ?_
  refine x_iload_n dX3_useMember_5 rfl ?_
  refine x_istore (lo' := [some (va_rf a0), some (.int a1), some (.int a2), some (va_rf a3), some (.int x1), some (.int a2), none, none, none]) dX3_useMember_6 (by decide) rfl rfl ?_
  refine x_aload_n dX3_useMember_8 rfl ?_
  refine gfX3_53 rfl dX3_useMember_9 (fun x2 => ?_)
  refine x_jn (σ := Int32 × Mem) 33 (fun s3 => [some (va_rf a0), some (.int a1), none, some (va_rf a3), some (.int x1), some (.int a2), none, none, none]) (fun s3 => [.int s3.1]) (fun s3 => s3.2) (fun s3 => ?_) (fun j33 hj33 => ?_)
  · refine x_istore (lo' := [some (va_rf a0), some (.int a1), none, some (va_rf a3), some (.int x1), some (.int a2), some (.int s3.1), none, none]) dX3_useMember_33 (by decide) rfl rfl ?_
    refine x_iload dX3_useMember_35 rfl ?_
    refine x_jn (σ := Int32 × Int32) 66 (fun s4 => [some (va_rf a0), some (.int a1), none, some (va_rf a3), some (.int s4.1), some (.int s4.2), none, none, none]) (fun s4 => []) (fun s4 => s3.2) (fun s4 => ?_) (fun j66 hj66 => ?_)
    · refine x_aload_n dX3_useMember_66 rfl ?_
      refine gfX3_33 rfl dX3_useMember_67 (fun x5 => ?_)
      refine x_iload dX3_useMember_70 rfl ?_
      refine x_aldq (t := 111) (tn := 6) (by decide) (by decide) rfl dX3_useMember_72 (fun x6 => ?_)
      refine gfX3_79 rfl dX3_useMember_73 (fun x7 => ?_)
      refine x_iload dX3_useMember_76 rfl ?_
      refine cmX3_259 rfl hs (Nat.le_of_ble_eq_true rfl) dX3_useMember_78 (fun x9 M8 => ?_)
      refine x_astore (lo' := [some (va_rf a0), some (.int a1), none, some (va_rf a3), some (.int s4.1), some (.int s4.2), none, some (va_rf x9), none]) dX3_useMember_81 (by decide) rfl rfl ?_
      refine x_aload dX3_useMember_83 rfl ?_
      refine x_jn (σ := Mem) 102 (fun s10 => [none, none, none, none, none, none, none, none, none]) (fun s10 => []) (fun s10 => s10) (fun s10 => ?_) (fun j102 hj102 => ?_)
      · exact x_vret rfl dX3_useMember_102
      refine x_ifnull (tgt := 102) dX3_useMember_85 (by decide) (fun _ => ?_) (fun _ => ?_)
      · exact x_weak (by exact trivial) (hj102 M8)
      · refine x_aload_n dX3_useMember_88 rfl ?_
        refine x_iload dX3_useMember_89 rfl ?_
        refine x_aload dX3_useMember_91 rfl ?_
        refine gfX3_130 rfl dX3_useMember_93 (fun x11 => ?_)
        refine cmX3_280 rfl hs (Nat.le_of_ble_eq_true rfl) dX3_useMember_96 (fun x13 M12 => ?_)
        refine x_if_ne (tgt := 103) dX3_useMember_99 (by decide) (fun _ => ?_) (fun _ => ?_)
        · exact x_weak (by exact trivial) (hj102 M12)
        · refine x_iload dX3_useMember_103 rfl ?_
          refine x_sipush (v := 4800) dX3_useMember_105 (by decide) ?_
          refine x_imul dX3_useMember_108 ?_
          refine x_aload dX3_useMember_109 rfl ?_
          refine gfX3_98 rfl dX3_useMember_111 (fun x14 => ?_)
          refine x_iadd dX3_useMember_114 ?_
          refine x_ltI (fun x15 => ?_)
          refine x_istore (lo' := [some (va_rf a0), some (.int a1), none, some (va_rf a3), some (.int s4.1), some (.int s4.2), none, some (va_rf x9), some (.int x15)]) dX3_useMember_115 (by decide) (xok_r rfl) rfl ?_
          refine x_iload_n dX3_useMember_117 rfl ?_
          refine x_bipush (v := 7) dX3_useMember_118 (by decide) ?_
          refine x_jn (σ := Mem) 200 (fun s16 => [none, none, none, none, none, none, none, none, none]) (fun s16 => []) (fun s16 => s16) (fun s16 => ?_) (fun j200 hj200 => ?_)
          · exact x_vret rfl dX3_useMember_200
          refine x_icmp_ne (tgt := 136) dX3_useMember_120 (by decide) (fun _ => ?_) (fun _ => ?_)
          · refine x_aload_n dX3_useMember_123 rfl ?_
            refine x_iload dX3_useMember_124 rfl ?_
            refine x_iload dX3_useMember_126 rfl ?_
            refine x_aload dX3_useMember_128 rfl ?_
            refine cmX3_284 rfl hs (Nat.le_of_ble_eq_true rfl) dX3_useMember_130 (fun M17 => ?_)
            refine x_goto (tgt := 200) dX3_useMember_133 (by decide) ?_
            exact x_weak (by exact trivial) (hj200 M17)
          · refine x_iload_n dX3_useMember_136 rfl ?_
            refine x_iconst (v := 3) dX3_useMember_137 (by decide) ?_
            refine x_icmp_ne (tgt := 162) dX3_useMember_138 (by decide) (fun _ => ?_) (fun _ => ?_)
            · refine x_aload_n dX3_useMember_141 rfl ?_
              refine x_aload_n dX3_useMember_142 rfl ?_
              refine gfX3_46 rfl dX3_useMember_143 (fun x18 => ?_)
              refine x_iload dX3_useMember_146 rfl ?_
              refine x_iald dX3_useMember_148 (fun x19 => ?_)
              refine cmX3_255 rfl hs (Nat.le_of_ble_eq_true rfl) dX3_useMember_149 (fun M20 => ?_)
              refine x_aload_n dX3_useMember_152 rfl ?_
              refine x_iconst (v := 0) dX3_useMember_153 (by decide) ?_
              refine x_dup2 dX3_useMember_154 (xc1_i _) (xc1_r _) ?_
              refine x_iald dX3_useMember_155 (fun x21 => ?_)
              refine x_iconst (v := 1) dX3_useMember_156 (by decide) ?_
              refine x_iadd dX3_useMember_157 ?_
              refine x_iast dX3_useMember_158 (fun M22 => ?_)
              refine x_goto (tgt := 200) dX3_useMember_159 (by decide) ?_
              exact x_weak (by exact trivial) (hj200 M22)
            · refine x_iload_n dX3_useMember_162 rfl ?_
              refine x_iconst (v := 4) dX3_useMember_163 (by decide) ?_
              refine x_icmp_ne (tgt := 188) dX3_useMember_164 (by decide) (fun _ => ?_) (fun _ => ?_)
              · refine x_aload_n dX3_useMember_167 rfl ?_
                refine gfX3_46 rfl dX3_useMember_168 (fun x23 => ?_)
                refine x_iload dX3_useMember_171 rfl ?_
                refine x_aload_n dX3_useMember_173 rfl ?_
                refine cmX3_236 rfl hs (Nat.le_of_ble_eq_true rfl) dX3_useMember_174 (fun x25 M24 => ?_)
                refine x_iast dX3_useMember_177 (fun M26 => ?_)
                refine x_aload_n dX3_useMember_178 rfl ?_
                refine x_iconst (v := 0) dX3_useMember_179 (by decide) ?_
                refine x_dup2 dX3_useMember_180 (xc1_i _) (xc1_r _) ?_
                refine x_iald dX3_useMember_181 (fun x27 => ?_)
                refine x_iconst (v := 1) dX3_useMember_182 (by decide) ?_
                refine x_iadd dX3_useMember_183 ?_
                refine x_iast dX3_useMember_184 (fun M28 => ?_)
                refine x_goto (tgt := 200) dX3_useMember_185 (by decide) ?_
                exact x_weak (by exact trivial) (hj200 M28)
              · refine x_aload_n dX3_useMember_188 rfl ?_
                refine x_iload_n dX3_useMember_189 rfl ?_
                refine x_iload dX3_useMember_190 rfl ?_
                refine x_aload dX3_useMember_192 rfl ?_
                refine gfX3_101 rfl dX3_useMember_194 (fun x29 => ?_)
                refine cmX3_288 rfl hs (Nat.le_of_ble_eq_true rfl) dX3_useMember_197 (fun M30 => ?_)
                exact x_weak (by exact trivial) (hj200 M30)
    refine x_if_lt (tgt := 50) dX3_useMember_37 (by decide) (fun _ => ?_) (fun _ => ?_)
    · refine x_iload dX3_useMember_50 rfl ?_
      refine x_bipush (v := -2) dX3_useMember_52 (by decide) ?_
      refine x_icmp_eq (tgt := 66) dX3_useMember_54 (by decide) (fun _ => ?_) (fun _ => ?_)
      · exact x_weak (by exact ⟨rfl, ⟨rfl, ⟨rfl, ⟨rfl, ⟨rfl, trivial⟩⟩⟩⟩⟩) (hj66 (x1, a2))
      · refine x_aload_n dX3_useMember_57 rfl ?_
        refine x_iload dX3_useMember_58 rfl ?_
        refine x_ineg dX3_useMember_60 ?_
        refine x_iconst (v := 1) dX3_useMember_61 (by decide) ?_
        refine cmX3_246 rfl hs (Nat.le_of_ble_eq_true rfl) dX3_useMember_62 (fun M31 => ?_)
        exact x_vret rfl dX3_useMember_65
    · refine x_iconst (v := 1) dX3_useMember_40 (by decide) ?_
      refine x_istore (lo' := [some (va_rf a0), some (.int a1), none, some (va_rf a3), some (.int ((1 : Int32))), some (.int a2), some (.int s3.1), none, none]) dX3_useMember_41 (by decide) (xok_r rfl) rfl ?_
      refine x_iload dX3_useMember_43 rfl ?_
      refine x_istore (lo' := [some (va_rf a0), some (.int a1), none, some (va_rf a3), some (.int ((1 : Int32))), some (.int s3.1), some (.int s3.1), none, none]) dX3_useMember_45 (by decide) rfl rfl ?_
      refine x_goto (tgt := 66) dX3_useMember_47 (by decide) ?_
      exact x_weak (by exact ⟨rfl, ⟨rfl, ⟨rfl, ⟨rfl, ⟨rfl, trivial⟩⟩⟩⟩⟩) (hj66 ((1 : Int32), s3.1))
  refine x_jn (σ := Unit) 20 (fun s32 => [some (va_rf a0), some (.int a1), none, some (va_rf a3), some (.int x1), some (.int a2), none, none, none]) (fun s32 => []) (fun s32 => M0) (fun s32 => ?_) (fun j20 hj20 => ?_)
  · refine x_bipush (v := -2) dX3_useMember_20 (by decide) ?_
    refine x_goto (tgt := 33) dX3_useMember_22 (by decide) ?_
    exact x_weak (by exact ⟨rfl, ⟨rfl, ⟨rfl, ⟨rfl, ⟨rfl, trivial⟩⟩⟩⟩⟩) (hj33 ((-2 : Int32), M0))
  refine x_ifnull (tgt := 20) dX3_useMember_12 (by decide) (fun _ => ?_) (fun _ => ?_)
  · exact x_weak (by exact ⟨rfl, ⟨rfl, ⟨rfl, ⟨rfl, ⟨rfl, trivial⟩⟩⟩⟩⟩) (hj20 ())
  · refine x_iload dX3_useMember_15 rfl ?_
    refine x_if_eq (tgt := 25) dX3_useMember_17 (by decide) (fun _ => ?_) (fun _ => ?_)
    · refine x_aload_n dX3_useMember_25 rfl ?_
      refine gfX3_53 rfl dX3_useMember_26 (fun x33 => ?_)
      refine x_iload_n dX3_useMember_29 rfl ?_
      refine cmX3_277 rfl hs (Nat.le_of_ble_eq_true rfl) dX3_useMember_30 (fun x35 M34 => ?_)
      exact x_weak (by exact ⟨rfl, ⟨rfl, ⟨rfl, ⟨rfl, ⟨rfl, trivial⟩⟩⟩⟩⟩) (hj33 (x35, M34))
    · exact x_weak (by exact ⟨rfl, ⟨rfl, ⟨rfl, ⟨rfl, ⟨rfl, trivial⟩⟩⟩⟩⟩) (hj20 ())
theorem s42 {l : Launch} {d : Nat} {rec : Nat → List Value → Mem → XA} (hS : Nonempty XS) (hs : XSnd l xmt rec d) : Snd1 l 42 (b42 rec) d := by
  intro as M r M' h0
  unfold b42 at h0
  obtain ⟨a0, l1, e1, h1⟩ := aR_inv h0
  obtain ⟨a1, l2, e2, h2⟩ := aI_inv h1
  obtain ⟨a2, l3, e3, h3⟩ := aI_inv h2
  obtain ⟨a3, l4, e4, h4⟩ := aR_inv h3
  obtain ⟨ez, h⟩ := aZ_inv h4
  subst ez
  subst e4
  subst e3
  subst e2
  subst e1
  exact xmet (M := M) (as := [va_rf a0, .int a1, .int a2, va_rf a3]) (lo := [some (va_rf a0), some (.int a1), some (.int a2), some (va_rf a3)]) 42 xq42 xm42 (by rw [xargs_rf, xargs_i, xargs_i, xargs_rf, xargs_nil]; exact ⟨rfl, ⟨rfl, ⟨rfl, ⟨rfl, trivial⟩⟩⟩⟩) (by rw [xargs_rf, xargs_i, xargs_i, xargs_rf, xargs_nil]; exact Nat.le_of_ble_eq_true rfl) (fun S G K => x_weak (by exact ⟨rfl, ⟨rfl, ⟨rfl, ⟨rfl, trivial⟩⟩⟩⟩) (k42 hs a0 a1 a2 a3 M)) h hS
set_option maxRecDepth 100000 in
def c43 (rec : Nat → List Value → Mem → XA) (a0 : Option Nat) (a1 : Int32) (a2 : Int32) (a3 : Int32) (M0 : Mem) : XA :=
  gtP (4, 22) M0 a0 13 fun x1 =>
  gtI (4, 22) M0 a0 14 fun x2 =>
  alP 113 M0 x1 (x2 - ((1 : Int32))) fun x3 =>
  jn (fun (s4 : Int32 × Mem) =>
    vC (4, 22) s4.2 a0 <|
    cI (rec 33 [va_rf a0] s4.2) fun x6 M5 =>
    jn (fun (s7 : Unit) =>
      vC (4, 22) M5 a0 <|
      cV (rec 41 [va_rf a0, .int ((2 : Int32)), .int ((1 : Int32))] M5) fun M8 =>
      some (.null, M8)) fun j46 =>
    if x6 < 0 then (
      j46 ()) else (
      if x6 < a3 then (
        jn (fun (s9 : Mem) =>
          alI 100 s9 x3 ((0 : Int32)) fun x10 =>
          asI 100 s9 x3 ((0 : Int32)) ((x10 + ((1 : Int32)))) fun M11 =>
          some (.null, M11)) fun j86 =>
        if a1 = ((6 : Int32)) then (
          gtP (4, 22) M5 a0 16 fun x12 =>
          asI 100 M5 x12 (a2 + x6) s4.1 fun M13 =>
          j86 M13) else (
          gtP (4, 22) M5 a0 16 fun x14 =>
          alI 100 M5 x14 (a2 + x6) fun x15 =>
          vC (4, 22) M5 a0 <|
          cV (rec 32 [va_rf a0, .int x15] M5) fun M16 =>
          j86 M16)) else (
        j46 ()))) fun j27 =>
  if a1 = ((6 : Int32)) then (
    vC (4, 22) M0 a0 <|
    cI (rec 33 [va_rf a0] M0) fun x18 M17 =>
    j27 (x18, M17)) else (
    j27 ((0 : Int32), M0))
def b43 (rec : Nat → List Value → Mem → XA) (as : List Value) (M0 : Mem) : XA := aR as fun a0 as => aI as fun a1 as => aI as fun a2 as => aI as fun a3 as => aZ as (c43 rec a0 a1 a2 a3 M0)
set_option maxRecDepth 100000 in
set_option maxHeartbeats 4000000 in
theorem k43 {S : XS} {G : XG} {K : Nat × Nat} {l : Launch} {d : Nat} {rec : Nat → List Value → Mem → XA} (hs : XSnd l xmt rec d) (a0 : Option Nat) (a1 : Int32) (a2 : Int32) (a3 : Int32) (M0 : Mem) : Xe S G K l (yX3_useRow, cX3_useRow, 7, none) d 0 [some (va_rf a0), some (.int a1), some (.int a2), some (.int a3), none, none, none] [] M0 (c43 rec a0 a1 a2 a3 M0) := by
  unfold c43
  refine x_aload_n dX3_useRow_0 rfl ?_
  refine gfX3_43 rfl dX3_useRow_1 (fun x1 => ?_)
  refine x_aload_n dX3_useRow_4 rfl ?_
  refine gfX3_188 rfl dX3_useRow_5 (fun x2 => ?_)
  refine x_iconst (v := 1) dX3_useRow_8 (by decide) ?_
  refine x_isub dX3_useRow_9 ?_
  refine x_aldg (t := 113) (tn := 8) (by decide) (by decide) rfl rfl dX3_useRow_10 (fun x3 => ?_)
  refine x_astore (lo' := [some (va_rf a0), some (.int a1), some (.int a2), some (.int a3), some (va_rf x3), none, none]) dX3_useRow_11 (by decide) rfl rfl ?_
  refine x_iload_n dX3_useRow_13 rfl ?_
  refine x_bipush (v := 6) dX3_useRow_14 (by decide) ?_
  refine x_jn (σ := Int32 × Mem) 27 (fun s4 => [some (va_rf a0), some (.int a1), some (.int a2), some (.int a3), some (va_rf x3), none, none]) (fun s4 => [.int s4.1]) (fun s4 => s4.2) (fun s4 => ?_) (fun j27 hj27 => ?_)
  · refine x_istore (lo' := [some (va_rf a0), some (.int a1), some (.int a2), some (.int a3), some (va_rf x3), some (.int s4.1), none]) dX3_useRow_27 (by decide) (xok_r rfl) rfl ?_
    refine x_aload_n dX3_useRow_29 rfl ?_
    refine cmX3_236 rfl hs (Nat.le_of_ble_eq_true rfl) dX3_useRow_30 (fun x6 M5 => ?_)
    refine x_istore (lo' := [some (va_rf a0), some (.int a1), some (.int a2), some (.int a3), some (va_rf x3), some (.int s4.1), some (.int x6)]) dX3_useRow_33 (by decide) rfl rfl ?_
    refine x_iload dX3_useRow_35 rfl ?_
    refine x_jn (σ := Unit) 46 (fun s7 => [some (va_rf a0), none, none, none, none, none, none]) (fun s7 => []) (fun s7 => M5) (fun s7 => ?_) (fun j46 hj46 => ?_)
    · refine x_aload_n dX3_useRow_46 rfl ?_
      refine x_iconst (v := 2) dX3_useRow_47 (by decide) ?_
      refine x_iconst (v := 1) dX3_useRow_48 (by decide) ?_
      refine cmX3_246 rfl hs (Nat.le_of_ble_eq_true rfl) dX3_useRow_49 (fun M8 => ?_)
      exact x_vret rfl dX3_useRow_52
    refine x_if_lt (tgt := 46) dX3_useRow_37 (by decide) (fun _ => ?_) (fun _ => ?_)
    · exact x_weak (by exact ⟨rfl, trivial⟩) (hj46 ())
    · refine x_iload dX3_useRow_40 rfl ?_
      refine x_iload_n dX3_useRow_42 rfl ?_
      refine x_icmp_lt (tgt := 53) dX3_useRow_43 (by decide) (fun _ => ?_) (fun _ => ?_)
      · refine x_iload_n dX3_useRow_53 rfl ?_
        refine x_bipush (v := 6) dX3_useRow_54 (by decide) ?_
        refine x_jn (σ := Mem) 86 (fun s9 => [none, none, none, none, some (va_rf x3), none, none]) (fun s9 => []) (fun s9 => s9) (fun s9 => ?_) (fun j86 hj86 => ?_)
        · refine x_aload dX3_useRow_86 rfl ?_
          refine x_iconst (v := 0) dX3_useRow_88 (by decide) ?_
          refine x_dup2 dX3_useRow_89 (xc1_i _) (xc1_r _) ?_
          refine x_iald dX3_useRow_90 (fun x10 => ?_)
          refine x_iconst (v := 1) dX3_useRow_91 (by decide) ?_
          refine x_iadd dX3_useRow_92 ?_
          refine x_iast dX3_useRow_93 (fun M11 => ?_)
          exact x_vret rfl dX3_useRow_94
        refine x_icmp_ne (tgt := 73) dX3_useRow_56 (by decide) (fun _ => ?_) (fun _ => ?_)
        · refine x_aload_n dX3_useRow_59 rfl ?_
          refine gfX3_46 rfl dX3_useRow_60 (fun x12 => ?_)
          refine x_iload_n dX3_useRow_63 rfl ?_
          refine x_iload dX3_useRow_64 rfl ?_
          refine x_iadd dX3_useRow_66 ?_
          refine x_iload dX3_useRow_67 rfl ?_
          refine x_iast dX3_useRow_69 (fun M13 => ?_)
          refine x_goto (tgt := 86) dX3_useRow_70 (by decide) ?_
          exact x_weak (by exact ⟨rfl, trivial⟩) (hj86 M13)
        · refine x_aload_n dX3_useRow_73 rfl ?_
          refine x_aload_n dX3_useRow_74 rfl ?_
          refine gfX3_46 rfl dX3_useRow_75 (fun x14 => ?_)
          refine x_iload_n dX3_useRow_78 rfl ?_
          refine x_iload dX3_useRow_79 rfl ?_
          refine x_iadd dX3_useRow_81 ?_
          refine x_iald dX3_useRow_82 (fun x15 => ?_)
          refine cmX3_255 rfl hs (Nat.le_of_ble_eq_true rfl) dX3_useRow_83 (fun M16 => ?_)
          exact x_weak (by exact ⟨rfl, trivial⟩) (hj86 M16)
      · exact x_weak (by exact ⟨rfl, trivial⟩) (hj46 ())
  refine x_icmp_ne (tgt := 26) dX3_useRow_16 (by decide) (fun _ => ?_) (fun _ => ?_)
  · refine x_aload_n dX3_useRow_19 rfl ?_
    refine cmX3_236 rfl hs (Nat.le_of_ble_eq_true rfl) dX3_useRow_20 (fun x18 M17 => ?_)
    refine x_goto (tgt := 27) dX3_useRow_23 (by decide) ?_
    exact x_weak (by exact ⟨rfl, ⟨rfl, ⟨rfl, ⟨rfl, ⟨rfl, trivial⟩⟩⟩⟩⟩) (hj27 (x18, M17))
  · refine x_iconst (v := 0) dX3_useRow_26 (by decide) ?_
    exact x_weak (by exact ⟨rfl, ⟨rfl, ⟨rfl, ⟨rfl, ⟨rfl, trivial⟩⟩⟩⟩⟩) (hj27 ((0 : Int32), M0))
theorem s43 {l : Launch} {d : Nat} {rec : Nat → List Value → Mem → XA} (hS : Nonempty XS) (hs : XSnd l xmt rec d) : Snd1 l 43 (b43 rec) d := by
  intro as M r M' h0
  unfold b43 at h0
  obtain ⟨a0, l1, e1, h1⟩ := aR_inv h0
  obtain ⟨a1, l2, e2, h2⟩ := aI_inv h1
  obtain ⟨a2, l3, e3, h3⟩ := aI_inv h2
  obtain ⟨a3, l4, e4, h4⟩ := aI_inv h3
  obtain ⟨ez, h⟩ := aZ_inv h4
  subst ez
  subst e4
  subst e3
  subst e2
  subst e1
  exact xmet (M := M) (as := [va_rf a0, .int a1, .int a2, .int a3]) (lo := [some (va_rf a0), some (.int a1), some (.int a2), some (.int a3)]) 43 xq43 xm43 (by rw [xargs_rf, xargs_i, xargs_i, xargs_i, xargs_nil]; exact ⟨rfl, ⟨rfl, ⟨rfl, ⟨rfl, trivial⟩⟩⟩⟩) (by rw [xargs_rf, xargs_i, xargs_i, xargs_i, xargs_nil]; exact Nat.le_of_ble_eq_true rfl) (fun S G K => x_weak (by exact ⟨rfl, ⟨rfl, ⟨rfl, ⟨rfl, trivial⟩⟩⟩⟩) (k43 hs a0 a1 a2 a3 M)) h hS
set_option maxRecDepth 100000 in
def c44 (rec : Nat → List Value → Mem → XA) (a0 : Option Nat) (a1 : Int32) (a2 : Int32) (M0 : Mem) : XA :=
  lt ((a1 * ((8 : Int32))) + a2) fun (x1 : Int32) =>
  gtP (4, 22) M0 a0 17 fun x2 =>
  alI 100 M0 x2 x1 fun x3 =>
  if x3 = ((1 : Int32)) then (
    rtZ ((1 : Int32)) M0) else (
    gtP (4, 22) M0 a0 17 fun x4 =>
    alI 100 M0 x4 x1 fun x5 =>
    if x5 = ((2 : Int32)) then (
      vC (4, 22) M0 a0 <|
      cV (rec 41 [va_rf a0, .int ((9 : Int32)), .int ((1 : Int32))] M0) fun M6 =>
      rtZ ((0 : Int32)) M6) else (
      gtP (4, 22) M0 a0 8 fun x7 =>
      alP 111 M0 x7 a1 fun x8 =>
      gtP (6, 18) M0 x8 1 fun x9 =>
      vC (0, 3) M0 x9 <|
      cP (rec 348 [va_rf x9, .int a2] M0) fun x11 M10 =>
      cst (11, 10) M10 x11 <|
      gtP (4, 22) M10 a0 17 fun x12 =>
      asI 100 M10 x12 x1 (((1 : Int32))) fun M13 =>
      vC (4, 22) M13 a0 <|
      cV (rec 45 [va_rf a0, .int a1, va_rf x11] M13) fun M14 =>
      gtI (11, 10) M14 x11 5 fun x15 =>
      if 0 ≤ x15 then (
        gtI (4, 22) M14 a0 14 fun x16 =>
        jn (fun (s17 : Mem) =>
          rtZ ((0 : Int32)) s17) fun j121 =>
        if x16 < ((12 : Int32)) then (
          gtI (11, 10) M14 x11 5 fun x18 =>
          gtI (4, 22) M14 a0 12 fun x19 =>
          vC (4, 22) M14 a0 <|
          cV (rec 29 [va_rf a0, .int x18, .int x19, .int a1, .int x1] M14) fun M20 =>
          j121 M20) else (
          gtP (4, 22) M14 a0 17 fun x21 =>
          asI 100 M14 x21 x1 (((2 : Int32))) fun M22 =>
          vC (4, 22) M22 a0 <|
          cV (rec 41 [va_rf a0, .int ((8 : Int32)), .int ((1 : Int32))] M22) fun M23 =>
          j121 M23)) else (
        rtZ ((1 : Int32)) M14)))
def b44 (rec : Nat → List Value → Mem → XA) (as : List Value) (M0 : Mem) : XA := aR as fun a0 as => aI as fun a1 as => aI as fun a2 as => aZ as (c44 rec a0 a1 a2 M0)
set_option maxRecDepth 100000 in
set_option maxHeartbeats 4000000 in
theorem k44 {S : XS} {G : XG} {K : Nat × Nat} {l : Launch} {d : Nat} {rec : Nat → List Value → Mem → XA} (hs : XSnd l xmt rec d) (a0 : Option Nat) (a1 : Int32) (a2 : Int32) (M0 : Mem) : Xe S G K l (yX3_seesTo, cX3_seesTo, 5, some .boolean) d 0 [some (va_rf a0), some (.int a1), some (.int a2), none, none] [] M0 (c44 rec a0 a1 a2 M0) := by
  unfold c44
  refine x_iload_n dX3_seesTo_0 rfl ?_
  refine x_bipush (v := 8) dX3_seesTo_1 (by decide) ?_
  refine x_imul dX3_seesTo_3 ?_
  refine x_iload_n dX3_seesTo_4 rfl ?_
  refine x_iadd dX3_seesTo_5 ?_
  refine x_ltI (fun x1 => ?_)
  refine x_istore_n (lo' := [some (va_rf a0), some (.int a1), some (.int a2), some (.int x1), none]) dX3_seesTo_6 (by decide) rfl rfl ?_
  refine x_aload_n dX3_seesTo_7 rfl ?_
  refine gfX3_49 rfl dX3_seesTo_8 (fun x2 => ?_)
  refine x_iload_n dX3_seesTo_11 rfl ?_
  refine x_iald dX3_seesTo_12 (fun x3 => ?_)
  refine x_iconst (v := 1) dX3_seesTo_13 (by decide) ?_
  refine x_icmp_ne (tgt := 19) dX3_seesTo_14 (by decide) (fun _ => ?_) (fun _ => ?_)
  · refine x_iconst (v := 1) dX3_seesTo_17 (by decide) ?_
    exact x_zret rfl dX3_seesTo_18
  · refine x_aload_n dX3_seesTo_19 rfl ?_
    refine gfX3_49 rfl dX3_seesTo_20 (fun x4 => ?_)
    refine x_iload_n dX3_seesTo_23 rfl ?_
    refine x_iald dX3_seesTo_24 (fun x5 => ?_)
    refine x_iconst (v := 2) dX3_seesTo_25 (by decide) ?_
    refine x_icmp_ne (tgt := 38) dX3_seesTo_26 (by decide) (fun _ => ?_) (fun _ => ?_)
    · refine x_aload_n dX3_seesTo_29 rfl ?_
      refine x_bipush (v := 9) dX3_seesTo_30 (by decide) ?_
      refine x_iconst (v := 1) dX3_seesTo_32 (by decide) ?_
      refine cmX3_246 rfl hs (Nat.le_of_ble_eq_true rfl) dX3_seesTo_33 (fun M6 => ?_)
      refine x_iconst (v := 0) dX3_seesTo_36 (by decide) ?_
      exact x_zret rfl dX3_seesTo_37
    · refine x_aload_n dX3_seesTo_38 rfl ?_
      refine gfX3_33 rfl dX3_seesTo_39 (fun x7 => ?_)
      refine x_iload_n dX3_seesTo_42 rfl ?_
      refine x_aldq (t := 111) (tn := 6) (by decide) (by decide) rfl dX3_seesTo_43 (fun x8 => ?_)
      refine gfX3_133 rfl dX3_seesTo_44 (fun x9 => ?_)
      refine x_iload_n dX3_seesTo_47 rfl ?_
      refine cmX3_89 rfl hs (Nat.le_of_ble_eq_true rfl) dX3_seesTo_48 (fun x11 M10 => ?_)
      refine ccX3_136 rfl dX3_seesTo_51 ?_
      refine x_astore (lo' := [some (va_rf a0), some (.int a1), some (.int a2), some (.int x1), some (va_rf x11)]) dX3_seesTo_54 (by decide) rfl rfl ?_
      refine x_aload_n dX3_seesTo_56 rfl ?_
      refine gfX3_49 rfl dX3_seesTo_57 (fun x12 => ?_)
      refine x_iload_n dX3_seesTo_60 rfl ?_
      refine x_iconst (v := 1) dX3_seesTo_61 (by decide) ?_
      refine x_iast dX3_seesTo_62 (fun M13 => ?_)
      refine x_aload_n dX3_seesTo_63 rfl ?_
      refine x_iload_n dX3_seesTo_64 rfl ?_
      refine x_aload dX3_seesTo_65 rfl ?_
      refine cmX3_291 rfl hs (Nat.le_of_ble_eq_true rfl) dX3_seesTo_67 (fun M14 => ?_)
      refine x_aload dX3_seesTo_70 rfl ?_
      refine gfX3_295 rfl dX3_seesTo_72 (fun x15 => ?_)
      refine x_if_ge (tgt := 80) dX3_seesTo_75 (by decide) (fun _ => ?_) (fun _ => ?_)
      · refine x_aload_n dX3_seesTo_80 rfl ?_
        refine gfX3_188 rfl dX3_seesTo_81 (fun x16 => ?_)
        refine x_bipush (v := 12) dX3_seesTo_84 (by decide) ?_
        refine x_jn (σ := Mem) 121 (fun s17 => [none, none, none, none, none]) (fun s17 => []) (fun s17 => s17) (fun s17 => ?_) (fun j121 hj121 => ?_)
        · refine x_iconst (v := 0) dX3_seesTo_121 (by decide) ?_
          exact x_zret rfl dX3_seesTo_122
        refine x_icmp_lt (tgt := 106) dX3_seesTo_86 (by decide) (fun _ => ?_) (fun _ => ?_)
        · refine x_aload_n dX3_seesTo_106 rfl ?_
          refine x_aload dX3_seesTo_107 rfl ?_
          refine gfX3_295 rfl dX3_seesTo_109 (fun x18 => ?_)
          refine x_aload_n dX3_seesTo_112 rfl ?_
          refine gfX3_206 rfl dX3_seesTo_113 (fun x19 => ?_)
          refine x_iload_n dX3_seesTo_116 rfl ?_
          refine x_iload_n dX3_seesTo_117 rfl ?_
          refine cmX3_191 rfl hs (Nat.le_of_ble_eq_true rfl) dX3_seesTo_118 (fun M20 => ?_)
          exact x_weak (by exact trivial) (hj121 M20)
        · refine x_aload_n dX3_seesTo_89 rfl ?_
          refine gfX3_49 rfl dX3_seesTo_90 (fun x21 => ?_)
          refine x_iload_n dX3_seesTo_93 rfl ?_
          refine x_iconst (v := 2) dX3_seesTo_94 (by decide) ?_
          refine x_iast dX3_seesTo_95 (fun M22 => ?_)
          refine x_aload_n dX3_seesTo_96 rfl ?_
          refine x_bipush (v := 8) dX3_seesTo_97 (by decide) ?_
          refine x_iconst (v := 1) dX3_seesTo_99 (by decide) ?_
          refine cmX3_246 rfl hs (Nat.le_of_ble_eq_true rfl) dX3_seesTo_100 (fun M23 => ?_)
          refine x_goto (tgt := 121) dX3_seesTo_103 (by decide) ?_
          exact x_weak (by exact trivial) (hj121 M23)
      · refine x_iconst (v := 1) dX3_seesTo_78 (by decide) ?_
        exact x_zret rfl dX3_seesTo_79
theorem s44 {l : Launch} {d : Nat} {rec : Nat → List Value → Mem → XA} (hS : Nonempty XS) (hs : XSnd l xmt rec d) : Snd1 l 44 (b44 rec) d := by
  intro as M r M' h0
  unfold b44 at h0
  obtain ⟨a0, l1, e1, h1⟩ := aR_inv h0
  obtain ⟨a1, l2, e2, h2⟩ := aI_inv h1
  obtain ⟨a2, l3, e3, h3⟩ := aI_inv h2
  obtain ⟨ez, h⟩ := aZ_inv h3
  subst ez
  subst e3
  subst e2
  subst e1
  exact xmet (M := M) (as := [va_rf a0, .int a1, .int a2]) (lo := [some (va_rf a0), some (.int a1), some (.int a2)]) 44 xq44 xm44 (by rw [xargs_rf, xargs_i, xargs_i, xargs_nil]; exact ⟨rfl, ⟨rfl, ⟨rfl, trivial⟩⟩⟩) (by rw [xargs_rf, xargs_i, xargs_i, xargs_nil]; exact Nat.le_of_ble_eq_true rfl) (fun S G K => x_weak (by exact ⟨rfl, ⟨rfl, ⟨rfl, trivial⟩⟩⟩) (k44 hs a0 a1 a2 M)) h hS
