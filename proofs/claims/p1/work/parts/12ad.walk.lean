set_option maxRecDepth 100000 in
def c45_5 (rec : Nat → List Value → Mem → XA) (a0 : Option Nat) (a1 : Int32) (a2 : Option Nat) (j101 : Mem → XA) : (Int32 × Mem) → ((Int32 × Mem) → XA) → XA := fun s3 j5 =>
  gtI (11, 10) s3.2 a2 2 fun x4 =>
  if x4 ≤ s3.1 then (
    j101 s3.2) else (
    gtP (4, 22) s3.2 a0 8 fun x5 =>
    alP 111 s3.2 x5 a1 fun x6 =>
    gtP (6, 18) s3.2 x6 2 fun x7 =>
    vC (0, 3) s3.2 x7 <|
    cP (rec 348 [va_rf x7, .int s3.1] s3.2) fun x9 M8 =>
    cst (8, 9) M8 x9 <|
    gtI (8, 9) M8 x9 8 fun x10 =>
    lt ((a1 * ((4800 : Int32))) + x10) fun (x11 : Int32) =>
    gtI (8, 9) M8 x9 2 fun x12 =>
    jn (fun (s13 : Mem) =>
      lt (s3.1 + (1 : Int32)) fun (x14 : Int32) =>
      j5 (x14, s13)) fun j95 =>
    if x12 = ((1 : Int32)) then (
      gtP (4, 22) M8 a0 16 fun x15 =>
      gtI (8, 9) M8 x9 4 fun x16 =>
      asI 100 M8 x15 x11 x16 fun M17 =>
      j95 M17) else (
      gtI (8, 9) M8 x9 2 fun x18 =>
      if x18 = ((3 : Int32)) then (
        gtP (4, 22) M8 a0 16 fun x19 =>
        gtI (8, 9) M8 x9 4 fun x20 =>
        cV (rec 353 [va_rf x19, .int x11, .int (x11 + x20), .int ((0 : Int32))] M8) fun M21 =>
        j95 M21) else (
        j95 M8)))
set_option maxRecDepth 100000 in
def c45 (rec : Nat → List Value → Mem → XA) (a0 : Option Nat) (a1 : Int32) (a2 : Option Nat) (M0 : Mem) : XA :=
  gtI (11, 10) M0 a2 1 fun x1 =>
  jn (fun (s2 : Mem) =>
    some (.null, s2)) fun j101 =>
  lp (c45_5 rec a0 a1 a2 j101) 4294967296 (x1, M0)
def b45 (rec : Nat → List Value → Mem → XA) (as : List Value) (M0 : Mem) : XA := aR as fun a0 as => aI as fun a1 as => aR as fun a2 as => aZ as (c45 rec a0 a1 a2 M0)
set_option maxRecDepth 100000 in
set_option maxHeartbeats 4000000 in
theorem k45 {S : XS} {G : XG} {K : Nat × Nat} {l : Launch} {d : Nat} {rec : Nat → List Value → Mem → XA} (hs : XSnd l xmt rec d) (a0 : Option Nat) (a1 : Int32) (a2 : Option Nat) (M0 : Mem) : Xe S G K l (yX3_setOut, cX3_setOut, 6, none) d 0 [some (va_rf a0), some (.int a1), some (va_rf a2), none, none, none] [] M0 (c45 rec a0 a1 a2 M0) := by
  unfold c45
  refine x_aload_n dX3_setOut_0 rfl ?_
  refine gfX3_298 rfl dX3_setOut_1 (fun x1 => ?_)
  refine x_istore_n (lo' := [some (va_rf a0), some (.int a1), some (va_rf a2), some (.int x1), none, none]) dX3_setOut_4 (by decide) (xok_r rfl) rfl ?_
  refine x_jn (σ := Mem) 101 (fun s2 => [none, none, none, none, none, none]) (fun s2 => []) (fun s2 => s2) (fun s2 => ?_) (fun j101 hj101 => ?_)
  · exact x_vret rfl dX3_setOut_101
  refine x_weak (by exact ⟨rfl, ⟨rfl, ⟨rfl, ⟨rfl, trivial⟩⟩⟩⟩) (x_lp (σ := Int32 × Mem) 5 (fun s3 => [some (va_rf a0), some (.int a1), some (va_rf a2), some (.int s3.1), none, none]) (fun s3 => []) (fun s3 => s3.2) (fun s3 j5 hj5 => ?_) 4294967296 (x1, M0))
  · refine x_iload_n dX3_setOut_5 rfl ?_
    refine x_aload_n dX3_setOut_6 rfl ?_
    refine gfX3_301 rfl dX3_setOut_7 (fun x4 => ?_)
    refine x_icmp_ge (tgt := 101) dX3_setOut_10 (by decide) (fun _ => ?_) (fun _ => ?_)
    · exact x_weak (by exact trivial) (hj101 s3.2)
    · refine x_aload_n dX3_setOut_13 rfl ?_
      refine gfX3_33 rfl dX3_setOut_14 (fun x5 => ?_)
      refine x_iload_n dX3_setOut_17 rfl ?_
      refine x_aldq (t := 111) (tn := 6) (by decide) (by decide) rfl dX3_setOut_18 (fun x6 => ?_)
      refine gfX3_79 rfl dX3_setOut_19 (fun x7 => ?_)
      refine x_iload_n dX3_setOut_22 rfl ?_
      refine cmX3_89 rfl hs (Nat.le_of_ble_eq_true rfl) dX3_setOut_23 (fun x9 M8 => ?_)
      refine ccX3_93 rfl dX3_setOut_26 ?_
      refine x_astore (lo' := [some (va_rf a0), some (.int a1), some (va_rf a2), some (.int s3.1), some (va_rf x9), none]) dX3_setOut_29 (by decide) rfl rfl ?_
      refine x_iload_n dX3_setOut_31 rfl ?_
      refine x_sipush (v := 4800) dX3_setOut_32 (by decide) ?_
      refine x_imul dX3_setOut_35 ?_
      refine x_aload dX3_setOut_36 rfl ?_
      refine gfX3_98 rfl dX3_setOut_38 (fun x10 => ?_)
      refine x_iadd dX3_setOut_41 ?_
      refine x_ltI (fun x11 => ?_)
      refine x_istore (lo' := [some (va_rf a0), some (.int a1), some (va_rf a2), some (.int s3.1), some (va_rf x9), some (.int x11)]) dX3_setOut_42 (by decide) (xok_r rfl) rfl ?_
      refine x_aload dX3_setOut_44 rfl ?_
      refine gfX3_95 rfl dX3_setOut_46 (fun x12 => ?_)
      refine x_iconst (v := 1) dX3_setOut_49 (by decide) ?_
      refine x_jn (σ := Mem) 95 (fun s13 => [some (va_rf a0), some (.int a1), some (va_rf a2), some (.int s3.1), none, none]) (fun s13 => []) (fun s13 => s13) (fun s13 => ?_) (fun j95 hj95 => ?_)
      · refine x_iincN (v := 1) (lo' := fun x14 => [some (va_rf a0), some (.int a1), some (va_rf a2), some (.int x14), none, none]) (by decide) dX3_setOut_95 rfl (by decide) (xok_r rfl) (fun _ => rfl) (fun x14 => ?_)
        refine x_goto (tgt := 5) dX3_setOut_98 (by decide) ?_
        exact x_weak (by exact ⟨rfl, ⟨rfl, ⟨rfl, ⟨rfl, trivial⟩⟩⟩⟩) (hj5 (x14, s13))
      refine x_icmp_ne (tgt := 68) dX3_setOut_50 (by decide) (fun _ => ?_) (fun _ => ?_)
      · refine x_aload_n dX3_setOut_53 rfl ?_
        refine gfX3_46 rfl dX3_setOut_54 (fun x15 => ?_)
        refine x_iload dX3_setOut_57 rfl ?_
        refine x_aload dX3_setOut_59 rfl ?_
        refine gfX3_101 rfl dX3_setOut_61 (fun x16 => ?_)
        refine x_iast dX3_setOut_64 (fun M17 => ?_)
        refine x_goto (tgt := 95) dX3_setOut_65 (by decide) ?_
        exact x_weak (by exact ⟨rfl, ⟨rfl, ⟨rfl, ⟨rfl, trivial⟩⟩⟩⟩) (hj95 M17)
      · refine x_aload dX3_setOut_68 rfl ?_
        refine gfX3_95 rfl dX3_setOut_70 (fun x18 => ?_)
        refine x_iconst (v := 3) dX3_setOut_73 (by decide) ?_
        refine x_icmp_ne (tgt := 95) dX3_setOut_74 (by decide) (fun _ => ?_) (fun _ => ?_)
        · refine x_aload_n dX3_setOut_77 rfl ?_
          refine gfX3_46 rfl dX3_setOut_78 (fun x19 => ?_)
          refine x_iload dX3_setOut_81 rfl ?_
          refine x_iload dX3_setOut_83 rfl ?_
          refine x_aload dX3_setOut_85 rfl ?_
          refine gfX3_101 rfl dX3_setOut_87 (fun x20 => ?_)
          refine x_iadd dX3_setOut_90 ?_
          refine x_iconst (v := 0) dX3_setOut_91 (by decide) ?_
          refine cmX3_304 rfl hs (Nat.le_of_ble_eq_true rfl) dX3_setOut_92 (fun M21 => ?_)
          exact x_weak (by exact ⟨rfl, ⟨rfl, ⟨rfl, ⟨rfl, trivial⟩⟩⟩⟩) (hj95 M21)
        · exact x_weak (by exact ⟨rfl, ⟨rfl, ⟨rfl, ⟨rfl, trivial⟩⟩⟩⟩) (hj95 M8)
theorem s45 {l : Launch} {d : Nat} {rec : Nat → List Value → Mem → XA} (hS : Nonempty XS) (hs : XSnd l xmt rec d) : Snd1 l 45 (b45 rec) d := by
  intro as M r M' h0
  unfold b45 at h0
  obtain ⟨a0, l1, e1, h1⟩ := aR_inv h0
  obtain ⟨a1, l2, e2, h2⟩ := aI_inv h1
  obtain ⟨a2, l3, e3, h3⟩ := aR_inv h2
  obtain ⟨ez, h⟩ := aZ_inv h3
  subst ez
  subst e3
  subst e2
  subst e1
  exact xmet (M := M) (as := [va_rf a0, .int a1, va_rf a2]) (lo := [some (va_rf a0), some (.int a1), some (va_rf a2)]) 45 xq45 xm45 (by rw [xargs_rf, xargs_i, xargs_rf, xargs_nil]; exact ⟨rfl, ⟨rfl, ⟨rfl, trivial⟩⟩⟩) (by rw [xargs_rf, xargs_i, xargs_rf, xargs_nil]; exact Nat.le_of_ble_eq_true rfl) (fun S G K => x_weak (by exact ⟨rfl, ⟨rfl, ⟨rfl, trivial⟩⟩⟩) (k45 hs a0 a1 a2 M)) h hS
set_option maxRecDepth 100000 in
def c46_21 (rec : Nat → List Value → Mem → XA) (a0 : Option Nat) (a1 : Int32) (a2 : Int32) (j71 : Option Nat × Mem → XA) : (Option Nat × Int32 × Mem) → ((Option Nat × Int32 × Mem) → XA) → XA := fun s33 j21 =>
  if ((8 : Int32)) ≤ s33.2.1 then (
    j71 (s33.1, s33.2.2)) else (
    gtP (4, 22) s33.2.2 a0 7 fun x34 =>
    alP 112 s33.2.2 x34 s33.2.1 fun x35 =>
    gtP (4, 22) s33.2.2 a0 8 fun x36 =>
    alP 111 s33.2.2 x36 a1 fun x37 =>
    gtI (6, 18) s33.2.2 x37 0 fun x38 =>
    vC (10, 9) s33.2.2 x35 <|
    cI (rec 122 [va_rf x35, .int x38, .int a2] s33.2.2) fun x40 M39 =>
    jn (fun (s41 : Option Nat) =>
      lt (s33.2.1 + (1 : Int32)) fun (x42 : Int32) =>
      j21 (s41, x42, M39)) fun j63 =>
    if x40 = 0 then (
      j63 s33.1) else (
      gtP (4, 22) M39 a0 7 fun x43 =>
      alP 112 M39 x43 s33.2.1 fun x44 =>
      j63 x44))
set_option maxRecDepth 100000 in
def c46 (rec : Nat → List Value → Mem → XA) (a0 : Option Nat) (a1 : Int32) (a2 : Int32) (a3 : Option Nat) (M0 : Mem) : XA :=
  gtI (4, 22) M0 a0 12 fun x1 =>
  gtI (8, 9) M0 a3 4 fun x2 =>
  lt (if ((0 : Int32)) < (x1 - x2) then (x1 - x2) else ((0 : Int32))) fun x3 =>
  jn (fun (s4 : Option Nat × Mem) =>
    jn (fun (s5 : Int32 × Mem) =>
      jn (fun (s6 : Mem) =>
        jn (fun (s7 : Mem) =>
          some (.null, s7)) fun j239 =>
        jn (fun (s8 : Unit) =>
          if s5.1 < 0 then (
            gtI (4, 22) s6 a0 14 fun x9 =>
            if x9 < ((12 : Int32)) then (
              gtI (8, 9) s6 a3 5 fun x10 =>
              vC (4, 22) s6 a0 <|
              cV (rec 29 [va_rf a0, .int x10, .int x3, .int a1, .int ((-2 : Int32))] s6) fun M11 =>
              j239 M11) else (
              vC (4, 22) s6 a0 <|
              cV (rec 41 [va_rf a0, .int ((7 : Int32)), .int ((2 : Int32))] s6) fun M12 =>
              j239 M12)) else (
            ptI (4, 22) s6 a0 12 x3 fun M13 =>
            gtP (10, 9) M13 s4.1 3 fun x14 =>
            alI 100 M13 x14 ((s5.1 * ((4 : Int32))) + ((3 : Int32))) fun x15 =>
            vC (4, 22) M13 a0 <|
            cV (rec 32 [va_rf a0, .int x15] M13) fun M16 =>
            gtP (4, 22) M16 a0 13 fun x17 =>
            gtI (4, 22) M16 a0 14 fun x18 =>
            alP 113 M16 x17 (x18 - ((1 : Int32))) fun x19 =>
            alI 100 M16 x19 ((0 : Int32)) fun x20 =>
            asI 100 M16 x19 ((0 : Int32)) ((x20 + ((1 : Int32)))) fun M21 =>
            j239 M21)) fun j160 =>
        if s5.1 < 0 then (
          j160 ()) else (
          gtP (10, 9) s6 s4.1 3 fun x22 =>
          alI 100 s6 x22 ((s5.1 * ((4 : Int32))) + ((2 : Int32))) fun x23 =>
          if x23 = ((1 : Int32)) then (
            gtP (10, 9) s6 s4.1 3 fun x24 =>
            alI 100 s6 x24 ((s5.1 * ((4 : Int32))) + ((3 : Int32))) fun x25 =>
            vC (4, 22) s6 a0 <|
            cV (rec 41 [va_rf a0, .int x25, .int ((1 : Int32))] s6) fun M26 =>
            j239 M26) else (
            j160 ()))) fun j119 =>
      if s4.1 = none then (
        j119 s5.2) else (
        gtI (4, 22) s5.2 a0 6 fun x27 =>
        if x27 = 0 then (
          j119 s5.2) else (
          gtP (4, 22) s5.2 a0 11 fun x28 =>
          vC (10, 9) s5.2 s4.1 <|
          cV (rec 125 [va_rf s4.1, va_rf x28, .int x3, .int s5.1] s5.2) fun M29 =>
          j119 M29))) fun j92 =>
    if s4.1 = none then (
      j92 ((-2 : Int32), s4.2)) else (
      gtP (4, 22) s4.2 a0 11 fun x30 =>
      vC (10, 9) s4.2 s4.1 <|
      cI (rec 124 [va_rf s4.1, va_rf x30, .int x3] s4.2) fun x32 M31 =>
      j92 (x32, M31))) fun j71 =>
  lp (c46_21 rec a0 a1 a2 j71) 4294967296 (none, (0 : Int32), M0)
def b46 (rec : Nat → List Value → Mem → XA) (as : List Value) (M0 : Mem) : XA := aR as fun a0 as => aI as fun a1 as => aI as fun a2 as => aR as fun a3 as => aZ as (c46 rec a0 a1 a2 a3 M0)
set_option maxRecDepth 100000 in
set_option maxHeartbeats 4000000 in
theorem k46 {S : XS} {G : XG} {K : Nat × Nat} {l : Launch} {d : Nat} {rec : Nat → List Value → Mem → XA} (hs : XSnd l xmt rec d) (a0 : Option Nat) (a1 : Int32) (a2 : Int32) (a3 : Option Nat) (M0 : Mem) : Xe S G K l (yX3_callFun, cX3_callFun, 7, none) d 0 [some (va_rf a0), some (.int a1), some (.int a2), some (va_rf a3), none, none, none] [] M0 (c46 rec a0 a1 a2 a3 M0) := by
  unfold c46
  refine x_iconst (v := 0) dX3_callFun_0 (by decide) ?_
  refine x_aload_n dX3_callFun_1 rfl ?_
  refine gfX3_206 rfl dX3_callFun_2 (fun x1 => ?_)
  refine x_aload_n dX3_callFun_5 rfl ?_
  refine gfX3_101 rfl dX3_callFun_6 (fun x2 => ?_)
  refine x_isub dX3_callFun_9 ?_
  refine x_mmax lk_methodLink_X3_307 w_mmax1 w_mi w_mmax2 (Nat.le_of_ble_eq_true rfl) dX3_callFun_10 (fun x3 => ?_)
  refine x_istore (lo' := [some (va_rf a0), some (.int a1), some (.int a2), some (va_rf a3), some (.int x3), none, none]) dX3_callFun_13 (by decide) (xok_r rfl) rfl ?_
  refine x_null dX3_callFun_15 ?_
  refine x_astore (lo' := [some (va_rf a0), some (.int a1), some (.int a2), some (va_rf a3), some (.int x3), some (va_rf none), none]) dX3_callFun_16 (by decide) rfl rfl ?_
  refine x_iconst (v := 0) dX3_callFun_18 (by decide) ?_
  refine x_istore (lo' := [some (va_rf a0), some (.int a1), some (.int a2), some (va_rf a3), some (.int x3), some (va_rf none), some (.int ((0 : Int32)))]) dX3_callFun_19 (by decide) (xok_r rfl) rfl ?_
  refine x_jn (σ := Option Nat × Mem) 71 (fun s4 => [some (va_rf a0), some (.int a1), none, some (va_rf a3), some (.int x3), some (va_rf s4.1), none]) (fun s4 => []) (fun s4 => s4.2) (fun s4 => ?_) (fun j71 hj71 => ?_)
  · refine x_aload dX3_callFun_71 rfl ?_
    refine x_jn (σ := Int32 × Mem) 92 (fun s5 => [some (va_rf a0), some (.int a1), none, some (va_rf a3), some (.int x3), some (va_rf s4.1), none]) (fun s5 => [.int s5.1]) (fun s5 => s5.2) (fun s5 => ?_) (fun j92 hj92 => ?_)
    · refine x_istore (lo' := [some (va_rf a0), some (.int a1), none, some (va_rf a3), some (.int x3), some (va_rf s4.1), some (.int s5.1)]) dX3_callFun_92 (by decide) (xok_r rfl) rfl ?_
      refine x_aload dX3_callFun_94 rfl ?_
      refine x_jn (σ := Mem) 119 (fun s6 => [some (va_rf a0), some (.int a1), none, some (va_rf a3), some (.int x3), some (va_rf s4.1), some (.int s5.1)]) (fun s6 => []) (fun s6 => s6) (fun s6 => ?_) (fun j119 hj119 => ?_)
      · refine x_iload dX3_callFun_119 rfl ?_
        refine x_jn (σ := Mem) 239 (fun s7 => [none, none, none, none, none, none, none]) (fun s7 => []) (fun s7 => s7) (fun s7 => ?_) (fun j239 hj239 => ?_)
        · exact x_vret rfl dX3_callFun_239
        refine x_jn (σ := Unit) 160 (fun s8 => [some (va_rf a0), some (.int a1), none, some (va_rf a3), some (.int x3), some (va_rf s4.1), some (.int s5.1)]) (fun s8 => []) (fun s8 => s6) (fun s8 => ?_) (fun j160 hj160 => ?_)
        · refine x_iload dX3_callFun_160 rfl ?_
          refine x_if_lt (tgt := 207) dX3_callFun_162 (by decide) (fun _ => ?_) (fun _ => ?_)
          · refine x_aload_n dX3_callFun_207 rfl ?_
            refine gfX3_188 rfl dX3_callFun_208 (fun x9 => ?_)
            refine x_bipush (v := 12) dX3_callFun_211 (by decide) ?_
            refine x_icmp_lt (tgt := 226) dX3_callFun_213 (by decide) (fun _ => ?_) (fun _ => ?_)
            · refine x_aload_n dX3_callFun_226 rfl ?_
              refine x_aload_n dX3_callFun_227 rfl ?_
              refine gfX3_148 rfl dX3_callFun_228 (fun x10 => ?_)
              refine x_iload dX3_callFun_231 rfl ?_
              refine x_iload_n dX3_callFun_233 rfl ?_
              refine x_bipush (v := -2) dX3_callFun_234 (by decide) ?_
              refine cmX3_191 rfl hs (Nat.le_of_ble_eq_true rfl) dX3_callFun_236 (fun M11 => ?_)
              exact x_weak (by exact trivial) (hj239 M11)
            · refine x_aload_n dX3_callFun_216 rfl ?_
              refine x_bipush (v := 7) dX3_callFun_217 (by decide) ?_
              refine x_iconst (v := 2) dX3_callFun_219 (by decide) ?_
              refine cmX3_246 rfl hs (Nat.le_of_ble_eq_true rfl) dX3_callFun_220 (fun M12 => ?_)
              refine x_goto (tgt := 239) dX3_callFun_223 (by decide) ?_
              exact x_weak (by exact trivial) (hj239 M12)
          · refine x_aload_n dX3_callFun_165 rfl ?_
            refine x_iload dX3_callFun_166 rfl ?_
            refine pfX3_206 rfl dX3_callFun_168 (fun M13 => ?_)
            refine x_aload_n dX3_callFun_171 rfl ?_
            refine x_aload dX3_callFun_172 rfl ?_
            refine gfX3_327 rfl dX3_callFun_174 (fun x14 => ?_)
            refine x_iload dX3_callFun_177 rfl ?_
            refine x_iconst (v := 4) dX3_callFun_179 (by decide) ?_
            refine x_imul dX3_callFun_180 ?_
            refine x_iconst (v := 3) dX3_callFun_181 (by decide) ?_
            refine x_iadd dX3_callFun_182 ?_
            refine x_iald dX3_callFun_183 (fun x15 => ?_)
            refine cmX3_255 rfl hs (Nat.le_of_ble_eq_true rfl) dX3_callFun_184 (fun M16 => ?_)
            refine x_aload_n dX3_callFun_187 rfl ?_
            refine gfX3_43 rfl dX3_callFun_188 (fun x17 => ?_)
            refine x_aload_n dX3_callFun_191 rfl ?_
            refine gfX3_188 rfl dX3_callFun_192 (fun x18 => ?_)
            refine x_iconst (v := 1) dX3_callFun_195 (by decide) ?_
            refine x_isub dX3_callFun_196 ?_
            refine x_aldg (t := 113) (tn := 8) (by decide) (by decide) rfl rfl dX3_callFun_197 (fun x19 => ?_)
            refine x_iconst (v := 0) dX3_callFun_198 (by decide) ?_
            refine x_dup2 dX3_callFun_199 (xc1_i _) (xc1_r _) ?_
            refine x_iald dX3_callFun_200 (fun x20 => ?_)
            refine x_iconst (v := 1) dX3_callFun_201 (by decide) ?_
            refine x_iadd dX3_callFun_202 ?_
            refine x_iast dX3_callFun_203 (fun M21 => ?_)
            refine x_goto (tgt := 239) dX3_callFun_204 (by decide) ?_
            exact x_weak (by exact trivial) (hj239 M21)
        refine x_if_lt (tgt := 160) dX3_callFun_121 (by decide) (fun _ => ?_) (fun _ => ?_)
        · exact x_weak (by exact ⟨rfl, ⟨rfl, ⟨rfl, ⟨rfl, ⟨rfl, ⟨rfl, trivial⟩⟩⟩⟩⟩⟩) (hj160 ())
        · refine x_aload dX3_callFun_124 rfl ?_
          refine gfX3_327 rfl dX3_callFun_126 (fun x22 => ?_)
          refine x_iload dX3_callFun_129 rfl ?_
          refine x_iconst (v := 4) dX3_callFun_131 (by decide) ?_
          refine x_imul dX3_callFun_132 ?_
          refine x_iconst (v := 2) dX3_callFun_133 (by decide) ?_
          refine x_iadd dX3_callFun_134 ?_
          refine x_iald dX3_callFun_135 (fun x23 => ?_)
          refine x_iconst (v := 1) dX3_callFun_136 (by decide) ?_
          refine x_icmp_ne (tgt := 160) dX3_callFun_137 (by decide) (fun _ => ?_) (fun _ => ?_)
          · refine x_aload_n dX3_callFun_140 rfl ?_
            refine x_aload dX3_callFun_141 rfl ?_
            refine gfX3_327 rfl dX3_callFun_143 (fun x24 => ?_)
            refine x_iload dX3_callFun_146 rfl ?_
            refine x_iconst (v := 4) dX3_callFun_148 (by decide) ?_
            refine x_imul dX3_callFun_149 ?_
            refine x_iconst (v := 3) dX3_callFun_150 (by decide) ?_
            refine x_iadd dX3_callFun_151 ?_
            refine x_iald dX3_callFun_152 (fun x25 => ?_)
            refine x_iconst (v := 1) dX3_callFun_153 (by decide) ?_
            refine cmX3_246 rfl hs (Nat.le_of_ble_eq_true rfl) dX3_callFun_154 (fun M26 => ?_)
            refine x_goto (tgt := 239) dX3_callFun_157 (by decide) ?_
            exact x_weak (by exact trivial) (hj239 M26)
          · exact x_weak (by exact ⟨rfl, ⟨rfl, ⟨rfl, ⟨rfl, ⟨rfl, ⟨rfl, trivial⟩⟩⟩⟩⟩⟩) (hj160 ())
      refine x_ifnull (tgt := 119) dX3_callFun_96 (by decide) (fun _ => ?_) (fun _ => ?_)
      · exact x_weak (by exact ⟨rfl, ⟨rfl, ⟨rfl, ⟨rfl, ⟨rfl, ⟨rfl, trivial⟩⟩⟩⟩⟩⟩) (hj119 s5.2)
      · refine x_aload_n dX3_callFun_99 rfl ?_
        refine gfX3_67 rfl dX3_callFun_100 (fun x27 => ?_)
        refine x_if_eq (tgt := 119) dX3_callFun_103 (by decide) (fun _ => ?_) (fun _ => ?_)
        · exact x_weak (by exact ⟨rfl, ⟨rfl, ⟨rfl, ⟨rfl, ⟨rfl, ⟨rfl, trivial⟩⟩⟩⟩⟩⟩) (hj119 s5.2)
        · refine x_aload dX3_callFun_106 rfl ?_
          refine x_aload_n dX3_callFun_108 rfl ?_
          refine gfX3_37 rfl dX3_callFun_109 (fun x28 => ?_)
          refine x_iload dX3_callFun_112 rfl ?_
          refine x_iload dX3_callFun_114 rfl ?_
          refine cmX3_323 rfl hs (Nat.le_of_ble_eq_true rfl) dX3_callFun_116 (fun M29 => ?_)
          exact x_weak (by exact ⟨rfl, ⟨rfl, ⟨rfl, ⟨rfl, ⟨rfl, ⟨rfl, trivial⟩⟩⟩⟩⟩⟩) (hj119 M29)
    refine x_ifnonnull (tgt := 81) dX3_callFun_73 (by decide) (fun _ => ?_) (fun _ => ?_)
    · refine x_bipush (v := -2) dX3_callFun_76 (by decide) ?_
      refine x_goto (tgt := 92) dX3_callFun_78 (by decide) ?_
      exact x_weak (by exact ⟨rfl, ⟨rfl, ⟨rfl, ⟨rfl, ⟨rfl, trivial⟩⟩⟩⟩⟩) (hj92 ((-2 : Int32), s4.2))
    · refine x_aload dX3_callFun_81 rfl ?_
      refine x_aload_n dX3_callFun_83 rfl ?_
      refine gfX3_37 rfl dX3_callFun_84 (fun x30 => ?_)
      refine x_iload dX3_callFun_87 rfl ?_
      refine cmX3_319 rfl hs (Nat.le_of_ble_eq_true rfl) dX3_callFun_89 (fun x32 M31 => ?_)
      exact x_weak (by exact ⟨rfl, ⟨rfl, ⟨rfl, ⟨rfl, ⟨rfl, trivial⟩⟩⟩⟩⟩) (hj92 (x32, M31))
  refine x_weak (by exact ⟨rfl, ⟨rfl, ⟨rfl, ⟨rfl, ⟨rfl, ⟨rfl, ⟨rfl, trivial⟩⟩⟩⟩⟩⟩⟩) (x_lp (σ := Option Nat × Int32 × Mem) 21 (fun s33 => [some (va_rf a0), some (.int a1), some (.int a2), some (va_rf a3), some (.int x3), some (va_rf s33.1), some (.int s33.2.1)]) (fun s33 => []) (fun s33 => s33.2.2) (fun s33 j21 hj21 => ?_) 4294967296 (none, (0 : Int32), M0))
  · refine x_iload dX3_callFun_21 rfl ?_
    refine x_bipush (v := 8) dX3_callFun_23 (by decide) ?_
    refine x_icmp_ge (tgt := 71) dX3_callFun_25 (by decide) (fun _ => ?_) (fun _ => ?_)
    · exact x_weak (by exact ⟨rfl, ⟨rfl, ⟨rfl, ⟨rfl, ⟨rfl, trivial⟩⟩⟩⟩⟩) (hj71 (s33.1, s33.2.2))
    · refine x_aload_n dX3_callFun_28 rfl ?_
      refine gfX3_27 rfl dX3_callFun_29 (fun x34 => ?_)
      refine x_iload dX3_callFun_32 rfl ?_
      refine x_aldq (t := 112) (tn := 7) (by decide) (by decide) rfl dX3_callFun_34 (fun x35 => ?_)
      refine x_aload_n dX3_callFun_35 rfl ?_
      refine gfX3_33 rfl dX3_callFun_36 (fun x36 => ?_)
      refine x_iload_n dX3_callFun_39 rfl ?_
      refine x_aldq (t := 111) (tn := 6) (by decide) (by decide) rfl dX3_callFun_40 (fun x37 => ?_)
      refine gfX3_313 rfl dX3_callFun_41 (fun x38 => ?_)
      refine x_iload_n dX3_callFun_44 rfl ?_
      refine cmX3_316 rfl hs (Nat.le_of_ble_eq_true rfl) dX3_callFun_45 (fun x40 M39 => ?_)
      refine x_jn (σ := Option Nat) 63 (fun s41 => [some (va_rf a0), some (.int a1), some (.int a2), some (va_rf a3), some (.int x3), none, some (.int s33.2.1)]) (fun s41 => [va_rf s41]) (fun s41 => M39) (fun s41 => ?_) (fun j63 hj63 => ?_)
      · refine x_astore (lo' := [some (va_rf a0), some (.int a1), some (.int a2), some (va_rf a3), some (.int x3), some (va_rf s41), some (.int s33.2.1)]) dX3_callFun_63 (by decide) rfl rfl ?_
        refine x_iincN (v := 1) (lo' := fun x42 => [some (va_rf a0), some (.int a1), some (.int a2), some (va_rf a3), some (.int x3), some (va_rf s41), some (.int x42)]) (by decide) dX3_callFun_65 rfl (by decide) (xok_r rfl) (fun _ => rfl) (fun x42 => ?_)
        refine x_goto (tgt := 21) dX3_callFun_68 (by decide) ?_
        exact x_weak (by exact ⟨rfl, ⟨rfl, ⟨rfl, ⟨rfl, ⟨rfl, ⟨rfl, ⟨rfl, trivial⟩⟩⟩⟩⟩⟩⟩) (hj21 (s41, x42, M39))
      refine x_if_eq (tgt := 61) dX3_callFun_48 (by decide) (fun _ => ?_) (fun _ => ?_)
      · refine x_aload dX3_callFun_61 rfl ?_
        exact x_weak (by exact ⟨rfl, ⟨rfl, ⟨rfl, ⟨rfl, ⟨rfl, ⟨rfl, trivial⟩⟩⟩⟩⟩⟩) (hj63 s33.1)
      · refine x_aload_n dX3_callFun_51 rfl ?_
        refine gfX3_27 rfl dX3_callFun_52 (fun x43 => ?_)
        refine x_iload dX3_callFun_55 rfl ?_
        refine x_aldq (t := 112) (tn := 7) (by decide) (by decide) rfl dX3_callFun_57 (fun x44 => ?_)
        refine x_goto (tgt := 63) dX3_callFun_58 (by decide) ?_
        exact x_weak (by exact ⟨rfl, ⟨rfl, ⟨rfl, ⟨rfl, ⟨rfl, ⟨rfl, trivial⟩⟩⟩⟩⟩⟩) (hj63 x44)
theorem s46 {l : Launch} {d : Nat} {rec : Nat → List Value → Mem → XA} (hS : Nonempty XS) (hs : XSnd l xmt rec d) : Snd1 l 46 (b46 rec) d := by
  intro as M r M' h0
  unfold b46 at h0
  obtain ⟨a0, l1, e1, h1⟩ := aR_inv h0
  obtain ⟨a1, l2, e2, h2⟩ := aI_inv h1
  obtain ⟨a2, l3, e3, h3⟩ := aI_inv h2
  obtain ⟨a3, l4, e4, h4⟩ := aR_inv h3
  obtain ⟨ez, h⟩ := aZ_inv h4
  subst ez
  subst e4
  subst e3
  subst e2
  subst e1
  exact xmet (M := M) (as := [va_rf a0, .int a1, .int a2, va_rf a3]) (lo := [some (va_rf a0), some (.int a1), some (.int a2), some (va_rf a3)]) 46 xq46 xm46 (by rw [xargs_rf, xargs_i, xargs_i, xargs_rf, xargs_nil]; exact ⟨rfl, ⟨rfl, ⟨rfl, ⟨rfl, trivial⟩⟩⟩⟩) (by rw [xargs_rf, xargs_i, xargs_i, xargs_rf, xargs_nil]; exact Nat.le_of_ble_eq_true rfl) (fun S G K => x_weak (by exact ⟨rfl, ⟨rfl, ⟨rfl, ⟨rfl, trivial⟩⟩⟩⟩) (k46 hs a0 a1 a2 a3 M)) h hS
set_option maxRecDepth 100000 in
def c47 (rec : Nat → List Value → Mem → XA) (a0 : Option Nat) (M0 : Mem) : XA :=
  nn a0 <|
  some (.null, M0)
def b47 (rec : Nat → List Value → Mem → XA) (as : List Value) (M0 : Mem) : XA := aR as fun a0 as => aZ as (c47 rec a0 M0)
set_option maxRecDepth 100000 in
set_option maxHeartbeats 4000000 in
theorem k47 {S : XS} {G : XG} {K : Nat × Nat} {l : Launch} {d : Nat} {rec : Nat → List Value → Mem → XA} (hs : XSnd l xmt rec d) (a0 : Option Nat) (M0 : Mem) : Xe S G K l (yX4_init, cX4_init, 1, none) d 0 [some (va_rf a0)] [] M0 (c47 rec a0 M0) := by
  unfold c47
  refine x_aload_n dX4_init_0 rfl ?_
  refine xoiX4 rfl (Nat.le_of_ble_eq_true rfl) dX4_init_1 ?_
  exact x_vret rfl dX4_init_4
theorem s47 {l : Launch} {d : Nat} {rec : Nat → List Value → Mem → XA} (hS : Nonempty XS) (hs : XSnd l xmt rec d) : Snd1 l 47 (b47 rec) d := by
  intro as M r M' h0
  unfold b47 at h0
  obtain ⟨a0, l1, e1, h1⟩ := aR_inv h0
  obtain ⟨ez, h⟩ := aZ_inv h1
  subst ez
  subst e1
  exact xmet (M := M) (as := [va_rf a0]) (lo := [some (va_rf a0)]) 47 xq47 xm47 (by rw [xargs_rf, xargs_nil]; exact ⟨rfl, trivial⟩) (by rw [xargs_rf, xargs_nil]; exact Nat.le_of_ble_eq_true rfl) (fun S G K => x_weak (by exact ⟨rfl, trivial⟩) (k47 hs a0 M)) h hS
set_option maxRecDepth 100000 in
def c48 (rec : Nat → List Value → Mem → XA) (a0 : Option Nat) (a1 : Int32) (a2 : Int32) (a3 : Int32) (M0 : Mem) : XA :=
  ptI (5, 5) M0 a0 0 a1 fun M1 =>
  ptI (5, 5) M1 a0 1 a2 fun M2 =>
  ptI (5, 5) M2 a0 2 a3 fun M3 =>
  some (.null, M3)
def b48 (rec : Nat → List Value → Mem → XA) (as : List Value) (M0 : Mem) : XA := aR as fun a0 as => aI as fun a1 as => aI as fun a2 as => aI as fun a3 as => aZ as (c48 rec a0 a1 a2 a3 M0)
set_option maxRecDepth 100000 in
set_option maxHeartbeats 4000000 in
theorem k48 {S : XS} {G : XG} {K : Nat × Nat} {l : Launch} {d : Nat} {rec : Nat → List Value → Mem → XA} (hs : XSnd l xmt rec d) (a0 : Option Nat) (a1 : Int32) (a2 : Int32) (a3 : Int32) (M0 : Mem) : Xe S G K l (yX4_tell, cX4_tell, 4, none) d 0 [some (va_rf a0), some (.int a1), some (.int a2), some (.int a3)] [] M0 (c48 rec a0 a1 a2 a3 M0) := by
  unfold c48
  refine x_aload_n dX4_tell_0 rfl ?_
  refine x_iload_n dX4_tell_1 rfl ?_
  refine pfX4_7 rfl dX4_tell_2 (fun M1 => ?_)
  refine x_aload_n dX4_tell_5 rfl ?_
  refine x_iload_n dX4_tell_6 rfl ?_
  refine pfX4_13 rfl dX4_tell_7 (fun M2 => ?_)
  refine x_aload_n dX4_tell_10 rfl ?_
  refine x_iload_n dX4_tell_11 rfl ?_
  refine pfX4_16 rfl dX4_tell_12 (fun M3 => ?_)
  exact x_vret rfl dX4_tell_15
theorem s48 {l : Launch} {d : Nat} {rec : Nat → List Value → Mem → XA} (hS : Nonempty XS) (hs : XSnd l xmt rec d) : Snd1 l 48 (b48 rec) d := by
  intro as M r M' h0
  unfold b48 at h0
  obtain ⟨a0, l1, e1, h1⟩ := aR_inv h0
  obtain ⟨a1, l2, e2, h2⟩ := aI_inv h1
  obtain ⟨a2, l3, e3, h3⟩ := aI_inv h2
  obtain ⟨a3, l4, e4, h4⟩ := aI_inv h3
  obtain ⟨ez, h⟩ := aZ_inv h4
  subst ez
  subst e4
  subst e3
  subst e2
  subst e1
  exact xmet (M := M) (as := [va_rf a0, .int a1, .int a2, .int a3]) (lo := [some (va_rf a0), some (.int a1), some (.int a2), some (.int a3)]) 48 xq48 xm48 (by rw [xargs_rf, xargs_i, xargs_i, xargs_i, xargs_nil]; exact ⟨rfl, ⟨rfl, ⟨rfl, ⟨rfl, trivial⟩⟩⟩⟩) (by rw [xargs_rf, xargs_i, xargs_i, xargs_i, xargs_nil]; exact Nat.le_of_ble_eq_true rfl) (fun S G K => x_weak (by exact ⟨rfl, ⟨rfl, ⟨rfl, ⟨rfl, trivial⟩⟩⟩⟩) (k48 hs a0 a1 a2 a3 M)) h hS
set_option maxRecDepth 100000 in
def c49 (rec : Nat → List Value → Mem → XA) (a0 : Option Nat) (a1 : Option Nat) (M0 : Mem) : XA :=
  gtI (5, 5) M0 a1 0 fun x1 =>
  gtI (5, 5) M0 a1 1 fun x2 =>
  gtI (5, 5) M0 a1 2 fun x3 =>
  vC (5, 5) M0 a0 <|
  cV (rec 48 [va_rf a0, .int x1, .int x2, .int x3] M0) fun M4 =>
  gtI (5, 5) M4 a1 3 fun x5 =>
  ptI (5, 5) M4 a0 3 x5 fun M6 =>
  gtI (5, 5) M6 a1 4 fun x7 =>
  ptI (5, 5) M6 a0 4 x7 fun M8 =>
  some (.null, M8)
def b49 (rec : Nat → List Value → Mem → XA) (as : List Value) (M0 : Mem) : XA := aR as fun a0 as => aR as fun a1 as => aZ as (c49 rec a0 a1 M0)
set_option maxRecDepth 100000 in
set_option maxHeartbeats 4000000 in
theorem k49 {S : XS} {G : XG} {K : Nat × Nat} {l : Launch} {d : Nat} {rec : Nat → List Value → Mem → XA} (hs : XSnd l xmt rec d) (a0 : Option Nat) (a1 : Option Nat) (M0 : Mem) : Xe S G K l (yX4_copy, cX4_copy, 2, none) d 0 [some (va_rf a0), some (va_rf a1)] [] M0 (c49 rec a0 a1 M0) := by
  unfold c49
  refine x_aload_n dX4_copy_0 rfl ?_
  refine x_aload_n dX4_copy_1 rfl ?_
  refine gfX4_7 rfl dX4_copy_2 (fun x1 => ?_)
  refine x_aload_n dX4_copy_5 rfl ?_
  refine gfX4_13 rfl dX4_copy_6 (fun x2 => ?_)
  refine x_aload_n dX4_copy_9 rfl ?_
  refine gfX4_16 rfl dX4_copy_10 (fun x3 => ?_)
  refine cmX4_19 rfl hs (Nat.le_of_ble_eq_true rfl) dX4_copy_13 (fun M4 => ?_)
  refine x_aload_n dX4_copy_16 rfl ?_
  refine x_aload_n dX4_copy_17 rfl ?_
  refine gfX4_23 rfl dX4_copy_18 (fun x5 => ?_)
  refine pfX4_23 rfl dX4_copy_21 (fun M6 => ?_)
  refine x_aload_n dX4_copy_24 rfl ?_
  refine x_aload_n dX4_copy_25 rfl ?_
  refine gfX4_26 rfl dX4_copy_26 (fun x7 => ?_)
  refine pfX4_26 rfl dX4_copy_29 (fun M8 => ?_)
  exact x_vret rfl dX4_copy_32
theorem s49 {l : Launch} {d : Nat} {rec : Nat → List Value → Mem → XA} (hS : Nonempty XS) (hs : XSnd l xmt rec d) : Snd1 l 49 (b49 rec) d := by
  intro as M r M' h0
  unfold b49 at h0
  obtain ⟨a0, l1, e1, h1⟩ := aR_inv h0
  obtain ⟨a1, l2, e2, h2⟩ := aR_inv h1
  obtain ⟨ez, h⟩ := aZ_inv h2
  subst ez
  subst e2
  subst e1
  exact xmet (M := M) (as := [va_rf a0, va_rf a1]) (lo := [some (va_rf a0), some (va_rf a1)]) 49 xq49 xm49 (by rw [xargs_rf, xargs_rf, xargs_nil]; exact ⟨rfl, ⟨rfl, trivial⟩⟩) (by rw [xargs_rf, xargs_rf, xargs_nil]; exact Nat.le_of_ble_eq_true rfl) (fun S G K => x_weak (by exact ⟨rfl, ⟨rfl, trivial⟩⟩) (k49 hs a0 a1 M)) h hS
set_option maxRecDepth 100000 in
def c50_123 (rec : Nat → List Value → Mem → XA) (a0 : Option Nat) (j145 : Mem → XA) : (Int32 × Mem) → ((Int32 × Mem) → XA) → XA := fun s59 j123 =>
  gtP (6, 18) s59.2 a0 10 fun x60 =>
  aln s59.2 x60 fun x61 =>
  if x61 ≤ s59.1 then (
    j145 s59.2) else (
    gtP (6, 18) s59.2 a0 10 fun x62 =>
    asI 100 s59.2 x62 s59.1 s59.1 fun M63 =>
    lt (s59.1 + (1 : Int32)) fun (x64 : Int32) =>
    j123 (x64, M63))
set_option maxRecDepth 100000 in
def c50 (rec : Nat → List Value → Mem → XA) (a0 : Option Nat) (a1 : Option Nat) (a2 : Int32) (M0 : Mem) : XA :=
  nn a0 <|
  ptI (6, 18) M0 a0 17 ((-2 : Int32)) fun M1 =>
  ptI (6, 18) M1 a0 0 a2 fun M2 =>
  gtP (7, 20) M2 a1 1 fun x3 =>
  ptP (6, 18) M2 a0 1 x3 fun M4 =>
  gtP (7, 20) M4 a1 2 fun x5 =>
  ptP (6, 18) M4 a0 2 x5 fun M6 =>
  gtP (7, 20) M6 a1 3 fun x7 =>
  ptP (6, 18) M6 a0 3 x7 fun M8 =>
  gtP (7, 20) M8 a1 4 fun x9 =>
  ptP (6, 18) M8 a0 4 x9 fun M10 =>
  gtI (7, 20) M10 a1 9 fun x11 =>
  ptI (6, 18) M10 a0 5 x11 fun M12 =>
  gtP (7, 20) M12 a1 5 fun x13 =>
  gtI (6, 18) M12 a0 5 fun x14 =>
  cP (rec 356 [va_rf x13, .int x14] M12) fun x16 M15 =>
  ptP (6, 18) M15 a0 6 x16 fun M17 =>
  gtP (7, 20) M17 a1 6 fun x18 =>
  gtI (6, 18) M17 a0 5 fun x19 =>
  cP (rec 356 [va_rf x18, .int x19] M17) fun x21 M20 =>
  ptP (6, 18) M20 a0 7 x21 fun M22 =>
  gtP (7, 20) M22 a1 7 fun x23 =>
  gtI (6, 18) M22 a0 5 fun x24 =>
  cP (rec 356 [va_rf x23, .int x24] M22) fun x26 M25 =>
  ptP (6, 18) M25 a0 8 x26 fun M27 =>
  cP (rec 51 [va_rf a1] M27) fun x29 M28 =>
  ptP (6, 18) M28 a0 9 x29 fun M30 =>
  gtP (6, 18) M30 a0 3 fun x31 =>
  vC (0, 3) M30 x31 <|
  cI (rec 346 [va_rf x31] M30) fun x33 M32 =>
  nA 100 M32 x33 fun x34 M35 =>
  ptP (6, 18) M35 a0 10 x34 fun M36 =>
  jn (fun (s37 : Mem) =>
    gtP (6, 18) s37 a0 10 fun x38 =>
    aln s37 x38 fun x39 =>
    nAA 113 100 s37 ((4 : Int32)) x39 fun x40 M41 =>
    ptP (6, 18) M41 a0 11 x40 fun M42 =>
    gtI (6, 18) M42 a0 5 fun x43 =>
    nAA 113 100 M42 ((3 : Int32)) x43 fun x44 M45 =>
    ptP (6, 18) M45 a0 12 x44 fun M46 =>
    gtP (6, 18) M46 a0 9 fun x47 =>
    aln M46 x47 fun x48 =>
    nA 100 M46 x48 fun x49 M50 =>
    ptP (6, 18) M50 a0 14 x49 fun M51 =>
    gtP (6, 18) M51 a0 9 fun x52 =>
    aln M51 x52 fun x53 =>
    nA 100 M51 x53 fun x54 M55 =>
    ptP (6, 18) M55 a0 15 x54 fun M56 =>
    gtP (6, 18) M56 a0 2 fun x57 =>
    cV (rec 52 [va_rf x57] M56) fun M58 =>
    some (.null, M58)) fun j145 =>
  lp (c50_123 rec a0 j145) 4294967296 ((0 : Int32), M36)
def b50 (rec : Nat → List Value → Mem → XA) (as : List Value) (M0 : Mem) : XA := aR as fun a0 as => aR as fun a1 as => aI as fun a2 as => aZ as (c50 rec a0 a1 a2 M0)
set_option maxRecDepth 100000 in
set_option maxHeartbeats 4000000 in
theorem k50 {S : XS} {G : XG} {K : Nat × Nat} {l : Launch} {d : Nat} {rec : Nat → List Value → Mem → XA} (hs : XSnd l xmt rec d) (a0 : Option Nat) (a1 : Option Nat) (a2 : Int32) (M0 : Mem) : Xe S G K l (yX5_init, cX5_init, 4, none) d 0 [some (va_rf a0), some (va_rf a1), some (.int a2), none] [] M0 (c50 rec a0 a1 a2 M0) := by
  unfold c50
  refine x_aload_n dX5_init_0 rfl ?_
  refine xoiX5 rfl (Nat.le_of_ble_eq_true rfl) dX5_init_1 ?_
  refine x_aload_n dX5_init_4 rfl ?_
  refine x_bipush (v := -2) dX5_init_5 (by decide) ?_
  refine pfX5_9 rfl dX5_init_7 (fun M1 => ?_)
  refine x_aload_n dX5_init_10 rfl ?_
  refine x_iload_n dX5_init_11 rfl ?_
  refine pfX5_15 rfl rfl dX5_init_12 (fun M2 => ?_)
  refine x_aload_n dX5_init_15 rfl ?_
  refine x_aload_n dX5_init_16 rfl ?_
  refine gfX5_18 rfl dX5_init_17 (fun x3 => ?_)
  refine pfX5_24 rfl rfl dX5_init_20 (fun M4 => ?_)
  refine x_aload_n dX5_init_23 rfl ?_
  refine x_aload_n dX5_init_24 rfl ?_
  refine gfX5_25 rfl dX5_init_25 (fun x5 => ?_)
  refine pfX5_28 rfl rfl dX5_init_28 (fun M6 => ?_)
  refine x_aload_n dX5_init_31 rfl ?_
  refine x_aload_n dX5_init_32 rfl ?_
  refine gfX5_29 rfl dX5_init_33 (fun x7 => ?_)
  refine pfX5_32 rfl rfl dX5_init_36 (fun M8 => ?_)
  refine x_aload_n dX5_init_39 rfl ?_
  refine x_aload_n dX5_init_40 rfl ?_
  refine gfX5_33 rfl dX5_init_41 (fun x9 => ?_)
  refine pfX5_36 rfl rfl dX5_init_44 (fun M10 => ?_)
  refine x_aload_n dX5_init_47 rfl ?_
  refine x_aload_n dX5_init_48 rfl ?_
  refine gfX5_37 rfl dX5_init_49 (fun x11 => ?_)
  refine pfX5_40 rfl rfl dX5_init_52 (fun M12 => ?_)
  refine x_aload_n dX5_init_55 rfl ?_
  refine x_aload_n dX5_init_56 rfl ?_
  refine gfX5_41 rfl dX5_init_57 (fun x13 => ?_)
  refine x_aload_n dX5_init_60 rfl ?_
  refine gfX5_40 rfl dX5_init_61 (fun x14 => ?_)
  refine cmX5_45 rfl hs (Nat.le_of_ble_eq_true rfl) dX5_init_64 (fun x16 M15 => ?_)
  refine pfX5_51 rfl rfl dX5_init_67 (fun M17 => ?_)
  refine x_aload_n dX5_init_70 rfl ?_
  refine x_aload_n dX5_init_71 rfl ?_
  refine gfX5_52 rfl dX5_init_72 (fun x18 => ?_)
  refine x_aload_n dX5_init_75 rfl ?_
  refine gfX5_40 rfl dX5_init_76 (fun x19 => ?_)
  refine cmX5_45 rfl hs (Nat.le_of_ble_eq_true rfl) dX5_init_79 (fun x21 M20 => ?_)
  refine pfX5_55 rfl rfl dX5_init_82 (fun M22 => ?_)
  refine x_aload_n dX5_init_85 rfl ?_
  refine x_aload_n dX5_init_86 rfl ?_
  refine gfX5_56 rfl dX5_init_87 (fun x23 => ?_)
  refine x_aload_n dX5_init_90 rfl ?_
  refine gfX5_40 rfl dX5_init_91 (fun x24 => ?_)
  refine cmX5_45 rfl hs (Nat.le_of_ble_eq_true rfl) dX5_init_94 (fun x26 M25 => ?_)
  refine pfX5_59 rfl rfl dX5_init_97 (fun M27 => ?_)
  refine x_aload_n dX5_init_100 rfl ?_
  refine x_aload_n dX5_init_101 rfl ?_
  refine cmX5_60 rfl hs (Nat.le_of_ble_eq_true rfl) dX5_init_102 (fun x29 M28 => ?_)
  refine pfX5_64 rfl rfl dX5_init_105 (fun M30 => ?_)
  refine x_aload_n dX5_init_108 rfl ?_
  refine x_aload_n dX5_init_109 rfl ?_
  refine gfX5_32 rfl dX5_init_110 (fun x31 => ?_)
  refine cmX5_67 rfl hs (Nat.le_of_ble_eq_true rfl) dX5_init_113 (fun x33 M32 => ?_)
  refine x_newa100 dX5_init_116 (fun x34 M35 => ?_)
  refine pfX5_72 rfl rfl dX5_init_118 (fun M36 => ?_)
  refine x_iconst (v := 0) dX5_init_121 (by decide) ?_
  refine x_istore_n (lo' := [some (va_rf a0), some (va_rf a1), some (.int a2), some (.int ((0 : Int32)))]) dX5_init_122 (by decide) rfl rfl ?_
  refine x_jn (σ := Mem) 145 (fun s37 => [some (va_rf a0), none, none, none]) (fun s37 => []) (fun s37 => s37) (fun s37 => ?_) (fun j145 hj145 => ?_)
  · refine x_aload_n dX5_init_145 rfl ?_
    refine x_iconst (v := 4) dX5_init_146 (by decide) ?_
    refine x_aload_n dX5_init_147 rfl ?_
    refine gfX5_72 rfl dX5_init_148 (fun x38 => ?_)
    refine x_alen dX5_init_151 (fun x39 => ?_)
    refine x_mna113 lk_classLink_X5_75 dX5_init_152 (fun x40 M41 => ?_)
    refine pfX5_77 rfl rfl dX5_init_156 (fun M42 => ?_)
    refine x_aload_n dX5_init_159 rfl ?_
    refine x_iconst (v := 3) dX5_init_160 (by decide) ?_
    refine x_aload_n dX5_init_161 rfl ?_
    refine gfX5_40 rfl dX5_init_162 (fun x43 => ?_)
    refine x_mna113 lk_classLink_X5_75 dX5_init_165 (fun x44 M45 => ?_)
    refine pfX5_80 rfl rfl dX5_init_169 (fun M46 => ?_)
    refine x_aload_n dX5_init_172 rfl ?_
    refine x_aload_n dX5_init_173 rfl ?_
    refine gfX5_64 rfl dX5_init_174 (fun x47 => ?_)
    refine x_alen dX5_init_177 (fun x48 => ?_)
    refine x_newa100 dX5_init_178 (fun x49 M50 => ?_)
    refine pfX5_83 rfl dX5_init_180 (fun M51 => ?_)
    refine x_aload_n dX5_init_183 rfl ?_
    refine x_aload_n dX5_init_184 rfl ?_
    refine gfX5_64 rfl dX5_init_185 (fun x52 => ?_)
    refine x_alen dX5_init_188 (fun x53 => ?_)
    refine x_newa100 dX5_init_189 (fun x54 M55 => ?_)
    refine pfX5_86 rfl dX5_init_191 (fun M56 => ?_)
    refine x_aload_n dX5_init_194 rfl ?_
    refine gfX5_28 rfl dX5_init_195 (fun x57 => ?_)
    refine cmX5_89 rfl hs (Nat.le_of_ble_eq_true rfl) dX5_init_198 (fun M58 => ?_)
    exact x_vret rfl dX5_init_201
  refine x_weak (by exact ⟨rfl, ⟨rfl, trivial⟩⟩) (x_lp (σ := Int32 × Mem) 123 (fun s59 => [some (va_rf a0), none, none, some (.int s59.1)]) (fun s59 => []) (fun s59 => s59.2) (fun s59 j123 hj123 => ?_) 4294967296 ((0 : Int32), M36))
  · refine x_iload_n dX5_init_123 rfl ?_
    refine x_aload_n dX5_init_124 rfl ?_
    refine gfX5_72 rfl dX5_init_125 (fun x60 => ?_)
    refine x_alen dX5_init_128 (fun x61 => ?_)
    refine x_icmp_ge (tgt := 145) dX5_init_129 (by decide) (fun _ => ?_) (fun _ => ?_)
    · exact x_weak (by exact ⟨rfl, trivial⟩) (hj145 s59.2)
    · refine x_aload_n dX5_init_132 rfl ?_
      refine gfX5_72 rfl dX5_init_133 (fun x62 => ?_)
      refine x_iload_n dX5_init_136 rfl ?_
      refine x_iload_n dX5_init_137 rfl ?_
      refine x_iast dX5_init_138 (fun M63 => ?_)
      refine x_iincN (v := 1) (lo' := fun x64 => [some (va_rf a0), none, none, some (.int x64)]) (by decide) dX5_init_139 rfl (by decide) rfl (fun _ => rfl) (fun x64 => ?_)
      refine x_goto (tgt := 123) dX5_init_142 (by decide) ?_
      exact x_weak (by exact ⟨rfl, ⟨rfl, trivial⟩⟩) (hj123 (x64, M63))
theorem s50 {l : Launch} {d : Nat} {rec : Nat → List Value → Mem → XA} (hS : Nonempty XS) (hs : XSnd l xmt rec d) : Snd1 l 50 (b50 rec) d := by
  intro as M r M' h0
  unfold b50 at h0
  obtain ⟨a0, l1, e1, h1⟩ := aR_inv h0
  obtain ⟨a1, l2, e2, h2⟩ := aR_inv h1
  obtain ⟨a2, l3, e3, h3⟩ := aI_inv h2
  obtain ⟨ez, h⟩ := aZ_inv h3
  subst ez
  subst e3
  subst e2
  subst e1
  exact xmet (M := M) (as := [va_rf a0, va_rf a1, .int a2]) (lo := [some (va_rf a0), some (va_rf a1), some (.int a2)]) 50 xq50 xm50 (by rw [xargs_rf, xargs_rf, xargs_i, xargs_nil]; exact ⟨rfl, ⟨rfl, ⟨rfl, trivial⟩⟩⟩) (by rw [xargs_rf, xargs_rf, xargs_i, xargs_nil]; exact Nat.le_of_ble_eq_true rfl) (fun S G K => x_weak (by exact ⟨rfl, ⟨rfl, ⟨rfl, trivial⟩⟩⟩) (k50 hs a0 a1 a2 M)) h hS
set_option maxRecDepth 100000 in
def c51_11 (rec : Nat → List Value → Mem → XA) (a0 : Option Nat) (j67 : Int32 × Mem → XA) (x2 : Option Nat) : (Int32 × Int32 × Mem) → ((Int32 × Int32 × Mem) → XA) → XA := fun s7 j11 =>
  gtI (7, 20) s7.2.2 a0 9 fun x8 =>
  if x8 ≤ s7.2.1 then (
    j67 (s7.1, s7.2.2)) else (
    gtP (7, 20) s7.2.2 a0 5 fun x9 =>
    alI 100 s7.2.2 x9 s7.2.1 fun x10 =>
    gtP (7, 20) s7.2.2 a0 8 fun x11 =>
    alX 102 s7.2.2 x11 s7.2.1 fun x12 =>
    jn (fun (s13 : Int32 × Mem) =>
      lt (s7.2.1 + (1 : Int32)) fun (x14 : Int32) =>
      j11 (s13.1, x14, s13.2)) fun j61 =>
    if x12 = 0 then (
      j61 (s7.1, s7.2.2)) else (
      aln s7.2.2 ((some 1)) fun x15 =>
      if x15 ≤ x10 then (
        j61 (s7.1, s7.2.2)) else (
        alI 100 s7.2.2 ((some 1)) x10 fun x16 =>
        if x16 < 0 then (
          j61 (s7.1, s7.2.2)) else (
          asI 100 s7.2.2 x2 s7.1 s7.2.1 fun M17 =>
          lt (s7.1 + (1 : Int32)) fun (x18 : Int32) =>
          j61 (x18, M17)))))
set_option maxRecDepth 100000 in
def c51 (rec : Nat → List Value → Mem → XA) (a0 : Option Nat) (M0 : Mem) : XA :=
  gtI (7, 20) M0 a0 9 fun x1 =>
  nA 100 M0 x1 fun x2 M3 =>
  jn (fun (s4 : Int32 × Mem) =>
    cP (rec 356 [va_rf x2, .int s4.1] s4.2) fun x6 M5 =>
    some (va_rf x6, M5)) fun j67 =>
  lp (c51_11 rec a0 j67 x2) 4294967296 ((0 : Int32), (0 : Int32), M3)
def b51 (rec : Nat → List Value → Mem → XA) (as : List Value) (M0 : Mem) : XA := aR as fun a0 as => aZ as (c51 rec a0 M0)
set_option maxRecDepth 100000 in
set_option maxHeartbeats 4000000 in
theorem k51 {S : XS} {G : XG} {K : Nat × Nat} {l : Launch} {d : Nat} {rec : Nat → List Value → Mem → XA} (hs : XSnd l xmt rec d) (a0 : Option Nat) (M0 : Mem) : Xe S G K l (yX5_mutantsOf, cX5_mutantsOf, 5, some (.array .int)) d 0 [some (va_rf a0), none, none, none, none] [] M0 (c51 rec a0 M0) := by
  unfold c51
  refine x_aload_n dX5_mutantsOf_0 rfl ?_
  refine gfX5_37 rfl dX5_mutantsOf_1 (fun x1 => ?_)
  refine x_newa100 dX5_mutantsOf_4 (fun x2 M3 => ?_)
  refine x_astore_n (lo' := [some (va_rf a0), some (va_rf x2), none, none, none]) dX5_mutantsOf_6 (by decide) (xok_r rfl) rfl ?_
  refine x_iconst (v := 0) dX5_mutantsOf_7 (by decide) ?_
  refine x_istore_n (lo' := [some (va_rf a0), some (va_rf x2), some (.int ((0 : Int32))), none, none]) dX5_mutantsOf_8 (by decide) (xok_r rfl) rfl ?_
  refine x_iconst (v := 0) dX5_mutantsOf_9 (by decide) ?_
  refine x_istore_n (lo' := [some (va_rf a0), some (va_rf x2), some (.int ((0 : Int32))), some (.int ((0 : Int32))), none]) dX5_mutantsOf_10 (by decide) rfl rfl ?_
  refine x_jn (σ := Int32 × Mem) 67 (fun s4 => [none, some (va_rf x2), some (.int s4.1), none, none]) (fun s4 => []) (fun s4 => s4.2) (fun s4 => ?_) (fun j67 hj67 => ?_)
  · refine x_aload_n dX5_mutantsOf_67 rfl ?_
    refine x_iload_n dX5_mutantsOf_68 rfl ?_
    refine cmX5_45 rfl hs (Nat.le_of_ble_eq_true rfl) dX5_mutantsOf_69 (fun x6 M5 => ?_)
    exact x_aret rfl rfl dX5_mutantsOf_72
  refine x_weak (by exact ⟨rfl, ⟨rfl, ⟨rfl, ⟨rfl, trivial⟩⟩⟩⟩) (x_lp (σ := Int32 × Int32 × Mem) 11 (fun s7 => [some (va_rf a0), some (va_rf x2), some (.int s7.1), some (.int s7.2.1), none]) (fun s7 => []) (fun s7 => s7.2.2) (fun s7 j11 hj11 => ?_) 4294967296 ((0 : Int32), (0 : Int32), M3))
  · refine x_iload_n dX5_mutantsOf_11 rfl ?_
    refine x_aload_n dX5_mutantsOf_12 rfl ?_
    refine gfX5_37 rfl dX5_mutantsOf_13 (fun x8 => ?_)
    refine x_icmp_ge (tgt := 67) dX5_mutantsOf_16 (by decide) (fun _ => ?_) (fun _ => ?_)
    · exact x_weak (by exact ⟨rfl, ⟨rfl, trivial⟩⟩) (hj67 (s7.1, s7.2.2))
    · refine x_aload_n dX5_mutantsOf_19 rfl ?_
      refine gfX5_41 rfl dX5_mutantsOf_20 (fun x9 => ?_)
      refine x_iload_n dX5_mutantsOf_23 rfl ?_
      refine x_iald dX5_mutantsOf_24 (fun x10 => ?_)
      refine x_istore (lo' := [some (va_rf a0), some (va_rf x2), some (.int s7.1), some (.int s7.2.1), some (.int x10)]) dX5_mutantsOf_25 (by decide) rfl rfl ?_
      refine x_aload_n dX5_mutantsOf_27 rfl ?_
      refine gfX5_93 rfl dX5_mutantsOf_28 (fun x11 => ?_)
      refine x_iload_n dX5_mutantsOf_31 rfl ?_
      refine x_zald dX5_mutantsOf_32 (fun x12 => ?_)
      refine x_jn (σ := Int32 × Mem) 61 (fun s13 => [some (va_rf a0), some (va_rf x2), some (.int s13.1), some (.int s7.2.1), none]) (fun s13 => []) (fun s13 => s13.2) (fun s13 => ?_) (fun j61 hj61 => ?_)
      · refine x_iincN (v := 1) (lo' := fun x14 => [some (va_rf a0), some (va_rf x2), some (.int s13.1), some (.int x14), none]) (by decide) dX5_mutantsOf_61 rfl (by decide) rfl (fun _ => rfl) (fun x14 => ?_)
        refine x_goto (tgt := 11) dX5_mutantsOf_64 (by decide) ?_
        exact x_weak (by exact ⟨rfl, ⟨rfl, ⟨rfl, ⟨rfl, trivial⟩⟩⟩⟩) (hj11 (s13.1, x14, s13.2))
      refine x_if_eq (tgt := 61) dX5_mutantsOf_33 (by decide) (fun _ => ?_) (fun _ => ?_)
      · exact x_weak (by exact ⟨rfl, ⟨rfl, ⟨rfl, ⟨rfl, trivial⟩⟩⟩⟩) (hj61 (s7.1, s7.2.2))
      · refine x_iload dX5_mutantsOf_36 rfl ?_
        refine x_getsN (v := va_rf (some 1)) z_ins lsX5_97 dX5_mutantsOf_38 ?_
        refine x_alen dX5_mutantsOf_41 (fun x15 => ?_)
        refine x_icmp_ge (tgt := 61) dX5_mutantsOf_42 (by decide) (fun _ => ?_) (fun _ => ?_)
        · exact x_weak (by exact ⟨rfl, ⟨rfl, ⟨rfl, ⟨rfl, trivial⟩⟩⟩⟩) (hj61 (s7.1, s7.2.2))
        · refine x_getsN (v := va_rf (some 1)) z_ins lsX5_97 dX5_mutantsOf_45 ?_
          refine x_iload dX5_mutantsOf_48 rfl ?_
          refine x_iald dX5_mutantsOf_50 (fun x16 => ?_)
          refine x_if_lt (tgt := 61) dX5_mutantsOf_51 (by decide) (fun _ => ?_) (fun _ => ?_)
          · exact x_weak (by exact ⟨rfl, ⟨rfl, ⟨rfl, ⟨rfl, trivial⟩⟩⟩⟩) (hj61 (s7.1, s7.2.2))
          · refine x_aload_n dX5_mutantsOf_54 rfl ?_
            refine x_iload_n dX5_mutantsOf_55 rfl ?_
            refine x_iload_n dX5_mutantsOf_56 rfl ?_
            refine x_iast dX5_mutantsOf_57 (fun M17 => ?_)
            refine x_iincN (v := 1) (lo' := fun x18 => [some (va_rf a0), some (va_rf x2), some (.int x18), some (.int s7.2.1), some (.int x10)]) (by decide) dX5_mutantsOf_58 rfl (by decide) (xok_r rfl) (fun _ => rfl) (fun x18 => ?_)
            exact x_weak (by exact ⟨rfl, ⟨rfl, ⟨rfl, ⟨rfl, trivial⟩⟩⟩⟩) (hj61 (x18, M17))
theorem s51 {l : Launch} {d : Nat} {rec : Nat → List Value → Mem → XA} (hS : Nonempty XS) (hs : XSnd l xmt rec d) : Snd1 l 51 (b51 rec) d := by
  intro as M r M' h0
  unfold b51 at h0
  obtain ⟨a0, l1, e1, h1⟩ := aR_inv h0
  obtain ⟨ez, h⟩ := aZ_inv h1
  subst ez
  subst e1
  exact xmet (M := M) (as := [va_rf a0]) (lo := [some (va_rf a0)]) 51 xq51 xm51 (by rw [xargs_rf, xargs_nil]; exact ⟨rfl, trivial⟩) (by rw [xargs_rf, xargs_nil]; exact Nat.le_of_ble_eq_true rfl) (fun S G K => x_weak (by exact ⟨rfl, trivial⟩) (k51 hs a0 M)) h hS
set_option maxRecDepth 100000 in
def c52_4 (rec : Nat → List Value → Mem → XA) (a0 : Option Nat) (j51 : Mem → XA) : (Int32 × Int32 × Mem) → ((Int32 × Int32 × Mem) → XA) → XA := fun s2 j4 =>
  vC (0, 3) s2.2.2 a0 <|
  cI (rec 346 [va_rf a0] s2.2.2) fun x4 M3 =>
  if x4 ≤ s2.2.1 then (
    j51 M3) else (
    vC (0, 3) M3 a0 <|
    cP (rec 348 [va_rf a0, .int s2.2.1] M3) fun x6 M5 =>
    cst (8, 9) M5 x6 <|
    ptI (8, 9) M5 x6 8 s2.1 fun M7 =>
    gtI (8, 9) M7 x6 2 fun x8 =>
    jn (fun (s9 : Int32) =>
      lt (s2.1 + s9) fun (x10 : Int32) =>
      lt (s2.2.1 + (1 : Int32)) fun (x11 : Int32) =>
      j4 (x10, x11, M7)) fun j43 =>
    if x8 = ((3 : Int32)) then (
      gtI (8, 9) M7 x6 4 fun x12 =>
      j43 x12) else (
      j43 ((1 : Int32))))
set_option maxRecDepth 100000 in
def c52 (rec : Nat → List Value → Mem → XA) (a0 : Option Nat) (M0 : Mem) : XA :=
  jn (fun (s1 : Mem) =>
    some (.null, s1)) fun j51 =>
  lp (c52_4 rec a0 j51) 4294967296 ((0 : Int32), (0 : Int32), M0)
def b52 (rec : Nat → List Value → Mem → XA) (as : List Value) (M0 : Mem) : XA := aR as fun a0 as => aZ as (c52 rec a0 M0)
set_option maxRecDepth 100000 in
set_option maxHeartbeats 4000000 in
theorem k52 {S : XS} {G : XG} {K : Nat × Nat} {l : Launch} {d : Nat} {rec : Nat → List Value → Mem → XA} (hs : XSnd l xmt rec d) (a0 : Option Nat) (M0 : Mem) : Xe S G K l (yX5_shareCells, cX5_shareCells, 4, none) d 0 [some (va_rf a0), none, none, none] [] M0 (c52 rec a0 M0) := by
  unfold c52
  refine x_iconst (v := 0) dX5_shareCells_0 (by decide) ?_
  refine x_istore_n (lo' := [some (va_rf a0), some (.int ((0 : Int32))), none, none]) dX5_shareCells_1 (by decide) (xok_r rfl) rfl ?_
  refine x_iconst (v := 0) dX5_shareCells_2 (by decide) ?_
  refine x_istore_n (lo' := [some (va_rf a0), some (.int ((0 : Int32))), some (.int ((0 : Int32))), none]) dX5_shareCells_3 (by decide) rfl rfl ?_
  refine x_jn (σ := Mem) 51 (fun s1 => [none, none, none, none]) (fun s1 => []) (fun s1 => s1) (fun s1 => ?_) (fun j51 hj51 => ?_)
  · exact x_vret rfl dX5_shareCells_51
  refine x_weak (by exact ⟨rfl, ⟨rfl, ⟨rfl, trivial⟩⟩⟩) (x_lp (σ := Int32 × Int32 × Mem) 4 (fun s2 => [some (va_rf a0), some (.int s2.1), some (.int s2.2.1), none]) (fun s2 => []) (fun s2 => s2.2.2) (fun s2 j4 hj4 => ?_) 4294967296 ((0 : Int32), (0 : Int32), M0))
  · refine x_iload_n dX5_shareCells_4 rfl ?_
    refine x_aload_n dX5_shareCells_5 rfl ?_
    refine cmX5_67 rfl hs (Nat.le_of_ble_eq_true rfl) dX5_shareCells_6 (fun x4 M3 => ?_)
    refine x_icmp_ge (tgt := 51) dX5_shareCells_9 (by decide) (fun _ => ?_) (fun _ => ?_)
    · exact x_weak (by exact trivial) (hj51 M3)
    · refine x_aload_n dX5_shareCells_12 rfl ?_
      refine x_iload_n dX5_shareCells_13 rfl ?_
      refine cmX5_100 rfl hs (Nat.le_of_ble_eq_true rfl) dX5_shareCells_14 (fun x6 M5 => ?_)
      refine ccX5_104 rfl dX5_shareCells_17 ?_
      refine x_astore_n (lo' := [some (va_rf a0), some (.int s2.1), some (.int s2.2.1), some (va_rf x6)]) dX5_shareCells_20 (by decide) rfl rfl ?_
      refine x_aload_n dX5_shareCells_21 rfl ?_
      refine x_iload_n dX5_shareCells_22 rfl ?_
      refine pfX5_106 rfl dX5_shareCells_23 (fun M7 => ?_)
      refine x_iload_n dX5_shareCells_26 rfl ?_
      refine x_aload_n dX5_shareCells_27 rfl ?_
      refine gfX5_109 rfl dX5_shareCells_28 (fun x8 => ?_)
      refine x_iconst (v := 3) dX5_shareCells_31 (by decide) ?_
      refine x_jn (σ := Int32) 43 (fun s9 => [some (va_rf a0), none, some (.int s2.2.1), none]) (fun s9 => [.int s9, .int s2.1]) (fun s9 => M7) (fun s9 => ?_) (fun j43 hj43 => ?_)
      · refine x_iadd dX5_shareCells_43 ?_
        refine x_ltI (fun x10 => ?_)
        refine x_istore_n (lo' := [some (va_rf a0), some (.int x10), some (.int s2.2.1), none]) dX5_shareCells_44 (by decide) (xok_r rfl) rfl ?_
        refine x_iincN (v := 1) (lo' := fun x11 => [some (va_rf a0), some (.int x10), some (.int x11), none]) (by decide) dX5_shareCells_45 rfl (by decide) rfl (fun _ => rfl) (fun x11 => ?_)
        refine x_goto (tgt := 4) dX5_shareCells_48 (by decide) ?_
        exact x_weak (by exact ⟨rfl, ⟨rfl, ⟨rfl, trivial⟩⟩⟩) (hj4 (x10, x11, M7))
      refine x_icmp_ne (tgt := 42) dX5_shareCells_32 (by decide) (fun _ => ?_) (fun _ => ?_)
      · refine x_aload_n dX5_shareCells_35 rfl ?_
        refine gfX5_112 rfl dX5_shareCells_36 (fun x12 => ?_)
        refine x_goto (tgt := 43) dX5_shareCells_39 (by decide) ?_
        exact x_weak (by exact ⟨rfl, ⟨rfl, trivial⟩⟩) (hj43 x12)
      · refine x_iconst (v := 1) dX5_shareCells_42 (by decide) ?_
        exact x_weak (by exact ⟨rfl, ⟨rfl, trivial⟩⟩) (hj43 ((1 : Int32)))
theorem s52 {l : Launch} {d : Nat} {rec : Nat → List Value → Mem → XA} (hS : Nonempty XS) (hs : XSnd l xmt rec d) : Snd1 l 52 (b52 rec) d := by
  intro as M r M' h0
  unfold b52 at h0
  obtain ⟨a0, l1, e1, h1⟩ := aR_inv h0
  obtain ⟨ez, h⟩ := aZ_inv h1
  subst ez
  subst e1
  exact xmet (M := M) (as := [va_rf a0]) (lo := [some (va_rf a0)]) 52 xq52 xm52 (by rw [xargs_rf, xargs_nil]; exact ⟨rfl, trivial⟩) (by rw [xargs_rf, xargs_nil]; exact Nat.le_of_ble_eq_true rfl) (fun S G K => x_weak (by exact ⟨rfl, trivial⟩) (k52 hs a0 M)) h hS
set_option maxRecDepth 100000 in
def c53_2 (rec : Nat → List Value → Mem → XA) (a0 : Option Nat) (a1 : Int32) (j49 : Int32 × Mem → XA) (j57 : Mem → XA) : (Int32 × Mem) → ((Int32 × Mem) → XA) → XA := fun s3 j2 =>
  gtP (6, 18) s3.2 a0 1 fun x4 =>
  vC (0, 3) s3.2 x4 <|
  cI (rec 346 [va_rf x4] s3.2) fun x6 M5 =>
  if x6 ≤ s3.1 then (
    j57 M5) else (
    gtP (6, 18) M5 a0 1 fun x7 =>
    vC (0, 3) M5 x7 <|
    cP (rec 348 [va_rf x7, .int s3.1] M5) fun x9 M8 =>
    cst (11, 10) M8 x9 <|
    gtI (11, 10) M8 x9 3 fun x10 =>
    jn (fun (s11 : Mem) =>
      lt (s3.1 + (1 : Int32)) fun (x12 : Int32) =>
      j2 (x12, s11)) fun j51 =>
    if a1 < x10 then (
      j51 M8) else (
      gtP (6, 18) M8 a0 1 fun x13 =>
      vC (0, 3) M8 x13 <|
      cP (rec 348 [va_rf x13, .int s3.1] M8) fun x15 M14 =>
      cst (11, 10) M14 x15 <|
      gtI (11, 10) M14 x15 4 fun x16 =>
      if x16 ≤ a1 then (
        j51 M14) else (
        j49 (s3.1, M14))))
set_option maxRecDepth 100000 in
def c53 (rec : Nat → List Value → Mem → XA) (a0 : Option Nat) (a1 : Int32) (M0 : Mem) : XA :=
  jn (fun (s1 : Int32 × Mem) =>
    some (.int s1.1, s1.2)) fun j49 =>
  jn (fun (s2 : Mem) =>
    some (.int ((-2 : Int32)), s2)) fun j57 =>
  lp (c53_2 rec a0 a1 j49 j57) 4294967296 ((0 : Int32), M0)
def b53 (rec : Nat → List Value → Mem → XA) (as : List Value) (M0 : Mem) : XA := aR as fun a0 as => aI as fun a1 as => aZ as (c53 rec a0 a1 M0)
set_option maxRecDepth 100000 in
set_option maxHeartbeats 4000000 in
theorem k53 {S : XS} {G : XG} {K : Nat × Nat} {l : Launch} {d : Nat} {rec : Nat → List Value → Mem → XA} (hs : XSnd l xmt rec d) (a0 : Option Nat) (a1 : Int32) (M0 : Mem) : Xe S G K l (yX5_unitOfCode, cX5_unitOfCode, 3, some .int) d 0 [some (va_rf a0), some (.int a1), none] [] M0 (c53 rec a0 a1 M0) := by
  unfold c53
  refine x_iconst (v := 0) dX5_unitOfCode_0 (by decide) ?_
  refine x_istore_n (lo' := [some (va_rf a0), some (.int a1), some (.int ((0 : Int32)))]) dX5_unitOfCode_1 (by decide) rfl rfl ?_
  refine x_jn (σ := Int32 × Mem) 49 (fun s1 => [none, none, some (.int s1.1)]) (fun s1 => []) (fun s1 => s1.2) (fun s1 => ?_) (fun j49 hj49 => ?_)
  · refine x_iload_n dX5_unitOfCode_49 rfl ?_
    exact x_iret rfl dX5_unitOfCode_50
  refine x_jn (σ := Mem) 57 (fun s2 => [none, none, none]) (fun s2 => []) (fun s2 => s2) (fun s2 => ?_) (fun j57 hj57 => ?_)
  · refine x_bipush (v := -2) dX5_unitOfCode_57 (by decide) ?_
    exact x_iret rfl dX5_unitOfCode_59
  refine x_weak (by exact ⟨rfl, ⟨rfl, ⟨rfl, trivial⟩⟩⟩) (x_lp (σ := Int32 × Mem) 2 (fun s3 => [some (va_rf a0), some (.int a1), some (.int s3.1)]) (fun s3 => []) (fun s3 => s3.2) (fun s3 j2 hj2 => ?_) 4294967296 ((0 : Int32), M0))
  · refine x_iload_n dX5_unitOfCode_2 rfl ?_
    refine x_aload_n dX5_unitOfCode_3 rfl ?_
    refine gfX5_24 rfl dX5_unitOfCode_4 (fun x4 => ?_)
    refine cmX5_67 rfl hs (Nat.le_of_ble_eq_true rfl) dX5_unitOfCode_7 (fun x6 M5 => ?_)
    refine x_icmp_ge (tgt := 57) dX5_unitOfCode_10 (by decide) (fun _ => ?_) (fun _ => ?_)
    · exact x_weak (by exact trivial) (hj57 M5)
    · refine x_iload_n dX5_unitOfCode_13 rfl ?_
      refine x_aload_n dX5_unitOfCode_14 rfl ?_
      refine gfX5_24 rfl dX5_unitOfCode_15 (fun x7 => ?_)
      refine x_iload_n dX5_unitOfCode_18 rfl ?_
      refine cmX5_100 rfl hs (Nat.le_of_ble_eq_true rfl) dX5_unitOfCode_19 (fun x9 M8 => ?_)
      refine ccX5_115 rfl dX5_unitOfCode_22 ?_
      refine gfX5_117 rfl dX5_unitOfCode_25 (fun x10 => ?_)
      refine x_jn (σ := Mem) 51 (fun s11 => [some (va_rf a0), some (.int a1), some (.int s3.1)]) (fun s11 => []) (fun s11 => s11) (fun s11 => ?_) (fun j51 hj51 => ?_)
      · refine x_iincN (v := 1) (lo' := fun x12 => [some (va_rf a0), some (.int a1), some (.int x12)]) (by decide) dX5_unitOfCode_51 rfl (by decide) rfl (fun _ => rfl) (fun x12 => ?_)
        refine x_goto (tgt := 2) dX5_unitOfCode_54 (by decide) ?_
        exact x_weak (by exact ⟨rfl, ⟨rfl, ⟨rfl, trivial⟩⟩⟩) (hj2 (x12, s11))
      refine x_icmp_lt (tgt := 51) dX5_unitOfCode_28 (by decide) (fun _ => ?_) (fun _ => ?_)
      · exact x_weak (by exact ⟨rfl, ⟨rfl, ⟨rfl, trivial⟩⟩⟩) (hj51 M8)
      · refine x_iload_n dX5_unitOfCode_31 rfl ?_
        refine x_aload_n dX5_unitOfCode_32 rfl ?_
        refine gfX5_24 rfl dX5_unitOfCode_33 (fun x13 => ?_)
        refine x_iload_n dX5_unitOfCode_36 rfl ?_
        refine cmX5_100 rfl hs (Nat.le_of_ble_eq_true rfl) dX5_unitOfCode_37 (fun x15 M14 => ?_)
        refine ccX5_115 rfl dX5_unitOfCode_40 ?_
        refine gfX5_120 rfl dX5_unitOfCode_43 (fun x16 => ?_)
        refine x_icmp_ge (tgt := 51) dX5_unitOfCode_46 (by decide) (fun _ => ?_) (fun _ => ?_)
        · exact x_weak (by exact ⟨rfl, ⟨rfl, ⟨rfl, trivial⟩⟩⟩) (hj51 M14)
        · exact x_weak (by exact ⟨rfl, trivial⟩) (hj49 (s3.1, M14))
theorem s53 {l : Launch} {d : Nat} {rec : Nat → List Value → Mem → XA} (hS : Nonempty XS) (hs : XSnd l xmt rec d) : Snd1 l 53 (b53 rec) d := by
  intro as M r M' h0
  unfold b53 at h0
  obtain ⟨a0, l1, e1, h1⟩ := aR_inv h0
  obtain ⟨a1, l2, e2, h2⟩ := aI_inv h1
  obtain ⟨ez, h⟩ := aZ_inv h2
  subst ez
  subst e2
  subst e1
  exact xmet (M := M) (as := [va_rf a0, .int a1]) (lo := [some (va_rf a0), some (.int a1)]) 53 xq53 xm53 (by rw [xargs_rf, xargs_i, xargs_nil]; exact ⟨rfl, ⟨rfl, trivial⟩⟩) (by rw [xargs_rf, xargs_i, xargs_nil]; exact Nat.le_of_ble_eq_true rfl) (fun S G K => x_weak (by exact ⟨rfl, ⟨rfl, trivial⟩⟩) (k53 hs a0 a1 M)) h hS
set_option maxRecDepth 100000 in
def c54_2 (rec : Nat → List Value → Mem → XA) (a0 : Option Nat) (j23 : Mem → XA) : (Int32 × Mem) → ((Int32 × Mem) → XA) → XA := fun s2 j2 =>
  if ((3 : Int32)) ≤ s2.1 then (
    j23 s2.2) else (
    gtP (6, 18) s2.2 a0 12 fun x3 =>
    alP 113 s2.2 x3 s2.1 fun x4 =>
    cV (rec 352 [va_rf x4, .int ((0 : Int32))] s2.2) fun M5 =>
    lt (s2.1 + (1 : Int32)) fun (x6 : Int32) =>
    j2 (x6, M5))
set_option maxRecDepth 100000 in
def c54 (rec : Nat → List Value → Mem → XA) (a0 : Option Nat) (M0 : Mem) : XA :=
  jn (fun (s1 : Mem) =>
    some (.null, s1)) fun j23 =>
  lp (c54_2 rec a0 j23) 4294967296 ((0 : Int32), M0)
def b54 (rec : Nat → List Value → Mem → XA) (as : List Value) (M0 : Mem) : XA := aR as fun a0 as => aZ as (c54 rec a0 M0)
set_option maxRecDepth 100000 in
set_option maxHeartbeats 4000000 in
theorem k54 {S : XS} {G : XG} {K : Nat × Nat} {l : Launch} {d : Nat} {rec : Nat → List Value → Mem → XA} (hs : XSnd l xmt rec d) (a0 : Option Nat) (M0 : Mem) : Xe S G K l (yX5_clearCover, cX5_clearCover, 2, none) d 0 [some (va_rf a0), none] [] M0 (c54 rec a0 M0) := by
  unfold c54
  refine x_iconst (v := 0) dX5_clearCover_0 (by decide) ?_
  refine x_istore_n (lo' := [some (va_rf a0), some (.int ((0 : Int32)))]) dX5_clearCover_1 (by decide) (xok_r rfl) rfl ?_
  refine x_jn (σ := Mem) 23 (fun s1 => [none, none]) (fun s1 => []) (fun s1 => s1) (fun s1 => ?_) (fun j23 hj23 => ?_)
  · exact x_vret rfl dX5_clearCover_23
  refine x_weak (by exact ⟨rfl, ⟨rfl, trivial⟩⟩) (x_lp (σ := Int32 × Mem) 2 (fun s2 => [some (va_rf a0), some (.int s2.1)]) (fun s2 => []) (fun s2 => s2.2) (fun s2 j2 hj2 => ?_) 4294967296 ((0 : Int32), M0))
  · refine x_iload_n dX5_clearCover_2 rfl ?_
    refine x_iconst (v := 3) dX5_clearCover_3 (by decide) ?_
    refine x_icmp_ge (tgt := 23) dX5_clearCover_4 (by decide) (fun _ => ?_) (fun _ => ?_)
    · exact x_weak (by exact trivial) (hj23 s2.2)
    · refine x_aload_n dX5_clearCover_7 rfl ?_
      refine gfX5_80 rfl dX5_clearCover_8 (fun x3 => ?_)
      refine x_iload_n dX5_clearCover_11 rfl ?_
      refine x_aldg (t := 113) (tn := 8) (by decide) (by decide) rfl rfl dX5_clearCover_12 (fun x4 => ?_)
      refine x_iconst (v := 0) dX5_clearCover_13 (by decide) ?_
      refine cmX5_123 rfl hs (Nat.le_of_ble_eq_true rfl) dX5_clearCover_14 (fun M5 => ?_)
      refine x_iincN (v := 1) (lo' := fun x6 => [some (va_rf a0), some (.int x6)]) (by decide) dX5_clearCover_17 rfl (by decide) (xok_r rfl) (fun _ => rfl) (fun x6 => ?_)
      refine x_goto (tgt := 2) dX5_clearCover_20 (by decide) ?_
      exact x_weak (by exact ⟨rfl, ⟨rfl, trivial⟩⟩) (hj2 (x6, M5))
theorem s54 {l : Launch} {d : Nat} {rec : Nat → List Value → Mem → XA} (hS : Nonempty XS) (hs : XSnd l xmt rec d) : Snd1 l 54 (b54 rec) d := by
  intro as M r M' h0
  unfold b54 at h0
  obtain ⟨a0, l1, e1, h1⟩ := aR_inv h0
  obtain ⟨ez, h⟩ := aZ_inv h1
  subst ez
  subst e1
  exact xmet (M := M) (as := [va_rf a0]) (lo := [some (va_rf a0)]) 54 xq54 xm54 (by rw [xargs_rf, xargs_nil]; exact ⟨rfl, trivial⟩) (by rw [xargs_rf, xargs_nil]; exact Nat.le_of_ble_eq_true rfl) (fun S G K => x_weak (by exact ⟨rfl, trivial⟩) (k54 hs a0 M)) h hS
set_option maxRecDepth 100000 in
def c55 (rec : Nat → List Value → Mem → XA) (a0 : Option Nat) (a1 : Int32) (a2 : Int32) (M0 : Mem) : XA :=
  gtP (6, 18) M0 a0 12 fun x1 =>
  alP 113 M0 x1 ((0 : Int32)) fun x2 =>
  alI 100 M0 x2 a1 fun x3 =>
  asI 100 M0 x2 a1 ((x3 + ((1 : Int32)))) fun M4 =>
  gtP (6, 18) M4 a0 12 fun x5 =>
  alP 113 M4 x5 ((2 : Int32)) fun x6 =>
  alI 100 M4 x6 a1 fun x7 =>
  jn (fun (s8 : Mem) =>
    some (.null, s8)) fun j45 =>
  if x7 = a2 then (
    j45 M4) else (
    gtP (6, 18) M4 a0 12 fun x9 =>
    alP 113 M4 x9 ((2 : Int32)) fun x10 =>
    asI 100 M4 x10 a1 a2 fun M11 =>
    gtP (6, 18) M11 a0 12 fun x12 =>
    alP 113 M11 x12 ((1 : Int32)) fun x13 =>
    alI 100 M11 x13 a1 fun x14 =>
    asI 100 M11 x13 a1 ((x14 + ((1 : Int32)))) fun M15 =>
    j45 M15)
def b55 (rec : Nat → List Value → Mem → XA) (as : List Value) (M0 : Mem) : XA := aR as fun a0 as => aI as fun a1 as => aI as fun a2 as => aZ as (c55 rec a0 a1 a2 M0)
set_option maxRecDepth 100000 in
set_option maxHeartbeats 4000000 in
theorem k55 {S : XS} {G : XG} {K : Nat × Nat} {l : Launch} {d : Nat} {rec : Nat → List Value → Mem → XA} (hs : XSnd l xmt rec d) (a0 : Option Nat) (a1 : Int32) (a2 : Int32) (M0 : Mem) : Xe S G K l (yX5_noteBegun, cX5_noteBegun, 3, none) d 0 [some (va_rf a0), some (.int a1), some (.int a2)] [] M0 (c55 rec a0 a1 a2 M0) := by
  unfold c55
  refine x_aload_n dX5_noteBegun_0 rfl ?_
  refine gfX5_80 rfl dX5_noteBegun_1 (fun x1 => ?_)
  refine x_iconst (v := 0) dX5_noteBegun_4 (by decide) ?_
  refine x_aldg (t := 113) (tn := 8) (by decide) (by decide) rfl rfl dX5_noteBegun_5 (fun x2 => ?_)
  refine x_iload_n dX5_noteBegun_6 rfl ?_
  refine x_dup2 dX5_noteBegun_7 (xc1_i _) (xc1_r _) ?_
  refine x_iald dX5_noteBegun_8 (fun x3 => ?_)
  refine x_iconst (v := 1) dX5_noteBegun_9 (by decide) ?_
  refine x_iadd dX5_noteBegun_10 ?_
  refine x_iast dX5_noteBegun_11 (fun M4 => ?_)
  refine x_aload_n dX5_noteBegun_12 rfl ?_
  refine gfX5_80 rfl dX5_noteBegun_13 (fun x5 => ?_)
  refine x_iconst (v := 2) dX5_noteBegun_16 (by decide) ?_
  refine x_aldg (t := 113) (tn := 8) (by decide) (by decide) rfl rfl dX5_noteBegun_17 (fun x6 => ?_)
  refine x_iload_n dX5_noteBegun_18 rfl ?_
  refine x_iald dX5_noteBegun_19 (fun x7 => ?_)
  refine x_iload_n dX5_noteBegun_20 rfl ?_
  refine x_jn (σ := Mem) 45 (fun s8 => [none, none, none]) (fun s8 => []) (fun s8 => s8) (fun s8 => ?_) (fun j45 hj45 => ?_)
  · exact x_vret rfl dX5_noteBegun_45
  refine x_icmp_eq (tgt := 45) dX5_noteBegun_21 (by decide) (fun _ => ?_) (fun _ => ?_)
  · exact x_weak (by exact trivial) (hj45 M4)
  · refine x_aload_n dX5_noteBegun_24 rfl ?_
    refine gfX5_80 rfl dX5_noteBegun_25 (fun x9 => ?_)
    refine x_iconst (v := 2) dX5_noteBegun_28 (by decide) ?_
    refine x_aldg (t := 113) (tn := 8) (by decide) (by decide) rfl rfl dX5_noteBegun_29 (fun x10 => ?_)
    refine x_iload_n dX5_noteBegun_30 rfl ?_
    refine x_iload_n dX5_noteBegun_31 rfl ?_
    refine x_iast dX5_noteBegun_32 (fun M11 => ?_)
    refine x_aload_n dX5_noteBegun_33 rfl ?_
    refine gfX5_80 rfl dX5_noteBegun_34 (fun x12 => ?_)
    refine x_iconst (v := 1) dX5_noteBegun_37 (by decide) ?_
    refine x_aldg (t := 113) (tn := 8) (by decide) (by decide) rfl rfl dX5_noteBegun_38 (fun x13 => ?_)
    refine x_iload_n dX5_noteBegun_39 rfl ?_
    refine x_dup2 dX5_noteBegun_40 (xc1_i _) (xc1_r _) ?_
    refine x_iald dX5_noteBegun_41 (fun x14 => ?_)
    refine x_iconst (v := 1) dX5_noteBegun_42 (by decide) ?_
    refine x_iadd dX5_noteBegun_43 ?_
    refine x_iast dX5_noteBegun_44 (fun M15 => ?_)
    exact x_weak (by exact trivial) (hj45 M15)
theorem s55 {l : Launch} {d : Nat} {rec : Nat → List Value → Mem → XA} (hS : Nonempty XS) (hs : XSnd l xmt rec d) : Snd1 l 55 (b55 rec) d := by
  intro as M r M' h0
  unfold b55 at h0
  obtain ⟨a0, l1, e1, h1⟩ := aR_inv h0
  obtain ⟨a1, l2, e2, h2⟩ := aI_inv h1
  obtain ⟨a2, l3, e3, h3⟩ := aI_inv h2
  obtain ⟨ez, h⟩ := aZ_inv h3
  subst ez
  subst e3
  subst e2
  subst e1
  exact xmet (M := M) (as := [va_rf a0, .int a1, .int a2]) (lo := [some (va_rf a0), some (.int a1), some (.int a2)]) 55 xq55 xm55 (by rw [xargs_rf, xargs_i, xargs_i, xargs_nil]; exact ⟨rfl, ⟨rfl, ⟨rfl, trivial⟩⟩⟩) (by rw [xargs_rf, xargs_i, xargs_i, xargs_nil]; exact Nat.le_of_ble_eq_true rfl) (fun S G K => x_weak (by exact ⟨rfl, ⟨rfl, ⟨rfl, trivial⟩⟩⟩) (k55 hs a0 a1 a2 M)) h hS
set_option maxRecDepth 100000 in
def c56_33 (rec : Nat → List Value → Mem → XA) (a0 : Option Nat) (M6 : Mem) (j60 : Int32 → XA) : (Int32 × Int32) → ((Int32 × Int32) → XA) → XA := fun s8 j33 =>
  gtP (6, 18) M6 a0 14 fun x9 =>
  aln M6 x9 fun x10 =>
  if x10 ≤ s8.2 then (
    j60 s8.1) else (
    gtP (6, 18) M6 a0 14 fun x11 =>
    alI 100 M6 x11 s8.2 fun x12 =>
    jn (fun (s13 : Int32) =>
      lt (s8.2 + (1 : Int32)) fun (x14 : Int32) =>
      j33 (s13, x14)) fun j54 =>
    if x12 = 0 then (
      j54 s8.1) else (
      lt (s8.1 + (1 : Int32)) fun (x15 : Int32) =>
      j54 x15))
set_option maxRecDepth 100000 in
def c56 (rec : Nat → List Value → Mem → XA) (a0 : Option Nat) (M0 : Mem) : XA :=
  gtP (6, 18) M0 a0 14 fun x1 =>
  gtP (6, 18) M0 a0 15 fun x2 =>
  ptP (6, 18) M0 a0 14 x2 fun M3 =>
  ptP (6, 18) M3 a0 15 x1 fun M4 =>
  ptZ (6, 18) M4 a0 16 ((1 : Int32)) fun M5 =>
  ptI (6, 18) M5 a0 17 ((-2 : Int32)) fun M6 =>
  jn (fun (s7 : Int32) =>
    some (.int s7, M6)) fun j60 =>
  lp (c56_33 rec a0 M6 j60) 4294967296 ((0 : Int32), (0 : Int32))
def b56 (rec : Nat → List Value → Mem → XA) (as : List Value) (M0 : Mem) : XA := aR as fun a0 as => aZ as (c56 rec a0 M0)
set_option maxRecDepth 100000 in
set_option maxHeartbeats 4000000 in
theorem k56 {S : XS} {G : XG} {K : Nat × Nat} {l : Launch} {d : Nat} {rec : Nat → List Value → Mem → XA} (hs : XSnd l xmt rec d) (a0 : Option Nat) (M0 : Mem) : Xe S G K l (yX5_takeKills, cX5_takeKills, 4, some .int) d 0 [some (va_rf a0), none, none, none] [] M0 (c56 rec a0 M0) := by
  unfold c56
  refine x_aload_n dX5_takeKills_0 rfl ?_
  refine gfX5_83 rfl dX5_takeKills_1 (fun x1 => ?_)
  refine x_astore_n (lo' := [some (va_rf a0), some (va_rf x1), none, none]) dX5_takeKills_4 (by decide) (xok_r rfl) rfl ?_
  refine x_aload_n dX5_takeKills_5 rfl ?_
  refine x_aload_n dX5_takeKills_6 rfl ?_
  refine gfX5_86 rfl dX5_takeKills_7 (fun x2 => ?_)
  refine pfX5_83 rfl dX5_takeKills_10 (fun M3 => ?_)
  refine x_aload_n dX5_takeKills_13 rfl ?_
  refine x_aload_n dX5_takeKills_14 rfl ?_
  refine pfX5_86 rfl dX5_takeKills_15 (fun M4 => ?_)
  refine x_aload_n dX5_takeKills_18 rfl ?_
  refine x_iconst (v := 1) dX5_takeKills_19 (by decide) ?_
  refine pfX5_127 rfl dX5_takeKills_20 (fun M5 => ?_)
  refine x_aload_n dX5_takeKills_23 rfl ?_
  refine x_bipush (v := -2) dX5_takeKills_24 (by decide) ?_
  refine pfX5_9 rfl dX5_takeKills_26 (fun M6 => ?_)
  refine x_iconst (v := 0) dX5_takeKills_29 (by decide) ?_
  refine x_istore_n (lo' := [some (va_rf a0), some (va_rf x1), some (.int ((0 : Int32))), none]) dX5_takeKills_30 (by decide) (xok_r rfl) rfl ?_
  refine x_iconst (v := 0) dX5_takeKills_31 (by decide) ?_
  refine x_istore_n (lo' := [some (va_rf a0), some (va_rf x1), some (.int ((0 : Int32))), some (.int ((0 : Int32)))]) dX5_takeKills_32 (by decide) rfl rfl ?_
  refine x_jn (σ := Int32) 60 (fun s7 => [none, none, some (.int s7), none]) (fun s7 => []) (fun s7 => M6) (fun s7 => ?_) (fun j60 hj60 => ?_)
  · refine x_iload_n dX5_takeKills_60 rfl ?_
    exact x_iret rfl dX5_takeKills_61
  refine x_weak (by exact ⟨rfl, ⟨rfl, ⟨rfl, trivial⟩⟩⟩) (x_lp (σ := Int32 × Int32) 33 (fun s8 => [some (va_rf a0), none, some (.int s8.1), some (.int s8.2)]) (fun s8 => []) (fun s8 => M6) (fun s8 j33 hj33 => ?_) 4294967296 ((0 : Int32), (0 : Int32)))
  · refine x_iload_n dX5_takeKills_33 rfl ?_
    refine x_aload_n dX5_takeKills_34 rfl ?_
    refine gfX5_83 rfl dX5_takeKills_35 (fun x9 => ?_)
    refine x_alen dX5_takeKills_38 (fun x10 => ?_)
    refine x_icmp_ge (tgt := 60) dX5_takeKills_39 (by decide) (fun _ => ?_) (fun _ => ?_)
    · exact x_weak (by exact ⟨rfl, trivial⟩) (hj60 s8.1)
    · refine x_aload_n dX5_takeKills_42 rfl ?_
      refine gfX5_83 rfl dX5_takeKills_43 (fun x11 => ?_)
      refine x_iload_n dX5_takeKills_46 rfl ?_
      refine x_iald dX5_takeKills_47 (fun x12 => ?_)
      refine x_jn (σ := Int32) 54 (fun s13 => [some (va_rf a0), none, some (.int s13), some (.int s8.2)]) (fun s13 => []) (fun s13 => M6) (fun s13 => ?_) (fun j54 hj54 => ?_)
      · refine x_iincN (v := 1) (lo' := fun x14 => [some (va_rf a0), none, some (.int s13), some (.int x14)]) (by decide) dX5_takeKills_54 rfl (by decide) rfl (fun _ => rfl) (fun x14 => ?_)
        refine x_goto (tgt := 33) dX5_takeKills_57 (by decide) ?_
        exact x_weak (by exact ⟨rfl, ⟨rfl, ⟨rfl, trivial⟩⟩⟩) (hj33 (s13, x14))
      refine x_if_eq (tgt := 54) dX5_takeKills_48 (by decide) (fun _ => ?_) (fun _ => ?_)
      · exact x_weak (by exact ⟨rfl, ⟨rfl, ⟨rfl, trivial⟩⟩⟩) (hj54 s8.1)
      · refine x_iincN (v := 1) (lo' := fun x15 => [some (va_rf a0), none, some (.int x15), some (.int s8.2)]) (by decide) dX5_takeKills_51 rfl (by decide) rfl (fun _ => rfl) (fun x15 => ?_)
        exact x_weak (by exact ⟨rfl, ⟨rfl, ⟨rfl, trivial⟩⟩⟩) (hj54 x15)
theorem s56 {l : Launch} {d : Nat} {rec : Nat → List Value → Mem → XA} (hS : Nonempty XS) (hs : XSnd l xmt rec d) : Snd1 l 56 (b56 rec) d := by
  intro as M r M' h0
  unfold b56 at h0
  obtain ⟨a0, l1, e1, h1⟩ := aR_inv h0
  obtain ⟨ez, h⟩ := aZ_inv h1
  subst ez
  subst e1
  exact xmet (M := M) (as := [va_rf a0]) (lo := [some (va_rf a0)]) 56 xq56 xm56 (by rw [xargs_rf, xargs_nil]; exact ⟨rfl, trivial⟩) (by rw [xargs_rf, xargs_nil]; exact Nat.le_of_ble_eq_true rfl) (fun S G K => x_weak (by exact ⟨rfl, trivial⟩) (k56 hs a0 M)) h hS
set_option maxRecDepth 100000 in
def c57_49 (rec : Nat → List Value → Mem → XA) (a0 : Option Nat) (j91 : Int32 × Mem → XA) (s2 : Int32) : (Int32 × Int32 × Int32 × Mem) → ((Int32 × Int32 × Int32 × Mem) → XA) → XA := fun s6 j49 =>
  if ((65536 : Int32)) ≤ s6.2.2.1 then (
    j91 (s6.1, s6.2.2.2)) else (
    if s6.2.1 = s2 then (
      j91 (s6.1, s6.2.2.2)) else (
      cI (rec 58 [.int s6.2.1, .int s6.1] s6.2.2.2) fun x8 M7 =>
      jn (fun (s9 : Int32 × Mem) =>
        lt ((s6.2.1 - s2) &&& s2) fun (x10 : Int32) =>
        lt (s6.2.2.1 + (1 : Int32)) fun (x11 : Int32) =>
        j49 (s9.1, x10, x11, s9.2)) fun j79 =>
      if x8 = 0 then (
        j79 (s6.1, M7)) else (
        vC (6, 18) M7 a0 <|
        cI (rec 59 [va_rf a0, .int s6.2.1] M7) fun x13 M12 =>
        if x13 = 0 then (
          j79 (s6.1, M12)) else (
          j79 (s6.2.1, M12)))))
set_option maxRecDepth 100000 in
def c57_18 (rec : Nat → List Value → Mem → XA) (a0 : Option Nat) (M0 : Mem) (j42 : Int32 → XA) : (Int32 × Int32) → ((Int32 × Int32) → XA) → XA := fun s14 j18 =>
  gtP (6, 18) M0 a0 14 fun x15 =>
  aln M0 x15 fun x16 =>
  if x16 ≤ s14.2 then (
    j42 s14.1) else (
    gtP (6, 18) M0 a0 14 fun x17 =>
    alI 100 M0 x17 s14.2 fun x18 =>
    lt (s14.1 ||| x18) fun (x19 : Int32) =>
    lt (s14.2 + (1 : Int32)) fun (x20 : Int32) =>
    j18 (x19, x20))
set_option maxRecDepth 100000 in
def c57 (rec : Nat → List Value → Mem → XA) (a0 : Option Nat) (M0 : Mem) : XA :=
  gtI (6, 18) M0 a0 17 fun x1 =>
  if x1 = ((-2 : Int32)) then (
    jn (fun (s2 : Int32) =>
      jn (fun (s3 : Int32 × Mem) =>
        ptI (6, 18) s3.2 a0 17 s3.1 fun M4 =>
        gtI (6, 18) M4 a0 17 fun x5 =>
        some (.int x5, M4)) fun j91 =>
      lp (c57_49 rec a0 j91 s2) 4294967296 (s2, (0 : Int32), (0 : Int32), M0)) fun j42 =>
    lp (c57_18 rec a0 M0 j42) 4294967296 ((0 : Int32), (0 : Int32))) else (
    gtI (6, 18) M0 a0 17 fun x21 =>
    some (.int x21, M0))
def b57 (rec : Nat → List Value → Mem → XA) (as : List Value) (M0 : Mem) : XA := aR as fun a0 as => aZ as (c57 rec a0 M0)
set_option maxRecDepth 100000 in
set_option maxHeartbeats 4000000 in
theorem k57 {S : XS} {G : XG} {K : Nat × Nat} {l : Launch} {d : Nat} {rec : Nat → List Value → Mem → XA} (hs : XSnd l xmt rec d) (a0 : Option Nat) (M0 : Mem) : Xe S G K l (yX5_leastSuite, cX5_leastSuite, 5, some .int) d 0 [some (va_rf a0), none, none, none, none] [] M0 (c57 rec a0 M0) := by
  unfold c57
  refine x_aload_n dX5_leastSuite_0 rfl ?_
  refine gfX5_9 rfl dX5_leastSuite_1 (fun x1 => ?_)
  refine x_bipush (v := -2) dX5_leastSuite_4 (by decide) ?_
  refine x_icmp_eq (tgt := 14) dX5_leastSuite_6 (by decide) (fun _ => ?_) (fun _ => ?_)
  · refine x_iconst (v := 0) dX5_leastSuite_14 (by decide) ?_
    refine x_istore_n (lo' := [some (va_rf a0), some (.int ((0 : Int32))), none, none, none]) dX5_leastSuite_15 (by decide) (xok_r rfl) rfl ?_
    refine x_iconst (v := 0) dX5_leastSuite_16 (by decide) ?_
    refine x_istore_n (lo' := [some (va_rf a0), some (.int ((0 : Int32))), some (.int ((0 : Int32))), none, none]) dX5_leastSuite_17 (by decide) rfl rfl ?_
    refine x_jn (σ := Int32) 42 (fun s2 => [some (va_rf a0), some (.int s2), none, none, none]) (fun s2 => []) (fun s2 => M0) (fun s2 => ?_) (fun j42 hj42 => ?_)
    · refine x_iload_n dX5_leastSuite_42 rfl ?_
      refine x_istore_n (lo' := [some (va_rf a0), some (.int s2), some (.int s2), none, none]) dX5_leastSuite_43 (by decide) rfl rfl ?_
      refine x_iconst (v := 0) dX5_leastSuite_44 (by decide) ?_
      refine x_istore_n (lo' := [some (va_rf a0), some (.int s2), some (.int s2), some (.int ((0 : Int32))), none]) dX5_leastSuite_45 (by decide) rfl rfl ?_
      refine x_iconst (v := 0) dX5_leastSuite_46 (by decide) ?_
      refine x_istore (lo' := [some (va_rf a0), some (.int s2), some (.int s2), some (.int ((0 : Int32))), some (.int ((0 : Int32)))]) dX5_leastSuite_47 (by decide) rfl rfl ?_
      refine x_jn (σ := Int32 × Mem) 91 (fun s3 => [some (va_rf a0), none, some (.int s3.1), none, none]) (fun s3 => []) (fun s3 => s3.2) (fun s3 => ?_) (fun j91 hj91 => ?_)
      · refine x_aload_n dX5_leastSuite_91 rfl ?_
        refine x_iload_n dX5_leastSuite_92 rfl ?_
        refine pfX5_9 rfl dX5_leastSuite_93 (fun M4 => ?_)
        refine x_aload_n dX5_leastSuite_96 rfl ?_
        refine gfX5_9 rfl dX5_leastSuite_97 (fun x5 => ?_)
        exact x_iret rfl dX5_leastSuite_100
      refine x_weak (by exact ⟨rfl, ⟨rfl, ⟨rfl, ⟨rfl, ⟨rfl, trivial⟩⟩⟩⟩⟩) (x_lp (σ := Int32 × Int32 × Int32 × Mem) 49 (fun s6 => [some (va_rf a0), some (.int s2), some (.int s6.1), some (.int s6.2.1), some (.int s6.2.2.1)]) (fun s6 => []) (fun s6 => s6.2.2.2) (fun s6 j49 hj49 => ?_) 4294967296 (s2, (0 : Int32), (0 : Int32), M0))
      · refine x_iload dX5_leastSuite_49 rfl ?_
        refine x_ldc (v := 65536) dX5_leastSuite_51 lk_constant_X5_131 ?_
        refine x_icmp_ge (tgt := 91) dX5_leastSuite_53 (by decide) (fun _ => ?_) (fun _ => ?_)
        · exact x_weak (by exact ⟨rfl, ⟨rfl, trivial⟩⟩) (hj91 (s6.1, s6.2.2.2))
        · refine x_iload_n dX5_leastSuite_56 rfl ?_
          refine x_iload_n dX5_leastSuite_57 rfl ?_
          refine x_icmp_eq (tgt := 91) dX5_leastSuite_58 (by decide) (fun _ => ?_) (fun _ => ?_)
          · exact x_weak (by exact ⟨rfl, ⟨rfl, trivial⟩⟩) (hj91 (s6.1, s6.2.2.2))
          · refine x_iload_n dX5_leastSuite_61 rfl ?_
            refine x_iload_n dX5_leastSuite_62 rfl ?_
            refine cmX5_132 rfl hs (Nat.le_of_ble_eq_true rfl) dX5_leastSuite_63 (fun x8 M7 => ?_)
            refine x_jn (σ := Int32 × Mem) 79 (fun s9 => [some (va_rf a0), some (.int s2), some (.int s9.1), some (.int s6.2.1), some (.int s6.2.2.1)]) (fun s9 => []) (fun s9 => s9.2) (fun s9 => ?_) (fun j79 hj79 => ?_)
            · refine x_iload_n dX5_leastSuite_79 rfl ?_
              refine x_iload_n dX5_leastSuite_80 rfl ?_
              refine x_isub dX5_leastSuite_81 ?_
              refine x_iload_n dX5_leastSuite_82 rfl ?_
              refine x_iand dX5_leastSuite_83 ?_
              refine x_ltI (fun x10 => ?_)
              refine x_istore_n (lo' := [some (va_rf a0), some (.int s2), some (.int s9.1), some (.int x10), some (.int s6.2.2.1)]) dX5_leastSuite_84 (by decide) rfl rfl ?_
              refine x_iincN (v := 1) (lo' := fun x11 => [some (va_rf a0), some (.int s2), some (.int s9.1), some (.int x10), some (.int x11)]) (by decide) dX5_leastSuite_85 rfl (by decide) rfl (fun _ => rfl) (fun x11 => ?_)
              refine x_goto (tgt := 49) dX5_leastSuite_88 (by decide) ?_
              exact x_weak (by exact ⟨rfl, ⟨rfl, ⟨rfl, ⟨rfl, ⟨rfl, trivial⟩⟩⟩⟩⟩) (hj49 (s9.1, x10, x11, s9.2))
            refine x_if_eq (tgt := 79) dX5_leastSuite_66 (by decide) (fun _ => ?_) (fun _ => ?_)
            · exact x_weak (by exact ⟨rfl, ⟨rfl, ⟨rfl, ⟨rfl, ⟨rfl, trivial⟩⟩⟩⟩⟩) (hj79 (s6.1, M7))
            · refine x_aload_n dX5_leastSuite_69 rfl ?_
              refine x_iload_n dX5_leastSuite_70 rfl ?_
              refine cmX5_136 rfl hs (Nat.le_of_ble_eq_true rfl) dX5_leastSuite_71 (fun x13 M12 => ?_)
              refine x_if_eq (tgt := 79) dX5_leastSuite_74 (by decide) (fun _ => ?_) (fun _ => ?_)
              · exact x_weak (by exact ⟨rfl, ⟨rfl, ⟨rfl, ⟨rfl, ⟨rfl, trivial⟩⟩⟩⟩⟩) (hj79 (s6.1, M12))
              · refine x_iload_n dX5_leastSuite_77 rfl ?_
                refine x_istore_n (lo' := [some (va_rf a0), some (.int s2), some (.int s6.2.1), some (.int s6.2.1), some (.int s6.2.2.1)]) dX5_leastSuite_78 (by decide) rfl rfl ?_
                exact x_weak (by exact ⟨rfl, ⟨rfl, ⟨rfl, ⟨rfl, ⟨rfl, trivial⟩⟩⟩⟩⟩) (hj79 (s6.2.1, M12))
    refine x_weak (by exact ⟨rfl, ⟨rfl, ⟨rfl, trivial⟩⟩⟩) (x_lp (σ := Int32 × Int32) 18 (fun s14 => [some (va_rf a0), some (.int s14.1), some (.int s14.2), none, none]) (fun s14 => []) (fun s14 => M0) (fun s14 j18 hj18 => ?_) 4294967296 ((0 : Int32), (0 : Int32)))
    · refine x_iload_n dX5_leastSuite_18 rfl ?_
      refine x_aload_n dX5_leastSuite_19 rfl ?_
      refine gfX5_83 rfl dX5_leastSuite_20 (fun x15 => ?_)
      refine x_alen dX5_leastSuite_23 (fun x16 => ?_)
      refine x_icmp_ge (tgt := 42) dX5_leastSuite_24 (by decide) (fun _ => ?_) (fun _ => ?_)
      · exact x_weak (by exact ⟨rfl, ⟨rfl, trivial⟩⟩) (hj42 s14.1)
      · refine x_iload_n dX5_leastSuite_27 rfl ?_
        refine x_aload_n dX5_leastSuite_28 rfl ?_
        refine gfX5_83 rfl dX5_leastSuite_29 (fun x17 => ?_)
        refine x_iload_n dX5_leastSuite_32 rfl ?_
        refine x_iald dX5_leastSuite_33 (fun x18 => ?_)
        refine x_ior dX5_leastSuite_34 ?_
        refine x_ltI (fun x19 => ?_)
        refine x_istore_n (lo' := [some (va_rf a0), some (.int x19), some (.int s14.2), none, none]) dX5_leastSuite_35 (by decide) (xok_r rfl) rfl ?_
        refine x_iincN (v := 1) (lo' := fun x20 => [some (va_rf a0), some (.int x19), some (.int x20), none, none]) (by decide) dX5_leastSuite_36 rfl (by decide) rfl (fun _ => rfl) (fun x20 => ?_)
        refine x_goto (tgt := 18) dX5_leastSuite_39 (by decide) ?_
        exact x_weak (by exact ⟨rfl, ⟨rfl, ⟨rfl, trivial⟩⟩⟩) (hj18 (x19, x20))
  · refine x_aload_n dX5_leastSuite_9 rfl ?_
    refine gfX5_9 rfl dX5_leastSuite_10 (fun x21 => ?_)
    exact x_iret rfl dX5_leastSuite_13
theorem s57 {l : Launch} {d : Nat} {rec : Nat → List Value → Mem → XA} (hS : Nonempty XS) (hs : XSnd l xmt rec d) : Snd1 l 57 (b57 rec) d := by
  intro as M r M' h0
  unfold b57 at h0
  obtain ⟨a0, l1, e1, h1⟩ := aR_inv h0
  obtain ⟨ez, h⟩ := aZ_inv h1
  subst ez
  subst e1
  exact xmet (M := M) (as := [va_rf a0]) (lo := [some (va_rf a0)]) 57 xq57 xm57 (by rw [xargs_rf, xargs_nil]; exact ⟨rfl, trivial⟩) (by rw [xargs_rf, xargs_nil]; exact Nat.le_of_ble_eq_true rfl) (fun S G K => x_weak (by exact ⟨rfl, trivial⟩) (k57 hs a0 M)) h hS
set_option maxRecDepth 100000 in
def c58 (rec : Nat → List Value → Mem → XA) (a0 : Int32) (a1 : Int32) (M0 : Mem) : XA :=
  cI (rec 315 [.int a1] M0) fun x2 M1 =>
  cI (rec 315 [.int a0] M1) fun x4 M3 =>
  lt (x2 - x4) fun (x5 : Int32) =>
  lt (a0 ^^^ a1) fun (x6 : Int32) =>
  jn (fun (s7 : Int32) =>
    rtZ s7 M3) fun j36 =>
  jn (fun (s8 : Unit) =>
    j36 ((1 : Int32))) fun j31 =>
  if 0 < x5 then (
    j31 ()) else (
    jn (fun (s9 : Unit) =>
      j36 ((0 : Int32))) fun j35 =>
    if x5 = 0 then (
      if ((a0 &&& x6) &&& (-x6)) = 0 then (
        j35 ()) else (
        j31 ())) else (
      j35 ()))
def b58 (rec : Nat → List Value → Mem → XA) (as : List Value) (M0 : Mem) : XA := aI as fun a0 as => aI as fun a1 as => aZ as (c58 rec a0 a1 M0)
set_option maxRecDepth 100000 in
set_option maxHeartbeats 4000000 in
theorem k58 {S : XS} {G : XG} {K : Nat × Nat} {l : Launch} {d : Nat} {rec : Nat → List Value → Mem → XA} (hs : XSnd l xmt rec d) (a0 : Int32) (a1 : Int32) (M0 : Mem) : Xe S G K l (yX5_isBetter, cX5_isBetter, 4, some .boolean) d 0 [some (.int a0), some (.int a1), none, none] [] M0 (c58 rec a0 a1 M0) := by
  unfold c58
  refine x_iload_n dX5_isBetter_0 rfl ?_
  refine cmX5_140 rfl hs (Nat.le_of_ble_eq_true rfl) dX5_isBetter_1 (fun x2 M1 => ?_)
  refine x_iload_n dX5_isBetter_4 rfl ?_
  refine cmX5_140 rfl hs (Nat.le_of_ble_eq_true rfl) dX5_isBetter_5 (fun x4 M3 => ?_)
  refine x_isub dX5_isBetter_8 ?_
  refine x_ltI (fun x5 => ?_)
  refine x_istore_n (lo' := [some (.int a0), some (.int a1), some (.int x5), none]) dX5_isBetter_9 (by decide) rfl rfl ?_
  refine x_iload_n dX5_isBetter_10 rfl ?_
  refine x_iload_n dX5_isBetter_11 rfl ?_
  refine x_ixor dX5_isBetter_12 ?_
  refine x_ltI (fun x6 => ?_)
  refine x_istore_n (lo' := [some (.int a0), some (.int a1), some (.int x5), some (.int x6)]) dX5_isBetter_13 (by decide) rfl rfl ?_
  refine x_iload_n dX5_isBetter_14 rfl ?_
  refine x_jn (σ := Int32) 36 (fun s7 => [none, none, none, none]) (fun s7 => [.int s7]) (fun s7 => M3) (fun s7 => ?_) (fun j36 hj36 => ?_)
  · exact x_zret rfl dX5_isBetter_36
  refine x_jn (σ := Unit) 31 (fun s8 => [none, none, none, none]) (fun s8 => []) (fun s8 => M3) (fun s8 => ?_) (fun j31 hj31 => ?_)
  · refine x_iconst (v := 1) dX5_isBetter_31 (by decide) ?_
    refine x_goto (tgt := 36) dX5_isBetter_32 (by decide) ?_
    exact x_weak (by exact trivial) (hj36 ((1 : Int32)))
  refine x_if_gt (tgt := 31) dX5_isBetter_15 (by decide) (fun _ => ?_) (fun _ => ?_)
  · exact x_weak (by exact trivial) (hj31 ())
  · refine x_iload_n dX5_isBetter_18 rfl ?_
    refine x_jn (σ := Unit) 35 (fun s9 => [none, none, none, none]) (fun s9 => []) (fun s9 => M3) (fun s9 => ?_) (fun j35 hj35 => ?_)
    · refine x_iconst (v := 0) dX5_isBetter_35 (by decide) ?_
      exact x_weak (by exact trivial) (hj36 ((0 : Int32)))
    refine x_if_ne (tgt := 35) dX5_isBetter_19 (by decide) (fun _ => ?_) (fun _ => ?_)
    · refine x_iload_n dX5_isBetter_22 rfl ?_
      refine x_iload_n dX5_isBetter_23 rfl ?_
      refine x_iand dX5_isBetter_24 ?_
      refine x_iload_n dX5_isBetter_25 rfl ?_
      refine x_ineg dX5_isBetter_26 ?_
      refine x_iand dX5_isBetter_27 ?_
      refine x_if_eq (tgt := 35) dX5_isBetter_28 (by decide) (fun _ => ?_) (fun _ => ?_)
      · exact x_weak (by exact trivial) (hj35 ())
      · exact x_weak (by exact trivial) (hj31 ())
    · exact x_weak (by exact trivial) (hj35 ())
theorem s58 {l : Launch} {d : Nat} {rec : Nat → List Value → Mem → XA} (hS : Nonempty XS) (hs : XSnd l xmt rec d) : Snd1 l 58 (b58 rec) d := by
  intro as M r M' h0
  unfold b58 at h0
  obtain ⟨a0, l1, e1, h1⟩ := aI_inv h0
  obtain ⟨a1, l2, e2, h2⟩ := aI_inv h1
  obtain ⟨ez, h⟩ := aZ_inv h2
  subst ez
  subst e2
  subst e1
  exact xmet (M := M) (as := [.int a0, .int a1]) (lo := [some (.int a0), some (.int a1)]) 58 xq58 xm58 (by rw [xargs_i, xargs_i, xargs_nil]; exact ⟨rfl, ⟨rfl, trivial⟩⟩) (by rw [xargs_i, xargs_i, xargs_nil]; exact Nat.le_of_ble_eq_true rfl) (fun S G K => x_weak (by exact ⟨rfl, ⟨rfl, trivial⟩⟩) (k58 hs a0 a1 M)) h hS
set_option maxRecDepth 100000 in
def c59_2 (rec : Nat → List Value → Mem → XA) (a0 : Option Nat) (a1 : Int32) (M0 : Mem) (j31 : Unit → XA) (j39 : Unit → XA) : (Int32) → ((Int32) → XA) → XA := fun s3 j2 =>
  gtP (6, 18) M0 a0 14 fun x4 =>
  aln M0 x4 fun x5 =>
  if x5 ≤ s3 then (
    j39 ()) else (
    gtP (6, 18) M0 a0 14 fun x6 =>
    alI 100 M0 x6 s3 fun x7 =>
    jn (fun (s8 : Unit) =>
      lt (s3 + (1 : Int32)) fun (x9 : Int32) =>
      j2 x9) fun j33 =>
    if x7 = 0 then (
      j33 ()) else (
      gtP (6, 18) M0 a0 14 fun x10 =>
      alI 100 M0 x10 s3 fun x11 =>
      if (x11 &&& a1) = 0 then (
        j31 ()) else (
        j33 ())))
set_option maxRecDepth 100000 in
def c59 (rec : Nat → List Value → Mem → XA) (a0 : Option Nat) (a1 : Int32) (M0 : Mem) : XA :=
  jn (fun (s1 : Unit) =>
    rtZ ((0 : Int32)) M0) fun j31 =>
  jn (fun (s2 : Unit) =>
    rtZ ((1 : Int32)) M0) fun j39 =>
  lp (c59_2 rec a0 a1 M0 j31 j39) 4294967296 ((0 : Int32))
def b59 (rec : Nat → List Value → Mem → XA) (as : List Value) (M0 : Mem) : XA := aR as fun a0 as => aI as fun a1 as => aZ as (c59 rec a0 a1 M0)
set_option maxRecDepth 100000 in
set_option maxHeartbeats 4000000 in
theorem k59 {S : XS} {G : XG} {K : Nat × Nat} {l : Launch} {d : Nat} {rec : Nat → List Value → Mem → XA} (hs : XSnd l xmt rec d) (a0 : Option Nat) (a1 : Int32) (M0 : Mem) : Xe S G K l (yX5_killsAll, cX5_killsAll, 3, some .boolean) d 0 [some (va_rf a0), some (.int a1), none] [] M0 (c59 rec a0 a1 M0) := by
  unfold c59
  refine x_iconst (v := 0) dX5_killsAll_0 (by decide) ?_
  refine x_istore_n (lo' := [some (va_rf a0), some (.int a1), some (.int ((0 : Int32)))]) dX5_killsAll_1 (by decide) rfl rfl ?_
  refine x_jn (σ := Unit) 31 (fun s1 => [none, none, none]) (fun s1 => []) (fun s1 => M0) (fun s1 => ?_) (fun j31 hj31 => ?_)
  · refine x_iconst (v := 0) dX5_killsAll_31 (by decide) ?_
    exact x_zret rfl dX5_killsAll_32
  refine x_jn (σ := Unit) 39 (fun s2 => [none, none, none]) (fun s2 => []) (fun s2 => M0) (fun s2 => ?_) (fun j39 hj39 => ?_)
  · refine x_iconst (v := 1) dX5_killsAll_39 (by decide) ?_
    exact x_zret rfl dX5_killsAll_40
  refine x_weak (by exact ⟨rfl, ⟨rfl, ⟨rfl, trivial⟩⟩⟩) (x_lp (σ := Int32) 2 (fun s3 => [some (va_rf a0), some (.int a1), some (.int s3)]) (fun s3 => []) (fun s3 => M0) (fun s3 j2 hj2 => ?_) 4294967296 ((0 : Int32)))
  · refine x_iload_n dX5_killsAll_2 rfl ?_
    refine x_aload_n dX5_killsAll_3 rfl ?_
    refine gfX5_83 rfl dX5_killsAll_4 (fun x4 => ?_)
    refine x_alen dX5_killsAll_7 (fun x5 => ?_)
    refine x_icmp_ge (tgt := 39) dX5_killsAll_8 (by decide) (fun _ => ?_) (fun _ => ?_)
    · exact x_weak (by exact trivial) (hj39 ())
    · refine x_aload_n dX5_killsAll_11 rfl ?_
      refine gfX5_83 rfl dX5_killsAll_12 (fun x6 => ?_)
      refine x_iload_n dX5_killsAll_15 rfl ?_
      refine x_iald dX5_killsAll_16 (fun x7 => ?_)
      refine x_jn (σ := Unit) 33 (fun s8 => [some (va_rf a0), some (.int a1), some (.int s3)]) (fun s8 => []) (fun s8 => M0) (fun s8 => ?_) (fun j33 hj33 => ?_)
      · refine x_iincN (v := 1) (lo' := fun x9 => [some (va_rf a0), some (.int a1), some (.int x9)]) (by decide) dX5_killsAll_33 rfl (by decide) rfl (fun _ => rfl) (fun x9 => ?_)
        refine x_goto (tgt := 2) dX5_killsAll_36 (by decide) ?_
        exact x_weak (by exact ⟨rfl, ⟨rfl, ⟨rfl, trivial⟩⟩⟩) (hj2 x9)
      refine x_if_eq (tgt := 33) dX5_killsAll_17 (by decide) (fun _ => ?_) (fun _ => ?_)
      · exact x_weak (by exact ⟨rfl, ⟨rfl, ⟨rfl, trivial⟩⟩⟩) (hj33 ())
      · refine x_aload_n dX5_killsAll_20 rfl ?_
        refine gfX5_83 rfl dX5_killsAll_21 (fun x10 => ?_)
        refine x_iload_n dX5_killsAll_24 rfl ?_
        refine x_iald dX5_killsAll_25 (fun x11 => ?_)
        refine x_iload_n dX5_killsAll_26 rfl ?_
        refine x_iand dX5_killsAll_27 ?_
        refine x_if_ne (tgt := 33) dX5_killsAll_28 (by decide) (fun _ => ?_) (fun _ => ?_)
        · exact x_weak (by exact trivial) (hj31 ())
        · exact x_weak (by exact ⟨rfl, ⟨rfl, ⟨rfl, trivial⟩⟩⟩) (hj33 ())
theorem s59 {l : Launch} {d : Nat} {rec : Nat → List Value → Mem → XA} (hS : Nonempty XS) (hs : XSnd l xmt rec d) : Snd1 l 59 (b59 rec) d := by
  intro as M r M' h0
  unfold b59 at h0
  obtain ⟨a0, l1, e1, h1⟩ := aR_inv h0
  obtain ⟨a1, l2, e2, h2⟩ := aI_inv h1
  obtain ⟨ez, h⟩ := aZ_inv h2
  subst ez
  subst e2
  subst e1
  exact xmet (M := M) (as := [va_rf a0, .int a1]) (lo := [some (va_rf a0), some (.int a1)]) 59 xq59 xm59 (by rw [xargs_rf, xargs_i, xargs_nil]; exact ⟨rfl, ⟨rfl, trivial⟩⟩) (by rw [xargs_rf, xargs_i, xargs_nil]; exact Nat.le_of_ble_eq_true rfl) (fun S G K => x_weak (by exact ⟨rfl, ⟨rfl, trivial⟩⟩) (k59 hs a0 a1 M)) h hS
set_option maxRecDepth 100000 in
def c60 (rec : Nat → List Value → Mem → XA) (a0 : Option Nat) (M0 : Mem) : XA :=
  nn a0 <|
  nO (9, 8) M0 fun x1 M2 =>
  vC (9, 8) M2 x1 <|
  cV (rec 111 [va_rf x1] M2) fun M3 =>
  ptP (7, 20) M3 a0 0 x1 fun M4 =>
  nA 100 M4 ((4096 : Int32)) fun x5 M6 =>
  ptP (7, 20) M6 a0 5 x5 fun M7 =>
  nA 100 M7 ((4096 : Int32)) fun x8 M9 =>
  ptP (7, 20) M9 a0 6 x8 fun M10 =>
  nA 100 M10 ((4096 : Int32)) fun x11 M12 =>
  ptP (7, 20) M12 a0 7 x11 fun M13 =>
  nA 102 M13 ((4096 : Int32)) fun x14 M15 =>
  ptP (7, 20) M15 a0 8 x14 fun M16 =>
  nA 104 M16 ((10 : Int32)) fun x17 M18 =>
  ptP (7, 20) M18 a0 15 x17 fun M19 =>
  nAA 113 100 M19 ((6 : Int32)) ((1500 : Int32)) fun x20 M21 =>
  ptP (7, 20) M21 a0 17 x20 fun M22 =>
  nAA 114 104 M22 ((2 : Int32)) ((1500 : Int32)) fun x23 M24 =>
  ptP (7, 20) M24 a0 18 x23 fun M25 =>
  some (.null, M25)
def b60 (rec : Nat → List Value → Mem → XA) (as : List Value) (M0 : Mem) : XA := aR as fun a0 as => aZ as (c60 rec a0 M0)
set_option maxRecDepth 100000 in
set_option maxHeartbeats 4000000 in
theorem k60 {S : XS} {G : XG} {K : Nat × Nat} {l : Launch} {d : Nat} {rec : Nat → List Value → Mem → XA} (hs : XSnd l xmt rec d) (a0 : Option Nat) (M0 : Mem) : Xe S G K l (yX6_init, cX6_init, 1, none) d 0 [some (va_rf a0)] [] M0 (c60 rec a0 M0) := by
  unfold c60
  refine x_aload_n dX6_init_0 rfl ?_
  refine xoiX6 rfl (Nat.le_of_ble_eq_true rfl) dX6_init_1 ?_
  refine x_aload_n dX6_init_4 rfl ?_
  refine nwX6_9 rfl dX6_init_5 (fun x1 M2 => ?_)
  refine x_dup dX6_init_8 (xc1_r _) ?_
  refine cmX6_11 rfl hs (Nat.le_of_ble_eq_true rfl) dX6_init_9 (fun M3 => ?_)
  refine pfX6_12 rfl rfl dX6_init_12 (fun M4 => ?_)
  refine x_aload_n dX6_init_15 rfl ?_
  refine x_sipush (v := 4096) dX6_init_16 (by decide) ?_
  refine x_newa100 dX6_init_19 (fun x5 M6 => ?_)
  refine pfX6_18 rfl rfl dX6_init_21 (fun M7 => ?_)
  refine x_aload_n dX6_init_24 rfl ?_
  refine x_sipush (v := 4096) dX6_init_25 (by decide) ?_
  refine x_newa100 dX6_init_28 (fun x8 M9 => ?_)
  refine pfX6_22 rfl rfl dX6_init_30 (fun M10 => ?_)
  refine x_aload_n dX6_init_33 rfl ?_
  refine x_sipush (v := 4096) dX6_init_34 (by decide) ?_
  refine x_newa100 dX6_init_37 (fun x11 M12 => ?_)
  refine pfX6_25 rfl rfl dX6_init_39 (fun M13 => ?_)
  refine x_aload_n dX6_init_42 rfl ?_
  refine x_sipush (v := 4096) dX6_init_43 (by decide) ?_
  refine x_newa102 dX6_init_46 (fun x14 M15 => ?_)
  refine pfX6_28 rfl rfl dX6_init_48 (fun M16 => ?_)
  refine x_aload_n dX6_init_51 rfl ?_
  refine x_bipush (v := 10) dX6_init_52 (by decide) ?_
  refine x_newa104 dX6_init_54 (fun x17 M18 => ?_)
  refine pfX6_32 rfl rfl dX6_init_56 (fun M19 => ?_)
  refine x_aload_n dX6_init_59 rfl ?_
  refine x_bipush (v := 6) dX6_init_60 (by decide) ?_
  refine x_sipush (v := 1500) dX6_init_62 (by decide) ?_
  refine x_mna113 lk_classLink_X6_36 dX6_init_65 (fun x20 M21 => ?_)
  refine pfX6_38 rfl rfl dX6_init_69 (fun M22 => ?_)
  refine x_aload_n dX6_init_72 rfl ?_
  refine x_iconst (v := 2) dX6_init_73 (by decide) ?_
  refine x_sipush (v := 1500) dX6_init_74 (by decide) ?_
  refine x_mna114 lk_classLink_X6_41 dX6_init_77 (fun x23 M24 => ?_)
  refine pfX6_43 rfl rfl dX6_init_81 (fun M25 => ?_)
  exact x_vret rfl dX6_init_84
theorem s60 {l : Launch} {d : Nat} {rec : Nat → List Value → Mem → XA} (hS : Nonempty XS) (hs : XSnd l xmt rec d) : Snd1 l 60 (b60 rec) d := by
  intro as M r M' h0
  unfold b60 at h0
  obtain ⟨a0, l1, e1, h1⟩ := aR_inv h0
  obtain ⟨ez, h⟩ := aZ_inv h1
  subst ez
  subst e1
  exact xmet (M := M) (as := [va_rf a0]) (lo := [some (va_rf a0)]) 60 xq60 xm60 (by rw [xargs_rf, xargs_nil]; exact ⟨rfl, trivial⟩) (by rw [xargs_rf, xargs_nil]; exact Nat.le_of_ble_eq_true rfl) (fun S G K => x_weak (by exact ⟨rfl, trivial⟩) (k60 hs a0 M)) h hS
set_option maxRecDepth 100000 in
def c61_113 (rec : Nat → List Value → Mem → XA) (a0 : Option Nat) (j147 : Mem → XA) : (Int32 × Mem) → ((Int32 × Mem) → XA) → XA := fun s50 j113 =>
  if ((3000 : Int32)) ≤ s50.1 then (
    j147 s50.2) else (
    gtI (7, 20) s50.2 a0 13 fun x51 =>
    if x51 = ((125 : Int32)) then (
      j147 s50.2) else (
      gtI (7, 20) s50.2 a0 13 fun x52 =>
      if x52 = ((2 : Int32)) then (
        j147 s50.2) else (
        vC (7, 20) s50.2 a0 <|
        cV (rec 77 [va_rf a0] s50.2) fun M53 =>
        lt (s50.1 + (1 : Int32)) fun (x54 : Int32) =>
        j113 (x54, M53))))
set_option maxRecDepth 100000 in
def c61_86 (rec : Nat → List Value → Mem → XA) (a0 : Option Nat) (j198 : Mem → XA) : (Int32 × Mem) → ((Int32 × Mem) → XA) → XA := fun s32 j86 =>
  if ((3000 : Int32)) ≤ s32.1 then (
    j198 s32.2) else (
    jn (fun (s33 : Unit) =>
      vC (7, 20) s32.2 a0 <|
      cV (rec 76 [va_rf a0] s32.2) fun M34 =>
      jn (fun (s35 : Mem) =>
        vC (7, 20) s35 a0 <|
        cV (rec 64 [va_rf a0, .int ((125 : Int32))] s35) fun M36 =>
        gtP (7, 20) M36 a0 1 fun x37 =>
        gtP (7, 20) M36 a0 1 fun x38 =>
        vC (0, 3) M36 x38 <|
        cI (rec 346 [va_rf x38] M36) fun x40 M39 =>
        vC (0, 3) M39 x37 <|
        cP (rec 348 [va_rf x37, .int (x40 - ((1 : Int32)))] M39) fun x42 M41 =>
        cst (11, 10) M41 x42 <|
        gtP (7, 20) M41 a0 2 fun x43 =>
        vC (0, 3) M41 x43 <|
        cI (rec 346 [va_rf x43] M41) fun x45 M44 =>
        ptI (11, 10) M44 x42 2 x45 fun M46 =>
        gtI (7, 20) M46 a0 9 fun x47 =>
        ptI (11, 10) M46 x42 4 x47 fun M48 =>
        lt (s32.1 + (1 : Int32)) fun (x49 : Int32) =>
        j86 (x49, M48)) fun j147 =>
      lp (c61_113 rec a0 j147) 4294967296 ((0 : Int32), M34)) fun j107 =>
    if s32.1 = 0 then (
      j107 ()) else (
      gtI (7, 20) s32.2 a0 13 fun x55 =>
      if x55 = ((200 : Int32)) then (
        j107 ()) else (
        j198 s32.2)))
set_option maxRecDepth 100000 in
def c61 (rec : Nat → List Value → Mem → XA) (a0 : Option Nat) (M0 : Mem) : XA :=
  nO (0, 3) M0 fun x1 M2 =>
  vC (0, 3) M2 x1 <|
  cV (rec 343 [va_rf x1] M2) fun M3 =>
  ptP (7, 20) M3 a0 1 x1 fun M4 =>
  nO (0, 3) M4 fun x5 M6 =>
  vC (0, 3) M6 x5 <|
  cV (rec 343 [va_rf x5] M6) fun M7 =>
  ptP (7, 20) M7 a0 2 x5 fun M8 =>
  nO (0, 3) M8 fun x9 M10 =>
  vC (0, 3) M10 x9 <|
  cV (rec 343 [va_rf x9] M10) fun M11 =>
  ptP (7, 20) M11 a0 3 x9 fun M12 =>
  nO (0, 3) M12 fun x13 M14 =>
  vC (0, 3) M14 x13 <|
  cV (rec 343 [va_rf x13] M14) fun M15 =>
  ptP (7, 20) M15 a0 4 x13 fun M16 =>
  ptI (7, 20) M16 a0 9 ((0 : Int32)) fun M17 =>
  ptI (7, 20) M17 a0 10 ((0 : Int32)) fun M18 =>
  ptI (7, 20) M18 a0 19 ((0 : Int32)) fun M19 =>
  gtP (7, 20) M19 a0 0 fun x20 =>
  vC (9, 8) M19 x20 <|
  cV (rec 113 [va_rf x20] M19) fun M21 =>
  ptI (7, 20) M21 a0 12 ((0 : Int32)) fun M22 =>
  gtP (7, 20) M22 a0 0 fun x23 =>
  gtP (9, 8) M22 x23 2 fun x24 =>
  alI 100 M22 x24 ((0 : Int32)) fun x25 =>
  ptI (7, 20) M22 a0 13 x25 fun M26 =>
  jn (fun (s27 : Mem) =>
    gtI (7, 20) s27 a0 13 fun x28 =>
    jn (fun (s29 : Mem) =>
      vC (7, 20) s29 a0 <|
      cV (rec 107 [va_rf a0] s29) fun M30 =>
      some (.null, M30)) fun j210 =>
    if x28 = 0 then (
      j210 s27) else (
      vC (7, 20) s27 a0 <|
      cV (rec 62 [va_rf a0, .int ((2 : Int32))] s27) fun M31 =>
      j210 M31)) fun j198 =>
  lp (c61_86 rec a0 j198) 4294967296 ((0 : Int32), M26)
def b61 (rec : Nat → List Value → Mem → XA) (as : List Value) (M0 : Mem) : XA := aR as fun a0 as => aZ as (c61 rec a0 M0)
set_option maxRecDepth 100000 in
set_option maxHeartbeats 4000000 in
theorem k61 {S : XS} {G : XG} {K : Nat × Nat} {l : Launch} {d : Nat} {rec : Nat → List Value → Mem → XA} (hs : XSnd l xmt rec d) (a0 : Option Nat) (M0 : Mem) : Xe S G K l (yX6_read, cX6_read, 3, none) d 0 [some (va_rf a0), none, none] [] M0 (c61 rec a0 M0) := by
  unfold c61
  refine x_aload_n dX6_read_0 rfl ?_
  refine nwX6_46 rfl dX6_read_1 (fun x1 M2 => ?_)
  refine x_dup dX6_read_4 (xc1_r _) ?_
  refine cmX6_48 rfl hs (Nat.le_of_ble_eq_true rfl) dX6_read_5 (fun M3 => ?_)
  refine pfX6_49 rfl dX6_read_8 (fun M4 => ?_)
  refine x_aload_n dX6_read_11 rfl ?_
  refine nwX6_46 rfl dX6_read_12 (fun x5 M6 => ?_)
  refine x_dup dX6_read_15 (xc1_r _) ?_
  refine cmX6_48 rfl hs (Nat.le_of_ble_eq_true rfl) dX6_read_16 (fun M7 => ?_)
  refine pfX6_53 rfl dX6_read_19 (fun M8 => ?_)
  refine x_aload_n dX6_read_22 rfl ?_
  refine nwX6_46 rfl dX6_read_23 (fun x9 M10 => ?_)
  refine x_dup dX6_read_26 (xc1_r _) ?_
  refine cmX6_48 rfl hs (Nat.le_of_ble_eq_true rfl) dX6_read_27 (fun M11 => ?_)
  refine pfX6_56 rfl dX6_read_30 (fun M12 => ?_)
  refine x_aload_n dX6_read_33 rfl ?_
  refine nwX6_46 rfl dX6_read_34 (fun x13 M14 => ?_)
  refine x_dup dX6_read_37 (xc1_r _) ?_
  refine cmX6_48 rfl hs (Nat.le_of_ble_eq_true rfl) dX6_read_38 (fun M15 => ?_)
  refine pfX6_59 rfl dX6_read_41 (fun M16 => ?_)
  refine x_aload_n dX6_read_44 rfl ?_
  refine x_iconst (v := 0) dX6_read_45 (by decide) ?_
  refine pfX6_62 rfl dX6_read_46 (fun M17 => ?_)
  refine x_aload_n dX6_read_49 rfl ?_
  refine x_iconst (v := 0) dX6_read_50 (by decide) ?_
  refine pfX6_66 rfl dX6_read_51 (fun M18 => ?_)
  refine x_aload_n dX6_read_54 rfl ?_
  refine x_iconst (v := 0) dX6_read_55 (by decide) ?_
  refine pfX6_69 rfl dX6_read_56 (fun M19 => ?_)
  refine x_aload_n dX6_read_59 rfl ?_
  refine gfX6_12 rfl dX6_read_60 (fun x20 => ?_)
  refine cmX6_72 rfl hs (Nat.le_of_ble_eq_true rfl) dX6_read_63 (fun M21 => ?_)
  refine x_aload_n dX6_read_66 rfl ?_
  refine x_iconst (v := 0) dX6_read_67 (by decide) ?_
  refine pfX6_75 rfl dX6_read_68 (fun M22 => ?_)
  refine x_aload_n dX6_read_71 rfl ?_
  refine x_aload_n dX6_read_72 rfl ?_
  refine gfX6_12 rfl dX6_read_73 (fun x23 => ?_)
  refine gfX6_78 rfl dX6_read_76 (fun x24 => ?_)
  refine x_iconst (v := 0) dX6_read_79 (by decide) ?_
  refine x_iald dX6_read_80 (fun x25 => ?_)
  refine pfX6_81 rfl dX6_read_81 (fun M26 => ?_)
  refine x_iconst (v := 0) dX6_read_84 (by decide) ?_
  refine x_istore_n (lo' := [some (va_rf a0), some (.int ((0 : Int32))), none]) dX6_read_85 (by decide) (xok_r rfl) rfl ?_
  refine x_jn (σ := Mem) 198 (fun s27 => [some (va_rf a0), none, none]) (fun s27 => []) (fun s27 => s27) (fun s27 => ?_) (fun j198 hj198 => ?_)
  · refine x_aload_n dX6_read_198 rfl ?_
    refine gfX6_81 rfl dX6_read_199 (fun x28 => ?_)
    refine x_jn (σ := Mem) 210 (fun s29 => [some (va_rf a0), none, none]) (fun s29 => []) (fun s29 => s29) (fun s29 => ?_) (fun j210 hj210 => ?_)
    · refine x_aload_n dX6_read_210 rfl ?_
      refine cmX6_112 rfl hs (Nat.le_of_ble_eq_true rfl) dX6_read_211 (fun M30 => ?_)
      exact x_vret rfl dX6_read_214
    refine x_if_eq (tgt := 210) dX6_read_202 (by decide) (fun _ => ?_) (fun _ => ?_)
    · exact x_weak (by exact ⟨rfl, trivial⟩) (hj210 s27)
    · refine x_aload_n dX6_read_205 rfl ?_
      refine x_iconst (v := 2) dX6_read_206 (by decide) ?_
      refine cmX6_109 rfl hs (Nat.le_of_ble_eq_true rfl) dX6_read_207 (fun M31 => ?_)
      exact x_weak (by exact ⟨rfl, trivial⟩) (hj210 M31)
  refine x_weak (by exact ⟨rfl, ⟨rfl, trivial⟩⟩) (x_lp (σ := Int32 × Mem) 86 (fun s32 => [some (va_rf a0), some (.int s32.1), none]) (fun s32 => []) (fun s32 => s32.2) (fun s32 j86 hj86 => ?_) 4294967296 ((0 : Int32), M26))
  · refine x_iload_n dX6_read_86 rfl ?_
    refine x_sipush (v := 3000) dX6_read_87 (by decide) ?_
    refine x_icmp_ge (tgt := 198) dX6_read_90 (by decide) (fun _ => ?_) (fun _ => ?_)
    · exact x_weak (by exact ⟨rfl, trivial⟩) (hj198 s32.2)
    · refine x_iload_n dX6_read_93 rfl ?_
      refine x_jn (σ := Unit) 107 (fun s33 => [some (va_rf a0), some (.int s32.1), none]) (fun s33 => []) (fun s33 => s32.2) (fun s33 => ?_) (fun j107 hj107 => ?_)
      · refine x_aload_n dX6_read_107 rfl ?_
        refine cmX6_84 rfl hs (Nat.le_of_ble_eq_true rfl) dX6_read_108 (fun M34 => ?_)
        refine x_iconst (v := 0) dX6_read_111 (by decide) ?_
        refine x_istore_n (lo' := [some (va_rf a0), some (.int s32.1), some (.int ((0 : Int32)))]) dX6_read_112 (by decide) rfl rfl ?_
        refine x_jn (σ := Mem) 147 (fun s35 => [some (va_rf a0), some (.int s32.1), none]) (fun s35 => []) (fun s35 => s35) (fun s35 => ?_) (fun j147 hj147 => ?_)
        · refine x_aload_n dX6_read_147 rfl ?_
          refine x_bipush (v := 125) dX6_read_148 (by decide) ?_
          refine cmX6_90 rfl hs (Nat.le_of_ble_eq_true rfl) dX6_read_150 (fun M36 => ?_)
          refine x_aload_n dX6_read_153 rfl ?_
          refine gfX6_49 rfl dX6_read_154 (fun x37 => ?_)
          refine x_aload_n dX6_read_157 rfl ?_
          refine gfX6_49 rfl dX6_read_158 (fun x38 => ?_)
          refine cmX6_94 rfl hs (Nat.le_of_ble_eq_true rfl) dX6_read_161 (fun x40 M39 => ?_)
          refine x_iconst (v := 1) dX6_read_164 (by decide) ?_
          refine x_isub dX6_read_165 ?_
          refine cmX6_97 rfl hs (Nat.le_of_ble_eq_true rfl) dX6_read_166 (fun x42 M41 => ?_)
          refine ccX6_101 rfl dX6_read_169 ?_
          refine x_astore_n (lo' := [some (va_rf a0), some (.int s32.1), some (va_rf x42)]) dX6_read_172 (by decide) rfl rfl ?_
          refine x_aload_n dX6_read_173 rfl ?_
          refine x_aload_n dX6_read_174 rfl ?_
          refine gfX6_53 rfl dX6_read_175 (fun x43 => ?_)
          refine cmX6_94 rfl hs (Nat.le_of_ble_eq_true rfl) dX6_read_178 (fun x45 M44 => ?_)
          refine pfX6_103 rfl dX6_read_181 (fun M46 => ?_)
          refine x_aload_n dX6_read_184 rfl ?_
          refine x_aload_n dX6_read_185 rfl ?_
          refine gfX6_62 rfl dX6_read_186 (fun x47 => ?_)
          refine pfX6_106 rfl dX6_read_189 (fun M48 => ?_)
          refine x_iincN (v := 1) (lo' := fun x49 => [some (va_rf a0), some (.int x49), some (va_rf x42)]) (by decide) dX6_read_192 rfl (by decide) (xok_r rfl) (fun _ => rfl) (fun x49 => ?_)
          refine x_goto (tgt := 86) dX6_read_195 (by decide) ?_
          exact x_weak (by exact ⟨rfl, ⟨rfl, trivial⟩⟩) (hj86 (x49, M48))
        refine x_weak (by exact ⟨rfl, ⟨rfl, ⟨rfl, trivial⟩⟩⟩) (x_lp (σ := Int32 × Mem) 113 (fun s50 => [some (va_rf a0), some (.int s32.1), some (.int s50.1)]) (fun s50 => []) (fun s50 => s50.2) (fun s50 j113 hj113 => ?_) 4294967296 ((0 : Int32), M34))
        · refine x_iload_n dX6_read_113 rfl ?_
          refine x_sipush (v := 3000) dX6_read_114 (by decide) ?_
          refine x_icmp_ge (tgt := 147) dX6_read_117 (by decide) (fun _ => ?_) (fun _ => ?_)
          · exact x_weak (by exact ⟨rfl, ⟨rfl, trivial⟩⟩) (hj147 s50.2)
          · refine x_aload_n dX6_read_120 rfl ?_
            refine gfX6_81 rfl dX6_read_121 (fun x51 => ?_)
            refine x_bipush (v := 125) dX6_read_124 (by decide) ?_
            refine x_icmp_eq (tgt := 147) dX6_read_126 (by decide) (fun _ => ?_) (fun _ => ?_)
            · exact x_weak (by exact ⟨rfl, ⟨rfl, trivial⟩⟩) (hj147 s50.2)
            · refine x_aload_n dX6_read_129 rfl ?_
              refine gfX6_81 rfl dX6_read_130 (fun x52 => ?_)
              refine x_iconst (v := 2) dX6_read_133 (by decide) ?_
              refine x_icmp_eq (tgt := 147) dX6_read_134 (by decide) (fun _ => ?_) (fun _ => ?_)
              · exact x_weak (by exact ⟨rfl, ⟨rfl, trivial⟩⟩) (hj147 s50.2)
              · refine x_aload_n dX6_read_137 rfl ?_
                refine cmX6_87 rfl hs (Nat.le_of_ble_eq_true rfl) dX6_read_138 (fun M53 => ?_)
                refine x_iincN (v := 1) (lo' := fun x54 => [some (va_rf a0), some (.int s32.1), some (.int x54)]) (by decide) dX6_read_141 rfl (by decide) rfl (fun _ => rfl) (fun x54 => ?_)
                refine x_goto (tgt := 113) dX6_read_144 (by decide) ?_
                exact x_weak (by exact ⟨rfl, ⟨rfl, ⟨rfl, trivial⟩⟩⟩) (hj113 (x54, M53))
      refine x_if_eq (tgt := 107) dX6_read_94 (by decide) (fun _ => ?_) (fun _ => ?_)
      · exact x_weak (by exact ⟨rfl, ⟨rfl, trivial⟩⟩) (hj107 ())
      · refine x_aload_n dX6_read_97 rfl ?_
        refine gfX6_81 rfl dX6_read_98 (fun x55 => ?_)
        refine x_sipush (v := 200) dX6_read_101 (by decide) ?_
        refine x_icmp_ne (tgt := 198) dX6_read_104 (by decide) (fun _ => ?_) (fun _ => ?_)
        · exact x_weak (by exact ⟨rfl, ⟨rfl, trivial⟩⟩) (hj107 ())
        · exact x_weak (by exact ⟨rfl, trivial⟩) (hj198 s32.2)
theorem s61 {l : Launch} {d : Nat} {rec : Nat → List Value → Mem → XA} (hS : Nonempty XS) (hs : XSnd l xmt rec d) : Snd1 l 61 (b61 rec) d := by
  intro as M r M' h0
  unfold b61 at h0
  obtain ⟨a0, l1, e1, h1⟩ := aR_inv h0
  obtain ⟨ez, h⟩ := aZ_inv h1
  subst ez
  subst e1
  exact xmet (M := M) (as := [va_rf a0]) (lo := [some (va_rf a0)]) 61 xq61 xm61 (by rw [xargs_rf, xargs_nil]; exact ⟨rfl, trivial⟩) (by rw [xargs_rf, xargs_nil]; exact Nat.le_of_ble_eq_true rfl) (fun S G K => x_weak (by exact ⟨rfl, trivial⟩) (k61 hs a0 M)) h hS
