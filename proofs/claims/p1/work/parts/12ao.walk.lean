set_option maxRecDepth 100000 in
def c221 (rec : Nat → List Value → Mem → XA) (a0 : Option Nat) (a1 : Int32) (M0 : Mem) : XA :=
  gtI (13, 157) M0 a0 36 fun x1 =>
  jn (fun (s2 : Int32) =>
    jn (fun (s3 : Mem) =>
      gtI (13, 157) s3 a0 41 fun x4 =>
      if x4 = 0 then (
        gtI (13, 157) s3 a0 36 fun x5 =>
        cI (rec 184 [.int x5, .int ((403 : Int32)), .int ((407 : Int32))] s3) fun x7 M6 =>
        jn (fun (s8 : Mem) =>
          some (.null, s8)) fun j340 =>
        if x7 = 0 then (
          jn (fun (s9 : Int32 × Mem) =>
            vC (13, 157) s9.2 a0 <|
            cI (rec 193 [va_rf a0, .int s9.1] s9.2) fun x11 M10 =>
            if x11 = 0 then (
              j340 M10) else (
              gtI (13, 157) M10 a0 36 fun x12 =>
              gtI (13, 157) M10 a0 49 fun x13 =>
              lt ((((8 : Int32)) * a1) + x13) fun (x14 : Int32) =>
              ptI (13, 157) M10 a0 51 ((0 : Int32)) fun M15 =>
              if x12 = ((408 : Int32)) then (
                gtP (13, 157) M15 a0 5 fun x16 =>
                alI 100 M15 x16 x14 fun x17 =>
                jn (fun (s18 : Int32) =>
                  vC (13, 157) M15 a0 <|
                  cI (rec 194 [va_rf a0, .int s18, .int ((6 : Int32))] M15) fun x20 M19 =>
                  if x20 = 0 then (
                    j340 M19) else (
                    vC (13, 157) M19 a0 <|
                    cV (rec 191 [va_rf a0] M19) fun M21 =>
                    gtP (13, 157) M21 a0 5 fun x22 =>
                    gtI (13, 157) M21 a0 43 fun x23 =>
                    asI 100 M21 x22 x14 x23 fun M24 =>
                    vC (13, 157) M24 a0 <|
                    cI (rec 218 [va_rf a0, .int ((1 : Int32))] M24) fun x26 M25 =>
                    j340 M25)) fun j143 =>
                if 0 ≤ x17 then (
                  j143 ((0 : Int32))) else (
                  j143 ((1 : Int32)))) else (
                if x12 = ((409 : Int32)) then (
                  gtP (13, 157) M15 a0 6 fun x27 =>
                  alI 100 M15 x27 x14 fun x28 =>
                  jn (fun (s29 : Int32) =>
                    vC (13, 157) M15 a0 <|
                    cI (rec 194 [va_rf a0, .int s29, .int ((6 : Int32))] M15) fun x31 M30 =>
                    if x31 = 0 then (
                      j340 M30) else (
                      vC (13, 157) M30 a0 <|
                      cV (rec 191 [va_rf a0] M30) fun M32 =>
                      gtP (13, 157) M32 a0 7 fun x33 =>
                      gtP (13, 157) M32 a0 6 fun x34 =>
                      alI 100 M32 x34 x14 fun x35 =>
                      vC (13, 157) M32 a0 <|
                      cI (rec 218 [va_rf a0, .int ((0 : Int32))] M32) fun x37 M36 =>
                      asI 100 M36 x33 ((((3 : Int32)) * x14) + x35) x37 fun M38 =>
                      gtP (13, 157) M38 a0 6 fun x39 =>
                      alI 100 M38 x39 x14 fun x40 =>
                      asI 100 M38 x39 x14 ((x40 + ((1 : Int32)))) fun M41 =>
                      j340 M41)) fun j200 =>
                  if ((3 : Int32)) ≤ x28 then (
                    j200 ((0 : Int32))) else (
                    j200 ((1 : Int32)))) else (
                  if x12 = ((410 : Int32)) then (
                    gtP (13, 157) M15 a0 8 fun x42 =>
                    alI 100 M15 x42 x14 fun x43 =>
                    jn (fun (s44 : Int32) =>
                      vC (13, 157) M15 a0 <|
                      cI (rec 194 [va_rf a0, .int s44, .int ((6 : Int32))] M15) fun x46 M45 =>
                      if x46 = 0 then (
                        j340 M45) else (
                        vC (13, 157) M45 a0 <|
                        cV (rec 191 [va_rf a0] M45) fun M47 =>
                        gtP (13, 157) M47 a0 9 fun x48 =>
                        gtP (13, 157) M47 a0 8 fun x49 =>
                        alI 100 M47 x49 x14 fun x50 =>
                        vC (13, 157) M47 a0 <|
                        cI (rec 218 [va_rf a0, .int ((0 : Int32))] M47) fun x52 M51 =>
                        asI 100 M51 x48 ((((3 : Int32)) * x14) + x50) x52 fun M53 =>
                        gtP (13, 157) M53 a0 8 fun x54 =>
                        alI 100 M53 x54 x14 fun x55 =>
                        asI 100 M53 x54 x14 ((x55 + ((1 : Int32)))) fun M56 =>
                        j340 M56)) fun j272 =>
                    if ((3 : Int32)) ≤ x43 then (
                      j272 ((0 : Int32))) else (
                      j272 ((1 : Int32)))) else (
                    if x12 = ((411 : Int32)) then (
                      vC (13, 157) M15 a0 <|
                      cV (rec 225 [va_rf a0, .int a1] M15) fun M57 =>
                      j340 M57) else (
                      vC (13, 157) M15 a0 <|
                      cV (rec 226 [va_rf a0, .int a1] M15) fun M58 =>
                      j340 M58)))))) fun j93 =>
          jn (fun (s59 : Mem) =>
            j93 ((0 : Int32), s59)) fun j92 =>
          if s2 = 0 then (
            gtI (13, 157) M6 a0 36 fun x60 =>
            cI (rec 184 [.int x60, .int ((408 : Int32)), .int ((411 : Int32))] M6) fun x62 M61 =>
            jn (fun (s63 : Unit) =>
              j93 ((1 : Int32), M61)) fun j88 =>
            if x62 = 0 then (
              gtI (13, 157) M61 a0 36 fun x64 =>
              if x64 = ((415 : Int32)) then (
                j88 ()) else (
                j92 M61)) else (
              j88 ())) else (
            j92 M6)) else (
          vC (13, 157) M6 a0 <|
          cV (rec 222 [va_rf a0, .int a1, .int s2] M6) fun M65 =>
          j340 M65)) else (
        some (.null, s3))) fun j24 =>
    if s2 = 0 then (
      j24 M0) else (
      vC (13, 157) M0 a0 <|
      cV (rec 191 [va_rf a0] M0) fun M66 =>
      j24 M66)) fun j15 =>
  if x1 = ((402 : Int32)) then (
    j15 ((1 : Int32))) else (
    j15 ((0 : Int32)))
def b221 (rec : Nat → List Value → Mem → XA) (as : List Value) (M0 : Mem) : XA := aR as fun a0 as => aI as fun a1 as => aZ as (c221 rec a0 a1 M0)
set_option maxRecDepth 100000 in
set_option maxHeartbeats 4000000 in
theorem k221 {S : XS} {G : XG} {K : Nat × Nat} {l : Launch} {d : Nat} {rec : Nat → List Value → Mem → XA} (hs : XSnd l xmt rec d) (a0 : Option Nat) (a1 : Int32) (M0 : Mem) : Xe S G K l (yX12_member, cX12_member, 6, none) d 0 [some (va_rf a0), some (.int a1), none, none, none, none] [] M0 (c221 rec a0 a1 M0) := by
  unfold c221
  refine x_aload_n dX12_member_0 rfl ?_
  refine gfX12_408 rfl dX12_member_1 (fun x1 => ?_)
  refine x_sipush (v := 402) dX12_member_4 (by decide) ?_
  refine x_jn (σ := Int32) 15 (fun s2 => [some (va_rf a0), some (.int a1), none, none, none, none]) (fun s2 => [.int s2]) (fun s2 => M0) (fun s2 => ?_) (fun j15 hj15 => ?_)
  · refine x_istore_n (lo' := [some (va_rf a0), some (.int a1), some (.int s2), none, none, none]) dX12_member_15 (by decide) rfl rfl ?_
    refine x_iload_n dX12_member_16 rfl ?_
    refine x_jn (σ := Mem) 24 (fun s3 => [some (va_rf a0), some (.int a1), some (.int s2), none, none, none]) (fun s3 => []) (fun s3 => s3) (fun s3 => ?_) (fun j24 hj24 => ?_)
    · refine x_aload_n dX12_member_24 rfl ?_
      refine gfX12_395 rfl dX12_member_25 (fun x4 => ?_)
      refine x_if_eq (tgt := 32) dX12_member_28 (by decide) (fun _ => ?_) (fun _ => ?_)
      · refine x_aload_n dX12_member_32 rfl ?_
        refine gfX12_408 rfl dX12_member_33 (fun x5 => ?_)
        refine x_sipush (v := 403) dX12_member_36 (by decide) ?_
        refine x_sipush (v := 407) dX12_member_39 (by decide) ?_
        refine cmX12_381 rfl hs (Nat.le_of_ble_eq_true rfl) dX12_member_42 (fun x7 M6 => ?_)
        refine x_jn (σ := Mem) 340 (fun s8 => [none, none, none, none, none, none]) (fun s8 => []) (fun s8 => s8) (fun s8 => ?_) (fun j340 hj340 => ?_)
        · exact x_vret rfl dX12_member_340
        refine x_if_eq (tgt := 57) dX12_member_45 (by decide) (fun _ => ?_) (fun _ => ?_)
        · refine x_aload_n dX12_member_57 rfl ?_
          refine x_iload_n dX12_member_58 rfl ?_
          refine x_jn (σ := Int32 × Mem) 93 (fun s9 => [some (va_rf a0), some (.int a1), none, none, none, none]) (fun s9 => [.int s9.1, va_rf a0]) (fun s9 => s9.2) (fun s9 => ?_) (fun j93 hj93 => ?_)
          · refine cmX12_432 rfl hs (Nat.le_of_ble_eq_true rfl) dX12_member_93 (fun x11 M10 => ?_)
            refine x_if_eq (tgt := 340) dX12_member_96 (by decide) (fun _ => ?_) (fun _ => ?_)
            · exact x_weak (by exact trivial) (hj340 M10)
            · refine x_aload_n dX12_member_99 rfl ?_
              refine gfX12_408 rfl dX12_member_100 (fun x12 => ?_)
              refine x_istore_n (lo' := [some (va_rf a0), some (.int a1), none, some (.int x12), none, none]) dX12_member_103 (by decide) rfl rfl ?_
              refine x_bipush (v := 8) dX12_member_104 (by decide) ?_
              refine x_iload_n dX12_member_106 rfl ?_
              refine x_imul dX12_member_107 ?_
              refine x_aload_n dX12_member_108 rfl ?_
              refine gfX12_442 rfl dX12_member_109 (fun x13 => ?_)
              refine x_iadd dX12_member_112 ?_
              refine x_ltI (fun x14 => ?_)
              refine x_istore (lo' := [some (va_rf a0), some (.int a1), none, some (.int x12), some (.int x14), none]) dX12_member_113 (by decide) rfl rfl ?_
              refine x_aload_n dX12_member_115 rfl ?_
              refine x_iconst (v := 0) dX12_member_116 (by decide) ?_
              refine pfX12_448 rfl dX12_member_117 (fun M15 => ?_)
              refine x_iload_n dX12_member_120 rfl ?_
              refine x_sipush (v := 408) dX12_member_121 (by decide) ?_
              refine x_icmp_ne (tgt := 176) dX12_member_124 (by decide) (fun _ => ?_) (fun _ => ?_)
              · refine x_aload_n dX12_member_127 rfl ?_
                refine x_aload_n dX12_member_128 rfl ?_
                refine gfX12_21 rfl dX12_member_129 (fun x16 => ?_)
                refine x_iload dX12_member_132 rfl ?_
                refine x_iald dX12_member_134 (fun x17 => ?_)
                refine x_jn (σ := Int32) 143 (fun s18 => [some (va_rf a0), none, none, none, some (.int x14), none]) (fun s18 => [.int s18, va_rf a0]) (fun s18 => M15) (fun s18 => ?_) (fun j143 hj143 => ?_)
                · refine x_bipush (v := 6) dX12_member_143 (by decide) ?_
                  refine cmX12_455 rfl hs (Nat.le_of_ble_eq_true rfl) dX12_member_145 (fun x20 M19 => ?_)
                  refine x_if_eq (tgt := 340) dX12_member_148 (by decide) (fun _ => ?_) (fun _ => ?_)
                  · exact x_weak (by exact trivial) (hj340 M19)
                  · refine x_aload_n dX12_member_151 rfl ?_
                    refine cmX12_436 rfl hs (Nat.le_of_ble_eq_true rfl) dX12_member_152 (fun M21 => ?_)
                    refine x_aload_n dX12_member_155 rfl ?_
                    refine gfX12_21 rfl dX12_member_156 (fun x22 => ?_)
                    refine x_iload dX12_member_159 rfl ?_
                    refine x_aload_n dX12_member_161 rfl ?_
                    refine gfX12_439 rfl dX12_member_162 (fun x23 => ?_)
                    refine x_iast dX12_member_165 (fun M24 => ?_)
                    refine x_aload_n dX12_member_166 rfl ?_
                    refine x_iconst (v := 1) dX12_member_167 (by decide) ?_
                    refine cmX12_543 rfl hs (Nat.le_of_ble_eq_true rfl) dX12_member_168 (fun x26 M25 => ?_)
                    refine x_istore (lo' := [some (va_rf a0), none, none, none, some (.int x14), some (.int x26)]) dX12_member_171 (by decide) rfl rfl ?_
                    refine x_goto (tgt := 340) dX12_member_173 (by decide) ?_
                    exact x_weak (by exact trivial) (hj340 M25)
                refine x_if_ge (tgt := 142) dX12_member_135 (by decide) (fun _ => ?_) (fun _ => ?_)
                · refine x_iconst (v := 0) dX12_member_142 (by decide) ?_
                  exact x_weak (by exact ⟨rfl, ⟨rfl, trivial⟩⟩) (hj143 ((0 : Int32)))
                · refine x_iconst (v := 1) dX12_member_138 (by decide) ?_
                  refine x_goto (tgt := 143) dX12_member_139 (by decide) ?_
                  exact x_weak (by exact ⟨rfl, ⟨rfl, trivial⟩⟩) (hj143 ((1 : Int32)))
              · refine x_iload_n dX12_member_176 rfl ?_
                refine x_sipush (v := 409) dX12_member_177 (by decide) ?_
                refine x_icmp_ne (tgt := 248) dX12_member_180 (by decide) (fun _ => ?_) (fun _ => ?_)
                · refine x_aload_n dX12_member_183 rfl ?_
                  refine x_aload_n dX12_member_184 rfl ?_
                  refine gfX12_24 rfl dX12_member_185 (fun x27 => ?_)
                  refine x_iload dX12_member_188 rfl ?_
                  refine x_iald dX12_member_190 (fun x28 => ?_)
                  refine x_iconst (v := 3) dX12_member_191 (by decide) ?_
                  refine x_jn (σ := Int32) 200 (fun s29 => [some (va_rf a0), none, none, none, some (.int x14), none]) (fun s29 => [.int s29, va_rf a0]) (fun s29 => M15) (fun s29 => ?_) (fun j200 hj200 => ?_)
                  · refine x_bipush (v := 6) dX12_member_200 (by decide) ?_
                    refine cmX12_455 rfl hs (Nat.le_of_ble_eq_true rfl) dX12_member_202 (fun x31 M30 => ?_)
                    refine x_if_eq (tgt := 340) dX12_member_205 (by decide) (fun _ => ?_) (fun _ => ?_)
                    · exact x_weak (by exact trivial) (hj340 M30)
                    · refine x_aload_n dX12_member_208 rfl ?_
                      refine cmX12_436 rfl hs (Nat.le_of_ble_eq_true rfl) dX12_member_209 (fun M32 => ?_)
                      refine x_aload_n dX12_member_212 rfl ?_
                      refine gfX12_27 rfl dX12_member_213 (fun x33 => ?_)
                      refine x_iconst (v := 3) dX12_member_216 (by decide) ?_
                      refine x_iload dX12_member_217 rfl ?_
                      refine x_imul dX12_member_219 ?_
                      refine x_aload_n dX12_member_220 rfl ?_
                      refine gfX12_24 rfl dX12_member_221 (fun x34 => ?_)
                      refine x_iload dX12_member_224 rfl ?_
                      refine x_iald dX12_member_226 (fun x35 => ?_)
                      refine x_iadd dX12_member_227 ?_
                      refine x_aload_n dX12_member_228 rfl ?_
                      refine x_iconst (v := 0) dX12_member_229 (by decide) ?_
                      refine cmX12_543 rfl hs (Nat.le_of_ble_eq_true rfl) dX12_member_230 (fun x37 M36 => ?_)
                      refine x_iast dX12_member_233 (fun M38 => ?_)
                      refine x_aload_n dX12_member_234 rfl ?_
                      refine gfX12_24 rfl dX12_member_235 (fun x39 => ?_)
                      refine x_iload dX12_member_238 rfl ?_
                      refine x_dup2 dX12_member_240 (xc1_i _) (xc1_r _) ?_
                      refine x_iald dX12_member_241 (fun x40 => ?_)
                      refine x_iconst (v := 1) dX12_member_242 (by decide) ?_
                      refine x_iadd dX12_member_243 ?_
                      refine x_iast dX12_member_244 (fun M41 => ?_)
                      refine x_goto (tgt := 340) dX12_member_245 (by decide) ?_
                      exact x_weak (by exact trivial) (hj340 M41)
                  refine x_icmp_ge (tgt := 199) dX12_member_192 (by decide) (fun _ => ?_) (fun _ => ?_)
                  · refine x_iconst (v := 0) dX12_member_199 (by decide) ?_
                    exact x_weak (by exact ⟨rfl, ⟨rfl, trivial⟩⟩) (hj200 ((0 : Int32)))
                  · refine x_iconst (v := 1) dX12_member_195 (by decide) ?_
                    refine x_goto (tgt := 200) dX12_member_196 (by decide) ?_
                    exact x_weak (by exact ⟨rfl, ⟨rfl, trivial⟩⟩) (hj200 ((1 : Int32)))
                · refine x_iload_n dX12_member_248 rfl ?_
                  refine x_sipush (v := 410) dX12_member_249 (by decide) ?_
                  refine x_icmp_ne (tgt := 320) dX12_member_252 (by decide) (fun _ => ?_) (fun _ => ?_)
                  · refine x_aload_n dX12_member_255 rfl ?_
                    refine x_aload_n dX12_member_256 rfl ?_
                    refine gfX12_30 rfl dX12_member_257 (fun x42 => ?_)
                    refine x_iload dX12_member_260 rfl ?_
                    refine x_iald dX12_member_262 (fun x43 => ?_)
                    refine x_iconst (v := 3) dX12_member_263 (by decide) ?_
                    refine x_jn (σ := Int32) 272 (fun s44 => [some (va_rf a0), none, none, none, some (.int x14), none]) (fun s44 => [.int s44, va_rf a0]) (fun s44 => M15) (fun s44 => ?_) (fun j272 hj272 => ?_)
                    · refine x_bipush (v := 6) dX12_member_272 (by decide) ?_
                      refine cmX12_455 rfl hs (Nat.le_of_ble_eq_true rfl) dX12_member_274 (fun x46 M45 => ?_)
                      refine x_if_eq (tgt := 340) dX12_member_277 (by decide) (fun _ => ?_) (fun _ => ?_)
                      · exact x_weak (by exact trivial) (hj340 M45)
                      · refine x_aload_n dX12_member_280 rfl ?_
                        refine cmX12_436 rfl hs (Nat.le_of_ble_eq_true rfl) dX12_member_281 (fun M47 => ?_)
                        refine x_aload_n dX12_member_284 rfl ?_
                        refine gfX12_33 rfl dX12_member_285 (fun x48 => ?_)
                        refine x_iconst (v := 3) dX12_member_288 (by decide) ?_
                        refine x_iload dX12_member_289 rfl ?_
                        refine x_imul dX12_member_291 ?_
                        refine x_aload_n dX12_member_292 rfl ?_
                        refine gfX12_30 rfl dX12_member_293 (fun x49 => ?_)
                        refine x_iload dX12_member_296 rfl ?_
                        refine x_iald dX12_member_298 (fun x50 => ?_)
                        refine x_iadd dX12_member_299 ?_
                        refine x_aload_n dX12_member_300 rfl ?_
                        refine x_iconst (v := 0) dX12_member_301 (by decide) ?_
                        refine cmX12_543 rfl hs (Nat.le_of_ble_eq_true rfl) dX12_member_302 (fun x52 M51 => ?_)
                        refine x_iast dX12_member_305 (fun M53 => ?_)
                        refine x_aload_n dX12_member_306 rfl ?_
                        refine gfX12_30 rfl dX12_member_307 (fun x54 => ?_)
                        refine x_iload dX12_member_310 rfl ?_
                        refine x_dup2 dX12_member_312 (xc1_i _) (xc1_r _) ?_
                        refine x_iald dX12_member_313 (fun x55 => ?_)
                        refine x_iconst (v := 1) dX12_member_314 (by decide) ?_
                        refine x_iadd dX12_member_315 ?_
                        refine x_iast dX12_member_316 (fun M56 => ?_)
                        refine x_goto (tgt := 340) dX12_member_317 (by decide) ?_
                        exact x_weak (by exact trivial) (hj340 M56)
                    refine x_icmp_ge (tgt := 271) dX12_member_264 (by decide) (fun _ => ?_) (fun _ => ?_)
                    · refine x_iconst (v := 0) dX12_member_271 (by decide) ?_
                      exact x_weak (by exact ⟨rfl, ⟨rfl, trivial⟩⟩) (hj272 ((0 : Int32)))
                    · refine x_iconst (v := 1) dX12_member_267 (by decide) ?_
                      refine x_goto (tgt := 272) dX12_member_268 (by decide) ?_
                      exact x_weak (by exact ⟨rfl, ⟨rfl, trivial⟩⟩) (hj272 ((1 : Int32)))
                  · refine x_iload_n dX12_member_320 rfl ?_
                    refine x_sipush (v := 411) dX12_member_321 (by decide) ?_
                    refine x_icmp_ne (tgt := 335) dX12_member_324 (by decide) (fun _ => ?_) (fun _ => ?_)
                    · refine x_aload_n dX12_member_327 rfl ?_
                      refine x_iload_n dX12_member_328 rfl ?_
                      refine cmX12_547 rfl hs (Nat.le_of_ble_eq_true rfl) dX12_member_329 (fun M57 => ?_)
                      refine x_goto (tgt := 340) dX12_member_332 (by decide) ?_
                      exact x_weak (by exact trivial) (hj340 M57)
                    · refine x_aload_n dX12_member_335 rfl ?_
                      refine x_iload_n dX12_member_336 rfl ?_
                      refine cmX12_549 rfl hs (Nat.le_of_ble_eq_true rfl) dX12_member_337 (fun M58 => ?_)
                      exact x_weak (by exact trivial) (hj340 M58)
          refine x_jn (σ := Mem) 92 (fun s59 => [some (va_rf a0), some (.int a1), none, none, none, none]) (fun s59 => [va_rf a0]) (fun s59 => s59) (fun s59 => ?_) (fun j92 hj92 => ?_)
          · refine x_iconst (v := 0) dX12_member_92 (by decide) ?_
            exact x_weak (by exact ⟨rfl, ⟨rfl, trivial⟩⟩) (hj93 ((0 : Int32), s59))
          refine x_if_ne (tgt := 92) dX12_member_59 (by decide) (fun _ => ?_) (fun _ => ?_)
          · refine x_aload_n dX12_member_62 rfl ?_
            refine gfX12_408 rfl dX12_member_63 (fun x60 => ?_)
            refine x_sipush (v := 408) dX12_member_66 (by decide) ?_
            refine x_sipush (v := 411) dX12_member_69 (by decide) ?_
            refine cmX12_381 rfl hs (Nat.le_of_ble_eq_true rfl) dX12_member_72 (fun x62 M61 => ?_)
            refine x_jn (σ := Unit) 88 (fun s63 => [some (va_rf a0), some (.int a1), none, none, none, none]) (fun s63 => [va_rf a0]) (fun s63 => M61) (fun s63 => ?_) (fun j88 hj88 => ?_)
            · refine x_iconst (v := 1) dX12_member_88 (by decide) ?_
              refine x_goto (tgt := 93) dX12_member_89 (by decide) ?_
              exact x_weak (by exact ⟨rfl, ⟨rfl, trivial⟩⟩) (hj93 ((1 : Int32), M61))
            refine x_if_ne (tgt := 88) dX12_member_75 (by decide) (fun _ => ?_) (fun _ => ?_)
            · refine x_aload_n dX12_member_78 rfl ?_
              refine gfX12_408 rfl dX12_member_79 (fun x64 => ?_)
              refine x_sipush (v := 415) dX12_member_82 (by decide) ?_
              refine x_icmp_ne (tgt := 92) dX12_member_85 (by decide) (fun _ => ?_) (fun _ => ?_)
              · exact x_weak (by exact ⟨rfl, ⟨rfl, trivial⟩⟩) (hj88 ())
              · exact x_weak (by exact ⟨rfl, ⟨rfl, trivial⟩⟩) (hj92 M61)
            · exact x_weak (by exact ⟨rfl, ⟨rfl, trivial⟩⟩) (hj88 ())
          · exact x_weak (by exact ⟨rfl, ⟨rfl, trivial⟩⟩) (hj92 M6)
        · refine x_aload_n dX12_member_48 rfl ?_
          refine x_iload_n dX12_member_49 rfl ?_
          refine x_iload_n dX12_member_50 rfl ?_
          refine cmX12_539 rfl hs (Nat.le_of_ble_eq_true rfl) dX12_member_51 (fun M65 => ?_)
          refine x_goto (tgt := 340) dX12_member_54 (by decide) ?_
          exact x_weak (by exact trivial) (hj340 M65)
      · exact x_vret rfl dX12_member_31
    refine x_if_eq (tgt := 24) dX12_member_17 (by decide) (fun _ => ?_) (fun _ => ?_)
    · exact x_weak (by exact ⟨rfl, ⟨rfl, ⟨rfl, trivial⟩⟩⟩) (hj24 M0)
    · refine x_aload_n dX12_member_20 rfl ?_
      refine cmX12_436 rfl hs (Nat.le_of_ble_eq_true rfl) dX12_member_21 (fun M66 => ?_)
      exact x_weak (by exact ⟨rfl, ⟨rfl, ⟨rfl, trivial⟩⟩⟩) (hj24 M66)
  refine x_icmp_ne (tgt := 14) dX12_member_7 (by decide) (fun _ => ?_) (fun _ => ?_)
  · refine x_iconst (v := 1) dX12_member_10 (by decide) ?_
    refine x_goto (tgt := 15) dX12_member_11 (by decide) ?_
    exact x_weak (by exact ⟨rfl, ⟨rfl, trivial⟩⟩) (hj15 ((1 : Int32)))
  · refine x_iconst (v := 0) dX12_member_14 (by decide) ?_
    exact x_weak (by exact ⟨rfl, ⟨rfl, trivial⟩⟩) (hj15 ((0 : Int32)))
theorem s221 {l : Launch} {d : Nat} {rec : Nat → List Value → Mem → XA} (hS : Nonempty XS) (hs : XSnd l xmt rec d) : Snd1 l 221 (b221 rec) d := by
  intro as M r M' h0
  unfold b221 at h0
  obtain ⟨a0, l1, e1, h1⟩ := aR_inv h0
  obtain ⟨a1, l2, e2, h2⟩ := aI_inv h1
  obtain ⟨ez, h⟩ := aZ_inv h2
  subst ez
  subst e2
  subst e1
  exact xmet (M := M) (as := [va_rf a0, .int a1]) (lo := [some (va_rf a0), some (.int a1)]) 221 xq221 xm221 (by rw [xargs_rf, xargs_i, xargs_nil]; exact ⟨rfl, ⟨rfl, trivial⟩⟩) (by rw [xargs_rf, xargs_i, xargs_nil]; exact Nat.le_of_ble_eq_true rfl) (fun S G K => x_weak (by exact ⟨rfl, ⟨rfl, trivial⟩⟩) (k221 hs a0 a1 M)) h hS
set_option maxRecDepth 100000 in
def c222 (rec : Nat → List Value → Mem → XA) (a0 : Option Nat) (a1 : Int32) (a2 : Int32) (M0 : Mem) : XA :=
  gtI (13, 157) M0 a0 36 fun x1 =>
  lt (x1 - ((403 : Int32))) fun (x2 : Int32) =>
  vC (13, 157) M0 a0 <|
  cV (rec 191 [va_rf a0] M0) fun M3 =>
  gtI (13, 157) M3 a0 41 fun x4 =>
  jn (fun (s5 : Mem) =>
    some (.null, s5)) fun j88 =>
  if x4 = 0 then (
    gtI (13, 157) M3 a0 36 fun x6 =>
    jn (fun (s7 : Int32) =>
      vC (13, 157) M3 a0 <|
      cI (rec 193 [va_rf a0, .int s7] M3) fun x9 M8 =>
      if x9 = 0 then (
        j88 M8) else (
        gtL (13, 157) M8 a0 39 fun x10 =>
        vC (13, 157) M8 a0 <|
        cI (rec 220 [va_rf a0, .int a1, .long x10] M8) fun x12 M11 =>
        jn (fun (s13 : Int32) =>
          vC (13, 157) M11 a0 <|
          cI (rec 194 [va_rf a0, .int s13, .int ((3 : Int32))] M11) fun x15 M14 =>
          if x15 = 0 then (
            j88 M14) else (
            gtI (13, 157) M14 a0 64 fun x16 =>
            jn (fun (s17 : Int32) =>
              vC (13, 157) M14 a0 <|
              cI (rec 194 [va_rf a0, .int s17, .int ((6 : Int32))] M14) fun x19 M18 =>
              if x19 = 0 then (
                j88 M18) else (
                gtP (13, 157) M18 a0 10 fun x20 =>
                alI 100 M18 x20 a1 fun x21 =>
                lt ((((96 : Int32)) * a1) + x21) fun (x22 : Int32) =>
                gtP (13, 157) M18 a0 10 fun x23 =>
                alI 100 M18 x23 a1 fun x24 =>
                asI 100 M18 x23 a1 ((x24 + ((1 : Int32)))) fun M25 =>
                gtI (13, 157) M25 a0 64 fun x26 =>
                ptI (13, 157) M25 a0 64 (x26 + ((1 : Int32))) fun M27 =>
                gtP (13, 157) M27 a0 11 fun x28 =>
                gtL (13, 157) M27 a0 39 fun x29 =>
                asL M27 x28 x22 x29 fun M30 =>
                gtP (13, 157) M30 a0 12 fun x31 =>
                gtI (13, 157) M30 a0 49 fun x32 =>
                asI 100 M30 x31 x22 x32 fun M33 =>
                gtP (13, 157) M33 a0 13 fun x34 =>
                asI 100 M33 x34 x22 x2 fun M35 =>
                gtP (13, 157) M35 a0 14 fun x36 =>
                asI 102 M35 x36 x22 ((znar a2)) fun M37 =>
                gtP (13, 157) M37 a0 16 fun x38 =>
                asI 100 M37 x38 x22 (((-2 : Int32))) fun M39 =>
                vC (13, 157) M39 a0 <|
                cV (rec 191 [va_rf a0] M39) fun M40 =>
                jn (fun (s41 : Mem) =>
                  some (.null, s41)) fun j361 =>
                if ((3 : Int32)) ≤ x2 then (
                  if x2 = ((3 : Int32)) then (
                    vC (13, 157) M40 a0 <|
                    cI (rec 195 [va_rf a0, .int ((91 : Int32))] M40) fun x43 M42 =>
                    gtI (13, 157) M42 a0 41 fun x44 =>
                    jn (fun (s45 : Mem) =>
                      vC (13, 157) s45 a0 <|
                      cI (rec 195 [va_rf a0, .int ((93 : Int32))] s45) fun x47 M46 =>
                      vC (13, 157) M46 a0 <|
                      cI (rec 195 [va_rf a0, .int ((59 : Int32))] M46) fun x49 M48 =>
                      j361 M48) fun j282 =>
                    if x44 = 0 then (
                      gtI (13, 157) M42 a0 36 fun x50 =>
                      jn (fun (s51 : Int32) =>
                        vC (13, 157) M42 a0 <|
                        cI (rec 193 [va_rf a0, .int s51] M42) fun x53 M52 =>
                        if x53 = 0 then (
                          j282 M52) else (
                          gtI (13, 157) M52 a0 40 fun x54 =>
                          cI (rec 184 [.int x54, .int ((1 : Int32)), .int ((50 : Int32))] M52) fun x56 M55 =>
                          vC (13, 157) M55 a0 <|
                          cI (rec 194 [va_rf a0, .int x56, .int ((5 : Int32))] M55) fun x58 M57 =>
                          if x58 = 0 then (
                            j282 M57) else (
                            gtP (13, 157) M57 a0 15 fun x59 =>
                            gtI (13, 157) M57 a0 40 fun x60 =>
                            asI 100 M57 x59 x22 x60 fun M61 =>
                            vC (13, 157) M61 a0 <|
                            cV (rec 191 [va_rf a0] M61) fun M62 =>
                            j282 M62))) fun j243 =>
                      if x50 = ((2 : Int32)) then (
                        j243 ((1 : Int32))) else (
                        j243 ((0 : Int32)))) else (
                      j282 M42)) else (
                    ptI (13, 157) M40 a0 51 ((0 : Int32)) fun M63 =>
                    vC (13, 157) M63 a0 <|
                    cI (rec 195 [va_rf a0, .int ((40 : Int32))] M63) fun x65 M64 =>
                    gtI (13, 157) M64 a0 41 fun x66 =>
                    jn (fun (s67 : Mem) =>
                      vC (13, 157) s67 a0 <|
                      cI (rec 195 [va_rf a0, .int ((41 : Int32))] s67) fun x69 M68 =>
                      gtP (13, 157) M68 a0 15 fun x70 =>
                      gtI (13, 157) M68 a0 51 fun x71 =>
                      asI 100 M68 x70 x22 x71 fun M72 =>
                      gtP (13, 157) M72 a0 16 fun x73 =>
                      vC (13, 157) M72 a0 <|
                      cI (rec 218 [va_rf a0, .int ((1 : Int32))] M72) fun x75 M74 =>
                      asI 100 M74 x73 x22 x75 fun M76 =>
                      j361 M76) fun j331 =>
                    if x66 = 0 then (
                      gtI (13, 157) M64 a0 36 fun x77 =>
                      if x77 = ((41 : Int32)) then (
                        j331 M64) else (
                        vC (13, 157) M64 a0 <|
                        cV (rec 223 [va_rf a0] M64) fun M78 =>
                        j331 M78)) else (
                      j331 M64))) else (
                  vC (13, 157) M40 a0 <|
                  cI (rec 195 [va_rf a0, .int ((61 : Int32))] M40) fun x80 M79 =>
                  vC (13, 157) M79 a0 <|
                  cV (rec 219 [va_rf a0] M79) fun M81 =>
                  gtP (13, 157) M81 a0 15 fun x82 =>
                  gtI (13, 157) M81 a0 62 fun x83 =>
                  asI 100 M81 x82 x22 x83 fun M84 =>
                  vC (13, 157) M84 a0 <|
                  cI (rec 195 [va_rf a0, .int ((59 : Int32))] M84) fun x86 M85 =>
                  j361 M85))) fun j80 =>
            if ((12 : Int32)) ≤ x16 then (
              j80 ((0 : Int32))) else (
              j80 ((1 : Int32))))) fun j58 =>
        if x12 = 0 then (
          j58 ((1 : Int32))) else (
          j58 ((0 : Int32))))) fun j34 =>
    if x6 = ((1 : Int32)) then (
      j34 ((1 : Int32))) else (
      j34 ((0 : Int32)))) else (
    j88 M3)
def b222 (rec : Nat → List Value → Mem → XA) (as : List Value) (M0 : Mem) : XA := aR as fun a0 as => aI as fun a1 as => aI as fun a2 as => aZ as (c222 rec a0 a1 a2 M0)
set_option maxRecDepth 100000 in
set_option maxHeartbeats 4000000 in
theorem k222 {S : XS} {G : XG} {K : Nat × Nat} {l : Launch} {d : Nat} {rec : Nat → List Value → Mem → XA} (hs : XSnd l xmt rec d) (a0 : Option Nat) (a1 : Int32) (a2 : Int32) (M0 : Mem) : Xe S G K l (yX12_thing, cX12_thing, 5, none) d 0 [some (va_rf a0), some (.int a1), some (.int a2), none, none] [] M0 (c222 rec a0 a1 a2 M0) := by
  unfold c222
  refine x_aload_n dX12_thing_0 rfl ?_
  refine gfX12_408 rfl dX12_thing_1 (fun x1 => ?_)
  refine x_sipush (v := 403) dX12_thing_4 (by decide) ?_
  refine x_isub dX12_thing_7 ?_
  refine x_ltI (fun x2 => ?_)
  refine x_istore_n (lo' := [some (va_rf a0), some (.int a1), some (.int a2), some (.int x2), none]) dX12_thing_8 (by decide) rfl rfl ?_
  refine x_aload_n dX12_thing_9 rfl ?_
  refine cmX12_436 rfl hs (Nat.le_of_ble_eq_true rfl) dX12_thing_10 (fun M3 => ?_)
  refine x_aload_n dX12_thing_13 rfl ?_
  refine gfX12_395 rfl dX12_thing_14 (fun x4 => ?_)
  refine x_jn (σ := Mem) 88 (fun s5 => [none, none, none, none, none]) (fun s5 => []) (fun s5 => s5) (fun s5 => ?_) (fun j88 hj88 => ?_)
  · exact x_vret rfl dX12_thing_88
  refine x_if_ne (tgt := 88) dX12_thing_17 (by decide) (fun _ => ?_) (fun _ => ?_)
  · refine x_aload_n dX12_thing_20 rfl ?_
    refine x_aload_n dX12_thing_21 rfl ?_
    refine gfX12_408 rfl dX12_thing_22 (fun x6 => ?_)
    refine x_iconst (v := 1) dX12_thing_25 (by decide) ?_
    refine x_jn (σ := Int32) 34 (fun s7 => [some (va_rf a0), some (.int a1), some (.int a2), some (.int x2), none]) (fun s7 => [.int s7, va_rf a0]) (fun s7 => M3) (fun s7 => ?_) (fun j34 hj34 => ?_)
    · refine cmX12_432 rfl hs (Nat.le_of_ble_eq_true rfl) dX12_thing_34 (fun x9 M8 => ?_)
      refine x_if_eq (tgt := 88) dX12_thing_37 (by decide) (fun _ => ?_) (fun _ => ?_)
      · exact x_weak (by exact trivial) (hj88 M8)
      · refine x_aload_n dX12_thing_40 rfl ?_
        refine x_aload_n dX12_thing_41 rfl ?_
        refine x_iload_n dX12_thing_42 rfl ?_
        refine x_aload_n dX12_thing_43 rfl ?_
        refine gfX12_415 rfl dX12_thing_44 (fun x10 => ?_)
        refine cmX12_551 rfl hs (Nat.le_of_ble_eq_true rfl) dX12_thing_47 (fun x12 M11 => ?_)
        refine x_jn (σ := Int32) 58 (fun s13 => [some (va_rf a0), some (.int a1), some (.int a2), some (.int x2), none]) (fun s13 => [.int s13, va_rf a0]) (fun s13 => M11) (fun s13 => ?_) (fun j58 hj58 => ?_)
        · refine x_iconst (v := 3) dX12_thing_58 (by decide) ?_
          refine cmX12_455 rfl hs (Nat.le_of_ble_eq_true rfl) dX12_thing_59 (fun x15 M14 => ?_)
          refine x_if_eq (tgt := 88) dX12_thing_62 (by decide) (fun _ => ?_) (fun _ => ?_)
          · exact x_weak (by exact trivial) (hj88 M14)
          · refine x_aload_n dX12_thing_65 rfl ?_
            refine x_aload_n dX12_thing_66 rfl ?_
            refine gfX12_555 rfl dX12_thing_67 (fun x16 => ?_)
            refine x_bipush (v := 12) dX12_thing_70 (by decide) ?_
            refine x_jn (σ := Int32) 80 (fun s17 => [some (va_rf a0), some (.int a1), some (.int a2), some (.int x2), none]) (fun s17 => [.int s17, va_rf a0]) (fun s17 => M14) (fun s17 => ?_) (fun j80 hj80 => ?_)
            · refine x_bipush (v := 6) dX12_thing_80 (by decide) ?_
              refine cmX12_455 rfl hs (Nat.le_of_ble_eq_true rfl) dX12_thing_82 (fun x19 M18 => ?_)
              refine x_if_ne (tgt := 89) dX12_thing_85 (by decide) (fun _ => ?_) (fun _ => ?_)
              · exact x_weak (by exact trivial) (hj88 M18)
              · refine x_bipush (v := 96) dX12_thing_89 (by decide) ?_
                refine x_iload_n dX12_thing_91 rfl ?_
                refine x_imul dX12_thing_92 ?_
                refine x_aload_n dX12_thing_93 rfl ?_
                refine gfX12_36 rfl dX12_thing_94 (fun x20 => ?_)
                refine x_iload_n dX12_thing_97 rfl ?_
                refine x_iald dX12_thing_98 (fun x21 => ?_)
                refine x_iadd dX12_thing_99 ?_
                refine x_ltI (fun x22 => ?_)
                refine x_istore (lo' := [some (va_rf a0), some (.int a1), some (.int a2), some (.int x2), some (.int x22)]) dX12_thing_100 (by decide) rfl rfl ?_
                refine x_aload_n dX12_thing_102 rfl ?_
                refine gfX12_36 rfl dX12_thing_103 (fun x23 => ?_)
                refine x_iload_n dX12_thing_106 rfl ?_
                refine x_dup2 dX12_thing_107 (xc1_i _) (xc1_r _) ?_
                refine x_iald dX12_thing_108 (fun x24 => ?_)
                refine x_iconst (v := 1) dX12_thing_109 (by decide) ?_
                refine x_iadd dX12_thing_110 ?_
                refine x_iast dX12_thing_111 (fun M25 => ?_)
                refine x_aload_n dX12_thing_112 rfl ?_
                refine x_dup dX12_thing_113 (xc1_r _) ?_
                refine gfX12_555 rfl dX12_thing_114 (fun x26 => ?_)
                refine x_iconst (v := 1) dX12_thing_117 (by decide) ?_
                refine x_iadd dX12_thing_118 ?_
                refine pfX12_555 rfl dX12_thing_119 (fun M27 => ?_)
                refine x_aload_n dX12_thing_122 rfl ?_
                refine gfX12_39 rfl dX12_thing_123 (fun x28 => ?_)
                refine x_iload dX12_thing_126 rfl ?_
                refine x_aload_n dX12_thing_128 rfl ?_
                refine gfX12_415 rfl dX12_thing_129 (fun x29 => ?_)
                refine x_last dX12_thing_132 (fun M30 => ?_)
                refine x_aload_n dX12_thing_133 rfl ?_
                refine gfX12_42 rfl dX12_thing_134 (fun x31 => ?_)
                refine x_iload dX12_thing_137 rfl ?_
                refine x_aload_n dX12_thing_139 rfl ?_
                refine gfX12_442 rfl dX12_thing_140 (fun x32 => ?_)
                refine x_iast dX12_thing_143 (fun M33 => ?_)
                refine x_aload_n dX12_thing_144 rfl ?_
                refine gfX12_45 rfl dX12_thing_145 (fun x34 => ?_)
                refine x_iload dX12_thing_148 rfl ?_
                refine x_iload_n dX12_thing_150 rfl ?_
                refine x_iast dX12_thing_151 (fun M35 => ?_)
                refine x_aload_n dX12_thing_152 rfl ?_
                refine gfX12_48 rfl dX12_thing_153 (fun x36 => ?_)
                refine x_iload dX12_thing_156 rfl ?_
                refine x_iload_n dX12_thing_158 rfl ?_
                refine x_zast dX12_thing_159 (fun M37 => ?_)
                refine x_aload_n dX12_thing_160 rfl ?_
                refine gfX12_55 rfl dX12_thing_161 (fun x38 => ?_)
                refine x_iload dX12_thing_164 rfl ?_
                refine x_bipush (v := -2) dX12_thing_166 (by decide) ?_
                refine x_iast dX12_thing_168 (fun M39 => ?_)
                refine x_aload_n dX12_thing_169 rfl ?_
                refine cmX12_436 rfl hs (Nat.le_of_ble_eq_true rfl) dX12_thing_170 (fun M40 => ?_)
                refine x_iload_n dX12_thing_173 rfl ?_
                refine x_iconst (v := 3) dX12_thing_174 (by decide) ?_
                refine x_jn (σ := Mem) 361 (fun s41 => [none, none, none, none, none]) (fun s41 => []) (fun s41 => s41) (fun s41 => ?_) (fun j361 hj361 => ?_)
                · exact x_vret rfl dX12_thing_361
                refine x_icmp_ge (tgt := 210) dX12_thing_175 (by decide) (fun _ => ?_) (fun _ => ?_)
                · refine x_iload_n dX12_thing_210 rfl ?_
                  refine x_iconst (v := 3) dX12_thing_211 (by decide) ?_
                  refine x_icmp_ne (tgt := 299) dX12_thing_212 (by decide) (fun _ => ?_) (fun _ => ?_)
                  · refine x_aload_n dX12_thing_215 rfl ?_
                    refine x_bipush (v := 91) dX12_thing_216 (by decide) ?_
                    refine cmX12_517 rfl hs (Nat.le_of_ble_eq_true rfl) dX12_thing_218 (fun x43 M42 => ?_)
                    refine x_pop dX12_thing_221 (xc1_i _) ?_
                    refine x_aload_n dX12_thing_222 rfl ?_
                    refine gfX12_395 rfl dX12_thing_223 (fun x44 => ?_)
                    refine x_jn (σ := Mem) 282 (fun s45 => [some (va_rf a0), none, none, none, none]) (fun s45 => []) (fun s45 => s45) (fun s45 => ?_) (fun j282 hj282 => ?_)
                    · refine x_aload_n dX12_thing_282 rfl ?_
                      refine x_bipush (v := 93) dX12_thing_283 (by decide) ?_
                      refine cmX12_517 rfl hs (Nat.le_of_ble_eq_true rfl) dX12_thing_285 (fun x47 M46 => ?_)
                      refine x_pop dX12_thing_288 (xc1_i _) ?_
                      refine x_aload_n dX12_thing_289 rfl ?_
                      refine x_bipush (v := 59) dX12_thing_290 (by decide) ?_
                      refine cmX12_517 rfl hs (Nat.le_of_ble_eq_true rfl) dX12_thing_292 (fun x49 M48 => ?_)
                      refine x_pop dX12_thing_295 (xc1_i _) ?_
                      refine x_goto (tgt := 361) dX12_thing_296 (by decide) ?_
                      exact x_weak (by exact trivial) (hj361 M48)
                    refine x_if_ne (tgt := 282) dX12_thing_226 (by decide) (fun _ => ?_) (fun _ => ?_)
                    · refine x_aload_n dX12_thing_229 rfl ?_
                      refine x_aload_n dX12_thing_230 rfl ?_
                      refine gfX12_408 rfl dX12_thing_231 (fun x50 => ?_)
                      refine x_iconst (v := 2) dX12_thing_234 (by decide) ?_
                      refine x_jn (σ := Int32) 243 (fun s51 => [some (va_rf a0), none, none, none, some (.int x22)]) (fun s51 => [.int s51, va_rf a0]) (fun s51 => M42) (fun s51 => ?_) (fun j243 hj243 => ?_)
                      · refine cmX12_432 rfl hs (Nat.le_of_ble_eq_true rfl) dX12_thing_243 (fun x53 M52 => ?_)
                        refine x_if_eq (tgt := 282) dX12_thing_246 (by decide) (fun _ => ?_) (fun _ => ?_)
                        · exact x_weak (by exact ⟨rfl, trivial⟩) (hj282 M52)
                        · refine x_aload_n dX12_thing_249 rfl ?_
                          refine x_aload_n dX12_thing_250 rfl ?_
                          refine gfX12_422 rfl dX12_thing_251 (fun x54 => ?_)
                          refine x_iconst (v := 1) dX12_thing_254 (by decide) ?_
                          refine x_bipush (v := 50) dX12_thing_255 (by decide) ?_
                          refine cmX12_381 rfl hs (Nat.le_of_ble_eq_true rfl) dX12_thing_257 (fun x56 M55 => ?_)
                          refine x_iconst (v := 5) dX12_thing_260 (by decide) ?_
                          refine cmX12_455 rfl hs (Nat.le_of_ble_eq_true rfl) dX12_thing_261 (fun x58 M57 => ?_)
                          refine x_if_eq (tgt := 282) dX12_thing_264 (by decide) (fun _ => ?_) (fun _ => ?_)
                          · exact x_weak (by exact ⟨rfl, trivial⟩) (hj282 M57)
                          · refine x_aload_n dX12_thing_267 rfl ?_
                            refine gfX12_52 rfl dX12_thing_268 (fun x59 => ?_)
                            refine x_iload dX12_thing_271 rfl ?_
                            refine x_aload_n dX12_thing_273 rfl ?_
                            refine gfX12_422 rfl dX12_thing_274 (fun x60 => ?_)
                            refine x_iast dX12_thing_277 (fun M61 => ?_)
                            refine x_aload_n dX12_thing_278 rfl ?_
                            refine cmX12_436 rfl hs (Nat.le_of_ble_eq_true rfl) dX12_thing_279 (fun M62 => ?_)
                            exact x_weak (by exact ⟨rfl, trivial⟩) (hj282 M62)
                      refine x_icmp_ne (tgt := 242) dX12_thing_235 (by decide) (fun _ => ?_) (fun _ => ?_)
                      · refine x_iconst (v := 1) dX12_thing_238 (by decide) ?_
                        refine x_goto (tgt := 243) dX12_thing_239 (by decide) ?_
                        exact x_weak (by exact ⟨rfl, ⟨rfl, trivial⟩⟩) (hj243 ((1 : Int32)))
                      · refine x_iconst (v := 0) dX12_thing_242 (by decide) ?_
                        exact x_weak (by exact ⟨rfl, ⟨rfl, trivial⟩⟩) (hj243 ((0 : Int32)))
                    · exact x_weak (by exact ⟨rfl, trivial⟩) (hj282 M42)
                  · refine x_aload_n dX12_thing_299 rfl ?_
                    refine x_iconst (v := 0) dX12_thing_300 (by decide) ?_
                    refine pfX12_448 rfl dX12_thing_301 (fun M63 => ?_)
                    refine x_aload_n dX12_thing_304 rfl ?_
                    refine x_bipush (v := 40) dX12_thing_305 (by decide) ?_
                    refine cmX12_517 rfl hs (Nat.le_of_ble_eq_true rfl) dX12_thing_307 (fun x65 M64 => ?_)
                    refine x_pop dX12_thing_310 (xc1_i _) ?_
                    refine x_aload_n dX12_thing_311 rfl ?_
                    refine gfX12_395 rfl dX12_thing_312 (fun x66 => ?_)
                    refine x_jn (σ := Mem) 331 (fun s67 => [some (va_rf a0), none, none, none, some (.int x22)]) (fun s67 => []) (fun s67 => s67) (fun s67 => ?_) (fun j331 hj331 => ?_)
                    · refine x_aload_n dX12_thing_331 rfl ?_
                      refine x_bipush (v := 41) dX12_thing_332 (by decide) ?_
                      refine cmX12_517 rfl hs (Nat.le_of_ble_eq_true rfl) dX12_thing_334 (fun x69 M68 => ?_)
                      refine x_pop dX12_thing_337 (xc1_i _) ?_
                      refine x_aload_n dX12_thing_338 rfl ?_
                      refine gfX12_52 rfl dX12_thing_339 (fun x70 => ?_)
                      refine x_iload dX12_thing_342 rfl ?_
                      refine x_aload_n dX12_thing_344 rfl ?_
                      refine gfX12_448 rfl dX12_thing_345 (fun x71 => ?_)
                      refine x_iast dX12_thing_348 (fun M72 => ?_)
                      refine x_aload_n dX12_thing_349 rfl ?_
                      refine gfX12_55 rfl dX12_thing_350 (fun x73 => ?_)
                      refine x_iload dX12_thing_353 rfl ?_
                      refine x_aload_n dX12_thing_355 rfl ?_
                      refine x_iconst (v := 1) dX12_thing_356 (by decide) ?_
                      refine cmX12_543 rfl hs (Nat.le_of_ble_eq_true rfl) dX12_thing_357 (fun x75 M74 => ?_)
                      refine x_iast dX12_thing_360 (fun M76 => ?_)
                      exact x_weak (by exact trivial) (hj361 M76)
                    refine x_if_ne (tgt := 331) dX12_thing_315 (by decide) (fun _ => ?_) (fun _ => ?_)
                    · refine x_aload_n dX12_thing_318 rfl ?_
                      refine gfX12_408 rfl dX12_thing_319 (fun x77 => ?_)
                      refine x_bipush (v := 41) dX12_thing_322 (by decide) ?_
                      refine x_icmp_eq (tgt := 331) dX12_thing_324 (by decide) (fun _ => ?_) (fun _ => ?_)
                      · exact x_weak (by exact ⟨rfl, ⟨rfl, trivial⟩⟩) (hj331 M64)
                      · refine x_aload_n dX12_thing_327 rfl ?_
                        refine cmX12_561 rfl hs (Nat.le_of_ble_eq_true rfl) dX12_thing_328 (fun M78 => ?_)
                        exact x_weak (by exact ⟨rfl, ⟨rfl, trivial⟩⟩) (hj331 M78)
                    · exact x_weak (by exact ⟨rfl, ⟨rfl, trivial⟩⟩) (hj331 M64)
                · refine x_aload_n dX12_thing_178 rfl ?_
                  refine x_bipush (v := 61) dX12_thing_179 (by decide) ?_
                  refine cmX12_517 rfl hs (Nat.le_of_ble_eq_true rfl) dX12_thing_181 (fun x80 M79 => ?_)
                  refine x_pop dX12_thing_184 (xc1_i _) ?_
                  refine x_aload_n dX12_thing_185 rfl ?_
                  refine cmX12_558 rfl hs (Nat.le_of_ble_eq_true rfl) dX12_thing_186 (fun M81 => ?_)
                  refine x_aload_n dX12_thing_189 rfl ?_
                  refine gfX12_52 rfl dX12_thing_190 (fun x82 => ?_)
                  refine x_iload dX12_thing_193 rfl ?_
                  refine x_aload_n dX12_thing_195 rfl ?_
                  refine gfX12_536 rfl dX12_thing_196 (fun x83 => ?_)
                  refine x_iast dX12_thing_199 (fun M84 => ?_)
                  refine x_aload_n dX12_thing_200 rfl ?_
                  refine x_bipush (v := 59) dX12_thing_201 (by decide) ?_
                  refine cmX12_517 rfl hs (Nat.le_of_ble_eq_true rfl) dX12_thing_203 (fun x86 M85 => ?_)
                  refine x_pop dX12_thing_206 (xc1_i _) ?_
                  refine x_goto (tgt := 361) dX12_thing_207 (by decide) ?_
                  exact x_weak (by exact trivial) (hj361 M85)
            refine x_icmp_ge (tgt := 79) dX12_thing_72 (by decide) (fun _ => ?_) (fun _ => ?_)
            · refine x_iconst (v := 0) dX12_thing_79 (by decide) ?_
              exact x_weak (by exact ⟨rfl, ⟨rfl, ⟨rfl, ⟨rfl, trivial⟩⟩⟩⟩) (hj80 ((0 : Int32)))
            · refine x_iconst (v := 1) dX12_thing_75 (by decide) ?_
              refine x_goto (tgt := 80) dX12_thing_76 (by decide) ?_
              exact x_weak (by exact ⟨rfl, ⟨rfl, ⟨rfl, ⟨rfl, trivial⟩⟩⟩⟩) (hj80 ((1 : Int32)))
        refine x_if_ne (tgt := 57) dX12_thing_50 (by decide) (fun _ => ?_) (fun _ => ?_)
        · refine x_iconst (v := 1) dX12_thing_53 (by decide) ?_
          refine x_goto (tgt := 58) dX12_thing_54 (by decide) ?_
          exact x_weak (by exact ⟨rfl, ⟨rfl, ⟨rfl, ⟨rfl, trivial⟩⟩⟩⟩) (hj58 ((1 : Int32)))
        · refine x_iconst (v := 0) dX12_thing_57 (by decide) ?_
          exact x_weak (by exact ⟨rfl, ⟨rfl, ⟨rfl, ⟨rfl, trivial⟩⟩⟩⟩) (hj58 ((0 : Int32)))
    refine x_icmp_ne (tgt := 33) dX12_thing_26 (by decide) (fun _ => ?_) (fun _ => ?_)
    · refine x_iconst (v := 1) dX12_thing_29 (by decide) ?_
      refine x_goto (tgt := 34) dX12_thing_30 (by decide) ?_
      exact x_weak (by exact ⟨rfl, ⟨rfl, ⟨rfl, ⟨rfl, trivial⟩⟩⟩⟩) (hj34 ((1 : Int32)))
    · refine x_iconst (v := 0) dX12_thing_33 (by decide) ?_
      exact x_weak (by exact ⟨rfl, ⟨rfl, ⟨rfl, ⟨rfl, trivial⟩⟩⟩⟩) (hj34 ((0 : Int32)))
  · exact x_weak (by exact trivial) (hj88 M3)
theorem s222 {l : Launch} {d : Nat} {rec : Nat → List Value → Mem → XA} (hS : Nonempty XS) (hs : XSnd l xmt rec d) : Snd1 l 222 (b222 rec) d := by
  intro as M r M' h0
  unfold b222 at h0
  obtain ⟨a0, l1, e1, h1⟩ := aR_inv h0
  obtain ⟨a1, l2, e2, h2⟩ := aI_inv h1
  obtain ⟨a2, l3, e3, h3⟩ := aI_inv h2
  obtain ⟨ez, h⟩ := aZ_inv h3
  subst ez
  subst e3
  subst e2
  subst e1
  exact xmet (M := M) (as := [va_rf a0, .int a1, .int a2]) (lo := [some (va_rf a0), some (.int a1), some (.int a2)]) 222 xq222 xm222 (by rw [xargs_rf, xargs_i, xargs_i, xargs_nil]; exact ⟨rfl, ⟨rfl, ⟨rfl, trivial⟩⟩⟩) (by rw [xargs_rf, xargs_i, xargs_i, xargs_nil]; exact Nat.le_of_ble_eq_true rfl) (fun S G K => x_weak (by exact ⟨rfl, ⟨rfl, ⟨rfl, trivial⟩⟩⟩) (k222 hs a0 a1 a2 M)) h hS
set_option maxRecDepth 100000 in
def c223_2 (rec : Nat → List Value → Mem → XA) (a0 : Option Nat) (j126 : Mem → XA) : (Int32 × Mem) → ((Int32 × Mem) → XA) → XA := fun s2 j2 =>
  if s2.1 = 0 then (
    j126 s2.2) else (
    gtI (13, 157) s2.2 a0 41 fun x3 =>
    if x3 = 0 then (
      gtI (13, 157) s2.2 a0 36 fun x4 =>
      jn (fun (s5 : Int32) =>
        vC (13, 157) s2.2 a0 <|
        cI (rec 193 [va_rf a0, .int s5] s2.2) fun x7 M6 =>
        if x7 = 0 then (
          j2 ((0 : Int32), M6)) else (
          gtL (13, 157) M6 a0 39 fun x8 =>
          vC (13, 157) M6 a0 <|
          cI (rec 197 [va_rf a0, .long x8] M6) fun x10 M9 =>
          jn (fun (s11 : Int32) =>
            vC (13, 157) M9 a0 <|
            cI (rec 194 [va_rf a0, .int s11, .int ((3 : Int32))] M9) fun x13 M12 =>
            if x13 = 0 then (
              j2 ((0 : Int32), M12)) else (
              gtI (13, 157) M12 a0 51 fun x14 =>
              jn (fun (s15 : Int32) =>
                vC (13, 157) M12 a0 <|
                cI (rec 194 [va_rf a0, .int s15, .int ((6 : Int32))] M12) fun x17 M16 =>
                if x17 = 0 then (
                  j2 ((0 : Int32), M16)) else (
                  gtL (13, 157) M16 a0 39 fun x18 =>
                  vC (13, 157) M16 a0 <|
                  cV (rec 199 [va_rf a0, .long x18] M16) fun M19 =>
                  vC (13, 157) M19 a0 <|
                  cV (rec 191 [va_rf a0] M19) fun M20 =>
                  gtI (13, 157) M20 a0 41 fun x21 =>
                  jn (fun (s22 : Int32) =>
                    if s22 = 0 then (
                      j2 (s22, M20)) else (
                      vC (13, 157) M20 a0 <|
                      cV (rec 191 [va_rf a0] M20) fun M23 =>
                      j2 (s22, M23))) fun j114 =>
                  jn (fun (s24 : Unit) =>
                    j114 ((0 : Int32))) fun j113 =>
                  if x21 = 0 then (
                    gtI (13, 157) M20 a0 36 fun x25 =>
                    if x25 = ((44 : Int32)) then (
                      j114 ((1 : Int32))) else (
                      j113 ())) else (
                    j113 ()))) fun j73 =>
              if ((4 : Int32)) ≤ x14 then (
                j73 ((0 : Int32))) else (
                j73 ((1 : Int32))))) fun j52 =>
          if 0 ≤ x10 then (
            j52 ((0 : Int32))) else (
            j52 ((1 : Int32))))) fun j29 =>
      if x4 = ((1 : Int32)) then (
        j29 ((1 : Int32))) else (
        j29 ((0 : Int32)))) else (
      j2 ((0 : Int32), s2.2)))
set_option maxRecDepth 100000 in
def c223 (rec : Nat → List Value → Mem → XA) (a0 : Option Nat) (M0 : Mem) : XA :=
  jn (fun (s1 : Mem) =>
    some (.null, s1)) fun j126 =>
  lp (c223_2 rec a0 j126) 4294967296 ((1 : Int32), M0)
def b223 (rec : Nat → List Value → Mem → XA) (as : List Value) (M0 : Mem) : XA := aR as fun a0 as => aZ as (c223 rec a0 M0)
set_option maxRecDepth 100000 in
set_option maxHeartbeats 4000000 in
theorem k223 {S : XS} {G : XG} {K : Nat × Nat} {l : Launch} {d : Nat} {rec : Nat → List Value → Mem → XA} (hs : XSnd l xmt rec d) (a0 : Option Nat) (M0 : Mem) : Xe S G K l (yX12_parameters, cX12_parameters, 2, none) d 0 [some (va_rf a0), none] [] M0 (c223 rec a0 M0) := by
  unfold c223
  refine x_iconst (v := 1) dX12_parameters_0 (by decide) ?_
  refine x_istore_n (lo' := [some (va_rf a0), some (.int ((1 : Int32)))]) dX12_parameters_1 (by decide) (xok_r rfl) rfl ?_
  refine x_jn (σ := Mem) 126 (fun s1 => [none, none]) (fun s1 => []) (fun s1 => s1) (fun s1 => ?_) (fun j126 hj126 => ?_)
  · exact x_vret rfl dX12_parameters_126
  refine x_weak (by exact ⟨rfl, ⟨rfl, trivial⟩⟩) (x_lp (σ := Int32 × Mem) 2 (fun s2 => [some (va_rf a0), some (.int s2.1)]) (fun s2 => []) (fun s2 => s2.2) (fun s2 j2 hj2 => ?_) 4294967296 ((1 : Int32), M0))
  · refine x_iload_n dX12_parameters_2 rfl ?_
    refine x_if_eq (tgt := 126) dX12_parameters_3 (by decide) (fun _ => ?_) (fun _ => ?_)
    · exact x_weak (by exact trivial) (hj126 s2.2)
    · refine x_iconst (v := 0) dX12_parameters_6 (by decide) ?_
      refine x_istore_n (lo' := [some (va_rf a0), some (.int ((0 : Int32)))]) dX12_parameters_7 (by decide) (xok_r rfl) rfl ?_
      refine x_aload_n dX12_parameters_8 rfl ?_
      refine gfX12_395 rfl dX12_parameters_9 (fun x3 => ?_)
      refine x_if_ne (tgt := 2) dX12_parameters_12 (by decide) (fun _ => ?_) (fun _ => ?_)
      · refine x_aload_n dX12_parameters_15 rfl ?_
        refine x_aload_n dX12_parameters_16 rfl ?_
        refine gfX12_408 rfl dX12_parameters_17 (fun x4 => ?_)
        refine x_iconst (v := 1) dX12_parameters_20 (by decide) ?_
        refine x_jn (σ := Int32) 29 (fun s5 => [some (va_rf a0), some (.int ((0 : Int32)))]) (fun s5 => [.int s5, va_rf a0]) (fun s5 => s2.2) (fun s5 => ?_) (fun j29 hj29 => ?_)
        · refine cmX12_432 rfl hs (Nat.le_of_ble_eq_true rfl) dX12_parameters_29 (fun x7 M6 => ?_)
          refine x_if_eq (tgt := 2) dX12_parameters_32 (by decide) (fun _ => ?_) (fun _ => ?_)
          · exact x_weak (by exact ⟨rfl, ⟨rfl, trivial⟩⟩) (hj2 ((0 : Int32), M6))
          · refine x_aload_n dX12_parameters_35 rfl ?_
            refine x_aload_n dX12_parameters_36 rfl ?_
            refine x_aload_n dX12_parameters_37 rfl ?_
            refine gfX12_415 rfl dX12_parameters_38 (fun x8 => ?_)
            refine cmX12_451 rfl hs (Nat.le_of_ble_eq_true rfl) dX12_parameters_41 (fun x10 M9 => ?_)
            refine x_jn (σ := Int32) 52 (fun s11 => [some (va_rf a0), some (.int ((0 : Int32)))]) (fun s11 => [.int s11, va_rf a0]) (fun s11 => M9) (fun s11 => ?_) (fun j52 hj52 => ?_)
            · refine x_iconst (v := 3) dX12_parameters_52 (by decide) ?_
              refine cmX12_455 rfl hs (Nat.le_of_ble_eq_true rfl) dX12_parameters_53 (fun x13 M12 => ?_)
              refine x_if_eq (tgt := 2) dX12_parameters_56 (by decide) (fun _ => ?_) (fun _ => ?_)
              · exact x_weak (by exact ⟨rfl, ⟨rfl, trivial⟩⟩) (hj2 ((0 : Int32), M12))
              · refine x_aload_n dX12_parameters_59 rfl ?_
                refine x_aload_n dX12_parameters_60 rfl ?_
                refine gfX12_448 rfl dX12_parameters_61 (fun x14 => ?_)
                refine x_iconst (v := 4) dX12_parameters_64 (by decide) ?_
                refine x_jn (σ := Int32) 73 (fun s15 => [some (va_rf a0), some (.int ((0 : Int32)))]) (fun s15 => [.int s15, va_rf a0]) (fun s15 => M12) (fun s15 => ?_) (fun j73 hj73 => ?_)
                · refine x_bipush (v := 6) dX12_parameters_73 (by decide) ?_
                  refine cmX12_455 rfl hs (Nat.le_of_ble_eq_true rfl) dX12_parameters_75 (fun x17 M16 => ?_)
                  refine x_if_eq (tgt := 2) dX12_parameters_78 (by decide) (fun _ => ?_) (fun _ => ?_)
                  · exact x_weak (by exact ⟨rfl, ⟨rfl, trivial⟩⟩) (hj2 ((0 : Int32), M16))
                  · refine x_aload_n dX12_parameters_81 rfl ?_
                    refine x_aload_n dX12_parameters_82 rfl ?_
                    refine gfX12_415 rfl dX12_parameters_83 (fun x18 => ?_)
                    refine cmX12_520 rfl hs (Nat.le_of_ble_eq_true rfl) dX12_parameters_86 (fun M19 => ?_)
                    refine x_aload_n dX12_parameters_89 rfl ?_
                    refine cmX12_436 rfl hs (Nat.le_of_ble_eq_true rfl) dX12_parameters_90 (fun M20 => ?_)
                    refine x_aload_n dX12_parameters_93 rfl ?_
                    refine gfX12_395 rfl dX12_parameters_94 (fun x21 => ?_)
                    refine x_jn (σ := Int32) 114 (fun s22 => [some (va_rf a0), none]) (fun s22 => [.int s22]) (fun s22 => M20) (fun s22 => ?_) (fun j114 hj114 => ?_)
                    · refine x_istore_n (lo' := [some (va_rf a0), some (.int s22)]) dX12_parameters_114 (by decide) (xok_r rfl) rfl ?_
                      refine x_iload_n dX12_parameters_115 rfl ?_
                      refine x_if_eq (tgt := 2) dX12_parameters_116 (by decide) (fun _ => ?_) (fun _ => ?_)
                      · exact x_weak (by exact ⟨rfl, ⟨rfl, trivial⟩⟩) (hj2 (s22, M20))
                      · refine x_aload_n dX12_parameters_119 rfl ?_
                        refine cmX12_436 rfl hs (Nat.le_of_ble_eq_true rfl) dX12_parameters_120 (fun M23 => ?_)
                        refine x_goto (tgt := 2) dX12_parameters_123 (by decide) ?_
                        exact x_weak (by exact ⟨rfl, ⟨rfl, trivial⟩⟩) (hj2 (s22, M23))
                    refine x_jn (σ := Unit) 113 (fun s24 => [some (va_rf a0), none]) (fun s24 => []) (fun s24 => M20) (fun s24 => ?_) (fun j113 hj113 => ?_)
                    · refine x_iconst (v := 0) dX12_parameters_113 (by decide) ?_
                      exact x_weak (by exact ⟨rfl, trivial⟩) (hj114 ((0 : Int32)))
                    refine x_if_ne (tgt := 113) dX12_parameters_97 (by decide) (fun _ => ?_) (fun _ => ?_)
                    · refine x_aload_n dX12_parameters_100 rfl ?_
                      refine gfX12_408 rfl dX12_parameters_101 (fun x25 => ?_)
                      refine x_bipush (v := 44) dX12_parameters_104 (by decide) ?_
                      refine x_icmp_ne (tgt := 113) dX12_parameters_106 (by decide) (fun _ => ?_) (fun _ => ?_)
                      · refine x_iconst (v := 1) dX12_parameters_109 (by decide) ?_
                        refine x_goto (tgt := 114) dX12_parameters_110 (by decide) ?_
                        exact x_weak (by exact ⟨rfl, trivial⟩) (hj114 ((1 : Int32)))
                      · exact x_weak (by exact ⟨rfl, trivial⟩) (hj113 ())
                    · exact x_weak (by exact ⟨rfl, trivial⟩) (hj113 ())
                refine x_icmp_ge (tgt := 72) dX12_parameters_65 (by decide) (fun _ => ?_) (fun _ => ?_)
                · refine x_iconst (v := 0) dX12_parameters_72 (by decide) ?_
                  exact x_weak (by exact ⟨rfl, ⟨rfl, trivial⟩⟩) (hj73 ((0 : Int32)))
                · refine x_iconst (v := 1) dX12_parameters_68 (by decide) ?_
                  refine x_goto (tgt := 73) dX12_parameters_69 (by decide) ?_
                  exact x_weak (by exact ⟨rfl, ⟨rfl, trivial⟩⟩) (hj73 ((1 : Int32)))
            refine x_if_ge (tgt := 51) dX12_parameters_44 (by decide) (fun _ => ?_) (fun _ => ?_)
            · refine x_iconst (v := 0) dX12_parameters_51 (by decide) ?_
              exact x_weak (by exact ⟨rfl, ⟨rfl, trivial⟩⟩) (hj52 ((0 : Int32)))
            · refine x_iconst (v := 1) dX12_parameters_47 (by decide) ?_
              refine x_goto (tgt := 52) dX12_parameters_48 (by decide) ?_
              exact x_weak (by exact ⟨rfl, ⟨rfl, trivial⟩⟩) (hj52 ((1 : Int32)))
        refine x_icmp_ne (tgt := 28) dX12_parameters_21 (by decide) (fun _ => ?_) (fun _ => ?_)
        · refine x_iconst (v := 1) dX12_parameters_24 (by decide) ?_
          refine x_goto (tgt := 29) dX12_parameters_25 (by decide) ?_
          exact x_weak (by exact ⟨rfl, ⟨rfl, trivial⟩⟩) (hj29 ((1 : Int32)))
        · refine x_iconst (v := 0) dX12_parameters_28 (by decide) ?_
          exact x_weak (by exact ⟨rfl, ⟨rfl, trivial⟩⟩) (hj29 ((0 : Int32)))
      · exact x_weak (by exact ⟨rfl, ⟨rfl, trivial⟩⟩) (hj2 ((0 : Int32), s2.2))
theorem s223 {l : Launch} {d : Nat} {rec : Nat → List Value → Mem → XA} (hS : Nonempty XS) (hs : XSnd l xmt rec d) : Snd1 l 223 (b223 rec) d := by
  intro as M r M' h0
  unfold b223 at h0
  obtain ⟨a0, l1, e1, h1⟩ := aR_inv h0
  obtain ⟨ez, h⟩ := aZ_inv h1
  subst ez
  subst e1
  exact xmet (M := M) (as := [va_rf a0]) (lo := [some (va_rf a0)]) 223 xq223 xm223 (by rw [xargs_rf, xargs_nil]; exact ⟨rfl, trivial⟩) (by rw [xargs_rf, xargs_nil]; exact Nat.le_of_ble_eq_true rfl) (fun S G K => x_weak (by exact ⟨rfl, trivial⟩) (k223 hs a0 M)) h hS
set_option maxRecDepth 100000 in
def c224 (rec : Nat → List Value → Mem → XA) (a0 : Option Nat) (a1 : Int32) (a2 : Int64) (a3 : Int32) (a4 : Int32) (a5 : Int32) (M0 : Mem) : XA :=
  gtP (13, 157) M0 a0 17 fun x1 =>
  alI 100 M0 x1 a1 fun x2 =>
  lt ((((16 : Int32)) * a1) + x2) fun (x3 : Int32) =>
  gtP (13, 157) M0 a0 17 fun x4 =>
  alI 100 M0 x4 a1 fun x5 =>
  asI 100 M0 x4 a1 ((x5 + ((1 : Int32)))) fun M6 =>
  gtP (13, 157) M6 a0 18 fun x7 =>
  asL M6 x7 x3 a2 fun M8 =>
  gtP (13, 157) M8 a0 19 fun x9 =>
  gtI (13, 157) M8 a0 49 fun x10 =>
  asI 100 M8 x9 x3 x10 fun M11 =>
  gtP (13, 157) M11 a0 21 fun x12 =>
  asI 100 M11 x12 x3 a3 fun M13 =>
  gtP (13, 157) M13 a0 22 fun x14 =>
  asI 102 M13 x14 x3 ((znar a4)) fun M15 =>
  gtP (13, 157) M15 a0 20 fun x16 =>
  asI 100 M15 x16 x3 a5 fun M17 =>
  some (.null, M17)
def b224 (rec : Nat → List Value → Mem → XA) (as : List Value) (M0 : Mem) : XA := aR as fun a0 as => aI as fun a1 as => aL as fun a2 as => aI as fun a3 as => aI as fun a4 as => aI as fun a5 as => aZ as (c224 rec a0 a1 a2 a3 a4 a5 M0)
set_option maxRecDepth 100000 in
set_option maxHeartbeats 4000000 in
theorem k224 {S : XS} {G : XG} {K : Nat × Nat} {l : Launch} {d : Nat} {rec : Nat → List Value → Mem → XA} (hs : XSnd l xmt rec d) (a0 : Option Nat) (a1 : Int32) (a2 : Int64) (a3 : Int32) (a4 : Int32) (a5 : Int32) (M0 : Mem) : Xe S G K l (yX12_newCase, cX12_newCase, 8, none) d 0 [some (va_rf a0), some (.int a1), some (.long a2), none, some (.int a3), some (.int a4), some (.int a5), none] [] M0 (c224 rec a0 a1 a2 a3 a4 a5 M0) := by
  unfold c224
  refine x_bipush (v := 16) dX12_newCase_0 (by decide) ?_
  refine x_iload_n dX12_newCase_2 rfl ?_
  refine x_imul dX12_newCase_3 ?_
  refine x_aload_n dX12_newCase_4 rfl ?_
  refine gfX12_58 rfl dX12_newCase_5 (fun x1 => ?_)
  refine x_iload_n dX12_newCase_8 rfl ?_
  refine x_iald dX12_newCase_9 (fun x2 => ?_)
  refine x_iadd dX12_newCase_10 ?_
  refine x_ltI (fun x3 => ?_)
  refine x_istore (lo' := [some (va_rf a0), some (.int a1), some (.long a2), none, some (.int a3), some (.int a4), some (.int a5), some (.int x3)]) dX12_newCase_11 (by decide) rfl rfl ?_
  refine x_aload_n dX12_newCase_13 rfl ?_
  refine gfX12_58 rfl dX12_newCase_14 (fun x4 => ?_)
  refine x_iload_n dX12_newCase_17 rfl ?_
  refine x_dup2 dX12_newCase_18 (xc1_i _) (xc1_r _) ?_
  refine x_iald dX12_newCase_19 (fun x5 => ?_)
  refine x_iconst (v := 1) dX12_newCase_20 (by decide) ?_
  refine x_iadd dX12_newCase_21 ?_
  refine x_iast dX12_newCase_22 (fun M6 => ?_)
  refine x_aload_n dX12_newCase_23 rfl ?_
  refine gfX12_61 rfl dX12_newCase_24 (fun x7 => ?_)
  refine x_iload dX12_newCase_27 rfl ?_
  refine x_lload_n dX12_newCase_29 rfl ?_
  refine x_last dX12_newCase_30 (fun M8 => ?_)
  refine x_aload_n dX12_newCase_31 rfl ?_
  refine gfX12_64 rfl dX12_newCase_32 (fun x9 => ?_)
  refine x_iload dX12_newCase_35 rfl ?_
  refine x_aload_n dX12_newCase_37 rfl ?_
  refine gfX12_442 rfl dX12_newCase_38 (fun x10 => ?_)
  refine x_iast dX12_newCase_41 (fun M11 => ?_)
  refine x_aload_n dX12_newCase_42 rfl ?_
  refine gfX12_70 rfl dX12_newCase_43 (fun x12 => ?_)
  refine x_iload dX12_newCase_46 rfl ?_
  refine x_iload dX12_newCase_48 rfl ?_
  refine x_iast dX12_newCase_50 (fun M13 => ?_)
  refine x_aload_n dX12_newCase_51 rfl ?_
  refine gfX12_73 rfl dX12_newCase_52 (fun x14 => ?_)
  refine x_iload dX12_newCase_55 rfl ?_
  refine x_iload dX12_newCase_57 rfl ?_
  refine x_zast dX12_newCase_59 (fun M15 => ?_)
  refine x_aload_n dX12_newCase_60 rfl ?_
  refine gfX12_67 rfl dX12_newCase_61 (fun x16 => ?_)
  refine x_iload dX12_newCase_64 rfl ?_
  refine x_iload dX12_newCase_66 rfl ?_
  refine x_iast dX12_newCase_68 (fun M17 => ?_)
  exact x_vret rfl dX12_newCase_69
theorem s224 {l : Launch} {d : Nat} {rec : Nat → List Value → Mem → XA} (hS : Nonempty XS) (hs : XSnd l xmt rec d) : Snd1 l 224 (b224 rec) d := by
  intro as M r M' h0
  unfold b224 at h0
  obtain ⟨a0, l1, e1, h1⟩ := aR_inv h0
  obtain ⟨a1, l2, e2, h2⟩ := aI_inv h1
  obtain ⟨a2, l3, e3, h3⟩ := aL_inv h2
  obtain ⟨a3, l4, e4, h4⟩ := aI_inv h3
  obtain ⟨a4, l5, e5, h5⟩ := aI_inv h4
  obtain ⟨a5, l6, e6, h6⟩ := aI_inv h5
  obtain ⟨ez, h⟩ := aZ_inv h6
  subst ez
  subst e6
  subst e5
  subst e4
  subst e3
  subst e2
  subst e1
  exact xmet (M := M) (as := [va_rf a0, .int a1, .long a2, .int a3, .int a4, .int a5]) (lo := [some (va_rf a0), some (.int a1), some (.long a2), none, some (.int a3), some (.int a4), some (.int a5)]) 224 xq224 xm224 (by rw [xargs_rf, xargs_i, xargs_l, xargs_i, xargs_i, xargs_i, xargs_nil]; exact ⟨rfl, ⟨rfl, ⟨rfl, ⟨rfl, ⟨rfl, ⟨rfl, trivial⟩⟩⟩⟩⟩⟩) (by rw [xargs_rf, xargs_i, xargs_l, xargs_i, xargs_i, xargs_i, xargs_nil]; exact Nat.le_of_ble_eq_true rfl) (fun S G K => x_weak (by exact ⟨rfl, ⟨rfl, ⟨rfl, ⟨rfl, ⟨rfl, ⟨rfl, trivial⟩⟩⟩⟩⟩⟩) (k224 hs a0 a1 a2 a3 a4 a5 M)) h hS
set_option maxRecDepth 100000 in
def c225_420 (rec : Nat → List Value → Mem → XA) (a0 : Option Nat) (a1 : Int32) (j451 : Mem → XA) (x35 : Int32) : (Int32 × Mem) → ((Int32 × Mem) → XA) → XA := fun s37 j420 =>
  gtP (13, 157) s37.2 a0 17 fun x38 =>
  alI 100 s37.2 x38 a1 fun x39 =>
  if x39 ≤ s37.1 then (
    j451 s37.2) else (
    gtP (13, 157) s37.2 a0 23 fun x40 =>
    asI 100 s37.2 x40 ((((16 : Int32)) * a1) + s37.1) x35 fun M41 =>
    lt (s37.1 + (1 : Int32)) fun (x42 : Int32) =>
    j420 (x42, M41))
set_option maxRecDepth 100000 in
def c225_240 (rec : Nat → List Value → Mem → XA) (a0 : Option Nat) (a1 : Int32) (j395 : Mem → XA) (s24 : Int32) (s27 : Int32 × Mem) (x19 : Int64) (x21 : Int32) : (Int32 × Int32 × Mem) → ((Int32 × Int32 × Mem) → XA) → XA := fun s44 j240 =>
  if s44.2.1 = 0 then (
    j395 s44.2.2) else (
    vC (13, 157) s44.2.2 a0 <|
    cV (rec 191 [va_rf a0] s44.2.2) fun M45 =>
    gtI (13, 157) M45 a0 41 fun x46 =>
    if x46 = 0 then (
      gtI (13, 157) M45 a0 36 fun x47 =>
      jn (fun (s48 : Int32) =>
        vC (13, 157) M45 a0 <|
        cI (rec 193 [va_rf a0, .int s48] M45) fun x50 M49 =>
        if x50 = 0 then (
          j240 (s44.1, (0 : Int32), M49)) else (
          jn (fun (s51 : Int32) =>
            vC (13, 157) M49 a0 <|
            cI (rec 194 [va_rf a0, .int s51, .int ((6 : Int32))] M49) fun x53 M52 =>
            if x53 = 0 then (
              j240 (s44.1, (0 : Int32), M52)) else (
              vC (13, 157) M52 a0 <|
              cV (rec 219 [va_rf a0] M52) fun M54 =>
              jn (fun (s55 : Mem) =>
                lt (s44.1 + (1 : Int32)) fun (x56 : Int32) =>
                gtI (13, 157) s55 a0 41 fun x57 =>
                jn (fun (s58 : Int32) =>
                  j240 (x56, s58, s55)) fun j390 =>
                jn (fun (s59 : Unit) =>
                  j390 ((0 : Int32))) fun j389 =>
                if x57 = 0 then (
                  gtI (13, 157) s55 a0 36 fun x60 =>
                  if x60 = ((44 : Int32)) then (
                    j390 ((1 : Int32))) else (
                    j389 ())) else (
                  j389 ())) fun j366 =>
              if s44.1 = 0 then (
                gtP (13, 157) M54 a0 20 fun x61 =>
                gtI (13, 157) M54 a0 62 fun x62 =>
                asI 100 M54 x61 ((((16 : Int32)) * a1) + x21) x62 fun M63 =>
                j366 M63) else (
                gtI (13, 157) M54 a0 62 fun x64 =>
                vC (13, 157) M54 a0 <|
                cV (rec 224 [va_rf a0, .int a1, .long x19, .int s27.1, .int s24, .int x64] M54) fun M65 =>
                j366 M65))) fun j316 =>
          jn (fun (s66 : Unit) =>
            j316 ((0 : Int32))) fun j315 =>
          if ((4 : Int32)) ≤ s44.1 then (
            j315 ()) else (
            jn (fun (s67 : Unit) =>
              j316 ((1 : Int32))) fun j311 =>
            if s44.1 = 0 then (
              j311 ()) else (
              gtP (13, 157) M49 a0 17 fun x68 =>
              alI 100 M49 x68 a1 fun x69 =>
              if ((16 : Int32)) ≤ x69 then (
                j315 ()) else (
                j311 ()))))) fun j282 =>
      jn (fun (s70 : Unit) =>
        j282 ((1 : Int32))) fun j277 =>
      if x47 = ((45 : Int32)) then (
        j277 ()) else (
        gtI (13, 157) M45 a0 36 fun x71 =>
        if x71 = ((2 : Int32)) then (
          j277 ()) else (
          j282 ((0 : Int32))))) else (
      j240 (s44.1, (0 : Int32), M45)))
set_option maxRecDepth 100000 in
def c225 (rec : Nat → List Value → Mem → XA) (a0 : Option Nat) (a1 : Int32) (M0 : Mem) : XA :=
  vC (13, 157) M0 a0 <|
  cV (rec 191 [va_rf a0] M0) fun M1 =>
  gtI (13, 157) M1 a0 41 fun x2 =>
  jn (fun (s3 : Mem) =>
    some (.null, s3)) fun j81 =>
  if x2 = 0 then (
    gtI (13, 157) M1 a0 36 fun x4 =>
    jn (fun (s5 : Int32) =>
      vC (13, 157) M1 a0 <|
      cI (rec 193 [va_rf a0, .int s5] M1) fun x7 M6 =>
      if x7 = 0 then (
        j81 M6) else (
        gtL (13, 157) M6 a0 39 fun x8 =>
        vC (13, 157) M6 a0 <|
        cI (rec 220 [va_rf a0, .int a1, .long x8] M6) fun x10 M9 =>
        jn (fun (s11 : Int32) =>
          vC (13, 157) M9 a0 <|
          cI (rec 194 [va_rf a0, .int s11, .int ((3 : Int32))] M9) fun x13 M12 =>
          if x13 = 0 then (
            j81 M12) else (
            gtP (13, 157) M12 a0 17 fun x14 =>
            alI 100 M12 x14 a1 fun x15 =>
            jn (fun (s16 : Int32) =>
              vC (13, 157) M12 a0 <|
              cI (rec 194 [va_rf a0, .int s16, .int ((6 : Int32))] M12) fun x18 M17 =>
              if x18 = 0 then (
                j81 M17) else (
                gtL (13, 157) M17 a0 39 fun x19 =>
                gtP (13, 157) M17 a0 17 fun x20 =>
                alI 100 M17 x20 a1 fun x21 =>
                vC (13, 157) M17 a0 <|
                cV (rec 191 [va_rf a0] M17) fun M22 =>
                gtI (13, 157) M22 a0 36 fun x23 =>
                jn (fun (s24 : Int32) =>
                  jn (fun (s25 : Mem) =>
                    gtI (13, 157) s25 a0 41 fun x26 =>
                    jn (fun (s27 : Int32 × Mem) =>
                      vC (13, 157) s27.2 a0 <|
                      cV (rec 224 [va_rf a0, .int a1, .long x19, .int s27.1, .int s24, .int ((0 : Int32))] s27.2) fun M28 =>
                      gtI (13, 157) M28 a0 41 fun x29 =>
                      jn (fun (s30 : Mem) =>
                        gtP (13, 157) s30 a0 52 fun x31 =>
                        asL s30 x31 ((0 : Int32)) ((26996 : Int64)) fun M32 =>
                        ptI (13, 157) M32 a0 51 ((1 : Int32)) fun M33 =>
                        vC (13, 157) M33 a0 <|
                        cI (rec 218 [va_rf a0, .int ((0 : Int32))] M33) fun x35 M34 =>
                        jn (fun (s36 : Mem) =>
                          some (.null, s36)) fun j451 =>
                        lp (c225_420 rec a0 a1 j451 x35) 4294967296 (x21, M34)) fun j395 =>
                      if x29 = 0 then (
                        gtI (13, 157) M28 a0 36 fun x43 =>
                        if x43 = ((414 : Int32)) then (
                          lp (c225_240 rec a0 a1 j395 s24 s27 x19 x21) 4294967296 ((0 : Int32), (1 : Int32), M28)) else (
                          j395 M28)) else (
                        j395 M28)) fun j206 =>
                    if x26 = 0 then (
                      gtI (13, 157) s25 a0 36 fun x72 =>
                      if x72 = ((413 : Int32)) then (
                        vC (13, 157) s25 a0 <|
                        cV (rec 191 [va_rf a0] s25) fun M73 =>
                        gtI (13, 157) M73 a0 41 fun x74 =>
                        if x74 = 0 then (
                          gtI (13, 157) M73 a0 36 fun x75 =>
                          jn (fun (s76 : Int32) =>
                            vC (13, 157) M73 a0 <|
                            cI (rec 193 [va_rf a0, .int s76] M73) fun x78 M77 =>
                            if x78 = 0 then (
                              j206 ((0 : Int32), M77)) else (
                              gtI (13, 157) M77 a0 40 fun x79 =>
                              jn (fun (s80 : Int32) =>
                                vC (13, 157) M77 a0 <|
                                cI (rec 194 [va_rf a0, .int s80, .int ((5 : Int32))] M77) fun x82 M81 =>
                                if x82 = 0 then (
                                  j206 ((0 : Int32), M81)) else (
                                  gtI (13, 157) M81 a0 40 fun x83 =>
                                  vC (13, 157) M81 a0 <|
                                  cV (rec 191 [va_rf a0] M81) fun M84 =>
                                  j206 (x83, M84))) fun j189 =>
                              if x79 ≤ 0 then (
                                j189 ((0 : Int32))) else (
                                j189 ((1 : Int32))))) fun j170 =>
                          if x75 = ((2 : Int32)) then (
                            j170 ((1 : Int32))) else (
                            j170 ((0 : Int32)))) else (
                          j206 ((0 : Int32), M73))) else (
                        j206 ((0 : Int32), s25))) else (
                      j206 ((0 : Int32), s25))) fun j125 =>
                  if s24 = 0 then (
                    j125 M22) else (
                    vC (13, 157) M22 a0 <|
                    cV (rec 191 [va_rf a0] M22) fun M85 =>
                    j125 M85)) fun j114 =>
                if x23 = ((412 : Int32)) then (
                  j114 ((1 : Int32))) else (
                  j114 ((0 : Int32))))) fun j73 =>
            if ((16 : Int32)) ≤ x15 then (
              j73 ((0 : Int32))) else (
              j73 ((1 : Int32))))) fun j49 =>
        if x10 = 0 then (
          j49 ((1 : Int32))) else (
          j49 ((0 : Int32))))) fun j25 =>
    if x4 = ((1 : Int32)) then (
      j25 ((1 : Int32))) else (
      j25 ((0 : Int32)))) else (
    j81 M1)
def b225 (rec : Nat → List Value → Mem → XA) (as : List Value) (M0 : Mem) : XA := aR as fun a0 as => aI as fun a1 as => aZ as (c225 rec a0 a1 M0)
set_option maxRecDepth 100000 in
set_option maxHeartbeats 4000000 in
theorem k225 {S : XS} {G : XG} {K : Nat × Nat} {l : Launch} {d : Nat} {rec : Nat → List Value → Mem → XA} (hs : XSnd l xmt rec d) (a0 : Option Nat) (a1 : Int32) (M0 : Mem) : Xe S G K l (yX12_test, cX12_test, 9, none) d 0 [some (va_rf a0), some (.int a1), none, none, none, none, none, none, none] [] M0 (c225 rec a0 a1 M0) := by
  unfold c225
  refine x_aload_n dX12_test_0 rfl ?_
  refine cmX12_436 rfl hs (Nat.le_of_ble_eq_true rfl) dX12_test_1 (fun M1 => ?_)
  refine x_aload_n dX12_test_4 rfl ?_
  refine gfX12_395 rfl dX12_test_5 (fun x2 => ?_)
  refine x_jn (σ := Mem) 81 (fun s3 => [none, none, none, none, none, none, none, none, none]) (fun s3 => []) (fun s3 => s3) (fun s3 => ?_) (fun j81 hj81 => ?_)
  · exact x_vret rfl dX12_test_81
  refine x_if_ne (tgt := 81) dX12_test_8 (by decide) (fun _ => ?_) (fun _ => ?_)
  · refine x_aload_n dX12_test_11 rfl ?_
    refine x_aload_n dX12_test_12 rfl ?_
    refine gfX12_408 rfl dX12_test_13 (fun x4 => ?_)
    refine x_iconst (v := 1) dX12_test_16 (by decide) ?_
    refine x_jn (σ := Int32) 25 (fun s5 => [some (va_rf a0), some (.int a1), none, none, none, none, none, none, none]) (fun s5 => [.int s5, va_rf a0]) (fun s5 => M1) (fun s5 => ?_) (fun j25 hj25 => ?_)
    · refine cmX12_432 rfl hs (Nat.le_of_ble_eq_true rfl) dX12_test_25 (fun x7 M6 => ?_)
      refine x_if_eq (tgt := 81) dX12_test_28 (by decide) (fun _ => ?_) (fun _ => ?_)
      · exact x_weak (by exact trivial) (hj81 M6)
      · refine x_aload_n dX12_test_31 rfl ?_
        refine x_aload_n dX12_test_32 rfl ?_
        refine x_iload_n dX12_test_33 rfl ?_
        refine x_aload_n dX12_test_34 rfl ?_
        refine gfX12_415 rfl dX12_test_35 (fun x8 => ?_)
        refine cmX12_551 rfl hs (Nat.le_of_ble_eq_true rfl) dX12_test_38 (fun x10 M9 => ?_)
        refine x_jn (σ := Int32) 49 (fun s11 => [some (va_rf a0), some (.int a1), none, none, none, none, none, none, none]) (fun s11 => [.int s11, va_rf a0]) (fun s11 => M9) (fun s11 => ?_) (fun j49 hj49 => ?_)
        · refine x_iconst (v := 3) dX12_test_49 (by decide) ?_
          refine cmX12_455 rfl hs (Nat.le_of_ble_eq_true rfl) dX12_test_50 (fun x13 M12 => ?_)
          refine x_if_eq (tgt := 81) dX12_test_53 (by decide) (fun _ => ?_) (fun _ => ?_)
          · exact x_weak (by exact trivial) (hj81 M12)
          · refine x_aload_n dX12_test_56 rfl ?_
            refine x_aload_n dX12_test_57 rfl ?_
            refine gfX12_58 rfl dX12_test_58 (fun x14 => ?_)
            refine x_iload_n dX12_test_61 rfl ?_
            refine x_iald dX12_test_62 (fun x15 => ?_)
            refine x_bipush (v := 16) dX12_test_63 (by decide) ?_
            refine x_jn (σ := Int32) 73 (fun s16 => [some (va_rf a0), some (.int a1), none, none, none, none, none, none, none]) (fun s16 => [.int s16, va_rf a0]) (fun s16 => M12) (fun s16 => ?_) (fun j73 hj73 => ?_)
            · refine x_bipush (v := 6) dX12_test_73 (by decide) ?_
              refine cmX12_455 rfl hs (Nat.le_of_ble_eq_true rfl) dX12_test_75 (fun x18 M17 => ?_)
              refine x_if_ne (tgt := 82) dX12_test_78 (by decide) (fun _ => ?_) (fun _ => ?_)
              · exact x_weak (by exact trivial) (hj81 M17)
              · refine x_aload_n dX12_test_82 rfl ?_
                refine gfX12_415 rfl dX12_test_83 (fun x19 => ?_)
                refine x_lstore_n (lo' := [some (va_rf a0), some (.int a1), some (.long x19), none, none, none, none, none, none]) dX12_test_86 (by decide) rfl rfl ?_
                refine x_aload_n dX12_test_87 rfl ?_
                refine gfX12_58 rfl dX12_test_88 (fun x20 => ?_)
                refine x_iload_n dX12_test_91 rfl ?_
                refine x_iald dX12_test_92 (fun x21 => ?_)
                refine x_istore (lo' := [some (va_rf a0), some (.int a1), some (.long x19), none, some (.int x21), none, none, none, none]) dX12_test_93 (by decide) rfl rfl ?_
                refine x_aload_n dX12_test_95 rfl ?_
                refine cmX12_436 rfl hs (Nat.le_of_ble_eq_true rfl) dX12_test_96 (fun M22 => ?_)
                refine x_aload_n dX12_test_99 rfl ?_
                refine gfX12_408 rfl dX12_test_100 (fun x23 => ?_)
                refine x_sipush (v := 412) dX12_test_103 (by decide) ?_
                refine x_jn (σ := Int32) 114 (fun s24 => [some (va_rf a0), some (.int a1), some (.long x19), none, some (.int x21), none, none, none, none]) (fun s24 => [.int s24]) (fun s24 => M22) (fun s24 => ?_) (fun j114 hj114 => ?_)
                · refine x_istore (lo' := [some (va_rf a0), some (.int a1), some (.long x19), none, some (.int x21), some (.int s24), none, none, none]) dX12_test_114 (by decide) rfl rfl ?_
                  refine x_iload dX12_test_116 rfl ?_
                  refine x_jn (σ := Mem) 125 (fun s25 => [some (va_rf a0), some (.int a1), some (.long x19), none, some (.int x21), some (.int s24), none, none, none]) (fun s25 => []) (fun s25 => s25) (fun s25 => ?_) (fun j125 hj125 => ?_)
                  · refine x_iconst (v := 0) dX12_test_125 (by decide) ?_
                    refine x_istore (lo' := [some (va_rf a0), some (.int a1), some (.long x19), none, some (.int x21), some (.int s24), some (.int ((0 : Int32))), none, none]) dX12_test_126 (by decide) rfl rfl ?_
                    refine x_aload_n dX12_test_128 rfl ?_
                    refine gfX12_395 rfl dX12_test_129 (fun x26 => ?_)
                    refine x_jn (σ := Int32 × Mem) 206 (fun s27 => [some (va_rf a0), some (.int a1), some (.long x19), none, some (.int x21), some (.int s24), some (.int s27.1), none, none]) (fun s27 => []) (fun s27 => s27.2) (fun s27 => ?_) (fun j206 hj206 => ?_)
                    · refine x_aload_n dX12_test_206 rfl ?_
                      refine x_iload_n dX12_test_207 rfl ?_
                      refine x_lload_n dX12_test_208 rfl ?_
                      refine x_iload dX12_test_209 rfl ?_
                      refine x_iload dX12_test_211 rfl ?_
                      refine x_iconst (v := 0) dX12_test_213 (by decide) ?_
                      refine cmX12_564 rfl hs (Nat.le_of_ble_eq_true rfl) dX12_test_214 (fun M28 => ?_)
                      refine x_aload_n dX12_test_217 rfl ?_
                      refine gfX12_395 rfl dX12_test_218 (fun x29 => ?_)
                      refine x_jn (σ := Mem) 395 (fun s30 => [some (va_rf a0), some (.int a1), none, none, some (.int x21), none, none, none, none]) (fun s30 => []) (fun s30 => s30) (fun s30 => ?_) (fun j395 hj395 => ?_)
                      · refine x_aload_n dX12_test_395 rfl ?_
                        refine gfX12_188 rfl dX12_test_396 (fun x31 => ?_)
                        refine x_iconst (v := 0) dX12_test_399 (by decide) ?_
                        refine x_gets (v := .long 26996) z_it lsX12_568 dX12_test_400 ?_
                        refine x_last dX12_test_403 (fun M32 => ?_)
                        refine x_aload_n dX12_test_404 rfl ?_
                        refine x_iconst (v := 1) dX12_test_405 (by decide) ?_
                        refine pfX12_448 rfl dX12_test_406 (fun M33 => ?_)
                        refine x_aload_n dX12_test_409 rfl ?_
                        refine x_iconst (v := 0) dX12_test_410 (by decide) ?_
                        refine cmX12_543 rfl hs (Nat.le_of_ble_eq_true rfl) dX12_test_411 (fun x35 M34 => ?_)
                        refine x_istore (lo' := [some (va_rf a0), some (.int a1), none, none, some (.int x21), none, none, some (.int x35), none]) dX12_test_414 (by decide) rfl rfl ?_
                        refine x_iload dX12_test_416 rfl ?_
                        refine x_istore (lo' := [some (va_rf a0), some (.int a1), none, none, some (.int x21), none, none, some (.int x35), some (.int x21)]) dX12_test_418 (by decide) rfl rfl ?_
                        refine x_jn (σ := Mem) 451 (fun s36 => [none, none, none, none, none, none, none, none, none]) (fun s36 => []) (fun s36 => s36) (fun s36 => ?_) (fun j451 hj451 => ?_)
                        · exact x_vret rfl dX12_test_451
                        refine x_weak (by exact ⟨rfl, ⟨rfl, ⟨rfl, ⟨rfl, trivial⟩⟩⟩⟩) (x_lp (σ := Int32 × Mem) 420 (fun s37 => [some (va_rf a0), some (.int a1), none, none, none, none, none, some (.int x35), some (.int s37.1)]) (fun s37 => []) (fun s37 => s37.2) (fun s37 j420 hj420 => ?_) 4294967296 (x21, M34))
                        · refine x_iload dX12_test_420 rfl ?_
                          refine x_aload_n dX12_test_422 rfl ?_
                          refine gfX12_58 rfl dX12_test_423 (fun x38 => ?_)
                          refine x_iload_n dX12_test_426 rfl ?_
                          refine x_iald dX12_test_427 (fun x39 => ?_)
                          refine x_icmp_ge (tgt := 451) dX12_test_428 (by decide) (fun _ => ?_) (fun _ => ?_)
                          · exact x_weak (by exact trivial) (hj451 s37.2)
                          · refine x_aload_n dX12_test_431 rfl ?_
                            refine gfX12_76 rfl dX12_test_432 (fun x40 => ?_)
                            refine x_bipush (v := 16) dX12_test_435 (by decide) ?_
                            refine x_iload_n dX12_test_437 rfl ?_
                            refine x_imul dX12_test_438 ?_
                            refine x_iload dX12_test_439 rfl ?_
                            refine x_iadd dX12_test_441 ?_
                            refine x_iload dX12_test_442 rfl ?_
                            refine x_iast dX12_test_444 (fun M41 => ?_)
                            refine x_iincN (v := 1) (lo' := fun x42 => [some (va_rf a0), some (.int a1), none, none, none, none, none, some (.int x35), some (.int x42)]) (by decide) dX12_test_445 rfl (by decide) rfl (fun _ => rfl) (fun x42 => ?_)
                            refine x_goto (tgt := 420) dX12_test_448 (by decide) ?_
                            exact x_weak (by exact ⟨rfl, ⟨rfl, ⟨rfl, ⟨rfl, trivial⟩⟩⟩⟩) (hj420 (x42, M41))
                      refine x_if_ne (tgt := 395) dX12_test_221 (by decide) (fun _ => ?_) (fun _ => ?_)
                      · refine x_aload_n dX12_test_224 rfl ?_
                        refine gfX12_408 rfl dX12_test_225 (fun x43 => ?_)
                        refine x_sipush (v := 414) dX12_test_228 (by decide) ?_
                        refine x_icmp_ne (tgt := 395) dX12_test_231 (by decide) (fun _ => ?_) (fun _ => ?_)
                        · refine x_iconst (v := 0) dX12_test_234 (by decide) ?_
                          refine x_istore (lo' := [some (va_rf a0), some (.int a1), some (.long x19), none, some (.int x21), some (.int s24), some (.int s27.1), some (.int ((0 : Int32))), none]) dX12_test_235 (by decide) rfl rfl ?_
                          refine x_iconst (v := 1) dX12_test_237 (by decide) ?_
                          refine x_istore (lo' := [some (va_rf a0), some (.int a1), some (.long x19), none, some (.int x21), some (.int s24), some (.int s27.1), some (.int ((0 : Int32))), some (.int ((1 : Int32)))]) dX12_test_238 (by decide) rfl rfl ?_
                          refine x_weak (by exact ⟨rfl, ⟨rfl, ⟨rfl, ⟨rfl, ⟨rfl, ⟨rfl, ⟨rfl, ⟨rfl, trivial⟩⟩⟩⟩⟩⟩⟩⟩) (x_lp (σ := Int32 × Int32 × Mem) 240 (fun s44 => [some (va_rf a0), some (.int a1), some (.long x19), none, some (.int x21), some (.int s24), some (.int s27.1), some (.int s44.1), some (.int s44.2.1)]) (fun s44 => []) (fun s44 => s44.2.2) (fun s44 j240 hj240 => ?_) 4294967296 ((0 : Int32), (1 : Int32), M28))
                          · refine x_iload dX12_test_240 rfl ?_
                            refine x_if_eq (tgt := 395) dX12_test_242 (by decide) (fun _ => ?_) (fun _ => ?_)
                            · exact x_weak (by exact ⟨rfl, ⟨rfl, ⟨rfl, trivial⟩⟩⟩) (hj395 s44.2.2)
                            · refine x_aload_n dX12_test_245 rfl ?_
                              refine cmX12_436 rfl hs (Nat.le_of_ble_eq_true rfl) dX12_test_246 (fun M45 => ?_)
                              refine x_iconst (v := 0) dX12_test_249 (by decide) ?_
                              refine x_istore (lo' := [some (va_rf a0), some (.int a1), some (.long x19), none, some (.int x21), some (.int s24), some (.int s27.1), some (.int s44.1), some (.int ((0 : Int32)))]) dX12_test_250 (by decide) rfl rfl ?_
                              refine x_aload_n dX12_test_252 rfl ?_
                              refine gfX12_395 rfl dX12_test_253 (fun x46 => ?_)
                              refine x_if_ne (tgt := 240) dX12_test_256 (by decide) (fun _ => ?_) (fun _ => ?_)
                              · refine x_aload_n dX12_test_259 rfl ?_
                                refine x_aload_n dX12_test_260 rfl ?_
                                refine gfX12_408 rfl dX12_test_261 (fun x47 => ?_)
                                refine x_bipush (v := 45) dX12_test_264 (by decide) ?_
                                refine x_jn (σ := Int32) 282 (fun s48 => [some (va_rf a0), some (.int a1), some (.long x19), none, some (.int x21), some (.int s24), some (.int s27.1), some (.int s44.1), some (.int ((0 : Int32)))]) (fun s48 => [.int s48, va_rf a0]) (fun s48 => M45) (fun s48 => ?_) (fun j282 hj282 => ?_)
                                · refine cmX12_432 rfl hs (Nat.le_of_ble_eq_true rfl) dX12_test_282 (fun x50 M49 => ?_)
                                  refine x_if_eq (tgt := 240) dX12_test_285 (by decide) (fun _ => ?_) (fun _ => ?_)
                                  · exact x_weak (by exact ⟨rfl, ⟨rfl, ⟨rfl, ⟨rfl, ⟨rfl, ⟨rfl, ⟨rfl, ⟨rfl, trivial⟩⟩⟩⟩⟩⟩⟩⟩) (hj240 (s44.1, (0 : Int32), M49))
                                  · refine x_aload_n dX12_test_288 rfl ?_
                                    refine x_iload dX12_test_289 rfl ?_
                                    refine x_iconst (v := 4) dX12_test_291 (by decide) ?_
                                    refine x_jn (σ := Int32) 316 (fun s51 => [some (va_rf a0), some (.int a1), some (.long x19), none, some (.int x21), some (.int s24), some (.int s27.1), some (.int s44.1), some (.int ((0 : Int32)))]) (fun s51 => [.int s51, va_rf a0]) (fun s51 => M49) (fun s51 => ?_) (fun j316 hj316 => ?_)
                                    · refine x_bipush (v := 6) dX12_test_316 (by decide) ?_
                                      refine cmX12_455 rfl hs (Nat.le_of_ble_eq_true rfl) dX12_test_318 (fun x53 M52 => ?_)
                                      refine x_if_eq (tgt := 240) dX12_test_321 (by decide) (fun _ => ?_) (fun _ => ?_)
                                      · exact x_weak (by exact ⟨rfl, ⟨rfl, ⟨rfl, ⟨rfl, ⟨rfl, ⟨rfl, ⟨rfl, ⟨rfl, trivial⟩⟩⟩⟩⟩⟩⟩⟩) (hj240 (s44.1, (0 : Int32), M52))
                                      · refine x_aload_n dX12_test_324 rfl ?_
                                        refine cmX12_558 rfl hs (Nat.le_of_ble_eq_true rfl) dX12_test_325 (fun M54 => ?_)
                                        refine x_iload dX12_test_328 rfl ?_
                                        refine x_jn (σ := Mem) 366 (fun s55 => [some (va_rf a0), some (.int a1), some (.long x19), none, some (.int x21), some (.int s24), some (.int s27.1), some (.int s44.1), none]) (fun s55 => []) (fun s55 => s55) (fun s55 => ?_) (fun j366 hj366 => ?_)
                                        · refine x_iincN (v := 1) (lo' := fun x56 => [some (va_rf a0), some (.int a1), some (.long x19), none, some (.int x21), some (.int s24), some (.int s27.1), some (.int x56), none]) (by decide) dX12_test_366 rfl (by decide) rfl (fun _ => rfl) (fun x56 => ?_)
                                          refine x_aload_n dX12_test_369 rfl ?_
                                          refine gfX12_395 rfl dX12_test_370 (fun x57 => ?_)
                                          refine x_jn (σ := Int32) 390 (fun s58 => [some (va_rf a0), some (.int a1), some (.long x19), none, some (.int x21), some (.int s24), some (.int s27.1), some (.int x56), none]) (fun s58 => [.int s58]) (fun s58 => s55) (fun s58 => ?_) (fun j390 hj390 => ?_)
                                          · refine x_istore (lo' := [some (va_rf a0), some (.int a1), some (.long x19), none, some (.int x21), some (.int s24), some (.int s27.1), some (.int x56), some (.int s58)]) dX12_test_390 (by decide) rfl rfl ?_
                                            refine x_goto (tgt := 240) dX12_test_392 (by decide) ?_
                                            exact x_weak (by exact ⟨rfl, ⟨rfl, ⟨rfl, ⟨rfl, ⟨rfl, ⟨rfl, ⟨rfl, ⟨rfl, trivial⟩⟩⟩⟩⟩⟩⟩⟩) (hj240 (x56, s58, s55))
                                          refine x_jn (σ := Unit) 389 (fun s59 => [some (va_rf a0), some (.int a1), some (.long x19), none, some (.int x21), some (.int s24), some (.int s27.1), some (.int x56), none]) (fun s59 => []) (fun s59 => s55) (fun s59 => ?_) (fun j389 hj389 => ?_)
                                          · refine x_iconst (v := 0) dX12_test_389 (by decide) ?_
                                            exact x_weak (by exact ⟨rfl, ⟨rfl, ⟨rfl, ⟨rfl, ⟨rfl, ⟨rfl, ⟨rfl, trivial⟩⟩⟩⟩⟩⟩⟩) (hj390 ((0 : Int32)))
                                          refine x_if_ne (tgt := 389) dX12_test_373 (by decide) (fun _ => ?_) (fun _ => ?_)
                                          · refine x_aload_n dX12_test_376 rfl ?_
                                            refine gfX12_408 rfl dX12_test_377 (fun x60 => ?_)
                                            refine x_bipush (v := 44) dX12_test_380 (by decide) ?_
                                            refine x_icmp_ne (tgt := 389) dX12_test_382 (by decide) (fun _ => ?_) (fun _ => ?_)
                                            · refine x_iconst (v := 1) dX12_test_385 (by decide) ?_
                                              refine x_goto (tgt := 390) dX12_test_386 (by decide) ?_
                                              exact x_weak (by exact ⟨rfl, ⟨rfl, ⟨rfl, ⟨rfl, ⟨rfl, ⟨rfl, ⟨rfl, trivial⟩⟩⟩⟩⟩⟩⟩) (hj390 ((1 : Int32)))
                                            · exact x_weak (by exact ⟨rfl, ⟨rfl, ⟨rfl, ⟨rfl, ⟨rfl, ⟨rfl, ⟨rfl, trivial⟩⟩⟩⟩⟩⟩⟩) (hj389 ())
                                          · exact x_weak (by exact ⟨rfl, ⟨rfl, ⟨rfl, ⟨rfl, ⟨rfl, ⟨rfl, ⟨rfl, trivial⟩⟩⟩⟩⟩⟩⟩) (hj389 ())
                                        refine x_if_ne (tgt := 352) dX12_test_330 (by decide) (fun _ => ?_) (fun _ => ?_)
                                        · refine x_aload_n dX12_test_333 rfl ?_
                                          refine gfX12_67 rfl dX12_test_334 (fun x61 => ?_)
                                          refine x_bipush (v := 16) dX12_test_337 (by decide) ?_
                                          refine x_iload_n dX12_test_339 rfl ?_
                                          refine x_imul dX12_test_340 ?_
                                          refine x_iload dX12_test_341 rfl ?_
                                          refine x_iadd dX12_test_343 ?_
                                          refine x_aload_n dX12_test_344 rfl ?_
                                          refine gfX12_536 rfl dX12_test_345 (fun x62 => ?_)
                                          refine x_iast dX12_test_348 (fun M63 => ?_)
                                          refine x_goto (tgt := 366) dX12_test_349 (by decide) ?_
                                          exact x_weak (by exact ⟨rfl, ⟨rfl, ⟨rfl, ⟨rfl, ⟨rfl, ⟨rfl, ⟨rfl, trivial⟩⟩⟩⟩⟩⟩⟩) (hj366 M63)
                                        · refine x_aload_n dX12_test_352 rfl ?_
                                          refine x_iload_n dX12_test_353 rfl ?_
                                          refine x_lload_n dX12_test_354 rfl ?_
                                          refine x_iload dX12_test_355 rfl ?_
                                          refine x_iload dX12_test_357 rfl ?_
                                          refine x_aload_n dX12_test_359 rfl ?_
                                          refine gfX12_536 rfl dX12_test_360 (fun x64 => ?_)
                                          refine cmX12_564 rfl hs (Nat.le_of_ble_eq_true rfl) dX12_test_363 (fun M65 => ?_)
                                          exact x_weak (by exact ⟨rfl, ⟨rfl, ⟨rfl, ⟨rfl, ⟨rfl, ⟨rfl, ⟨rfl, trivial⟩⟩⟩⟩⟩⟩⟩) (hj366 M65)
                                    refine x_jn (σ := Unit) 315 (fun s66 => [some (va_rf a0), some (.int a1), some (.long x19), none, some (.int x21), some (.int s24), some (.int s27.1), some (.int s44.1), some (.int ((0 : Int32)))]) (fun s66 => [va_rf a0]) (fun s66 => M49) (fun s66 => ?_) (fun j315 hj315 => ?_)
                                    · refine x_iconst (v := 0) dX12_test_315 (by decide) ?_
                                      exact x_weak (by exact ⟨rfl, ⟨rfl, ⟨rfl, ⟨rfl, ⟨rfl, ⟨rfl, ⟨rfl, ⟨rfl, trivial⟩⟩⟩⟩⟩⟩⟩⟩) (hj316 ((0 : Int32)))
                                    refine x_icmp_ge (tgt := 315) dX12_test_292 (by decide) (fun _ => ?_) (fun _ => ?_)
                                    · exact x_weak (by exact ⟨rfl, ⟨rfl, ⟨rfl, ⟨rfl, ⟨rfl, ⟨rfl, ⟨rfl, ⟨rfl, trivial⟩⟩⟩⟩⟩⟩⟩⟩) (hj315 ())
                                    · refine x_iload dX12_test_295 rfl ?_
                                      refine x_jn (σ := Unit) 311 (fun s67 => [some (va_rf a0), some (.int a1), some (.long x19), none, some (.int x21), some (.int s24), some (.int s27.1), some (.int s44.1), some (.int ((0 : Int32)))]) (fun s67 => [va_rf a0]) (fun s67 => M49) (fun s67 => ?_) (fun j311 hj311 => ?_)
                                      · refine x_iconst (v := 1) dX12_test_311 (by decide) ?_
                                        refine x_goto (tgt := 316) dX12_test_312 (by decide) ?_
                                        exact x_weak (by exact ⟨rfl, ⟨rfl, ⟨rfl, ⟨rfl, ⟨rfl, ⟨rfl, ⟨rfl, ⟨rfl, trivial⟩⟩⟩⟩⟩⟩⟩⟩) (hj316 ((1 : Int32)))
                                      refine x_if_eq (tgt := 311) dX12_test_297 (by decide) (fun _ => ?_) (fun _ => ?_)
                                      · exact x_weak (by exact ⟨rfl, ⟨rfl, ⟨rfl, ⟨rfl, ⟨rfl, ⟨rfl, ⟨rfl, ⟨rfl, trivial⟩⟩⟩⟩⟩⟩⟩⟩) (hj311 ())
                                      · refine x_aload_n dX12_test_300 rfl ?_
                                        refine gfX12_58 rfl dX12_test_301 (fun x68 => ?_)
                                        refine x_iload_n dX12_test_304 rfl ?_
                                        refine x_iald dX12_test_305 (fun x69 => ?_)
                                        refine x_bipush (v := 16) dX12_test_306 (by decide) ?_
                                        refine x_icmp_ge (tgt := 315) dX12_test_308 (by decide) (fun _ => ?_) (fun _ => ?_)
                                        · exact x_weak (by exact ⟨rfl, ⟨rfl, ⟨rfl, ⟨rfl, ⟨rfl, ⟨rfl, ⟨rfl, ⟨rfl, trivial⟩⟩⟩⟩⟩⟩⟩⟩) (hj315 ())
                                        · exact x_weak (by exact ⟨rfl, ⟨rfl, ⟨rfl, ⟨rfl, ⟨rfl, ⟨rfl, ⟨rfl, ⟨rfl, trivial⟩⟩⟩⟩⟩⟩⟩⟩) (hj311 ())
                                refine x_jn (σ := Unit) 277 (fun s70 => [some (va_rf a0), some (.int a1), some (.long x19), none, some (.int x21), some (.int s24), some (.int s27.1), some (.int s44.1), some (.int ((0 : Int32)))]) (fun s70 => [va_rf a0]) (fun s70 => M45) (fun s70 => ?_) (fun j277 hj277 => ?_)
                                · refine x_iconst (v := 1) dX12_test_277 (by decide) ?_
                                  refine x_goto (tgt := 282) dX12_test_278 (by decide) ?_
                                  exact x_weak (by exact ⟨rfl, ⟨rfl, ⟨rfl, ⟨rfl, ⟨rfl, ⟨rfl, ⟨rfl, ⟨rfl, trivial⟩⟩⟩⟩⟩⟩⟩⟩) (hj282 ((1 : Int32)))
                                refine x_icmp_eq (tgt := 277) dX12_test_266 (by decide) (fun _ => ?_) (fun _ => ?_)
                                · exact x_weak (by exact ⟨rfl, ⟨rfl, ⟨rfl, ⟨rfl, ⟨rfl, ⟨rfl, ⟨rfl, ⟨rfl, trivial⟩⟩⟩⟩⟩⟩⟩⟩) (hj277 ())
                                · refine x_aload_n dX12_test_269 rfl ?_
                                  refine gfX12_408 rfl dX12_test_270 (fun x71 => ?_)
                                  refine x_iconst (v := 2) dX12_test_273 (by decide) ?_
                                  refine x_icmp_ne (tgt := 281) dX12_test_274 (by decide) (fun _ => ?_) (fun _ => ?_)
                                  · exact x_weak (by exact ⟨rfl, ⟨rfl, ⟨rfl, ⟨rfl, ⟨rfl, ⟨rfl, ⟨rfl, ⟨rfl, trivial⟩⟩⟩⟩⟩⟩⟩⟩) (hj277 ())
                                  · refine x_iconst (v := 0) dX12_test_281 (by decide) ?_
                                    exact x_weak (by exact ⟨rfl, ⟨rfl, ⟨rfl, ⟨rfl, ⟨rfl, ⟨rfl, ⟨rfl, ⟨rfl, trivial⟩⟩⟩⟩⟩⟩⟩⟩) (hj282 ((0 : Int32)))
                              · exact x_weak (by exact ⟨rfl, ⟨rfl, ⟨rfl, ⟨rfl, ⟨rfl, ⟨rfl, ⟨rfl, ⟨rfl, trivial⟩⟩⟩⟩⟩⟩⟩⟩) (hj240 (s44.1, (0 : Int32), M45))
                        · exact x_weak (by exact ⟨rfl, ⟨rfl, ⟨rfl, trivial⟩⟩⟩) (hj395 M28)
                      · exact x_weak (by exact ⟨rfl, ⟨rfl, ⟨rfl, trivial⟩⟩⟩) (hj395 M28)
                    refine x_if_ne (tgt := 206) dX12_test_132 (by decide) (fun _ => ?_) (fun _ => ?_)
                    · refine x_aload_n dX12_test_135 rfl ?_
                      refine gfX12_408 rfl dX12_test_136 (fun x72 => ?_)
                      refine x_sipush (v := 413) dX12_test_139 (by decide) ?_
                      refine x_icmp_ne (tgt := 206) dX12_test_142 (by decide) (fun _ => ?_) (fun _ => ?_)
                      · refine x_aload_n dX12_test_145 rfl ?_
                        refine cmX12_436 rfl hs (Nat.le_of_ble_eq_true rfl) dX12_test_146 (fun M73 => ?_)
                        refine x_aload_n dX12_test_149 rfl ?_
                        refine gfX12_395 rfl dX12_test_150 (fun x74 => ?_)
                        refine x_if_ne (tgt := 206) dX12_test_153 (by decide) (fun _ => ?_) (fun _ => ?_)
                        · refine x_aload_n dX12_test_156 rfl ?_
                          refine x_aload_n dX12_test_157 rfl ?_
                          refine gfX12_408 rfl dX12_test_158 (fun x75 => ?_)
                          refine x_iconst (v := 2) dX12_test_161 (by decide) ?_
                          refine x_jn (σ := Int32) 170 (fun s76 => [some (va_rf a0), some (.int a1), some (.long x19), none, some (.int x21), some (.int s24), some (.int ((0 : Int32))), none, none]) (fun s76 => [.int s76, va_rf a0]) (fun s76 => M73) (fun s76 => ?_) (fun j170 hj170 => ?_)
                          · refine cmX12_432 rfl hs (Nat.le_of_ble_eq_true rfl) dX12_test_170 (fun x78 M77 => ?_)
                            refine x_if_eq (tgt := 206) dX12_test_173 (by decide) (fun _ => ?_) (fun _ => ?_)
                            · exact x_weak (by exact ⟨rfl, ⟨rfl, ⟨rfl, ⟨rfl, ⟨rfl, ⟨rfl, trivial⟩⟩⟩⟩⟩⟩) (hj206 ((0 : Int32), M77))
                            · refine x_aload_n dX12_test_176 rfl ?_
                              refine x_aload_n dX12_test_177 rfl ?_
                              refine gfX12_422 rfl dX12_test_178 (fun x79 => ?_)
                              refine x_jn (σ := Int32) 189 (fun s80 => [some (va_rf a0), some (.int a1), some (.long x19), none, some (.int x21), some (.int s24), some (.int ((0 : Int32))), none, none]) (fun s80 => [.int s80, va_rf a0]) (fun s80 => M77) (fun s80 => ?_) (fun j189 hj189 => ?_)
                              · refine x_iconst (v := 5) dX12_test_189 (by decide) ?_
                                refine cmX12_455 rfl hs (Nat.le_of_ble_eq_true rfl) dX12_test_190 (fun x82 M81 => ?_)
                                refine x_if_eq (tgt := 206) dX12_test_193 (by decide) (fun _ => ?_) (fun _ => ?_)
                                · exact x_weak (by exact ⟨rfl, ⟨rfl, ⟨rfl, ⟨rfl, ⟨rfl, ⟨rfl, trivial⟩⟩⟩⟩⟩⟩) (hj206 ((0 : Int32), M81))
                                · refine x_aload_n dX12_test_196 rfl ?_
                                  refine gfX12_422 rfl dX12_test_197 (fun x83 => ?_)
                                  refine x_istore (lo' := [some (va_rf a0), some (.int a1), some (.long x19), none, some (.int x21), some (.int s24), some (.int x83), none, none]) dX12_test_200 (by decide) rfl rfl ?_
                                  refine x_aload_n dX12_test_202 rfl ?_
                                  refine cmX12_436 rfl hs (Nat.le_of_ble_eq_true rfl) dX12_test_203 (fun M84 => ?_)
                                  exact x_weak (by exact ⟨rfl, ⟨rfl, ⟨rfl, ⟨rfl, ⟨rfl, ⟨rfl, trivial⟩⟩⟩⟩⟩⟩) (hj206 (x83, M84))
                              refine x_if_le (tgt := 188) dX12_test_181 (by decide) (fun _ => ?_) (fun _ => ?_)
                              · refine x_iconst (v := 0) dX12_test_188 (by decide) ?_
                                exact x_weak (by exact ⟨rfl, ⟨rfl, ⟨rfl, ⟨rfl, ⟨rfl, ⟨rfl, trivial⟩⟩⟩⟩⟩⟩) (hj189 ((0 : Int32)))
                              · refine x_iconst (v := 1) dX12_test_184 (by decide) ?_
                                refine x_goto (tgt := 189) dX12_test_185 (by decide) ?_
                                exact x_weak (by exact ⟨rfl, ⟨rfl, ⟨rfl, ⟨rfl, ⟨rfl, ⟨rfl, trivial⟩⟩⟩⟩⟩⟩) (hj189 ((1 : Int32)))
                          refine x_icmp_ne (tgt := 169) dX12_test_162 (by decide) (fun _ => ?_) (fun _ => ?_)
                          · refine x_iconst (v := 1) dX12_test_165 (by decide) ?_
                            refine x_goto (tgt := 170) dX12_test_166 (by decide) ?_
                            exact x_weak (by exact ⟨rfl, ⟨rfl, ⟨rfl, ⟨rfl, ⟨rfl, ⟨rfl, trivial⟩⟩⟩⟩⟩⟩) (hj170 ((1 : Int32)))
                          · refine x_iconst (v := 0) dX12_test_169 (by decide) ?_
                            exact x_weak (by exact ⟨rfl, ⟨rfl, ⟨rfl, ⟨rfl, ⟨rfl, ⟨rfl, trivial⟩⟩⟩⟩⟩⟩) (hj170 ((0 : Int32)))
                        · exact x_weak (by exact ⟨rfl, ⟨rfl, ⟨rfl, ⟨rfl, ⟨rfl, ⟨rfl, trivial⟩⟩⟩⟩⟩⟩) (hj206 ((0 : Int32), M73))
                      · exact x_weak (by exact ⟨rfl, ⟨rfl, ⟨rfl, ⟨rfl, ⟨rfl, ⟨rfl, trivial⟩⟩⟩⟩⟩⟩) (hj206 ((0 : Int32), s25))
                    · exact x_weak (by exact ⟨rfl, ⟨rfl, ⟨rfl, ⟨rfl, ⟨rfl, ⟨rfl, trivial⟩⟩⟩⟩⟩⟩) (hj206 ((0 : Int32), s25))
                  refine x_if_eq (tgt := 125) dX12_test_118 (by decide) (fun _ => ?_) (fun _ => ?_)
                  · exact x_weak (by exact ⟨rfl, ⟨rfl, ⟨rfl, ⟨rfl, ⟨rfl, trivial⟩⟩⟩⟩⟩) (hj125 M22)
                  · refine x_aload_n dX12_test_121 rfl ?_
                    refine cmX12_436 rfl hs (Nat.le_of_ble_eq_true rfl) dX12_test_122 (fun M85 => ?_)
                    exact x_weak (by exact ⟨rfl, ⟨rfl, ⟨rfl, ⟨rfl, ⟨rfl, trivial⟩⟩⟩⟩⟩) (hj125 M85)
                refine x_icmp_ne (tgt := 113) dX12_test_106 (by decide) (fun _ => ?_) (fun _ => ?_)
                · refine x_iconst (v := 1) dX12_test_109 (by decide) ?_
                  refine x_goto (tgt := 114) dX12_test_110 (by decide) ?_
                  exact x_weak (by exact ⟨rfl, ⟨rfl, ⟨rfl, ⟨rfl, trivial⟩⟩⟩⟩) (hj114 ((1 : Int32)))
                · refine x_iconst (v := 0) dX12_test_113 (by decide) ?_
                  exact x_weak (by exact ⟨rfl, ⟨rfl, ⟨rfl, ⟨rfl, trivial⟩⟩⟩⟩) (hj114 ((0 : Int32)))
            refine x_icmp_ge (tgt := 72) dX12_test_65 (by decide) (fun _ => ?_) (fun _ => ?_)
            · refine x_iconst (v := 0) dX12_test_72 (by decide) ?_
              exact x_weak (by exact ⟨rfl, ⟨rfl, trivial⟩⟩) (hj73 ((0 : Int32)))
            · refine x_iconst (v := 1) dX12_test_68 (by decide) ?_
              refine x_goto (tgt := 73) dX12_test_69 (by decide) ?_
              exact x_weak (by exact ⟨rfl, ⟨rfl, trivial⟩⟩) (hj73 ((1 : Int32)))
        refine x_if_ne (tgt := 48) dX12_test_41 (by decide) (fun _ => ?_) (fun _ => ?_)
        · refine x_iconst (v := 1) dX12_test_44 (by decide) ?_
          refine x_goto (tgt := 49) dX12_test_45 (by decide) ?_
          exact x_weak (by exact ⟨rfl, ⟨rfl, trivial⟩⟩) (hj49 ((1 : Int32)))
        · refine x_iconst (v := 0) dX12_test_48 (by decide) ?_
          exact x_weak (by exact ⟨rfl, ⟨rfl, trivial⟩⟩) (hj49 ((0 : Int32)))
    refine x_icmp_ne (tgt := 24) dX12_test_17 (by decide) (fun _ => ?_) (fun _ => ?_)
    · refine x_iconst (v := 1) dX12_test_20 (by decide) ?_
      refine x_goto (tgt := 25) dX12_test_21 (by decide) ?_
      exact x_weak (by exact ⟨rfl, ⟨rfl, trivial⟩⟩) (hj25 ((1 : Int32)))
    · refine x_iconst (v := 0) dX12_test_24 (by decide) ?_
      exact x_weak (by exact ⟨rfl, ⟨rfl, trivial⟩⟩) (hj25 ((0 : Int32)))
  · exact x_weak (by exact trivial) (hj81 M1)
theorem s225 {l : Launch} {d : Nat} {rec : Nat → List Value → Mem → XA} (hS : Nonempty XS) (hs : XSnd l xmt rec d) : Snd1 l 225 (b225 rec) d := by
  intro as M r M' h0
  unfold b225 at h0
  obtain ⟨a0, l1, e1, h1⟩ := aR_inv h0
  obtain ⟨a1, l2, e2, h2⟩ := aI_inv h1
  obtain ⟨ez, h⟩ := aZ_inv h2
  subst ez
  subst e2
  subst e1
  exact xmet (M := M) (as := [va_rf a0, .int a1]) (lo := [some (va_rf a0), some (.int a1)]) 225 xq225 xm225 (by rw [xargs_rf, xargs_i, xargs_nil]; exact ⟨rfl, ⟨rfl, trivial⟩⟩) (by rw [xargs_rf, xargs_i, xargs_nil]; exact Nat.le_of_ble_eq_true rfl) (fun S G K => x_weak (by exact ⟨rfl, ⟨rfl, trivial⟩⟩) (k225 hs a0 a1 M)) h hS
set_option maxRecDepth 100000 in
def c226 (rec : Nat → List Value → Mem → XA) (a0 : Option Nat) (a1 : Int32) (M0 : Mem) : XA :=
  vC (13, 157) M0 a0 <|
  cV (rec 191 [va_rf a0] M0) fun M1 =>
  gtI (13, 157) M1 a0 41 fun x2 =>
  jn (fun (s3 : Mem) =>
    some (.null, s3)) fun j81 =>
  if x2 = 0 then (
    gtI (13, 157) M1 a0 36 fun x4 =>
    jn (fun (s5 : Int32) =>
      vC (13, 157) M1 a0 <|
      cI (rec 193 [va_rf a0, .int s5] M1) fun x7 M6 =>
      if x7 = 0 then (
        j81 M6) else (
        gtL (13, 157) M6 a0 39 fun x8 =>
        vC (13, 157) M6 a0 <|
        cI (rec 220 [va_rf a0, .int a1, .long x8] M6) fun x10 M9 =>
        jn (fun (s11 : Int32) =>
          vC (13, 157) M9 a0 <|
          cI (rec 194 [va_rf a0, .int s11, .int ((3 : Int32))] M9) fun x13 M12 =>
          if x13 = 0 then (
            j81 M12) else (
            gtP (13, 157) M12 a0 25 fun x14 =>
            alI 100 M12 x14 a1 fun x15 =>
            jn (fun (s16 : Int32) =>
              vC (13, 157) M12 a0 <|
              cI (rec 194 [va_rf a0, .int s16, .int ((6 : Int32))] M12) fun x18 M17 =>
              if x18 = 0 then (
                j81 M17) else (
                gtP (13, 157) M17 a0 25 fun x19 =>
                alI 100 M17 x19 a1 fun x20 =>
                lt ((((6 : Int32)) * a1) + x20) fun (x21 : Int32) =>
                gtP (13, 157) M17 a0 25 fun x22 =>
                alI 100 M17 x22 a1 fun x23 =>
                asI 100 M17 x22 a1 ((x23 + ((1 : Int32)))) fun M24 =>
                gtP (13, 157) M24 a0 26 fun x25 =>
                gtL (13, 157) M24 a0 39 fun x26 =>
                asL M24 x25 x21 x26 fun M27 =>
                gtP (13, 157) M27 a0 63 fun x28 =>
                gtI (13, 157) M27 a0 49 fun x29 =>
                asI 100 M27 x28 x21 x29 fun M30 =>
                vC (13, 157) M30 a0 <|
                cV (rec 191 [va_rf a0] M30) fun M31 =>
                vC (13, 157) M31 a0 <|
                cI (rec 195 [va_rf a0, .int ((40 : Int32))] M31) fun x33 M32 =>
                vC (13, 157) M32 a0 <|
                cV (rec 223 [va_rf a0] M32) fun M34 =>
                vC (13, 157) M34 a0 <|
                cI (rec 195 [va_rf a0, .int ((41 : Int32))] M34) fun x36 M35 =>
                gtP (13, 157) M35 a0 27 fun x37 =>
                gtI (13, 157) M35 a0 51 fun x38 =>
                asI 100 M35 x37 x21 x38 fun M39 =>
                gtP (13, 157) M39 a0 28 fun x40 =>
                vC (13, 157) M39 a0 <|
                cI (rec 218 [va_rf a0, .int ((0 : Int32))] M39) fun x42 M41 =>
                asI 100 M41 x40 x21 x42 fun M43 =>
                some (.null, M43))) fun j73 =>
            if ((6 : Int32)) ≤ x15 then (
              j73 ((0 : Int32))) else (
              j73 ((1 : Int32))))) fun j49 =>
        if x10 = 0 then (
          j49 ((1 : Int32))) else (
          j49 ((0 : Int32))))) fun j25 =>
    if x4 = ((1 : Int32)) then (
      j25 ((1 : Int32))) else (
      j25 ((0 : Int32)))) else (
    j81 M1)
def b226 (rec : Nat → List Value → Mem → XA) (as : List Value) (M0 : Mem) : XA := aR as fun a0 as => aI as fun a1 as => aZ as (c226 rec a0 a1 M0)
set_option maxRecDepth 100000 in
set_option maxHeartbeats 4000000 in
theorem k226 {S : XS} {G : XG} {K : Nat × Nat} {l : Launch} {d : Nat} {rec : Nat → List Value → Mem → XA} (hs : XSnd l xmt rec d) (a0 : Option Nat) (a1 : Int32) (M0 : Mem) : Xe S G K l (yX12_prop, cX12_prop, 3, none) d 0 [some (va_rf a0), some (.int a1), none] [] M0 (c226 rec a0 a1 M0) := by
  unfold c226
  refine x_aload_n dX12_prop_0 rfl ?_
  refine cmX12_436 rfl hs (Nat.le_of_ble_eq_true rfl) dX12_prop_1 (fun M1 => ?_)
  refine x_aload_n dX12_prop_4 rfl ?_
  refine gfX12_395 rfl dX12_prop_5 (fun x2 => ?_)
  refine x_jn (σ := Mem) 81 (fun s3 => [none, none, none]) (fun s3 => []) (fun s3 => s3) (fun s3 => ?_) (fun j81 hj81 => ?_)
  · exact x_vret rfl dX12_prop_81
  refine x_if_ne (tgt := 81) dX12_prop_8 (by decide) (fun _ => ?_) (fun _ => ?_)
  · refine x_aload_n dX12_prop_11 rfl ?_
    refine x_aload_n dX12_prop_12 rfl ?_
    refine gfX12_408 rfl dX12_prop_13 (fun x4 => ?_)
    refine x_iconst (v := 1) dX12_prop_16 (by decide) ?_
    refine x_jn (σ := Int32) 25 (fun s5 => [some (va_rf a0), some (.int a1), none]) (fun s5 => [.int s5, va_rf a0]) (fun s5 => M1) (fun s5 => ?_) (fun j25 hj25 => ?_)
    · refine cmX12_432 rfl hs (Nat.le_of_ble_eq_true rfl) dX12_prop_25 (fun x7 M6 => ?_)
      refine x_if_eq (tgt := 81) dX12_prop_28 (by decide) (fun _ => ?_) (fun _ => ?_)
      · exact x_weak (by exact trivial) (hj81 M6)
      · refine x_aload_n dX12_prop_31 rfl ?_
        refine x_aload_n dX12_prop_32 rfl ?_
        refine x_iload_n dX12_prop_33 rfl ?_
        refine x_aload_n dX12_prop_34 rfl ?_
        refine gfX12_415 rfl dX12_prop_35 (fun x8 => ?_)
        refine cmX12_551 rfl hs (Nat.le_of_ble_eq_true rfl) dX12_prop_38 (fun x10 M9 => ?_)
        refine x_jn (σ := Int32) 49 (fun s11 => [some (va_rf a0), some (.int a1), none]) (fun s11 => [.int s11, va_rf a0]) (fun s11 => M9) (fun s11 => ?_) (fun j49 hj49 => ?_)
        · refine x_iconst (v := 3) dX12_prop_49 (by decide) ?_
          refine cmX12_455 rfl hs (Nat.le_of_ble_eq_true rfl) dX12_prop_50 (fun x13 M12 => ?_)
          refine x_if_eq (tgt := 81) dX12_prop_53 (by decide) (fun _ => ?_) (fun _ => ?_)
          · exact x_weak (by exact trivial) (hj81 M12)
          · refine x_aload_n dX12_prop_56 rfl ?_
            refine x_aload_n dX12_prop_57 rfl ?_
            refine gfX12_82 rfl dX12_prop_58 (fun x14 => ?_)
            refine x_iload_n dX12_prop_61 rfl ?_
            refine x_iald dX12_prop_62 (fun x15 => ?_)
            refine x_bipush (v := 6) dX12_prop_63 (by decide) ?_
            refine x_jn (σ := Int32) 73 (fun s16 => [some (va_rf a0), some (.int a1), none]) (fun s16 => [.int s16, va_rf a0]) (fun s16 => M12) (fun s16 => ?_) (fun j73 hj73 => ?_)
            · refine x_bipush (v := 6) dX12_prop_73 (by decide) ?_
              refine cmX12_455 rfl hs (Nat.le_of_ble_eq_true rfl) dX12_prop_75 (fun x18 M17 => ?_)
              refine x_if_ne (tgt := 82) dX12_prop_78 (by decide) (fun _ => ?_) (fun _ => ?_)
              · exact x_weak (by exact trivial) (hj81 M17)
              · refine x_bipush (v := 6) dX12_prop_82 (by decide) ?_
                refine x_iload_n dX12_prop_84 rfl ?_
                refine x_imul dX12_prop_85 ?_
                refine x_aload_n dX12_prop_86 rfl ?_
                refine gfX12_82 rfl dX12_prop_87 (fun x19 => ?_)
                refine x_iload_n dX12_prop_90 rfl ?_
                refine x_iald dX12_prop_91 (fun x20 => ?_)
                refine x_iadd dX12_prop_92 ?_
                refine x_ltI (fun x21 => ?_)
                refine x_istore_n (lo' := [some (va_rf a0), some (.int a1), some (.int x21)]) dX12_prop_93 (by decide) rfl rfl ?_
                refine x_aload_n dX12_prop_94 rfl ?_
                refine gfX12_82 rfl dX12_prop_95 (fun x22 => ?_)
                refine x_iload_n dX12_prop_98 rfl ?_
                refine x_dup2 dX12_prop_99 (xc1_i _) (xc1_r _) ?_
                refine x_iald dX12_prop_100 (fun x23 => ?_)
                refine x_iconst (v := 1) dX12_prop_101 (by decide) ?_
                refine x_iadd dX12_prop_102 ?_
                refine x_iast dX12_prop_103 (fun M24 => ?_)
                refine x_aload_n dX12_prop_104 rfl ?_
                refine gfX12_85 rfl dX12_prop_105 (fun x25 => ?_)
                refine x_iload_n dX12_prop_108 rfl ?_
                refine x_aload_n dX12_prop_109 rfl ?_
                refine gfX12_415 rfl dX12_prop_110 (fun x26 => ?_)
                refine x_last dX12_prop_113 (fun M27 => ?_)
                refine x_aload_n dX12_prop_114 rfl ?_
                refine gfX12_215 rfl dX12_prop_115 (fun x28 => ?_)
                refine x_iload_n dX12_prop_118 rfl ?_
                refine x_aload_n dX12_prop_119 rfl ?_
                refine gfX12_442 rfl dX12_prop_120 (fun x29 => ?_)
                refine x_iast dX12_prop_123 (fun M30 => ?_)
                refine x_aload_n dX12_prop_124 rfl ?_
                refine cmX12_436 rfl hs (Nat.le_of_ble_eq_true rfl) dX12_prop_125 (fun M31 => ?_)
                refine x_aload_n dX12_prop_128 rfl ?_
                refine x_bipush (v := 40) dX12_prop_129 (by decide) ?_
                refine cmX12_517 rfl hs (Nat.le_of_ble_eq_true rfl) dX12_prop_131 (fun x33 M32 => ?_)
                refine x_pop dX12_prop_134 (xc1_i _) ?_
                refine x_aload_n dX12_prop_135 rfl ?_
                refine cmX12_561 rfl hs (Nat.le_of_ble_eq_true rfl) dX12_prop_136 (fun M34 => ?_)
                refine x_aload_n dX12_prop_139 rfl ?_
                refine x_bipush (v := 41) dX12_prop_140 (by decide) ?_
                refine cmX12_517 rfl hs (Nat.le_of_ble_eq_true rfl) dX12_prop_142 (fun x36 M35 => ?_)
                refine x_pop dX12_prop_145 (xc1_i _) ?_
                refine x_aload_n dX12_prop_146 rfl ?_
                refine gfX12_88 rfl dX12_prop_147 (fun x37 => ?_)
                refine x_iload_n dX12_prop_150 rfl ?_
                refine x_aload_n dX12_prop_151 rfl ?_
                refine gfX12_448 rfl dX12_prop_152 (fun x38 => ?_)
                refine x_iast dX12_prop_155 (fun M39 => ?_)
                refine x_aload_n dX12_prop_156 rfl ?_
                refine gfX12_91 rfl dX12_prop_157 (fun x40 => ?_)
                refine x_iload_n dX12_prop_160 rfl ?_
                refine x_aload_n dX12_prop_161 rfl ?_
                refine x_iconst (v := 0) dX12_prop_162 (by decide) ?_
                refine cmX12_543 rfl hs (Nat.le_of_ble_eq_true rfl) dX12_prop_163 (fun x42 M41 => ?_)
                refine x_iast dX12_prop_166 (fun M43 => ?_)
                exact x_vret rfl dX12_prop_167
            refine x_icmp_ge (tgt := 72) dX12_prop_65 (by decide) (fun _ => ?_) (fun _ => ?_)
            · refine x_iconst (v := 0) dX12_prop_72 (by decide) ?_
              exact x_weak (by exact ⟨rfl, ⟨rfl, trivial⟩⟩) (hj73 ((0 : Int32)))
            · refine x_iconst (v := 1) dX12_prop_68 (by decide) ?_
              refine x_goto (tgt := 73) dX12_prop_69 (by decide) ?_
              exact x_weak (by exact ⟨rfl, ⟨rfl, trivial⟩⟩) (hj73 ((1 : Int32)))
        refine x_if_ne (tgt := 48) dX12_prop_41 (by decide) (fun _ => ?_) (fun _ => ?_)
        · refine x_iconst (v := 1) dX12_prop_44 (by decide) ?_
          refine x_goto (tgt := 49) dX12_prop_45 (by decide) ?_
          exact x_weak (by exact ⟨rfl, ⟨rfl, trivial⟩⟩) (hj49 ((1 : Int32)))
        · refine x_iconst (v := 0) dX12_prop_48 (by decide) ?_
          exact x_weak (by exact ⟨rfl, ⟨rfl, trivial⟩⟩) (hj49 ((0 : Int32)))
    refine x_icmp_ne (tgt := 24) dX12_prop_17 (by decide) (fun _ => ?_) (fun _ => ?_)
    · refine x_iconst (v := 1) dX12_prop_20 (by decide) ?_
      refine x_goto (tgt := 25) dX12_prop_21 (by decide) ?_
      exact x_weak (by exact ⟨rfl, ⟨rfl, trivial⟩⟩) (hj25 ((1 : Int32)))
    · refine x_iconst (v := 0) dX12_prop_24 (by decide) ?_
      exact x_weak (by exact ⟨rfl, ⟨rfl, trivial⟩⟩) (hj25 ((0 : Int32)))
  · exact x_weak (by exact trivial) (hj81 M1)
theorem s226 {l : Launch} {d : Nat} {rec : Nat → List Value → Mem → XA} (hS : Nonempty XS) (hs : XSnd l xmt rec d) : Snd1 l 226 (b226 rec) d := by
  intro as M r M' h0
  unfold b226 at h0
  obtain ⟨a0, l1, e1, h1⟩ := aR_inv h0
  obtain ⟨a1, l2, e2, h2⟩ := aI_inv h1
  obtain ⟨ez, h⟩ := aZ_inv h2
  subst ez
  subst e2
  subst e1
  exact xmet (M := M) (as := [va_rf a0, .int a1]) (lo := [some (va_rf a0), some (.int a1)]) 226 xq226 xm226 (by rw [xargs_rf, xargs_i, xargs_nil]; exact ⟨rfl, ⟨rfl, trivial⟩⟩) (by rw [xargs_rf, xargs_i, xargs_nil]; exact Nat.le_of_ble_eq_true rfl) (fun S G K => x_weak (by exact ⟨rfl, ⟨rfl, trivial⟩⟩) (k226 hs a0 a1 M)) h hS
