/-! numbers that name nothing: both answer -1 (or -3) and change nothing -/
section S9do
variable {d dl : Nat} {o : HO} {Mc Mr : Mem} {LL : Nat} {xs : Nat → Int32} {ow : Nat → Int} {c p q i k sl nB tm : Int} {v1 v2 v3 : Int32} {B : Int → BG}
theorem kill_no (hdl : 6 ≤ dl) (hd : 4 ≤ d) (hP : hoP o) (hC : HC LL xs o ow sl Mc) (hR : HR o sl Mr) (hv : v1 = iI p) (bp : -2147483648 ≤ p ∧ p ≤ 2147483647) (hn : ¬ (0 ≤ p ∧ p < oN o)) : runX dl 150 [va_rf (some 64), .int v1] Mc = some (.int (-1), Mc) ∧ runX d 283 [va_rf (some 160), .int v1] Mr = some (.int (-1), Mr) := by
  obtain ⟨dl, rfl⟩ : ∃ e, dl = e + 1 := ⟨dl - 1, by omega⟩
  obtain ⟨d, rfl⟩ : ∃ e, d = e + 1 := ⟨d - 1, by omega⟩
  subst hv
  have p8 := hP.1
  have e167 := zc167 (d := dl) (M := Mc) (v := iI p) (p := p) (by omega) hC.1.1.1 hC.2.1 hC.1.ob rfl bp
  rw [if_neg hn] at e167
  have e255 := zr255 (d := d) (M := Mr) (v := iI p) (p := p) (by omega) hR.1.1.1 hR.2.1 (by omega) rfl bp
  rw [if_neg hn] at e255
  refine ⟨?_, ?_⟩
  · rw [r150]; unfold b150; rw [aR_e, aI_e, aZ_e]; unfold c150
    rw [vC_e (ck_64 hC.1.1.1), cP_e e167, if_pos rfl]
  · rw [r283]; unfold b283; rw [aR_e, aI_e, aZ_e]; unfold c283
    rw [vC_e (rk_160 hR.1.1.1), cI_e e255, if_pos (show iI 0 = 0 from rfl)]
theorem blame_no (hdl : 8 ≤ dl) (hd : 6 ≤ d) (hP : hoP o) (hC : HC LL xs o ow sl Mc) (hR : HR o sl Mr) (hv : v1 = iI p) (hv2 : v2 = iI c) (bp : -2147483648 ≤ p ∧ p ≤ 2147483647) (bc : -2147483648 ≤ c ∧ c ≤ 2147483647) (hn : ¬ ((0 ≤ p ∧ p < oN o) ∧ 0 ≤ c ∧ c < (gR (oP o p)).1 3 0 0)) : runX dl 162 [va_rf (some 64), .int v1, .int v2] Mc = some (.int (-1), Mc) ∧ runX d 304 [va_rf (some 160), .int v1, .int v2] Mr = some (.int (-1), Mr) := by
  obtain ⟨dl, rfl⟩ : ∃ e, dl = e + 1 := ⟨dl - 1, by omega⟩
  obtain ⟨d, rfl⟩ : ∃ e, d = e + 1 := ⟨d - 1, by omega⟩
  subst hv; subst hv2
  have p8 := hP.1
  have e167 := zc167 (d := dl) (M := Mc) (v := iI p) (p := p) (by omega) hC.1.1.1 hC.2.1 hC.1.ob rfl bp
  have e256 := zr256 (d := d) (M := Mr) (v := iI p) (p := p) (w := iI c) (c := c) (n := oN o) (b := if 0 ≤ p ∧ p < oN o then (gR (oP o p)).1 3 0 0 else 0) (by omega) hR.1.1.1 hR.2.1 (by omega) rfl bp rfl bc (fun a b => by
    rw [if_pos ⟨a, b⟩]
    have := pk_lo hP ⟨a, b⟩
    exact ⟨hoR.ncs hR.1 ⟨a, b⟩, by omega⟩)
  have e0 : ¬ ((0 ≤ p ∧ p < oN o) ∧ 0 ≤ c ∧ c < (if 0 ≤ p ∧ p < oN o then (gR (oP o p)).1 3 0 0 else 0)) := fun z => by
    rw [if_pos z.1] at z
    exact hn z
  rw [if_neg e0] at e256
  refine ⟨?_, ?_⟩
  · rw [r162]; unfold b162; rw [aR_e, aI_e, aI_e, aZ_e]; unfold c162
    rw [vC_e (ck_64 hC.1.1.1), cP_e e167]
    by_cases hp : 0 ≤ p ∧ p < oN o
    · have e169 := zc169 (d := dl) (v := iI c) (c := c) (by omega) hP hC.1 hp rfl bc
      rw [if_neg (fun z => hn ⟨hp, z⟩)] at e169
      rw [if_pos hp, cP_e e169, if_pos rfl]
    · rw [if_neg hp, cP_e (zc169n (by omega)), if_pos rfl]
  · rw [r304]; unfold b304; rw [aR_e, aI_e, aI_e, aZ_e]; unfold c304
    rw [vC_e (rk_160 hR.1.1.1), cI_e e256, if_pos (show iI 0 = 0 from rfl)]
theorem touch_no (hdl : 8 ≤ dl) (hd : 3 ≤ d) (hP : hoP o) (hC : HC LL xs o ow sl Mc) (hR : HR o sl Mr) (hb : bdC ow o nB B Mc) (hr : bdR nB B Mr) (hv : v1 = iI i) (hv2 : v2 = iI c) (bi : -2147483648 ≤ i ∧ i ≤ 2147483647) (bc : -2147483648 ≤ c ∧ c ≤ 2147483647) (hn : ¬ ((0 ≤ i ∧ i < nB) ∧ 0 ≤ c ∧ c < (gR (oP o (B i).1.1)).1 3 0 0)) : runX dl 166 [va_rf (some 64), .int v1, .int v2] Mc = some (.int (-1), Mc) ∧ runX d 309 [va_rf (some 160), .int v1, .int v2] Mr = some (.int (-1), Mr) := by
  obtain ⟨dl, rfl⟩ : ∃ e, dl = e + 1 := ⟨dl - 1, by omega⟩
  obtain ⟨d, rfl⟩ : ∃ e, d = e + 1 := ⟨d - 1, by omega⟩
  subst hv; subst hv2
  have cM := hC.1.1.1
  have rM := hR.1.1.1
  have kr := rk_160 rM
  have p8 := hP.1
  have n8 := hb.1.1.2.2
  have z172 := zc172 (d := dl) (by omega) cM hb (rfl : iI i = iI i) bi
  have q1 := rr184 (d := d) (M := Mr) (v1 := iI i) (v2 := 0) (v3 := iI (nB - 1)) (i := i) (b := 0) (c := nB - 1) (by omega) rfl rfl rfl bi (by omega) (by omega)
  have n10 : ¬ iI 1 = (0 : Int32) := by decide
  by_cases hi : 0 ≤ i ∧ i < nB
  · obtain ⟨⟨⟨hp, hp2⟩, hb1, hb2⟩, hK, hL⟩ := hb.2 i hi.1 hi.2
    obtain ⟨r1, r2⟩ := hr.2 i hi.1 hi.2
    have lo := pk_lo hP hp
    rw [if_pos hi] at z172
    rw [if_pos (by omega)] at q1
    have e169 := zc169 (d := dl) (v := iI c) (c := c) (by omega) hP hC.1 hp rfl bc
    rw [if_neg (fun z => hn ⟨hi, z⟩)] at e169
    have q2 := rr184 (d := d) (M := Mr) (v1 := iI c) (v2 := 0) (v3 := iI ((gR (oP o (B i).1.1)).1 3 0 0 - 1)) (i := c) (b := 0) (c := (gR (oP o (B i).1.1)).1 3 0 0 - 1) (by omega) rfl rfl rfl bc (by omega) (by omega)
    rw [if_neg (fun z => hn ⟨hi, z.1, by omega⟩)] at q2
    refine ⟨?_, ?_⟩
    · rw [r166]; unfold b166; rw [aR_e, aI_e, aI_e, aZ_e]; unfold c166
      rw [vC_e (ck_64 cM), cP_e z172, jn_v, if_neg (show ¬ some (B i).2.1 = none by simp), gtP_q hK.1.1 hK.2.1.1, cP_e e169, jv_e]
      dsimp only
      rw [if_pos rfl]
    · rw [r309]; unfold b309; rw [aR_e, aI_e, aI_e, aZ_e]; unfold c309
      rw [gtI_q kr hr.1, show iI nB - (1 : Int32) = iI (nB - 1) from sbI rfl li_1, cI_e q1, jn_v, if_neg n10, gtP_q kr (rf_17 rM), gtP_q kr (rf_155 rM), alI_q (n := 8) (z := i) (rk_257 rM) rfl (by omega) r1, alI_q (n := 8) (rk_176 rM) rfl (by omega) (hoR.ncs hR.1 hp), show iI ((gR (oP o (B i).1.1)).1 3 0 0) - (1 : Int32) = iI ((gR (oP o (B i).1.1)).1 3 0 0 - 1) from sbI rfl li_1, cI_e q2, if_pos (show iI 0 = 0 from rfl), jv_e]
  · rw [if_neg hi] at z172
    rw [if_neg (fun z => hi ⟨z.1, by omega⟩)] at q1
    refine ⟨?_, ?_⟩
    · rw [r166]; unfold b166; rw [aR_e, aI_e, aI_e, aZ_e]; unfold c166
      rw [vC_e (ck_64 cM), cP_e z172, jn_v, if_pos rfl, jv_e]
      dsimp only
      rw [if_pos rfl]
    · rw [r309]; unfold b309; rw [aR_e, aI_e, aI_e, aZ_e]; unfold c309
      rw [gtI_q kr hr.1, show iI nB - (1 : Int32) = iI (nB - 1) from sbI rfl li_1, cI_e q1, jn_v, if_pos (show iI 0 = 0 from rfl), jv_e]
theorem foretold_no (hdl : 8 ≤ dl) (hd : 3 ≤ d) (hP : hoP o) (hC : HC LL xs o ow sl Mc) (hR : HR o sl Mr) (hb : bdC ow o nB B Mc) (hr : bdR nB B Mr) (hv : v1 = iI i) (hv2 : v2 = iI k) (bi : -2147483648 ≤ i ∧ i ≤ 2147483647) (bk : -2147483648 ≤ k ∧ k ≤ 2147483647) (hn : ¬ ((0 ≤ i ∧ i < nB) ∧ 0 ≤ k ∧ k < gE (oP o (B i).1.1))) : runX dl 165 [va_rf (some 64), .int v1, .int v2] Mc = some (.int (-1), Mc) ∧ runX d 308 [va_rf (some 160), .int v1, .int v2] Mr = some (.int (-1), Mr) := by
  obtain ⟨dl, rfl⟩ : ∃ e, dl = e + 1 := ⟨dl - 1, by omega⟩
  obtain ⟨d, rfl⟩ : ∃ e, d = e + 1 := ⟨d - 1, by omega⟩
  subst hv; subst hv2
  have cM := hC.1.1.1
  have rM := hR.1.1.1
  have kr := rk_160 rM
  have p8 := hP.1
  have n8 := hb.1.1.2.2
  have z172 := zc172 (d := dl) (by omega) cM hb (rfl : iI i = iI i) bi
  have q1 := rr184 (d := d) (M := Mr) (v1 := iI i) (v2 := 0) (v3 := iI (nB - 1)) (i := i) (b := 0) (c := nB - 1) (by omega) rfl rfl rfl bi (by omega) (by omega)
  have n10 : ¬ iI 1 = (0 : Int32) := by decide
  by_cases hi : 0 ≤ i ∧ i < nB
  · obtain ⟨⟨⟨hp, hp2⟩, hb1, hb2⟩, hK, hL⟩ := hb.2 i hi.1 hi.2
    obtain ⟨r1, r2⟩ := hr.2 i hi.1 hi.2
    have n2 := (hP.2.2.1 _ hp.1 hp.2).1.n2
    obtain ⟨⟨⟨o1, o2, o3⟩, -⟩, -⟩ := hC.1.2.1 _ hp.1 hp.2
    obtain ⟨-, ⟨k1, -⟩, -⟩ := hR.1.2.1 _ hp.1 hp.2
    rw [if_pos hi] at z172
    rw [if_pos (by omega)] at q1
    have q2 := rr184 (d := d) (M := Mr) (v1 := iI k) (v2 := 0) (v3 := iI (gE (oP o (B i).1.1) - 1)) (i := k) (b := 0) (c := gE (oP o (B i).1.1) - 1) (by omega) rfl rfl rfl bk (by omega) (by omega)
    rw [if_neg (fun z => hn ⟨hi, z.1, by omega⟩)] at q2
    refine ⟨?_, ?_⟩
    · rw [r165]; unfold b165; rw [aR_e, aI_e, aI_e, aZ_e]; unfold c165
      rw [vC_e (ck_64 cM), cP_e z172, jn_v, if_neg (show ¬ some (B i).2.1 = none by simp)]
      by_cases y : k < 0
      · rw [if_pos (show iI k < 0 from lsI_p (y := 0) rfl li_0 (by omega)), jv_e]
      · have y2 : ¬ k < gE (oP o (B i).1.1) := fun z => hn ⟨hi, by omega, z⟩
        rw [if_neg (show ¬ iI k < 0 from lsI_n (y := 0) rfl li_0 (by omega)), gtP_q hK.1.1 hK.2.1.1, gtI_q o1 o3, if_neg (lsI_n rfl rfl (by omega)), jv_e]
    · rw [r308]; unfold b308; rw [aR_e, aI_e, aI_e, aZ_e]; unfold c308
      rw [gtI_q kr hr.1, show iI nB - (1 : Int32) = iI (nB - 1) from sbI rfl li_1, cI_e q1, jn_v, if_neg n10, gtP_q kr (rf_29 rM), gtP_q kr (rf_155 rM), alI_q (n := 8) (z := i) (rk_257 rM) rfl (by omega) r1, alI_q (n := 8) (z := (B i).1.1) (rk_188 rM) rfl (by omega) k1, show iI (gE (oP o (B i).1.1)) - (1 : Int32) = iI (gE (oP o (B i).1.1) - 1) from sbI rfl li_1, cI_e q2, if_pos (show iI 0 = 0 from rfl), jv_e]
  · rw [if_neg hi] at z172
    rw [if_neg (fun z => hi ⟨z.1, by omega⟩)] at q1
    refine ⟨?_, ?_⟩
    · rw [r165]; unfold b165; rw [aR_e, aI_e, aI_e, aZ_e]; unfold c165
      rw [vC_e (ck_64 cM), cP_e z172, jn_v, if_pos rfl, jv_e]
    · rw [r308]; unfold b308; rw [aR_e, aI_e, aI_e, aZ_e]; unfold c308
      rw [gtI_q kr hr.1, show iI nB - (1 : Int32) = iI (nB - 1) from sbI rfl li_1, cI_e q1, jn_v, if_pos (show iI 0 = 0 from rfl), jv_e]
theorem build_no (hdl : 8 ≤ dl) (hd : 4 ≤ d) (hP : hoP o) (hC : HC LL xs o ow sl Mc) (hR : HR o sl Mr) (hb : bdC ow o nB B Mc) (hr : bdR nB B Mr) (hv : v1 = iI p) (hv2 : v2 = iI q) (bp : -2147483648 ≤ p ∧ p ≤ 2147483647) (bq : -2147483648 ≤ q ∧ q ≤ 2147483647) (hn : ¬ (((0 ≤ p ∧ p < oN o) ∧ 0 ≤ q ∧ q < oN o) ∧ nB < 8)) : ∃ r, runX dl 164 [va_rf (some 64), .int v1, .int v2] Mc = some (.int r, Mc) ∧ runX d 306 [va_rf (some 160), .int v1, .int v2] Mr = some (.int r, Mr) := by
  obtain ⟨dl, rfl⟩ : ∃ e, dl = e + 1 := ⟨dl - 1, by omega⟩
  obtain ⟨d, rfl⟩ : ∃ e, d = e + 1 := ⟨d - 1, by omega⟩
  subst hv; subst hv2
  have cM := hC.1.1.1
  have rM := hR.1.1.1
  have kr := rk_160 rM
  have p8 := hP.1
  have n8 := hb.1.1.2.2
  have n10 : ¬ iI 1 = (0 : Int32) := by decide
  have e167 := zc167 (d := dl) (M := Mc) (v := iI p) (p := p) (by omega) cM hC.2.1 hC.1.ob rfl bp
  have e167q := zc167 (d := dl) (M := Mc) (v := iI q) (p := q) (by omega) cM hC.2.1 hC.1.ob rfl bq
  have e255 := zr255 (d := d) (M := Mr) (v := iI p) (p := p) (by omega) rM hR.2.1 (by omega) rfl bp
  have e255q := zr255 (d := d) (M := Mr) (v := iI q) (p := q) (by omega) rM hR.2.1 (by omega) rfl bq
  by_cases hp : 0 ≤ p ∧ p < oN o
  · rw [if_pos hp] at e167 e255
    by_cases hq : 0 ≤ q ∧ q < oN o
    · rw [if_pos hq] at e167q e255q
      have e8 : nB = 8 := by
        have : ¬ nB < 8 := fun z => hn ⟨⟨hp, hq⟩, z⟩
        omega
      refine ⟨-3, ?_, ?_⟩
      · rw [r164]; unfold b164; rw [aR_e, aI_e, aI_e, aZ_e]; unfold c164
        rw [vC_e (ck_64 cM), cP_e e167, vC_e (ck_64 cM), cP_e e167q, jn_v, if_neg (show ¬ some (gX (oP o p)) = none by simp), if_neg (show ¬ some (gX (oP o q)) = none by simp), gtP_q (ck_64 cM) (cf_64_4 cM), vC_e hb.1.1.1, cI_e (lf_size (by omega) hb.1), if_neg (show ¬ iI nB < (8 : Int32) from lsI_n (y := 8) rfl rfl (by omega))]
      · rw [r306]; unfold b306; rw [aR_e, aI_e, aI_e, aZ_e]; unfold c306
        rw [vC_e kr, cI_e e255, jn_v, if_neg n10, vC_e kr, cI_e e255q, if_neg n10, gtI_q kr hr.1, if_pos (show iI nB = (8 : Int32) by rw [e8]; rfl)]
    · rw [if_neg hq] at e167q e255q
      refine ⟨-1, ?_, ?_⟩
      · rw [r164]; unfold b164; rw [aR_e, aI_e, aI_e, aZ_e]; unfold c164
        rw [vC_e (ck_64 cM), cP_e e167, vC_e (ck_64 cM), cP_e e167q, jn_v, if_neg (show ¬ some (gX (oP o p)) = none by simp), if_pos rfl, jv_e]
      · rw [r306]; unfold b306; rw [aR_e, aI_e, aI_e, aZ_e]; unfold c306
        rw [vC_e kr, cI_e e255, jn_v, if_neg n10, vC_e kr, cI_e e255q, if_pos (show iI 0 = 0 from rfl), jv_e]
  · rw [if_neg hp] at e167 e255
    refine ⟨-1, ?_, ?_⟩
    · rw [r164]; unfold b164; rw [aR_e, aI_e, aI_e, aZ_e]; unfold c164
      rw [vC_e (ck_64 cM), cP_e e167, vC_e (ck_64 cM), cP_e e167q, jn_v, if_pos rfl, jv_e]
    · rw [r306]; unfold b306; rw [aR_e, aI_e, aI_e, aZ_e]; unfold c306
      rw [vC_e kr, cI_e e255, jn_v, if_pos (show iI 0 = 0 from rfl), jv_e]
end S9do
