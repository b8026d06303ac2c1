/-! touch(), both -/
/-- the run of a BUILD -/
def vBd (B : BG) : VR := ((1, B.1.1, B.1.2), B.2.2.1, B.2.2.2, (B.2.1, B.2.1 + 2))
section S9dl
variable {d dl : Nat} {o : HO} {v : VR} {q : QN} {hs : ZS} {M M' Mc Mr Mc' Mr' : Mem} {LL a j : Nat} {xs : Nat → Int32} {ow : Nat → Int} {c p i n k sl nB : Int} {w v1 v2 pv : Int32} {B : Int → BG}
theorem vBF {b : BG} : vF (vBd b) = 1 := rfl
theorem prb_pair (hdl : 2 ≤ dl) (hd : 3 ≤ d) (hP : hoP o) (hC : HC LL xs o ow sl Mc) (hR : HR o sl Mr) (hb : bdC ow o nB B Mc) (hi : 0 ≤ i ∧ i < nB) (hsl : 1 ≤ sl ∧ sl ≤ 1000) (hq : q = (sl, -1, 0, 1, 0)) (hv : w = iI (B i).1.1) (hv2 : v1 = iI (B i).1.2) : rPu o (vBd (B i)) q ∧ ∃ Ma Mc' Mr', runX dl 19 [va_rf (some 88), va_rf (some (gX (oP o (B i).1.1))), .int pv] Mc = some (.null, Ma) ∧ CT Ma ∧ runX dl 20 [va_rf (some 88), va_rf (some (B i).2.1)] Ma = some (.null, Mc') ∧ runX d 235 [va_rf (some 160), .int w, .int v1] Mr = some (.null, Mr') ∧ FG Zpr Mc Mc' ∧ (Mc'.2.2.2 = Mc.2.2.2 ∧ Mc'.2.1 = Mc.2.1) ∧ Fz Zma Mr Mr' ∧ (hoC LL xs o Mc' ∧ hoR o Mr') ∧ Mc'.1 88 10 = pv ∧ (rvW o (vBd (B i)) q (sI Mc' 88 6 (iI 1)) ∧ rvX o (vBd (B i)) q (sI Mr' 160 92 (iI 1))) ∧ ∀ id, zId (rE o (vBd (B i)) (pf q 0 0)) id → (rE o (vBd (B i)) (pf q 0 0)).1 4 id 0 = 2 → Mr'.1 211 id.toNat = (rE o (vBd (B i)) (pf q 0 0)).2 0 id 0 := by
  obtain ⟨hC1, hC2, hC3⟩ := hC
  obtain ⟨hR1, hR2, hR3, hR4, hR5, hR6, hR7⟩ := hR
  obtain ⟨⟨⟨hp, hp2⟩, hb1, hb2⟩, hK, hL⟩ := hb.2 i hi.1 hi.2
  have p8 := hP.1
  have hu : rPu o (vBd (B i)) q := by
    refine ⟨hP, ⟨hp, hp2⟩, Or.inr ⟨vBF, hL.2⟩, Or.inr ⟨vBF, hL.1⟩, ?_⟩
    rw [hq]
    exact ⟨hsl, Or.inl rfl, Or.inl rfl, Or.inr rfl, Or.inl rfl⟩
  obtain ⟨Ma, a1, a2, a3, a4, a5, a6, a7, a8⟩ := zc19 (d := dl) (M := Mc) (x := gX (oP o (B i).1.1)) (v := pv) (by omega) hC1.1.2.2 hC1.1.1 (hC1.ob _ hp.1 hp.2)
  have l3 := ln_lt hK.1.2.2
  have Ka : bdK (oP o (B i).1.1) (oP o (B i).1.2) (B i).2.1 (B i).2.2.1 (B i).2.2.2 Ma := by
    obtain ⟨⟨h1, h2, h3⟩, ⟨h4, h5, h6, h7⟩, h8, h9⟩ := hK
    have z : ∀ a j, 259 ≤ a → ¬ Zpr a j := fun a j x y => by unfold Zpr at y; omega
    exact ⟨⟨by rw [a4.1]; exact h1, by rw [a4.1]; exact h2, by rw [a4.1]; exact h3⟩, ⟨(a2.pt (by omega) (z _ _ hb1)).trans h4, (a2.pt (by omega) (z _ _ hb1)).trans h5, (a2.pt (by omega) (z _ _ hb1)).trans h6, (a2.pt (by omega) (z _ _ hb1)).trans h7⟩, fun u x1 x2 => (a2.i (by omega) (z _ _ (by omega))).trans (h8 u x1 x2), fun m x1 x2 => (a2.i (by omega) (z _ _ (by omega))).trans (h9 m x1 x2)⟩
  have kq : Ma.2.2.2[gX (oP o (B i).1.2)]? = some (6, 18) := by rw [a4.1]; exact hC1.ob _ hp2.1 hp2.2
  obtain ⟨M2, b1, b2⟩ := zc20 (d := dl) (M := Ma) (by omega) a3 Ka kq
  have f2 : FG Zpr Mc M2 := by
    rw [b2]
    exact (a2.sP (show Zpr 88 9 from Or.inl ⟨rfl, by decide⟩)).sP (show Zpr 91 1 from Or.inr ⟨rfl, by decide⟩)
  have i2 : ∀ a j, M2.1 a j = Ma.1 a j := fun a j => by rw [b2]; rfl
  have k2 : M2.2.2.2 = Ma.2.2.2 := by rw [b2]; rfl
  obtain ⟨R2, y1, y2, y3, y4, y5, y6, y7⟩ := bg_R (d := d) (M := Mr) (P := pf q 0 0) (v1 := w) (v2 := v1) (by omega) hP hu.2.1 hu.2.2.2.1 hR1 hv (by rw [if_pos vBF]; exact hv2)
  have lo := pk_lo hP hp
  have bb : (B i).2.1 + 2 < gL (oP o (B i).1.1) ∨ gX (oP o (B i).1.1) + 18 ≤ (B i).2.1 + 2 := by
    by_cases y : gL (oP o (B i).1.1) ≤ (B i).2.1 + 2 ∧ (B i).2.1 + 2 < gX (oP o (B i).1.1) + 18
    · have e1 := hC2.2 _ hp.1 hp.2 _ y.1 y.2
      have e2 := hb2 ((B i).2.1 + 2) (by omega) (Nat.le_refl _)
      omega
    · omega
  have pS : ∀ j, j ≠ 9 → M2.2.2.1 88 j = Ma.2.2.1 88 j := fun j z => by
    rw [b2]; exact (sP_ne (by decide)).trans (sP_nej z)
  refine ⟨hu, Ma, M2, R2, a1, a3, b1, y1, f2, ⟨k2.trans a4.1, by rw [b2]; exact a4.2⟩, ⟨y2, y3⟩, ⟨hC1.fg hP f2 fun a j z => ZM_ho (k := 0) hP hp (Zpr_M z), y4⟩, (i2 _ _).trans a6, ⟨⟨⟨?_, fun _ => ?_, fun z => absurd (show (1 : Int) = 0 from z) (by decide)⟩, ⟨?_, ?_, ?_, ?_⟩, ?_, fun _ => ⟨?_, ⟨?_, bb⟩, ?_, ?_, fun m x1 x2 => ?_⟩⟩, ⟨⟨(sI_nej (by decide)).trans y5.1, (sI_nej (by decide)).trans y5.2⟩, ⟨?_, ?_, ?_, ?_⟩, fun u a b => ⟨(sI_ne (by decide)).trans (y6 u a b).1, (y6 u a b).2⟩⟩⟩, y7⟩
  · show M2.2.2.1 91 0 = _
    rw [b2]; exact (sP_nej (by decide)).trans ((sP_ne (by decide)).trans a5.1)
  · show M2.2.2.1 91 1 = _
    rw [b2]; exact sP_eq
  · rw [hq]; exact (sI_nej (by decide)).trans ((i2 _ _).trans ((nm hC1 a2 (by decide) (by unfold Zpr; omega)).trans hC3))
  · rw [hq]; exact (sI_nej (by decide)).trans ((i2 _ _).trans a7)
  · rw [hq]; exact sI_eq
  · rw [hq]
    show M2.2.2.1 88 4 = none
    exact (pS 4 (by decide)).trans a5.2.2.2
  · rw [if_pos vBF]
    show M2.2.2.1 88 9 = _
    rw [b2]; exact (sP_ne (by decide)).trans sP_eq
  · show M2.2.2.2[(B i).2.1]? = _
    rw [k2]; exact Ka.1.1
  · show 259 ≤ (B i).2.1 + 2
    omega
  · show M2.2.2.1 (B i).2.1 3 = _
    rw [b2]; exact (sP_ne (by omega)).trans ((sP_ne (by omega)).trans Ka.2.1.2.2.2)
  · show M2.2.2.2[(B i).2.1 + 2]? = _
    rw [k2]; exact Ka.1.2.2
  · show (sI M2 88 6 (iI 1)).1 ((B i).2.1 + 2) m.toNat = _
    exact (sI_ne (by omega)).trans ((i2 _ _).trans (Ka.2.2.2 m x1 x2))
  · rw [hq]; exact (sI_nej (by decide)).trans ((y3 _ _ (by unfold Zma; omega)).trans hR4)
  · rw [hq]; exact (sI_nej (by decide)).trans ((y3 _ _ (by unfold Zma; omega)).trans hR5)
  · rw [hq]; exact sI_eq
  · rw [hq]; exact (sI_nej (by decide)).trans ((y3 _ _ (by unfold Zma; omega)).trans hR7)
theorem touch_ok (hdl : 25 ≤ dl) (hd : 75 ≤ d) (hP : hoP o) (hC : HC LL xs o ow sl Mc) (hR : HR o sl Mr) (hsl : 1 ≤ sl ∧ sl ≤ 1000) (h78 : Mc.1 88 2 = Mr.1 160 78) (hdc : hdC hs Mc) (hdr : hdR hs Mr) (hb : bdC ow o nB B Mc) (hr : bdR nB B Mr) (hi : 0 ≤ i ∧ i < nB) (hc : 0 ≤ c ∧ c < (gR (oP o (B i).1.1)).1 3 0 0) (hv1 : v1 = iI i) (hv2 : v2 = iI c) : ∃ Mc' Mr' r, runX dl 166 [va_rf (some 64), .int v1, .int v2] Mc = some (.int r, Mc') ∧ runX d 309 [va_rf (some 160), .int v1, .int v2] Mr = some (.int r, Mr') ∧ ((Mc' = Mc ∧ Mr' = Mr) ∨ ∃ s', FG (Zlw o) Mc Mc' ∧ (Mc'.2.2.2 = Mc.2.2.2 ∧ Mc'.2.1 = Mc.2.1) ∧ Fz Zlr Mr Mr' ∧ (hoC LL xs o Mc' ∧ hoR o Mr') ∧ tdB Mc' Mr' ∧ (hdC s' Mc' ∧ hdR s' Mr' ∧ ∀ D, 0 ≤ s'.1 17 D 0 ∧ s'.1 17 D 0 ≤ 34000) ∧ Mr'.1 160 90 = iI (-1) ∧ Mr'.1 160 91 = iI 0 ∧ Mr'.1 160 92 = iI 0 ∧ Mr'.1 160 97 = iI 0) := by
  obtain ⟨dl, rfl⟩ : ∃ e, dl = e + 1 := ⟨dl - 1, by omega⟩
  obtain ⟨d, rfl⟩ : ∃ e, d = e + 1 := ⟨d - 1, by omega⟩
  subst hv1; subst hv2
  have l16 : (16 : Int32) = iI 16 := rfl
  obtain ⟨⟨⟨hp, hp2⟩, hb1, hb2⟩, hK, hL⟩ := hb.2 i hi.1 hi.2
  have n8 := hb.1.1.2.2
  have p8 := hP.1
  have cM := hC.1.1.1
  have rM := hR.1.1.1
  have lo := pk_lo hP hp
  have hg := hP.2.2.1 _ hp.1 hp.2
  have n2 := hg.1.n2
  have n2q := (hP.2.2.1 _ hp2.1 hp2.2).1.n2
  obtain ⟨-, ⟨f1, f4, f5, f6, f7⟩, c1, c2, c3, c4, c5⟩ := hg.1.1.2.2.2.2.1 c hc.1 (by omega)
  obtain ⟨u, hu⟩ : ∃ u, u = (gR (oP o (B i).1.1)).1 3 1 c := ⟨_, rfl⟩
  rw [← hu] at f1 c1
  obtain ⟨-, -, -, -, hTT, -⟩ := hC.1.2.1 _ hp.1 hp.2
  obtain ⟨⟨t1, t2, t3⟩, t4, t5⟩ := hTT 3 (by decide) (by decide) c hc.1 (by omega)
  have e1 : Mc.1 (hEC (gH (oP o (B i).1.1)) 3 c) 1 = iI u := (t4 1 (by decide) (by decide)).trans (congrArg iI f1)
  have Lb : ∀ u, 0 ≤ u → u < (gR (oP o (B i).1.1)).1 1 0 0 → -1 ≤ (B i).2.2.1 u ∧ (B i).2.2.1 u ≤ 7 := fun u x1 x2 => by
    rcases hL.1 u x1 x2 with ⟨y1, y2, -⟩ | ⟨y1, -⟩
    · omega
    · omega
  have hub : 0 ≤ u ∧ u < (gR (oP o (B i).1.1)).1 1 0 0 := by omega
  have z172 := zc172 (d := dl) (by omega) cM hb (rfl : iI i = iI i) (by omega)
  rw [if_pos hi] at z172
  have z169 := zc169 (d := dl) (v := iI c) (c := c) (by omega) hP hC.1 hp rfl (by omega)
  rw [if_pos hc] at z169
  have z3 := bc3 (d := dl) (by omega) hK Lb (by omega) hub (rfl : iI u = iI u)
  -- the reference
  obtain ⟨r1, r2⟩ := hr.2 i hi.1 hi.2
  have rrp := (hR.1.2.1 _ hp.1 hp.2).1
  have q1 := rr184 (d := d) (M := Mr) (v1 := iI i) (v2 := 0) (v3 := iI (nB - 1)) (i := i) (b := 0) (c := nB - 1) (by omega) rfl rfl rfl (by omega) (by omega) (by omega)
  rw [if_pos (by omega)] at q1
  have q2 := rr184 (d := d) (M := Mr) (v1 := iI c) (v2 := 0) (v3 := iI ((gR (oP o (B i).1.1)).1 3 0 0 - 1)) (i := c) (b := 0) (c := (gR (oP o (B i).1.1)).1 3 0 0 - 1) (by omega) rfl rfl rfl (by omega) (by omega) (by omega)
  rw [if_pos (by omega)] at q2
  have e176 := hoR.ncs hR.1 hp
  have e178 : Mr.1 178 (16 * (B i).1.1 + c).toNat = iI u := by rw [hu]; exact rrp.at (q := (178, 16, 3, 1)) (by decide) hc.1 (show c < 16 by omega) rfl
  have z307 := zr307 (d := d) (by omega) hR.1 hP hr hi n8.2 ⟨⟨hp, hp2⟩, hL⟩ hub (rfl : iI i = iI i) (rfl : iI u = iI u)
  have n10 : ¬ iI 1 = (0 : Int32) := by decide
  by_cases y : 0 ≤ (B i).2.2.1 u
  · rw [if_pos y] at z3
    refine ⟨Mc, Mr, -2, ?_, ?_, Or.inl ⟨rfl, rfl⟩⟩
    · rw [r166]; unfold b166; rw [aR_e, aI_e, aI_e, aZ_e]; unfold c166
      rw [vC_e (ck_64 cM), cP_e z172, jn_v, if_neg (show ¬ some (B i).2.1 = none by simp), gtP_q hK.1.1 hK.2.1.1, cP_e z169, jv_e]
      dsimp only
      rw [if_neg (show ¬ some (hEC (gH (oP o (B i).1.1)) 3 c) = none by simp), gtI_q t1 e1, vC_e hK.1.1, cI_e z3, if_neg n10]
    · rw [r309]; unfold b309; rw [aR_e, aI_e, aI_e, aZ_e]; unfold c309
      rw [gtI_q (rk_160 rM) hr.1, show iI nB - (1 : Int32) = iI (nB - 1) from sbI rfl li_1, cI_e q1, jn_v, if_neg n10, gtP_q (rk_160 rM) (rf_17 rM), gtP_q (rk_160 rM) (rf_155 rM), alI_q (n := 8) (z := i) (rk_257 rM) rfl (by omega) r1, alI_q (n := 8) (rk_176 rM) rfl (by omega) e176, show iI ((gR (oP o (B i).1.1)).1 3 0 0) - (1 : Int32) = iI ((gR (oP o (B i).1.1)).1 3 0 0 - 1) from sbI rfl li_1, cI_e q2, if_neg n10, gtP_q (rk_160 rM) (rf_19 rM), gtP_q (rk_160 rM) (rf_155 rM), alI_q (n := 8) (z := i) (rk_257 rM) rfl (by omega) r1, alI_q (n := 128) (z := 16 * (B i).1.1 + c) (rk_178 rM) (adI (mlI l16 rfl) rfl) (by omega) e178, vC_e (rk_160 rM), cI_e z307, if_neg (show ¬ iI ((B i).2.2.1 u) < 0 from lsI_n (y := 0) rfl li_0 (by have := Lb u hub.1 hub.2; omega))]
  · rw [if_neg y] at z3
    obtain ⟨qn, hqn⟩ : ∃ q : QN, q = (sl, -1, 0, 1, 0) := ⟨_, rfl⟩
    obtain ⟨hu', Ma, M2, R2, x1, x2, x3, x4, x5, x6, x7, x8, x9, x10, x11⟩ := prb_pair (dl := dl) (d := d) (pv := 2147483647) (by omega) (by omega) hP hC hR hb hi hsl hqn rfl rfl
    have hdc' : hdC hs M2 := hdc.fz fun a j z => nm hC.1 x5 (by omega) (by unfold Zpr; omega)
    have hdr' : hdR hs R2 := hdr.fz fun a j z => x7.2 _ _ (by unfold Zma; omega)
    obtain ⟨Mh, Rh, V, s', w1, w2, w3, w4, w5, w6, w7, w8⟩ := lw_pair (dl := dl) (d := d) (Mc := M2) (Mr := R2) (c := c) (w := iI c) (by omega) (by omega) hu' hqn x8.1 x8.2 x10.1 x10.2 x9 ((nm hC.1 x5 (by decide) (by unfold Zpr; omega)).trans (h78.trans (x7.2 _ _ (by unfold Zma; omega)).symm)) ((x7.2 _ _ (by unfold Zma; omega)).trans hR.2.2.1) x11 hdc' hdr' hc rfl
    have w1' : runX dl 175 [va_rf (some 64), va_rf (some (hEC (gH (oP o (B i).1.1)) 3 c))] M2 = some (.int (iI V), Mh) := w1
    refine ⟨Mh, Rh, iI V, ?_, ?_, Or.inr ⟨s', (x5.m fun a j z => Or.inl (Zpr_M z)).tr (w3.fg x8.1.1.2.2), ⟨(congrArg (fun z => z.2.2) w3.1).trans x6.1, (congrArg (fun z => z.1) w3.1).trans x6.2⟩, (x7.m fun a j z => Or.inl (Zma_R z)).tr w4, w5, w6, w7, w8⟩⟩
    · rw [r166]; unfold b166; rw [aR_e, aI_e, aI_e, aZ_e]; unfold c166
      rw [vC_e (ck_64 cM), cP_e z172, jn_v, if_neg (show ¬ some (B i).2.1 = none by simp), gtP_q hK.1.1 hK.2.1.1, cP_e z169, jv_e]
      dsimp only
      rw [if_neg (show ¬ some (hEC (gH (oP o (B i).1.1)) 3 c) = none by simp), gtI_q t1 e1, vC_e hK.1.1, cI_e z3, if_pos (show iI 0 = 0 from rfl), gtP_q (ck_64 cM) (cf_64_2 cM), gtP_q hK.1.1 hK.2.1.1, vC_e (ck_88 cM), cV_e x1, gtP_q (ck_64 x2) (cf_64_2 x2), vC_e (ck_88 x2), cV_e x3, vC_e (ck_64 x8.1.1.1), cI_e w1']
    · rw [r309]; unfold b309; rw [aR_e, aI_e, aI_e, aZ_e]; unfold c309
      rw [gtI_q (rk_160 rM) hr.1, show iI nB - (1 : Int32) = iI (nB - 1) from sbI rfl li_1, cI_e q1, jn_v, if_neg n10, gtP_q (rk_160 rM) (rf_17 rM), gtP_q (rk_160 rM) (rf_155 rM), alI_q (n := 8) (z := i) (rk_257 rM) rfl (by omega) r1, alI_q (n := 8) (rk_176 rM) rfl (by omega) e176, show iI ((gR (oP o (B i).1.1)).1 3 0 0) - (1 : Int32) = iI ((gR (oP o (B i).1.1)).1 3 0 0 - 1) from sbI rfl li_1, cI_e q2, if_neg n10, gtP_q (rk_160 rM) (rf_19 rM), gtP_q (rk_160 rM) (rf_155 rM), alI_q (n := 8) (z := i) (rk_257 rM) rfl (by omega) r1, alI_q (n := 128) (z := 16 * (B i).1.1 + c) (rk_178 rM) (adI (mlI l16 rfl) rfl) (by omega) e178, vC_e (rk_160 rM), cI_e z307, if_pos (show iI ((B i).2.2.1 u) < 0 from lsI_p (y := 0) rfl li_0 (by have := Lb u hub.1 hub.2; omega)), gtP_q (rk_160 rM) (rf_155 rM), alI_q (n := 8) (z := i) (rk_257 rM) rfl (by omega) r1, gtP_q (rk_160 rM) (rf_156 rM), alI_q (n := 8) (z := i) (rk_258 rM) rfl (by omega) r2, vC_e (rk_160 rM), cV_e x4, vC_e (rk_160 x8.2.1.1), cI_e w2]
end S9dl
