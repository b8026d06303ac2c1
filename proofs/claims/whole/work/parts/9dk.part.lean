/-! BUILDS are found, asked: both -/
section S9dk
variable {d : Nat} {o : HO} {M M' M1 Mc Mr : Mem} {LL a j b c t : Nat} {xs : Nat → Int32} {ow ow' : Nat → Int} {p q i k nB sl u m : Int} {v v1 v2 : Int32} {B : Int → BG} {g0 g1 : PG} {L lk : Int → Int}
/-- the BUILD of a number -/
theorem zc172 (hd : 4 ≤ d) (hC : CT M) (h : bdC ow o nB B M) (hv : v = iI i) (hi : -2147483648 ≤ i ∧ i ≤ 2147483647) : runX d 172 [va_rf (some 64), .int v] M = some (va_rf (if 0 ≤ i ∧ i < nB then some (B i).2.1 else none), M) := by
  obtain ⟨d, rfl⟩ : ∃ e, d = e + 1 := ⟨d - 1, by omega⟩
  have hL := h.1
  have hn := hL.1.2.2
  rw [r172]; unfold b172; rw [aR_e, aI_e, aZ_e]; unfold c172
  rw [jn_v, jn_v]
  by_cases y : i < 0
  · rw [if_pos (lsI_p hv li_0 (by omega)), if_neg (by omega), jv_e, jv_e]
  · rw [if_neg (lsI_n hv li_0 (by omega)), gtP_q (ck_64 hC) (cf_64_4 hC), vC_e hL.1.1, cI_e (lf_size (by omega) hL)]
    by_cases z : i < nB
    · rw [if_pos (lsI_p hv rfl (by omega)), gtP_q (ck_64 hC) (cf_64_4 hC), vC_e hL.1.1, cP_e (lf_get (by omega) hL hv (by omega)), cst_e (h.2 i (by omega) z).2.1.1.1, if_pos (show 0 ≤ i ∧ i < nB by omega), jv_e]
    · rw [if_neg (lsI_n hv rfl (by omega)), if_neg (show ¬ (0 ≤ i ∧ i < nB) by omega), jv_e, jv_e]
/-- whether a unit is replaced -/
theorem bc3 (hd : 1 ≤ d) (h : bdK g0 g1 b L lk M) (hL : ∀ u, 0 ≤ u → u < (gR g0).1 1 0 0 → -1 ≤ L u ∧ L u ≤ 7) (hn : (gR g0).1 1 0 0 ≤ 8) (hu : 0 ≤ u ∧ u < (gR g0).1 1 0 0) (hv : v = iI u) : runX d 3 [va_rf (some b), .int v] M = some (.int (iI (if 0 ≤ L u then 1 else 0)), M) := by
  obtain ⟨d, rfl⟩ : ∃ e, d = e + 1 := ⟨d - 1, by omega⟩
  subst hv
  obtain ⟨⟨h1, h2, h3⟩, ⟨h4, h5, h6, h7⟩, h8, h9⟩ := h
  have := hL u hu.1 hu.2
  have e := h8 u hu.1 (by omega)
  rw [if_pos hu.2] at e
  rw [r3]; unfold b3; rw [aR_e, aI_e, aZ_e]; unfold c3
  rw [jn_v, jn_v, if_neg (show ¬ iI u < 0 from lsI_n (y := 0) rfl li_0 (by omega)), if_neg (show ¬ (8 : Int32) ≤ iI u from leI_n (x := 8) rfl rfl (by omega)), gtP_q h1 h6, alI_q (n := 8) (z := u) h2 rfl (by omega) e]
  by_cases y : 0 ≤ L u
  · rw [if_neg (show ¬ L u = -1 by omega), if_neg (show ¬ iI (L u) < 0 from lsI_n (y := 0) rfl li_0 (by omega)), if_pos y, jv_e]
    exact rtZ_q rfl (by omega)
  · rw [if_pos (show L u = -1 by omega), if_pos (show iI (-2) < 0 by decide), if_neg y, jv_e, jv_e]
    exact rtZ_q (z := 0) rfl (by omega)
/-- what a member is linked to -/
theorem bc4 (hd : 1 ≤ d) (h : bdK g0 g1 b L lk M) (hn : (gR g0).1 2 0 0 ≤ 96) (hm : 0 ≤ m ∧ m < (gR g0).1 2 0 0) (hv : v = iI m) : runX d 4 [va_rf (some b), .int v] M = some (.int (iI (lk m)), M) := by
  obtain ⟨d, rfl⟩ : ∃ e, d = e + 1 := ⟨d - 1, by omega⟩
  subst hv
  obtain ⟨⟨h1, h2, h3⟩, ⟨h4, h5, h6, h7⟩, h8, h9⟩ := h
  rw [r4]; unfold b4; rw [aR_e, aI_e, aZ_e]; unfold c4
  rw [jn_v, jn_v, if_neg (show ¬ iI m < 0 from lsI_n (y := 0) rfl li_0 (by omega)), gtP_q h1 h7, aln_q' h3, if_pos (lsI_p rfl rfl (by omega)), gtP_q h1 h7, alI_q (z := m) h3 rfl (by omega) (h9 m hm.1 hm.2), jv_e]
/-- takeBuild() -/
theorem zc20 (hd : 1 ≤ d) (hC : CT M) (h : bdK g0 g1 b L lk M) (hx : M.2.2.2[gX g1]? = some (6, 18)) : ∃ M', runX d 20 [va_rf (some 88), va_rf (some b)] M = some (.null, M') ∧ M' = sP (sP M 88 9 (some b)) 91 1 (some (gX g1)) := by
  obtain ⟨d, rfl⟩ : ∃ e, d = e + 1 := ⟨d - 1, by omega⟩
  obtain ⟨⟨h1, h2, h3⟩, ⟨h4, h5, h6, h7⟩, h8, h9⟩ := h
  have k88 := ck_88 hC
  have k91 := ck_91 hC
  refine ⟨_, ?_, rfl⟩
  have kb : (sP M 88 9 (some b)).2.2.2[b]? = some (1, 4) := h1
  have cS : (sP M 88 9 (some b)).2.2.1 88 8 = some 91 := (sP_nej (by decide)).trans (cf_88_8 hC)
  have bS : (sP M 88 9 (some b)).2.2.1 b 1 = some (gX g1) := by
    by_cases y : b = 88
    · rw [y] at h1
      have := ck_88 hC
      rw [h1] at this
      exact absurd this (by decide)
    · exact (sP_ne y).trans h5
  rw [r20]; unfold b20; rw [aR_e, aR_e, aZ_e]; unfold c20
  rw [ptP_e k88, gtP_q (M := sP M 88 9 (some b)) k88 cS, gtP_q kb bS, show (1 : Int32) = iI 1 from rfl, asP_e (M := sP M 88 9 (some b)) k91 (by decide) (by decide) (by decide) (asOK_p (M := sP M 88 9 (some b)) hx)]
  rfl
/-- whether a unit is replaced, in the reference -/
theorem zr307 (hd : 2 ≤ d) (hR : hoR o M) (hP : hoP o) (h : bdR nB B M) (hi : 0 ≤ i ∧ i < nB) (hn : nB ≤ 8) (hB : ((0 ≤ (B i).1.1 ∧ (B i).1.1 < oN o) ∧ 0 ≤ (B i).1.2 ∧ (B i).1.2 < oN o) ∧ bdL (oP o (B i).1.1) (oP o (B i).1.2) (B i).2.2.1 (B i).2.2.2) (hu : 0 ≤ u ∧ u < (gR (oP o (B i).1.1)).1 1 0 0) (hv : v1 = iI i) (hv2 : v2 = iI u) : runX d 307 [va_rf (some 160), .int v1, .int v2] M = some (.int (iI ((B i).2.2.1 u)), M) := by
  obtain ⟨d, rfl⟩ : ∃ e, d = e + 1 := ⟨d - 1, by omega⟩
  subst hv; subst hv2
  obtain ⟨p, hp⟩ : ∃ p, p = (B i).1.1 := ⟨_, rfl⟩
  obtain ⟨q, hq⟩ : ∃ q, q = (B i).1.2 := ⟨_, rfl⟩
  obtain ⟨L, hL⟩ : ∃ L, L = (B i).2.2.1 := ⟨_, rfl⟩
  obtain ⟨⟨b1, b2⟩, b3⟩ := hB
  rw [← hp] at b1 hu b3
  rw [← hq] at b2 b3
  rw [← hL] at b3
  rw [← hL]
  have p8 := hP.1
  have rM := hR.1.1
  have n1 := (hP.2.2.1 q b2.1 b2.2).1.n2
  have n0 := (hP.2.2.1 p b1.1 b1.2).1.n2
  obtain ⟨r1, r2⟩ := h.2 i hi.1 hi.2
  rw [← hp] at r1
  rw [← hq] at r2
  have rrp := (hR.2.1 p b1.1 b1.2).1
  have rrq := (hR.2.1 q b2.1 b2.2).1
  have nm : M.2.1 163 (8 * p + u).toNat = (gR (oP o p)).2 1 u := rrp.2 (163, 8, 1) (by decide) u hu.1 (by show u < 8; omega)
  obtain ⟨r, hr1, hr2⟩ : ∃ r, LcF ((gR (oP o q)).2 1) ((gR (oP o q)).1 1 0 0) ((gR (oP o p)).2 1 u) r ∧ runX d 227 [va_rf (some 160), .int (iI q), .long ((gR (oP o p)).2 1 u)] M = some (.int (iI r), M) := by
    have t := a227 (d := d) (y := (gR (oP o p)).2 1 u) (by omega) rM rrq (rfl : iI q = iI q) (by omega) (by omega)
    obtain ⟨vv, M2, t1, r, t2, t3, t4⟩ := t
    exact ⟨r, t4, by rw [t1, t2, t3]⟩
  have er := hr1.one (b3.1 u hu.1 hu.2)
  rw [← er]
  rw [r307]; unfold b307; rw [aR_e, aI_e, aI_e, aZ_e]; unfold c307
  rw [gtP_q (rk_160 rM) (rf_156 rM), alI_q (n := 8) (z := i) (rk_258 rM) rfl (by omega) r2, gtP_q (rk_160 rM) (rf_4 rM), gtP_q (rk_160 rM) (rf_155 rM), alI_q (n := 8) (z := i) (rk_257 rM) rfl (by omega) r1, alL_q (n := 64) (z := 8 * p + u) (rk_163 rM) (adI (mlI (show (8 : Int32) = iI 8 from rfl) rfl) rfl) (by omega) nm, vC_e (rk_160 rM), cI_e hr2]
end S9dk
