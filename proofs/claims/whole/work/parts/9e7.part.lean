/-! what a parcel has: count(), member(), about(), code(): both -/
section S9e7
variable {d dl : Nat} {o : HO} {M M' Mc Mr : Mem} {LL a j b c t x n : Nat} {xs : Nat → Int32} {ow : Nat → Int} {p i k sl m f w : Int} {v v1 v2 v3 v4 : Int32}
theorem swI_p {x c : Int32} {a d : XA} {l : List (Int32 × XA)} (h : x = c) : swI x ((c, a) :: l) d = a := if_pos h
theorem swI_q {x c : Int32} {a d : XA} {l : List (Int32 × XA)} (h : ¬ x = c) : swI x ((c, a) :: l) d = swI x l d := if_neg h
theorem gmc_0 (g : PG) : 0 ≤ gmc g := (mcn_b (gG g) (gE g).toNat).1
/-- a parcel, in both, for calls that look at it -/
theorem pk_two (hdl : 4 ≤ dl) (hd : 2 ≤ d) (hP : hoP o) (hC : HC LL xs o ow sl Mc) (hR : HR o sl Mr) (bp : -2147483648 ≤ p ∧ p ≤ 2147483647) : runX dl 167 [va_rf (some 64), .int (iI p)] Mc = some (va_rf (if 0 ≤ p ∧ p < oN o then some (gX (oP o p)) else none), Mc) ∧ runX d 255 [va_rf (some 160), .int (iI p)] Mr = some (.int (iI (if 0 ≤ p ∧ p < oN o then 1 else 0)), Mr) := by
  have p8 := hP.1
  exact ⟨zc167 (by omega) hC.1.1.1 hC.2.1 hC.1.ob rfl bp, zr255 (by omega) hR.1.1.1 hR.2.1 (by omega) rfl bp⟩
theorem ck_two (hdl : 5 ≤ dl) (hd : 3 ≤ d) (hP : hoP o) (hC : HC LL xs o ow sl Mc) (hR : HR o sl Mr) (bp : -2147483648 ≤ p ∧ p ≤ 2147483647) (bk : -2147483648 ≤ k ∧ k ≤ 2147483647) : runX dl 169 [va_rf (if 0 ≤ p ∧ p < oN o then some (gX (oP o p)) else none), .int (iI k)] Mc = some (va_rf (if (0 ≤ p ∧ p < oN o) ∧ 0 ≤ k ∧ k < (gR (oP o p)).1 3 0 0 then some (hEC (gH (oP o p)) 3 k) else none), Mc) ∧ runX d 256 [va_rf (some 160), .int (iI p), .int (iI k)] Mr = some (.int (iI (if (0 ≤ p ∧ p < oN o) ∧ 0 ≤ k ∧ k < (gR (oP o p)).1 3 0 0 then 1 else 0)), Mr) := by
  have p8 := hP.1
  by_cases hp : 0 ≤ p ∧ p < oN o
  · have e169 := zc169 (d := dl) (M := Mc) (v := iI k) (c := k) (by omega) hP hC.1 hp rfl bk
    have e256 := zr256 (d := d) (M := Mr) (v := iI p) (p := p) (w := iI k) (c := k) (n := oN o) (b := (gR (oP o p)).1 3 0 0) (by omega) hR.1.1.1 hR.2.1 (by omega) rfl bp rfl bk (fun a b => by
      have := pk_lo hP ⟨a, b⟩
      exact ⟨hoR.ncs hR.1 ⟨a, b⟩, by omega⟩)
    rw [if_pos hp]
    refine ⟨e169.trans ?_, e256⟩
    by_cases hk : 0 ≤ k ∧ k < (gR (oP o p)).1 3 0 0
    · rw [if_pos hk, if_pos ⟨hp, hk⟩]
    · rw [if_neg hk, if_neg fun z => hk z.2]
  · have e256 := zr256 (d := d) (M := Mr) (v := iI p) (p := p) (w := iI k) (c := k) (n := oN o) (b := 0) (by omega) hR.1.1.1 hR.2.1 (by omega) rfl bp rfl bk (fun a b => absurd ⟨a, b⟩ hp)
    rw [if_neg hp, if_neg fun z => hp z.1]
    refine ⟨zc169n (by omega), e256.trans ?_⟩
    rw [if_neg fun z => hp z.1, if_neg fun z => hp z.1]
theorem r_in (hd : 1 ≤ d) (b1 : -2147483648 ≤ i ∧ i ≤ 2147483647) (b2 : -2147483648 ≤ k ∧ k ≤ 2147483647) (b3 : -2147483648 ≤ m ∧ m ≤ 2147483647) : runX d 184 [.int (iI i), .int (iI k), .int (iI m)] M = some (.int (iI (if k ≤ i ∧ i ≤ m then 1 else 0)), M) := rr184 (by omega) rfl rfl rfl b1 b2 b3

theorem count_pair (hdl : 6 ≤ dl) (hd : 4 ≤ d) (hP : hoP o) (hC : HC LL xs o ow sl Mc) (hR : HR o sl Mr) (hv1 : v1 = iI p) (hv2 : v2 = iI k) (bp : -2147483648 ≤ p ∧ p ≤ 2147483647) (bk : -2147483648 ≤ k ∧ k ≤ 2147483647) : ∃ r, runX dl 132 [va_rf (some 64), .int v1, .int v2] Mc = some (.int r, Mc) ∧ runX d 263 [va_rf (some 160), .int v1, .int v2] Mr = some (.int r, Mr) := by
  obtain ⟨dl, rfl⟩ : ∃ e, dl = e + 1 := ⟨dl - 1, by omega⟩
  obtain ⟨d, rfl⟩ : ∃ e, d = e + 1 := ⟨d - 1, by omega⟩
  subst hv1; subst hv2
  have cM := hC.1.1.1
  have rM := hR.1.1.1
  have l6 : (6 : Int32) = iI 6 := rfl
  obtain ⟨e1, e2⟩ := pk_two (dl := dl) (d := d) (p := p) (by omega) (by omega) hP hC hR bp
  have q := r_in (d := d) (M := Mr) (i := k) (k := 1) (m := 6) (by omega) bk (by omega) (by omega)
  rw [← li_1, ← l6] at q
  rw [r132, r263]; unfold b132 b263; rw [aR_e, aR_e, aI_e, aI_e, aI_e, aI_e, aZ_e, aZ_e]; unfold c132 c263
  by_cases k0 : k = 0
  · rw [if_pos (show iI k = 0 by rw [k0]; rfl), if_pos (show iI k = 0 by rw [k0]; rfl), gtP_q (ck_64 cM) (cf_64_1 cM), vC_e hC.2.1.1.1.1, cI_e (lf_size (by omega) hC.2.1.1), gtI_q (rk_160 rM) hR.2.1]
    exact ⟨_, rfl, rfl⟩
  rw [if_neg (show ¬ iI k = 0 from eqI_n (y := 0) rfl li_0 (by omega)), if_neg (show ¬ iI k = 0 from eqI_n (y := 0) rfl li_0 (by omega)), vC_e (ck_64 cM), cP_e e1, vC_e (rk_160 rM), cI_e e2, jn_v]
  by_cases hp : 0 ≤ p ∧ p < oN o
  · rw [if_pos hp, if_pos hp, if_neg (show ¬ some (gX (oP o p)) = none by simp), if_neg (show ¬ iI 1 = 0 by decide), cI_e q]
    obtain ⟨⟨⟨o1, o2, o3⟩, o4, o6, o9, -⟩, hPA, -, hLs, -⟩ := hC.1.2.1 p hp.1 hp.2
    have hg := hP.2.2.1 p hp.1 hp.2
    obtain ⟨n1, -, n2, n3, n4⟩ := hg.1.1.1
    obtain ⟨rr, rk⟩ := hR.1.2.1 p hp.1 hp.2
    have p8 := hP.1
    by_cases hk : 1 ≤ k ∧ k ≤ 6
    · rw [if_pos hk, if_neg (show ¬ iI 1 = 0 by decide), jn_v]
      have hk2 : k = 1 ∨ k = 2 ∨ k = 3 ∨ k = 4 ∨ k = 5 ∨ k = 6 := by omega
      rcases hk2 with rfl | rfl | rfl | rfl | rfl | rfl
      · refine ⟨iI ((gR (oP o p)).1 1 0 0), ?_, ?_⟩
        · rw [swI_p (show iI 1 = (1 : Int32) from rfl), gtP_q o1 (o4 1 (by decide) (by decide)), vC_e (hLs 1 (by decide) (by decide)).1.2.1, cI_e (ls_size (by omega) (hLs 1 (by decide) (by decide))), n1]
        · rw [if_pos (show iI 1 = (1 : Int32) from rfl), gtP_q (rk_160 rM) (rf_3 rM), alI_q (n := 8) (z := p) (rk_162 rM) rfl (by omega) (rr.at (q := (162, 1, 1, 0)) (j := 0) (x := p) (by decide) (by decide) (by decide) (by dsimp only; omega)), jv_e]
      · refine ⟨iI ((gR (oP o p)).1 2 0 0), ?_, ?_⟩
        · rw [swI_q (show ¬ iI 2 = (1 : Int32) by decide), swI_p (show iI 2 = (2 : Int32) from rfl), gtP_q o1 (o4 2 (by decide) (by decide)), vC_e (hLs 2 (by decide) (by decide)).1.2.1, cI_e (ls_size (by omega) (hLs 2 (by decide) (by decide))), n2]
        · rw [if_neg (show ¬ iI 2 = (1 : Int32) by decide), if_pos (show iI 2 = (2 : Int32) from rfl), gtP_q (rk_160 rM) (rf_10 rM), alI_q (n := 8) (z := p) (rk_169 rM) rfl (by omega) (rr.at (q := (169, 1, 2, 0)) (j := 0) (x := p) (by decide) (by decide) (by decide) (by dsimp only; omega)), jv_e]
      · refine ⟨iI (gE (oP o p)), ?_, ?_⟩
        · rw [swI_q (show ¬ iI 3 = (1 : Int32) by decide), swI_q (show ¬ iI 3 = (2 : Int32) by decide), swI_p (show iI 3 = (3 : Int32) from rfl), gtI_q o1 o3]
        · rw [if_neg (show ¬ iI 3 = (1 : Int32) by decide), if_neg (show ¬ iI 3 = (2 : Int32) by decide), if_pos (show iI 3 = (3 : Int32) from rfl), gtP_q (rk_160 rM) (rf_29 rM), alI_q (n := 8) (z := p) (rk_188 rM) rfl (by omega) rk.1.1, jv_e]
      · refine ⟨iI ((gR (oP o p)).1 3 0 0), ?_, ?_⟩
        · rw [swI_q (show ¬ iI 4 = (1 : Int32) by decide), swI_q (show ¬ iI 4 = (2 : Int32) by decide), swI_q (show ¬ iI 4 = (3 : Int32) by decide), swI_p (show iI 4 = (4 : Int32) from rfl), gtP_q o1 (o4 3 (by decide) (by decide)), vC_e (hLs 3 (by decide) (by decide)).1.2.1, cI_e (ls_size (by omega) (hLs 3 (by decide) (by decide))), n3]
        · rw [if_neg (show ¬ iI 4 = (1 : Int32) by decide), if_neg (show ¬ iI 4 = (2 : Int32) by decide), if_neg (show ¬ iI 4 = (3 : Int32) by decide), if_pos (show iI 4 = (4 : Int32) from rfl), gtP_q (rk_160 rM) (rf_17 rM), alI_q (n := 8) (z := p) (rk_176 rM) rfl (by omega) (rr.at (q := (176, 1, 3, 0)) (j := 0) (x := p) (by decide) (by decide) (by decide) (by dsimp only; omega)), jv_e]
      · refine ⟨iI ((gR (oP o p)).1 4 0 0), ?_, ?_⟩
        · rw [swI_q (show ¬ iI 5 = (1 : Int32) by decide), swI_q (show ¬ iI 5 = (2 : Int32) by decide), swI_q (show ¬ iI 5 = (3 : Int32) by decide), swI_q (show ¬ iI 5 = (4 : Int32) by decide), swI_p (show iI 5 = (5 : Int32) from rfl), gtP_q o1 (o4 4 (by decide) (by decide)), vC_e (hLs 4 (by decide) (by decide)).1.2.1, cI_e (ls_size (by omega) (hLs 4 (by decide) (by decide))), n4]
        · rw [if_neg (show ¬ iI 5 = (1 : Int32) by decide), if_neg (show ¬ iI 5 = (2 : Int32) by decide), if_neg (show ¬ iI 5 = (3 : Int32) by decide), if_neg (show ¬ iI 5 = (4 : Int32) by decide), if_pos (show iI 5 = (5 : Int32) from rfl), gtP_q (rk_160 rM) (rf_25 rM), alI_q (n := 8) (z := p) (rk_184 rM) rfl (by omega) (rr.at (q := (184, 1, 4, 0)) (j := 0) (x := p) (by decide) (by decide) (by decide) (by dsimp only; omega)), jv_e]
      · refine ⟨iI (gmc (oP o p)), ?_, ?_⟩
        · rw [swI_q (show ¬ iI 6 = (1 : Int32) by decide), swI_q (show ¬ iI 6 = (2 : Int32) by decide), swI_q (show ¬ iI 6 = (3 : Int32) by decide), swI_q (show ¬ iI 6 = (4 : Int32) by decide), swI_q (show ¬ iI 6 = (5 : Int32) by decide), swI_p (show iI 6 = (6 : Int32) from rfl), gtP_q o1 o9, aln_q' hPA.2.2.2.1.1, show (((gmc (oP o p)).toNat : Nat) : Int) = gmc (oP o p) from Int.toNat_of_nonneg (gmc_0 _)]
        · rw [if_neg (show ¬ iI 6 = (1 : Int32) by decide), if_neg (show ¬ iI 6 = (2 : Int32) by decide), if_neg (show ¬ iI 6 = (3 : Int32) by decide), if_neg (show ¬ iI 6 = (4 : Int32) by decide), if_neg (show ¬ iI 6 = (5 : Int32) by decide), gtP_q (rk_160 rM) (rf_33 rM), alI_q (n := 8) (z := p) (rk_192 rM) rfl (by omega) rk.1.2, jv_e]
    · rw [if_neg hk, if_pos (show iI 0 = 0 from rfl), jv_e]
      refine ⟨-1, ?_, rfl⟩
      rw [swI_q (show ¬ iI k = (1 : Int32) from eqI_n (y := 1) rfl rfl (by omega)), swI_q (show ¬ iI k = (2 : Int32) from eqI_n (y := 2) rfl rfl (by omega)), swI_q (show ¬ iI k = (3 : Int32) from eqI_n (y := 3) rfl rfl (by omega)), swI_q (show ¬ iI k = (4 : Int32) from eqI_n (y := 4) rfl rfl (by omega)), swI_q (show ¬ iI k = (5 : Int32) from eqI_n (y := 5) rfl rfl (by omega)), swI_q (show ¬ iI k = (6 : Int32) from eqI_n (y := 6) rfl rfl (by omega)), swI_n]
  · rw [if_neg hp, if_neg hp, if_pos rfl, if_pos (show iI 0 = 0 from rfl), jv_e]
    exact ⟨_, rfl, rfl⟩
theorem member_pair2 (hdl : 6 ≤ dl) (hd : 4 ≤ d) (hP : hoP o) (hC : HC LL xs o ow sl Mc) (hR : HR o sl Mr) (hv1 : v1 = iI p) (hv2 : v2 = iI m) (hv3 : v3 = iI k) (bp : -2147483648 ≤ p ∧ p ≤ 2147483647) (bm : -2147483648 ≤ m ∧ m ≤ 2147483647) (bk : -2147483648 ≤ k ∧ k ≤ 2147483647) : ∃ r, runX dl 133 [va_rf (some 64), .int v1, .int v2, .int v3] Mc = some (.int r, Mc) ∧ runX d 264 [va_rf (some 160), .int v1, .int v2, .int v3] Mr = some (.int r, Mr) := by
  obtain ⟨dl, rfl⟩ : ∃ e, dl = e + 1 := ⟨dl - 1, by omega⟩
  obtain ⟨d, rfl⟩ : ∃ e, d = e + 1 := ⟨d - 1, by omega⟩
  subst hv1; subst hv2; subst hv3
  have cM := hC.1.1.1
  have rM := hR.1.1.1
  have l4 : (4 : Int32) = iI 4 := rfl
  have l96 : (96 : Int32) = iI 96 := rfl
  have n10 : ¬ iI 1 = (0 : Int32) := by decide
  obtain ⟨e1, e2⟩ := pk_two (dl := dl) (d := d) (p := p) (by omega) (by omega) hP hC hR bp
  have q := r_in (d := d) (M := Mr) (i := k) (k := 0) (m := 4) (by omega) bk (by omega) (by omega)
  rw [← li_0, ← l4] at q
  rw [r133, r264]; unfold b133 b264; rw [aR_e, aR_e, aI_e, aI_e, aI_e, aI_e, aI_e, aI_e, aZ_e, aZ_e]; unfold c133 c264
  rw [vC_e (ck_64 cM), cP_e e1, vC_e (rk_160 rM), cI_e e2, jn_v, jn_v]
  by_cases hp : 0 ≤ p ∧ p < oN o
  · rw [if_pos hp, if_pos hp, if_neg (show ¬ some (gX (oP o p)) = none by simp), if_neg n10]
    obtain ⟨⟨⟨o1, o2, o3⟩, o4, o6, o9, -⟩, hPA, -, hLs, hTT, -⟩ := hC.1.2.1 p hp.1 hp.2
    have hg := hP.2.2.1 p hp.1 hp.2
    obtain ⟨n1, -, n2, n3, n4⟩ := hg.1.1.1
    have nb := hg.1.n2
    obtain ⟨rr, rk⟩ := hR.1.2.1 p hp.1 hp.2
    have p8 := hP.1
    have e3 := zpartn (d := dl) (M := Mc) (v := iI m) (i := m) (by omega) (hLs 2 (by decide) (by decide)) rfl bm (fun j a b => (hTT 2 (by decide) (by decide) j a b).1.1)
    have q2 := r_in (d := d) (M := Mr) (i := m) (k := 0) (m := (gR (oP o p)).1 2 0 0 - 1) (by omega) bm (by omega) (by omega)
    rw [← li_0] at q2
    rw [gtP_q o1 (o4 2 (by decide) (by decide)), cP_e e3, jv_e, gtP_q (rk_160 rM) (rf_10 rM), alI_q (n := 8) (z := p) (rk_169 rM) rfl (by omega) (rr.at (q := (169, 1, 2, 0)) (j := 0) (x := p) (by decide) (by decide) (by decide) (by dsimp only; omega)), show iI ((gR (oP o p)).1 2 0 0) - (1 : Int32) = iI ((gR (oP o p)).1 2 0 0 - 1) from sbI rfl li_1, cI_e q2]
    dsimp only
    by_cases hm : 0 ≤ m ∧ m < hEN (gH (oP o p)) 2
    · obtain ⟨⟨t1, -, -⟩, t4, t5⟩ := hTT 2 (by decide) (by decide) m hm.1 hm.2
      obtain ⟨-, g1, g2, g3, g4, g5, g6, g7⟩ := hg.1.1.2.2.2.1 m hm.1 hm.2
      rw [if_pos hm, if_neg (show ¬ some (hEC (gH (oP o p)) 2 m) = none by simp), if_pos (show 0 ≤ m ∧ m ≤ (gR (oP o p)).1 2 0 0 - 1 by omega), if_neg n10, cI_e q]
      have fx : ∀ f, 1 ≤ f → f ≤ 5 → Mc.1 (hEC (gH (oP o p)) 2 m) f = iI ((gR (oP o p)).1 2 f m) := fun f a b => by rw [t4 f a (by omega), g1 f a b]
      have hm2 : m < 96 := by omega
      by_cases hk : 0 ≤ k ∧ k ≤ 4
      · rw [if_pos hk, if_neg n10, ltI_q (z := 96 * p + m) (adI (mlI l96 rfl) rfl), jn_v]
        have hk2 : k = 0 ∨ k = 1 ∨ k = 2 ∨ k = 3 ∨ k = 4 := by omega
        rcases hk2 with rfl | rfl | rfl | rfl | rfl
        · refine ⟨iI ((gR (oP o p)).1 2 1 m), ?_, ?_⟩
          · rw [swI_p (show iI 0 = (0 : Int32) from rfl), gtI_q t1 (fx 1 (by decide) (by decide))]
          · rw [if_pos (show iI 0 = (0 : Int32) from rfl), gtP_q (rk_160 rM) (rf_12 rM), alI_q (n := 768) (z := 96 * p + m) (rk_171 rM) rfl (by omega) (rr.at (q := (171, 96, 2, 1)) (j := m) (x := 96 * p + m) (by decide) hm.1 hm2 rfl), jv_e]
        · refine ⟨iI ((gR (oP o p)).1 2 2 m), ?_, ?_⟩
          · rw [swI_q (show ¬ iI 1 = (0 : Int32) by decide), swI_p (show iI 1 = (1 : Int32) from rfl), gtI_q t1 (fx 2 (by decide) (by decide))]
          · rw [if_neg (show ¬ iI 1 = (0 : Int32) by decide), if_pos (show iI 1 = (1 : Int32) from rfl), gtP_q (rk_160 rM) (rf_13 rM), alI_q (n := 768) (z := 96 * p + m) (rk_172 rM) rfl (by omega) (rr.at (q := (172, 96, 2, 2)) (j := m) (x := 96 * p + m) (by decide) hm.1 hm2 rfl), jv_e]
        · refine ⟨iI ((gR (oP o p)).1 2 3 m), ?_, ?_⟩
          · rw [swI_q (show ¬ iI 2 = (0 : Int32) by decide), swI_q (show ¬ iI 2 = (1 : Int32) by decide), swI_p (show iI 2 = (2 : Int32) from rfl), gtI_q t1 (fx 3 (by decide) (by decide)), jn_v]
            have z : (gR (oP o p)).1 2 3 m = 0 ∨ (gR (oP o p)).1 2 3 m = 1 := by omega
            rcases z with z | z <;> rw [z]
            · rw [if_pos (show iI 0 = 0 from rfl), jv_e]; rfl
            · rw [if_neg n10, jv_e]; rfl
          · rw [if_neg (show ¬ iI 2 = (0 : Int32) by decide), if_neg (show ¬ iI 2 = (1 : Int32) by decide), if_pos (show iI 2 = (2 : Int32) from rfl), gtP_q (rk_160 rM) (rf_14 rM), alX_q (n := 768) (z := 96 * p + m) (rk_173 rM) rfl (by omega) (rr.at (q := (173, 96, 2, 3)) (j := m) (x := 96 * p + m) (by decide) hm.1 hm2 rfl), cI_e (hr245 (k := (gR (oP o p)).1 2 3 m) (by omega) (by omega)), jv_e]
        · refine ⟨iI ((gR (oP o p)).1 2 4 m), ?_, ?_⟩
          · rw [swI_q (show ¬ iI 3 = (0 : Int32) by decide), swI_q (show ¬ iI 3 = (1 : Int32) by decide), swI_q (show ¬ iI 3 = (2 : Int32) by decide), swI_p (show iI 3 = (3 : Int32) from rfl), gtI_q t1 (fx 4 (by decide) (by decide))]
          · rw [if_neg (show ¬ iI 3 = (0 : Int32) by decide), if_neg (show ¬ iI 3 = (1 : Int32) by decide), if_neg (show ¬ iI 3 = (2 : Int32) by decide), if_pos (show iI 3 = (3 : Int32) from rfl), gtP_q (rk_160 rM) (rf_15 rM), alI_q (n := 768) (z := 96 * p + m) (rk_174 rM) rfl (by omega) (rr.at (q := (174, 96, 2, 4)) (j := m) (x := 96 * p + m) (by decide) hm.1 hm2 rfl), jv_e]
        · refine ⟨iI ((gR (oP o p)).1 2 5 m), ?_, ?_⟩
          · rw [swI_q (show ¬ iI 4 = (0 : Int32) by decide), swI_q (show ¬ iI 4 = (1 : Int32) by decide), swI_q (show ¬ iI 4 = (2 : Int32) by decide), swI_q (show ¬ iI 4 = (3 : Int32) by decide), swI_p (show iI 4 = (4 : Int32) from rfl), gtI_q t1 (fx 2 (by decide) (by decide)), jn_v]
            rcases g7 with ⟨z1, -, -⟩ | ⟨z1, z2⟩
            · rw [if_pos (show iI ((gR (oP o p)).1 2 2 m) = (4 : Int32) by rw [z1]; rfl), gtI_q t1 (fx 5 (by decide) (by decide)), jv_e]
            · rw [if_neg (show ¬ iI ((gR (oP o p)).1 2 2 m) = (4 : Int32) from eqI_n (y := 4) rfl rfl (by omega)), jv_e, z2]; rfl
          · rw [if_neg (show ¬ iI 4 = (0 : Int32) by decide), if_neg (show ¬ iI 4 = (1 : Int32) by decide), if_neg (show ¬ iI 4 = (2 : Int32) by decide), if_neg (show ¬ iI 4 = (3 : Int32) by decide), gtP_q (rk_160 rM) (rf_16 rM), alI_q (n := 768) (z := 96 * p + m) (rk_175 rM) rfl (by omega) (rr.at (q := (175, 96, 2, 5)) (j := m) (x := 96 * p + m) (by decide) hm.1 hm2 rfl), jv_e]
      · rw [if_neg hk, if_pos (show iI 0 = 0 from rfl), jv_e]
        refine ⟨-1, ?_, rfl⟩
        rw [swI_q (show ¬ iI k = (0 : Int32) from eqI_n (y := 0) rfl rfl (by omega)), swI_q (show ¬ iI k = (1 : Int32) from eqI_n (y := 1) rfl rfl (by omega)), swI_q (show ¬ iI k = (2 : Int32) from eqI_n (y := 2) rfl rfl (by omega)), swI_q (show ¬ iI k = (3 : Int32) from eqI_n (y := 3) rfl rfl (by omega)), swI_q (show ¬ iI k = (4 : Int32) from eqI_n (y := 4) rfl rfl (by omega)), swI_n]
    · rw [if_neg hm, if_pos rfl, if_neg (show ¬ (0 ≤ m ∧ m ≤ (gR (oP o p)).1 2 0 0 - 1) by omega), if_pos (show iI 0 = 0 from rfl), jv_e]
      exact ⟨_, rfl, rfl⟩
  · rw [if_neg hp, if_neg hp, if_pos rfl, if_pos (show iI 0 = 0 from rfl), jv_e, jv_e]
    dsimp only
    rw [if_pos rfl]
    exact ⟨_, rfl, rfl⟩
theorem about_pair (hdl : 7 ≤ dl) (hd : 5 ≤ d) (hP : hoP o) (hC : HC LL xs o ow sl Mc) (hR : HR o sl Mr) (hv1 : v1 = iI p) (hv2 : v2 = iI m) (hv3 : v3 = iI k) (bp : -2147483648 ≤ p ∧ p ≤ 2147483647) (bm : -2147483648 ≤ m ∧ m ≤ 2147483647) (bk : -2147483648 ≤ k ∧ k ≤ 2147483647) : ∃ r, runX dl 134 [va_rf (some 64), .int v1, .int v2, .int v3] Mc = some (.int r, Mc) ∧ runX d 265 [va_rf (some 160), .int v1, .int v2, .int v3] Mr = some (.int r, Mr) := by
  obtain ⟨dl, rfl⟩ : ∃ e, dl = e + 1 := ⟨dl - 1, by omega⟩
  obtain ⟨d, rfl⟩ : ∃ e, d = e + 1 := ⟨d - 1, by omega⟩
  subst hv1; subst hv2; subst hv3
  have cM := hC.1.1.1
  have rM := hR.1.1.1
  have l4 : (4 : Int32) = iI 4 := rfl
  have l16 : (16 : Int32) = iI 16 := rfl
  have n10 : ¬ iI 1 = (0 : Int32) := by decide
  obtain ⟨e1, -⟩ := pk_two (dl := dl) (d := d) (p := p) (by omega) (by omega) hP hC hR bp
  obtain ⟨e2, e3⟩ := ck_two (dl := dl) (d := d) (p := p) (k := m) (by omega) (by omega) hP hC hR bp bm
  have q := r_in (d := d) (M := Mr) (i := k) (k := 0) (m := 4) (by omega) bk (by omega) (by omega)
  rw [← li_0, ← l4] at q
  rw [r134, r265]; unfold b134 b265; rw [aR_e, aR_e, aI_e, aI_e, aI_e, aI_e, aI_e, aI_e, aZ_e, aZ_e]; unfold c134 c265
  rw [vC_e (ck_64 cM), cP_e e1, cP_e e2, vC_e (rk_160 rM), cI_e e3, jn_v]
  by_cases hc : (0 ≤ p ∧ p < oN o) ∧ 0 ≤ m ∧ m < (gR (oP o p)).1 3 0 0
  · obtain ⟨hp, hm⟩ := id hc
    rw [if_pos hc, if_pos hc, if_neg (show ¬ some (hEC (gH (oP o p)) 3 m) = none by simp), if_neg n10, cI_e q]
    obtain ⟨-, -, -, hLs, hTT, -⟩ := hC.1.2.1 p hp.1 hp.2
    have hg := hP.2.2.1 p hp.1 hp.2
    obtain ⟨n1, -, n2, n3, n4⟩ := hg.1.1.1
    have nb := hg.1.n3
    obtain ⟨rr, rk⟩ := hR.1.2.1 p hp.1 hp.2
    have p8 := hP.1
    obtain ⟨⟨t1, -, -⟩, t4, t5⟩ := hTT 3 (by decide) (by decide) m hm.1 (by omega)
    obtain ⟨-, ⟨g1, g4, g5, g6, g7⟩, -, -, -, g8, -⟩ := hg.1.1.2.2.2.2.1 m hm.1 (by omega)
    have hm2 : m < 16 := by omega
    by_cases hk : 0 ≤ k ∧ k ≤ 4
    · rw [if_pos hk, if_neg n10, ltI_q (z := 16 * p + m) (adI (mlI l16 rfl) rfl), jn_v]
      have hk2 : k = 0 ∨ k = 1 ∨ k = 2 ∨ k = 3 ∨ k = 4 := by omega
      rcases hk2 with rfl | rfl | rfl | rfl | rfl
      · refine ⟨iI ((gR (oP o p)).1 3 1 m), ?_, ?_⟩
        · rw [swI_p (show iI 0 = (0 : Int32) from rfl), gtI_q t1 ((t4 1 (by decide) (by decide)).trans (congrArg iI g1))]
        · rw [if_pos (show iI 0 = (0 : Int32) from rfl), gtP_q (rk_160 rM) (rf_19 rM), alI_q (n := 128) (z := 16 * p + m) (rk_178 rM) rfl (by omega) (rr.at (q := (178, 16, 3, 1)) (j := m) (x := 16 * p + m) (by decide) hm.1 hm2 rfl), jv_e]
      · refine ⟨iI ((gR (oP o p)).1 3 4 m), ?_, ?_⟩
        · rw [swI_q (show ¬ iI 1 = (0 : Int32) by decide), swI_p (show iI 1 = (1 : Int32) from rfl), gtI_q t1 ((t4 4 (by decide) (by decide)).trans (congrArg iI g4))]
        · rw [if_neg (show ¬ iI 1 = (0 : Int32) by decide), if_pos (show iI 1 = (1 : Int32) from rfl), gtP_q (rk_160 rM) (rf_20 rM), alI_q (n := 128) (z := 16 * p + m) (rk_179 rM) rfl (by omega) (rr.at (q := (179, 16, 3, 4)) (j := m) (x := 16 * p + m) (by decide) hm.1 hm2 rfl), jv_e]
      · refine ⟨iI ((gR (oP o p)).1 3 6 m), ?_, ?_⟩
        · rw [swI_q (show ¬ iI 2 = (0 : Int32) by decide), swI_q (show ¬ iI 2 = (1 : Int32) by decide), swI_p (show iI 2 = (2 : Int32) from rfl), gtI_q t1 ((t4 6 (by decide) (by decide)).trans (congrArg iI g6))]
        · rw [if_neg (show ¬ iI 2 = (0 : Int32) by decide), if_neg (show ¬ iI 2 = (1 : Int32) by decide), if_pos (show iI 2 = (2 : Int32) from rfl), gtP_q (rk_160 rM) (rf_21 rM), alI_q (n := 128) (z := 16 * p + m) (rk_180 rM) rfl (by omega) (rr.at (q := (180, 16, 3, 6)) (j := m) (x := 16 * p + m) (by decide) hm.1 hm2 rfl), jv_e]
      · refine ⟨iI ((gR (oP o p)).1 3 7 m), ?_, ?_⟩
        · rw [swI_q (show ¬ iI 3 = (0 : Int32) by decide), swI_q (show ¬ iI 3 = (1 : Int32) by decide), swI_q (show ¬ iI 3 = (2 : Int32) by decide), swI_p (show iI 3 = (3 : Int32) from rfl), gtI_q t1 ((t4 7 (by decide) (by decide)).trans (congrArg iI g7)), jn_v]
          have z : (gR (oP o p)).1 3 7 m = 0 ∨ (gR (oP o p)).1 3 7 m = 1 := by omega
          rcases z with z | z <;> rw [z]
          · rw [if_pos (show iI 0 = 0 from rfl), jv_e]; rfl
          · rw [if_neg n10, jv_e]; rfl
        · rw [if_neg (show ¬ iI 3 = (0 : Int32) by decide), if_neg (show ¬ iI 3 = (1 : Int32) by decide), if_neg (show ¬ iI 3 = (2 : Int32) by decide), if_pos (show iI 3 = (3 : Int32) from rfl), gtP_q (rk_160 rM) (rf_22 rM), alX_q (n := 128) (z := 16 * p + m) (rk_181 rM) rfl (by omega) (rr.at (q := (181, 16, 3, 7)) (j := m) (x := 16 * p + m) (by decide) hm.1 hm2 rfl), cI_e (hr245 (k := (gR (oP o p)).1 3 7 m) (by omega) (by omega)), jv_e]
      · refine ⟨iI ((gR (oP o p)).1 3 5 m), ?_, ?_⟩
        · rw [swI_q (show ¬ iI 4 = (0 : Int32) by decide), swI_q (show ¬ iI 4 = (1 : Int32) by decide), swI_q (show ¬ iI 4 = (2 : Int32) by decide), swI_q (show ¬ iI 4 = (3 : Int32) by decide), swI_p (show iI 4 = (4 : Int32) from rfl), gtI_q t1 ((t4 5 (by decide) (by decide)).trans (congrArg iI g5))]
        · rw [if_neg (show ¬ iI 4 = (0 : Int32) by decide), if_neg (show ¬ iI 4 = (1 : Int32) by decide), if_neg (show ¬ iI 4 = (2 : Int32) by decide), if_neg (show ¬ iI 4 = (3 : Int32) by decide), gtP_q (rk_160 rM) (rf_23 rM), alI_q (n := 128) (z := 16 * p + m) (rk_182 rM) rfl (by omega) (rr.at (q := (182, 16, 3, 5)) (j := m) (x := 16 * p + m) (by decide) hm.1 hm2 rfl), jv_e]
    · rw [if_neg hk, if_pos (show iI 0 = 0 from rfl), jv_e]
      refine ⟨-1, ?_, rfl⟩
      rw [swI_q (show ¬ iI k = (0 : Int32) from eqI_n (y := 0) rfl rfl (by omega)), swI_q (show ¬ iI k = (1 : Int32) from eqI_n (y := 1) rfl rfl (by omega)), swI_q (show ¬ iI k = (2 : Int32) from eqI_n (y := 2) rfl rfl (by omega)), swI_q (show ¬ iI k = (3 : Int32) from eqI_n (y := 3) rfl rfl (by omega)), swI_q (show ¬ iI k = (4 : Int32) from eqI_n (y := 4) rfl rfl (by omega)), swI_n]
  · rw [if_neg hc, if_neg hc, if_pos rfl, if_pos (show iI 0 = 0 from rfl), jv_e]
    exact ⟨_, rfl, rfl⟩
theorem code_pair2 (hdl : 6 ≤ dl) (hd : 4 ≤ d) (hP : hoP o) (hC : HC LL xs o ow sl Mc) (hR : HR o sl Mr) (hv1 : v1 = iI p) (hv2 : v2 = iI m) (hv3 : v3 = iI k) (bp : -2147483648 ≤ p ∧ p ≤ 2147483647) (bm : -2147483648 ≤ m ∧ m ≤ 2147483647) (bk : -2147483648 ≤ k ∧ k ≤ 2147483647) : ∃ r, runX dl 136 [va_rf (some 64), .int v1, .int v2, .int v3] Mc = some (.int r, Mc) ∧ runX d 267 [va_rf (some 160), .int v1, .int v2, .int v3] Mr = some (.int r, Mr) := by
  obtain ⟨dl, rfl⟩ : ∃ e, dl = e + 1 := ⟨dl - 1, by omega⟩
  obtain ⟨d, rfl⟩ : ∃ e, d = e + 1 := ⟨d - 1, by omega⟩
  subst hv1; subst hv2; subst hv3
  have cM := hC.1.1.1
  have rM := hR.1.1.1
  have l1000 : (1000 : Int32) = iI 1000 := rfl
  have n10 : ¬ iI 1 = (0 : Int32) := by decide
  obtain ⟨e1, e2⟩ := pk_two (dl := dl) (d := d) (p := p) (by omega) (by omega) hP hC hR bp
  have q := r_in (d := d) (M := Mr) (i := k) (k := 0) (m := 1) (by omega) bk (by omega) (by omega)
  rw [← li_0, ← li_1] at q
  have eC : runX (dl + 1) 136 [va_rf (some 64), .int (iI p), .int (iI m), .int (iI k)] Mc = c136 (runX dl) (some 64) (iI p) (iI m) (iI k) Mc := by
    rw [r136]; unfold b136; rw [aR_e, aI_e, aI_e, aI_e, aZ_e]
  have eR : runX (d + 1) 267 [va_rf (some 160), .int (iI p), .int (iI m), .int (iI k)] Mr = c267 (runX d) (some 160) (iI p) (iI m) (iI k) Mr := by
    rw [r267]; unfold b267; rw [aR_e, aI_e, aI_e, aI_e, aZ_e]
  rw [eC, eR]
  by_cases hp : 0 ≤ p ∧ p < oN o
  · rw [if_pos hp] at e1 e2
    obtain ⟨⟨⟨o1, o2, o3⟩, o4, ⟨o6, o7, -⟩, o9, -⟩, hPA, -, hLs, hTT, -⟩ := hC.1.2.1 p hp.1 hp.2
    have hg := hP.2.2.1 p hp.1 hp.2
    have nE := hg.1.2.1
    obtain ⟨rr, rk⟩ := hR.1.2.1 p hp.1 hp.2
    have p8 := hP.1
    have q2 := r_in (d := d) (M := Mr) (i := m) (k := 0) (m := gE (oP o p) - 1) (by omega) bm (by omega) (by omega)
    rw [← li_0] at q2
    have e188 := rk.1.1
    by_cases hv : (0 ≤ m ∧ m < gE (oP o p)) ∧ 0 ≤ k ∧ k ≤ 1
    · obtain ⟨hm, hk⟩ := hv
      rw [if_pos hk] at q
      rw [if_pos (show 0 ≤ m ∧ m ≤ gE (oP o p) - 1 by omega)] at q2
      obtain ⟨⟨g1, g1'⟩, g2, g3, g4, g5⟩ := hg.1.2.2.1 m hm.1 hm.2
      have c1 : Mc.1 (gX (oP o p) + 1) m.toNat = iI ((gG (oP o p)) 0 m) := (hPA.1.2 m.toNat (by omega)).trans (by dsimp only; rw [show ((m.toNat : Nat) : Int) = m by omega])
      have c2 : Mc.1 (gX (oP o p) + 2) m.toNat = iI ((gG (oP o p)) 1 m) := (hPA.2.1.2 m.toNat (by omega)).trans (by dsimp only; rw [show ((m.toNat : Nat) : Int) = m by omega])
      obtain ⟨r1, r2, -⟩ := rk.2.1 m hm.1 hm.2
      have k2 : k = 0 ∨ k = 1 := by omega
      refine ⟨if k = 0 then iI ((gG (oP o p)) 0 m) else iI ((gG (oP o p)) 3 m), ?_, ?_⟩
      · unfold c136
        rw [vC_e (ck_64 cM), cP_e e1, jn_v, if_neg (show ¬ some (gX (oP o p)) = none by simp), if_neg (show ¬ iI m < 0 from lsI_n (y := 0) rfl li_0 (by omega)), gtI_q o1 o3, if_neg (show ¬ iI (gE (oP o p)) ≤ iI m from leI_n rfl rfl (by omega)), if_neg (show ¬ iI k < 0 from lsI_n (y := 0) rfl li_0 (by omega)), if_pos (show iI k ≤ (1 : Int32) from leI_p (y := 1) rfl li_1 (by omega)), jn_v]
        rcases k2 with z | z
        · rw [if_pos z, if_pos (show iI k = 0 by rw [z]; rfl), gtP_q o1 o6, alI_q (n := (gE (oP o p)).toNat) (z := m) hPA.1.1 rfl (by omega) c1, jv_e]
        · rw [if_neg (show ¬ k = 0 by omega), if_neg (show ¬ iI k = 0 by rw [z]; decide), gtP_q o1 o7, alI_q (n := (gE (oP o p)).toNat) (z := m) hPA.2.1.1 rfl (by omega) c2, jv_e, g4]
      · unfold c267
        rw [vC_e (rk_160 rM), cI_e e2, jn_v, if_neg n10, gtP_q (rk_160 rM) (rf_29 rM), alI_q (n := 8) (z := p) (rk_188 rM) rfl (by omega) e188, show iI (gE (oP o p)) - (1 : Int32) = iI (gE (oP o p) - 1) from sbI rfl li_1, cI_e q2, if_neg n10, cI_e q, if_neg n10, gtP_q (rk_160 rM) (rf_30 rM), alI_q (n := 8000) (z := 1000 * p + m) (rk_189 rM) (adI (mlI l1000 rfl) rfl) (by omega) r1, jn_v, jn_v, jn_v]
        obtain ⟨G, hG⟩ : ∃ G : Int32 → XA, G = jv fun (s12 : Int32) => jn (fun (s13 : Int32) => some (.int s13, Mr)) fun j107 => if iI k = 0 then ( j107 (iI ((gG (oP o p)) 0 m))) else ( if s12 = 0 then ( j107 ((0 : Int32))) else ( gtP (13, 157) Mr (some 160) 31 fun x14 => alI 100 Mr x14 ((((1000 : Int32)) * iI p) + iI m) fun x15 => j107 x15)) := ⟨_, rfl⟩
        rw [← hG]
        have g1v : G 1 = some (.int (if k = 0 then iI ((gG (oP o p)) 0 m) else iI ((gG (oP o p)) 3 m)), Mr) := by
          rw [hG, jv_e, jn_v]
          rcases k2 with z | z
          · rw [if_pos z, if_pos (show iI k = 0 by rw [z]; rfl), jv_e]
          · rw [if_neg (show ¬ k = 0 by omega), if_neg (show ¬ iI k = 0 by rw [z]; decide), if_neg (show ¬ (1 : Int32) = 0 by decide), gtP_q (rk_160 rM) (rf_31 rM), alI_q (n := 8000) (z := 1000 * p + m) (rk_190 rM) (adI (mlI l1000 rfl) rfl) (by omega) r2, jv_e]
        have g0v : (gG (oP o p)) 3 m = 0 → G 0 = some (.int (if k = 0 then iI ((gG (oP o p)) 0 m) else iI ((gG (oP o p)) 3 m)), Mr) := fun w => by
          rw [hG, jv_e, jn_v]
          rcases k2 with z | z
          · rw [if_pos z, if_pos (show iI k = 0 by rw [z]; rfl), jv_e]
          · rw [if_neg (show ¬ k = 0 by omega), if_neg (show ¬ iI k = 0 by rw [z]; decide), if_pos rfl, jv_e, w]
            rfl
        by_cases y7 : (gG (oP o p)) 0 m ≤ 7
        · rw [if_pos (show iI ((gG (oP o p)) 0 m) ≤ (7 : Int32) from leI_p (y := 7) rfl rfl (by omega)), jv_e]
          exact g1v
        rw [if_neg (show ¬ iI ((gG (oP o p)) 0 m) ≤ (7 : Int32) from leI_n (y := 7) rfl rfl (by omega))]
        by_cases y24 : (gG (oP o p)) 0 m < 24
        · rw [if_pos (show iI ((gG (oP o p)) 0 m) < (24 : Int32) from lsI_p (y := 24) rfl rfl (by omega)), jv_e]
          exact g0v (by omega)
        rw [if_neg (show ¬ iI ((gG (oP o p)) 0 m) < (24 : Int32) from lsI_n (y := 24) rfl rfl (by omega))]
        by_cases y26 : 26 < (gG (oP o p)) 0 m
        · rw [if_pos (show (26 : Int32) < iI ((gG (oP o p)) 0 m) from lsI_p (x := 26) rfl rfl (by omega)), jv_e]
          exact g0v (by omega)
        · rw [if_neg (show ¬ (26 : Int32) < iI ((gG (oP o p)) 0 m) from lsI_n (x := 26) rfl rfl (by omega)), jv_e]
          exact g1v
    · refine ⟨-1, ?_, ?_⟩
      · unfold c136
        rw [vC_e (ck_64 cM), cP_e e1, jn_v, if_neg (show ¬ some (gX (oP o p)) = none by simp)]
        by_cases m0 : m < 0
        · rw [if_pos (show iI m < 0 from lsI_p (y := 0) rfl li_0 (by omega)), jv_e]
        rw [if_neg (show ¬ iI m < 0 from lsI_n (y := 0) rfl li_0 (by omega)), gtI_q o1 o3]
        by_cases m1 : gE (oP o p) ≤ m
        · rw [if_pos (show iI (gE (oP o p)) ≤ iI m from leI_p rfl rfl (by omega)), jv_e]
        rw [if_neg (show ¬ iI (gE (oP o p)) ≤ iI m from leI_n rfl rfl (by omega))]
        by_cases k0 : k < 0
        · rw [if_pos (show iI k < 0 from lsI_p (y := 0) rfl li_0 (by omega)), jv_e]
        rw [if_neg (show ¬ iI k < 0 from lsI_n (y := 0) rfl li_0 (by omega)), if_neg (show ¬ iI k ≤ (1 : Int32) from leI_n (y := 1) rfl li_1 (by omega)), jv_e]
      · unfold c267
        rw [vC_e (rk_160 rM), cI_e e2, jn_v, if_neg n10, gtP_q (rk_160 rM) (rf_29 rM), alI_q (n := 8) (z := p) (rk_188 rM) rfl (by omega) e188, show iI (gE (oP o p)) - (1 : Int32) = iI (gE (oP o p) - 1) from sbI rfl li_1, cI_e q2]
        by_cases m0 : 0 ≤ m ∧ m ≤ gE (oP o p) - 1
        · rw [if_pos m0, if_neg n10, cI_e q, if_neg (show ¬ (0 ≤ k ∧ k ≤ 1) by omega), if_pos (show iI 0 = 0 from rfl), jv_e]
        · rw [if_neg m0, if_pos (show iI 0 = 0 from rfl), jv_e]
  · rw [if_neg hp] at e1 e2
    refine ⟨-1, ?_, ?_⟩
    · unfold c136
      rw [vC_e (ck_64 cM), cP_e e1, jn_v, if_pos rfl, jv_e]
    · unfold c267
      rw [vC_e (rk_160 rM), cI_e e2, jn_v, if_pos (show iI 0 = 0 from rfl), jv_e]
end S9e7
