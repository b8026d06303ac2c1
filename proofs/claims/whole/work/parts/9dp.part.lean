/-! property() of numbers that name nothing -/
section S9dp
variable {d dl : Nat} {o : HO} {Mc Mr : Mem} {LL : Nat} {xs : Nat → Int32} {ow : Nat → Int} {p k sl tm : Int} {v1 v2 v3 : Int32}
theorem prop_no (hdl : 8 ≤ dl) (hd : 6 ≤ d) (hP : hoP o) (hC : HC LL xs o ow sl Mc) (hR : HR o sl Mr) (hv : v1 = iI p) (hv2 : v2 = iI k) (hv3 : v3 = iI tm) (bp : -2147483648 ≤ p ∧ p ≤ 2147483647) (bk : -2147483648 ≤ k ∧ k ≤ 2147483647) (bt : -2147483648 ≤ tm ∧ tm ≤ 2147483647) (hn : ¬ ((0 ≤ p ∧ p < oN o) ∧ (0 ≤ k ∧ k < (gR (oP o p)).1 4 0 0) ∧ 1 ≤ tm ∧ tm ≤ 200)) : runX dl 153 [va_rf (some 64), .int v1, .int v2, .int v3] Mc = some (.int (-1), Mc) ∧ runX d 289 [va_rf (some 160), .int v1, .int v2, .int v3] Mr = some (.int (-1), Mr) := by
  obtain ⟨dl, rfl⟩ : ∃ e, dl = e + 1 := ⟨dl - 1, by omega⟩
  obtain ⟨d, rfl⟩ : ∃ e, d = e + 1 := ⟨d - 1, by omega⟩
  subst hv; subst hv2; subst hv3
  have cM := hC.1.1.1
  have rM := hR.1.1.1
  have kr := rk_160 rM
  have p8 := hP.1
  have n10 : ¬ iI 1 = (0 : Int32) := by decide
  have e167 := zc167 (d := dl) (M := Mc) (v := iI p) (p := p) (by omega) cM hC.2.1 hC.1.ob rfl bp
  have e255 := zr255 (d := d) (M := Mr) (v := iI p) (p := p) (by omega) rM hR.2.1 (by omega) rfl bp
  by_cases hp : 0 ≤ p ∧ p < oN o
  · rw [if_pos hp] at e167 e255
    have n3 := (hP.2.2.1 p hp.1 hp.2).1.n3
    obtain ⟨⟨⟨o1, o2, o3⟩, o4, -⟩, -, -, hL, hTT, -⟩ := hC.1.2.1 p hp.1 hp.2
    have e168 := zpartn (d := dl) (v := iI k) (i := k) (by omega) (hL 4 (by decide) (by decide)) rfl bk fun j a b => (hTT 4 (by decide) (by decide) j a b).1.1
    have rr := (hR.1.2.1 p hp.1 hp.2).1
    have e184 : Mr.1 184 p.toNat = iI ((gR (oP o p)).1 4 0 0) := rr.at (q := (184, 1, 4, 0)) (j := 0) (by decide) (Int.le_refl _) (by decide) (show p = 1 * p + 0 by omega)
    have q1 := rr184 (d := d) (M := Mr) (v1 := iI k) (v2 := 0) (v3 := iI ((gR (oP o p)).1 4 0 0 - 1)) (i := k) (b := 0) (c := (gR (oP o p)).1 4 0 0 - 1) (by omega) rfl rfl rfl bk (by omega) (by omega)
    have q2 := rr184 (d := d) (M := Mr) (v1 := iI tm) (v2 := 1) (v3 := 200) (i := tm) (b := 1) (c := 200) (by omega) rfl rfl rfl bt (by omega) (by omega)
    by_cases hk : 0 ≤ k ∧ k < (gR (oP o p)).1 4 0 0
    · have ht : ¬ (1 ≤ tm ∧ tm ≤ 200) := fun z => hn ⟨hp, hk, z⟩
      rw [if_pos (by omega)] at e168
      rw [if_pos (by omega)] at q1
      rw [if_neg ht] at q2
      refine ⟨?_, ?_⟩
      · rw [r153]; unfold b153; rw [aR_e, aI_e, aI_e, aI_e, aZ_e]; unfold c153
        rw [vC_e (ck_64 cM), cP_e e167, jn_v, if_neg (show ¬ some (gX (oP o p)) = none by simp), gtP_q o1 (o4 4 (by decide) (by decide)), cP_e e168, jv_e]
        dsimp only
        rw [jn_v, if_neg (show ¬ some (hEC (gH (oP o p)) 4 k) = none by simp)]
        by_cases y : tm < 1
        · rw [if_pos (show iI tm < (1 : Int32) from lsI_p (y := 1) rfl rfl (by omega)), jv_e]
        · rw [if_neg (show ¬ iI tm < (1 : Int32) from lsI_n (y := 1) rfl rfl (by omega)), if_neg (show ¬ iI tm ≤ (200 : Int32) from leI_n (y := 200) rfl rfl (by omega)), jv_e]
      · rw [r289]; unfold b289; rw [aR_e, aI_e, aI_e, aI_e, aZ_e]; unfold c289
        rw [vC_e kr, cI_e e255, jn_v, if_neg n10, gtP_q kr (rf_25 rM), alI_q (n := 8) (z := p) (rk_184 rM) rfl (by omega) e184, show iI ((gR (oP o p)).1 4 0 0) - (1 : Int32) = iI ((gR (oP o p)).1 4 0 0 - 1) from sbI rfl li_1, cI_e q1, if_neg n10, cI_e q2, if_pos (show iI 0 = 0 from rfl), jv_e]
    · rw [if_neg (by omega)] at e168
      rw [if_neg (by omega)] at q1
      refine ⟨?_, ?_⟩
      · rw [r153]; unfold b153; rw [aR_e, aI_e, aI_e, aI_e, aZ_e]; unfold c153
        rw [vC_e (ck_64 cM), cP_e e167, jn_v, if_neg (show ¬ some (gX (oP o p)) = none by simp), gtP_q o1 (o4 4 (by decide) (by decide)), cP_e e168, jv_e]
        dsimp only
        rw [jn_v, if_pos rfl, jv_e]
      · rw [r289]; unfold b289; rw [aR_e, aI_e, aI_e, aI_e, aZ_e]; unfold c289
        rw [vC_e kr, cI_e e255, jn_v, if_neg n10, gtP_q kr (rf_25 rM), alI_q (n := 8) (z := p) (rk_184 rM) rfl (by omega) e184, show iI ((gR (oP o p)).1 4 0 0) - (1 : Int32) = iI ((gR (oP o p)).1 4 0 0 - 1) from sbI rfl li_1, cI_e q1, if_pos (show iI 0 = 0 from rfl), jv_e]
  · rw [if_neg hp] at e167 e255
    refine ⟨?_, ?_⟩
    · rw [r153]; unfold b153; rw [aR_e, aI_e, aI_e, aI_e, aZ_e]; unfold c153
      rw [vC_e (ck_64 cM), cP_e e167, jn_v, if_pos rfl, jv_e]
      dsimp only
      rw [jn_v, if_pos rfl, jv_e]
    · rw [r289]; unfold b289; rw [aR_e, aI_e, aI_e, aI_e, aZ_e]; unfold c289
      rw [vC_e kr, cI_e e255, jn_v, if_pos (show iI 0 = 0 from rfl), jv_e]
end S9dp
