/-! looking a NAME up in what has been read -/
/-- a NAME among those of unit u: 1 or 0 -/
def TdF (F : Int → Int) (X : Int → Int64) (n u : Int) (y : Int64) (r : Int) : Prop := (r = 1 ∧ ∃ j, 0 ≤ j ∧ j < n ∧ iI (F j) = iI u ∧ X j = y) ∨ (r = 0 ∧ ∀ j, 0 ≤ j → j < n → ¬ (iI (F j) = iI u ∧ X j = y))
/-- the first of them; none: -1 -/
def MbF (F : Int → Int) (X : Int → Int64) (n u : Int) (y : Int64) (r : Int) : Prop := (0 ≤ r ∧ r < n ∧ (iI (F r) = iI u ∧ X r = y) ∧ ∀ j, 0 ≤ j → j < r → ¬ (iI (F j) = iI u ∧ X j = y)) ∨ (r = -1 ∧ ∀ j, 0 ≤ j → j < n → ¬ (iI (F j) = iI u ∧ X j = y))
/-- among members, CASES and properties -/
def TdA (H : HG) (u : Int) (y : Int64) (r : Int) : Prop := (r = 1 ∧ ∃ k, 2 ≤ k ∧ k ≤ 4 ∧ TdF (hEF H k 1) (hEX H k) (hEN H k) u y 1) ∨ (r = 0 ∧ ∀ k, 2 ≤ k → k ≤ 4 → TdF (hEF H k 1) (hEX H k) (hEN H k) u y 0)
section S50e
variable {N T ex k : Nat} {M : Mem} {H : HG} {y : Int64} {F : Int → Int} {X : Int → Int64} {n u r r2 : Int}
theorem TdF.one (h : TdF F X n u y r) (g : TdF F X n u y r2) : r = r2 := by
  rcases h with ⟨h1, j, h2, h3, h4⟩ | ⟨h1, h2⟩ <;> rcases g with ⟨g1, i, g2, g3, g4⟩ | ⟨g1, g2⟩
  · omega
  · exact absurd h4 (g2 j h2 h3)
  · exact absurd g4 (h2 i g2 g3)
  · omega
theorem MbF.one (h : MbF F X n u y r) (g : MbF F X n u y r2) : r = r2 := by
  rcases h with ⟨h1, h2, h3, h4⟩ | ⟨h1, h2⟩ <;> rcases g with ⟨g1, g2, g3, g4⟩ | ⟨g1, g2⟩
  · rcases Int.lt_trichotomy r r2 with c | c | c
    · exact absurd h3 (g4 r h1 c)
    · exact c
    · exact absurd g3 (h4 r2 g1 c)
  · exact absurd h3 (g2 r h1 h2)
  · exact absurd g3 (h2 r2 g1 g2)
  · omega
theorem TdA.one (h : TdA H u y r) (g : TdA H u y r2) : r = r2 := by
  rcases h with ⟨h1, k, h2, h3, h4⟩ | ⟨h1, h2⟩ <;> rcases g with ⟨g1, i, g2, g3, g4⟩ | ⟨g1, g2⟩
  · omega
  · have := h4.one (g2 k h2 h3); omega
  · have := g4.one (h2 i g2 g3); omega
  · omega
theorem a70 {d : Nat} (hd : 5 ≤ d) (hC : CT M) (h : HS N T ex M H) : Rt (runX d 70 [va_rf (some 65), .long y] M) (fun v M2 => ∃ r, v = .int (iI (if r = -1 then -2 else r)) ∧ M2 = M ∧ LcF (hEX H 1) (hEN H 1) y r) := by
  obtain ⟨d, rfl⟩ : ∃ e, d = e + 1 := ⟨d - 1, by omega⟩
  rw [r70]; unfold b70; rw [aR_e, aL_e, aZ_e]; unfold c70
  refine rs1 (jn_v) ?_
  refine rs1 (jn_v) ?_
  have l := h.2.1 1 (by omega) (by omega)
  have hn := h.n109 (k := 1) (by omega) (by omega)
  refine Rt.lp (fun m s => ∃ k, s.1 = iI k ∧ s.2 = M ∧ (0 ≤ k ∧ k ≤ hEN H 1) ∧ (∀ j, 0 ≤ j → j < k → hEX H 1 j ≠ y) ∧ (m : Int) = hEN H 1 - k) (fun m s go hs hgo => ?_) (hEN H 1).toNat _ _ (by omega) ⟨0, li_0, rfl, by omega, fun j p q => absurd q (by omega), by omega⟩
  obtain ⟨x, M1⟩ := s
  obtain ⟨k, hx, hM, hk, hf, hm⟩ := hs
  dsimp only at hx hM
  rw [hM]
  unfold c70_2
  dsimp only
  refine rs1 (gtP_q (w := some (hCL H 1)) (ck_65 hC) (h.1.2.2.1 1 (by omega) (by omega))) ?_
  refine rs1 (vC_e l.1.2.1) ?_
  refine rs1 (cI_e (ls_size (by omega) l)) ?_
  by_cases c : hEN H 1 ≤ k
  · refine rs1 (if_pos (leI_p rfl hx (by omega))) ?_
    refine rs1 (jv_e) ?_
    exact Rt.okI (z := -2) li_m2 ⟨-1, rfl, rfl, Or.inr ⟨rfl, fun j p q => hf j p (by omega)⟩⟩
  · refine rs1 (if_neg (leI_n rfl hx (by omega))) ?_
    refine rs1 (gtP_q (w := some (hCL H 1)) (ck_65 hC) (h.1.2.2.1 1 (by omega) (by omega))) ?_
    refine rs1 (vC_e l.1.2.1) ?_
    refine rs1 (cP_e (ls_get (by omega) l hx (by omega))) ?_
    obtain ⟨⟨a1, a2, a3⟩, a4, a5, a6⟩ := h.2.2.2 k hk.1 (by omega)
    refine rs1 (cst_e a1) ?_
    refine rs1 (gtL_q a1 a5) ?_
    by_cases c2 : hEX H 1 k = y
    · refine rs1 (if_pos (lgc_p rfl rfl c2)) ?_
      refine rs1 (jv_e) ?_
      exact Rt.okI (z := k) hx ⟨k, by rw [if_neg (by omega)], rfl, Or.inl ⟨hk.1, by omega, c2, hf⟩⟩
    · refine rs1 (if_neg (lgc_n rfl rfl c2)) ?_
      refine rs1 (ltI_q (z := k + 1) (adI hx li_1)) ?_
      exact hgo (hEN H 1 - (k + 1)).toNat _ (by omega) ⟨k + 1, rfl, rfl, by omega, fun j p q => by
        by_cases w : j = k
        · rw [w]; exact c2
        · exact hf j p (by omega), by omega⟩
theorem a71 {d : Nat} {v1 : Int32} {u : Int} (hd : 5 ≤ d) (hC : CT M) (h : HS N T ex M H) (hv : v1 = iI u) : Rt (runX d 71 [va_rf (some 65), .int v1, .long y] M) (fun v M2 => ∃ r, v = .int (iI (if r = -1 then -2 else r)) ∧ M2 = M ∧ MbF (hEF H 2 1) (hEX H 2) (hEN H 2) u y r) := by
  obtain ⟨d, rfl⟩ : ∃ e, d = e + 1 := ⟨d - 1, by omega⟩
  rw [r71]; unfold b71; rw [aR_e, aI_e, aL_e, aZ_e]; unfold c71
  refine rs1 (jn_v) ?_
  refine rs1 (jn_v) ?_
  have l := h.2.1 2 (by omega) (by omega)
  have hn := h.n109 (k := 2) (by omega) (by omega)
  refine Rt.lp (fun m s => ∃ k, s.1 = iI k ∧ s.2 = M ∧ (0 ≤ k ∧ k ≤ hEN H 2) ∧ (∀ j, 0 ≤ j → j < k → ¬ (iI (hEF H 2 1 j) = iI u ∧ hEX H 2 j = y)) ∧ (m : Int) = hEN H 2 - k) (fun m s go hs hgo => ?_) (hEN H 2).toNat _ _ (by omega) ⟨0, li_0, rfl, by omega, fun j p q => absurd q (by omega), by omega⟩
  obtain ⟨x, M1⟩ := s
  obtain ⟨k, hx, hM, hk, hf, hm⟩ := hs
  dsimp only at hx hM
  rw [hM]
  unfold c71_3
  dsimp only
  refine rs1 (gtP_q (w := some (hCL H 2)) (ck_65 hC) (h.1.2.2.1 2 (by omega) (by omega))) ?_
  refine rs1 (vC_e l.1.2.1) ?_
  refine rs1 (cI_e (ls_size (by omega) l)) ?_
  by_cases c : hEN H 2 ≤ k
  · refine rs1 (if_pos (leI_p rfl hx (by omega))) ?_
    refine rs1 (jv_e) ?_
    exact Rt.okI (z := -2) li_m2 ⟨-1, rfl, rfl, Or.inr ⟨rfl, fun j p q => hf j p (by omega)⟩⟩
  · refine rs1 (if_neg (leI_n rfl hx (by omega))) ?_
    refine rs1 (gtP_q (w := some (hCL H 2)) (ck_65 hC) (h.1.2.2.1 2 (by omega) (by omega))) ?_
    refine rs1 (vC_e l.1.2.1) ?_
    refine rs1 (cP_e (ls_get (by omega) l hx (by omega))) ?_
    obtain ⟨⟨a1, a2, a3⟩, a4, a5⟩ := h.2.2.1 2 (by omega) (by omega) k hk.1 (by omega)
    refine rs1 (cst_e a1) ?_
    refine rs1 (gtI_q a1 (a4 1 (by omega) (by omega))) ?_
    refine rs1 (jn_v) ?_
    have again : ¬ (iI (hEF H 2 1 k) = iI u ∧ hEX H 2 k = y) → ∀ j, 0 ≤ j → j < k + 1 → ¬ (iI (hEF H 2 1 j) = iI u ∧ hEX H 2 j = y) := fun z j p q => by
      by_cases w : j = k
      · rw [w]; exact z
      · exact hf j p (by omega)
    by_cases c1 : iI (hEF H 2 1 k) = iI u
    · refine rs1 (if_pos (c1.trans hv.symm)) ?_
      refine rs1 (gtP_q (w := some (hCL H 2)) (ck_65 hC) (h.1.2.2.1 2 (by omega) (by omega))) ?_
      refine rs1 (vC_e l.1.2.1) ?_
      refine rs1 (cP_e (ls_get (by omega) l hx (by omega))) ?_
      refine rs1 (cst_e a1) ?_
      refine rs1 (gtL_q a1 a5) ?_
      by_cases c2 : hEX H 2 k = y
      · refine rs1 (if_pos (lgc_p rfl rfl c2)) ?_
        refine rs1 (jv_e) ?_
        exact Rt.okI (z := k) hx ⟨k, by rw [if_neg (by omega)], rfl, Or.inl ⟨hk.1, by omega, ⟨c1, c2⟩, hf⟩⟩
      · refine rs1 (if_neg (lgc_n rfl rfl c2)) ?_
        refine rs1 (jv_e) ?_
        refine rs1 (ltI_q (z := k + 1) (adI hx li_1)) ?_
        exact hgo (hEN H 2 - (k + 1)).toNat _ (by omega) ⟨k + 1, rfl, rfl, by omega, again fun z => c2 z.2, by omega⟩
    · refine rs1 (if_neg fun z => c1 (z.trans hv)) ?_
      refine rs1 (jv_e) ?_
      refine rs1 (ltI_q (z := k + 1) (adI hx li_1)) ?_
      exact hgo (hEN H 2 - (k + 1)).toNat _ (by omega) ⟨k + 1, rfl, rfl, by omega, again fun z => c1 z.1, by omega⟩
theorem a72 {d : Nat} (hd : 5 ≤ d) (hC : CT M) (h : HS N T ex M H) (h1 : 2 ≤ k) (h2 : k ≤ 4) : Rt (runX d 72 [va_rf (some 65), va_rf (some (hCL H k)), .long y] M) (fun v M2 => ∃ r, v = .int (iI r) ∧ M2 = M ∧ TdF (hEF H k 1) (hEX H k) (hEN H k) (hEN H 1 - 1) y r) := by
  obtain ⟨d, rfl⟩ : ∃ e, d = e + 1 := ⟨d - 1, by omega⟩
  rw [r72]; unfold b72; rw [aR_e, aR_e, aL_e, aZ_e]; unfold c72
  refine rs1 (jn_v) ?_
  refine rs1 (jn_v) ?_
  have l := h.2.1 k (by omega) h2
  have l1 := h.2.1 1 (by omega) (by omega)
  have hn := h.n109 (k := k) (by omega) h2
  have hn1 := h.n109 (k := 1) (by omega) (by omega)
  refine Rt.lp (fun m s => ∃ i, s.1 = iI i ∧ s.2 = M ∧ (0 ≤ i ∧ i ≤ hEN H k) ∧ (∀ j, 0 ≤ j → j < i → ¬ (iI (hEF H k 1 j) = iI (hEN H 1 - 1) ∧ hEX H k j = y)) ∧ (m : Int) = hEN H k - i) (fun m s go hs hgo => ?_) (hEN H k).toNat _ _ (by omega) ⟨0, li_0, rfl, by omega, fun j p q => absurd q (by omega), by omega⟩
  obtain ⟨x, M1⟩ := s
  obtain ⟨i, hx, hM, hi, hf, hm⟩ := hs
  dsimp only at hx hM
  rw [hM]
  unfold c72_3
  dsimp only
  refine rs1 (vC_e l.1.2.1) ?_
  refine rs1 (cI_e (ls_size (by omega) l)) ?_
  by_cases c : hEN H k ≤ i
  · refine rs1 (if_pos (leI_p rfl hx (by omega))) ?_
    refine rs1 (jv_e) ?_
    refine rs1 (rtZ_q (z := 0) li_0 (by omega)) ?_
    exact Rt.ok ⟨0, rfl, rfl, Or.inr ⟨rfl, fun j p q => hf j p (by omega)⟩⟩
  · refine rs1 (if_neg (leI_n rfl hx (by omega))) ?_
    refine rs1 (vC_e l.1.2.1) ?_
    refine rs1 (cP_e (ls_get (by omega) l hx (by omega))) ?_
    obtain ⟨⟨a1, a2, a3⟩, a4, a5⟩ := h.2.2.1 k h1 h2 i hi.1 (by omega)
    refine rs1 (cst_e a1) ?_
    refine rs1 (gtI_q a1 (a4 1 (by omega) (by omega))) ?_
    refine rs1 (gtP_q (w := some (hCL H 1)) (ck_65 hC) (h.1.2.2.1 1 (by omega) (by omega))) ?_
    refine rs1 (vC_e l1.1.2.1) ?_
    refine rs1 (cI_e (ls_size (by omega) l1)) ?_
    refine rs1 (jn_v) ?_
    have again : ¬ (iI (hEF H k 1 i) = iI (hEN H 1 - 1) ∧ hEX H k i = y) → ∀ j, 0 ≤ j → j < i + 1 → ¬ (iI (hEF H k 1 j) = iI (hEN H 1 - 1) ∧ hEX H k j = y) := fun z j p q => by
      by_cases w : j = i
      · rw [w]; exact z
      · exact hf j p (by omega)
    have e1 : iI (hEN H 1) - (1 : Int32) = iI (hEN H 1 - 1) := sbI rfl li_1
    by_cases c1 : iI (hEF H k 1 i) = iI (hEN H 1 - 1)
    · refine rs1 (if_pos (c1.trans e1.symm)) ?_
      refine rs1 (vC_e l.1.2.1) ?_
      refine rs1 (cP_e (ls_get (by omega) l hx (by omega))) ?_
      refine rs1 (cst_e a1) ?_
      refine rs1 (gtL_q a1 a5) ?_
      by_cases c2 : hEX H k i = y
      · refine rs1 (if_pos (lgc_p rfl rfl c2)) ?_
        refine rs1 (jv_e) ?_
        refine rs1 (rtZ_q (z := 1) li_1 (by omega)) ?_
        exact Rt.ok ⟨1, rfl, rfl, Or.inl ⟨rfl, i, hi.1, by omega, c1, c2⟩⟩
      · refine rs1 (if_neg (lgc_n rfl rfl c2)) ?_
        refine rs1 (jv_e) ?_
        refine rs1 (ltI_q (z := i + 1) (adI hx li_1)) ?_
        exact hgo (hEN H k - (i + 1)).toNat _ (by omega) ⟨i + 1, rfl, rfl, by omega, again fun z => c2 z.2, by omega⟩
    · refine rs1 (if_neg fun z => c1 (z.trans e1)) ?_
      refine rs1 (jv_e) ?_
      refine rs1 (ltI_q (z := i + 1) (adI hx li_1)) ?_
      exact hgo (hEN H k - (i + 1)).toNat _ (by omega) ⟨i + 1, rfl, rfl, by omega, again fun z => c1 z.1, by omega⟩
theorem a73 {d : Nat} (hd : 6 ≤ d) (hC : CT M) (h : HS N T ex M H) (h65 : runX (d - 1) 65 [va_rf (some 65)] M = some (.long y, M)) : Rt (runX d 73 [va_rf (some 65)] M) (fun v M2 => ∃ r, v = .int (iI r) ∧ M2 = M ∧ TdA H (hEN H 1 - 1) y r) := by
  obtain ⟨d, rfl⟩ : ∃ e, d = e + 1 := ⟨d - 1, by omega⟩
  rw [r73]; unfold b73; rw [aR_e, aZ_e]; unfold c73
  refine rs1 (vC_e (ck_65 hC)) ?_
  refine rs1 (cL_e h65) ?_
  refine rs1 (gtP_q (w := some (hCL H 2)) (ck_65 hC) (h.1.2.2.1 2 (by omega) (by omega))) ?_
  refine rs1 (vC_e (ck_65 hC)) ?_
  refine Rc_I (a72 (k := 2) (by omega) hC h (by omega) (by omega)) fun v M1 h1 => ?_
  obtain ⟨r1, rfl, hM, t2⟩ := h1
  rw [hM]
  refine rs1 (cI_e rfl) ?_
  refine rs1 (jn_v) ?_
  refine rs1 (jn_v) ?_
  rcases t2 with ⟨e1, t2⟩ | ⟨e1, t2⟩
  · subst e1
    refine rs1 (if_neg (eqI_n (x := 1) (y := 0) rfl li_0 (by omega))) ?_
    refine rs1 (jv_e) ?_
    refine rs1 (jv_e) ?_
    refine rs1 (rtZ_q (z := 1) li_1 (by omega)) ?_
    exact Rt.ok ⟨1, rfl, rfl, Or.inl ⟨rfl, 2, by omega, by omega, Or.inl ⟨rfl, t2⟩⟩⟩
  · subst e1
    refine rs1 (if_pos (eqI_p (x := 0) (y := 0) rfl li_0 (by omega))) ?_
    refine rs1 (gtP_q (w := some (hCL H 3)) (ck_65 hC) (h.1.2.2.1 3 (by omega) (by omega))) ?_
    refine rs1 (vC_e (ck_65 hC)) ?_
    refine Rc_I (a72 (k := 3) (by omega) hC h (by omega) (by omega)) fun v M1 h1 => ?_
    obtain ⟨r1, rfl, hM, t3⟩ := h1
    rw [hM]
    refine rs1 (cI_e rfl) ?_
    rcases t3 with ⟨e1, t3⟩ | ⟨e1, t3⟩
    · subst e1
      refine rs1 (if_neg (eqI_n (x := 1) (y := 0) rfl li_0 (by omega))) ?_
      refine rs1 (jv_e) ?_
      refine rs1 (jv_e) ?_
      refine rs1 (rtZ_q (z := 1) li_1 (by omega)) ?_
      exact Rt.ok ⟨1, rfl, rfl, Or.inl ⟨rfl, 3, by omega, by omega, Or.inl ⟨rfl, t3⟩⟩⟩
    · subst e1
      refine rs1 (if_pos (eqI_p (x := 0) (y := 0) rfl li_0 (by omega))) ?_
      refine rs1 (gtP_q (w := some (hCL H 4)) (ck_65 hC) (h.1.2.2.1 4 (by omega) (by omega))) ?_
      refine rs1 (vC_e (ck_65 hC)) ?_
      refine Rc_I (a72 (k := 4) (by omega) hC h (by omega) (by omega)) fun v M1 h1 => ?_
      obtain ⟨r1, rfl, hM, t4⟩ := h1
      rw [hM]
      refine rs1 (cI_e rfl) ?_
      rcases t4 with ⟨e1, t4⟩ | ⟨e1, t4⟩
      · subst e1
        refine rs1 (if_neg (eqI_n (x := 1) (y := 0) rfl li_0 (by omega))) ?_
        refine rs1 (jv_e) ?_
        refine rs1 (jv_e) ?_
        refine rs1 (rtZ_q (z := 1) li_1 (by omega)) ?_
        exact Rt.ok ⟨1, rfl, rfl, Or.inl ⟨rfl, 4, by omega, by omega, Or.inl ⟨rfl, t4⟩⟩⟩
      · subst e1
        refine rs1 (if_pos (eqI_p (x := 0) (y := 0) rfl li_0 (by omega))) ?_
        refine rs1 (jv_e) ?_
        refine rs1 (rtZ_q (z := 0) li_0 (by omega)) ?_
        refine Rt.ok ⟨0, rfl, rfl, Or.inr ⟨rfl, fun k p q => ?_⟩⟩
        have : k = 2 ∨ k = 3 ∨ k = 4 := by omega
        rcases this with e | e | e <;> subst e
        · exact Or.inr ⟨rfl, t2⟩
        · exact Or.inr ⟨rfl, t3⟩
        · exact Or.inr ⟨rfl, t4⟩
end S50e
