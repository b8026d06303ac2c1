/-! the reference: looking a NAME up -/
section S51b
variable {M : Mem} {p u : Int} {R : RG} {y : Int64}
theorem a227 {d : Nat} {v1 : Int32} (hd : 1 ≤ d) (hR : RT M) (h : RR M p R) (hv : v1 = iI p) (hp : 0 ≤ p ∧ p ≤ 7) (hn : 0 ≤ R.1 1 0 0 ∧ R.1 1 0 0 ≤ 8) : Rt (runX d 227 [va_rf (some 160), .int v1, .long y] M) (fun v M2 => ∃ r, v = .int (iI r) ∧ M2 = M ∧ LcF (R.2 1) (R.1 1 0 0) y r) := by
  obtain ⟨d, rfl⟩ : ∃ e, d = e + 1 := ⟨d - 1, by omega⟩
  rw [r227]; unfold b227; rw [aR_e, aI_e, aL_e, aZ_e]; unfold c227
  refine rs1 (jn_v) ?_
  refine rs1 (jn_v) ?_
  refine Rt.lp (fun m s => ∃ k, s = iI k ∧ (0 ≤ k ∧ k ≤ R.1 1 0 0) ∧ (∀ j, 0 ≤ j → j < k → R.2 1 j ≠ y) ∧ (m : Int) = R.1 1 0 0 - k) (fun m s go hs hgo => ?_) (R.1 1 0 0).toNat _ _ (by omega) ⟨0, li_0, by omega, fun j p q => absurd q (by omega), by omega⟩
  obtain ⟨k, hx, hk, hf, hm⟩ := hs
  unfold c227_3
  refine rs1 (gtP_q (w := some 162) (rk_160 hR) (rf_3 hR)) ?_
  refine rs1 (alI_q (n := 8) (z := p) (w := iI (R.1 1 0 0)) (rk_162 hR) hv (by omega) (h.gi (st := 1) (by decide) ⟨by omega, by omega⟩ (by omega))) ?_
  by_cases c : R.1 1 0 0 ≤ k
  · refine rs1 (if_pos (leI_p rfl hx (by omega))) ?_
    refine rs1 (jv_e) ?_
    exact Rt.okI (z := -1) li_m1 ⟨-1, rfl, rfl, Or.inr ⟨rfl, fun j p q => hf j p (by omega)⟩⟩
  · refine rs1 (if_neg (leI_n rfl hx (by omega))) ?_
    refine rs1 (gtP_q (w := some 163) (rk_160 hR) (rf_4 hR)) ?_
    refine rs1 (alL_q (n := 64) (z := 8 * p + k) (w := R.2 1 k) (rk_163 hR) (adI (mlI li_8 hv) hx) (by omega) (h.gl (st := 8) (by decide) ⟨by omega, by omega⟩ rfl)) ?_
    by_cases c2 : R.2 1 k = y
    · refine rs1 (if_pos (lgc_p rfl rfl c2)) ?_
      refine rs1 (jv_e) ?_
      exact Rt.okI (z := k) hx ⟨k, rfl, rfl, Or.inl ⟨hk.1, by omega, c2, hf⟩⟩
    · refine rs1 (if_neg (lgc_n rfl rfl c2)) ?_
      refine rs1 (ltI_q (z := k + 1) (adI hx li_1)) ?_
      exact hgo (R.1 1 0 0 - (k + 1)).toNat _ (by omega) ⟨k + 1, rfl, by omega, fun j p q => by
        by_cases w : j = k
        · rw [w]; exact c2
        · exact hf j p (by omega), by omega⟩
theorem a228 {d : Nat} {v1 v2 : Int32} (hd : 1 ≤ d) (hR : RT M) (h : RR M p R) (hv : v1 = iI p) (hw : v2 = iI u) (hp : 0 ≤ p ∧ p ≤ 7) (hn : 0 ≤ R.1 2 0 0 ∧ R.1 2 0 0 ≤ 96) : Rt (runX d 228 [va_rf (some 160), .int v1, .int v2, .long y] M) (fun v M2 => ∃ r, v = .int (iI r) ∧ M2 = M ∧ MbF (R.1 2 1) (R.2 2) (R.1 2 0 0) u y r) := by
  obtain ⟨d, rfl⟩ : ∃ e, d = e + 1 := ⟨d - 1, by omega⟩
  rw [r228]; unfold b228; rw [aR_e, aI_e, aI_e, aL_e, aZ_e]; unfold c228
  refine rs1 (jn_v) ?_
  refine rs1 (jn_v) ?_
  refine Rt.lp (fun m s => ∃ k, s = iI k ∧ (0 ≤ k ∧ k ≤ R.1 2 0 0) ∧ (∀ j, 0 ≤ j → j < k → ¬ (iI (R.1 2 1 j) = iI u ∧ R.2 2 j = y)) ∧ (m : Int) = R.1 2 0 0 - k) (fun m s go hs hgo => ?_) (R.1 2 0 0).toNat _ _ (by omega) ⟨0, li_0, by omega, fun j p q => absurd q (by omega), by omega⟩
  obtain ⟨k, hx, hk, hf, hm⟩ := hs
  unfold c228_3
  refine rs1 (gtP_q (w := some 169) (rk_160 hR) (rf_10 hR)) ?_
  refine rs1 (alI_q (n := 8) (z := p) (w := iI (R.1 2 0 0)) (rk_169 hR) hv (by omega) (h.gi (st := 1) (by decide) ⟨by omega, by omega⟩ (by omega))) ?_
  by_cases c : R.1 2 0 0 ≤ k
  · refine rs1 (if_pos (leI_p rfl hx (by omega))) ?_
    refine rs1 (jv_e) ?_
    exact Rt.okI (z := -1) li_m1 ⟨-1, rfl, rfl, Or.inr ⟨rfl, fun j p q => hf j p (by omega)⟩⟩
  · refine rs1 (if_neg (leI_n rfl hx (by omega))) ?_
    refine rs1 (gtP_q (w := some 171) (rk_160 hR) (rf_12 hR)) ?_
    refine rs1 (alI_q (n := 768) (z := 96 * p + k) (w := iI (R.1 2 1 k)) (rk_171 hR) (adI (mlI li_96 hv) hx) (by omega) (h.gi (st := 96) (by decide) ⟨by omega, by omega⟩ rfl)) ?_
    refine rs1 (jn_v) ?_
    have again : ¬ (iI (R.1 2 1 k) = iI u ∧ R.2 2 k = y) → ∀ j, 0 ≤ j → j < k + 1 → ¬ (iI (R.1 2 1 j) = iI u ∧ R.2 2 j = y) := fun z j p q => by
      by_cases w : j = k
      · rw [w]; exact z
      · exact hf j p (by omega)
    by_cases c1 : iI (R.1 2 1 k) = iI u
    · refine rs1 (if_pos (c1.trans hw.symm)) ?_
      refine rs1 (gtP_q (w := some 170) (rk_160 hR) (rf_11 hR)) ?_
      refine rs1 (alL_q (n := 768) (z := 96 * p + k) (w := R.2 2 k) (rk_170 hR) (adI (mlI li_96 hv) hx) (by omega) (h.gl (st := 96) (by decide) ⟨by omega, by omega⟩ rfl)) ?_
      by_cases c2 : R.2 2 k = y
      · refine rs1 (if_pos (lgc_p rfl rfl c2)) ?_
        refine rs1 (jv_e) ?_
        exact Rt.okI (z := k) hx ⟨k, rfl, rfl, Or.inl ⟨hk.1, by omega, ⟨c1, c2⟩, hf⟩⟩
      · refine rs1 (if_neg (lgc_n rfl rfl c2)) ?_
        refine rs1 (jv_e) ?_
        refine rs1 (ltI_q (z := k + 1) (adI hx li_1)) ?_
        exact hgo (R.1 2 0 0 - (k + 1)).toNat _ (by omega) ⟨k + 1, rfl, by omega, again fun z => c2 z.2, by omega⟩
    · refine rs1 (if_neg fun z => c1 (z.trans hw)) ?_
      refine rs1 (jv_e) ?_
      refine rs1 (ltI_q (z := k + 1) (adI hx li_1)) ?_
      exact hgo (R.1 2 0 0 - (k + 1)).toNat _ (by omega) ⟨k + 1, rfl, by omega, again fun z => c1 z.1, by omega⟩
/-- among members, CASES and properties -/
def TdR (R : RG) (u : Int) (y : Int64) (r : Int) : Prop := (r = 1 ∧ ∃ k, 2 ≤ k ∧ k ≤ 4 ∧ TdF (R.1 k 1) (R.2 k) (R.1 k 0 0) u y 1) ∨ (r = 0 ∧ ∀ k, 2 ≤ k → k ≤ 4 → TdF (R.1 k 1) (R.2 k) (R.1 k 0 0) u y 0)

/-- one of the three loops -/
theorem lp220_2 {d : Nat} {v1 s0 : Int32} {jy jn : Unit → XA} {Q : Value → Mem → Prop} (hR : RT M) (h : RR M p R) (hv : v1 = iI p) (hp : 0 ≤ p ∧ p ≤ 7) (hn : 0 ≤ R.1 2 0 0 ∧ R.1 2 0 0 ≤ 96) (hu : M.1 160 49 = iI u) (h0 : s0 = iI (96 * p)) (hy : TdF (R.1 2 1) (R.2 2) (R.1 2 0 0) u y 1 → Rt (jy ()) Q) (hno : TdF (R.1 2 1) (R.2 2) (R.1 2 0 0) u y 0 → Rt (jn ()) Q) : Rt (lp (c220_6 (runX d) (some 160) v1 y M jy jn) 4294967296 s0) Q := by
  refine Rt.lp (fun m s => ∃ k, s = iI (96 * p + k) ∧ (0 ≤ k ∧ k ≤ R.1 2 0 0) ∧ (∀ j, 0 ≤ j → j < k → ¬ (iI (R.1 2 1 j) = iI u ∧ R.2 2 j = y)) ∧ (m : Int) = R.1 2 0 0 - k) (fun m s go hs hgo => ?_) (R.1 2 0 0).toNat _ _ (by omega) ⟨0, by rw [Int.add_zero]; exact h0, by omega, fun j p q => absurd q (by omega), by omega⟩
  obtain ⟨k, hx, hk, hf, hm⟩ := hs
  unfold c220_6
  refine rs1 (gtP_q (w := some 169) (rk_160 hR) (rf_10 hR)) ?_
  refine rs1 (alI_q (n := 8) (z := p) (w := iI (R.1 2 0 0)) (rk_169 hR) hv (by omega) (h.gi (st := 1) (by decide) ⟨by omega, by omega⟩ (by omega))) ?_
  have again : ¬ (iI (R.1 2 1 k) = iI u ∧ R.2 2 k = y) → ∀ j, 0 ≤ j → j < k + 1 → ¬ (iI (R.1 2 1 j) = iI u ∧ R.2 2 j = y) := fun z j p q => by
    by_cases w : j = k
    · rw [w]; exact z
    · exact hf j p (by omega)
  by_cases c : R.1 2 0 0 ≤ k
  · refine rs1 (if_pos (leI_p (adI (mlI li_96 hv) rfl) hx (by omega))) ?_
    exact hno (Or.inr ⟨rfl, fun j p q => hf j p (by omega)⟩)
  · refine rs1 (if_neg (leI_n (adI (mlI li_96 hv) rfl) hx (by omega))) ?_
    refine rs1 (gtP_q (w := some 171) (rk_160 hR) (rf_12 hR)) ?_
    refine rs1 (alI_q (n := 768) (z := 96 * p + k) (w := iI (R.1 2 1 k)) (rk_171 hR) hx (by omega) (h.gi (st := 96) (by decide) ⟨by omega, by omega⟩ rfl)) ?_
    refine rs1 (gtI_q (rk_160 hR) hu) ?_
    refine rs1 (jn_v) ?_
    by_cases c1 : iI (R.1 2 1 k) = iI u
    · refine rs1 (if_pos c1) ?_
      refine rs1 (gtP_q (w := some 170) (rk_160 hR) (rf_11 hR)) ?_
      refine rs1 (alL_q (n := 768) (z := 96 * p + k) (w := R.2 2 k) (rk_170 hR) hx (by omega) (h.gl (st := 96) (by decide) ⟨by omega, by omega⟩ rfl)) ?_
      by_cases c2 : R.2 2 k = y
      · refine rs1 (if_pos (lgc_p rfl rfl c2)) ?_
        exact hy (Or.inl ⟨rfl, k, hk.1, by omega, c1, c2⟩)
      · refine rs1 (if_neg (lgc_n rfl rfl c2)) ?_
        refine rs1 (jv_e) ?_
        refine rs1 (ltI_q (z := 96 * p + (k + 1)) (cvI (adI hx li_1) (by omega))) ?_
        exact hgo (R.1 2 0 0 - (k + 1)).toNat _ (by omega) ⟨k + 1, rfl, by omega, again fun z => c2 z.2, by omega⟩
    · refine rs1 (if_neg c1) ?_
      refine rs1 (jv_e) ?_
      refine rs1 (ltI_q (z := 96 * p + (k + 1)) (cvI (adI hx li_1) (by omega))) ?_
      exact hgo (R.1 2 0 0 - (k + 1)).toNat _ (by omega) ⟨k + 1, rfl, by omega, again fun z => c1 z.1, by omega⟩

/-- one of the three loops -/
theorem lp220_3 {d : Nat} {v1 s0 : Int32} {jy jn : Unit → XA} {Q : Value → Mem → Prop} (hR : RT M) (h : RR M p R) (hv : v1 = iI p) (hp : 0 ≤ p ∧ p ≤ 7) (hn : 0 ≤ R.1 3 0 0 ∧ R.1 3 0 0 ≤ 16) (hu : M.1 160 49 = iI u) (h0 : s0 = iI (16 * p)) (hy : TdF (R.1 3 1) (R.2 3) (R.1 3 0 0) u y 1 → Rt (jy ()) Q) (hno : TdF (R.1 3 1) (R.2 3) (R.1 3 0 0) u y 0 → Rt (jn ()) Q) : Rt (lp (c220_62 (runX d) (some 160) v1 y M jy jn) 4294967296 s0) Q := by
  refine Rt.lp (fun m s => ∃ k, s = iI (16 * p + k) ∧ (0 ≤ k ∧ k ≤ R.1 3 0 0) ∧ (∀ j, 0 ≤ j → j < k → ¬ (iI (R.1 3 1 j) = iI u ∧ R.2 3 j = y)) ∧ (m : Int) = R.1 3 0 0 - k) (fun m s go hs hgo => ?_) (R.1 3 0 0).toNat _ _ (by omega) ⟨0, by rw [Int.add_zero]; exact h0, by omega, fun j p q => absurd q (by omega), by omega⟩
  obtain ⟨k, hx, hk, hf, hm⟩ := hs
  unfold c220_62
  refine rs1 (gtP_q (w := some 176) (rk_160 hR) (rf_17 hR)) ?_
  refine rs1 (alI_q (n := 8) (z := p) (w := iI (R.1 3 0 0)) (rk_176 hR) hv (by omega) (h.gi (st := 1) (by decide) ⟨by omega, by omega⟩ (by omega))) ?_
  have again : ¬ (iI (R.1 3 1 k) = iI u ∧ R.2 3 k = y) → ∀ j, 0 ≤ j → j < k + 1 → ¬ (iI (R.1 3 1 j) = iI u ∧ R.2 3 j = y) := fun z j p q => by
    by_cases w : j = k
    · rw [w]; exact z
    · exact hf j p (by omega)
  by_cases c : R.1 3 0 0 ≤ k
  · refine rs1 (if_pos (leI_p (adI (mlI li_16 hv) rfl) hx (by omega))) ?_
    exact hno (Or.inr ⟨rfl, fun j p q => hf j p (by omega)⟩)
  · refine rs1 (if_neg (leI_n (adI (mlI li_16 hv) rfl) hx (by omega))) ?_
    refine rs1 (gtP_q (w := some 178) (rk_160 hR) (rf_19 hR)) ?_
    refine rs1 (alI_q (n := 128) (z := 16 * p + k) (w := iI (R.1 3 1 k)) (rk_178 hR) hx (by omega) (h.gi (st := 16) (by decide) ⟨by omega, by omega⟩ rfl)) ?_
    refine rs1 (gtI_q (rk_160 hR) hu) ?_
    refine rs1 (jn_v) ?_
    by_cases c1 : iI (R.1 3 1 k) = iI u
    · refine rs1 (if_pos c1) ?_
      refine rs1 (gtP_q (w := some 177) (rk_160 hR) (rf_18 hR)) ?_
      refine rs1 (alL_q (n := 128) (z := 16 * p + k) (w := R.2 3 k) (rk_177 hR) hx (by omega) (h.gl (st := 16) (by decide) ⟨by omega, by omega⟩ rfl)) ?_
      by_cases c2 : R.2 3 k = y
      · refine rs1 (if_pos (lgc_p rfl rfl c2)) ?_
        exact hy (Or.inl ⟨rfl, k, hk.1, by omega, c1, c2⟩)
      · refine rs1 (if_neg (lgc_n rfl rfl c2)) ?_
        refine rs1 (jv_e) ?_
        refine rs1 (ltI_q (z := 16 * p + (k + 1)) (cvI (adI hx li_1) (by omega))) ?_
        exact hgo (R.1 3 0 0 - (k + 1)).toNat _ (by omega) ⟨k + 1, rfl, by omega, again fun z => c2 z.2, by omega⟩
    · refine rs1 (if_neg c1) ?_
      refine rs1 (jv_e) ?_
      refine rs1 (ltI_q (z := 16 * p + (k + 1)) (cvI (adI hx li_1) (by omega))) ?_
      exact hgo (R.1 3 0 0 - (k + 1)).toNat _ (by omega) ⟨k + 1, rfl, by omega, again fun z => c1 z.1, by omega⟩

/-- one of the three loops -/
theorem lp220_4 {d : Nat} {v1 s0 : Int32} {jy jn : Unit → XA} {Q : Value → Mem → Prop} (hR : RT M) (h : RR M p R) (hv : v1 = iI p) (hp : 0 ≤ p ∧ p ≤ 7) (hn : 0 ≤ R.1 4 0 0 ∧ R.1 4 0 0 ≤ 6) (hu : M.1 160 49 = iI u) (h0 : s0 = iI (6 * p)) (hy : TdF (R.1 4 1) (R.2 4) (R.1 4 0 0) u y 1 → Rt (jy ()) Q) (hno : TdF (R.1 4 1) (R.2 4) (R.1 4 0 0) u y 0 → Rt (jn ()) Q) : Rt (lp (c220_118 (runX d) (some 160) v1 y M jy jn) 4294967296 s0) Q := by
  refine Rt.lp (fun m s => ∃ k, s = iI (6 * p + k) ∧ (0 ≤ k ∧ k ≤ R.1 4 0 0) ∧ (∀ j, 0 ≤ j → j < k → ¬ (iI (R.1 4 1 j) = iI u ∧ R.2 4 j = y)) ∧ (m : Int) = R.1 4 0 0 - k) (fun m s go hs hgo => ?_) (R.1 4 0 0).toNat _ _ (by omega) ⟨0, by rw [Int.add_zero]; exact h0, by omega, fun j p q => absurd q (by omega), by omega⟩
  obtain ⟨k, hx, hk, hf, hm⟩ := hs
  unfold c220_118
  refine rs1 (gtP_q (w := some 184) (rk_160 hR) (rf_25 hR)) ?_
  refine rs1 (alI_q (n := 8) (z := p) (w := iI (R.1 4 0 0)) (rk_184 hR) hv (by omega) (h.gi (st := 1) (by decide) ⟨by omega, by omega⟩ (by omega))) ?_
  have again : ¬ (iI (R.1 4 1 k) = iI u ∧ R.2 4 k = y) → ∀ j, 0 ≤ j → j < k + 1 → ¬ (iI (R.1 4 1 j) = iI u ∧ R.2 4 j = y) := fun z j p q => by
    by_cases w : j = k
    · rw [w]; exact z
    · exact hf j p (by omega)
  by_cases c : R.1 4 0 0 ≤ k
  · refine rs1 (if_pos (leI_p (adI (mlI li_6 hv) rfl) hx (by omega))) ?_
    exact hno (Or.inr ⟨rfl, fun j p q => hf j p (by omega)⟩)
  · refine rs1 (if_neg (leI_n (adI (mlI li_6 hv) rfl) hx (by omega))) ?_
    refine rs1 (gtP_q (w := some 208) (rk_160 hR) (rf_63 hR)) ?_
    refine rs1 (alI_q (n := 48) (z := 6 * p + k) (w := iI (R.1 4 1 k)) (rk_208 hR) hx (by omega) (h.gi (st := 6) (by decide) ⟨by omega, by omega⟩ rfl)) ?_
    refine rs1 (gtI_q (rk_160 hR) hu) ?_
    refine rs1 (jn_v) ?_
    by_cases c1 : iI (R.1 4 1 k) = iI u
    · refine rs1 (if_pos c1) ?_
      refine rs1 (gtP_q (w := some 185) (rk_160 hR) (rf_26 hR)) ?_
      refine rs1 (alL_q (n := 48) (z := 6 * p + k) (w := R.2 4 k) (rk_185 hR) hx (by omega) (h.gl (st := 6) (by decide) ⟨by omega, by omega⟩ rfl)) ?_
      by_cases c2 : R.2 4 k = y
      · refine rs1 (if_pos (lgc_p rfl rfl c2)) ?_
        exact hy (Or.inl ⟨rfl, k, hk.1, by omega, c1, c2⟩)
      · refine rs1 (if_neg (lgc_n rfl rfl c2)) ?_
        refine rs1 (jv_e) ?_
        refine rs1 (ltI_q (z := 6 * p + (k + 1)) (cvI (adI hx li_1) (by omega))) ?_
        exact hgo (R.1 4 0 0 - (k + 1)).toNat _ (by omega) ⟨k + 1, rfl, by omega, again fun z => c2 z.2, by omega⟩
    · refine rs1 (if_neg c1) ?_
      refine rs1 (jv_e) ?_
      refine rs1 (ltI_q (z := 6 * p + (k + 1)) (cvI (adI hx li_1) (by omega))) ?_
      exact hgo (R.1 4 0 0 - (k + 1)).toNat _ (by omega) ⟨k + 1, rfl, by omega, again fun z => c1 z.1, by omega⟩

theorem a220 {d : Nat} {v1 : Int32} (hd : 1 ≤ d) (hR : RT M) (h : RR M p R) (hv : v1 = iI p) (hp : 0 ≤ p ∧ p ≤ 7) (hn : (0 ≤ R.1 2 0 0 ∧ R.1 2 0 0 ≤ 96) ∧ (0 ≤ R.1 3 0 0 ∧ R.1 3 0 0 ≤ 16) ∧ 0 ≤ R.1 4 0 0 ∧ R.1 4 0 0 ≤ 6) (hu : M.1 160 49 = iI u) : Rt (runX d 220 [va_rf (some 160), .int v1, .long y] M) (fun v M2 => ∃ r, v = .int (iI r) ∧ M2 = M ∧ TdR R u y r) := by
  obtain ⟨d, rfl⟩ : ∃ e, d = e + 1 := ⟨d - 1, by omega⟩
  rw [r220]; unfold b220; rw [aR_e, aI_e, aL_e, aZ_e]; unfold c220
  refine rs1 (ltI_q (z := 96 * p) (mlI li_96 hv)) ?_
  refine rs1 (jn_v) ?_
  refine rs1 (jn_v) ?_
  refine lp220_2 hR h hv hp hn.1 hu rfl (fun t2 => ?_) (fun t2 => ?_)
  · refine rs1 (jv_e) ?_
    refine rs1 (rtZ_q (z := 1) li_1 (by omega)) ?_
    exact Rt.ok ⟨1, rfl, rfl, Or.inl ⟨rfl, 2, by omega, by omega, t2⟩⟩
  · refine rs1 (jv_e) ?_
    refine rs1 (ltI_q (z := 16 * p) (mlI li_16 hv)) ?_
    refine rs1 (jn_v) ?_
    refine rs1 (jn_v) ?_
    refine lp220_3 hR h hv hp hn.2.1 hu rfl (fun t3 => ?_) (fun t3 => ?_)
    · refine rs1 (jv_e) ?_
      refine rs1 (rtZ_q (z := 1) li_1 (by omega)) ?_
      exact Rt.ok ⟨1, rfl, rfl, Or.inl ⟨rfl, 3, by omega, by omega, t3⟩⟩
    · refine rs1 (jv_e) ?_
      refine rs1 (ltI_q (z := 6 * p) (mlI li_6 hv)) ?_
      refine rs1 (jn_v) ?_
      refine rs1 (jn_v) ?_
      refine lp220_4 hR h hv hp hn.2.2 hu rfl (fun t4 => ?_) (fun t4 => ?_)
      · refine rs1 (jv_e) ?_
        refine rs1 (rtZ_q (z := 1) li_1 (by omega)) ?_
        exact Rt.ok ⟨1, rfl, rfl, Or.inl ⟨rfl, 4, by omega, by omega, t4⟩⟩
      · refine rs1 (jv_e) ?_
        refine rs1 (rtZ_q (z := 0) li_0 (by omega)) ?_
        refine Rt.ok ⟨0, rfl, rfl, Or.inr ⟨rfl, fun k p q => ?_⟩⟩
        have : k = 2 ∨ k = 3 ∨ k = 4 := by omega
        rcases this with e | e | e <;> subst e
        · exact t2
        · exact t3
        · exact t4
end S51b
