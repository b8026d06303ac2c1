/-! least(): the CASE at a place of the suite, both loops -/
section S9dr
variable {d : Nat} {M : Mem} {w : Int32} {p z : Int} {v1 : Int32}
theorem ls_loop {J24 j76 : Int32 → XA} {J35 j88 : Unit → XA} (hR : RT M) (hp : 0 ≤ p ∧ p ≤ 7) (h241 : M.1 241 p.toNat = w) (hz : 0 ≤ z ∧ z ≤ 2147483647) : ∀ (m : Nat) (i k : Int) (N : Nat), i + m = 16 → 0 ≤ i → 0 ≤ k → k ≤ i → k ≤ z → m < N → (∃ r, lp (c177_4 (runX d) w (iI z) J24 J35) N (iI k, iI i) = J24 r ∧ lp (c287_49 (runX d) (some 160) (iI p) M j76 j88) N (iI (z - k), iI i) = j76 r) ∨ (lp (c177_4 (runX d) w (iI z) J24 J35) N (iI k, iI i) = J35 () ∧ lp (c287_49 (runX d) (some 160) (iI p) M j76 j88) N (iI (z - k), iI i) = j88 ()) := by
  intro m
  induction m with
  | zero =>
    intro i k N h1 h2 h3 h4 h5 h6
    obtain ⟨N, rfl⟩ : ∃ e, N = e + 1 := ⟨N - 1, by omega⟩
    refine Or.inr ⟨?_, ?_⟩
    · rw [lp_e]; unfold c177_4
      dsimp only
      rw [if_pos (show (16 : Int32) ≤ iI i from leI_p (x := 16) rfl rfl (by omega))]
    · rw [lp_e]; unfold c287_49
      dsimp only
      rw [if_pos (show (16 : Int32) ≤ iI i from leI_p (x := 16) rfl rfl (by omega))]
  | succ m ih =>
    intro i k N h1 h2 h3 h4 h5 h6
    obtain ⟨N, rfl⟩ : ∃ e, N = e + 1 := ⟨N - 1, by omega⟩
    have n16 : ¬ (16 : Int32) ≤ iI i := leI_n (x := 16) rfl rfl (by omega)
    by_cases y : ((w >>> (iI i &&& 31)) &&& ((1 : Int32))) = ((1 : Int32))
    · by_cases y2 : k = z
      · subst y2
        refine Or.inl ⟨iI i, ?_, ?_⟩
        · rw [lp_e]; unfold c177_4
          dsimp only
          rw [if_neg n16, jn_v, if_pos y, if_pos rfl]
        · rw [lp_e]; unfold c287_49
          dsimp only
          rw [if_neg n16, gtP_q (rk_160 hR) (rf_126 hR), alI_q (n := 8) (z := p) (rk_241 hR) rfl (by omega) h241, jn_v, if_pos y, if_pos (show iI (k - k) = 0 by rw [Int.sub_self]; rfl)]
      · have e1 : ∀ go, c177_4 (runX d) w (iI z) J24 J35 (iI k, iI i) go = go (iI (k + 1), iI (i + 1)) := fun go => by
          unfold c177_4
          dsimp only
          rw [if_neg n16, jn_v, if_pos y, if_neg (show ¬ iI k = iI z from eqI_n rfl rfl (by omega)), show iI k + (1 : Int32) = iI (k + 1) from adI rfl li_1, lt_e, jv_e]
          exact ltI_q (z := i + 1) (adI rfl li_1)
        have e2 : ∀ go, c287_49 (runX d) (some 160) (iI p) M j76 j88 (iI (z - k), iI i) go = go (iI (z - (k + 1)), iI (i + 1)) := fun go => by
          unfold c287_49
          dsimp only
          rw [if_neg n16, gtP_q (rk_160 hR) (rf_126 hR), alI_q (n := 8) (z := p) (rk_241 hR) rfl (by omega) h241, jn_v, if_pos y, if_neg (show ¬ iI (z - k) = 0 from eqI_n rfl li_0 (by omega)), show iI (z - k) + (-1 : Int32) = iI (z - (k + 1)) from cvI (adI (y := -1) rfl rfl) (by omega), lt_e, jv_e]
          exact ltI_q (z := i + 1) (adI rfl li_1)
        rw [lp_e, lp_e, e1, e2]
        exact ih (i + 1) (k + 1) N (by omega) (by omega) (by omega) (by omega) (by omega) (by omega)
    · have e1 : ∀ go, c177_4 (runX d) w (iI z) J24 J35 (iI k, iI i) go = go (iI k, iI (i + 1)) := fun go => by
        unfold c177_4
        dsimp only
        rw [if_neg n16, jn_v, if_neg y, jv_e]
        exact ltI_q (z := i + 1) (adI rfl li_1)
      have e2 : ∀ go, c287_49 (runX d) (some 160) (iI p) M j76 j88 (iI (z - k), iI i) go = go (iI (z - k), iI (i + 1)) := fun go => by
        unfold c287_49
        dsimp only
        rw [if_neg n16, gtP_q (rk_160 hR) (rf_126 hR), alI_q (n := 8) (z := p) (rk_241 hR) rfl (by omega) h241, jn_v, if_neg y, jv_e]
        exact ltI_q (z := i + 1) (adI rfl li_1)
      rw [lp_e, lp_e, e1, e2]
      exact ih (i + 1) k N (by omega) (by omega) (by omega) (by omega) (by omega) (by omega)
end S9dr
