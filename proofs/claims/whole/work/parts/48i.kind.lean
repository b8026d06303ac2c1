/-! statements and blocks: all of them, by what is left of twenty levels -/
theorem st_step {D : Nat} {dp : Int} (hD : 440 ≤ D) (hp : 1 ≤ dp) (h : dp < 20 → PairS D (dp + 1)) : PairS (D + 22) dp ∧ PairB (D + 10) dp := by
  have hB : PairB (D + 10) dp := p_b (by omega) hp h
  obtain ⟨e0, -, -, eX, eC, -⟩ := pairs_E dp (by omega)
  have e1 : Pair (D + 10) 99 [0] 211 14 dp := e0.le (by omega)
  exact ⟨p_st (D := D + 20) (by omega) (p_st3 (D := D + 10) (by omega) e1 (eX.le (by omega)) (eC.le (by omega))) (p_st215 (D := D + 10) (by omega) e1) (p_st216 (D := D + 10) (by omega) e1 hB) (p_st218 (D := D + 10) (by omega) e1 hB) (p_st219 (D := D + 10) (by omega) e1) (p_st220 (D := D + 10) (by omega) e1) (p_st221 (D := D + 10) (by omega) e1) (p_st222 (D := D + 10) (by omega) hB), hB⟩
theorem st_all : ∀ (N : Nat) (dp : Int), 20 - (N : Int) ≤ dp → 1 ≤ dp → PairS (462 + 22 * N) dp ∧ PairB (462 + 22 * N) dp
  | 0, dp, h, h1 => by
    have := st_step (D := 440) (by omega) h1 fun q => absurd q (by omega)
    exact ⟨this.1, this.2.le (by omega)⟩
  | N + 1, dp, h, h1 => by
    have := st_step (D := 462 + 22 * N) (by omega) h1 fun _ => (st_all N (dp + 1) (by omega) (by omega)).1
    exact ⟨this.1, this.2.le (by omega)⟩
/-- every statement and every block, whatever it stands in -/
theorem pairs_S (dp : Int) (h : 1 ≤ dp) : PairS 902 dp ∧ PairB 902 dp := st_all 20 dp (by omega) h
