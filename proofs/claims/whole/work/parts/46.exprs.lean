/-! expressions: all pairs, by what is left of twenty levels -/
theorem PairC.le {D D' : Nat} {off dp : Int} (h : PairC D off dp) (hD : D ≤ D') : PairC D' off dp := fun d d' a b => h d d' (by omega) (by omega)
theorem p_6 {D : Nat} {dp : Int} (hp : Pair D 100 [] 206 20 dp) : Pair (D + 1) 99 [6] 206 20 dp := by
  intro d d2 hd hd2 T n m kd pl E tx ua ut mu Mc Mr G U Hl X i e s u uc vs hS hx hsc hsr hrw hbd hvs
  subst hvs
  obtain ⟨d, rfl⟩ : ∃ e, d = e + 1 := ⟨d - 1, by omega⟩
  show Rs (runX (d + 1) 99 [va_rf (some 65), .int (iI 6), .int (iI dp)] Mc) (runX d2 206 [va_rf (some 160)] Mr) _
  rw [r99]; unfold b99; rw [aR_e, aI_e, aI_e, aZ_e]; unfold c99
  refine rsl (if_neg (leI_n (x := 6) (y := 5) rfl li_5 (by omega))) ?_
  refine rsl (vC_e (ck_65 hx.1)) ?_
  exact Rs_cVl (hp d d2 (by omega) (by omega) T n m kd pl E tx ua ut mu _ _ G U Hl X i e s u uc _ hS hx hsc hsr hrw hbd (vs1 rfl)) (fun v M w N h => Rt.ok h)
/-- the pairs at one level -/
def PairsE (D : Nat) (dp : Int) : Prop := Pair D 99 [0] 211 14 dp ∧ Pair D 100 [] 206 20 dp ∧ Pair D 99 [2] 209 16 dp ∧ PairK 91 D 98 [] 203 24 dp ∧ PairC D 24 dp ∧ PairK 3 D 101 [] 205 22 dp
theorem pairs_step {D : Nat} {dp : Int} (hD : 20 ≤ D) (h : dp < 20 → PairsE D (dp + 1)) : PairsE (D + 20) dp := by
  have hX : PairK 91 (D + 3) 98 [] 203 24 dp := p_x hD fun q => (h q).1
  have hC : PairC (D + 3) 24 dp := p_cl hD fun q => (h q).1
  have hN : PairK 3 (D + 4) 101 [] 205 22 dp := p_n (by omega) hX hC
  have hF : Pair (D + 5) 100 [] 206 20 dp := p_f (by omega) hN (fun q => (h q).2.1.le (by omega)) (fun q => (h q).1.le (by omega))
  have h6 : Pair (D + 6) 99 [6] 206 20 dp := p_6 hF
  have h5 : Pair (D + 7) 99 [5] 207 19 dp := p_5 (by omega) h6
  have h4 : Pair (D + 8) 99 [4] 208 18 dp := p_4 (by omega) h5
  have h2 : Pair (D + 10) 99 [2] 209 16 dp := p_2 (by omega) h4 (fun q => (h q).2.2.1.le (by omega))
  have h1 : Pair (D + 11) 99 [1] 210 15 dp := p_1 (by omega) h2
  have h0 : Pair (D + 12) 99 [0] 211 14 dp := p_0 (by omega) h1
  exact ⟨h0.le (by omega), hF.le (by omega), h2.le (by omega), hX.le (by omega), hC.le (by omega), hN.le (by omega)⟩
theorem pairs_all : ∀ (N : Nat) (dp : Int), 20 - (N : Int) ≤ dp → PairsE (40 + 20 * N) dp
  | 0, dp, h => pairs_step (D := 20) (by omega) fun q => absurd q (by omega)
  | N + 1, dp, h => pairs_step (D := 40 + 20 * N) (by omega) fun _ => pairs_all N (dp + 1) (by omega)
/-- every expression, whatever it stands in -/
theorem pairs_E (dp : Int) (h : 0 ≤ dp) : PairsE 440 dp := pairs_all 20 dp (by omega)
