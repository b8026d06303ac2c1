/-! foretold(), both -/
section S9dm
variable {d dl : Nat} {o : HO} {g : PG} {M M' Mc Mr Mc' Mr' : Mem} {LL a j N : Nat} {xs : Nat → Int32} {ow : Nat → Int} {c p i n k m sl nB w : Int} {v v1 v2 : Int32} {B : Int → BG}
/-- the unit of a code -/
theorem zc53 (hd : 5 ≤ d) (hP : PkP g) (hC : PkC p g M) (hk : 0 ≤ k ∧ k < gE g) (hv : v = iI k) : runX d 53 [va_rf (some (gX g)), .int v] M = some (.int (iI (gG g 4 k)), M) := by
  obtain ⟨d, rfl⟩ : ∃ e, d = e + 1 := ⟨d - 1, by omega⟩
  subst hv
  obtain ⟨⟨⟨o1, o2, o3⟩, o4, -⟩, -, -, hL, hT, hU⟩ := hC
  have l := hL 1 (by decide) (by decide)
  have n2 := hP.1.n2
  obtain ⟨-, h4, -⟩ := hP.1.2.2.1 k hk.1 hk.2
  have h4' : gG g 4 k < hEN (gH g) 1 := by
    have := hP.1.1.2.2.2.2.2.2 k hk.1 hk.2
    omega
  have rg : ∀ j, 0 ≤ j → j < hEN (gH g) 1 → (gG g 4 k = j ↔ hEF (gH g) 1 3 j ≤ k ∧ k < hEF (gH g) 1 4 j) ∧ 0 ≤ hEF (gH g) 1 3 j ∧ hEF (gH g) 1 3 j ≤ hEF (gH g) 1 4 j ∧ hEF (gH g) 1 4 j ≤ 1000 := fun j x1 x2 => by
    obtain ⟨-, -, -, -, ⟨-, -, -, q4, q5, q6⟩, -, q8⟩ := hP.1.1.2.2.1 j x1 (by omega)
    have q8 := (q8 k hk.1 hk.2).1
    rw [enU_n (by omega)] at q5 q6 q8
    exact ⟨q8, q4, q5, by omega⟩
  have main : ∀ (m : Nat) (j : Int) (N : Nat), j + m = gG g 4 k → 0 ≤ j → m < N → ∀ J49 J57, lp (c53_2 (runX d) (some (gX g)) (iI k) J49 J57) N (iI j, M) = J49 (iI (gG g 4 k), M) := by
    intro m
    induction m with
    | zero =>
      intro j N h1 h2 h3 J49 J57
      obtain ⟨N, rfl⟩ : ∃ e, N = e + 1 := ⟨N - 1, by omega⟩
      have e : j = gG g 4 k := by omega
      subst e
      obtain ⟨q1, q2, q3, q4⟩ := rg _ h2 h4'
      have q1 := q1.1 rfl
      obtain ⟨⟨w1, w2, w3⟩, w4, w5, w6⟩ := hU _ h2 h4'
      rw [lp_e]; unfold c53_2
      dsimp only
      rw [gtP_q o1 (o4 1 (by decide) (by decide)), vC_e l.1.2.1, cI_e (ls_size (by omega) l), if_neg (leI_n rfl rfl (by omega)), gtP_q o1 (o4 1 (by decide) (by decide)), vC_e l.1.2.1, cP_e (ls_get (by omega) l rfl (by omega)), cst_e w1, gtI_q w1 (w4 3 (by decide) (by decide) (by decide) (by decide)), jn_v, if_neg (lsI_n rfl rfl (by omega)), gtP_q o1 (o4 1 (by decide) (by decide)), vC_e l.1.2.1, cP_e (ls_get (by omega) l rfl (by omega)), cst_e w1, gtI_q w1 (w4 4 (by decide) (by decide) (by decide) (by decide)), if_neg (leI_n rfl rfl (by omega))]
    | succ m ih =>
      intro j N h1 h2 h3 J49 J57
      obtain ⟨N, rfl⟩ : ∃ e, N = e + 1 := ⟨N - 1, by omega⟩
      obtain ⟨q1, q2, q3, q4⟩ := rg j h2 (by omega)
      have q1' : ¬ (hEF (gH g) 1 3 j ≤ k ∧ k < hEF (gH g) 1 4 j) := fun z => by
        have := q1.2 z
        omega
      obtain ⟨⟨w1, w2, w3⟩, w4, w5, w6⟩ := hU j h2 (by omega)
      have e1 : ∀ go, c53_2 (runX d) (some (gX g)) (iI k) J49 J57 (iI j, M) go = go (iI (j + 1), M) := fun go => by
        unfold c53_2
        dsimp only
        rw [gtP_q o1 (o4 1 (by decide) (by decide)), vC_e l.1.2.1, cI_e (ls_size (by omega) l), if_neg (leI_n rfl rfl (by omega)), gtP_q o1 (o4 1 (by decide) (by decide)), vC_e l.1.2.1, cP_e (ls_get (by omega) l rfl (by omega)), cst_e w1, gtI_q w1 (w4 3 (by decide) (by decide) (by decide) (by decide)), jn_v]
        by_cases y : k < hEF (gH g) 1 3 j
        · rw [if_pos (lsI_p rfl rfl (by omega)), jv_e]
          exact ltI_q (z := j + 1) (adI rfl li_1)
        · rw [if_neg (lsI_n rfl rfl (by omega)), gtP_q o1 (o4 1 (by decide) (by decide)), vC_e l.1.2.1, cP_e (ls_get (by omega) l rfl (by omega)), cst_e w1, gtI_q w1 (w4 4 (by decide) (by decide) (by decide) (by decide)), if_pos (leI_p rfl rfl (by omega)), jv_e]
          exact ltI_q (z := j + 1) (adI rfl li_1)
      rw [lp_e, e1]
      exact ih (j + 1) N (by omega) (by omega) (by omega) J49 J57
  rw [r53]; unfold b53; rw [aR_e, aI_e, aZ_e]; unfold c53
  rw [jn_v, jn_v, li_0, main (gG g 4 k).toNat 0 4294967296 (by omega) (by omega) (by omega)]
  rfl
end S9dm
