/-! a BUILD looks NAMES up, in the class -/
section S9df
variable {d : Nat} {g : PG} {M : Mem} {a j x N : Nat} {p k u i m c z : Int} {y y0 : Int64} {v : Int32} {H0 : HG} {k0 : Nat} {lo hi : Nat} {R0 : RG}
theorem bc1_l {J32 : Int32 × Mem → XA} {J40 : Mem → XA} (hd : 4 ≤ d) (hP : PkP g) (hC : PkC p g M) : ∀ (m : Nat) (k : Int) (N : Nat), k + m = hEN (gH g) 1 → 0 ≤ k → m < N → (∀ j, 0 ≤ j → j < k → hEX (gH g) 1 j ≠ y) → ∃ r, LcF (hEX (gH g) 1) (hEN (gH g) 1) y r ∧ lp (c1_2 (runX d) (some (gX g)) y J32 J40) N (iI k, M) = if r < 0 then J40 M else J32 (iI r, M) := by
  obtain ⟨⟨⟨o1, o2, o3⟩, o4, -⟩, -, -, hL, hT, hU⟩ := hC
  have l := hL 1 (by decide) (by decide)
  have n2 := hP.1.n2
  intro m
  induction m with
  | zero =>
    intro k N h1 h2 h3 h4
    obtain ⟨N, rfl⟩ : ∃ e, N = e + 1 := ⟨N - 1, by omega⟩
    refine ⟨-1, Or.inr ⟨rfl, fun j a b => h4 j a (by omega)⟩, ?_⟩
    rw [lp_e, if_pos (by decide)]; unfold c1_2
    dsimp only
    rw [gtP_q o1 (o4 1 (by decide) (by decide)), vC_e l.1.2.1, cI_e (ls_size (by omega) l), if_pos (leI_p rfl rfl (by omega))]
  | succ m ih =>
    intro k N h1 h2 h3 h4
    obtain ⟨N, rfl⟩ : ∃ e, N = e + 1 := ⟨N - 1, by omega⟩
    obtain ⟨⟨w1, w2, w3⟩, w4, w5, w6⟩ := hU k h2 (by omega)
    by_cases c2 : hEX (gH g) 1 k = y
    · refine ⟨k, Or.inl ⟨h2, by omega, c2, h4⟩, ?_⟩
      rw [lp_e, if_neg (by omega)]; unfold c1_2
      dsimp only
      rw [gtP_q o1 (o4 1 (by decide) (by decide)), vC_e l.1.2.1, cI_e (ls_size (by omega) l), if_neg (leI_n rfl rfl (by omega)), gtP_q o1 (o4 1 (by decide) (by decide)), vC_e l.1.2.1, cP_e (ls_get (by omega) l rfl (by omega)), cst_e w1, gtL_q w1 w5, if_pos (lgc_p rfl rfl c2)]
    · have e1 : ∀ go, c1_2 (runX d) (some (gX g)) y J32 J40 (iI k, M) go = go (iI (k + 1), M) := fun go => by
        unfold c1_2
        dsimp only
        rw [gtP_q o1 (o4 1 (by decide) (by decide)), vC_e l.1.2.1, cI_e (ls_size (by omega) l), if_neg (leI_n rfl rfl (by omega)), gtP_q o1 (o4 1 (by decide) (by decide)), vC_e l.1.2.1, cP_e (ls_get (by omega) l rfl (by omega)), cst_e w1, gtL_q w1 w5, if_neg (lgc_n rfl rfl c2)]
        exact ltI_q (z := k + 1) (adI rfl li_1)
      rw [lp_e, e1]
      exact ih (k + 1) N (by omega) (by omega) (by omega) fun j a b => by
        by_cases w : j = k
        · rw [w]; exact c2
        · exact h4 j a (by omega)
/-- a unit of the same NAME: its place, or -2 -/
theorem bc1 (hd : 5 ≤ d) (hP : PkP g) (hC : PkC p g M) : ∃ r, LcF (hEX (gH g) 1) (hEN (gH g) 1) y r ∧ runX d 1 [va_rf (some (gX g)), .long y] M = some (.int (iI (if r = -1 then -2 else r)), M) := by
  obtain ⟨d, rfl⟩ : ∃ e, d = e + 1 := ⟨d - 1, by omega⟩
  have n2 := hP.1.n2
  obtain ⟨r, h1, h2⟩ := bc1_l (d := d) (y := y) (J32 := jv fun (s1 : Int32 × Mem) => some (.int s1.1, s1.2)) (J40 := jv fun (s2 : Mem) => some (.int ((-2 : Int32)), s2)) (by omega) hP hC (hEN (gH g) 1).toNat 0 4294967296 (by omega) (by omega) (by omega) (fun j a b => by omega)
  refine ⟨r, h1, ?_⟩
  rw [r1]; unfold b1; rw [aR_e, aL_e, aZ_e]; unfold c1
  rw [jn_v, jn_v, li_0, h2]
  rcases h1 with ⟨h3, h4, -⟩ | ⟨h3, -⟩
  · rw [if_neg (by omega), if_neg (by omega)]; rfl
  · rw [h3, if_pos (by decide), if_pos rfl]; rfl
/-- a member of a unit -/
theorem bc2_l {cc : Nat} (hd : 4 ≤ d) (hP : PkP g) (hC : PkC p g M) (hu : 0 ≤ u ∧ u < (gR g).1 1 0 0) (hcc : M.2.2.2[cc]? = some (8, 9) ∧ M.2.1 cc 0 = y) : ∀ (m : Nat) (k : Int) (N : Nat), k + m = hEF (gH g) 1 2 u → hEF (gH g) 1 1 u ≤ k → m < N → (∀ j, hEF (gH g) 1 1 u ≤ j → j < k → hEX (gH g) 2 j ≠ y) → ∃ r, MbF ((gR g).1 2 1) ((gR g).2 2) ((gR g).1 2 0 0) u y r ∧ ∀ (J54 : Int32 × Option Nat × Mem → XA) (J131 : Mem → XA), lp (c2_18 (runX d) (some (gX g)) (some cc) J54 J131 (some (hEC (gH g) 1 u))) N (iI k, M) = if r < 0 then J131 M else J54 (iI r, some (hEC (gH g) 2 r), M) := by
  obtain ⟨⟨⟨o1, o2, o3⟩, o4, -⟩, -, -, hL, hT, hU⟩ := hC
  have l := hL 2 (by decide) (by decide)
  have n2 := hP.1.n2
  obtain ⟨⟨w1, w2, w3⟩, w4, w5, w6⟩ := hU u hu.1 (by omega)
  obtain ⟨-, -, -, -, ⟨q1, q2, q3, -⟩, q7, -⟩ := hP.1.1.2.2.1 u hu.1 (by omega)
  rw [enU_n (by omega)] at q2 q3 q7
  have w2' := w4 2 (by decide) (by decide) (by decide) (by decide)
  have nm : ∀ j, 0 ≤ j → j < hEN (gH g) 2 → hEX (gH g) 2 j = (gR g).2 2 j ∧ hEF (gH g) 2 1 j = (gR g).1 2 1 j ∧ 0 ≤ (gR g).1 2 1 j ∧ (gR g).1 2 1 j ≤ 7 := fun j a b => by
    obtain ⟨e1, e2, e3, -⟩ := hP.1.1.2.2.2.1 j a b
    exact ⟨e1, e2 1 (by decide) (by decide), e3.1, by omega⟩
  intro m
  induction m with
  | zero =>
    intro k N h1 h2 h3 h4
    obtain ⟨N, rfl⟩ : ∃ e, N = e + 1 := ⟨N - 1, by omega⟩
    refine ⟨-1, Or.inr ⟨rfl, fun j a b z => ?_⟩, fun J54 J131 => ?_⟩
    · obtain ⟨e1, e2, e3⟩ := nm j a (by omega)
      have eu : (gR g).1 2 1 j = u := by
        have := z.1
        exact Classical.byContradiction fun n => absurd this (eqI_n rfl rfl (by omega))
      have := (q7 j a (by omega)).1 (e2.trans eu)
      exact h4 j this.1 (by omega) (e1.trans z.2)
    · rw [lp_e, if_pos (by decide)]; unfold c2_18
      dsimp only
      rw [gtI_q w1 w2', if_pos (leI_p rfl rfl (by omega))]
  | succ m ih =>
    intro k N h1 h2 h3 h4
    obtain ⟨N, rfl⟩ : ∃ e, N = e + 1 := ⟨N - 1, by omega⟩
    obtain ⟨⟨t1, t2, t3⟩, t4, t5⟩ := hT 2 (by decide) (by decide) k (by omega) (by omega)
    obtain ⟨e1, e2, e3⟩ := nm k (by omega) (by omega)
    have ku := (q7 k (by omega) (by omega)).2 ⟨h2, by omega⟩
    by_cases c2 : hEX (gH g) 2 k = y
    · refine ⟨k, Or.inl ⟨by omega, by omega, ⟨by rw [← e2, ku], e1.symm.trans c2⟩, fun j a b z => ?_⟩, fun J54 J131 => ?_⟩
      · obtain ⟨f1, f2, f3⟩ := nm j a (by omega)
        have eu : (gR g).1 2 1 j = u := by
          have := z.1
          exact Classical.byContradiction fun n => absurd this (eqI_n rfl rfl (by omega))
        have := (q7 j a (by omega)).1 (f2.trans eu)
        exact h4 j this.1 b (f1.trans z.2)
      · rw [lp_e, if_neg (by omega)]; unfold c2_18
        dsimp only
        rw [gtI_q w1 w2', if_neg (leI_n rfl rfl (by omega)), gtP_q o1 (o4 2 (by decide) (by decide)), vC_e l.1.2.1, cP_e (ls_get (by omega) l rfl (by omega)), cst_e t1, gtL_q t1 t5, gtL_q hcc.1 hcc.2, if_pos (lgc_p rfl rfl c2)]
    · have e1' : ∀ (J54 : Int32 × Option Nat × Mem → XA) (J131 : Mem → XA) go, c2_18 (runX d) (some (gX g)) (some cc) J54 J131 (some (hEC (gH g) 1 u)) (iI k, M) go = go (iI (k + 1), M) := fun J54 J131 go => by
        unfold c2_18
        dsimp only
        rw [gtI_q w1 w2', if_neg (leI_n rfl rfl (by omega)), gtP_q o1 (o4 2 (by decide) (by decide)), vC_e l.1.2.1, cP_e (ls_get (by omega) l rfl (by omega)), cst_e t1, gtL_q t1 t5, gtL_q hcc.1 hcc.2, if_neg (lgc_n rfl rfl c2)]
        exact ltI_q (z := k + 1) (adI rfl li_1)
      obtain ⟨r, h5, h6⟩ := ih (k + 1) N (by omega) (by omega) (by omega) fun j a b => by
        by_cases w : j = k
        · rw [w]; exact c2
        · exact h4 j a (by omega)
      exact ⟨r, h5, fun J54 J131 => by rw [lp_e, e1']; exact h6 J54 J131⟩
end S9df
