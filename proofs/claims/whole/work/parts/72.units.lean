/-! what is known of units that are complete -/
def HRC (G : Nat → Int → Int) (e : Int) (H : HG) (R : RG) (k : Int) : Prop := (hEN H 1 = k ∧ R.1 1 0 0 = k ∧ hEN H 2 = R.1 2 0 0 ∧ hEN H 3 = R.1 3 0 0 ∧ hEN H 4 = R.1 4 0 0) ∧ (0 ≤ k ∧ k ≤ 8 ∧ 0 ≤ hEN H 2 ∧ hEN H 2 ≤ 12 * k ∧ 0 ≤ hEN H 3 ∧ hEN H 3 ≤ 16 ∧ 0 ≤ hEN H 4 ∧ hEN H 4 ≤ 6 ∧ 0 ≤ e) ∧ (∀ j, 0 ≤ j → j < k → UnK G H R k e j) ∧ (∀ i, 0 ≤ i → i < hEN H 2 → MbK G H R (k - 1) e i) ∧ (∀ i, 0 ≤ i → i < hEN H 3 → CaK G H R (k - 1) e i) ∧ (∀ i, 0 ≤ i → i < hEN H 4 → PrK G H R (k - 1) e i) ∧ ∀ i, 0 ≤ i → i < e → G 4 i < k
section S72
variable {e i j k c0 p ut cnt z : Int} {G G' U : Nat → Int → Int} {H H' : HG} {R R' : RG} {X : Int64} {ow : Nat → Int} {x : Nat} {y : Nat → Nat}
/-- the latest unit ends -/
theorem HRK.cl (h : HRK G e H R ut cnt) : HRC G e (sF (sF H 1 2 ut (hEN H 2)) 1 4 ut e) R (ut + 1) := by
  obtain ⟨⟨a1, a2, a3, a4, a5⟩, b1, h3, h4, h5, h6⟩ := h
  obtain ⟨H', hH'⟩ : ∃ z, z = sF (sF H 1 2 ut (hEN H 2)) 1 4 ut e := ⟨_, rfl⟩
  have eN : ∀ k, hEN H' k = hEN H k := fun k => by rw [hH']; rfl
  have eX : ∀ k j, hEX H' k j = hEX H k j := fun k j => by rw [hH']; rfl
  have eA : ∀ s j i, hAV H' s j i = hAV H s j i := fun s j i => by rw [hH']; rfl
  have eF : ∀ k f j, ¬ (k = 1 ∧ (f = 2 ∨ f = 4) ∧ j = ut) → hEF H' k f j = hEF H k f j := fun k f j q => by rw [hH']; exact (sF_n (by omega)).trans (sF_n (by omega))
  have e2 : hEF H' 1 2 ut = hEN H 2 := by rw [hH']; exact (sF_n (by omega)).trans sF_p
  have e4 : hEF H' 1 4 ut = e := by rw [hH']; exact sF_p
  rw [← hH']
  refine ⟨by rw [eN, eN, eN, eN]; omega, by rw [eN, eN, eN]; omega, fun j p q => ?_, fun i p q => ?_, fun i p q => ?_, fun i p q => ?_, fun i p q => ?_⟩
  · obtain ⟨q1, q2, q3, q4, q5, q6, q7⟩ := h3 j p (by omega)
    have u2 : enU H' (ut + 1) 2 (hEN H' 2) j = enU H ut 2 (hEN H 2) j := by
      unfold enU
      rw [if_neg (show ¬ j = ut + 1 by omega)]
      by_cases w : j = ut
      · rw [if_pos w, w, e2]
      · rw [if_neg w, eF 1 2 j (by omega)]
    have u4 : enU H' (ut + 1) 4 e j = enU H ut 4 e j := by
      unfold enU
      rw [if_neg (show ¬ j = ut + 1 by omega)]
      by_cases w : j = ut
      · rw [if_pos w, w, e4]
      · rw [if_neg w, eF 1 4 j (by omega)]
    unfold UnK
    rw [u2, u4, eX, eF 1 5 j (by omega), eF 1 1 j (by omega), eF 1 3 j (by omega), eN]
    exact ⟨q1, q2, q3.cg (eF 1 7 j (by omega)) rfl (eA 0 j) (fun _ _ _ => rfl), q4.cg (eF 1 9 j (by omega)) rfl (eA 1 j) (fun _ _ _ => rfl), q5, fun i w1 w2 => by rw [eF 2 1 i (by omega)]; exact q6 i w1 w2, q7⟩
  · rw [show ut + 1 - 1 = ut by omega]
    exact (h4 i p (by rw [← eN]; exact q)).cg (fun f _ _ => ⟨eF 2 f i (by omega), rfl⟩) ⟨eX 2 i, rfl⟩
  · rw [show ut + 1 - 1 = ut by omega]
    exact (h5 i p (by rw [← eN]; exact q)).cg (fun f _ _ => ⟨eF 3 f i (by omega), rfl⟩) ⟨eX 3 i, rfl⟩
  · rw [show ut + 1 - 1 = ut by omega]
    exact (h6 i p (by rw [← eN]; exact q)).cg (fun f _ _ => ⟨eF 4 f i (by omega), rfl⟩) ⟨eX 4 i, rfl⟩
  · obtain ⟨-, -, -, -, -, -, q7⟩ := h3 ut (by omega) (Int.le_refl _)
    obtain ⟨w1, w2⟩ := q7 i p q
    rw [enU_p] at w1
    by_cases w : i < hEF H 1 3 ut
    · have := w2 w; omega
    · have := w1.2 ⟨by omega, q⟩; omega
theorem MbK.up (h : MbK G H R ut e i) (hu : ut ≤ k) : MbK G H R k e i := by
  obtain ⟨q1, q2, q3, q4⟩ := h
  exact ⟨q1, q2, by omega, q4⟩
theorem CaK.up (h : CaK G H R ut e i) (hu : ut ≤ k) : CaK G H R k e i := by
  obtain ⟨q1, q2, q3, q4⟩ := h
  exact ⟨q1, q2, by omega, q4⟩
theorem PrK.up (h : PrK G H R ut e i) (hu : ut ≤ k) : PrK G H R k e i := by
  obtain ⟨q1, q2, q3, q4⟩ := h
  exact ⟨q1, q2, by omega, q4⟩
def rU (R : RG) (k : Int) (X : Int64) : RG := rsF (rsF (rsF (rsF (rsX R 1 k X) 1 5 k (-1)) 1 7 k 0) 1 9 k 0) 1 0 0 (k + 1)
/-- a new unit -/
theorem HRC.nu (h : HRC G e H R k) (hk : k < 8) : HRK G e (aU H ow x y (uF (hEN H 2) e) X) (rU R k X) k 0 := by
  obtain ⟨⟨a1, a2, a3, a4, a5⟩, b1, h3, h4, h5, h6, h7⟩ := h
  obtain ⟨H', hH'⟩ : ∃ z, z = aU H ow x y (uF (hEN H 2) e) X := ⟨_, rfl⟩
  obtain ⟨R', hR'⟩ : ∃ z, z = rU R k X := ⟨_, rfl⟩
  have eN1 : hEN H' 1 = hEN H 1 + 1 := by rw [hH']; show (if (1 : Nat) = 1 then hEN H 1 + 1 else hEN H 1) = _; exact if_pos rfl
  have eN : ∀ k, k ≠ 1 → hEN H' k = hEN H k := fun k q => by rw [hH']; exact if_neg q
  have eX : ∀ k j, ¬ (k = 1 ∧ j = hEN H 1) → hEX H' k j = hEX H k j := fun k j q => by rw [hH']; exact if_neg q
  have eA : ∀ s j i, j ≠ hEN H 1 → hAV H' s j i = hAV H s j i := fun s j i q => by rw [hH']; exact if_neg q
  have eF : ∀ k f j, ¬ (k = 1 ∧ j = hEN H 1) → hEF H' k f j = hEF H k f j := fun k f j q => by rw [hH']; exact if_neg q
  have nF : ∀ f, hEF H' 1 f (hEN H 1) = uF (hEN H 2) e f := fun f => by rw [hH']; exact if_pos ⟨rfl, rfl⟩
  have nX : hEX H' 1 (hEN H 1) = X := by rw [hH']; exact if_pos ⟨rfl, rfl⟩
  have rF : ∀ k' f j, ¬ (k' = 1 ∧ (f = 5 ∨ f = 7 ∨ f = 9) ∧ j = k) → ¬ (k' = 1 ∧ f = 0) → R'.1 k' f j = R.1 k' f j := fun k' f j q1 q2 => by rw [hR']; exact (rsF_n (by omega)).trans ((rsF_n (by omega)).trans ((rsF_n (by omega)).trans (rsF_n (by omega))))
  have r0 : R'.1 1 0 0 = k + 1 := by rw [hR']; exact rsF_p
  have r5 : R'.1 1 5 k = -1 := by rw [hR']; exact (rsF_n (by omega)).trans ((rsF_n (by omega)).trans ((rsF_n (by omega)).trans rsF_p))
  have r7 : R'.1 1 7 k = 0 := by rw [hR']; exact (rsF_n (by omega)).trans ((rsF_n (by omega)).trans rsF_p)
  have r9 : R'.1 1 9 k = 0 := by rw [hR']; exact (rsF_n (by omega)).trans rsF_p
  have rX : ∀ k' j, ¬ (k' = 1 ∧ j = k) → R'.2 k' j = R.2 k' j := fun k' j q => by rw [hR']; exact rsX_n (by omega)
  have rXp : R'.2 1 k = X := by rw [hR']; exact rsX_p
  rw [← hH', ← hR']
  have g1 : hEF H' 1 1 k = hEN H 2 := by rw [← a1, nF]; rfl
  refine ⟨⟨by omega, r0, by rw [eN 2 (by omega), rF 2 0 0 (by omega) (by omega)]; exact a3, by rw [eN 3 (by omega), rF 3 0 0 (by omega) (by omega)]; exact a4, by rw [eN 4 (by omega), rF 4 0 0 (by omega) (by omega)]; exact a5⟩, by rw [eN 2 (by omega), eN 3 (by omega), eN 4 (by omega), g1]; omega, fun j p q => ?_, fun i p q => ?_, fun i p q => ?_, fun i p q => ?_⟩
  · by_cases w : j = k
    · subst w
      rw [← a1] at r5 r7 r9 rXp ⊢
      unfold UnK UnW
      rw [nF, nF, nF, nF, nF, nX, rXp, r5, r7, r9, enU_p, enU_p, eN 2 (by omega)]
      refine ⟨rfl, Or.inl ⟨rfl, rfl⟩, ⟨rfl, Int.le_refl _, by omega, fun i w1 w2 => absurd w2 (by omega)⟩, ⟨rfl, Int.le_refl _, by omega, fun i w1 w2 => absurd w2 (by omega)⟩, ?_, fun i w1 w2 => ?_, fun i w1 w2 => ?_⟩
      · show (0 ≤ hEN H 2 ∧ hEN H 2 ≤ hEN H 2 ∧ hEN H 2 ≤ hEN H 2 ∧ 0 ≤ e ∧ e ≤ e ∧ e ≤ e)
        omega
      · rw [eF 2 1 i (by omega)]
        obtain ⟨-, q2, q3, -⟩ := h4 i w1 w2
        have := q2 1 (by omega) (by omega)
        show _ ↔ hEN H 2 ≤ i ∧ _
        omega
      · show (_ ↔ e ≤ i ∧ _) ∧ (i < e → _)
        have := h7 i w1 w2
        omega
    · obtain ⟨q1, q2, q3, q4, q5, q6, q7⟩ := h3 j p (by omega)
      have u2 : enU H' k 2 (hEN H' 2) j = enU H k 2 (hEN H 2) j := by unfold enU; rw [if_neg w, if_neg w, eF 1 2 j (by omega)]
      have u4 : enU H' k 4 e j = enU H k 4 e j := by unfold enU; rw [if_neg w, if_neg w, eF 1 4 j (by omega)]
      unfold UnK
      rw [u2, u4, eX 1 j (by omega), rX 1 j (by omega), eF 1 5 j (by omega), rF 1 5 j (by omega) (by omega), eF 1 1 j (by omega), eF 1 3 j (by omega), eN 2 (by omega)]
      exact ⟨q1, q2, q3.cg (eF 1 7 j (by omega)) (rF 1 7 j (by omega) (by omega)) (fun i => eA 0 j i (by omega)) (fun i _ _ => rF 1 6 _ (by omega) (by omega)), q4.cg (eF 1 9 j (by omega)) (rF 1 9 j (by omega) (by omega)) (fun i => eA 1 j i (by omega)) (fun i _ _ => rF 1 8 _ (by omega) (by omega)), q5, fun i w1 w2 => by rw [eF 2 1 i (by omega)]; exact q6 i w1 w2, q7⟩
  · exact ((h4 i p (by rw [← eN 2 (by omega)]; exact q)).up (by omega)).cg (fun f _ _ => ⟨eF 2 f i (by omega), rF 2 f i (by omega) (by omega)⟩) ⟨eX 2 i (by omega), rX 2 i (by omega)⟩
  · exact ((h5 i p (by rw [← eN 3 (by omega)]; exact q)).up (by omega)).cg (fun f _ _ => ⟨eF 3 f i (by omega), rF 3 f i (by omega) (by omega)⟩) ⟨eX 3 i (by omega), rX 3 i (by omega)⟩
  · exact ((h6 i p (by rw [← eN 4 (by omega)]; exact q)).up (by omega)).cg (fun f _ _ => ⟨eF 4 f i (by omega), rF 4 f i (by omega) (by omega)⟩) ⟨eX 4 i (by omega), rX 4 i (by omega)⟩
end S72
