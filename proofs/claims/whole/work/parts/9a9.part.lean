/-! the reference's machine: arguments become LOCALS -/
section S9a9
variable {d : Nat} {M M' : Mem} {v : Int32} {n par B : Int} {rec : Nat → List Value → Mem → XA}
theorem r243_18 (hR : RT M) (hn : 0 ≤ n ∧ n < 12) (hp : 0 ≤ par ∧ par ≤ 10) (hB : par ≤ B ∧ B ≤ 2500) (h73 : M.1 160 73 = iI B) : ∃ M', (∀ j67 : Mem → XA, lp (c243_18 rec (some 160) (iI par) j67 (iI n)) 4294967296 ((0 : Int32), M) = j67 M') ∧ M'.2 = M.2 ∧ (∀ a j : Nat, ¬ (a = 214 ∧ 10 * n ≤ (j : Int) ∧ (j : Int) < 10 * n + 10) → M'.1 a j = M.1 a j) ∧ ∀ k : Int, 0 ≤ k → k < par → M'.1 214 (10 * n + k).toNat = M.1 213 (B - par + k).toNat := by
  refine lp_usej (b := fun j67 => c243_18 rec (some 160) (iI par) j67 (iI n)) (R := fun (j67 : Mem → XA) s => j67 s.2) 10 (fun k s => s.1 = iI (k : Int) ∧ s.2.2 = M.2 ∧ (∀ a j : Nat, ¬ (a = 214 ∧ 10 * n ≤ (j : Int) ∧ (j : Int) < 10 * n + 10) → s.2.1 a j = M.1 a j) ∧ ∀ i : Int, 0 ≤ i → i < par → i < k → s.2.1 214 (10 * n + i).toNat = M.1 213 (B - par + i).toNat) ((0 : Int32), M) 4294967296 (by omega) ⟨li_0, rfl, fun _ _ _ => rfl, fun i a b c => by omega⟩ (fun s' g1 g2 => ?_) (fun k s hk hI => ?_) (fun s hI j67 go => ?_)
  · obtain ⟨-, u2, u3, u4⟩ := g1
    exact ⟨s'.2, g2, u2, u3, fun i a b => u4 i a b (by omega)⟩
  · obtain ⟨i1, Mk⟩ := s
    obtain ⟨u1, u2, u3, u4⟩ := hI
    dsimp only at u1 u2 u3 u4
    subst u1
    have Rk := hR.keep u2
    have kk := rk_160 Rk
    have e1 : (10 : Int32) * iI n + iI (k : Int) = iI (10 * n + (k : Int)) := adI (mlI (x := 10) rfl rfl) rfl
    have ik : iI (k : Int) + (1 : Int32) = iI ((k + 1 : Nat) : Int) := cvI (adI rfl li_1) (by omega)
    have g73 : Mk.1 160 73 = iI B := (u3 _ _ (by omega)).trans h73
    have g213 : Mk.1 213 (B - par + (k : Int)).toNat = M.1 213 (B - par + (k : Int)).toNat := u3 _ _ (by omega)
    obtain ⟨X, hX⟩ : ∃ X, X = if par ≤ (k : Int) then (0 : Int32) else M.1 213 (B - par + (k : Int)).toNat := ⟨_, rfl⟩
    refine ⟨(iI ((k + 1 : Nat) : Int), sI Mk 214 (10 * n + (k : Int)).toNat X), ⟨rfl, u2, fun a j p => ?_, fun i a b c => ?_⟩, fun j67 go => ?_⟩
    · by_cases y : a = 214
      · exact (sI_nej fun z => p ⟨y, by omega, by omega⟩).trans (u3 a j p)
      · exact (sI_ne y).trans (u3 a j p)
    · by_cases y : i = k
      · rw [y] at b ⊢
        rw [if_neg (by omega)] at hX
        exact sI_eq.trans hX
      · exact (sI_nej (by omega)).trans (u4 i a b (by omega))
    · unfold c243_18
      dsimp only
      rw [if_neg (show ¬ (10 : Int32) ≤ iI (k : Int) from leI_n (x := 10) rfl rfl (by omega)), gtP_q kk (rf_74 Rk), jn_v]
      have fin : ∀ w : Int32, w = X → (jv (fun (s135 : Int32) => asI 100 Mk (some 214) (((10 : Int32) * iI n) + iI (k : Int)) s135 fun M136 => lt (iI (k : Int) + (1 : Int32)) fun (x137 : Int32) => go (x137, M136)) w : XA) = go (iI ((k + 1 : Nat) : Int), sI Mk 214 (10 * n + (k : Int)).toNat X) := fun w hw => by
        rw [jv_e, e1, asI_e (rk_214 Rk) (by omega) (by omega) (by omega), ltI_q ik, hw]
      by_cases y : par ≤ (k : Int)
      · rw [if_pos y] at hX
        rw [if_pos (leI_p rfl rfl (by omega))]
        exact fin 0 hX.symm
      · rw [if_neg y] at hX
        have e2 : iI B - iI par + iI (k : Int) = iI (B - par + (k : Int)) := adI (sbI rfl rfl) rfl
        rw [if_neg (leI_n rfl rfl (by omega)), gtP_q kk (rf_72 Rk), gtI_q kk g73, alI_q (n := 3000) (z := B - par + (k : Int)) (rk_213 Rk) e2 (by omega) g213]
        exact fin _ hX.symm
  · obtain ⟨i1, Mk⟩ := s
    obtain ⟨u1, -⟩ := hI
    dsimp only at u1
    subst u1
    unfold c243_18
    dsimp only
    rw [if_pos (show (10 : Int32) ≤ iI ((10 : Nat) : Int) from leI_p (x := 10) rfl rfl (by omega))]
end S9a9
