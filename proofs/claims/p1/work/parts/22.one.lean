theorem p1_good {L : Nat} {xs : Nat → Int32} : Good 1 L xs (Inv1 L xs) := by
  have hE : ∀ k M, Inv1 L xs k M → End L xs M := by
    intro k M h
    unfold Inv1 at h
    by_cases c : k = 0
    · rw [if_pos c] at h; rw [h]; exact F0E
    · rw [if_neg c] at h; exact h
  refine ⟨?_, fun k M hk hI => hE k M hI, fun k M hk hI => ?_, p1_0, p1_1, p1_2, p1_3, p1_4, p1_5, p1_6, p1_7, p1_8, p1_9, p1_10, p1_11, p1_12, p1_13, p1_14, p1_15, p1_16, p1_17, p1_18, p1_19, p1_20, p1_21, p1_22, p1_23, p1_24, p1_25, p1_26, p1_27, p1_28, p1_29, p1_30, p1_31, p1_32, p1_33, p1_34, p1_35, p1_36, p1_37, p1_38⟩
  · show Inv1 L xs 0 _
    unfold Inv1
    rw [if_pos rfl]
  · unfold Inv1
    rw [if_neg (by omega)]
    exact hE k M hI
/-- at most seven numbers in the script -/
theorem plain7 (L : Nat) (xs : Nat → Int32) (hL : L ≤ 7) : ∃ (d : Nat) (M' : Mem), cLaw (runX d) (some 0) (Minit L xs) = some (.int 1, M') ∧ M'.2.2.2.length - 64 ≤ 600000 ∧ tot M'.2.2.2 - tot (Minit L xs).2.2.2 ≤ 7302250 ∧ d + 1 ≤ 2048 := plain_of (KM := 1) (by omega) (by omega) (by decide) p1_good
