/-! the smaller numbers of a number, exactly -/
section S9d1
variable {d : Nat} {M : Mem}
theorem cnt_b {z : Int} (h1 : -2147483648 ≤ z) (h2 : z < 2147483648) : 0 ≤ cnt z ∧ cnt z ≤ 33 := by
  unfold cnt
  by_cases h : z = 0
  · rw [if_pos h]; omega
  · rw [if_neg h]
    have : Nat.log2 z.natAbs < 32 := (Nat.log2_lt (by omega)).2 (by omega)
    split <;> omega
theorem q291x {z n : Int} (hy : M.2.2.2[160]? = some (13, 157)) (h1 : -2147483648 ≤ z) (h2 : z < 2147483648) (hn : 0 ≤ n) (g2 : n < 2147483648) : ∃ M' : Mem, runX (d + 1) 291 [va_rf (some 160), .int (iI z), .int (iI n)] M = some (.int (if n < cnt z then 1 else 0), M') ∧ Fz (fun a j => a = 160 ∧ j = 137) M M' ∧ (n < cnt z → M'.1 160 137 = smA z n) := by
  have g1 : -2147483648 ≤ n := by omega
  have y1 : ∀ v, (sI M 160 137 v).2.2.2[160]? = some (13, 157) := fun _ => hy
  have y2 : ∀ v w, (sI (sI M 160 137 v) 160 137 w).2.2.2[160]? = some (13, 157) := fun _ _ => hy
  rw [r291]; unfold b291; rw [aR_e, aI_e, aI_e, aZ_e]; unfold c291
  rw [jn_e]
  by_cases hz : z = 0
  · have hc : ¬ n < cnt z := by unfold cnt; rw [if_pos hz]; omega
    refine ⟨M, ?_, Fz.r, fun c => absurd c hc⟩
    rw [if_pos (by rw [eq0 h1 h2]; exact hz), rtZ_e (Or.inl rfl), if_neg hc]
  · rw [if_neg (by rw [eq0 h1 h2]; exact hz)]
    · rw [if_pos (by rw [ge0 g1 g2]; exact hn), ptI_e hy]
      have hcn : cnt z = (if 0 ≤ z then 1 else 2) + (Nat.log2 z.natAbs : Int) := by unfold cnt; rw [if_neg hz]
      by_cases h0 : n = 0
      · have hc : n < cnt z := by rw [hcn, h0]; split <;> omega
        refine ⟨sI M 160 137 0, ?_, Fz.r.si ⟨rfl, rfl⟩, fun _ => ?_⟩
        · rw [if_pos (by rw [eq0 g1 g2]; exact h0), rtZ_e (Or.inr rfl), if_pos hc]
        · rw [sI_eq]
          unfold smA
          rw [if_neg (by omega), if_pos hc, if_pos h0]
      · rw [if_neg (by rw [eq0 g1 g2]; exact h0), show iI n - (1 : Int32) = iI (n - 1) from by rw [iI_1, iI_sub], lt_e]
        -- the loop from a memory M2, then the ending
        have fin : ∀ (M2 : Mem) (K : Nat), M2.2.2.2[160]? = some (13, 157) → K < 2147483648 → True → (jn (fun (s5 : Int32) =>
            ptI (13, 157) M2 (some 160) 137 (iI z - s5) fun M6 =>
            jn (fun (s7 : Int32) =>
              rtZ s7 M6) fun j91 =>
            if s5 = 0 then (
              j91 ((0 : Int32))) else (
              j91 ((1 : Int32)))) fun j73 =>
          lp (c291_50 (runX d) j73 (iI ((K : Int) - 1), M2)) 4294967296 (iI z, (0 : Int32))) = some (.int (if hv z K = 0 then 0 else 1), sI M2 160 137 (iI (z - hv z K))) := by
          intro M2 K y3 hK _
          have bK : -2147483648 ≤ hv z K ∧ hv z K < 2147483648 := by
            have q := td_le z K
            have q2 : K = 0 ∨ 0 < K := by omega
            unfold hv
            rcases q2 with rfl | q2
            · rw [td_0]; omega
            · have q3 := td_abs z K
              have q4 : z.natAbs / 2 ^ K < 2147483648 := by
                have : 2 ^ 1 ≤ 2 ^ K := Nat.pow_le_pow_right (by decide) q2
                have : z.natAbs / 2 ^ K ≤ z.natAbs / 2 := Nat.div_le_div_left this (by decide)
                omega
              omega
          rw [jn_v]
          have q := hv_l (rec := runX d) (s4 := (iI ((K : Int) - 1), M2)) (z := z) h1 h2 hK rfl K 0 4294967296 (by omega) (by omega) (j73 := jv (fun (s5 : Int32) =>
            ptI (13, 157) M2 (some 160) 137 (iI z - s5) fun M6 =>
            jn (fun (s7 : Int32) =>
              rtZ s7 M6) fun j91 =>
            if s5 = 0 then (
              j91 ((0 : Int32))) else (
              j91 ((1 : Int32)))))
          rw [show hv z 0 = z from td_0 z, show iI ((0 : Nat) : Int) = 0 from by decide +kernel] at q
          rw [q, jv_e, ptI_e y3, jn_v, iI_sub]
          by_cases c : hv z K = 0
          · rw [if_pos (by rw [eq0 bK.1 bK.2]; exact c), jv_e, rtZ_e (Or.inl rfl), if_pos c]
          · rw [if_neg (by rw [eq0 bK.1 bK.2]; exact c), jv_e, rtZ_e (Or.inr rfl), if_neg c]
        have ne : ∀ K : Nat, hv z K = 0 ↔ ¬ K ≤ Nat.log2 z.natAbs := by
          intro K
          have := td_ne z K hz
          unfold hv
          constructor
          · intro a b; exact (this.mpr b) a
          · intro a; exact Classical.byContradiction (fun b => a (this.mp b))
        rw [jn_v]
        by_cases c : 0 ≤ z
        · rw [if_pos (by rw [ge0 h1 h2]; exact c), jv_e]
          have hr : (if hv z n.toNat = 0 then (0 : Int32) else 1) = if n < cnt z then 1 else 0 := by
            rw [hcn, if_pos c]
            by_cases e : hv z n.toNat = 0
            · have e' := (ne _).mp e
              rw [if_pos e, if_neg (by omega)]
            · have e' : n.toNat ≤ Nat.log2 z.natAbs := Classical.byContradiction (fun b => e ((ne _).mpr b))
              rw [if_neg e, if_pos (by omega)]
          refine ⟨sI (sI M 160 137 0) 160 137 (iI (z - hv z n.toNat)), ?_, (Fz.r.si ⟨rfl, rfl⟩).si ⟨rfl, rfl⟩, fun hc => ?_⟩
          · have q := fin (sI M 160 137 0) n.toNat (y1 0) (by omega) trivial
            rw [Int.toNat_of_nonneg hn, hr] at q
            exact q
          · rw [sI_eq]
            unfold smA
            rw [if_neg (show ¬ n < 0 by omega), if_pos hc, if_neg h0, if_pos c]
        · rw [if_neg (by rw [ge0 h1 h2]; exact c), ptI_e (y1 0)]
          by_cases h1n : n = 1
          · have hc : n < cnt z := by rw [hcn, if_neg c]; omega
            refine ⟨sI (sI M 160 137 0) 160 137 (-iI z), ?_, (Fz.r.si ⟨rfl, rfl⟩).si ⟨rfl, rfl⟩, fun _ => ?_⟩
            · rw [if_pos (by rw [eq0 (by omega) (by omega)]; omega), rtZ_e (Or.inr rfl), if_pos hc]
            · rw [sI_eq]
              unfold smA
              rw [if_neg (by omega), if_pos hc, if_neg h0, if_neg c, if_pos h1n]
          · rw [if_neg (by rw [eq0 (by omega) (by omega)]; omega), show (-1 : Int32) = iI (-1) from by decide +kernel, iI_add, lt_e, jv_e]
            have hr : (if hv z (n - 1).toNat = 0 then (0 : Int32) else 1) = if n < cnt z then 1 else 0 := by
              rw [hcn, if_neg c]
              by_cases e : hv z (n - 1).toNat = 0
              · have e' := (ne _).mp e
                rw [if_pos e, if_neg (by omega)]
              · have e' : (n - 1).toNat ≤ Nat.log2 z.natAbs := Classical.byContradiction (fun b => e ((ne _).mpr b))
                rw [if_neg e, if_pos (by omega)]
            refine ⟨sI (sI (sI M 160 137 0) 160 137 (-iI z)) 160 137 (iI (z - hv z (n - 1).toNat)), ?_, ((Fz.r.si ⟨rfl, rfl⟩).si ⟨rfl, rfl⟩).si ⟨rfl, rfl⟩, fun hc => ?_⟩
            · have q := fin (sI (sI M 160 137 0) 160 137 (-iI z)) (n - 1).toNat (y2 0 _) (by omega) trivial
              rw [Int.toNat_of_nonneg (show 0 ≤ n - 1 by omega), hr] at q
              exact q
            · rw [sI_eq]
              unfold smA
              rw [if_neg (show ¬ n < 0 by omega), if_pos hc, if_neg h0, if_neg c, if_neg h1n]
end S9d1
