/-! the reference's machine: DRAW -/
def W_rd : List (Nat × Nat) := [(160, 79), (160, 82), (160, 98), (219, 9999), (220, 9999)]
section S99z
variable {d : Nat} {e s s' t u : ZS} {M M' M1 M2 : Mem} {a b j N x y : Nat} {v v1 v2 v3 w : Int32} {c k i n m p o q id : Int} {Y : Nat → Int → Int}
/-- what is not of the open codes changes -/
theorem zRM.glob (h : zRM e s M) (hG : zRG e s' M') (f : ∀ a j, (a = 213 ∨ a = 214 ∨ a = 215 ∨ (a = 160 ∧ (j = 73 ∨ j = 76 ∨ j = 85 ∨ j = 86))) → M'.1 a j = M.1 a j) (g : ∀ k, k = 0 ∨ k = 3 ∨ k = 4 ∨ k = 6 ∨ k = 7 ∨ k = 16 → s'.1 k = s.1 k) (g2 : s'.2 0 = s.2 0 ∧ s'.2 1 = s.2 1) : zRM e s' M' := by
  obtain ⟨-, hF, h76, h73, h85, h86⟩ := h
  have e0 : s'.1 0 0 0 = s.1 0 0 0 := by rw [g 0 (by omega)]
  have ef : zf s' = zf s := by unfold zf; rw [e0]
  refine ⟨hG, fun i p q => ?_, by rw [f _ _ (by omega), e0]; exact h76, ?_, by rw [f _ _ (by omega)]; exact h85, by rw [f _ _ (by omega)]; exact h86⟩
  · rw [e0] at q
    exact (hF i p q).lo (fun k _ _ => f _ _ (by omega)) (fun k _ _ => f _ _ (by omega)) (fun k _ _ => f _ _ (by omega)) (by rw [g 3 (by omega)]) (by rw [g 4 (by omega)]) (by rw [g 6 (by omega)]) (by rw [g 16 (by omega)]) (fun t => by rw [g 7 (by omega)]) (fun k => by rw [g2.1]) (fun k => by rw [g2.2])
  · rw [f _ _ (by omega), h73]
    unfold zsp zh
    rw [ef, g 6 (by omega), g 3 (by omega)]
theorem zRG.dr (h : zRG e s M) (h2 : M'.2 = M.2) (f : ∀ a j, inW W_rd a j = false → M'.1 a j = M.1 a j) (g1 : ∀ k, k = 8 ∨ k = 9 ∨ k = 10 ∨ k = 12 ∨ k = 15 ∨ k = 17 → s'.1 k = s.1 k) (g2 : ∀ k, k = 2 ∨ k = 3 ∨ k = 7 ∨ k = 8 ∨ k = 12 ∨ k = 13 → s'.2 k = s.2 k) (n1 : M'.1 160 79 = s'.2 4 0 0) (n2 : M'.1 160 82 = iI (s'.1 11 0 0)) (n3 : e.1 10 2 0 = 1 → (M'.1 160 98 = iI (s'.1 14 0 0) ∧ s'.1 11 0 0 ≤ s'.1 14 0 0) ∧ ∀ t, 0 ≤ t → t < s'.1 14 0 0 → M'.1 219 t.toNat = s'.2 9 t 0 ∧ M'.1 220 t.toNat = s'.2 10 t 0) : zRG e s' M' := by
  obtain ⟨h0, b1, b2, b3, ⟨-, b5, b6, -, b8⟩, b9, b10, -⟩ := h
  refine ⟨h0.keep h2, fun id p q => ?_, fun id p q r i u w => ?_, fun k p q => ?_, ⟨n1, ?_, ?_, n2, ?_⟩, fun x p u w => ?_, fun q p r => ?_, n3⟩
  · rw [f _ _ (inW_n (by decide) _), g2 2 (by omega)]
    rw [g1 8 (by omega)] at q
    exact b1 id p q
  · rw [f _ _ (inW_n (by decide) _), g2 3 (by omega)]
    rw [g1 8 (by omega)] at r
    exact b2 id p q r i u w
  · rw [f _ _ (inW_n (by decide) _), g1 8 (by omega)]; exact b3 k p q
  · rw [f _ _ (by decide), g1 9 (by omega)]; exact b5
  · rw [f _ _ (by decide), g1 10 (by omega)]; exact b6
  · rw [f _ _ (by decide), g1 12 (by omega)]; exact b8
  · rw [f _ _ (inW_n (by decide) _), f _ _ (inW_n (by decide) _), f _ _ (inW_n (by decide) _), g2 7 (by omega), g2 8 (by omega), g1 15 (by omega)]
    exact b9 x p u w
  · obtain ⟨c1, c2, c3⟩ := b10 q p r
    rw [f _ _ (inW_n (by decide) _), g1 17 (by omega), g2 12 (by omega), g2 13 (by omega)]
    exact ⟨c1, fun j x y => by rw [f _ _ (inW_n (by decide) _)]; exact c2 j x y, fun j x y => by rw [f _ _ (inW_n (by decide) _)]; exact c3 j x y⟩
theorem W_rdi (h : inW W_rd a j = true) (g : inW W_rd b i.toNat = false) : ¬ (b = a ∧ i.toNat = j) := fun z => by rw [z.1, z.2, h] at g; cases g
theorem sI_d (h : inW W_rd a j = true) (g : inW W_rd b x = false) : (sI M a j v).1 b x = M.1 b x := by
  by_cases y : b = a
  · by_cases y2 : x = j
    · rw [y, y2, h] at g; cases g
    · exact sI_nej y2
  · exact sI_ne y
theorem zRM.d82 (h : zRM e s M) (hc : e.1 10 2 0 = 1 → c ≤ s.1 14 0 0) : zRM e (zi s 11 0 0 c) (sI M 160 82 (iI c)) ∧ zRo e M (sI M 160 82 (iI c)) := by
  have l := h.1.2.2.2.2.2.2.2
  refine ⟨h.glob (h.1.dr rfl (fun a j p => sI_d (by decide) p) (fun k p => by rcases p with p | p | p | p | p | p <;> subst p <;> rfl) (fun k p => rfl) ((sI_nej (by decide)).trans h.1.2.2.2.2.1.1) (sI_eq.trans (congrArg iI zi_e.symm)) (fun z => ⟨⟨(sI_nej (by decide)).trans (l z).1.1, by rw [show (zi s 11 0 0 c).1 11 0 0 = c from zi_e]; exact hc z⟩, fun t p q => ⟨(sI_ne (by decide)).trans ((l z).2 t p q).1, (sI_ne (by decide)).trans ((l z).2 t p q).2⟩⟩)) (fun a j p => ?_) (fun k p => by rcases p with p | p | p | p | p | p <;> subst p <;> rfl) ⟨rfl, rfl⟩, ⟨rfl, fun a j p => ?_, fun a j p q => sI_ne (by omega)⟩⟩
  · rcases p with p | p | p | ⟨p, q⟩
    · exact sI_ne (by omega)
    · exact sI_ne (by omega)
    · exact sI_ne (by omega)
    · exact sI_nej (by omega)
  · by_cases y : a = 160
    · exact sI_nej (fun z => by rw [y, z] at p; exact absurd p (by decide))
    · exact sI_ne y
theorem zRM.d79 (h : zRM e s M) : zRM e (zw s 4 0 0 v) (sI M 160 79 v) ∧ zRo e M (sI M 160 79 v) := by
  have l := h.1.2.2.2.2.2.2.2
  have wk : ∀ k, k ≠ 4 → (zw s 4 0 0 v).2 k = s.2 k := fun k p => by funext x y; exact zw_k p
  refine ⟨h.glob (h.1.dr rfl (fun a j p => sI_d (by decide) p) (fun k p => rfl) (fun k p => wk k (by omega)) (sI_eq.trans zw_e.symm) ((sI_nej (by decide)).trans h.1.2.2.2.2.1.2.2.2.1) (fun z => ⟨⟨(sI_nej (by decide)).trans (l z).1.1, (l z).1.2⟩, fun t p q => ⟨(sI_ne (by decide)).trans ((l z).2 t p q).1, (sI_ne (by decide)).trans ((l z).2 t p q).2⟩⟩)) (fun a j p => ?_) (fun k p => rfl) ⟨wk 0 (by decide), wk 1 (by decide)⟩, ⟨rfl, fun a j p => ?_, fun a j p q => sI_ne (by omega)⟩⟩
  · rcases p with p | p | p | ⟨p, q⟩
    · exact sI_ne (by omega)
    · exact sI_ne (by omega)
    · exact sI_ne (by omega)
    · exact sI_nej (by omega)
  · by_cases y : a = 160
    · exact sI_nej (fun z => by rw [y, z] at p; exact absurd p (by decide))
    · exact sI_ne y
/-- one DRAW more is known -/
theorem zRM.told (h : zRM e s M) (ht : 0 ≤ c ∧ c = s.1 14 0 0 ∧ c = s.1 11 0 0) : zRM e (zi (zw (zw s 9 c 0 0) 10 c 0 v) 14 0 0 (c + 1)) (sI (sI (sI M 219 c.toNat 0) 220 c.toNat v) 160 98 (iI (c + 1))) ∧ zRo e M (sI (sI (sI M 219 c.toNat 0) 220 c.toNat v) 160 98 (iI (c + 1))) := by
  obtain ⟨h0, h1, h2⟩ := ht
  have l := h.1.2.2.2.2.2.2.2
  have wk : ∀ k, k ≠ 9 → k ≠ 10 → (zi (zw (zw s 9 c 0 0) 10 c 0 v) 14 0 0 (c + 1)).2 k = s.2 k := fun k p q => by funext x y; exact (zw_k q).trans (zw_k p)
  have e14 : (zi (zw (zw s 9 c 0 0) 10 c 0 v) 14 0 0 (c + 1)).1 14 0 0 = c + 1 := zi_e
  have e11 : (zi (zw (zw s 9 c 0 0) 10 c 0 v) 14 0 0 (c + 1)).1 11 0 0 = s.1 11 0 0 := rfl
  refine ⟨h.glob (h.1.dr rfl (fun a j p => (sI_d (by decide) p).trans ((sI_d (inW_c (by decide) _) p).trans (sI_d (inW_c (by decide) _) p))) (fun k p => by rcases p with p | p | p | p | p | p <;> subst p <;> rfl) (fun k p => wk k (by omega) (by omega)) (((sI_nej (by decide)).trans ((sI_ne (by decide)).trans (sI_ne (by decide)))).trans (h.1.2.2.2.2.1.1.trans (by rw [wk 4 (by decide) (by decide)]))) (((sI_nej (by decide)).trans ((sI_ne (by decide)).trans (sI_ne (by decide)))).trans h.1.2.2.2.2.1.2.2.2.1) (fun z => ⟨⟨by rw [e14]; exact sI_eq, by rw [e14, e11]; omega⟩, fun t p q => ?_⟩)) (fun a j p => ?_) (fun k p => by rcases p with p | p | p | p | p | p <;> subst p <;> rfl) ⟨wk 0 (by decide) (by decide), wk 1 (by decide) (by decide)⟩, ⟨rfl, fun a j p => ?_, fun a j p q => (sI_ne (by omega)).trans ((sI_ne (by omega)).trans (sI_ne (by omega)))⟩⟩
  · rw [e14] at q
    by_cases y : t = c
    · have z9 : (zi (zw (zw s 9 c 0 0) 10 c 0 v) 14 0 0 (c + 1)).2 9 t 0 = 0 := by rw [y]; exact zw_e (s := s) (k := 9) (i := c) (j := 0) (w := 0)
      have z10 : (zi (zw (zw s 9 c 0 0) 10 c 0 v) 14 0 0 (c + 1)).2 10 t 0 = v := by rw [y]; exact zw_e
      rw [z9, z10, y]
      exact ⟨(sI_ne (by decide)).trans ((sI_ne (by decide)).trans sI_eq), (sI_ne (by decide)).trans sI_eq⟩
    · have z9 : (zi (zw (zw s 9 c 0 0) 10 c 0 v) 14 0 0 (c + 1)).2 9 t 0 = s.2 9 t 0 := zw_i (s := s) (k := 9) (i := c) (j := 0) (w := 0) y
      have z10 : (zi (zw (zw s 9 c 0 0) 10 c 0 v) 14 0 0 (c + 1)).2 10 t 0 = s.2 10 t 0 := (zw_i y).trans (zw_k (by decide))
      obtain ⟨q1, q2⟩ := (l z).2 t p (by omega)
      rw [z9, z10]
      exact ⟨((sI_ne (by decide)).trans ((sI_ne (by decide)).trans (sI_nej (by omega)))).trans q1, ((sI_ne (by decide)).trans ((sI_nej (by omega)).trans (sI_ne (by decide)))).trans q2⟩
  · rcases p with p | p | p | ⟨p, q⟩
    · exact (sI_ne (by omega)).trans ((sI_ne (by omega)).trans (sI_ne (by omega)))
    · exact (sI_ne (by omega)).trans ((sI_ne (by omega)).trans (sI_ne (by omega)))
    · exact (sI_ne (by omega)).trans ((sI_ne (by omega)).trans (sI_ne (by omega)))
    · exact (sI_nej (by omega)).trans ((sI_ne (by omega)).trans (sI_ne (by omega)))
  · have y1 : ¬ (a = 160 ∧ j = 98) := fun z => by rw [z.1, z.2] at p; exact absurd p (by decide)
    have y2 : a ≠ 219 := fun z => by rw [z, inW_c (by decide)] at p; cases p
    have y3 : a ≠ 220 := fun z => by rw [z, inW_c (by decide)] at p; cases p
    by_cases y : a = 160
    · exact (sI_nej fun z => y1 ⟨y, z⟩).trans ((sI_ne y3).trans (sI_ne y2))
    · exact (sI_ne y).trans ((sI_ne y3).trans (sI_ne y2))
end S99z
