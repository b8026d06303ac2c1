/-! run(), kill(): what is known between calls stays -/
section S9es
variable {K L0 T0 qc qr : Nat} {LL : Nat} {xs : Nat → Int32} {as : List Value} {v1 v2 v3 v4 : Int32} {o : HO} {ow : Nat → Int} {sl p : Int} {k : Nat} {Mc Mr Mc' Mr' : Mem} {Zc Zr : Nat → Nat → Prop}
theorem ZM_c {n : Int} {a j : Nat} (z : ZM o p n a j) : ZM o p 0 a j ∨ (gX (oP o p) + 13 ≤ a ∧ a ≤ gX (oP o p) + 15) := by
  unfold ZM at z ⊢
  rcases z with z | z | z | z | z | z | z | z | z | z
  · exact Or.inl (Or.inl z)
  · exact Or.inl (Or.inr (Or.inl z))
  · exact Or.inl (Or.inr (Or.inr (Or.inl z)))
  · exact Or.inl (Or.inr (Or.inr (Or.inr (Or.inl z))))
  · exact Or.inl (Or.inr (Or.inr (Or.inr (Or.inr (Or.inl z)))))
  · exact Or.inl (Or.inr (Or.inr (Or.inr (Or.inr (Or.inr (Or.inl z))))))
  · exact Or.inl (Or.inr (Or.inr (Or.inr (Or.inr (Or.inr (Or.inr (Or.inl z)))))))
  · exact Or.inl (Or.inr (Or.inr (Or.inr (Or.inr (Or.inr (Or.inr (Or.inr (Or.inl z))))))))
  · exact Or.inl (Or.inr (Or.inr (Or.inr (Or.inr (Or.inr (Or.inr (Or.inr (Or.inr (Or.inl z)))))))))
  · exact Or.inr ⟨z.2.1, z.2.2⟩
theorem ZM0_b {a j : Nat} (z : ZM o p 0 a j) : 64 ≤ a ∧ a < 160 := by unfold ZM at z; omega
theorem op_12 : OpK LL xs L0 T0 K 140 257 [.int v1] := OpK.of fun k Mc Mr o ow sl hk h => by
  obtain ⟨p, p1, p2, e1⟩ := iI_ex v1
  obtain ⟨hs, u1, u2, u3⟩ := h.2.2.2.2.2.1
  obtain ⟨t1, t2, t3, t4⟩ := h.2.2.2.2.2.2.2.1
  by_cases y : ¬ (0 ≤ p ∧ p < oN o)
  · obtain ⟨x1, x2⟩ := run_no (dl := 2040) (d := 2040) (by omega) (by omega) h.1.1 h.1.2.1 h.1.2.2 e1 (by omega) y
    exact ⟨_, _, _, x1, x2, Or.inl ⟨rfl, rfl⟩⟩
  have y := Classical.not_not.1 y
  obtain ⟨g1, g2, g3⟩ := h.2.2.2.2.2.2.1 p y.1 y.2
  obtain ⟨Od, y1, y2, y3⟩ := id g1
  have hR := h.1.2.2
  obtain ⟨Mc', Mr', r, T', s', x1, x2, f1, f2, f3, f4, f5, f6, f7, ⟨f8, f9, f10⟩, f11⟩ := run_pair (dl := 2040) (d := 2040) (by omega) (by omega) h.1.1 y h.1.2.1.1 hR.1 h.1.2.1.2.1 hR.2.1 h.2.1 h.1.2.1.2.2 hR.2.2.1 h.2.2.1 ⟨hR.2.2.2.1, hR.2.2.2.2.2.2⟩ rfl y1 y3 u1 u2 e1
  refine ⟨iI r, Mc', Mr', x1, x2, Or.inr ?_⟩
  have fr := f3.fg hR.1.1.2
  obtain ⟨o1, o2⟩ := h.own y
  obtain ⟨b1, b2, b3⟩ := h.1.1.bd y
  have l17 := h.1.2.1.l17 y
  have zz : ∀ a j, Zrn o p a j → (a < 259 ∧ ZM o p 0 a j) ∨ (259 ≤ a ∧ ow a = 10 + p) := fun a j z => by
    rcases z with (z | z) | z
    · rcases ZM_c z with z | z
      · exact Or.inl ⟨by have := ZM0_b z; omega, z⟩
      · exact Or.inr ⟨by omega, o2 a (by omega)⟩
    · exact Or.inr ⟨by omega, o2 a (by omega)⟩
    · exact Or.inr ⟨by omega, o2 a (by omega)⟩
  have p8 := h.1.1.1
  have wc : ∀ a j, Zrn o p a j → ¬ bsC ow a j := fun a j z y => by
    have := zz a j z
    unfold ZM at this; unfold bsC rTc at y; omega
  have wr : ∀ a j, Zrq p a j → ¬ bsR a j := fun a j z y => by unfold Zrq Zrr ZR at z; unfold bsR rTr at y; omega
  refine ⟨f1.m fun a j z => by have := zz a j z; unfold ZM at this; unfold Zcl; omega, fr.m fun a j z => by unfold Zrq Zrr ZR at z; unfold Zrf; omega, fz_rm f3.1, o, ow, sl, h.lift (by omega) (h.1.2.1.of f4.1 f1 wc) (hR.of f4.2 fr wr f11) f1 fr wc wr ⟨s', f8, f9, f10⟩ (fun q a b => ?_) (t1.fg f1 fr (fun a j z y => by have := zz a j z; unfold ZM at this; omega) fun a j z y => by unfold Zrq Zrr ZR at z; omega) (t2.fg f1 fr (fun a j z y => by have := zz a j z; unfold ZM at this; omega) fun a j z y => by unfold Zrq Zrr ZR at z; omega) (t3.fg f1 fr (fun a j z y => by have := zz a j z; unfold ZM at this; omega) fun a j z y => by unfold Zrq Zrr ZR at z; omega) (t4.fg f1 fr (fun a j z y => by have := zz a j z; unfold ZM at this; omega) fun a j z y => by unfold Zrq Zrr ZR at z; omega) f2.1⟩
  by_cases e : q = p
  · subst e
    exact ⟨g1.fg rfl a b1 l17 f1 fr (fun j z => by unfold Zrn Zrc ZM at z; omega) (fun j _ _ z => by unfold Zrq Zrr ZR at z; omega), Or.inr ⟨f5, ⟨T', f6⟩, s', f7⟩, g3.fg rfl a b3 l17 f1 fr (fun a j z y => by unfold Zrn Zrc ZM at z; omega) (fun a j z y => by unfold Zrq Zrr ZR at z; omega)⟩
  · exact h.pkq ⟨a, b⟩ f1 fr (fun a j z y => by have := zz a j z; omega) (fun a j z y => by unfold Zrq Zrr ZR at z; unfold pR at y; omega)
theorem op_22 : OpK LL xs L0 T0 K 150 283 [.int v1] := OpK.of fun k Mc Mr o ow sl hk h => by
  obtain ⟨p, p1, p2, e1⟩ := iI_ex v1
  obtain ⟨hs, u1, u2, u3⟩ := h.2.2.2.2.2.1
  obtain ⟨t1, t2, t3, t4⟩ := h.2.2.2.2.2.2.2.1
  by_cases y : ¬ (0 ≤ p ∧ p < oN o)
  · obtain ⟨x1, x2⟩ := kill_no (dl := 2040) (d := 2040) (by omega) (by omega) h.1.1 h.1.2.1 h.1.2.2 e1 (by omega) y
    exact ⟨_, _, _, x1, x2, Or.inl ⟨rfl, rfl⟩⟩
  have y := Classical.not_not.1 y
  obtain ⟨g1, g2, wk, sw, km, g3, g4⟩ := h.2.2.2.2.2.2.1 p y.1 y.2
  obtain ⟨Od, y1, y2, y3⟩ := id g1
  have hR := h.1.2.2
  obtain ⟨Mc', Mr', r, x1, x2, f1, f2, f3, f4, f5, f6, f7⟩ := kill_ok (dl := 2040) (d := 2040) (by omega) (by omega) h.1.1 y h.1.2.1 hR h.2.1 h.2.2.1 u1 u2 u3 rfl y1 y2 y3 g3 g4 e1
  refine ⟨r, Mc', Mr', x1, x2, Or.inr ?_⟩
  have fr := f3.fg hR.1.1.2
  obtain ⟨o1, o2⟩ := h.own y
  obtain ⟨b1, b2, b3⟩ := h.1.1.bd y
  have l17 := h.1.2.1.l17 y
  have zz : ∀ a j, Zki o p a j → (a < 259 ∧ (ZM o 0 0 a j ∨ (151 ≤ a ∧ a ≤ 159))) ∨ (259 ≤ a ∧ ow a = 10 + p) := fun a j z => by
    rcases z with z | z | z | z | z
    · exact Or.inl ⟨by have := ZM0_b z; omega, Or.inl z⟩
    · exact Or.inl ⟨by omega, Or.inr z⟩
    · exact Or.inr ⟨by omega, o2 a (by omega)⟩
    · exact Or.inr ⟨by omega, o2 a (by omega)⟩
    · exact Or.inr ⟨by omega, o2 a (by omega)⟩
  have p8 := h.1.1.1
  have wc : ∀ a j, Zki o p a j → ¬ bsC ow a j := fun a j z y => by
    have := zz a j z
    unfold ZM at this; unfold bsC rTc at y; omega
  have wr : ∀ a j, Zkq p a j → ¬ bsR a j := fun a j z y => by unfold Zkq ZR at z; unfold bsR rTr at y; omega
  refine ⟨f1.m fun a j z => by have := zz a j z; unfold ZM at this; unfold Zcl; omega, fr.m fun a j z => by unfold Zkq ZR at z; unfold Zrf; omega, fz_rm f3.1, o, ow, sl, h.lift (by omega) (h.1.2.1.of f4.1 f1 wc) (hR.of f4.2 fr wr f6) f1 fr wc wr f5 (fun q a b => ?_) (t1.fg f1 fr (fun a j z y => by have := zz a j z; unfold ZM at this; omega) fun a j z y => by unfold Zkq ZR at z; omega) (t2.fg f1 fr (fun a j z y => by have := zz a j z; unfold ZM at this; omega) fun a j z y => by unfold Zkq ZR at z; omega) (t3.fg f1 fr (fun a j z y => by have := zz a j z; unfold ZM at this; omega) fun a j z y => by unfold Zkq ZR at z; omega) (t4.fg f1 fr (fun a j z y => by have := zz a j z; unfold ZM at this; omega) fun a j z y => by unfold Zkq ZR at z; omega) f2.1⟩
  by_cases e : q = p
  · subst e
    exact ⟨g1.fg rfl a b1 l17 f1 fr (fun j z => by unfold Zki ZM at z; omega) (fun j _ _ z => by unfold Zkq ZR at z; omega), g2.fg rfl a b1 b2 l17 f1 fr (fun a j z y => by unfold Zki ZM at z; omega) (fun a j z y => by unfold Zkq ZR at z; omega), f7⟩
  · exact h.pkq ⟨a, b⟩ f1 fr (fun a j z y => by have := zz a j z; omega) (fun a j z y => by unfold Zkq ZR at z; unfold pR at y; omega)
end S9es
