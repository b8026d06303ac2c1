/-! the first object's machine: a STEP begins -/
section S99s
variable {d : Nat} {e s s' t u : ZS} {κ : ZK} {M M' M1 M2 : Mem} {a b j N x y T LL : Nat} {xs : Nat → Int32} {v v1 v2 v3 w : Int32} {c k i n m p o q id fl ar st key par r B h D H S P : Int} {Y : Nat → Int → Int} {DT : Option Nat}
theorem zCG.cw (h : zCG e κ s M) (hk : zK8 κ) (f : ∀ a j, ¬ (a = 88 ∧ (j = 10 ∨ j = 14 ∨ j = 19 ∨ j = 20 ∨ j = 21)) → ¬ (a = 89 ∧ j = 3) → a ≠ κ 8 0 → a ≠ κ 8 1 → a ≠ κ 8 2 → M'.1 a j = M.1 a j) (g1 : ∀ k, k = 8 ∨ k = 11 ∨ k = 14 ∨ k = 17 → t.1 k = s.1 k) (g2 : ∀ k, k = 2 ∨ k = 3 ∨ k = 4 ∨ k = 9 ∨ k = 10 ∨ k = 12 ∨ k = 13 → t.2 k = s.2 k) (n3 : M'.1 89 3 = iI (t.1 10 0 0)) (n10 : M'.1 88 10 = iI (zcw t)) (nc : e.1 10 0 0 = 1 → ∀ p, 0 ≤ p → p < e.1 21 0 0 → M'.1 (κ 8 0) p.toNat = t.2 7 p 0 ∧ M'.1 (κ 8 1) p.toNat = t.2 8 p 0 ∧ M'.1 (κ 8 2) p.toNat = iI (t.1 15 p 0 + 1)) : zCG e κ t M' := by
  obtain ⟨h1, h2, h3, ⟨h4, h5, h6, h7⟩, h8, h9, h10⟩ := h
  have a0 := hk 0 (by omega)
  have a1 := hk 1 (by omega)
  have a2 := hk 2 (by omega)
  have o : ∀ a j, a < 259 → a ≠ 88 → a ≠ 89 → M'.1 a j = M.1 a j := fun a j p q r => f a j (fun z => q z.1) (fun z => r z.1) (by omega) (by omega) (by omega)
  refine ⟨fun id p q => ?_, fun id p q r i u w => ?_, fun k p q => ?_, ⟨?_, n3, ?_, n10⟩, nc, fun q p r => ?_, fun x => ?_⟩
  · rw [o _ _ (by decide) (by decide) (by decide), g2 2 (by omega)]
    rw [g1 8 (by omega)] at q
    exact h1 id p q
  · rw [o _ _ (by decide) (by decide) (by decide), g2 3 (by omega)]
    rw [g1 8 (by omega)] at r
    exact h2 id p q r i u w
  · rw [o _ _ (by decide) (by decide) (by decide), g1 8 (by omega)]; exact h3 k p q
  · rw [f _ _ (by omega) (by omega) (by omega) (by omega) (by omega), g2 4 (by omega)]; exact h4
  · rw [f _ _ (by omega) (by omega) (by omega) (by omega) (by omega), g1 11 (by omega)]; exact h6
  · obtain ⟨c1, c2, c3⟩ := h9 q p r
    have tb : 108 ≤ zTw q ∧ zTw q ≤ 136 := by unfold zTw; omega
    rw [o _ _ (by omega) (by omega) (by omega), g1 17 (by omega), g2 12 (by omega), g2 13 (by omega)]
    exact ⟨c1, fun j x y => by rw [o _ _ (by omega) (by omega) (by omega)]; exact c2 j x y, fun j x y => by rw [o _ _ (by omega) (by omega) (by omega)]; exact c3 j x y⟩
  · rw [o _ _ (by decide) (by decide) (by decide), o _ _ (by decide) (by decide) (by decide), g1 11 (by omega), g1 14 (by omega), g2 9 (by omega), g2 10 (by omega)]
    exact ⟨(h10 x).1, fun t p q => by rw [o _ _ (by decide) (by decide) (by decide), o _ _ (by decide) (by decide) (by decide)]; exact (h10 x).2 t p q⟩
/-- noteBegun() -/
theorem zc55 (hd : 1 ≤ d) (k0 : M.2.2.2[κ 0 0]? = some (6, 18)) (hE : zE5 e κ M) (hp : 0 ≤ p ∧ p < e.1 21 0 0 ∧ e.1 21 0 0 ≤ 1000) (hv : v1 = iI p) : ∃ M', runX d 55 [va_rf (some (κ 0 0)), .int v1, .int w] M = some (.null, M') ∧ M'.2 = M.2 ∧ (∀ a j, a ≠ κ 8 0 → a ≠ κ 8 1 → a ≠ κ 8 2 → M'.1 a j = M.1 a j) ∧ (∀ j, j ≠ p.toNat → M'.1 (κ 8 0) j = M.1 (κ 8 0) j ∧ M'.1 (κ 8 1) j = M.1 (κ 8 1) j ∧ M'.1 (κ 8 2) j = M.1 (κ 8 2) j) ∧ M'.1 (κ 8 0) p.toNat = M.1 (κ 8 0) p.toNat + 1 ∧ M'.1 (κ 8 2) p.toNat = w ∧ M'.1 (κ 8 1) p.toNat = if M.1 (κ 8 2) p.toNat = w then M.1 (κ 8 1) p.toNat else M.1 (κ 8 1) p.toNat + 1 := by
  obtain ⟨d, rfl⟩ : ∃ e, d = e + 1 := ⟨d - 1, by omega⟩
  subst hv
  obtain ⟨-, ⟨p12, k9, kr⟩, ⟨n1, n2, n3⟩, -⟩ := hE
  obtain ⟨r0, q0, -⟩ := kr 0 (by decide)
  obtain ⟨r1, q1, -⟩ := kr 1 (by decide)
  obtain ⟨r2, q2, -⟩ := kr 2 (by decide)
  have r0 : M.2.2.1 (κ 9 0) (0 : Int).toNat = some (κ 8 0) := r0
  have r1 : M.2.2.1 (κ 9 0) (1 : Int).toNat = some (κ 8 1) := r1
  have r2 : M.2.2.1 (κ 9 0) (2 : Int).toNat = some (κ 8 2) := r2
  have q0 : M.2.2.2[κ 8 0]? = some (100, (e.1 21 0 0).toNat) := q0
  have q1 : M.2.2.2[κ 8 1]? = some (100, (e.1 21 0 0).toNat) := q1
  have q2 : M.2.2.2[κ 8 2]? = some (100, (e.1 21 0 0).toNat) := q2
  obtain ⟨M4, hM4⟩ : ∃ z, z = sI M (κ 8 0) p.toNat (M.1 (κ 8 0) p.toNat + 1) := ⟨_, rfl⟩
  have e4 : M4.2 = M.2 := by rw [hM4]; rfl
  have a2 : M4.1 (κ 8 2) p.toNat = M.1 (κ 8 2) p.toNat := by rw [hM4]; exact sI_ne (fun z => n2 z.symm)
  have a1 : M4.1 (κ 8 1) p.toNat = M.1 (κ 8 1) p.toNat := by rw [hM4]; exact sI_ne (fun z => n1 z.symm)
  have Q : ∀ X : Mem, X.2 = M.2 → X.2.2.2[κ 0 0]? = some (6, 18) ∧ X.2.2.1 (κ 0 0) 12 = some (κ 9 0) ∧ X.2.2.2[κ 9 0]? = some (113, 3) ∧ (X.2.2.1 (κ 9 0) (1 : Int).toNat = some (κ 8 1) ∧ X.2.2.1 (κ 9 0) (2 : Int).toNat = some (κ 8 2)) ∧ X.2.2.2[κ 8 1]? = some (100, (e.1 21 0 0).toNat) ∧ X.2.2.2[κ 8 2]? = some (100, (e.1 21 0 0).toNat) := fun X hX => by
    rw [congrArg (fun z => z.2.2) hX, congrArg (fun z => z.2.1) hX]
    exact ⟨k0, p12, k9, ⟨r1, r2⟩, q1, q2⟩
  obtain ⟨k0', p12', k9', ⟨-, r2'⟩, -, q2'⟩ := Q M4 e4
  rw [r55]; unfold b55; rw [aR_e, aI_e, aI_e, aZ_e]; unfold c55
  rw [gtP_q k0 p12, alP_q (z := 0) k9 li_0 (by omega) r0, alI_q (n := (e.1 21 0 0).toNat) (z := p) q0 rfl (by omega) rfl, asI_e q0 (by omega) (by omega) (by omega), ← hM4, gtP_q k0' p12', alP_q (z := 2) (c := 2) k9' li_2 (by omega) r2', alI_q (n := (e.1 21 0 0).toNat) (z := p) q2' rfl (by omega) a2, jn_v]
  by_cases y : M.1 (κ 8 2) p.toNat = w
  · refine ⟨M4, by rw [if_pos y]; rfl, e4, fun a j p0 _ _ => by rw [hM4]; exact sI_ne p0, fun j z => by rw [hM4]; exact ⟨sI_nej z, sI_ne (fun z => n1 z.symm), sI_ne (fun z => n2 z.symm)⟩, by rw [hM4]; exact sI_eq, a2.trans y, by rw [if_pos y]; exact a1⟩
  · obtain ⟨M5, hM5⟩ : ∃ z, z = sI M4 (κ 8 2) p.toNat w := ⟨_, rfl⟩
    have e5 : M5.2 = M.2 := by rw [hM5]; exact e4
    obtain ⟨k05, p125, k95, ⟨r15, -⟩, q15, -⟩ := Q M5 e5
    have a15 : M5.1 (κ 8 1) p.toNat = M.1 (κ 8 1) p.toNat := by rw [hM5]; exact (sI_ne n3).trans a1
    refine ⟨sI M5 (κ 8 1) p.toNat (M.1 (κ 8 1) p.toNat + 1), ?_, e5, fun a j p0 p1 p2 => ?_, fun j z => ⟨?_, ?_, ?_⟩, ?_, ?_, ?_⟩
    · rw [if_neg y, gtP_q k0' p12', alP_q (z := 2) (c := 2) k9' li_2 (by omega) r2', asI_e q2' (by omega) (by omega) (by omega), ← hM5, gtP_q k05 p125, alP_q (z := 1) k95 li_1 (by omega) r15, alI_q (n := (e.1 21 0 0).toNat) (z := p) q15 rfl (by omega) a15, asI_e q15 (by omega) (by omega) (by omega)]
      rfl
    · rw [hM5, hM4]; exact (sI_ne p1).trans ((sI_ne p2).trans (sI_ne p0))
    · rw [hM5, hM4]; exact (sI_ne n1).trans ((sI_ne n2).trans (sI_nej z))
    · rw [hM5, hM4]; exact (sI_nej z).trans ((sI_ne n3).trans (sI_ne (fun z => n1 z.symm)))
    · rw [hM5, hM4]; exact (sI_ne (fun z => n3 z.symm)).trans ((sI_nej z).trans (sI_ne (fun z => n2 z.symm)))
    · rw [hM5, hM4]; exact (sI_ne n1).trans ((sI_ne n2).trans sI_eq)
    · rw [hM5]; exact (sI_ne (fun z => n3 z.symm)).trans sI_eq
    · rw [if_neg y]; exact sI_eq
end S99s
