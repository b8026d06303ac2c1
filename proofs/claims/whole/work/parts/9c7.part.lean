/-! a run begins in the house -/
/-- the links of units are as the parcels have them -/
def vrL (o : HO) (v : VR) : Prop := (vF v = 0 ∧ ∀ u, vL v u = -1) ∨ (vF v = 1 ∧ ∀ u, 0 ≤ u → u < (gR (oP o (vP v))).1 1 0 0 → LcF ((gR (oP o (vQ v))).2 1) ((gR (oP o (vQ v))).1 1 0 0) ((gR (oP o (vP v))).2 1 u) (vL v u))
section S9c7
variable {d dl : Nat} {o : HO} {v : VR} {P : Nat → Int} {s s' u : ZS} {M M' Mc Mr Mc' Mr' : Mem} {LL a j : Nat} {xs : Nat → Int32} {c p i : Int} {w sd v1 v2 : Int32} {e : ZS} {κ : ZK} {g : PG}
theorem PkP.rb (h : PkP g) : zRb (gR g) := fun j a b => by
  have n := h.1.n2
  obtain ⟨-, -, y1, y2, y3, y4, y5, y6⟩ := h.1.1.2.2.2.1 j a (by omega)
  refine ⟨by omega, y3, fun z => ?_⟩
  rcases y6 with ⟨z1, z2, b', q1, q2, q3, q4, q5, -⟩ | ⟨z1, z2⟩ <;> omega
theorem inWy_106 {κ : ZK} (h2 : M'.2 = M.2) (f : ∀ a j, a ≠ 106 → M'.1 a j = M.1 a j) : zFl κ M M' := ⟨h2, fun a j p _ _ _ => f a j fun z => by rw [z, inW_c (by decide)] at p; cases p⟩
theorem bg_C (hd : 5 ≤ d) (hP : hoP o) (hv : vrP o v) (hE : rvP o v P) (hC : hoC LL xs o M) (hR : M.2.2.1 91 0 = some (gX (oP o (vP v))) ∧ (vF v = 1 → M.2.2.1 91 1 = some (gX (oP o (vQ v)))) ∧ (vF v = 0 → M.2.2.1 91 1 = none)) : ∃ M', runX d 23 [va_rf (some 88)] M = some (.null, M') ∧ M'.2 = M.2 ∧ (∀ a j, a ≠ 106 → M'.1 a j = M.1 a j) ∧ hoC LL xs o M' ∧ ∀ id, zId (rE o v P) id → (rE o v P).1 4 id 0 = 2 → M'.1 106 ((rE o v P).1 23 id 0).toNat = (rE o v P).2 0 id 0 := by
  have hE' : zCA (rE o v P) (rK o v 0) M := by
    refine zCA.mk hE rfl (hP.2.2.1 _ hv.1.1 hv.1.2) (hC.2.1 _ hv.1.1 hv.1.2) (fun z => ⟨hP.2.2.1 _ hv.2.1 hv.2.2, hC.2.1 _ hv.2.1 hv.2.2, ?_⟩) ⟨hR.1, hR.2.1⟩
    by_cases y : vQ v = vP v
    · exact Or.inl (by rw [y])
    · have := hP.2.2.2 (vP v) (vQ v) hv.1.1 hv.1.2 hv.2.1 hv.2.2 (fun z => y z.symm)
      exact Or.inr this
  have e22 : (rE o v P).1 22 0 0 = vF v := rfl
  have f01 : vF v = 0 ∨ vF v = 1 := by rcases hE.2.1 with z | z <;> omega
  obtain ⟨M', x1, x2, x3, x4⟩ := zc23 (d := d) hd hC.1.1 hE' (fun z => hR.2.2 (by omega))
  have fl := inWy_106 (κ := rK o v 0) x2 x3
  refine ⟨M', x1, x2, x3, hC.fl hP hv fl, fun id z y => ?_⟩
  rw [x4 id z y]
  exact ((hE'.2.1.2 id z).2.2.2.2.1).symm
theorem Zma_hr (h : Zma a j) : hrZ a j := by
  rcases h with ⟨h, z⟩ | h | h
  · subst h
    refine ⟨fun _ q hq => ?_, by decide, by decide, by decide⟩
    have g : ∀ q, q ∈ RFd → q.1 ≠ 66 ∧ q.1 ≠ 67 := by decide
    have := g _ hq
    dsimp only at this
    omega
  · subst h; exact ⟨fun z => by omega, by decide, by decide, by decide⟩
  · subst h; exact ⟨fun z => by omega, by decide, by decide, by decide⟩
theorem bg_R (hd : 2 ≤ d) (hP : hoP o) (hv : vrP o v) (hL : vrL o v) (hR : hoR o M) (hw1 : v1 = iI (vP v)) (hw2 : v2 = iI (if vF v = 1 then vQ v else -1)) : ∃ M', runX d 235 [va_rf (some 160), .int v1, .int v2] M = some (.null, M') ∧ M'.2 = M.2 ∧ (∀ a j, ¬ Zma a j → M'.1 a j = M.1 a j) ∧ hoR o M' ∧ (M'.1 160 66 = iI (vP v) ∧ M'.1 160 67 = iI (if vF v = 1 then vQ v else -1)) ∧ (∀ u, 0 ≤ u → u < (gR (oP o (vP v))).1 1 0 0 → M'.1 209 u.toNat = iI (vL v u) ∧ -2 ≤ vL v u ∧ vL v u ≤ 7) ∧ ∀ id, zId (rE o v P) id → (rE o v P).1 4 id 0 = 2 → M'.1 211 id.toNat = (rE o v P).2 0 id 0 := by
  have hg := hP.2.2.1 _ hv.1.1 hv.1.2
  have hg1 := hP.2.2.1 _ hv.2.1 hv.2.2
  have n8 := hP.1.2
  have n0 := hg.1.n2
  have n1 := hg1.1.n2
  have f01 : vF v = 0 ∨ vF v = 1 := by rcases hL with z | z <;> omega
  have p8 := hv.1
  have q8 := hv.2
  obtain ⟨M', x1, x2, x3, x4, x5, x6, x7⟩ := zr235 (d := d) (M := M) (L := vL v) (fr := vF v) (p0 := vP v) (p1 := vQ v) (R0 := gR (oP o (vP v))) (R1 := gR (oP o (vQ v))) hd hR.1.1 (hR.2.1 _ hv.1.1 hv.1.2).1 (fun _ => (hR.2.1 _ hv.2.1 hv.2.2).1) (by omega) (by omega) (by omega) n0.2.1 hg.rb (fun _ => ⟨by omega, n1.2.1, hg1.rb⟩) f01 (fun z => by rcases hL with w | w; exact w.2; omega) (fun z => by rcases hL with w | w; omega; exact w.2) hw1 hw2
  have fg : FG Zma M M' := FG.of2 hR.1.2 x2 x3
  have hR' : hoR o M' := hR.fg fg fun a j z => Zma_hr z
  refine ⟨M', x1, x2, x3, hR', ⟨x4.1, x4.2⟩, fun u a b => ⟨x5 u a b, ?_⟩, fun id z y => ?_⟩
  · rcases hL with w | ⟨w, w2⟩
    · rw [w.2 u]; omega
    · rcases w2 u a b with z | z <;> omega
  · have hi : (id < 96 ∧ 0 ≤ id ∧ id < (gR (oP o (vP v))).1 2 0 0) ∨ (vF v = 1 ∧ 96 ≤ id ∧ id - 96 < (gR (oP o (vQ v))).1 2 0 0) := by
      rcases z with ⟨z1, z2⟩ | ⟨z1, z2⟩
      · have z3 : id < (gR (oP o (vP v))).1 2 0 0 := z2
        exact Or.inl ⟨by omega, z1, z3⟩
      · have z3 : id < 96 + (if vF v = 1 then (gR (oP o (vQ v))).1 2 0 0 else 0) := z2
        by_cases w : vF v = 1
        · rw [if_pos w] at z3; exact Or.inr ⟨w, z1, by omega⟩
        · rw [if_neg w] at z3; omega
    show M'.1 211 id.toNat = iI (if id < 96 then (gR (oP o (vP v))).1 2 4 id else (gR (oP o (vQ v))).1 2 4 (id - 96))
    have y' : (if id < 96 then (gR (oP o (vP v))).1 2 2 id else (gR (oP o (vQ v))).1 2 2 (id - 96)) = 2 := y
    rcases hi with ⟨a, b, c⟩ | ⟨w, a, b⟩
    · rw [if_pos a] at y' ⊢
      rw [x6 id b c, if_pos y']
    · rw [if_neg (by omega)] at y' ⊢
      have := x7 w (id - 96) (by omega) b
      rw [if_pos y', show (96 : Int) + (id - 96) = id by omega] at this
      exact this
end S9c7
