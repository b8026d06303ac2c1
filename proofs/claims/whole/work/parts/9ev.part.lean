/-! history(), op(), linear(), place(), build(): what is known between calls stays -/
section S9ev
variable {K L0 T0 qc qr : Nat} {LL : Nat} {xs : Nat → Int32} {as : List Value} {v1 v2 v3 v4 v5 v6 : Int32} {o : HO} {ow ow' : Nat → Int} {sl p : Int} {k k' : Nat} {Mc Mr Mc' Mr' : Mem} {Zc Zr : Nat → Nat → Prop}
theorem IVx.heap (h : IVx LL xs L0 T0 o ow sl k Mc Mr) (fc : FG Zc Mc Mc') (fr : FG Zr Mr Mr') (wc : ∀ a j, Zc a j → a = 140 ∨ a = 141 ∨ (259 ≤ a ∧ (ow a = 2 ∨ ow a = 3 ∨ 20 ≤ ow a))) (wr : ∀ a j, Zr a j → (a = 160 ∧ (j = 138 ∨ j = 154)) ∨ (246 ≤ a ∧ a ≤ 254) ∨ a = 257 ∨ a = 258) (hC : HC LL xs o ow' sl Mc') (hR : HR o sl Mr') (rm : Mr'.2.2.2 = Mr.2.2.2) (rl : ln Mc' ≤ ln Mc + 1900) (rt : tot Mc'.2.2.2 ≤ tot Mc.2.2.2 + 75000) (hb : iBd ow' o Mc' Mr') (hy : iHy ow' Mc' Mr') : FG Zcl Mc Mc' ∧ FG Zrf Mr Mr' ∧ Mr'.2.2.2 = Mr.2.2.2 ∧ IV LL xs L0 T0 (k + 1) Mc' Mr' := by
  obtain ⟨⟨h1, -, -⟩, h4, h5, h6, h7, -, -, -, -, -, h13, h14⟩ := id h
  have a1 : ln Mc' ≤ L0 + 1900 * (k + 1) := by rw [Nat.mul_add]; exact Nat.le_trans rl (by rw [← Nat.add_assoc]; exact Nat.add_le_add_right h13 _)
  have a2 : tot Mc'.2.2.2 ≤ T0 + 75000 * (k + 1) := by rw [Nat.mul_add]; exact Nat.le_trans rt (by rw [← Nat.add_assoc]; exact Nat.add_le_add_right h14 _)
  obtain ⟨s1, s2, s3, s4, s5, s6⟩ := h.rest fc fr (fun a j z y => by have := wc a j z; unfold nbC at y; omega) (fun a j z y => by have := wr a j z; unfold nbR at y; omega)
  refine ⟨fc.m fun a j z => by have := wc a j z; unfold Zcl; omega, fr.m fun a j z => by have := wr a j z; unfold Zrf; omega, rm, o, ow', sl, ⟨h1, hC, hR⟩, h4, (fc.i (fc.lw (by decide)) fun z => ?_).trans (h5.trans (fr.i (fr.lw (by decide)) fun z => ?_).symm), h6.fg (by omega) fc fr (fun a j z y => ?_) (fun a j z y => ?_), h7.fg (by omega) rfl fc fr (fun z => ?_) (fun z => ?_), s1, s2, ⟨s3, s4, s5, s6⟩, hb, hy, a1, a2⟩
  · have := wc _ _ z; omega
  · have := wr _ _ z; omega
  · have := wc _ _ z; unfold rTc at y; omega
  · have := wr _ _ z; unfold rTr at y; omega
  · have := wc _ _ z; omega
  · have := wr _ _ z; omega
theorem op_28 : OpK LL xs L0 T0 K 156 293 [.int v1] := OpK.of fun k Mc Mr o ow sl hk h => by
  obtain ⟨p, p1, p2, e1⟩ := iI_ex v1
  have hC := h.1.2.1
  have hR := h.1.2.2
  obtain ⟨nH, B, b1, b2⟩ := h.2.2.2.2.2.2.2.2.2.1
  have hB := h.2.2.2.2.2.2.2.2.1
  obtain ⟨Mc', Mr', r, ow', nH', B', x1, x2, f1, f2, ho, g1, g2, g3, g4⟩ := history_pair (dl := 2040) (d := 2040) (v1 := v1) (by omega) (by omega) h.1.1 hC hR b1 b2 e1 (by omega)
  refine ⟨r, Mc', Mr', x1, x2, Or.inr ?_⟩
  have fc := f1.fgx hC.1.1.2.2
  have fr := f2.fg hR.1.1.2
  exact h.heap fc fr (fun a j z => by unfold Zhy at z; omega) (fun a j z => by unfold Zhq at z; omega) g3 g4 (by rw [f2.1]) (by have := f1.1.2.1; omega) (by have := f1.1.2.2.1; omega) (hB.fg (Int.le_refl _) (fun _ _ _ => rfl) ho fc fr (fun a j z y => by unfold Zhy at z; omega) (fun a j z y => by unfold Zhq at z; omega)) ⟨nH', B', g1, g2⟩
theorem op_29 : OpK LL xs L0 T0 K 157 294 [.int v1, .int v2, .int v3, .int v4, .int v5, .int v6] := OpK.of fun k Mc Mr o ow sl hk h => by
  obtain ⟨p, p1, p2, e1⟩ := iI_ex v1
  obtain ⟨w, w1, w2, e2⟩ := iI_ex v2
  obtain ⟨f, f1', f2', e5⟩ := iI_ex v5
  obtain ⟨g, g1', g2', e6⟩ := iI_ex v6
  have hC := h.1.2.1
  have hR := h.1.2.2
  obtain ⟨nH, B, b1, b2⟩ := h.2.2.2.2.2.2.2.2.2.1
  have hB := h.2.2.2.2.2.2.2.2.1
  obtain ⟨Mc', Mr', r, B', x1, x2, f1, f2, g1, g2, g3, g4⟩ := op_pair (dl := 2040) (d := 2040) (v1 := v1) (v2 := v2) (v3 := v3) (v4 := v4) (v5 := v5) (v6 := v6) (by omega) (by omega) h.1.1 hC hR b1 b2 e1 e2 e5 e6 (by omega) (by omega) (by omega) (by omega)
  refine ⟨r, Mc', Mr', x1, x2, Or.inr ?_⟩
  have fc := f1.fg hC.1.1.2.2
  have fr := f2.fg hR.1.1.2
  have rm : Mc'.2.2.2 = Mc.2.2.2 := by rw [f1.1]
  have el : ln Mc' = ln Mc := congrArg List.length rm
  exact h.heap fc fr (fun a j z => by unfold Zho at z; omega) (fun a j z => by unfold Zhq at z; omega) g3 g4 (by rw [f2.1]) (by omega) (by rw [rm]; omega) (hB.fg (Int.le_refl _) (fun _ _ _ => rfl) (fun _ _ => rfl) fc fr (fun a j z y => by unfold Zho at z; omega) (fun a j z y => by unfold Zhq at z; omega)) ⟨nH, B', g1, g2⟩
theorem op_30 : OpK LL xs L0 T0 K 158 298 [.int v1] := OpK.of fun k Mc Mr o ow sl hk h => by
  obtain ⟨p, p1, p2, e1⟩ := iI_ex v1
  have hC := h.1.2.1
  have hR := h.1.2.2
  obtain ⟨nH, B, b1, b2⟩ := h.2.2.2.2.2.2.2.2.2.1
  have hB := h.2.2.2.2.2.2.2.2.1
  obtain ⟨Mc', Mr', r, B', x1, x2, f1, f2, g1, g2, g3, g4⟩ := linear_pair (dl := 2040) (d := 2040) (v1 := v1) (by omega) (by omega) h.1.1 hC hR b1 b2 e1 (by omega)
  refine ⟨r, Mc', Mr', x1, x2, Or.inr ?_⟩
  have fc := f1.fg hC.1.1.2.2
  have fr := f2.fg hR.1.1.2
  have rm : Mc'.2.2.2 = Mc.2.2.2 := by rw [f1.1]
  have el : ln Mc' = ln Mc := congrArg List.length rm
  exact h.heap fc fr (fun a j z => by unfold Zho at z; omega) (fun a j z => by unfold Zhq at z; omega) g3 g4 (by rw [f2.1]) (by omega) (by rw [rm]; omega) (hB.fg (Int.le_refl _) (fun _ _ _ => rfl) (fun _ _ => rfl) fc fr (fun a j z y => by unfold Zho at z; omega) (fun a j z y => by unfold Zhq at z; omega)) ⟨nH, B', g1, g2⟩
theorem op_31 : OpK LL xs L0 T0 K 159 299 [.int v1, .int v2] := OpK.of fun k Mc Mr o ow sl hk h => by
  obtain ⟨p, p1, p2, e1⟩ := iI_ex v1
  obtain ⟨w, w1, w2, e2⟩ := iI_ex v2
  have hC := h.1.2.1
  have hR := h.1.2.2
  obtain ⟨nH, B, b1, b2⟩ := h.2.2.2.2.2.2.2.2.2.1
  have hB := h.2.2.2.2.2.2.2.2.1
  obtain ⟨Mc', Mr', r, B', x1, x2, f1, f2, g1, g2, g3, g4⟩ := place_pair (dl := 2040) (d := 2040) (v1 := v1) (v2 := v2) (by omega) (by omega) h.1.1 hC hR b1 b2 e1 e2 (by omega) (by omega)
  refine ⟨r, Mc', Mr', x1, x2, Or.inr ?_⟩
  have fc := f1.fg hC.1.1.2.2
  have fr := f2.fg hR.1.1.2
  have rm : Mc'.2.2.2 = Mc.2.2.2 := by rw [f1.1]
  have el : ln Mc' = ln Mc := congrArg List.length rm
  exact h.heap fc fr (fun a j z => by unfold Zho at z; omega) (fun a j z => by unfold Zhq at z; omega) g3 g4 (by rw [f2.1]) (by omega) (by rw [rm]; omega) (hB.fg (Int.le_refl _) (fun _ _ _ => rfl) (fun _ _ => rfl) fc fr (fun a j z y => by unfold Zho at z; omega) (fun a j z y => by unfold Zhq at z; omega)) ⟨nH, B', g1, g2⟩
theorem op_36 : OpK LL xs L0 T0 K 164 306 [.int v1, .int v2] := OpK.of fun k Mc Mr o ow sl hk h => by
  obtain ⟨p, p1, p2, e1⟩ := iI_ex v1
  obtain ⟨q, q1, q2, e2⟩ := iI_ex v2
  have hC := h.1.2.1
  have hR := h.1.2.2
  obtain ⟨nB, B, hn, hb, hr⟩ := h.2.2.2.2.2.2.2.2.1
  have hH := h.2.2.2.2.2.2.2.2.2.1
  by_cases y : ¬ (((0 ≤ p ∧ p < oN o) ∧ 0 ≤ q ∧ q < oN o) ∧ nB < 8)
  · obtain ⟨r, x1, x2⟩ := build_no (dl := 2040) (d := 2040) (by omega) (by omega) h.1.1 hC hR hb hr e1 e2 (by omega) (by omega) y
    exact ⟨_, _, _, x1, x2, Or.inl ⟨rfl, rfl⟩⟩
  have y := Classical.not_not.1 y
  obtain ⟨Mc', Mr', ow', B', x1, x2, f1, f2, ho, g1, g2, g3, g4⟩ := build_ok (dl := 2040) (d := 2040) (by omega) (by omega) h.1.1 y.1.1 y.1.2 hC hR hb hr ⟨hn.1, y.2⟩ e1 e2
  refine ⟨_, Mc', Mr', x1, x2, Or.inr ?_⟩
  have fc := f1.fgx hC.1.1.2.2
  have fr := f2.fg hR.1.1.2
  exact h.heap fc fr (fun a j z => by unfold Zbd at z; omega) (fun a j z => by unfold Zbq at z; omega) g3 g4 (by rw [f2.1]) (by have := f1.1.2.1; omega) (by have := f1.1.2.2.1; omega) ⟨nB + 1, B', by omega, g1, g2⟩ (hH.fg g4.1.1.1 ho fc fr (fun a j z y => by unfold Zbd at z; omega) (fun a j z y => by unfold Zbq at z; omega))
end S9ev
