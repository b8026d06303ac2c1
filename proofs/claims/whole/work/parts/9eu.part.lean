/-! drop(), rule(), twin(): what is known between calls stays -/
section S9eu
variable {K L0 T0 qc qr : Nat} {LL : Nat} {xs : Nat → Int32} {as : List Value} {v1 v2 v3 v4 v5 : Int32} {o : HO} {ow : Nat → Int} {sl p : Int} {k k' : Nat} {Mc Mr Mc' Mr' : Mem} {Zc Zr : Nat → Nat → Prop} {D' : Nat → Int → Int → Int} {W' : Nat → Int → Int → Int32}
/-- other DOUBLES -/
def oT (o : HO) (D' : Nat → Int → Int → Int) (W' : Nat → Int → Int → Int32) : HO := (o.1, D', W')
theorem IVx.dbl {tm : Int} (h : IVx LL xs L0 T0 o ow sl k Mc Mr) (fc : FG (fun a j => (108 ≤ a ∧ a < 140 ∧ (a % 4 = 0 ∨ a % 4 = 1)) ∨ (a = 64 ∧ j = 3)) Mc Mc') (fr : FG (fun a j => (227 ≤ a ∧ a ≤ 235) ∨ (a = 160 ∧ j = 111)) Mr Mr') (rc : Mc'.2 = Mc.2) (rm : Mr'.2.2.2 = Mr.2.2.2) (d1 : dbP D' (oN o) (oP o)) (d2 : dbI D' tm) (d3 : dbC D' W' Mc') (d4 : dbR D' W' Mr') (ht : 0 ≤ tm ∧ tm ≤ ((k + 1 : Nat) : Int)) (e1 : Mc'.1 64 3 = iI tm) (e2 : Mr'.1 160 111 = iI tm) (hd : iHd Mc' Mr') : FG Zcl Mc Mc' ∧ FG Zrf Mr Mr' ∧ Mr'.2.2.2 = Mr.2.2.2 ∧ IV LL xs L0 T0 (k + 1) Mc' Mr' := by
  obtain ⟨⟨h1, hC, hR⟩, h4, h5, h6, -, -, h9, ⟨t1, t2, t3, t4⟩, h11, h12, h13, h14⟩ := id h
  have r222 : Mc'.2.2.2 = Mc.2.2.2 := by rw [rc]
  have el : ln Mc' = ln Mc := congrArg List.length r222
  have kc : ∀ a j, a < 108 → ¬ (a = 64 ∧ j = 3) → Mc'.1 a j = Mc.1 a j := fun a j l y => fc.i (fc.lw (by omega)) (by omega)
  have k160 : ∀ j, j ≠ 111 → Mr'.1 160 j = Mr.1 160 j := fun j y => fr.i (fr.lw (by decide)) fun z => by omega
  have hC1 : ∀ p, 0 ≤ p → p < oN o → PkC p (oP o p) Mc' := fun p a b => (hC.1.2.1 p a b).fg (h1.2.2.1 p a b) fc fun a' j z x y => by
    have := (h1.2.2.1 p a b).2.2
    omega
  have c0 : CT Mc' := ⟨fun q z => by rw [rc]; exact hC.1.1.1.1 q z, fun q z => by rw [rc]; exact hC.1.1.1.2 q z⟩
  have c1 : OldOK LL xs Mc' := hC.1.1.2.1.fg fc fun a j l z => by omega
  have r0 : RT Mr' := hR.1.1.1.fg fr fun j ⟨q, hq⟩ z => by
    have g : ∀ q, q ∈ RFd → q.1 ≠ 111 := by decide
    have := g _ hq
    dsimp only at this
    omega
  have r1 : ∀ p, 0 ≤ p → p < oN o → PkR p (oP o p) Mr' := fun p a b => (hR.1.2.1 p a b).fg fr fun a j z => by omega
  have l87 : Lf ow 87 1 (fun p => gX (oP o p)) (oN o) Mc' := hC.2.1.1.fg fc (fun _ _ => rfl) (fun j z => by omega) fun a j l y z => by omega
  refine ⟨fc.m fun a j z => by unfold Zcl; omega, fr.m fun a j z => by unfold Zrf; omega, rm, oT o D' W', ow, sl, ⟨⟨h1.1, d1, h1.2.2⟩, ⟨⟨⟨c0, c1, by rw [el]; exact hC.1.1.2.2⟩, hC1, d3⟩, ⟨l87, hC.2.1.2⟩, (kc _ _ (by decide) (by decide)).trans hC.2.2⟩, ⟨⟨r0, Nat.le_trans hR.1.1.2 fr.lq⟩, r1, d4⟩, (k160 _ (by decide)).trans hR.2.1, (k160 _ (by decide)).trans hR.2.2.1, (k160 _ (by decide)).trans hR.2.2.2.1, (k160 _ (by decide)).trans hR.2.2.2.2.1, (k160 _ (by decide)).trans hR.2.2.2.2.2.1, (k160 _ (by decide)).trans hR.2.2.2.2.2.2⟩, h4, (kc _ _ (by decide) (by decide)).trans (h5.trans (k160 _ (by decide)).symm), h6.fg (by omega) fc fr (fun a j z y => by unfold rTc at y; omega) (fun a j z y => by unfold rTr at y; omega), ⟨tm, ht, d2, e1, e2⟩, hd, fun p a b => ?_, ⟨t1.fg fc fr (fun a j z y => by omega) (fun a j z y => by omega), t2.fg fc fr (fun a j z y => by omega) (fun a j z y => by omega), t3.fg fc fr (fun a j z y => by omega) (fun a j z y => by omega), t4.fg fc fr (fun a j z y => by omega) (fun a j z y => by omega)⟩, h11.fg (o' := oT o D' W') (Int.le_refl _) (fun _ _ _ => rfl) (fun _ _ => rfl) fc fr (fun a j z y => by omega) (fun a j z y => by omega), h12.fg r0 (fun _ _ => rfl) fc fr (fun a j z y => by omega) (fun a j z y => by omega), by rw [el]; omega, by rw [r222]; omega⟩
  exact h.pkq ⟨a, b⟩ fc fr (fun a j z y => by omega) (fun a j z y => by unfold pR at y; omega)
theorem zTw_z {q : Int} (hq : 0 ≤ q ∧ q < 8) : 108 ≤ zTw q ∧ zTw q + 3 < 140 ∧ zTw q % 4 = 0 := by unfold zTw; omega
theorem op_19 : OpK LL xs L0 T0 K 147 276 [.int v1] := OpK.of fun k Mc Mr o ow sl hk h => by
  obtain ⟨p, p1, p2, e1⟩ := iI_ex v1
  have hC := h.1.2.1
  have hR := h.1.2.2
  obtain ⟨tm, i1, i2, i3, i4⟩ := h.2.2.2.2.1
  obtain ⟨r, Mc', Mr', x1, x2, x3⟩ := drop_pair (dl := 2040) (d := 2040) (by omega) (by omega) hC.1.1.1 hR.1.1.1 h.1.1.2.1 i2 i1.1 hC.1.2.2 hR.1.2.2 e1 (by omega)
  refine ⟨r, Mc', Mr', x1, x2, x3.imp id ?_⟩
  rintro ⟨q, hq, rfl, rfl, d1, d2, d3, d4⟩
  have tz := zTw_z hq
  have fc := (FG.r (Z := fun a j => (108 ≤ a ∧ a < 140 ∧ (a % 4 = 0 ∨ a % 4 = 1)) ∨ (a = 64 ∧ j = 3)) hC.1.1.2.2).sI (a := zTw q) (j := 0) (v := iI (-2)) (Or.inl ⟨by omega, by omega, Or.inl (by omega)⟩)
  have fr := (FG.r (Z := fun a j => (227 ≤ a ∧ a ≤ 235) ∨ (a = 160 ∧ j = 111)) hR.1.1.2).sI (a := 227) (j := q.toNat) (v := iI (-1)) (Or.inl ⟨by decide, by decide⟩)
  have fc2 := (FG.r (Z := fun a j => a = zTw q ∧ j = 0) hC.1.1.2.2).sI (a := zTw q) (j := 0) (v := iI (-2)) ⟨rfl, rfl⟩
  have fr2 := (FG.r (Z := fun a j => a = 227) hR.1.1.2).sI (a := 227) (j := q.toNat) (v := iI (-1)) rfl
  exact h.dbl fc fr rfl rfl d1 d2 d3 d4 (by omega) ((sI_ne (by omega)).trans i3) ((sI_ne (by decide)).trans i4) (h.2.2.2.2.2.1.fg fc2 fr2 (fun a j z y => by omega) (fun a j z => by omega))
theorem op_18 (h01 : v4 = 0 ∨ v4 = 1) : OpK LL xs L0 T0 K 146 275 [.int v1, .int v2, .int v3, .int v4, .int v5] := OpK.of fun k Mc Mr o ow sl hk h => by
  obtain ⟨p, p1, p2, e1⟩ := iI_ex v1
  obtain ⟨m, m1, m2, e2⟩ := iI_ex v2
  have hC := h.1.2.1
  have hR := h.1.2.2
  obtain ⟨tm, i1, i2, i3, i4⟩ := h.2.2.2.2.1
  obtain ⟨r, Mc', Mr', x1, x2, x3⟩ := rule_pair (dl := 2040) (d := 2040) (v3 := v3) (v5 := v5) (by omega) (by omega) h.1.1 hC hR i2 e1 e2 h01 (by omega) (by omega)
  refine ⟨r, Mc', Mr', x1, x2, x3.imp id ?_⟩
  rintro ⟨q, D', W', hq, ⟨f1, f2⟩, ⟨f3, f4⟩, d1, d2, d3, d4⟩
  have tz := zTw_z hq
  have fc := FG.of2 (Z := fun a j => (a = zTw q ∧ j = 2) ∨ a = zTw q + 1) hC.1.1.2.2 f1 fun a j z => f2 a j (by omega) (by omega)
  have fr := FG.of2 (Z := fun a j => 230 ≤ a ∧ a ≤ 234) hR.1.1.2 f3 fun a j z => f4 a j (by omega)
  exact h.dbl (fc.m fun a j z => by omega) (fr.m fun a j z => by omega) f1 (by rw [f3]) d1 d2 d3 d4 (by omega) ((f2 _ _ (by omega) (by omega)).trans i3) ((f4 _ _ (by omega)).trans i4) (h.2.2.2.2.2.1.fg fc fr (fun a j z y => by omega) (fun a j z => by omega))
theorem op_17 : OpK LL xs L0 T0 64 145 273 [.int v1, .int v2] := OpK.of fun k Mc Mr o ow sl hk h => by
  obtain ⟨p, p1, p2, e1⟩ := iI_ex v1
  obtain ⟨m, m1, m2, e2⟩ := iI_ex v2
  have hC := h.1.2.1
  have hR := h.1.2.2
  obtain ⟨tm, i1, i2, i3, i4⟩ := h.2.2.2.2.1
  obtain ⟨hs, u1, u2, u3⟩ := h.2.2.2.2.2.1
  obtain ⟨r, Mc', Mr', x1, x2, x3⟩ := twin_pair (dl := 2040) (d := 2040) (by omega) (by omega) h.1.1 hC hR i2 (by omega) i3 i4 u1 u2 e1 e2 (by omega) (by omega)
  refine ⟨r, Mc', Mr', x1, x2, x3.imp id ?_⟩
  rintro ⟨q, D', hq, ⟨f1, f2⟩, ⟨f3, f4⟩, ⟨e3, e4⟩, d1, d2, d3, d4, w1, w2⟩
  have tz := zTw_z hq
  have fc := FG.of2 (Z := fun a j => (108 ≤ a ∧ a < 140 ∧ (a % 4 = 0 ∨ a % 4 = 1)) ∨ (a = 64 ∧ j = 3)) hC.1.1.2.2 f1 fun a j z => f2 a j (by omega) (by omega)
  have fr := FG.of2 (Z := fun a j => (227 ≤ a ∧ a ≤ 235) ∨ (a = 160 ∧ j = 111)) hR.1.1.2 f3 fun a j z => f4 a j (by omega) (by omega) (by omega)
  refine h.dbl fc fr f1 (by rw [f3]) d1 d2 d3 d4 (by omega) e3 e4 ⟨hdZ hs q, w1, w2, fun D => ?_⟩
  by_cases y : D = q
  · rw [show (hdZ hs q).1 17 D 0 = 0 from if_pos ⟨rfl, y⟩]; omega
  · rw [show (hdZ hs q).1 17 D 0 = hs.1 17 D 0 from if_neg fun z => y z.2]; exact u3 D
end S9eu
