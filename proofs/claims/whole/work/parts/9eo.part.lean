/-! what both know of each other between calls -/
def IVx (LL : Nat) (xs : Nat → Int32) (L0 T0 : Nat) (o : HO) (ow : Nat → Int) (sl : Int) (k : Nat) (Mc Mr : Mem) : Prop := (hoP o ∧ HC LL xs o ow sl Mc ∧ HR o sl Mr) ∧ (1 ≤ sl ∧ sl ≤ 1000) ∧ Mc.1 88 2 = Mr.1 160 78 ∧ iTp k Mc Mr ∧ iDb k o Mc Mr ∧ iHd Mc Mr ∧ (∀ p, 0 ≤ p → p < oN o → iOr o p Mc Mr ∧ rsB o p Mc Mr ∧ iKl o p Mc Mr) ∧ (tdB Mc Mr ∧ smB Mc Mr ∧ shB Mc Mr ∧ blB Mc Mr) ∧ iBd ow o Mc Mr ∧ iHy ow Mc Mr ∧ ln Mc ≤ L0 + 1900 * k ∧ tot Mc.2.2.2 ≤ T0 + 75000 * k
def IV (LL : Nat) (xs : Nat → Int32) (L0 T0 k : Nat) (Mc Mr : Mem) : Prop := ∃ (o : HO) (ow : Nat → Int) (sl : Int), IVx LL xs L0 T0 o ow sl k Mc Mr
/-- cells of the class, of the reference -/
def Zcl (a _ : Nat) : Prop := 64 ≤ a ∧ (a < 160 ∨ 259 ≤ a)
def Zrf (a _ : Nat) : Prop := 160 ≤ a ∧ a < 259
/-- cells that only few calls change -/
def bsC (ow : Nat → Int) (a j : Nat) : Prop := (a = 88 ∧ (j = 1 ∨ j = 2)) ∨ a = 87 ∨ rTc a j ∨ (a = 64 ∧ j = 3) ∨ a = 140 ∨ a = 141 ∨ (259 ≤ a ∧ (ow a = 1 ∨ ow a = 2 ∨ ow a = 3 ∨ 20 ≤ ow a))
def bsR (a j : Nat) : Prop := (a = 160 ∧ (j = 2 ∨ j = 77 ∨ j = 78 ∨ j = 111 ∨ j = 138 ∨ j = 154)) ∨ rTr a j ∨ (246 ≤ a ∧ a ≤ 252) ∨ a = 257 ∨ a = 258
/-- a call of both -/
def OpK (LL : Nat) (xs : Nat → Int32) (L0 T0 K qc qr : Nat) (as : List Value) : Prop := ∀ (k : Nat) (Mc Mr : Mem), k < K → IV LL xs L0 T0 k Mc Mr → ∃ (r : Int32) (Mc' Mr' : Mem), runX 2040 qc (va_rf (some 64) :: as) Mc = some (.int r, Mc') ∧ runX 2040 qr (va_rf (some 160) :: as) Mr = some (.int r, Mr') ∧ FG Zcl Mc Mc' ∧ FG Zrf Mr Mr' ∧ Mr'.2.2.2 = Mr.2.2.2 ∧ IV LL xs L0 T0 (k + 1) Mc' Mr'
section S9eo
variable {k k' L0 T0 K qc qr : Nat} {o o' : HO} {M M' Mc Mr Mc' Mr' : Mem} {LL : Nat} {xs : Nat → Int32} {ow ow' : Nat → Int} {p sl : Int} {Zc Zr : Nat → Nat → Prop} {as : List Value}
theorem hoP.bd (hP : hoP o) (hp : 0 ≤ p ∧ p < oN o) : (gR (oP o p)).1 3 0 0 ≤ 16 ∧ gE (oP o p) ≤ 1000 ∧ gmc (oP o p) ≤ 1000 := by
  have h1 := pk_lo hP hp
  have h2 := (hP.2.2.1 p hp.1 hp.2).1.n2
  have h3 := (mcn_b (gG (oP o p)) (gE (oP o p)).toNat).2
  have h4 : gmc (oP o p) = mcn (gG (oP o p)) (gE (oP o p)).toNat := rfl
  omega
theorem HC.l17 (h : HC LL xs o ow sl M) (hp : 0 ≤ p ∧ p < oN o) : gX (oP o p) + 17 < ln M := ln_lt (h.1.2.1 p hp.1 hp.2).2.2.1.2.2
theorem HC.of (h : HC LL xs o ow sl Mc) (h' : hoC LL xs o Mc') (fc : FG Zc Mc Mc') (wc : ∀ a j, Zc a j → ¬ bsC ow a j) : HC LL xs o ow sl Mc' := by
  refine ⟨h', ⟨h.2.1.1.fg fc (fun _ _ => rfl) (fun j z => wc _ _ z ?_) fun a j l y z => wc _ _ z ?_, h.2.1.2⟩, (fc.i (fc.lw (by decide)) fun z => wc _ _ z ?_).trans h.2.2⟩ <;> unfold bsC <;> omega
theorem HR.of (h : HR o sl Mr) (h' : hoR o Mr') (fr : FG Zr Mr Mr') (wr : ∀ a j, Zr a j → ¬ bsR a j) (g : Mr'.1 160 90 = iI (-1) ∧ Mr'.1 160 91 = iI 0 ∧ Mr'.1 160 92 = iI 0 ∧ Mr'.1 160 97 = iI 0) : HR o sl Mr' := ⟨h', (fr.i (fr.lw (by decide)) fun z => wr _ _ z (by unfold bsR; omega)).trans h.2.1, (fr.i (fr.lw (by decide)) fun z => wr _ _ z (by unfold bsR; omega)).trans h.2.2.1, g⟩
/-- a call that leaves the base as it is -/
theorem IVx.lift (h : IVx LL xs L0 T0 o ow sl k Mc Mr) (hk : k ≤ k') (hC : HC LL xs o ow sl Mc') (hR : HR o sl Mr') (fc : FG Zc Mc Mc') (fr : FG Zr Mr Mr') (wc : ∀ a j, Zc a j → ¬ bsC ow a j) (wr : ∀ a j, Zr a j → ¬ bsR a j) (hd : iHd Mc' Mr') (pk : ∀ p, 0 ≤ p → p < oN o → iOr o p Mc' Mr' ∧ rsB o p Mc' Mr' ∧ iKl o p Mc' Mr') (td : tdB Mc' Mr') (sm : smB Mc' Mr') (sh : shB Mc' Mr') (bl : blB Mc' Mr') (rm : Mc'.2.2.2 = Mc.2.2.2) : IVx LL xs L0 T0 o ow sl k' Mc' Mr' := by
  obtain ⟨⟨h1, h2, h3⟩, h4, h5, h6, h7, -, -, -, h11, h12, h13, h14⟩ := h
  have el : ln Mc' = ln Mc := congrArg List.length rm
  have hR1 := hR.1.1.1
  refine ⟨⟨h1, hC, hR⟩, h4, (fc.i (fc.lw (by decide)) fun z => wc _ _ z ?_).trans (h5.trans (fr.i (fr.lw (by decide)) fun z => wr _ _ z ?_).symm), h6.fg hk fc fr (fun a j z y => wc a j z ?_) (fun a j z y => wr a j z ?_), h7.fg hk rfl fc fr (fun z => wc _ _ z ?_) (fun z => wr _ _ z ?_), hd, pk, ⟨td, sm, sh, bl⟩, h11.fg (Int.le_refl _) (fun _ _ _ => rfl) (fun _ _ => rfl) fc fr (fun a j z y => wc a j z ?_) (fun a j z y => wr a j z ?_), h12.fg hR1 (fun _ _ => rfl) fc fr (fun a j z y => wc a j z ?_) (fun a j z y => wr a j z ?_), by rw [el]; omega, by rw [rm]; omega⟩
  · unfold bsC; omega
  · unfold bsR; omega
  · exact Or.inr (Or.inr (Or.inl y))
  · exact Or.inr (Or.inl y)
  · unfold bsC; omega
  · unfold bsR; omega
  · unfold bsC; omega
  · unfold bsR; omega
  · unfold bsC; omega
  · unfold bsR; omega
/-- nothing has changed -/
theorem IVx.up (h : IVx LL xs L0 T0 o ow sl k Mc Mr) (hk : k ≤ k') : IVx LL xs L0 T0 o ow sl k' Mc Mr := by
  have h' := h
  obtain ⟨⟨h1, h2, h3⟩, h4, h5, h6, h7, h8, h9, ⟨t1, t2, t3, t4⟩, h11, h12, h13, h14⟩ := h
  exact h'.lift (Zc := fun _ _ => False) (Zr := fun _ _ => False) hk h2 h3 (FG.r h2.1.1.2.2) (FG.r h3.1.1.2) (fun _ _ z => z.elim) (fun _ _ z => z.elim) h8 h9 t1 t2 t3 t4 rfl
theorem IV.up (h : IV LL xs L0 T0 k Mc Mr) (hk : k ≤ k') : IV LL xs L0 T0 k' Mc Mr := by
  obtain ⟨o, ow, sl, h⟩ := h
  exact ⟨o, ow, sl, h.up hk⟩
theorem CFd_b : ∀ q, q ∈ CFd → q.1 < 160 := by decide
/-- the other's cells: in the class's memory, in the reference's -/
theorem IV.c (h : IV LL xs L0 T0 k Mc Mr) (fc : FG Zrf Mc Mc') (rm : Mc'.2.2.2 = Mc.2.2.2) : IV LL xs L0 T0 k Mc' Mr := by
  obtain ⟨o, ow, sl, h⟩ := h
  have h' := h
  obtain ⟨⟨h1, h2, h3⟩, h4, h5, h6, h7, h8, h9, ⟨t1, t2, t3, t4⟩, h11, h12, h13, h14⟩ := h
  have fr : FG (fun _ _ => False) Mr Mr := FG.r h3.1.1.2
  have wc : ∀ a j, Zrf a j → ¬ bsC ow a j := fun a j z y => by
    unfold Zrf at z; unfold bsC rTc at y; omega
  have hC := h2.of (h2.1.fg h1 fc fun a j z => by
    unfold Zrf at z
    exact ⟨by omega, fun q hq => by have := CFd_b _ hq; dsimp only at this; omega, fun p x y u w => by have := (h1.2.2.1 p x y).2.2; omega, fun _ _ => by omega⟩) fc wc
  refine ⟨o, ow, sl, h'.lift (Nat.le_refl _) hC h3 fc fr wc (fun _ _ z => z.elim) (h8.fg fc fr (fun a j z => by unfold Zrf at z; omega) fun _ _ z => z.elim) (fun p a b => ?_) (t1.fg fc fr (fun a j z => by unfold Zrf at z; omega) fun _ _ z => z.elim) (t2.fg fc fr (fun a j z => by unfold Zrf at z; omega) fun _ _ z => z.elim) (t3.fg fc fr (fun a j z => by unfold Zrf at z; omega) fun _ _ z => z.elim) (t4.fg fc fr (fun a j z => by unfold Zrf at z; omega) fun _ _ z => z.elim) rm⟩
  obtain ⟨g1, g2, g3⟩ := h9 p a b
  obtain ⟨b1, b2, b3⟩ := h1.bd ⟨a, b⟩
  have l17 := h2.l17 ⟨a, b⟩
  have g0 := (h1.2.2.1 p a b).2.2
  exact ⟨g1.fg rfl a b1 l17 fc fr (fun j z => by unfold Zrf at z; omega) fun _ _ _ z => z, g2.fg rfl a b1 b2 l17 fc fr (fun a j z => by unfold Zrf at z; omega) fun _ _ z => z.elim, g3.fg rfl a b3 l17 fc fr (fun a j z => by unfold Zrf at z; omega) fun _ _ z => z.elim⟩
theorem IV.r (h : IV LL xs L0 T0 k Mc Mr) (fr : FG Zcl Mr Mr') : IV LL xs L0 T0 k Mc Mr' := by
  obtain ⟨o, ow, sl, h⟩ := h
  have h' := h
  obtain ⟨⟨h1, h2, h3⟩, h4, h5, h6, h7, h8, h9, ⟨t1, t2, t3, t4⟩, h11, h12, h13, h14⟩ := h
  have fc : FG (fun _ _ => False) Mc Mc := FG.r h2.1.1.2.2
  have wr : ∀ a j, Zcl a j → ¬ bsR a j := fun a j z y => by
    unfold Zcl at z; unfold bsR rTr at y; omega
  have k160 : ∀ j, Mr'.1 160 j = Mr.1 160 j := fun j => fr.i (fr.lw (by decide)) fun z => by unfold Zcl at z; omega
  have hR := h3.of (h3.1.fg fr fun a j z => by
    unfold Zcl at z
    exact ⟨fun y => by omega, by omega, by omega, by omega⟩) fr wr ⟨(k160 _).trans h3.2.2.2.1, (k160 _).trans h3.2.2.2.2.1, (k160 _).trans h3.2.2.2.2.2.1, (k160 _).trans h3.2.2.2.2.2.2⟩
  refine ⟨o, ow, sl, h'.lift (Nat.le_refl _) h2 hR fc fr (fun _ _ z => z.elim) wr (h8.fg fc fr (fun _ _ z => z.elim) fun a j z => by unfold Zcl at z; omega) (fun p a b => ?_) (t1.fg fc fr (fun _ _ z => z.elim) fun a j z => by unfold Zcl at z; omega) (t2.fg fc fr (fun _ _ z => z.elim) fun a j z => by unfold Zcl at z; omega) (t3.fg fc fr (fun _ _ z => z.elim) fun a j z => by unfold Zcl at z; omega) (t4.fg fc fr (fun _ _ z => z.elim) fun a j z => by unfold Zcl at z; omega) rfl⟩
  obtain ⟨g1, g2, g3⟩ := h9 p a b
  obtain ⟨b1, b2, b3⟩ := h1.bd ⟨a, b⟩
  have l17 := h2.l17 ⟨a, b⟩
  exact ⟨g1.fg rfl a b1 l17 fc fr (fun _ z => z) fun j _ _ z => by unfold Zcl at z; omega, g2.fg rfl a b1 b2 l17 fc fr (fun _ _ z => z.elim) fun a j z => by unfold Zcl at z; omega, g3.fg rfl a b3 l17 fc fr (fun _ _ z => z.elim) fun a j z => by unfold Zcl at z; omega⟩
/-- both on one memory, one after the other -/
theorem OpK.sim {KM L : Nat} (h : OpK LL xs L0 T0 KM qc qr as) (hL : LL = L) : Sim KM L xs (fun k M => IV LL xs L0 T0 k M M) qc qr as := by
  subst hL
  intro k M hk hI
  obtain ⟨r, M1, R1, c1, c2, c3, c4, c5, c6⟩ := h k M M hk hI
  obtain ⟨r', M1', M2, d1, d2, d3, d4, d5, d6⟩ := h k M M1 hk (hI.r c3)
  rw [c1] at d1
  obtain ⟨e1, e2⟩ : r = r' ∧ M1 = M1' := by
    injection d1 with e
    injection e with e1 e2
    injection e1 with e1
    exact ⟨e1, e2⟩
  subst e1; subst e2
  have i1 := c6
  obtain ⟨o, ow, sl, ⟨g1, g2, g3⟩, -⟩ := c6
  have k160 : M1.2.2.2[160]? = some (13, 157) := by
    obtain ⟨o', ow', sl', ⟨g1', g2', g3'⟩, -⟩ := hI
    exact c3.2.1 _ _ (rk_160 g3'.1.1.1)
  exact ⟨r, M1, M2, c1, d2, ⟨g2.1.1.2.1, ck_64 g2.1.1.1, k160⟩, d6.c d4 d5⟩
end S9eo
