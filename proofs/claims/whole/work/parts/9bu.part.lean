/-! a parcel in memory -/
/-- of the cells that stood only those of Z have changed -/
def FG (Z : Nat → Nat → Prop) (M M' : Mem) : Prop := 259 ≤ ln M ∧ (∀ (a : Nat) (q : Nat × Nat), M.2.2.2[a]? = some q → M'.2.2.2[a]? = some q) ∧ ∀ a j : Nat, a < ln M → ¬ Z a j → M'.1 a j = M.1 a j ∧ M'.2.1 a j = M.2.1 a j ∧ M'.2.2.1 a j = M.2.2.1 a j
def rng (lo hi : Nat) : Nat → Int := fun a => if lo ≤ a ∧ a < hi then 1 else 0
/-- cells of a parcel that runs change -/
def pkZ (x a j : Nat) : Prop := (a = x ∧ 13 ≤ j ∧ j ≤ 17) ∨ a = x + 6 ∨ (x + 8 ≤ a ∧ a ≤ x + 11) ∨ (x + 13 ≤ a ∧ a ≤ x + 17)
def PtI (lo hi : Nat) (M : Mem) (H : HG) (k : Nat) (j : Int) : Prop := (M.2.2.2[hEC H k j]? = some (8, 9) ∧ lo ≤ hEC H k j ∧ hEC H k j < hi) ∧ (∀ f, 1 ≤ f → f ≤ 8 → M.1 (hEC H k j) f = iI (hEF H k f j)) ∧ M.2.1 (hEC H k j) 0 = hEX H k j
def UtI (lo hi : Nat) (M : Mem) (H : HG) (j : Int) : Prop := (M.2.2.2[hEC H 1 j]? = some (11, 10) ∧ lo ≤ hEC H 1 j ∧ hEC H 1 j < hi) ∧ (∀ f, 1 ≤ f → f ≤ 9 → f ≠ 6 → f ≠ 8 → M.1 (hEC H 1 j) f = iI (hEF H 1 f j)) ∧ M.2.1 (hEC H 1 j) 0 = hEX H 1 j ∧ ∀ s, s < 2 → (M.2.2.1 (hEC H 1 j) (6 + 2 * s) = some (hUA H s j) ∧ M.2.2.2[hUA H s j]? = some (100, 3) ∧ lo ≤ hUA H s j ∧ hUA H s j < hi) ∧ ∀ i, i < 3 → M.1 (hUA H s j) i = iI (hAV H s j i)
def gmc (g : PG) : Int := mcn (gG g) (gE g).toNat
def gmt (g : PG) : Int → Int := mtf (gG g) (gE g).toNat
/-- the parcel's object -/
def PkO (p : Int) (g : PG) (M : Mem) : Prop := (M.2.2.2[gX g]? = some (6, 18) ∧ M.1 (gX g) 0 = iI p ∧ M.1 (gX g) 5 = iI (gE g)) ∧ (∀ k, 1 ≤ k → k ≤ 4 → M.2.2.1 (gX g) k = some (hCL (gH g) k)) ∧ (M.2.2.1 (gX g) 6 = some (gX g + 1) ∧ M.2.2.1 (gX g) 7 = some (gX g + 2) ∧ M.2.2.1 (gX g) 8 = some (gX g + 3)) ∧ M.2.2.1 (gX g) 9 = some (gX g + 5) ∧ M.2.2.1 (gX g) 10 = some (gX g + 6) ∧ M.2.2.1 (gX g) 11 = some (gX g + 7) ∧ M.2.2.1 (gX g) 12 = some (gX g + 12)
/-- the parcel in the class -/
def PkC (p : Int) (g : PG) (M : Mem) : Prop := PkO p g M ∧
  PAr M (gX g) (gE g).toNat ((gR g).1 3 0 0).toNat (gmc g).toNat (gG g) (gmt g) ∧
  (M.2.2.2[gX g + 6]? = some (100, ((gR g).1 3 0 0).toNat) ∧ M.2.2.2[gX g + 16]? = some (100, (gmc g).toNat) ∧ M.2.2.2[gX g + 17]? = some (100, (gmc g).toNat)) ∧
  (∀ k, 1 ≤ k → k ≤ 4 → Ls M (rng (gL g) (gX g)) (hCL (gH g) k) (hEC (gH g) k) (hEN (gH g) k) 1) ∧
  (∀ k, 2 ≤ k → k ≤ 4 → ∀ j, 0 ≤ j → j < hEN (gH g) k → PtI (gL g) (gX g) M (gH g) k j) ∧
  ∀ j, 0 ≤ j → j < hEN (gH g) 1 → UtI (gL g) (gX g) M (gH g) j
/-- the parcel in the reference -/
def PkR (p : Int) (g : PG) (M : Mem) : Prop := RR M p (gR g) ∧ RKp M (gG g) (gE g) p (gmc g) (gmt g)
/-- of the parcel itself -/
def PkP (g : PG) : Prop := zPK (gG g) (gR g) (gH g) (gE g) ∧ zPc (gH g) ∧ 259 ≤ gL g ∧ gL g ≤ gX g
section S9bu
variable {Z Z' : Nat → Nat → Prop} {M M' M2 : Mem} {p n : Int} {g : PG} {a j lo hi L N : Nat} {C : Int → Nat} {e : ZS} {κ : ZK} {W : List (Nat × Nat)}
theorem FG.r (h : 259 ≤ ln M) : FG Z M M := ⟨h, fun _ _ q => q, fun _ _ _ _ => ⟨rfl, rfl, rfl⟩⟩
theorem FG.lq (h : FG Z M M') : ln M ≤ ln M' := by
  obtain ⟨h1, h2, -⟩ := h
  have l : ln M - 1 < M.2.2.2.length := by unfold ln at *; omega
  have := ln_lt (h2 _ _ (List.getElem?_eq_getElem l))
  omega
theorem FG.tr (h : FG Z M M') (g : FG Z M' M2) : FG Z M M2 := ⟨h.1, fun a q e => g.2.1 a q (h.2.1 a q e), fun a j l z => by
  obtain ⟨a1, a2, a3⟩ := h.2.2 a j l z
  obtain ⟨b1, b2, b3⟩ := g.2.2 a j (by have := h.lq; omega) z
  exact ⟨b1.trans a1, b2.trans a2, b3.trans a3⟩⟩
theorem FG.m (h : FG Z M M') (f : ∀ a j, Z a j → Z' a j) : FG Z' M M' := ⟨h.1, h.2.1, fun a j l z => h.2.2 a j l fun w => z (f a j w)⟩
theorem FG.i (h : FG Z M M') (l : a < ln M) (z : ¬ Z a j) : M'.1 a j = M.1 a j := (h.2.2 a j l z).1
theorem FG.l (h : FG Z M M') (l : a < ln M) (z : ¬ Z a j) : M'.2.1 a j = M.2.1 a j := (h.2.2 a j l z).2.1
theorem FG.pt (h : FG Z M M') (l : a < ln M) (z : ¬ Z a j) : M'.2.2.1 a j = M.2.2.1 a j := (h.2.2 a j l z).2.2
theorem FG.lw (h : FG Z M M') (l : a < 259) : a < ln M := by have := h.1; omega
theorem FG.of2 (hl : 259 ≤ ln M) (h2 : M'.2 = M.2) (f : ∀ a j, ¬ Z a j → M'.1 a j = M.1 a j) : FG Z M M' := ⟨hl, fun a q e => by rw [congrArg (fun z => z.2.2) h2]; exact e, fun a j _ z => ⟨f a j z, by rw [congrArg (fun z => z.1) h2], by rw [congrArg (fun z => z.2.1) h2]⟩⟩
theorem zFl.fg (h : zFl κ M M') (hl : 259 ≤ ln M) : FG (fun a j => inW W_y a j = true ∨ (κ 12 0 = 1 ∧ (a = κ 8 0 ∨ a = κ 8 1 ∨ a = κ 8 2))) M M' := FG.of2 hl h.1 fun a j z => by
  have z1 : inW W_y a j = false := by
    cases y : inW W_y a j with
    | true => exact absurd (Or.inl y) z
    | false => rfl
  exact h.2 a j z1 (fun u w => z (Or.inr ⟨u, Or.inl w⟩)) (fun u w => z (Or.inr ⟨u, Or.inr (Or.inl w)⟩)) (fun u w => z (Or.inr ⟨u, Or.inr (Or.inr w)⟩))
theorem zRl.fg (h : zRl e M M') (hl : 259 ≤ ln M) : FG (fun a j => inW W_l a j = true ∧ ¬ ((a = 216 ∨ a = 217 ∨ a = 218) ∧ ((j : Int) < 1000 * e.1 29 0 0 ∨ 1000 * e.1 29 0 0 + 1000 ≤ j ∨ e.1 10 0 0 ≠ 1))) M M' := FG.of2 hl h.1 fun a j z => by
  cases y : inW W_l a j with
  | true =>
    by_cases w : (a = 216 ∨ a = 217 ∨ a = 218) ∧ ((j : Int) < 1000 * e.1 29 0 0 ∨ 1000 * e.1 29 0 0 + 1000 ≤ j ∨ e.1 10 0 0 ≠ 1)
    · exact h.2.2 a j w.1 w.2
    · exact absurd ⟨y, w⟩ z
  | false => exact h.2.1 a j y
theorem FN.fg (h : FN N W M M') : FG (fun a j => (a < 259 ∧ inW W a j = true) ∨ N ≤ a) M M' := by
  obtain ⟨⟨h1, h2, c, t, f⟩, h3, h4, h5⟩ := h
  refine ⟨by omega, fun a q e => f.kd e, fun a j l z => ?_⟩
  have nn : ¬ N ≤ a := fun w => z (Or.inr w)
  by_cases y : a < 259
  · have z1 : inW W a j = false := by
      cases y2 : inW W a j with
      | true => exact absurd (Or.inl ⟨y, y2⟩) z
      | false => rfl
    exact ⟨h4 a j y z1, h5 a j y z1, h3 a j y⟩
  · have := fun (w : a < 259 ∨ N ≤ a) => w.elim y nn
    exact ⟨f.i l this j, f.l l this j, f.p l this j⟩
theorem FG.sI {v : Int32} (h : FG Z M M') (z : Z a j) : FG Z M (sI M' a j v) := ⟨h.1, h.2.1, fun b i l y => ⟨by
  by_cases w : b = a ∧ i = j
  · exact absurd (by rw [w.1, w.2]; exact z) y
  · refine Eq.trans ?_ (h.i l y)
    by_cases w1 : b = a
    · exact sI_nej fun w2 => w ⟨w1, w2⟩
    · exact sI_ne w1, h.l l y, h.pt l y⟩⟩
theorem FG.sP {v : Option Nat} (h : FG Z M M') (z : Z a j) : FG Z M (sP M' a j v) := ⟨h.1, h.2.1, fun b i l y => ⟨h.i l y, h.l l y, by
  by_cases w : b = a ∧ i = j
  · exact absurd (by rw [w.1, w.2]; exact z) y
  · refine Eq.trans ?_ (h.pt l y)
    by_cases w1 : b = a
    · rw [w1]; exact sP_nej fun w2 => w ⟨w1, w2⟩
    · exact sP_ne w1⟩⟩
theorem CT.fg (h : CT M) (f : FG Z M M') (w : ∀ a j, a < 259 → (∃ q, (a, j, q) ∈ CFd) → ¬ Z a j) : CT M' := ⟨fun q e => f.2.1 _ _ (h.1 q e), fun q e => by
  have l : ∀ q, q ∈ CFd → q.1 < 259 := by decide
  exact (f.pt (f.lw (l q e)) (w _ _ (l q e) ⟨q.2.2, e⟩)).trans (h.2 q e)⟩
theorem RT.fg (h : RT M) (f : FG Z M M') (w : ∀ j, (∃ q, (j, q) ∈ RFd) → ¬ Z 160 j) : RT M' := ⟨fun q e => f.2.1 _ _ (h.1 q e), fun q e => (f.pt (f.lw (by decide)) (w _ ⟨q.2, e⟩)).trans (h.2 q e)⟩
theorem OldOK.fg {xs : Nat → Int32} (h : OldOK L xs M) (f : FG Z M M') (w : ∀ a j, a < 64 → ¬ Z a j) : OldOK L xs M' := ⟨fun a p => f.2.1 _ _ (h.1 a p), fun a j p => (f.i (f.lw (by omega)) (w a j p)).trans (h.2 a j p)⟩
theorem rng_1 (h : rng lo hi a = 1) : lo ≤ a ∧ a < hi := by
  by_cases y : lo ≤ a ∧ a < hi
  · exact y
  · unfold rng at h
    rw [if_neg y] at h
    cases h
theorem Ls.fg (h : Ls M (rng lo hi) L C n 1) (f : FG Z M M') (w : ∀ a j, lo ≤ a → a < hi → ¬ Z a j) : Ls M' (rng lo hi) L C n 1 := by
  obtain ⟨⟨h1, h2, h3, h4⟩, h5, h6, D, cap, h7, h8, h9, h10⟩ := h
  have l1 := ln_lt h2
  have r1 := rng_1 h3
  refine ⟨⟨h1, f.2.1 _ _ h2, h3, h4⟩, (f.i l1 (w _ _ r1.1 r1.2)).trans h5, fun j p q => ?_, D, cap, (f.pt l1 (w _ _ r1.1 r1.2)).trans h7, ?_, h9, fun j p q => ?_⟩
  · obtain ⟨z, z1, z2⟩ := h6 j p q
    exact ⟨z, f.2.1 _ _ z1, z2⟩
  · rcases h8 with ⟨e1, e2, e3⟩ | ⟨e1, e2, e3, e4⟩
    · exact Or.inl ⟨e1, e2, f.2.1 _ _ e3⟩
    · exact Or.inr ⟨e1, f.2.1 _ _ e2, e3, e4⟩
  · rcases h8 with ⟨e1, e2, e3⟩ | ⟨e1, e2, e3, e4⟩
    · omega
    · have r2 := rng_1 e3
      exact (f.pt (ln_lt e2) (w _ _ r2.1 r2.2)).trans (h10 j p q)
theorem PtI.fg {k : Nat} {H : HG} {i : Int} (h : PtI lo hi M H k i) (f : FG Z M M') (w : ∀ a j, lo ≤ a → a < hi → ¬ Z a j) : PtI lo hi M' H k i := by
  obtain ⟨⟨h1, h2, h3⟩, h4, h5⟩ := h
  have l := ln_lt h1
  exact ⟨⟨f.2.1 _ _ h1, h2, h3⟩, fun y a b => (f.i l (w _ _ h2 h3)).trans (h4 y a b), (f.l l (w _ _ h2 h3)).trans h5⟩
theorem UtI.fg {H : HG} {i : Int} (h : UtI lo hi M H i) (f : FG Z M M') (w : ∀ a j, lo ≤ a → a < hi → ¬ Z a j) : UtI lo hi M' H i := by
  obtain ⟨⟨h1, h2, h3⟩, h4, h5, h6⟩ := h
  have l := ln_lt h1
  refine ⟨⟨f.2.1 _ _ h1, h2, h3⟩, fun y a b c d => (f.i l (w _ _ h2 h3)).trans (h4 y a b c d), (f.l l (w _ _ h2 h3)).trans h5, fun s hs => ?_⟩
  obtain ⟨⟨a1, a2, a3, a4⟩, a5⟩ := h6 s hs
  exact ⟨⟨(f.pt l (w _ _ h2 h3)).trans a1, f.2.1 _ _ a2, a3, a4⟩, fun y z => (f.i (ln_lt a2) (w _ _ a3 a4)).trans (a5 y z)⟩
theorem PkC.fg (h : PkC p g M) (hP : PkP g) (f : FG Z M M') (w : ∀ a j, Z a j → gL g ≤ a → a < gX g + 18 → pkZ (gX g) a j) : PkC p g M' := by
  obtain ⟨⟨⟨o1, o2, o3⟩, o4, ⟨o5, o6, o7⟩, o8, o9, o10, o11⟩, ⟨r1, r2, r3, r4, ⟨r5, r6⟩, r7, r8⟩, ⟨k1, k2, k3⟩, hL, hT, hU⟩ := h
  have lx := ln_lt o1
  have gl := hP.2.2
  have z : ∀ a j, gL g ≤ a → a < gX g → ¬ Z a j := fun a j p q y => by
    have := w a j y p (by omega)
    unfold pkZ at this; omega
  have zx : ∀ j, ¬ (13 ≤ j ∧ j ≤ 17) → ¬ Z (gX g) j := fun j q y => by
    have := w _ j y gl.2 (by omega)
    unfold pkZ at this; omega
  have z1 : ∀ k j, k = 1 ∨ k = 2 ∨ k = 3 ∨ k = 5 ∨ k = 7 ∨ k = 12 → ¬ Z (gX g + k) j := fun k j q y => by
    have := w _ j y (by omega) (by omega)
    unfold pkZ at this; omega
  have ar : ∀ {k n f'}, k = 1 ∨ k = 2 ∨ k = 3 ∨ k = 5 ∨ k = 7 ∨ k = 12 → Ar M (gX g + k) n f' → Ar M' (gX g + k) n f' := fun q y => ⟨f.2.1 _ _ y.1, fun j q2 => (f.i (ln_lt y.1) (z1 _ j q)).trans (y.2 j q2)⟩
  refine ⟨⟨⟨f.2.1 _ _ o1, (f.i lx (zx _ (by decide))).trans o2, (f.i lx (zx _ (by decide))).trans o3⟩, fun k a b => (f.pt lx (zx _ (by omega))).trans (o4 k a b), ⟨(f.pt lx (zx _ (by decide))).trans o5, (f.pt lx (zx _ (by decide))).trans o6, (f.pt lx (zx _ (by decide))).trans o7⟩, (f.pt lx (zx _ (by decide))).trans o8, (f.pt lx (zx _ (by decide))).trans o9, (f.pt lx (zx _ (by decide))).trans o10, (f.pt lx (zx _ (by decide))).trans o11⟩, ⟨ar (by decide) r1, ar (by decide) r2, ar (by decide) r3, ar (by decide) r4, ⟨f.2.1 _ _ r5, fun i a => ⟨(f.pt (ln_lt r5) (z1 _ _ (by decide))).trans (r6 i a).1, f.2.1 _ _ (r6 i a).2⟩⟩, f.2.1 _ _ r7, fun i a => ⟨(f.pt (ln_lt r7) (z1 _ _ (by decide))).trans (r8 i a).1, f.2.1 _ _ (r8 i a).2⟩⟩, ⟨f.2.1 _ _ k1, f.2.1 _ _ k2, f.2.1 _ _ k3⟩, fun k a b => (hL k a b).fg f z, fun k a b j c d => (hT k a b j c d).fg f z, fun j a b => (hU j a b).fg f z⟩
theorem PkR.fg (h : PkR p g M) (f : FG Z M M') (w : ∀ a j, Z a j → a ≠ 208 ∧ (a < 162 ∨ 193 < a ∨ a = 183)) : PkR p g M' := by
  obtain ⟨⟨h1, h2⟩, ⟨h3, h4⟩, h5, h6⟩ := h
  have z : ∀ a j, a = 208 ∨ (162 ≤ a ∧ a ≤ 193 ∧ a ≠ 183) → ¬ Z a j := fun a j q y => by
    have := w a j y; omega
  have i : ∀ a j, a = 208 ∨ (162 ≤ a ∧ a ≤ 193 ∧ a ≠ 183) → M'.1 a j = M.1 a j := fun a j q => f.i (f.lw (by omega)) (z a j q)
  have t1 : ∀ q, q ∈ rTI → q.1 = 208 ∨ (162 ≤ q.1 ∧ q.1 ≤ 193 ∧ q.1 ≠ 183) := by decide
  have t2 : ∀ q, q ∈ rTL → q.1 = 208 ∨ (162 ≤ q.1 ∧ q.1 ≤ 193 ∧ q.1 ≠ 183) := by decide
  refine ⟨⟨fun q e j a b => (i _ _ (t1 q e)).trans (h1 q e j a b), fun q e j a b => (f.l (f.lw (by have := t2 q e; omega)) (z _ _ (t2 q e))).trans (h2 q e j a b)⟩, ⟨(i _ _ (by decide)).trans h3, (i _ _ (by decide)).trans h4⟩, fun j a b => ?_, fun k a b => (i _ _ (by decide)).trans (h6 k a b)⟩
  obtain ⟨a1, a2, a3⟩ := h5 j a b
  exact ⟨(i _ _ (by decide)).trans a1, (i _ _ (by decide)).trans a2, (i _ _ (by decide)).trans a3⟩
end S9bu
