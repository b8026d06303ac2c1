/-! what a parcel that is read becomes in the class: its units, members, CASES and properties -/
/-- of the cells that stood below 259 only numbers of W have changed; of those from 259 on, none that stood when N did -/
def FN (N : Nat) (W : List (Nat × Nat)) (M M' : Mem) : Prop := (259 ≤ N ∧ N ≤ ln M ∧ ∃ c t, Fo (fun a => a < 259 ∨ N ≤ a) c t M M') ∧ (∀ a j, a < 259 → M'.2.2.1 a j = M.2.2.1 a j) ∧ (∀ a j, a < 259 → inW W a j = false → M'.1 a j = M.1 a j) ∧ ∀ a j, a < 259 → inW W a j = false → M'.2.1 a j = M.2.1 a j
/-- the numbers below 259 of another memory -/
def lowm (M M' : Mem) : Mem := (fun a j => cond (Nat.ble a 258) (M'.1 a j) (M.1 a j), fun a j => cond (Nat.ble a 258) (M'.2.1 a j) (M.2.1 a j), M.2.2)
/-- whose a cell is; the lists; their things, how many; numbers and texts of them; the arrays of the units and what is in them -/
abbrev HG : Type := (Nat → Int) × (Nat → Nat) × (Nat → Int → Nat) × (Nat → Int) × (Nat → Nat → Int → Int) × (Nat → Int → Int64) × (Nat → Int → Nat) × (Nat → Int → Nat → Int)
def hOw (H : HG) : Nat → Int := H.1
def hCL (H : HG) : Nat → Nat := H.2.1
def hEC (H : HG) : Nat → Int → Nat := H.2.2.1
def hEN (H : HG) : Nat → Int := H.2.2.2.1
def hEF (H : HG) : Nat → Nat → Int → Int := H.2.2.2.2.1
def hEX (H : HG) : Nat → Int → Int64 := H.2.2.2.2.2.1
def hUA (H : HG) : Nat → Int → Nat := H.2.2.2.2.2.2.1
def hAV (H : HG) : Nat → Int → Nat → Int := H.2.2.2.2.2.2.2
/-- thing j of list k: a member, a CASE or a property -/
def PtK (M : Mem) (H : HG) (k : Nat) (j : Int) : Prop := (M.2.2.2[hEC H k j]? = some (8, 9) ∧ hOw H (hEC H k j) = 1000 * k + j ∧ 259 ≤ hEC H k j) ∧ (∀ f, 1 ≤ f → f ≤ 8 → M.1 (hEC H k j) f = iI (hEF H k f j)) ∧ M.2.1 (hEC H k j) 0 = hEX H k j
/-- unit j -/
def UtK (M : Mem) (H : HG) (j : Int) : Prop := (M.2.2.2[hEC H 1 j]? = some (11, 10) ∧ hOw H (hEC H 1 j) = 1000 + j ∧ 259 ≤ hEC H 1 j) ∧ (∀ f, 1 ≤ f → f ≤ 9 → f ≠ 6 → f ≠ 8 → M.1 (hEC H 1 j) f = iI (hEF H 1 f j)) ∧ M.2.1 (hEC H 1 j) 0 = hEX H 1 j ∧ ∀ s, s < 2 → (M.2.2.1 (hEC H 1 j) (6 + 2 * s) = some (hUA H s j) ∧ M.2.2.2[hUA H s j]? = some (100, 3) ∧ hOw H (hUA H s j) = 5000 + 1000 * s + j ∧ 259 ≤ hUA H s j) ∧ ∀ i, i < 3 → M.1 (hUA H s j) i = iI (hAV H s j i)
/-- all of it; N cells and T places stood before; ex more than is accounted for -/
def HS (N T ex : Nat) (M : Mem) (H : HG) : Prop := ((259 ≤ N ∧ N ≤ ln M) ∧ (∀ a, a < N → hOw H a = 0) ∧ (∀ k, 1 ≤ k → k ≤ 4 → M.2.2.1 65 k = some (hCL H k)) ∧ ((ln M : Int) ≤ N + 4 + 4 * hEN H 1 + 2 * (hEN H 2 + hEN H 3 + hEN H 4) + ex ∧ (tot M.2.2.2 : Int) ≤ T + 12 + 168 * hEN H 1 + 136 * (hEN H 2 + hEN H 3 + hEN H 4) + 16 * ex)) ∧ (∀ k, 1 ≤ k → k ≤ 4 → Ls M (hOw H) (hCL H k) (hEC H k) (hEN H k) k) ∧ (∀ k, 2 ≤ k → k ≤ 4 → ∀ j, 0 ≤ j → j < hEN H k → PtK M H k j) ∧ ∀ j, 0 ≤ j → j < hEN H 1 → UtK M H j
/-- a role that nothing has -/
def fre (H : HG) (r : Int) : Prop := (∀ k : Nat, 1 ≤ k → k ≤ 4 → r ≠ k ∧ ∀ j, 0 ≤ j → j < hEN H k → r ≠ 1000 * k + j) ∧ ∀ j, 0 ≤ j → j < hEN H 1 → r ≠ 5000 + j ∧ r ≠ 6000 + j
def wOw (H : HG) (ow : Nat → Int) : HG := (ow, H.2)
section S50c
variable {N T ex ex' cc tt k x : Nat} {W W' : List (Nat × Nat)} {M M' M2 : Mem} {H : HG} {Z : Nat → Prop} {a j : Nat} {q : Nat × Nat}
theorem FN.lo (h : FN N W M M') : Fr W M (lowm M M') := ⟨rfl, fun a j e => by
  show cond (Nat.ble a 258) (M'.1 a j) (M.1 a j) = M.1 a j
  cases g : Nat.ble a 258 with
  | true => exact h.2.2.1 a j (by have := Nat.le_of_ble_eq_true g; omega) e
  | false => rfl, fun a j e => by
  show cond (Nat.ble a 258) (M'.2.1 a j) (M.2.1 a j) = M.2.1 a j
  cases g : Nat.ble a 258 with
  | true => exact h.2.2.2 a j (by have := Nat.le_of_ble_eq_true g; omega) e
  | false => rfl⟩
theorem FN.i (h : FN N W M M') (a j : Nat) (q : inW W a j = false ∧ a < 259) : M'.1 a j = M.1 a j := h.2.2.1 a j q.2 q.1
theorem FN.l (h : FN N W M M') (a j : Nat) (q : inW W a j = false ∧ a < 259) : M'.2.1 a j = M.2.1 a j := h.2.2.2 a j q.2 q.1
theorem FN.c (h : FN N W M M') (a : Nat) (q : (∀ z, z ∈ W → z.1 ≠ a) ∧ a < 259) (j : Nat) : M'.1 a j = M.1 a j := h.2.2.1 a j q.2 (inW_n q.1 j)
theorem FN.lc (h : FN N W M M') (a : Nat) (q : (∀ z, z ∈ W → z.1 ≠ a) ∧ a < 259) (j : Nat) : M'.2.1 a j = M.2.1 a j := h.2.2.2 a j q.2 (inW_n q.1 j)
theorem FN.p (h : FN N W M M') (a j : Nat) (q : a < 259) : M'.2.2.1 a j = M.2.2.1 a j := h.2.1 a j q
theorem FN.kd (h : FN N W M M') (e : M.2.2.2[a]? = some q) : M'.2.2.2[a]? = some q := by
  obtain ⟨c, t, f⟩ := h.1.2.2
  exact f.kd e
theorem FN.tr (h : FN N W M M') (g : FN N W M' M2) : FN N W M M2 := by
  obtain ⟨⟨h1, h2, c, t, f⟩, h3, h4, h5⟩ := h
  obtain ⟨⟨-, -, c', t', f'⟩, g3, g4, g5⟩ := g
  exact ⟨⟨h1, h2, _, _, f.tr f'⟩, fun a j p => (g3 a j p).trans (h3 a j p), fun a j p e => (g4 a j p e).trans (h4 a j p e), fun a j p e => (g5 a j p e).trans (h5 a j p e)⟩
theorem FN.z (h : 259 ≤ N ∧ N ≤ ln M) : FN N W M M := ⟨⟨h.1, h.2, 0, 0, Fo.z⟩, fun _ _ _ => rfl, fun _ _ _ _ => rfl, fun _ _ _ _ => rfl⟩
theorem FN.m (h : FN N W' M M') (g : ∀ q, q ∈ W' → q ∈ W) : FN N W M M' := ⟨h.1, h.2.1, fun a j p e => h.2.2.1 a j p (inW_m g e), fun a j p e => h.2.2.2 a j p (inW_m g e)⟩
theorem Fr.lq (f : Fr W M M') : ln M' = ln M := congrArg List.length f.k
theorem inW_w {b i : Nat} (w : ∀ z, z ∈ W → z.1 < 259) (h : 259 ≤ b) : inW W b i = false := inW_n (fun z y e => by have := w z y; omega) i
theorem Fr.fo (f : Fr W M M') (w : ∀ z, z ∈ W → z.1 < 259) : Fo (fun a => a < 259) 0 0 M M' := ⟨⟨Nat.le_of_eq f.lq.symm, Nat.le_of_eq f.lq, by rw [f.k]; exact Nat.le_refl _, fun a _ => by rw [f.k]⟩, fun a _ z j => ⟨f.i _ _ (inW_w w (by omega)), f.l _ _ (inW_w w (by omega)), by rw [f.p]⟩⟩
theorem Fr.n (f : Fr W M M') (h : 259 ≤ N ∧ N ≤ ln M) (w : ∀ z, z ∈ W → z.1 < 259) : FN N W M M' := ⟨⟨h.1, h.2, 0, 0, (f.fo w).m (fun _ _ z => Or.inl z) (Nat.le_refl _) (Nat.le_refl _)⟩, fun _ _ _ => by rw [f.p], fun a j _ e => f.i a j e, fun a j _ e => f.l a j e⟩
theorem FN.of (h : 259 ≤ N ∧ N ≤ ln M) (f : Fo Z cc tt M M') (hz : ∀ a, a < ln M → Z a → N ≤ a) : FN N W M M' := by
  have k : ∀ a, a < 259 → ¬ Z a := fun a p w => by have := hz a (by omega) w; omega
  exact ⟨⟨h.1, h.2, cc, tt, f.m (fun a p w => Or.inr (hz a p w)) (Nat.le_refl _) (Nat.le_refl _)⟩, fun a j p => f.p (by omega) (k a p) j, fun a j p _ => f.i (by omega) (k a p) j, fun a j p _ => f.l (by omega) (k a p) j⟩
theorem FN.sI {v : Int32} (h : FN N W M M') (q : inW W a j = true ∧ a < 259) : FN N W M (sI M' a j v) := by
  obtain ⟨⟨h1, h2, c, t, f⟩, h3, h4, h5⟩ := h
  refine ⟨⟨h1, h2, _, _, f.tr (Fo.sI (Or.inl q.2))⟩, h3, fun b i p e => ?_, h5⟩
  by_cases y : b = a ∧ i = j
  · rw [y.1, y.2, q.1] at e
    cases e
  · refine Eq.trans ?_ (h4 b i p e)
    by_cases y1 : b = a
    · exact sI_nej fun z => y ⟨y1, z⟩
    · exact sI_ne y1
theorem FN.sL {v : Int64} (h : FN N W M M') (q : inW W a j = true ∧ a < 259) : FN N W M (sL M' a j v) := by
  obtain ⟨⟨h1, h2, c, t, f⟩, h3, h4, h5⟩ := h
  refine ⟨⟨h1, h2, _, _, f.tr (Fo.sL (Or.inl q.2))⟩, h3, h4, fun b i p e => ?_⟩
  by_cases y : b = a ∧ i = j
  · rw [y.1, y.2, q.1] at e
    cases e
  · refine Eq.trans ?_ (h5 b i p e)
    by_cases y1 : b = a
    · exact sL_nej fun z => y ⟨y1, z⟩
    · exact sL_ne y1
theorem FN.len (h : FN N W M M') : N ≤ ln M' := by
  obtain ⟨⟨h1, h2, c, t, f⟩, -⟩ := h
  exact Nat.le_trans h2 f.1.1
theorem CT.fn (h : CT M) (f : FN N W M M') : CT M' := ⟨fun q e => f.kd (h.1 q e), fun q e => by
  have : ∀ q, q ∈ CFd → q.1 < 259 := by decide
  exact (f.p _ _ (this q e)).trans (h.2 q e)⟩
theorem TkA.fn {m : Int} {kd pl : Int → Int} {tx : Int → Int64} (h : TkA M m kd pl tx) (f : FN N W M M') (w : ∀ z, z ∈ W → z.1 ≠ 68 ∧ z.1 ≠ 69 ∧ z.1 ≠ 70) : TkA M' m kd pl tx := by
  have g : TkA (lowm M M') m kd pl tx := h.fr f.lo w
  exact g
theorem CA1.fn {G : Nat → Int → Int} {e : Int} (h : CA1 M G e) (f : FN N W M M') (w : ∀ z, z ∈ W → z.1 ≠ 72 ∧ z.1 ≠ 73 ∧ z.1 ≠ 74) : CA1 M' G e := by
  have g : CA1 (lowm M M') G e := h.fr f.lo w
  exact g
theorem LA.fn {X : Int → Int64} {s : Int} (h : LA 76 M X s) (f : FN N W M M') (w : ∀ z, z ∈ W → z.1 ≠ 76) : LA 76 M' X s := by
  have g : LA 76 (lowm M M') X s := h.fr f.lo w
  exact g
theorem CU.fn {U : Nat → Int → Int} {X : Nat → Int → Int64} {u uc : Int} (h : CU M U X u uc) (f : FN N W M M') (w : ∀ z, z ∈ W → z.1 ≠ 78 ∧ z.1 ≠ 79 ∧ z.1 ≠ 80 ∧ z.1 ≠ 81 ∧ z.1 ≠ 82 ∧ z.1 ≠ 83 ∧ z.1 ≠ 85 ∧ z.1 ≠ 86) : CU M' U X u uc := by
  have g : CU (lowm M M') U X u uc := h.fr f.lo w
  exact g
/-- what changes cells of nobody's, or of a role that nothing has -/
theorem HS.keep {ow : Nat → Int} (h : HS N T ex M H) (f : Fo Z cc tt M M') (hz : ∀ a, a < ln M → Z a → fre H (hOw H a)) (ho : ∀ a, a < ln M → ow a = hOw H a) (hr : ∀ k, 1 ≤ k → k ≤ 4 → M'.2.2.1 65 k = M.2.2.1 65 k) (he : ex + cc ≤ ex' ∧ 16 * ex + tt ≤ 16 * ex') : HS N T ex' M' (wOw H ow) := by
  obtain ⟨⟨h1, h2, h3, h4, h5⟩, h6, h7, h8⟩ := h
  have g1 := f.1.2.1
  have g2 := f.1.2.2.1
  have e1 : hEN (wOw H ow) = hEN H := rfl
  refine ⟨⟨⟨h1.1, Nat.le_trans h1.2 f.1.1⟩, fun a p => (ho a (by omega)).trans (h2 a p), fun k p q => (hr k p q).trans (h3 k p q), ?_, ?_⟩, fun k p q => ?_, fun k p q j p1 q1 => ?_, fun j p q => ?_⟩
  · rw [e1]; omega
  · rw [e1]; omega
  · exact (h6 k p q).fo f (fun a l z => ((hz a l z).1 k p q).1) ho
  · obtain ⟨⟨a1, a2, a3⟩, a4, a5⟩ := h7 k p q j p1 q1
    have l1 := ln_lt a1
    have z1 : ¬ Z (hEC H k j) := fun z => ((hz _ l1 z).1 k (by omega) q).2 j p1 q1 a2
    exact ⟨⟨f.kd a1, (ho _ l1).trans a2, a3⟩, fun y u v => (f.i l1 z1 _).trans (a4 y u v), (f.l l1 z1 _).trans a5⟩
  · obtain ⟨⟨a1, a2, a3⟩, a4, a5, a6⟩ := h8 j p q
    have l1 := ln_lt a1
    have z1 : ¬ Z (hEC H 1 j) := fun z => ((hz _ l1 z).1 1 (by omega) (by omega)).2 j p q (by rw [a2]; rfl)
    refine ⟨⟨f.kd a1, (ho _ l1).trans a2, a3⟩, fun y u v w x => (f.i l1 z1 _).trans (a4 y u v w x), (f.l l1 z1 _).trans a5, fun s p1 => ?_⟩
    obtain ⟨⟨b1, b2, b3, b4⟩, b5⟩ := a6 s p1
    have l2 := ln_lt b2
    have z2 : ¬ Z (hUA H s j) := fun z => by
      have := (hz _ l2 z).2 j p q
      have e3 : s = 0 ∨ s = 1 := by omega
      rcases e3 with e3 | e3 <;> subst e3
      · exact this.1 (by rw [b3]; omega)
      · exact this.2 (by rw [b3]; omega)
    exact ⟨⟨(f.p l1 z1 _).trans b1, f.kd b2, (ho _ l2).trans b3, b4⟩, fun i u => (f.i l2 z2 _).trans (b5 i u)⟩
theorem HS.le (h : HS N T ex M H) (he : ex ≤ ex') : HS N T ex' M H := by
  obtain ⟨⟨h1, h2, h3, h4, h5⟩, h6⟩ := h
  exact ⟨⟨h1, h2, h3, by omega, by omega⟩, h6⟩
theorem fre0 (h : HS N T ex M H) : fre H 0 := ⟨fun k p q => ⟨by omega, fun j _ _ => by omega⟩, fun j _ _ => by omega⟩
/-- numbers below 259 -/
theorem HS.fr (h : HS N T ex M H) (f : Fr W M M') (w : ∀ z, z ∈ W → z.1 < 259) : HS N T ex M' H := by
  have g := (f.fo w)
  have h1 := h.1
  exact h.keep (ow := hOw H) g (fun a l z => by rw [h1.2.1 a (by omega)]; exact fre0 h) (fun _ _ => rfl) (fun k _ _ => by rw [f.p]) (by omega)
end S50c
