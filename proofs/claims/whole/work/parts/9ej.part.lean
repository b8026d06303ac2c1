/-! a parcel that has been read, in the class: its cells -/
def W_pc : List (Nat × Nat) := [(65, 1), (65, 2), (65, 3), (65, 4)] ++ [(65, 9), (65, 10), (65, 12), (65, 13), (65, 19), (66, 6), (66, 7), (68, 9999), (69, 9999), (70, 9999)] ++ W_cm
/-- cells that a reading changes in the class -/
def Zrd (a j : Nat) : Prop := a < 259 ∧ inW W_pc a j = true
section S9ej
variable {d dl N T ex x : Nat} {o : HO} {M M' M4 M0c Mc Mr : Mem} {LL a j b c t : Nat} {xs : Nat → Int32} {ow : Nat → Int} {H : HG}
theorem rd_fg (h : 259 ≤ ln Mc) (h1 : NLs Mc 4 M4) (h2 : Fr [(65, 9), (65, 10), (65, 12), (65, 13), (65, 19), (66, 6), (66, 7), (68, 9999), (69, 9999), (70, 9999)] M4 M0c) (h3 : FN (ln Mc) W_cm M0c M) : FG Zrd Mc M := by
  obtain ⟨g1, g2, g3, g4, -⟩ := h1
  obtain ⟨⟨f1, f2, cc, tt, f3⟩, f4, f5, f6⟩ := h3
  have k2 : M0c.2.2.2 = M4.2.2.2 := congrArg (fun z => z.2) h2.1
  refine ⟨h, fun a q e => f3.kd (by rw [k2]; exact g1.kd e), fun a j l z => ?_⟩
  have l0 : a < ln M0c := Nat.lt_of_lt_of_le l f2
  have st : ∀ W : List (Nat × Nat), (∀ q, q ∈ W → q ∈ W_pc) → a < 259 → inW W a j = false := fun W w y => by
    cases y2 : inW W_pc a j with
    | true => exact absurd ⟨y, y2⟩ z
    | false => exact inW_m w y2
  have m1 : ∀ q, q ∈ ([(65, 9), (65, 10), (65, 12), (65, 13), (65, 19), (66, 6), (66, 7), (68, 9999), (69, 9999), (70, 9999)] : List (Nat × Nat)) → q ∈ W_pc := by decide +kernel
  have m2 : ∀ q, q ∈ W_cm → q ∈ W_pc := by decide +kernel
  have i1 : inW [(65, 9), (65, 10), (65, 12), (65, 13), (65, 19), (66, 6), (66, 7), (68, 9999), (69, 9999), (70, 9999)] a j = false := by
    by_cases y : a < 259
    · exact st _ m1 y
    · refine inW_n (fun q e => ?_) j
      have g : ∀ q, q ∈ ([(65, 9), (65, 10), (65, 12), (65, 13), (65, 19), (66, 6), (66, 7), (68, 9999), (69, 9999), (70, 9999)] : List (Nat × Nat)) → q.1 < 259 := by decide
      have := g q e
      omega
  have e1 := h2.2.1 a j i1
  have e2 := h2.2.2 a j i1
  have e3 : M0c.2.2.1 a j = M4.2.2.1 a j := by rw [h2.1]
  have p1 := g3 a j l
  have p2 := g4 a j l
  by_cases y : a < 259
  · have i2 := st _ m2 y
    refine ⟨(f5 a j y i2).trans (e1.trans p1.1), (f6 a j y i2).trans (e2.trans p1.2), (f4 a j y).trans (e3.trans (p2 fun w => ?_))⟩
    refine z ⟨y, ?_⟩
    obtain ⟨w1, w2, w3⟩ := w
    have c4 : j = 1 ∨ j = 2 ∨ j = 3 ∨ j = 4 := by omega
    subst w1
    rcases c4 with rfl | rfl | rfl | rfl <;> decide +kernel
  · have nz : ¬ (a < 259 ∨ ln Mc ≤ a) := by omega
    exact ⟨(f3.i l0 nz _).trans (e1.trans p1.1), (f3.l l0 nz _).trans (e2.trans p1.2), (f3.p l0 nz _).trans (e3.trans (p2 fun w => by omega))⟩
theorem HS.room (h : HS N T ex M H) : ln M ≤ N + 1094 + ex ∧ tot M.2.2.2 ≤ T + 62796 + 16 * ex := by
  have n1 := h.n109 (k := 1) (by decide) (by decide)
  have n2 := h.n109 (k := 2) (by decide) (by decide)
  have n3 := h.n109 (k := 3) (by decide) (by decide)
  have n4 := h.n109 (k := 4) (by decide) (by decide)
  have q := h.1.2.2.2
  omega
/-- the parcel's object is made -/
theorem HS.new (h : HS N T ex M H) : HS N T (ex + 2) (nw M 6 18) (wOw H (owx (hOw H) (ln M) 0)) := h.keep (Z := fun _ => False) (Fo.nw (u := 6) (m := 18)) (fun _ _ z => z.elim) (fun a l => if_neg (by omega)) (fun k _ _ => (Fo.nw (Z := fun _ => False) (M := M) (u := 6) (m := 18)).p (Nat.lt_of_lt_of_le (by decide : 65 < 259) (Nat.le_trans h.1.1.1 h.1.1.2)) id k) (by omega)
theorem owx_0 (h : owx ow N 0 a ≠ 0) : a < N := by
  by_cases y : N ≤ a
  · exact absurd (if_pos y) h
  · omega
theorem HS.pk (h : HS N T ex M H) (hx : ∀ a, hOw H a ≠ 0 → a < x) : (∀ k, 1 ≤ k → k ≤ 4 → Ls M (rng N x) (hCL H k) (hEC H k) (hEN H k) 1) ∧ (∀ k, 2 ≤ k → k ≤ 4 → ∀ j, 0 ≤ j → j < hEN H k → PtI N x M H k j) ∧ ∀ j, 0 ≤ j → j < hEN H 1 → UtI N x M H j := by
  have r1 : ∀ a, hOw H a ≠ 0 → rng N x a = 1 := fun a z => if_pos ⟨h.ge z, hx a z⟩
  refine ⟨fun k a b => ?_, fun k a b j p q => ?_, fun j p q => ?_⟩
  · obtain ⟨⟨h1, h2, h3, h4⟩, h5, h6, D, cap, h7, h8, h9, h10⟩ := h.2.1 k a b
    refine ⟨⟨h1, h2, r1 _ (by rw [h3]; omega), h4⟩, h5, h6, D, cap, h7, ?_, h9, h10⟩
    rcases h8 with z | ⟨e1, e2, e3, e4⟩
    · exact Or.inl z
    · exact Or.inr ⟨e1, e2, r1 _ (by rw [e3]; omega), e4⟩
  · obtain ⟨⟨h1, h2, h3⟩, h4, h5⟩ := h.2.2.1 k a b j p q
    have z : hOw H (hEC H k j) ≠ 0 := by rw [h2]; omega
    exact ⟨⟨h1, h.ge z, hx _ z⟩, h4, h5⟩
  · obtain ⟨⟨h1, h2, h3⟩, h4, h5, h6⟩ := h.2.2.2 j p q
    have z : hOw H (hEC H 1 j) ≠ 0 := by rw [h2]; omega
    refine ⟨⟨h1, h.ge z, hx _ z⟩, h4, h5, fun s hs => ?_⟩
    obtain ⟨⟨b1, b2, b3, b4⟩, b5⟩ := h6 s hs
    have z : hOw H (hUA H s j) ≠ 0 := by rw [b3]; omega
    exact ⟨⟨b1, b2, h.ge z, hx _ z⟩, b5⟩
end S9ej
