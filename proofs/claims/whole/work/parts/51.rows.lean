/-! the reference's rows of a parcel -/
/-- numbers and texts of units (1), members (2), CASES (3) and properties (4): f = 0 how many -/
abbrev RG : Type := (Nat → Nat → Int → Int) × (Nat → Int → Int64)
/-- a row: cell, how many places a parcel has in it, whose, which number -/
def rTI : List (Nat × Int × Nat × Nat) := [(162, 1, 1, 0), (164, 8, 1, 5), (165, 8, 1, 7), (167, 8, 1, 9), (166, 24, 1, 6), (168, 24, 1, 8), (169, 1, 2, 0), (171, 96, 2, 1), (172, 96, 2, 2), (173, 96, 2, 3), (174, 96, 2, 4), (175, 96, 2, 5), (176, 1, 3, 0), (178, 16, 3, 1), (179, 16, 3, 4), (180, 16, 3, 6), (181, 16, 3, 7), (182, 16, 3, 5), (184, 1, 4, 0), (208, 6, 4, 1), (186, 6, 4, 4), (187, 6, 4, 5)]
def rTL : List (Nat × Int × Nat) := [(163, 8, 1), (170, 96, 2), (177, 16, 3), (185, 6, 4)]
/-- what stands in the rows of parcel p -/
def RR (M : Mem) (p : Int) (R : RG) : Prop := (∀ q, q ∈ rTI → ∀ j, 0 ≤ j → j < q.2.1 → M.1 q.1 (q.2.1 * p + j).toNat = iI (R.1 q.2.2.1 q.2.2.2 j)) ∧ ∀ q, q ∈ rTL → ∀ j, 0 ≤ j → j < q.2.1 → M.2.1 q.1 (q.2.1 * p + j).toNat = R.2 q.2.2 j
/-- the other parcels' rows -/
def KP (p : Int) (M M' : Mem) : Prop := ∀ p' R, 0 ≤ p' → p' ≠ p → RR M p' R → RR M' p' R
def rsF (R : RG) (k f : Nat) (j v : Int) : RG := (fun k' f' j' => if k' = k ∧ f' = f ∧ j' = j then v else R.1 k' f' j', R.2)
def rsX (R : RG) (k : Nat) (j : Int) (x : Int64) : RG := (R.1, fun k' j' => if k' = k ∧ j' = j then x else R.2 k' j')
section S51
variable {M M' M2 : Mem} {p p' v j0 i : Int} {R : RG} {W : List (Nat × Nat)} {c st : Nat} {k f : Nat} {x : Int64}
theorem stride_ne {s p p' j j0 : Int} (h : p' ≠ p) (h1 : 0 ≤ j ∧ j < s) (h2 : 0 ≤ j0 ∧ j0 < s) : s * p' + j ≠ s * p + j0 := fun e => by
  have hs : 0 < s := by omega
  rcases Int.lt_trichotomy p' p with c | c | c
  · have := Int.mul_le_mul_of_nonneg_left (show p' + 1 ≤ p by omega) (Int.le_of_lt hs)
    rw [Int.mul_add, Int.mul_one] at this
    omega
  · exact h c
  · have := Int.mul_le_mul_of_nonneg_left (show p + 1 ≤ p' by omega) (Int.le_of_lt hs)
    rw [Int.mul_add, Int.mul_one] at this
    omega
theorem stride_nn {s p j : Int} (hp : 0 ≤ p) (h1 : 0 ≤ j ∧ j < s) : 0 ≤ s * p + j := by
  have := Int.mul_nonneg (show 0 ≤ s by omega) hp
  omega
theorem RR.fr (h : RR M p R) (f : Fr W M M2) (w : ∀ z, z ∈ W → (∀ q, q ∈ rTI → q.1 ≠ z.1) ∧ ∀ q, q ∈ rTL → q.1 ≠ z.1) : RR M2 p R := ⟨fun q e j a b => (f.c _ (fun z y => fun e2 => (w z y).1 q e e2.symm) _).trans (h.1 q e j a b), fun q e j a b => (f.lc _ (fun z y => fun e2 => (w z y).2 q e e2.symm) _).trans (h.2 q e j a b)⟩
theorem RR.ex : ∃ R, RR M p R := ⟨(fun k f j => (((rTI.find? fun q => q.2.2.1 == k && q.2.2.2 == f).map fun q => (M.1 q.1 (q.2.1 * p + j).toNat).toInt).getD 0), fun k j => (((rTL.find? fun q => q.2.2 == k).map fun q => M.2.1 q.1 (q.2.1 * p + j).toNat).getD 0)), fun q e j _ _ => by
  have h : ∀ q, q ∈ rTI → (rTI.find? fun z => z.2.2.1 == q.2.2.1 && z.2.2.2 == q.2.2.2) = some q := by decide
  dsimp only
  rw [h q e]
  exact (iI_eta _).symm, fun q e j _ _ => by
  have h : ∀ q, q ∈ rTL → (rTL.find? fun z => z.2.2 == q.2.2) = some q := by decide
  dsimp only
  rw [h q e]
  rfl⟩
/-- a number is written -/
theorem RR.sI (h : RR M p R) (hp : 0 ≤ p) (e : (c, (st : Int), k, f) ∈ rTI) (hj : 0 ≤ j0 ∧ j0 < st) (hi : i = st * p + j0) : RR (sI M c i.toNat (iI v)) p (rsF R k f j0 v) := by
  have u1 : ∀ q, q ∈ rTI → ∀ z, z ∈ rTI → (q.1 = z.1 ↔ q.2.2 = z.2.2) := by decide
  have u2 : ∀ q, q ∈ rTI → ∀ z, z ∈ rTI → q.1 = z.1 → q = z := by decide
  refine ⟨fun q e2 j a b => ?_, fun q e2 j a b => h.2 q e2 j a b⟩
  show _ = iI (if q.2.2.1 = k ∧ q.2.2.2 = f ∧ j = j0 then v else R.1 q.2.2.1 q.2.2.2 j)
  by_cases y : q.1 = c
  · have e3 := u2 q e2 _ e y
    subst e3
    dsimp only at a b ⊢
    by_cases y2 : j = j0
    · rw [if_pos ⟨rfl, rfl, y2⟩, y2, hi]
      exact sI_eq
    · rw [if_neg fun z => y2 z.2.2]
      have n1 := stride_nn hp ⟨a, b⟩
      have n2 := stride_nn hp hj
      exact (sI_nej (by omega)).trans (h.1 _ e2 j a b)
  · rw [if_neg fun z => y ((u1 q e2 _ e).2 (by rw [Prod.ext_iff]; exact ⟨z.1, z.2.1⟩))]
    exact (sI_ne y).trans (h.1 q e2 j a b)
theorem RR.sL (h : RR M p R) (hp : 0 ≤ p) (e : (c, (st : Int), k) ∈ rTL) (hj : 0 ≤ j0 ∧ j0 < st) (hi : i = st * p + j0) : RR (sL M c i.toNat x) p (rsX R k j0 x) := by
  have u1 : ∀ q, q ∈ rTL → ∀ z, z ∈ rTL → (q.1 = z.1 ↔ q.2.2 = z.2.2) := by decide
  have u2 : ∀ q, q ∈ rTL → ∀ z, z ∈ rTL → q.1 = z.1 → q = z := by decide
  refine ⟨fun q e2 j a b => h.1 q e2 j a b, fun q e2 j a b => ?_⟩
  show _ = if q.2.2 = k ∧ j = j0 then x else R.2 q.2.2 j
  by_cases y : q.1 = c
  · have e3 := u2 q e2 _ e y
    subst e3
    dsimp only at a b ⊢
    by_cases y2 : j = j0
    · rw [if_pos ⟨rfl, y2⟩, y2, hi]
      exact sL_eq
    · rw [if_neg fun z => y2 z.2]
      have n1 := stride_nn hp ⟨a, b⟩
      have n2 := stride_nn hp hj
      exact (sL_nej (by omega)).trans (h.2 _ e2 j a b)
  · rw [if_neg fun z => y ((u1 q e2 _ e).2 z.1)]
    exact (sL_ne y).trans (h.2 q e2 j a b)
theorem KP.r : KP p M M := fun _ _ _ _ h => h
theorem KP.tr (h : KP p M M') (g : KP p M' M2) : KP p M M2 := fun p' R a b z => g p' R a b (h p' R a b z)
theorem KP.fr (h : KP p M M') (f : Fr W M' M2) (w : ∀ z, z ∈ W → (∀ q, q ∈ rTI → q.1 ≠ z.1) ∧ ∀ q, q ∈ rTL → q.1 ≠ z.1) : KP p M M2 := fun p' R a b z => (h p' R a b z).fr f w
theorem KP.sI {w : Int32} (h : KP p M M') (hp : 0 ≤ p) (e : (c, (st : Int), k, f) ∈ rTI) (hj : 0 ≤ j0 ∧ j0 < st) (hi : i = st * p + j0) : KP p M (sI M' c i.toNat w) := fun p' R a b z => by
  have u2 : ∀ q, q ∈ rTI → ∀ z, z ∈ rTI → q.1 = z.1 → q = z := by decide
  have g := h p' R a b z
  refine ⟨fun q e2 j a2 b2 => ?_, fun q e2 j a2 b2 => g.2 q e2 j a2 b2⟩
  by_cases y : q.1 = c
  · have e3 := u2 q e2 _ e y
    subst e3
    have n0 := stride_ne b ⟨a2, b2⟩ hj
    have n1 := stride_nn a ⟨a2, b2⟩
    have n2 := stride_nn hp hj
    dsimp only at n0 n1 ⊢
    exact (sI_nej (by omega)).trans (g.1 _ e2 j a2 b2)
  · exact (sI_ne y).trans (g.1 q e2 j a2 b2)
theorem KP.sL {w : Int64} (h : KP p M M') (hp : 0 ≤ p) (e : (c, (st : Int), k) ∈ rTL) (hj : 0 ≤ j0 ∧ j0 < st) (hi : i = st * p + j0) : KP p M (sL M' c i.toNat w) := fun p' R a b z => by
  have u2 : ∀ q, q ∈ rTL → ∀ z, z ∈ rTL → q.1 = z.1 → q = z := by decide
  have g := h p' R a b z
  refine ⟨fun q e2 j a2 b2 => g.1 q e2 j a2 b2, fun q e2 j a2 b2 => ?_⟩
  by_cases y : q.1 = c
  · have e3 := u2 q e2 _ e y
    subst e3
    have n0 := stride_ne b ⟨a2, b2⟩ hj
    have n1 := stride_nn a ⟨a2, b2⟩
    have n2 := stride_nn hp hj
    dsimp only at n0 n1 ⊢
    exact (sL_nej (by omega)).trans (g.2 _ e2 j a2 b2)
  · exact (sL_ne y).trans (g.2 q e2 j a2 b2)
/-- one place of a row -/
theorem RR.gi (h : RR M p R) (e : (c, (st : Int), k, f) ∈ rTI) (hj : 0 ≤ j0 ∧ j0 < st) (hi : i = st * p + j0) : M.1 c i.toNat = iI (R.1 k f j0) := by rw [hi]; exact h.1 _ e j0 hj.1 hj.2
theorem RR.gl (h : RR M p R) (e : (c, (st : Int), k) ∈ rTL) (hj : 0 ≤ j0 ∧ j0 < st) (hi : i = st * p + j0) : M.2.1 c i.toNat = R.2 k j0 := by rw [hi]; exact h.2 _ e j0 hj.1 hj.2
end S51
