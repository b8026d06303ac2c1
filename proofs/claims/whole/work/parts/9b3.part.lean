/-! the reference's machine: a unit begins, what stands in its members -/
section S9b3
variable {d : Nat} {e s s' t u A : ZS} {M M' M1 M2 : Mem} {a b j N x y : Nat} {v v1 v2 v3 w : Int32} {c k i n m p o q id key : Int} {R : Int → RG} {G : RG} {L : Int → Int}
/-- whose unit it is -/
theorem zRE.un (h : zRE e R L M) (hi : zId e id) : 8 * zq id ≤ e.1 3 id 0 ∧ e.1 3 id 0 < 8 * zq id + 8 ∧ (zq id = 0 ∨ zq id = 1) ∧ e.1 3 id 0 - 8 * zq id < e.1 25 (zq id) 0 ∧ (R (zq id)).1 2 1 (id - 96 * zq id) = e.1 3 id 0 - 8 * zq id ∧ (R (zq id)).1 2 2 (id - 96 * zq id) = e.1 4 id 0 ∧ (R (zq id)).1 2 4 (id - 96 * zq id) = e.1 5 id 0 ∧ e.2 0 id 0 = iI (e.1 5 id 0) := by
  obtain ⟨g1, g2, g3, g4, g5⟩ := h.sd hi
  obtain ⟨a1, a2, a3, a4, a5, a6, a7, a8⟩ := h.1 _ g1
  obtain ⟨b1, b2, b3, b4, b5, b6, b7⟩ := a7 _ g3 g4
  rw [← g2] at b2 b3 b4 b5 b7
  clear a6 a7 a8 b6 b7
  exact ⟨by omega, by omega, by omega, by omega, by omega, by omega, by omega, by rw [b5, b4]⟩
/-- a member by its place -/
theorem zRE.of (h : zRE e R L M) (hq : zSd e q) (hm : 0 ≤ m ∧ m < e.1 24 q 0) : zId e (96 * q + m) ∧ zq (96 * q + m) = q := by
  have := (h.1 _ hq).2.2.2.1
  unfold zId zq
  rcases hq with z | ⟨z, -⟩
  · subst z
    rw [if_pos (by omega)]
    exact ⟨Or.inl (by omega), rfl⟩
  · subst z
    rw [if_neg (by omega)]
    exact ⟨Or.inr (by omega), rfl⟩
theorem zRM.init (h : zRM e s M) (hE : zRE e R L M) (hi : zId e id) (hk : key = e.1 3 id 0) (h2 : M'.2 = M.2) (f : ∀ a j, a ≠ 210 → a ≠ 211 → a ≠ 212 → M'.1 a j = M.1 a j) (f0 : ∀ k : Int, 0 ≤ k → k < 16 → M'.1 210 k.toNat = if k = key then iI 1 else M.1 210 k.toNat)
    (f1 : ∀ m, 0 ≤ m → m < e.1 24 (zq id) 0 → (R (zq id)).1 2 1 m = (R (zq id)).1 2 1 (id - 96 * zq id) → ((R (zq id)).1 2 2 m = 1 → M'.1 211 (96 * zq id + m).toNat = iI ((R (zq id)).1 2 4 m)) ∧ ((R (zq id)).1 2 2 m = 3 → ∀ i : Int, 0 ≤ i → i < (R (zq id)).1 2 4 m → M'.1 212 (50 * (96 * zq id + m) + i).toNat = 0))
    (f2 : ∀ x : Int, 0 ≤ x → (∀ m, 0 ≤ m → m < e.1 24 (zq id) 0 → (R (zq id)).1 2 1 m = (R (zq id)).1 2 1 (id - 96 * zq id) → (R (zq id)).1 2 2 m = 1 → x ≠ 96 * zq id + m) → M'.1 211 x.toNat = M.1 211 x.toNat)
    (f3 : ∀ x : Int, 0 ≤ x → (∀ m, 0 ≤ m → m < e.1 24 (zq id) 0 → (R (zq id)).1 2 1 m = (R (zq id)).1 2 1 (id - 96 * zq id) → (R (zq id)).1 2 2 m = 3 → ¬ (50 * (96 * zq id + m) ≤ x ∧ x < 50 * (96 * zq id + m) + (R (zq id)).1 2 4 m)) → M'.1 212 x.toNat = M.1 212 x.toNat) : zRM e (zinit e (zi s 8 key 0 1) key) M' ∧ zRo e M M' := by
  obtain ⟨g0, g1, g2, g3, g4, g5, g6, g7⟩ := h.1
  have o : ∀ a j, a ≠ 210 → a ≠ 211 → a ≠ 212 → M'.1 a j = M.1 a j := f
  have K : ∀ id', (zi s 8 key 0 1).1 8 (e.1 3 id' 0) 0 = 1 → e.1 3 id' 0 ≠ key → s.1 8 (e.1 3 id' 0) 0 = 1 := fun id' z w => by rw [← z]; exact (zi_i w).symm
  have e2 : ∀ k i j, (zinit e (zi s 8 key 0 1) key).2 k i j = if k = 2 ∧ e.1 3 i 0 = key ∧ e.1 4 i 0 = 1 then e.2 0 i 0 else if k = 3 ∧ e.1 3 i 0 = key ∧ e.1 4 i 0 = 3 then 0 else s.2 k i j := fun _ _ _ => rfl
  have W : ∀ k, k ≠ 2 → k ≠ 3 → (zinit e (zi s 8 key 0 1) key).2 k = s.2 k := fun k p1 p2 => by
    funext x y
    rw [e2, if_neg fun z => p1 z.1, if_neg fun z => p2 z.1]
  have F : ∀ k, k ≠ 8 → (zinit e (zi s 8 key 0 1) key).1 k = s.1 k := fun k p => by funext x y; exact zi_k p
  obtain ⟨w1, w2, w3, w4, w5, w6, w7, w8⟩ := hE.un hi
  -- a member of the unit, by its place
  have same : ∀ id', zId e id' → e.1 3 id' 0 = key → zq id' = zq id ∧ 0 ≤ id' - 96 * zq id ∧ id' - 96 * zq id < e.1 24 (zq id) 0 ∧ (R (zq id)).1 2 1 (id' - 96 * zq id) = (R (zq id)).1 2 1 (id - 96 * zq id) ∧ (R (zq id)).1 2 2 (id' - 96 * zq id) = e.1 4 id' 0 ∧ (R (zq id)).1 2 4 (id' - 96 * zq id) = e.1 5 id' 0 ∧ e.2 0 id' 0 = iI (e.1 5 id' 0) ∧ id' = 96 * zq id + (id' - 96 * zq id) := fun id' z1 z2 => by
    obtain ⟨c1, c2, c3, c4, c5, c6, c7, c8⟩ := hE.un z1
    obtain ⟨-, b2, b3, b4, -⟩ := hE.sd z1
    have eq : zq id' = zq id := by omega
    rw [eq] at c5 c6 c7 b2 b3 b4
    exact ⟨eq, b3, b4, by rw [c5, w5]; omega, c6, c7, c8, b2⟩
  have other : ∀ m, 0 ≤ m → m < e.1 24 (zq id) 0 → (R (zq id)).1 2 1 m = (R (zq id)).1 2 1 (id - 96 * zq id) → zId e (96 * zq id + m) ∧ e.1 3 (96 * zq id + m) 0 = key ∧ e.1 4 (96 * zq id + m) 0 = (R (zq id)).1 2 2 m ∧ e.1 5 (96 * zq id + m) 0 = (R (zq id)).1 2 4 m := fun m z1 z2 z3 => by
    obtain ⟨q1, q2⟩ := hE.of (hE.sd hi).1 ⟨z1, z2⟩
    obtain ⟨c1, c2, c3, c4, c5, c6, c7, c8⟩ := hE.un q1
    rw [q2] at c5 c6 c7
    have em : 96 * zq id + m - 96 * zq id = m := by omega
    rw [em] at c5 c6 c7
    exact ⟨q1, by omega, by omega, by omega⟩
  refine ⟨h.glob ⟨g0.keep h2, fun id' p z => ?_, fun id' p z z2 i u w => ?_, fun k p z => ?_, ⟨?_, ?_, ?_, ?_, ?_⟩, fun x p u w => ?_, fun q' p z => ?_, fun x => ?_⟩ (fun a j p => o a j (by omega) (by omega) (by omega)) (fun k p => F k (by omega)) ⟨W 0 (by decide) (by decide), W 1 (by decide) (by decide)⟩, ⟨h2, fun a j p => ?_, fun a j p _ => o a j (by omega) (by omega) (by omega)⟩⟩
  · by_cases y : e.1 3 id' 0 = key ∧ e.1 4 id' 0 = 1
    · rw [e2, if_pos ⟨rfl, y⟩]
      obtain ⟨c1, c2, c3, c4, c5, c6, c7, c8⟩ := same id' p y.1
      have := (f1 _ c2 c3 c4).1 (by omega)
      rw [← c8] at this
      rw [this, c7, c6]
    · rw [e2, if_neg (fun z => y z.2), if_neg (fun z => absurd z.1 (by decide))]
      have b0 := (hE.mb p).1
      rw [f2 id' b0.1 (fun m m1 m2 m3 m4 m5 => by
        obtain ⟨r1, r2, r3, r4⟩ := other m m1 m2 m3
        rw [← m5] at r2 r3
        exact y ⟨r2, by omega⟩)]
      refine g1 id' p ?_
      rcases z with z | ⟨z1, z2⟩
      · exact Or.inl z
      · exact Or.inr ⟨z1, K id' z2 fun w => y ⟨w, z1⟩⟩
  · by_cases y : e.1 3 id' 0 = key
    · rw [e2, if_neg (fun z => absurd z.1 (by decide)), if_pos ⟨rfl, y, z⟩]
      obtain ⟨c1, c2, c3, c4, c5, c6, c7, c8⟩ := same id' p y
      have := (f1 _ c2 c3 c4).2 (by omega) i u (by omega)
      rw [← c8] at this
      exact this
    · rw [e2, if_neg (fun z => absurd z.1 (by decide)), if_neg (fun z => y z.2.1)]
      have b0 := (hE.mb p).1
      have s50 : e.1 5 id' 0 ≤ 50 := by
        obtain ⟨g1', g2', g3', g4', -⟩ := hE.sd p
        obtain ⟨-, -, b3, b4, -, b6, -⟩ := (hE.1 _ g1').2.2.2.2.2.2.1 _ g3' g4'
        rw [← g2'] at b3 b4
        have := b6 (by omega)
        omega
      rw [f3 (50 * id' + i) (by omega) (fun m m1 m2 m3 m4 m5 => by
        obtain ⟨r1, r2, r3, r4⟩ := other m m1 m2 m3
        have b6 := ((hE.1 _ (hE.sd hi).1).2.2.2.2.2.2.1 m m1 m2).2.2.2.2.2.1 m4
        have : id' = 96 * zq id + m := by omega
        rw [← this] at r2
        exact y r2)]
      exact g2 id' p z (K id' z2 y) i u w
  · rw [f0 k p z]
    by_cases y : k = key
    · rw [if_pos y, y]
      exact congrArg iI (zi_e (s := s) (k := 8) (i := key) (j := 0) (v := 1)).symm
    · rw [if_neg y]
      have : (zinit e (zi s 8 key 0 1) key).1 8 k 0 = s.1 8 k 0 := zi_i y
      rw [this]; exact g3 k p z
  · rw [o _ _ (by decide) (by decide) (by decide), W 4 (by decide) (by decide)]; exact g4.1
  · rw [o _ _ (by decide) (by decide) (by decide), F 9 (by decide)]; exact g4.2.1
  · rw [o _ _ (by decide) (by decide) (by decide), F 10 (by decide)]; exact g4.2.2.1
  · rw [o _ _ (by decide) (by decide) (by decide), F 11 (by decide)]; exact g4.2.2.2.1
  · rw [o _ _ (by decide) (by decide) (by decide), F 12 (by decide)]; exact g4.2.2.2.2
  · rw [o _ _ (by decide) (by decide) (by decide), o _ _ (by decide) (by decide) (by decide), o _ _ (by decide) (by decide) (by decide), W 7 (by decide) (by decide), W 8 (by decide) (by decide), F 15 (by decide)]
    exact g5 x p u w
  · obtain ⟨c1, c2, c3⟩ := g6 q' p z
    rw [o _ _ (by decide) (by decide) (by decide), F 17 (by decide), W 12 (by decide) (by decide), W 13 (by decide) (by decide)]
    exact ⟨c1, fun j x y => by rw [o _ _ (by decide) (by decide) (by decide)]; exact c2 j x y, fun j x y => by rw [o _ _ (by decide) (by decide) (by decide)]; exact c3 j x y⟩
  · rw [o _ _ (by decide) (by decide) (by decide), F 11 (by decide), F 14 (by decide), W 9 (by decide) (by decide), W 10 (by decide) (by decide)]
    exact ⟨(g7 x).1, fun t p q => by rw [o _ _ (by decide) (by decide) (by decide), o _ _ (by decide) (by decide) (by decide)]; exact (g7 x).2 t p q⟩
  · exact o a j (fun z => by rw [z, inW_c (by decide)] at p; cases p) (fun z => by rw [z, inW_c (by decide)] at p; cases p) (fun z => by rw [z, inW_c (by decide)] at p; cases p)
end S9b3
