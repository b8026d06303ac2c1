/-! codes that were read are well shaped for the small machine -/
/-- the codes of a parcel stand in an environment from place O on -/
def zCd (e : ZS) (G : Nat → Int → Int) (E O : Int) : Prop := ((O = 0 ∧ E = e.1 21 0 0) ∨ (O = 1000 ∧ E = e.1 21 1 0)) ∧ (0 ≤ E ∧ E ≤ 1000) ∧ ∀ j, 0 ≤ j → j < E → (e.1 0 (j + O) 0 = G 0 j ∧ e.1 1 (j + O) 0 = G 3 j ∧ e.1 19 (j + O) 0 = G 2 j) ∧ (0 ≤ G 0 j ∧ G 0 j ≤ 29) ∧ (G 0 j = 7 → iI (e.1 18 (j + O) 0) = iI (G 6 j) ∧ 0 ≤ e.1 18 (j + O) 0 ∧ e.1 18 (j + O) 0 ≤ 4) ∧ (j + O = e.1 8 0 0 → iw (G 0 j) ≠ -1)
/-- heights behind a code: 0, then a number, then the end -/
def yx (Y : Nat → Int → Int) (b s : Int) : Nat → Int → Int := fun k t => if t < b then Y k t else if k = 0 then (if t = b then 0 else 1) else if k = 1 then s else if k = 2 then 0 else -1
def ysh (Y : Nat → Int → Int) (O : Int) : Nat → Int → Int := fun k p => if k = 3 then Y 3 (p - O) + O else Y k (p - O)
section S9bp
variable {e : ZS} {G Y : Nat → Int → Int} {E O a b s o n g H S T P p j c s' d' : Int}
theorem iw_v (h : 0 ≤ o ∧ o ≤ 29) (hn : iw o ≠ -1) : (o = 0 ∧ iw o = 0) ∨ ((o = 4 ∨ o = 28 ∨ o = 29) ∧ iw o = 9) ∨ (o = 6 ∧ iw o = 33) ∨ (o = 7 ∧ iw o = 32) ∨ (o = 8 ∧ iw o = 34) ∨ ((10 ≤ o ∧ o ≤ 20) ∧ 10 ≤ iw o ∧ iw o ≤ 20) ∨ ((o = 21 ∨ o = 22) ∧ iw o = 30) ∨ (o = 24 ∧ iw o = 31) := by
  have c : o = 0 ∨ o = 1 ∨ o = 2 ∨ o = 3 ∨ o = 4 ∨ o = 5 ∨ o = 6 ∨ o = 7 ∨ o = 8 ∨ o = 9 ∨ o = 10 ∨ o = 11 ∨ o = 12 ∨ o = 13 ∨ o = 14 ∨ o = 15 ∨ o = 16 ∨ o = 17 ∨ o = 18 ∨ o = 19 ∨ o = 20 ∨ o = 21 ∨ o = 22 ∨ o = 23 ∨ o = 24 ∨ o = 25 ∨ o = 26 ∨ o = 27 ∨ o = 28 ∨ o = 29 := by omega
  rcases c with c | c | c | c | c | c | c | c | c | c | c | c | c | c | c | c | c | c | c | c | c | c | c | c | c | c | c | c | c | c <;> subst c <;> revert hn <;> decide
/-- what an operation does, for an altered one, too -/
theorem opt_zop {nx nx' : Int → Int → Int → Int → Int → Prop} {pr pr' : Int → Int → Prop} {o' n' g' P' p' : Int} (h : OpT nx pr o n g H S T P j) (ho : 0 ≤ o ∧ o ≤ 29) (ha : o' = o ∨ (o' = iw o ∧ iw o ≠ -1)) (hp : p' = j + O) (hn : (o' = 24 ∨ o' = 25 ∨ o' = 26 ∨ o' = 31 → n' = n + O) ∧ (o' = 1 ∨ o' = 2 → n' = n)) (hg : o = 7 → g' = g) (hnx : ∀ t H S T P, nx t H S T P → nx' (t + O) H S T (P + O)) (hpr : ∀ q, pr P q → pr' (P + O) (q + O)) (hP : P' = P + O) (h8 : o = 8 → 1 ≤ H) : zOP nx' pr' o' n' g' H S T P' p' := by
  have p1 : p' + 1 = j + 1 + O := by omega
  subst hP
  -- which operation was read
  rcases h with ⟨H', S', w, z⟩ | ⟨c, z1, z2, z3⟩ | ⟨c, z1⟩ | ⟨c, z1, z2, z3⟩ | ⟨⟨c, c0⟩, z1, q, z2, z3⟩
  · have nxt : o ≠ 8 → nx' (p' + 1) H' S' T (P + O) := fun y => by
      rw [p1]; exact hnx _ _ _ _ _ (z.resolve_left y)
    have oc : o' = o ∧ (o ≤ 23 ∨ o = 28 ∨ o = 29) ∨ (o' = iw o ∧ ((o = 0 ∧ iw o = 0) ∨ ((o = 4 ∨ o = 28 ∨ o = 29) ∧ iw o = 9) ∨ (o = 6 ∧ iw o = 33) ∨ (o = 7 ∧ iw o = 32) ∨ (o = 8 ∧ iw o = 34) ∨ ((10 ≤ o ∧ o ≤ 20) ∧ 10 ≤ iw o ∧ iw o ≤ 20) ∨ ((o = 21 ∨ o = 22) ∧ iw o = 30))) := by
      have wo : o ≤ 23 ∨ o = 28 ∨ o = 29 := by unfold Eff at w; omega
      rcases ha with y | ⟨y, y2⟩
      · exact Or.inl ⟨y, wo⟩
      · have := iw_v ho y2
        refine Or.inr ⟨y, ?_⟩
        omega
    have key : (o' = 0 ∨ o' = 3 → o ≠ 8 ∧ H' = H + 1 ∧ S' = S) ∧ (o' = 1 → o ≠ 8 ∧ 0 ≤ n ∧ n < S ∧ H' = H + 1 ∧ S' = S) ∧ (o' = 2 → o ≠ 8 ∧ 0 ≤ n ∧ n ≤ 9 ∧ (n < S ∧ S' = S ∨ n = S ∧ S' = S + 1) ∧ 1 ≤ H ∧ H' = H - 1) ∧ (o' = 4 ∨ o' = 9 ∨ o' = 28 ∨ o' = 29 → o ≠ 8 ∧ 1 ≤ H ∧ H' = H - 1 ∧ S' = S) ∧ (o' = 5 ∨ o' = 21 ∨ o' = 22 ∨ o' = 23 ∨ o' = 30 → o ≠ 8 ∧ 1 ≤ H ∧ H' = H ∧ S' = S) ∧ (o' = 6 ∨ o' = 33 → o ≠ 8 ∧ 2 ≤ H ∧ H' = H - 2 ∧ S' = S) ∧ (o' = 7 ∨ o' = 32 → o = 7 ∧ 0 ≤ g ∧ g ≤ H ∧ H' = H - g + 1 ∧ S' = S) ∧ (10 ≤ o' ∧ o' ≤ 20 → o ≠ 8 ∧ 2 ≤ H ∧ H' = H - 1 ∧ S' = S) ∧ (o' = 8 ∨ o' = 34 → o = 8) ∧ ¬ (o' = 24 ∨ o' = 31 ∨ o' = 25 ∨ o' = 26 ∨ o' = 27) ∧ 0 ≤ o' ∧ o' ≤ 34 := by
      unfold Eff at w
      clear z nxt hnx hpr hn hg ha h8
      omega
    obtain ⟨k0, k1, k2, k4, k5, k6, k7, k10, k8, k24, k34⟩ := key
    clear oc w z
    refine ⟨k34, fun y => ?_, fun y => ?_, fun y => ?_, fun y => ?_, fun y => ?_, fun y => ?_, fun y => ?_, fun y => ?_, fun y => ?_, fun y => h8 (k8 y), fun y => ?_, fun y => ?_, fun y => ?_, fun y => ?_, fun y => ?_⟩
    · obtain ⟨a1, a2, a3⟩ := k0 (Or.inl y)
      rw [← a2, ← a3]; exact nxt a1
    · obtain ⟨a1, a2, a3, a4, a5⟩ := k1 y
      rw [hn.2 (Or.inl y), ← a4, ← a5]
      exact ⟨a2, by omega, nxt a1⟩
    · obtain ⟨a1, a2, a3, a4, a5, a6⟩ := k2 y
      rw [hn.2 (Or.inr y), ← a6]
      have e5 : (if n < S then S else n + 1) = S' := by
        by_cases y2 : n < S
        · rw [if_pos y2]; omega
        · rw [if_neg y2]; omega
      rw [e5]
      exact ⟨a2, a3, by omega, a5, nxt a1⟩
    · obtain ⟨a1, a2, a3⟩ := k0 (Or.inr y)
      rw [← a2, ← a3]; exact nxt a1
    · obtain ⟨a1, a2, a3, a4⟩ := k4 y
      rw [← a3, ← a4]; exact ⟨a2, nxt a1⟩
    · obtain ⟨a1, a2, a3, a4⟩ := k5 (by omega)
      have := nxt a1
      rw [a3, a4] at this
      exact ⟨a2, this⟩
    · obtain ⟨a1, a2, a3, a4⟩ := k6 y
      rw [← a3, ← a4]; exact ⟨a2, nxt a1⟩
    · obtain ⟨a1, a2, a3, a4, a5⟩ := k7 y
      rw [hg a1, ← a4, ← a5]; exact ⟨a2, a3, nxt (by omega)⟩
    · obtain ⟨a1, a2, a3, a4⟩ := k10 y
      rw [← a3, ← a4]; exact ⟨a2, nxt a1⟩
    · exact absurd (by omega) k24
    · exact absurd (by omega) k24
    · exact absurd (by omega) k24
    · exact absurd (by omega) k24
    · obtain ⟨a1, a2, a3, a4⟩ := k5 (by omega)
      have := nxt a1
      rw [a3, a4] at this
      exact this
  · have oc : o' = 24 ∨ o' = 31 := by
      rcases ha with y | ⟨y, y2⟩
      · omega
      · have := iw_v ho y2; omega
    have x2 := hnx _ _ _ _ _ z2
    have x3 := hnx _ _ _ _ _ z3
    rw [← p1] at x2
    rw [← hn.1 (by omega)] at x3
    refine ⟨by omega, fun y => ?_, fun y => ?_, fun y => ?_, fun y => ?_, fun y => ?_, fun y => ?_, fun y => ?_, fun y => ?_, fun y => ?_, fun y => ?_, fun y => ⟨z1, x2, x3⟩, fun y => ?_, fun y => ?_, fun y => ?_, fun y => ?_⟩ <;> exfalso <;> omega
  · have oc : o' = 25 := by
      rcases ha with y | ⟨y, y2⟩
      · omega
      · have := iw_v ho y2; omega
    have x1 := hnx _ _ _ _ _ z1
    rw [← hn.1 (by omega)] at x1
    refine ⟨by omega, fun y => ?_, fun y => ?_, fun y => ?_, fun y => ?_, fun y => ?_, fun y => ?_, fun y => ?_, fun y => ?_, fun y => ?_, fun y => ?_, fun y => ?_, fun y => x1, fun y => ?_, fun y => ?_, fun y => ?_⟩ <;> exfalso <;> omega
  · have oc : o' = 26 := by
      rcases ha with y | ⟨y, y2⟩
      · omega
      · have := iw_v ho y2; omega
    have x2 := hnx _ _ _ _ _ z2
    have x3 := hnx _ _ _ _ _ z3
    rw [← p1, ← hp] at x2
    rw [← hn.1 (by omega)] at x3
    refine ⟨by omega, fun y => ?_, fun y => ?_, fun y => ?_, fun y => ?_, fun y => ?_, fun y => ?_, fun y => ?_, fun y => ?_, fun y => ?_, fun y => ?_, fun y => ?_, fun y => ?_, fun y => ⟨z1, x2, x3⟩, fun y => ?_, fun y => ?_⟩ <;> exfalso <;> omega
  · have oc : o' = 27 := by
      rcases ha with y | ⟨y, y2⟩
      · omega
      · have := iw_v ho y2; omega
    have x3 := hnx _ _ _ _ _ z3
    rw [← p1] at x3
    refine ⟨by omega, fun y => ?_, fun y => ?_, fun y => ?_, fun y => ?_, fun y => ?_, fun y => ?_, fun y => ?_, fun y => ?_, fun y => ?_, fun y => ?_, fun y => ?_, fun y => ?_, fun y => ?_, fun y => ⟨z1, q + O, hpr _ z2, x3⟩, fun y => ?_⟩ <;> exfalso <;> omega
end S9bp
