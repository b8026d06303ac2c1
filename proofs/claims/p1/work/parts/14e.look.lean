/-! what a list of writes leaves -/
def pO : List Op → Nat → Nat → Option Nat
  | [], _, _ => none
  | o :: l, a, j => if o.1 = 3 ∧ o.2.1 = a ∧ o.2.2.1 = j then some o.2.2.2.toNat else if o.1 = 4 ∧ a = nl l then (if j < o.2.2.1 then some (nl l + 1 + j) else none) else pO l a j
def iO : List Op → Nat → Nat → Int
  | [], _, _ => 0
  | o :: l, a, j => if o.1 = 1 ∧ o.2.1 = a ∧ o.2.2.1 = j then o.2.2.2 else iO l a j
def lO : List Op → Nat → Nat → Int64
  | [], _, _ => 0
  | o :: l, a, j => if o.1 = 2 ∧ o.2.1 = a ∧ o.2.2.1 = j then Int64.ofInt o.2.2.2 else if o.1 = 5 ∧ o.2.1 = a then wrdL.getD j 0 else lO l a j
theorem vOK_5 {o : Op} {l : List Op} (h : vOK (o :: l) = true) : o.1 ≤ 5 := by
  simp only [vOK, Bool.and_eq_true, Bool.or_eq_true, decide_eq_true_eq] at h
  exact h.1.2
theorem vOK_c {o : Op} {l : List Op} (h : vOK (o :: l) = true) : vOK l = true ∧ (o.1 = 0 ∨ o.1 = 4 ∨ 64 ≤ o.2.1 ∧ o.2.1 < nl l) := by
  simp only [vOK, Bool.and_eq_true, Bool.or_eq_true, decide_eq_true_eq] at h
  refine ⟨h.1.1, ?_⟩
  rcases h.2 with (h | h) | h
  · exact Or.inl h
  · exact Or.inr (Or.inl h)
  · exact Or.inr (Or.inr h)
theorem nl_mono {o : Op} {l : List Op} : nl l ≤ nl (o :: l) := by
  unfold nl
  rw [kl_c]
  split
  · rw [List.length_append]; omega
  · split
    · rw [List.length_append]; omega
    · omega
theorem pO_none : ∀ {l : List Op} {a j : Nat}, vOK l = true → nl l ≤ a → pO l a j = none
  | [], _, _, _, _ => rfl
  | o :: l, a, j, h, ha => by
    obtain ⟨h1, h2⟩ := vOK_c h
    have hm := nl_mono (o := o) (l := l)
    unfold pO
    rw [if_neg (by rintro ⟨q1, q2, -⟩; rcases h2 with h2 | h2 | h2 <;> omega)]
    by_cases h4 : o.1 = 4 ∧ a = nl l
    · exfalso
      have : nl (o :: l) = nl l + 1 + o.2.2.1 := by
        unfold nl
        rw [kl_c, if_neg (by omega), if_pos h4.1, List.length_append, List.length_cons, List.length_replicate]
        omega
      omega
    · rw [if_neg h4]
      exact pO_none h1 (by omega)
theorem iO_none : ∀ {l : List Op} {a j : Nat}, vOK l = true → nl l ≤ a → iO l a j = 0
  | [], _, _, _, _ => rfl
  | o :: l, a, j, h, ha => by
    obtain ⟨h1, h2⟩ := vOK_c h
    have hm := nl_mono (o := o) (l := l)
    unfold iO
    rw [if_neg (by rintro ⟨q1, q2, -⟩; rcases h2 with h2 | h2 | h2 <;> omega)]
    exact iO_none h1 (by omega)
theorem lO_none : ∀ {l : List Op} {a j : Nat}, vOK l = true → nl l ≤ a → lO l a j = 0
  | [], _, _, _, _ => rfl
  | o :: l, a, j, h, ha => by
    obtain ⟨h1, h2⟩ := vOK_c h
    have hm := nl_mono (o := o) (l := l)
    unfold lO
    rw [if_neg (by rintro ⟨q1, q2, -⟩; rcases h2 with h2 | h2 | h2 <;> omega), if_neg (by rintro ⟨q1, q2⟩; rcases h2 with h2 | h2 | h2 <;> omega)]
    exact lO_none h1 (by omega)
theorem op6 {k : Nat} (h : k ≤ 5) : k = 0 ∨ k = 1 ∨ k = 2 ∨ k = 3 ∨ k = 4 ∨ k = 5 := by omega
section LK
variable {L : Nat} {xs : Nat → Int32}
theorem app_p : ∀ {l : List Op}, vOK l = true → ∀ a j, (app (Minit L xs) l).2.2.1 a j = pO l a j
  | [], _, _, _ => rfl
  | (k, b, i, v) :: l, h, a, j => by
    obtain ⟨h1, h2⟩ := vOK_c h
    have ih := app_p h1 a j
    rcases op6 (vOK_5 h) with e | e | e | e | e | e <;> (have e : k = _ := e; subst e)
    · show clr (app (Minit L xs) l).2.2.1 _ none a j = pO l a j
      unfold clr
      rw [nl_ok]
      by_cases ha : a = nl l
      · rw [if_pos ha, pO_none h1 (by omega)]
      · rw [if_neg ha]; exact ih
    · exact ih
    · exact ih
    · show up2 (app (Minit L xs) l).2.2.1 b i (some v.toNat) a j = if 3 = 3 ∧ b = a ∧ i = j then some v.toNat else pO l a j
      unfold up2
      by_cases ha : a = b
      · rw [if_pos ha]
        by_cases hj : j = i
        · rw [if_pos hj, if_pos ⟨rfl, ha.symm, hj.symm⟩]
        · rw [if_neg hj, if_neg (fun q => hj q.2.2.symm)]; exact ih
      · rw [if_neg ha, if_neg (fun q => ha q.2.1.symm)]; exact ih
    · show (if a < (app (Minit L xs) l).2.2.2.length then (app (Minit L xs) l).2.2.1 a j else if a = (app (Minit L xs) l).2.2.2.length then (if j < i then some ((app (Minit L xs) l).2.2.2.length + 1 + j) else none) else none) = if 4 = 4 ∧ a = nl l then (if j < i then some (nl l + 1 + j) else none) else pO l a j
      rw [nl_ok]
      by_cases ha : a < nl l
      · rw [if_pos ha, if_neg (fun q => by omega)]; exact ih
      · rw [if_neg ha]
        by_cases ha2 : a = nl l
        · rw [if_pos ha2, if_pos (show 4 = 4 ∧ a = nl l from ⟨rfl, ha2⟩)]
        · rw [if_neg ha2, if_neg (fun q => ha2 q.2), pO_none h1 (by omega)]
    · exact ih
theorem app_i : ∀ {l : List Op}, vOK l = true → ∀ a j, 64 ≤ a → (app (Minit L xs) l).1 a j = iI (iO l a j)
  | [], _, a, j, ha => by
    show (if a = 0 then _ else _) = _
    rw [if_neg (by omega), if_neg (by omega), if_neg (by omega)]
    exact iI_0
  | (k, b, i, v) :: l, h, a, j, ha0 => by
    obtain ⟨h1, h2⟩ := vOK_c h
    have ih := app_i h1 a j ha0
    rcases op6 (vOK_5 h) with e | e | e | e | e | e <;> (have e : k = _ := e; subst e)
    · show clr (app (Minit L xs) l).1 _ 0 a j = iI (iO l a j)
      unfold clr
      rw [nl_ok]
      by_cases ha : a = nl l
      · rw [if_pos ha, iO_none h1 (by omega)]
        exact iI_0
      · rw [if_neg ha]; exact ih
    · show up2 (app (Minit L xs) l).1 b i (iI v) a j = iI (if 1 = 1 ∧ b = a ∧ i = j then v else iO l a j)
      unfold up2
      by_cases ha : a = b
      · rw [if_pos ha]
        by_cases hj : j = i
        · rw [if_pos hj, if_pos ⟨rfl, ha.symm, hj.symm⟩]
        · rw [if_neg hj, if_neg (fun q => hj q.2.2.symm)]; exact ih
      · rw [if_neg ha, if_neg (fun q => ha q.2.1.symm)]; exact ih
    · exact ih
    · exact ih
    · show (if a < (app (Minit L xs) l).2.2.2.length then (app (Minit L xs) l).1 a j else 0) = iI (iO l a j)
      rw [nl_ok]
      by_cases ha : a < nl l
      · rw [if_pos ha]; exact ih
      · rw [if_neg ha, iO_none h1 (by omega)]
        exact iI_0
    · exact ih
theorem app_l : ∀ {l : List Op}, vOK l = true → ∀ a j, (app (Minit L xs) l).2.1 a j = lO l a j
  | [], _, _, _ => rfl
  | (k, b, i, v) :: l, h, a, j => by
    obtain ⟨h1, h2⟩ := vOK_c h
    have ih := app_l h1 a j
    rcases op6 (vOK_5 h) with e | e | e | e | e | e <;> (have e : k = _ := e; subst e)
    · show clr (app (Minit L xs) l).2.1 _ 0 a j = lO l a j
      unfold clr
      rw [nl_ok]
      by_cases ha : a = nl l
      · rw [if_pos ha, lO_none h1 (by omega)]
      · rw [if_neg ha]; exact ih
    · exact ih
    · show up2 (app (Minit L xs) l).2.1 b i (Int64.ofInt v) a j = if 2 = 2 ∧ b = a ∧ i = j then Int64.ofInt v else lO l a j
      unfold up2
      by_cases ha : a = b
      · rw [if_pos ha]
        by_cases hj : j = i
        · rw [if_pos hj, if_pos ⟨rfl, ha.symm, hj.symm⟩]
        · rw [if_neg hj, if_neg (fun q => hj q.2.2.symm)]; exact ih
      · rw [if_neg ha, if_neg (fun q => ha q.2.1.symm)]; exact ih
    · exact ih
    · show (if a < (app (Minit L xs) l).2.2.2.length then (app (Minit L xs) l).2.1 a j else 0) = lO l a j
      rw [nl_ok]
      by_cases ha : a < nl l
      · rw [if_pos ha]; exact ih
      · rw [if_neg ha, lO_none h1 (by omega)]
    · show (if a = b then wrdL.getD j 0 else (app (Minit L xs) l).2.1 a j) = if 5 = 5 ∧ b = a then wrdL.getD j 0 else lO l a j
      by_cases ha : a = b
      · rw [if_pos ha, if_pos ⟨rfl, ha.symm⟩]
      · rw [if_neg ha, if_neg (fun q => ha q.2.symm)]; exact ih
end LK
