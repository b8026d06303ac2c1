/-! shares of rows of DRAWS: whole numbers -/
def lqN (N : Int → Int32) (k : Nat) : Nat := (N (k : Int)).toInt.toNat
def lzQ (D N : Int → Int32) : Nat → Nat
  | 0 => 0
  | k + 1 => lzQ D N k * lqN N k + lqN D k
def lzP (N : Int → Int32) : Nat → Nat
  | 0 => 1
  | k + 1 => lzP N k * lqN N k
/-- the same, as long as it is small -/
def lzC (N : Int → Int32) : Nat → Nat
  | 0 => 1
  | k + 1 => if 1000000000 < lzC N k then lzC N k else lzC N k * lqN N k
def lkD (D N : Int → Int32) (t : Nat) : Prop := ∀ k : Nat, k < t → 0 ≤ (D (k : Int)).toInt ∧ (D (k : Int)).toInt < (N (k : Int)).toInt
/-- what is left of a row when the next one is sought -/
def lkT (D N : Int → Int32) : Nat → Nat
  | 0 => 0
  | k + 1 => if (N (k : Int)).toInt ≤ (D (k : Int)).toInt + 1 then lkT D N k else k + 1
def lkU (D : Int → Int32) (t : Nat) : Int → Int32 := fun i => if i = (t : Int) - 1 then D i + 1 else D i
/-- what is so far is not more than what lies ahead of the row -/
def lkI (A B : Nat) (D N : Int → Int32) (t : Nat) : Prop := (1 ≤ B ∧ B ≤ 1000000000) ∧ A * lzP N t ≤ B * lzQ D N t
def lkJ (A B : Nat) (D N : Int → Int32) (t : Nat) : Prop := (1 ≤ B ∧ B ≤ 1000000000) ∧ A * lzP N t ≤ B * (lzQ D N t + 1)
section S9dw
variable {A B P Q t T k g : Nat} {D N D' N' : Int → Int32}
theorem lzC_le : ∀ t : Nat, lzC N t ≤ 1000000000 → lzC N t = lzP N t
  | 0, _ => rfl
  | t + 1, h => by
    have e : lzC N (t + 1) = if 1000000000 < lzC N t then lzC N t else lzC N t * lqN N t := rfl
    by_cases y : 1000000000 < lzC N t
    · rw [e, if_pos y] at h
      omega
    · rw [e, if_neg y, lzC_le t (by omega)]
      rfl
theorem lqN_lt (z : Nat) : lqN N z ≤ 2147483647 := by
  have h2 := Int32.toInt_lt (N (z : Int))
  have h3 : (N (z : Int)).toInt < 2147483648 := by simpa using h2
  unfold lqN
  omega
theorem lzC_b : ∀ t : Nat, lzC N t < 4611686018427387904
  | 0 => by show 1 < _; decide
  | t + 1 => by
    have e : lzC N (t + 1) = if 1000000000 < lzC N t then lzC N t else lzC N t * lqN N t := rfl
    rw [e]
    by_cases y : 1000000000 < lzC N t
    · rw [if_pos y]; exact lzC_b t
    · rw [if_neg y]
      have h1 : lzC N t * lqN N t ≤ 1000000000 * 2147483647 := Nat.mul_le_mul (by omega) (lqN_lt t)
      omega
theorem lkD.lo (h : lkD D N T) (hk : t ≤ T) : lkD D N t := fun k a => h k (by omega)
theorem lkD.n (h : lkD D N t) (hk : k < t) : lqN D k + 1 ≤ lqN N k := by
  have := h k hk
  unfold lqN
  omega
theorem lzP_pos : ∀ t : Nat, lkD D N t → 1 ≤ lzP N t
  | 0, _ => Nat.le_refl _
  | t + 1, h => by
    have h1 := lzP_pos t (h.lo (by omega))
    have h2 := h.n (k := t) (by omega)
    show 1 ≤ lzP N t * lqN N t
    exact Nat.mul_pos h1 (by omega)
theorem lzQ_lt : ∀ t : Nat, lkD D N t → lzQ D N t + 1 ≤ lzP N t
  | 0, _ => Nat.le_refl _
  | t + 1, h => by
    have h1 := lzQ_lt t (h.lo (by omega))
    have h2 := h.n (k := t) (by omega)
    show lzQ D N t * lqN N t + lqN D t + 1 ≤ lzP N t * lqN N t
    have h3 : (lzQ D N t + 1) * lqN N t ≤ lzP N t * lqN N t := Nat.mul_le_mul_right _ h1
    rw [Nat.add_mul, Nat.one_mul] at h3
    omega
theorem lzP_c : ∀ t : Nat, (∀ k : Nat, k < t → N' (k : Int) = N (k : Int)) → lzP N' t = lzP N t
  | 0, _ => rfl
  | t + 1, h => by
    show lzP N' t * lqN N' t = lzP N t * lqN N t
    unfold lqN
    rw [lzP_c t fun k a => h k (by omega), h t (by omega)]
theorem lzC_c : ∀ t : Nat, (∀ k : Nat, k < t → N' (k : Int) = N (k : Int)) → lzC N' t = lzC N t
  | 0, _ => rfl
  | t + 1, h => by
    show (if 1000000000 < lzC N' t then lzC N' t else lzC N' t * lqN N' t) = if 1000000000 < lzC N t then lzC N t else lzC N t * lqN N t
    unfold lqN
    rw [lzC_c t fun k a => h k (by omega), h t (by omega)]
theorem lzQ_c : ∀ t : Nat, (∀ k : Nat, k < t → D' (k : Int) = D (k : Int) ∧ N' (k : Int) = N (k : Int)) → lzQ D' N' t = lzQ D N t
  | 0, _ => rfl
  | t + 1, h => by
    show lzQ D' N' t * lqN N' t + lqN D' t = lzQ D N t * lqN N t + lqN D t
    unfold lqN
    rw [lzQ_c t fun k a => h k (by omega), (h t (by omega)).1, (h t (by omega)).2]
theorem lkI.cg (h : lkI A B D N t) (g : ∀ k : Nat, k < t → D' (k : Int) = D (k : Int) ∧ N' (k : Int) = N (k : Int)) : lkI A B D' N' t := ⟨h.1, by rw [lzP_c t fun k a => (g k a).2, lzQ_c t g]; exact h.2⟩
theorem lkD.cg (h : lkD D N t) (g : ∀ k : Nat, k < t → D' (k : Int) = D (k : Int) ∧ N' (k : Int) = N (k : Int)) : lkD D' N' t := fun k a => by
  rw [(g k a).1, (g k a).2]
  exact h k a
/-- DRAWS that come are 0 -/
theorem lkI.up (h : lkI A B D N t) : ∀ m : Nat, (∀ k : Nat, t ≤ k → k < t + m → D (k : Int) = 0) → lkI A B D N (t + m)
  | 0, _ => h
  | m + 1, g => by
    have h1 := h.up m fun k a b => g k a (by omega)
    refine ⟨h.1, ?_⟩
    show A * (lzP N (t + m) * lqN N (t + m)) ≤ B * (lzQ D N (t + m) * lqN N (t + m) + lqN D (t + m))
    have e : lqN D (t + m) = 0 := by
      unfold lqN
      rw [g (t + m) (by omega) (by omega)]
      rfl
    rw [e, Nat.add_zero, ← Nat.mul_assoc, ← Nat.mul_assoc]
    exact Nat.mul_le_mul_right _ h1.2
theorem lkD.up (h : lkD D N t) (g : ∀ k : Nat, t ≤ k → k < T → D (k : Int) = 0 ∧ 1 ≤ (N (k : Int)).toInt) : lkD D N T := fun k a => by
  by_cases y : k < t
  · exact h k y
  · obtain ⟨g1, g2⟩ := g k (by omega) a
    rw [g1]
    have : (0 : Int32).toInt = 0 := rfl
    omega
theorem lkI.j (h : lkI A B D N t) : lkJ A B D N t := ⟨h.1, by
  have := h.2
  have e : B * (lzQ D N t + 1) = B * lzQ D N t + B := by rw [Nat.mul_add, Nat.mul_one]
  omega⟩
theorem lkI.ab (h : lkI A B D N t) (hD : lkD D N t) : A ≤ B := by
  have h1 := lzP_pos t hD
  have h2 := lzQ_lt t hD
  have h3 : B * lzQ D N t ≤ B * lzP N t := Nat.mul_le_mul_left _ (by omega)
  exact Nat.le_of_mul_le_mul_right (Nat.le_trans h.2 h3) h1
theorem lkT_le : ∀ t : Nat, lkT D N t ≤ t
  | 0 => Nat.le_refl _
  | t + 1 => by
    show (if (N (t : Int)).toInt ≤ (D (t : Int)).toInt + 1 then lkT D N t else t + 1) ≤ t + 1
    have := lkT_le t
    split <;> omega
theorem lkT_l : ∀ t : Nat, 0 < lkT D N t → ¬ (N ((lkT D N t : Nat) - 1 : Int)).toInt ≤ (D ((lkT D N t : Nat) - 1 : Int)).toInt + 1
  | 0, h => absurd h (by show ¬ 0 < 0; decide)
  | t + 1, h => by
    have e : lkT D N (t + 1) = if (N (t : Int)).toInt ≤ (D (t : Int)).toInt + 1 then lkT D N t else t + 1 := rfl
    by_cases y : (N (t : Int)).toInt ≤ (D (t : Int)).toInt + 1
    · rw [e, if_pos y] at h ⊢
      exact lkT_l t h
    · rw [e, if_neg y]
      rw [show (((t + 1 : Nat) : Int) - 1) = (t : Int) by omega]
      exact y
theorem lkJ.pop : ∀ t : Nat, lkD D N t → lkJ A B D N t → lkJ A B D N (lkT D N t)
  | 0, _, h => h
  | t + 1, hD, h => by
    have e : lkT D N (t + 1) = if (N (t : Int)).toInt ≤ (D (t : Int)).toInt + 1 then lkT D N t else t + 1 := rfl
    by_cases y : (N (t : Int)).toInt ≤ (D (t : Int)).toInt + 1
    · rw [e, if_pos y]
      refine lkJ.pop t (hD.lo (by omega)) ⟨h.1, ?_⟩
      have h2 : A * (lzP N t * lqN N t) ≤ B * (lzQ D N t * lqN N t + lqN D t + 1) := h.2
      have n1 := hD.n (k := t) (by omega)
      have n2 := hD t (by omega)
      have n3 : lqN D t + 1 = lqN N t := by
        unfold lqN at n1 ⊢
        omega
      rw [Nat.add_assoc, n3, show lzQ D N t * lqN N t + lqN N t = (lzQ D N t + 1) * lqN N t by rw [Nat.add_mul, Nat.one_mul], ← Nat.mul_assoc, ← Nat.mul_assoc] at h2
      exact Nat.le_of_mul_le_mul_right h2 (by omega)
    · rw [e, if_neg y]
      exact h
theorem lkU_e (h : 0 < t) (hD : lkD D N t) (hl : ¬ (N ((t : Int) - 1)).toInt ≤ (D ((t : Int) - 1)).toInt + 1) : (lkU D t ((t : Int) - 1)).toInt = (D ((t : Int) - 1)).toInt + 1 := by
  unfold lkU
  rw [if_pos rfl]
  have n2 := hD (t - 1) (by omega)
  rw [show ((t - 1 : Nat) : Int) = (t : Int) - 1 by omega] at n2
  have h2 := Int32.toInt_lt (N ((t : Int) - 1))
  have h3 : (N ((t : Int) - 1)).toInt < 2147483648 := by simpa using h2
  have e : D ((t : Int) - 1) = iI (D ((t : Int) - 1)).toInt := (iI_eta _).symm
  rw [e, show (1 : Int32) = iI 1 from li_1, iI_add, iI_toInt (by omega) (by omega), iI_toInt (by omega) (by omega)]
theorem lkJ.inc (h : 0 < t) (hD : lkD D N t) (hl : ¬ (N ((t : Int) - 1)).toInt ≤ (D ((t : Int) - 1)).toInt + 1) (hJ : lkJ A B D N t) : lkI A B (lkU D t) N t := by
  have e := lkU_e h hD hl
  obtain ⟨m, rfl⟩ : ∃ m, t = m + 1 := ⟨t - 1, by omega⟩
  rw [show (((m + 1 : Nat) : Int) - 1) = (m : Int) by omega] at e hl
  have n2 := hD m (by omega)
  refine ⟨hJ.1, ?_⟩
  have h2 : A * lzP N (m + 1) ≤ B * (lzQ D N m * lqN N m + lqN D m + 1) := hJ.2
  show A * lzP N (m + 1) ≤ B * (lzQ (lkU D (m + 1)) N m * lqN N m + lqN (lkU D (m + 1)) m)
  have q1 : lzQ (lkU D (m + 1)) N m = lzQ D N m := lzQ_c m fun k a => ⟨by
    unfold lkU
    rw [if_neg (by omega)], rfl⟩
  have q2 : lqN (lkU D (m + 1)) m = lqN D m + 1 := by
    unfold lqN
    rw [e]
    omega
  rw [q1, q2]
  exact h2
theorem lkD.inc (h : 0 < t) (hD : lkD D N t) (hl : ¬ (N ((t : Int) - 1)).toInt ≤ (D ((t : Int) - 1)).toInt + 1) : lkD (lkU D t) N t := fun k a => by
  have e := lkU_e h hD hl
  by_cases y : (k : Int) = (t : Int) - 1
  · rw [y, e]
    have n2 := hD (t - 1) (by omega)
    rw [show ((t - 1 : Nat) : Int) = (t : Int) - 1 by omega] at n2
    omega
  · unfold lkU
    rw [if_neg y]
    exact hD k a
/-- a share comes to it -/
theorem lkJ.add (hB : 1 ≤ B) (hI : A * P ≤ B * Q) (hP : 1 ≤ P) : 1 ≤ B * P / Nat.gcd (A * P + B) (B * P) ∧ (A * P + B) / Nat.gcd (A * P + B) (B * P) * P ≤ B * P / Nat.gcd (A * P + B) (B * P) * (Q + 1) := by
  have p0 : 0 < B * P := Nat.mul_pos hB hP
  obtain ⟨g, hg⟩ : ∃ g, g = Nat.gcd (A * P + B) (B * P) := ⟨_, rfl⟩
  have g0 : 0 < g := by rw [hg]; exact Nat.gcd_pos_of_pos_right _ p0
  have d1 : g ∣ A * P + B := by rw [hg]; exact Nat.gcd_dvd_left _ _
  have d2 : g ∣ B * P := by rw [hg]; exact Nat.gcd_dvd_right _ _
  rw [← hg]
  have e1 : (A * P + B) / g * g = A * P + B := Nat.div_mul_cancel d1
  have e2 : B * P / g * g = B * P := Nat.div_mul_cancel d2
  refine ⟨Nat.div_pos (Nat.le_of_dvd p0 d2) g0, ?_⟩
  refine Nat.le_of_mul_le_mul_right (c := g) ?_ g0
  have l1 : (A * P + B) / g * P * g = (A * P + B) * P := by
    rw [Nat.mul_assoc, Nat.mul_comm P g, ← Nat.mul_assoc, e1]
  have l2 : B * P / g * (Q + 1) * g = B * P * (Q + 1) := by
    rw [Nat.mul_assoc, Nat.mul_comm (Q + 1) g, ← Nat.mul_assoc, e2]
  rw [l1, l2]
  have l3 : A * P + B ≤ B * (Q + 1) := by
    rw [Nat.mul_add, Nat.mul_one]
    omega
  calc (A * P + B) * P ≤ B * (Q + 1) * P := Nat.mul_le_mul_right _ l3
    _ = B * P * (Q + 1) := by rw [Nat.mul_assoc, Nat.mul_comm (Q + 1) P, ← Nat.mul_assoc]
/-- the other way to it -/
theorem lk_two (hB : 1 ≤ B) (hP : 1 ≤ P) (hg : g = Nat.gcd B P) : (A * (P / g) + B / g) / Nat.gcd (A * (P / g) + B / g) (B / g * P) = (A * P + B) / Nat.gcd (A * P + B) (B * P) ∧ B / g * P / Nat.gcd (A * (P / g) + B / g) (B / g * P) = B * P / Nat.gcd (A * P + B) (B * P) := by
  have g0 : 0 < g := by rw [hg]; exact Nat.gcd_pos_of_pos_right _ hP
  have d1 : g ∣ B := by rw [hg]; exact Nat.gcd_dvd_left _ _
  have d2 : g ∣ P := by rw [hg]; exact Nat.gcd_dvd_right _ _
  have e1 : g * (B / g) = B := Nat.mul_div_cancel' d1
  have e2 : g * (P / g) = P := Nat.mul_div_cancel' d2
  have s1 : A * P + B = g * (A * (P / g) + B / g) := by
    rw [Nat.mul_add, e1, ← Nat.mul_assoc, Nat.mul_comm g A, Nat.mul_assoc, e2]
  have s2 : B * P = g * (B / g * P) := by rw [← Nat.mul_assoc, e1]
  rw [s1, s2, Nat.gcd_mul_left, Nat.mul_div_mul_left _ _ g0, Nat.mul_div_mul_left _ _ g0]
  exact ⟨rfl, rfl⟩
end S9dw
