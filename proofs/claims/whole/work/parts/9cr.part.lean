/-! sets of CASES: order, subsets in a row -/
def revN : Nat → Nat → Nat
  | 0, _ => 0
  | k + 1, n => (n % 2) * 2 ^ k + revN k (n / 2)
def lowN : Nat → Nat → Nat
  | 0, _ => 0
  | k + 1, n => if n % 2 = 1 then 1 else 2 * lowN k (n / 2)
/-- the set behind a set, of those in U -/
def nxw (w U s : Nat) : Nat := ((s + (2 ^ w - U)) % 2 ^ w) &&& U
/-- smaller: the fewer, the one with the lowest where they differ -/
def keyN (s : Nat) : Nat := popN 16 s * 65536 + (65535 - revN 16 s)
section S9cr
variable {d : Nat} {M : Mem} {w U s t n a b c e k : Nat}
theorem hlf (n : Nat) : n = 2 * (n / 2) + n % 2 := by omega
theorem and_b (a b c e : Nat) (hb : b < 2) (he : e < 2) : (2 * a + b) &&& (2 * c + e) = 2 * (a &&& c) + b * e := by
  have h1 := hlf ((2 * a + b) &&& (2 * c + e))
  rw [Nat.and_div_two, show (2 * a + b) / 2 = a by omega, show (2 * c + e) / 2 = c by omega] at h1
  have h2 : ((2 * a + b) &&& (2 * c + e)) % 2 = b * e := by
    have h3 := Nat.and_mod_two_eq_one (a := 2 * a + b) (b := 2 * c + e)
    have hb' : b = 0 ∨ b = 1 := by omega
    have he' : e = 0 ∨ e = 1 := by omega
    rcases hb' with hb' | hb' <;> rcases he' with he' | he' <;> subst hb' <;> subst he' <;> omega
  omega
theorem xor_b (a b c e : Nat) (hb : b < 2) (he : e < 2) : (2 * a + b) ^^^ (2 * c + e) = 2 * (a ^^^ c) + (b + e) % 2 := by
  have h1 := hlf ((2 * a + b) ^^^ (2 * c + e))
  rw [Nat.xor_div_two, show (2 * a + b) / 2 = a by omega, show (2 * c + e) / 2 = c by omega] at h1
  have h2 := Nat.xor_mod_two_eq_one (a := 2 * a + b) (b := 2 * c + e)
  have hb' : b = 0 ∨ b = 1 := by omega
  have he' : e = 0 ∨ e = 1 := by omega
  rcases hb' with hb' | hb' <;> rcases he' with he' | he' <;> subst hb' <;> subst he' <;> omega
/-- a part of U -/
theorem sub_b (a b c e : Nat) (hb : b < 2) (he : e < 2) : ((2 * a + b) &&& (2 * c + e) = 2 * a + b) ↔ (a &&& c = a) ∧ b ≤ e := by
  rw [and_b a b c e hb he]
  have hb' : b = 0 ∨ b = 1 := by omega
  have he' : e = 0 ∨ e = 1 := by omega
  rcases hb' with hb' | hb' <;> rcases he' with he' | he' <;> subst hb' <;> subst he' <;> omega
theorem cm_and : ∀ (w U s : Nat), U < 2 ^ w → s &&& U = s → (s + (2 ^ w - 1 - U)) &&& U = s := by
  intro w
  induction w with
  | zero =>
    intro U s h1 h2
    have : U = 0 := by simpa using h1
    subst this
    rw [Nat.and_zero] at h2 ⊢
    exact h2
  | succ w ih =>
    intro U s h1 h2
    have hU := hlf U
    have hs := hlf s
    have b1 : U % 2 < 2 := by omega
    have c1 : s % 2 < 2 := by omega
    rw [hU, hs, sub_b _ _ _ _ c1 b1] at h2
    have p : 2 ^ (w + 1) = 2 * 2 ^ w := by rw [Nat.pow_succ]; omega
    have hU' : U / 2 < 2 ^ w := by omega
    have i := ih (U / 2) (s / 2) hU' h2.1
    have sle : s / 2 ≤ U / 2 := by rw [← h2.1]; exact Nat.and_le_right
    have e : s + (2 ^ (w + 1) - 1 - U) = 2 * (s / 2 + (2 ^ w - 1 - U / 2)) + (1 + s % 2 - U % 2) := by omega
    have this := and_b (s / 2 + (2 ^ w - 1 - U / 2)) (1 + s % 2 - U % 2) (U / 2) (U % 2) (by omega) b1
    rw [← hU, i] at this
    rw [e, this]
    have hb' : U % 2 = 0 ∨ U % 2 = 1 := by omega
    have he' : s % 2 = 0 ∨ s % 2 = 1 := by omega
    have h22 := h2.2
    rcases hb' with hb' | hb' <;> rcases he' with he' | he' <;> rw [hb', he'] <;> omega
theorem nxw_s : ∀ (w U s : Nat), U < 2 ^ (w + 1) → s &&& U = s → nxw (w + 1) U s = if s % 2 = U % 2 then 2 * nxw w (U / 2) (s / 2) else 2 * (s / 2) + 1 := by
  intro w U s h1 h2
  have hU := hlf U
  have hs := hlf s
  have b1 : U % 2 < 2 := by omega
  have c1 : s % 2 < 2 := by omega
  have h2' := h2
  rw [hU, hs, sub_b _ _ _ _ c1 b1] at h2'
  have p : 2 ^ (w + 1) = 2 * 2 ^ w := by rw [Nat.pow_succ]; omega
  have hU' : U / 2 < 2 ^ w := by omega
  have sle : s / 2 ≤ U / 2 := by rw [← h2'.1]; exact Nat.and_le_right
  unfold nxw
  by_cases y : s % 2 = U % 2
  · rw [if_pos y]
    have e : s + (2 ^ (w + 1) - U) = 2 * (s / 2 + (2 ^ w - U / 2)) := by omega
    rw [e, p, Nat.mul_mod_mul_left]
    have := and_b ((s / 2 + (2 ^ w - U / 2)) % 2 ^ w) 0 (U / 2) (U % 2) (by omega) b1
    rw [← hU, Nat.add_zero, Nat.zero_mul, Nat.add_zero] at this
    exact this
  · rw [if_neg y]
    have e : s + (2 ^ (w + 1) - U) = 2 * (s / 2 + (2 ^ w - 1 - U / 2)) + 1 := by omega
    have lt : s / 2 + (2 ^ w - 1 - U / 2) < 2 ^ w := by omega
    rw [e, p, Nat.mod_eq_of_lt (by omega)]
    have := and_b (s / 2 + (2 ^ w - 1 - U / 2)) 1 (U / 2) (U % 2) (by omega) b1
    rw [← hU, cm_and w (U / 2) (s / 2) hU' h2'.1] at this
    rw [this]
    omega
/-- the next one is the least above -/
theorem nxw_le : ∀ (w U s t : Nat), U < 2 ^ w → s &&& U = s → t &&& U = t → s < t → nxw w U s ≤ t ∧ s < nxw w U s := by
  intro w
  induction w with
  | zero =>
    intro U s t h1 h2 h3 h4
    have : U = 0 := by simpa using h1
    subst this
    rw [Nat.and_zero] at h3
    omega
  | succ w ih =>
    intro U s t h1 h2 h3 h4
    rw [nxw_s w U s h1 h2]
    have hU := hlf U
    have hs := hlf s
    have ht := hlf t
    have b1 : U % 2 < 2 := by omega
    rw [hU, hs, sub_b _ _ _ _ (by omega) b1] at h2
    rw [hU, ht, sub_b _ _ _ _ (by omega) b1] at h3
    have p : 2 ^ (w + 1) = 2 * 2 ^ w := by rw [Nat.pow_succ]; omega
    have hU' : U / 2 < 2 ^ w := by omega
    by_cases y : s % 2 = U % 2
    · rw [if_pos y]
      by_cases z : s / 2 < t / 2
      · have i := ih (U / 2) (s / 2) (t / 2) hU' h2.1 h3.1 z
        omega
      · omega
    · rw [if_neg y]
      omega
theorem nxw_in : nxw w U s &&& U = nxw w U s := by
  unfold nxw
  rw [Nat.and_assoc, Nat.and_self]
theorem revN_b : ∀ (k n : Nat), revN k n < 2 ^ k := by
  intro k
  induction k with
  | zero => intro n; exact Nat.one_pos
  | succ k ih =>
    intro n
    have i := ih (n / 2)
    have p : 2 ^ (k + 1) = 2 * 2 ^ k := by rw [Nat.pow_succ]; omega
    show (n % 2) * 2 ^ k + revN k (n / 2) < _
    have hb' : n % 2 = 0 ∨ n % 2 = 1 := by omega
    rcases hb' with h | h <;> rw [h] <;> omega
theorem revN_i : ∀ (k s t : Nat), s < 2 ^ k → t < 2 ^ k → revN k s = revN k t → s = t := by
  intro k
  induction k with
  | zero =>
    intro s t h1 h2 _
    have : s = 0 := by simpa using h1
    have : t = 0 := by simpa using h2
    omega
  | succ k ih =>
    intro s t h1 h2 h3
    have p : 2 ^ (k + 1) = 2 * 2 ^ k := by rw [Nat.pow_succ]; omega
    have h3' : (s % 2) * 2 ^ k + revN k (s / 2) = (t % 2) * 2 ^ k + revN k (t / 2) := h3
    have r1 := revN_b k (s / 2)
    have r2 := revN_b k (t / 2)
    have i := ih (s / 2) (t / 2) (by omega) (by omega)
    have hb' : s % 2 = 0 ∨ s % 2 = 1 := by omega
    have he' : t % 2 = 0 ∨ t % 2 = 1 := by omega
    rcases hb' with hb' | hb' <;> rcases he' with he' | he' <;> rw [hb', he'] at h3'
    · have := i (by omega); omega
    · omega
    · omega
    · have := i (by omega); omega
/-- the lowest bit where they differ -/
theorem low_rev : ∀ (k s t : Nat), s < 2 ^ k → t < 2 ^ k → (s &&& lowN k (s ^^^ t) ≠ 0 ↔ revN k t < revN k s) := by
  intro k
  induction k with
  | zero =>
    intro s t h1 h2
    show s &&& 0 ≠ 0 ↔ 0 < 0
    rw [Nat.and_zero]
    omega
  | succ k ih =>
    intro s t h1 h2
    have p : 2 ^ (k + 1) = 2 * 2 ^ k := by rw [Nat.pow_succ]; omega
    have hs := hlf s
    have ht := hlf t
    have i := ih (s / 2) (t / 2) (by omega) (by omega)
    have r1 := revN_b k (s / 2)
    have r2 := revN_b k (t / 2)
    have ex : s ^^^ t = 2 * (s / 2 ^^^ t / 2) + (s % 2 + t % 2) % 2 := by
      conv => lhs; rw [hs, ht]
      exact xor_b _ _ _ _ (by omega) (by omega)
    have el : lowN (k + 1) (s ^^^ t) = if (s % 2 + t % 2) % 2 = 1 then 1 else 2 * lowN k (s / 2 ^^^ t / 2) := by
      show (if (s ^^^ t) % 2 = 1 then 1 else 2 * lowN k ((s ^^^ t) / 2)) = _
      rw [ex, show (2 * (s / 2 ^^^ t / 2) + (s % 2 + t % 2) % 2) / 2 = s / 2 ^^^ t / 2 by omega, show (2 * (s / 2 ^^^ t / 2) + (s % 2 + t % 2) % 2) % 2 = (s % 2 + t % 2) % 2 by omega]
    have e1 : s &&& 1 = s % 2 := by
      have := and_b (s / 2) (s % 2) 0 1 (by omega) (by omega)
      rw [← hs, Nat.and_zero, show 2 * 0 + 1 = 1 from rfl] at this
      omega
    have e2 : s &&& (2 * lowN k (s / 2 ^^^ t / 2)) = 2 * (s / 2 &&& lowN k (s / 2 ^^^ t / 2)) := by
      have := and_b (s / 2) (s % 2) (lowN k (s / 2 ^^^ t / 2)) 0 (by omega) (by omega)
      rw [← hs] at this
      omega
    show s &&& lowN (k + 1) (s ^^^ t) ≠ 0 ↔ (t % 2) * 2 ^ k + revN k (t / 2) < (s % 2) * 2 ^ k + revN k (s / 2)
    rw [el]
    have hb' : s % 2 = 0 ∨ s % 2 = 1 := by omega
    have he' : t % 2 = 0 ∨ t % 2 = 1 := by omega
    rcases hb' with hb' | hb' <;> rcases he' with he' | he' <;> rw [hb', he']
    · rw [if_neg (by decide), e2]; omega
    · rw [if_pos (by decide), e1]; omega
    · rw [if_pos (by decide), e1]; omega
    · rw [if_neg (by decide), e2]; omega
theorem popN_b : ∀ (k n : Nat), popN k n ≤ k := by
  intro k
  induction k with
  | zero => intro n; exact Nat.le_refl _
  | succ k ih =>
    intro n
    have := ih (n / 2)
    show n % 2 + popN k (n / 2) ≤ k + 1
    omega
/-- a part has fewer -/
theorem popN_s : ∀ (k s U : Nat), s < 2 ^ k → popN k (s &&& U) ≤ popN k s ∧ (popN k (s &&& U) = popN k s → s &&& U = s) := by
  intro k
  induction k with
  | zero =>
    intro s U h1
    have : s = 0 := by simpa using h1
    subst this
    exact ⟨Nat.le_refl _, fun _ => Nat.zero_and _⟩
  | succ k ih =>
    intro s U h1
    have p : 2 ^ (k + 1) = 2 * 2 ^ k := by rw [Nat.pow_succ]; omega
    have hs := hlf s
    have hU := hlf U
    have i := ih (s / 2) (U / 2) (by omega)
    have e : s &&& U = 2 * (s / 2 &&& U / 2) + (s % 2) * (U % 2) := by
      conv => lhs; rw [hs, hU]
      exact and_b _ _ _ _ (by omega) (by omega)
    have m2 : (s % 2) * (U % 2) < 2 ∧ (s % 2) * (U % 2) ≤ s % 2 := by
      have hb' : s % 2 = 0 ∨ s % 2 = 1 := by omega
      have he' : U % 2 = 0 ∨ U % 2 = 1 := by omega
      rcases hb' with hb' | hb' <;> rcases he' with he' | he' <;> rw [hb', he'] <;> decide
    show (s &&& U) % 2 + popN k ((s &&& U) / 2) ≤ s % 2 + popN k (s / 2) ∧ ((s &&& U) % 2 + popN k ((s &&& U) / 2) = s % 2 + popN k (s / 2) → _)
    have d1 : (s &&& U) / 2 = (s / 2 &&& U / 2) := Nat.and_div_two
    have d2 : (s &&& U) % 2 = (s % 2) * (U % 2) := by omega
    rw [d1, d2]
    refine ⟨by omega, fun z => ?_⟩
    have := i.2 (by omega)
    rw [e, this]
    omega
theorem key_i (hs : s < 65536) (ht : t < 65536) (h : keyN s = keyN t) : s = t := by
  have r1 := revN_b 16 s
  have r2 := revN_b 16 t
  unfold keyN at h
  exact revN_i 16 s t hs ht (by omega)
theorem key_l (hs : s < 65536) (ht : t < 65536) : keyN s < keyN t ↔ popN 16 s < popN 16 t ∨ (popN 16 s = popN 16 t ∧ revN 16 t < revN 16 s) := by
  have r1 := revN_b 16 s
  have r2 := revN_b 16 t
  unfold keyN
  omega
theorem low_and : ∀ (k d : Nat), d < 2 ^ k → 0 < d → d &&& (2 ^ k - d) = lowN k d := by
  intro k
  induction k with
  | zero => intro d h1 h2; have : d < 1 := h1; omega
  | succ k ih =>
    intro d h1 h2
    have p : 2 ^ (k + 1) = 2 * 2 ^ k := by rw [Nat.pow_succ]; omega
    have hd := hlf d
    show _ = if d % 2 = 1 then 1 else 2 * lowN k (d / 2)
    by_cases y : d % 2 = 1
    · rw [if_pos y]
      have e : 2 ^ (k + 1) - d = 2 * (2 ^ k - 1 - d / 2) + 1 := by omega
      have := and_b (d / 2) 1 (2 ^ k - 1 - d / 2) 1 (by omega) (by omega)
      have hd' : d = 2 * (d / 2) + 1 := by omega
      rw [← hd'] at this
      rw [e, this]
      have c := cm_and k (d / 2) 0 (by omega) (Nat.zero_and _)
      rw [Nat.zero_add, Nat.and_comm] at c
      rw [c]
    · rw [if_neg y]
      have e : 2 ^ (k + 1) - d = 2 * (2 ^ k - d / 2) + 0 := by omega
      have := and_b (d / 2) 0 (2 ^ k - d / 2) 0 (by omega) (by omega)
      have hd' : d = 2 * (d / 2) + 0 := by omega
      rw [← hd', ih (d / 2) (by omega) (by omega)] at this
      rw [e, this, Nat.zero_mul, Nat.add_zero]
end S9cr
