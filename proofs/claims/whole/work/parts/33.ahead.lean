/-! the two parsers ahead of a FAULT: the token that comes -/
theorem TkR.kd {T : Int → Int} {W : Int → Int64} {n p k f e : Int} {x : Int64} {Y : Prop} (h : TkR 1 3 4 128 200 T W n p k f e x Y) : KdOK k := by
  obtain ⟨-, -, -, h⟩ := h
  unfold KdOK
  rcases h with ⟨-, h, -⟩ | ⟨-, -, -, -, h⟩ | ⟨-, -, -, -, h⟩ | ⟨-, -, -, h⟩
  · omega
  · rcases h with ⟨-, h⟩ | ⟨-, -, ⟨h, -⟩ | ⟨i, h1, h2, h3, -⟩⟩ <;> omega
  · rcases h with ⟨-, -, h, -⟩ | ⟨-, h⟩ <;> omega
  · unfold Sg at h
    rcases h with ⟨-, -, -, h⟩ | ⟨-, -, ⟨h1, h2⟩ | ⟨-, h⟩⟩
    · omega
    · rw [h2]
      exact Or.inr (Or.inr (Or.inr (Or.inr (Or.inr (Or.inr h1)))))
    · omega
theorem KdOK.r {k : Int} (h : KdOK k) : 0 ≤ k ∧ k ≤ 227 ∧ k ≠ 2 := by
  unfold KdOK sgk at h
  omega
theorem wp_inj {a b : Int} (h : wp a = wp b) : a = b := by rw [← wp_wp a, h, wp_wp]
theorem kr_inj {a b : Int} (ha : KdOK a) (hb : KdOK b) (h : kr a = kr b) : a = b := by
  have k0 : kr 0 = 0 := by decide
  have k1 : kr 1 = -1 := by decide
  have k3 : kr 3 = 1 := by decide
  have k4 : kr 4 = 2 := by decide
  have w : ∀ c, 200 ≤ c ∧ c < 228 → 401 ≤ kr c ∧ kr c ≤ 428 := fun c q => by
    rw [kr_w q]
    have := wp_r (i := c - 200) (by omega)
    omega
  unfold KdOK at ha hb
  rcases ha with ha | ha | ha | ha | ha | ha | ha <;> rcases hb with hb | hb | hb | hb | hb | hb | hb
  all_goals first
    | omega
    | (simp only [ha, hb, k0, k1, k3, k4] at h; omega)
    | (simp only [ha, k0, k1, k3, k4, kr_lt hb] at h; omega)
    | (simp only [hb, k0, k1, k3, k4, kr_lt ha] at h; omega)
    | (simp only [ha, k0, k1, k3, k4] at h; have := w _ hb; omega)
    | (simp only [hb, k0, k1, k3, k4] at h; have := w _ ha; omega)
    | (simp only [ha, k0, k1, k3, k4, kr_sg hb] at h; unfold sgk at hb; omega)
    | (simp only [hb, k0, k1, k3, k4, kr_sg ha] at h; unfold sgk at ha; omega)
    | (rw [kr_lt ha, kr_lt hb] at h; omega)
    | (rw [kr_lt ha] at h; have := w _ hb; omega)
    | (rw [kr_lt hb] at h; have := w _ ha; omega)
    | (rw [kr_lt ha, kr_sg hb] at h; unfold sgk at hb; omega)
    | (rw [kr_lt hb, kr_sg ha] at h; unfold sgk at ha; omega)
    | (rw [kr_w ha, kr_w hb] at h; have := wp_inj (a := a - 200) (b := b - 200) (by omega); omega)
    | (rw [kr_sg hb] at h; have := w _ ha; unfold sgk at hb; omega)
    | (rw [kr_sg ha] at h; have := w _ hb; unfold sgk at ha; omega)
    | (rw [kr_sg ha, kr_sg hb] at h; exact h)
theorem kr_p {a k c : Int} (h : a = k) (e : kr k = c) : kr a = c := by rw [h, e]
theorem kr_n {a k c : Int} (ha : KdOK a) (hk : KdOK k) (e : kr k = c) (h : a ≠ k) : kr a ≠ c := fun q => h (kr_inj ha hk (by rw [q, e]))
theorem kr_r {a : Int} (ha : KdOK a) : -1 ≤ kr a ∧ kr a ≤ 428 := by
  have k0 : kr 0 = 0 := by decide
  have k1 : kr 1 = -1 := by decide
  have k3 : kr 3 = 1 := by decide
  have k4 : kr 4 = 2 := by decide
  unfold KdOK at ha
  rcases ha with rfl | rfl | rfl | rfl | ha | ha | ha
  · omega
  · omega
  · omega
  · omega
  · rw [kr_lt ha]; omega
  · rw [kr_w ha]
    have := wp_r (i := a - 200) (by omega)
    omega
  · rw [kr_sg ha]; unfold sgk at ha; omega
/-- the tokens of the tape, all -/
def TkS (T : Int → Int) (n m : Int) (kd pl E : Int → Int) (tx : Int → Int64) : Prop := Tks T WC n m kd pl tx E ∧ LastE kd m ∧ m ≤ 1400 ∧ n ≤ 3000
/-- what the reference knows of a name or a number that is looked at -/
def NmR (Mr : Mem) (k : Int) (x : Int64) : Prop := (k = 3 → Mr.2.1 160 39 = x) ∧ (k = 4 → Mr.1 160 40 = x.toInt32)
section S33
variable {T : Int → Int} {n m : Int} {kd pl E : Int → Int} {tx : Int → Int64}
theorem TkS.ok (h : TkS T n m kd pl E tx) (i : Int) (h1 : 0 ≤ i) (h2 : i < m) : KdOK (kd i) := (h.1 i h1 h2).kd
theorem TkS.nr (h : TkS T n m kd pl E tx) (i : Int) (h1 : 0 ≤ i) (h2 : i < m) (h4 : kd i = 4) : ∃ z : Int, (tx i).toInt32 = iI z ∧ 0 ≤ z ∧ z ≤ 999999999 := by
  have q := h.1 i h1 h2
  obtain ⟨-, -, -, q⟩ := q
  rcases q with ⟨-, q, -⟩ | ⟨-, -, -, -, q⟩ | ⟨-, -, q3, -, q⟩ | ⟨-, -, -, q⟩
  · omega
  · rcases q with ⟨-, q⟩ | ⟨-, -, ⟨q, -⟩ | ⟨i, q1, q2, q3, -⟩⟩ <;> omega
  · rcases q with ⟨q1, -, -, q4⟩ | ⟨-, q⟩
    · exact ⟨_, by rw [q4]; exact nmL_i _ _ _, nm8_r q3 q1⟩
    · omega
  · unfold Sg at q
    rcases q with ⟨-, -, -, q⟩ | ⟨-, -, ⟨q1, q2⟩ | ⟨-, q⟩⟩
    · omega
    · unfold sgk at q1; omega
    · omega
/-- behind a token that is neither the end nor none another one comes -/
theorem TkS.more (h : TkS T n m kd pl E tx) (i : Int) (h1 : 0 ≤ i) (h2 : i < m) (h3 : kd i ≠ 0 ∧ kd i ≠ 1) : i + 1 < m := by
  rcases Int.lt_or_le (i + 1) m with q | q
  · exact q
  · have e : i = m - 1 := by omega
    have := h.2.1.2.2
    rw [← e] at this
    omega
theorem E_nn (h : TkS T n m kd pl E tx) : ∀ i : Int, 0 ≤ i → i < m → 0 ≤ E i := by
  have key : ∀ k : Nat, (k : Int) < m → 0 ≤ E (k : Int) := by
    intro k
    induction k with
    | zero =>
      intro hk
      have q := h.1 0 (by omega) (by omega)
      have e : prv E 0 = 0 := rfl
      rw [e] at q
      have a := q.1.1
      have b := q.2.1
      show 0 ≤ E 0
      omega
    | succ k ih =>
      intro hk
      have q := h.1 ((k : Int) + 1) (by omega) (by omega)
      have e : prv E ((k : Int) + 1) = E (k : Int) := by
        unfold prv
        rw [if_neg (by omega), show (k : Int) + 1 - 1 = k by omega]
      rw [e] at q
      have a := q.1.1
      have b := q.2.1
      have c := ih (by omega)
      show 0 ≤ E ((k : Int) + 1)
      omega
  intro i h1 h2
  have := key i.toNat (by omega)
  rw [show ((i.toNat : Nat) : Int) = i by omega] at this
  exact this
/-- next(), ahead of a FAULT -/
theorem nx_ok {d : Nat} {M : Mem} (hd : 4 ≤ d) (hS : TkS T n m kd pl E tx) (hR : RT M) (hT : Tp 160 1 161 T n M) (hW : ∀ i, 0 ≤ i → i < 28 → M.2.1 194 i.toNat = WR i) {i : Int} (hf : M.1 160 41 = iI 0) (hp : M.1 160 38 = iI (E i)) (h : 0 ≤ i ∧ i < m) (h3 : kd i ≠ 0 ∧ kd i ≠ 1) : Rt (runX d 191 [va_rf (some 160)] M) (fun _ M2 => Fr W_nx M M2 ∧ M2.1 160 36 = iI (kr (kd (i + 1))) ∧ M2.1 160 37 = iI (pl (i + 1)) ∧ M2.1 160 38 = iI (E (i + 1)) ∧ NmR M2 (kd (i + 1)) (tx (i + 1))) := by
  have hm := hS.more i h.1 h.2 h3
  have q := hS.1 (i + 1) (by omega) hm
  have hE : prv E (i + 1) = E i := by
    unfold prv
    rw [if_neg (by omega), show i + 1 - 1 = i by omega]
  rw [hE] at q
  have hEi : 0 ≤ E i ∧ E i ≤ n := by
    have q0 := hS.1 i h.1 h.2
    have q1 := q0.2.2.1
    have q2 := q.1.1
    have q3 := q.2.1
    have q4 := q.2.2.1
    have : 0 ≤ prv E i → 0 ≤ E i := fun z => by
      have := q0.1.1
      have := q0.2.1
      omega
    refine ⟨?_, q1⟩
    rcases Int.lt_or_le (E i) 0 with c | c
    · exfalso
      exact absurd (E_nn hS i h.1 h.2) (by omega)
    · exact c
  have hn := hT.2.1
  have hm2 := hT.2.2.1
  refine (z191 hd hR hT hW hf hp ⟨hEi.1, hEi.2, hm2⟩).mono fun v M2 z => ?_
  obtain ⟨tk, f, e, nb, nm, z1, z2, z3, z4, z5, z6, -, z7⟩ := z
  obtain ⟨r1, r2, -, r4, r5, r6⟩ := Tk_one q z7
  subst r1; subst r2; subst r4
  refine ⟨z1, z2, z3, z4, fun c => ?_, fun c => ?_⟩
  · rw [z6, r5 c]
  · obtain ⟨a1, a2, a3, a4⟩ := r6 c
    rw [z5, a1, nmL_i, a2 a3]
end S33
