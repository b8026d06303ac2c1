/-! a token is one: class and reference see the same -/
/-- the words as the reference has them, and as the class has them -/
def WR (i : Int) : Int64 := lO LQ183 194 i.toNat
def WC (i : Int) : Int64 := lO LQ183 71 i.toNat
/-- the class's number of a word, as the reference counts it -/
def wp (i : Int) : Int := if i = 6 then 7 else if i = 7 then 6 else i
theorem wp_r {i : Int} (h : 0 ≤ i ∧ i < 28) : 0 ≤ wp i ∧ wp i < 28 := by
  unfold wp
  split
  · omega
  · split
    · omega
    · omega
theorem wp_wp (i : Int) : wp (wp i) = i := by
  unfold wp
  split
  · subst_vars; rfl
  · split
    · subst_vars; rfl
    · rfl
theorem WCR_all : ∀ k : Fin 28, WC (k.val : Int) = WR (wp (k.val : Int)) := by decide +kernel
theorem WR_all : ∀ k j : Fin 28, WR (k.val : Int) = WR (j.val : Int) → k = j := by decide +kernel
theorem WCR {i : Int} (h : 0 ≤ i ∧ i < 28) : WC i = WR (wp i) := by
  have q := WCR_all ⟨i.toNat, by omega⟩
  have e : (((⟨i.toNat, by omega⟩ : Fin 28).val : Nat) : Int) = i := by
    show ((i.toNat : Nat) : Int) = i
    omega
  rw [e] at q
  exact q
theorem WR_inj {i j : Int} (hi : 0 ≤ i ∧ i < 28) (hj : 0 ≤ j ∧ j < 28) (h : WR i = WR j) : i = j := by
  have ei : (((⟨i.toNat, by omega⟩ : Fin 28).val : Nat) : Int) = i := by
    show ((i.toNat : Nat) : Int) = i
    omega
  have ej : (((⟨j.toNat, by omega⟩ : Fin 28).val : Nat) : Int) = j := by
    show ((j.toNat : Nat) : Int) = j
    omega
  have q := WR_all ⟨i.toNat, by omega⟩ ⟨j.toNat, by omega⟩ (by rw [ei, ej]; exact h)
  have q2 := congrArg Fin.val q
  have q3 : i.toNat = j.toNat := q2
  omega
/-- the reference's number of a kind -/
def kr (k : Int) : Int := if k = 1 then -1 else if k = 3 then 1 else if k = 4 then 2 else if 128 ≤ k ∧ k ≤ 130 then k + 172 else if 200 ≤ k ∧ k < 228 then 401 + wp (k - 200) else k
/-- the kinds there are -/
def KdOK (k : Int) : Prop := k = 0 ∨ k = 1 ∨ k = 3 ∨ k = 4 ∨ (128 ≤ k ∧ k ≤ 130) ∨ (200 ≤ k ∧ k < 228) ∨ sgk k
theorem SkR.one {T : Int → Int} {p f g : Int} (h : SkR T p f) (h2 : SkR T p g) : f = g := by
  obtain ⟨a1, a2, a3⟩ := h
  obtain ⟨b1, b2, b3⟩ := h2
  rcases Int.lt_trichotomy f g with c | c | c
  · exact absurd (b2 f a1 c) a3
  · exact c
  · exact absurd (a2 g b1 c) b3
theorem Al.one {P : Int → Prop} {T : Int → Int} {f e g : Int} (h : Al P T f e) (h1 : f ≤ e) (h2 : ¬ P (T e)) (k : Al P T f g) (k1 : f ≤ g) (k2 : ¬ P (T g)) : e = g := by
  rcases Int.lt_trichotomy e g with c | c | c
  · exact absurd (k e h1 c) h2
  · exact c
  · exact absurd (h g k1 c) k2
theorem kr_sg {k : Int} (h : sgk k) : kr k = k := by
  unfold sgk at h
  unfold kr
  rw [if_neg (by omega), if_neg (by omega), if_neg (by omega), if_neg (by omega), if_neg (by omega)]
theorem kr_lt {k : Int} (h : 128 ≤ k ∧ k ≤ 130) : kr k = k + 172 := by
  unfold kr
  rw [if_neg (by omega), if_neg (by omega), if_neg (by omega), if_pos h]
theorem kr_w {k : Int} (h : 200 ≤ k ∧ k < 228) : kr k = 401 + wp (k - 200) := by
  unfold kr
  rw [if_neg (by omega), if_neg (by omega), if_neg (by omega), if_neg (by omega), if_pos h]
theorem Tk_one {T : Int → Int} {n p k f1 e1 tk f2 e2 : Int} {x nm : Int64} {Y1 Y2 : Prop} (hc : TkR 1 3 4 128 200 T WC n p k f1 e1 x Y1) (hr : TkR (-1) 1 2 300 401 T WR n p tk f2 e2 nm Y2) : f2 = f1 ∧ e2 = e1 ∧ KdOK k ∧ tk = kr k ∧ (k = 3 → nm = x) ∧ (k = 4 → Y1 ∧ Y2 ∧ e1 - f1 ≤ 9 ∧ Al dg8 T f1 e1) := by
  obtain ⟨c1, c2, c3, c4⟩ := hc
  obtain ⟨r1, r2, r3, r4⟩ := hr
  obtain rfl := c1.one r1
  refine ⟨rfl, ?_⟩
  have no : ∀ c : Int, lt8 c → dg8 c → False := fun c a b => by unfold lt8 at a; unfold dg8 at b; omega
  rcases c4 with ⟨c5, c6, c7⟩ | ⟨c5, c6, c7, c8, c9⟩ | ⟨c5, c6, c7, c8, c9⟩ | ⟨c5, c6, c7, c8⟩ <;> rcases r4 with ⟨r5, r6, r7⟩ | ⟨r5, r6, r7, r8, r9⟩ | ⟨r5, r6, r7, r8, r9⟩ | ⟨r5, r6, r7, r8⟩
  · rw [c6, r6]
    exact ⟨by omega, Or.inl rfl, rfl, fun q => absurd q (by decide), fun q => absurd q (by decide)⟩
  · omega
  · omega
  · omega
  · omega
  · obtain rfl := Al.one c7 c2 c8 r7 r2 r8
    refine ⟨rfl, ?_⟩
    rcases c9 with ⟨q1, q2⟩ | ⟨q1, q2, q3⟩
    · rcases r9 with ⟨s1, s2⟩ | ⟨s1, s2, s3⟩
      · rw [q2, s2]
        exact ⟨Or.inr (Or.inl rfl), by decide, fun q => absurd q (by decide), fun q => absurd q (by decide)⟩
      · omega
    · rcases r9 with ⟨s1, s2⟩ | ⟨s1, s2, s3⟩
      · omega
      · have hx : nm = x := by rw [s2, q2]
        rcases q3 with ⟨t1, t2⟩ | ⟨i, t1, t2, t3, t4⟩
        · rcases s3 with ⟨u1, u2⟩ | ⟨j, u1, u2, u3, u4⟩
          · rw [t1, u1]
            exact ⟨Or.inr (Or.inr (Or.inl rfl)), by decide, fun _ => hx, fun q => absurd q (by decide)⟩
          · exact absurd (by rw [WCR (wp_r ⟨u1, u2⟩), wp_wp, u4, hx]) (t2 (wp j) (wp_r ⟨u1, u2⟩).1 (wp_r ⟨u1, u2⟩).2)
        · rcases s3 with ⟨u1, u2⟩ | ⟨j, u1, u2, u3, u4⟩
          · exact absurd (by rw [← WCR ⟨t1, t2⟩, t4, hx]) (u2 (wp i) (wp_r ⟨t1, t2⟩).1 (wp_r ⟨t1, t2⟩).2)
          · have hj : j = wp i := WR_inj ⟨u1, u2⟩ (wp_r ⟨t1, t2⟩) (by rw [u4, ← WCR ⟨t1, t2⟩, t4, hx])
            refine ⟨Or.inr (Or.inr (Or.inr (Or.inr (Or.inr (Or.inl (by omega)))))), ?_, fun q => by omega, fun q => by omega⟩
            rw [kr_w (by omega), u3, hj, t3, show (200 + i - 200 : Int) = i by omega]
  · exact (no _ c6 r6).elim
  · exact absurd c6 r6
  · omega
  · exact (no _ r6 c6).elim
  · obtain rfl := Al.one c7 c2 c8 r7 r2 r8
    refine ⟨rfl, ?_⟩
    rcases c9 with ⟨q1, q2, q3, q4⟩ | ⟨q1, q2⟩
    · rcases r9 with ⟨s1, s2, s3, s4⟩ | ⟨s1, s2⟩
      · rw [q3, s3]
        exact ⟨Or.inr (Or.inr (Or.inr (Or.inl rfl))), by decide, fun q => absurd q (by decide), fun _ => ⟨q4, s4, q1, c7⟩⟩
      · rcases s1 with s1 | s1
        · omega
        · exact absurd s1 q2
    · rcases r9 with ⟨s1, s2, s3, s4⟩ | ⟨s1, s2⟩
      · rcases q1 with q1 | q1
        · omega
        · exact absurd q1 s2
      · rw [q2, s2]
        exact ⟨Or.inr (Or.inl rfl), by decide, fun q => absurd q (by decide), fun q => absurd q (by decide)⟩
  · exact absurd c6 r7
  · omega
  · exact absurd r6 c6
  · exact absurd r6 c7
  · unfold Sg at c8 r8
    rcases c8 with ⟨q1, q2, q3, q4⟩ | ⟨q1, q2, q3⟩
    · rcases r8 with ⟨s1, s2, s3, s4⟩ | ⟨s1, s2, s3⟩
      · refine ⟨by omega, Or.inr (Or.inr (Or.inr (Or.inr (Or.inl (by omega))))), ?_, fun q => by omega, fun q => by omega⟩
        rw [kr_lt (by omega)]
        omega
      · exact absurd ⟨q1, q2⟩ s1
    · rcases r8 with ⟨s1, s2, s3, s4⟩ | ⟨s1, s2, s3⟩
      · exact absurd ⟨s1, s2⟩ q1
      · refine ⟨by omega, ?_⟩
        rcases q3 with ⟨t1, t2⟩ | ⟨t1, t2⟩
        · rcases s3 with ⟨u1, u2⟩ | ⟨u1, u2⟩
          · have hk : sgk k := by rw [t2]; exact t1
            refine ⟨Or.inr (Or.inr (Or.inr (Or.inr (Or.inr (Or.inr hk))))), ?_, fun q => ?_, fun q => ?_⟩
            · rw [kr_sg hk, t2, u2]
            · rw [q] at hk; unfold sgk at hk; omega
            · rw [q] at hk; unfold sgk at hk; omega
          · exact absurd t1 u1
        · rcases s3 with ⟨u1, u2⟩ | ⟨u1, u2⟩
          · exact absurd u1 t1
          · rw [t2, u2]
            exact ⟨Or.inr (Or.inl rfl), by decide, fun q => absurd q (by decide), fun q => absurd q (by decide)⟩
theorem li_L (v : Int32) : v.toInt64.toInt32 = v := by
  apply Int32.toBitVec_inj.mp
  simp
theorem nmL_i (T : Int → Int) (f : Int) : ∀ k, (nmL T f k).toInt32 = iI (nm8 T f k)
  | 0 => (by decide +kernel : (0 : Int64).toInt32 = iI 0)
  | k + 1 => by
    show ((nmL T f k * (10 : Int64)) + (iI (T (f + k) - 48)).toInt64).toInt32 = iI (10 * nm8 T f k + (T (f + k) - 48))
    rw [Int64.toInt32_add, Int64.toInt32_mul, nmL_i T f k, li_L, ← iI_add, ← iI_mul, Int32.mul_comm]
    rfl
theorem nm8_b {T : Int → Int} {f : Int} : ∀ k : Nat, (∀ j : Nat, j < k → dg8 (T (f + j))) → 0 ≤ nm8 T f k ∧ nm8 T f k < 10 ^ k
  | 0, _ => by
    show 0 ≤ (0 : Int) ∧ (0 : Int) < 10 ^ 0
    decide
  | k + 1, h => by
    have q := nm8_b k (fun j hj => h j (by omega))
    have c := h k (by omega)
    unfold dg8 at c
    have e : (10 : Int) ^ (k + 1) = 10 ^ k * 10 := Int.pow_succ _ _
    show 0 ≤ 10 * nm8 T f k + (T (f + k) - 48) ∧ 10 * nm8 T f k + (T (f + k) - 48) < 10 ^ (k + 1)
    rw [e]
    omega
theorem pow10_le : ∀ k : Nat, k ≤ 9 → (10 : Int) ^ k ≤ 1000000000 := by decide +kernel
/-- a number of nine digits at most -/
theorem nm8_r {T : Int → Int} {f e : Int} (h : Al dg8 T f e) (h1 : e - f ≤ 9) : 0 ≤ nm8 T f (e - f).toNat ∧ nm8 T f (e - f).toNat ≤ 999999999 := by
  have q := nm8_b (T := T) (f := f) (e - f).toNat (fun j hj => h (f + j) (by omega) (by omega))
  have p := pow10_le (e - f).toNat (by omega)
  omega
