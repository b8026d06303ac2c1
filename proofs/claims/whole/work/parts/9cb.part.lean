/-! cases of a run in the reference: a turn of the loop of run(); sums -/
/-- a sum -/
def psum (f : Int → Int) : Nat → Int
  | 0 => 0
  | k + 1 => psum f k + f k
/-- an ORDER of n CASES -/
def odK (Od : Int → Int) (n : Nat) : Prop := (∀ i : Int, 0 ≤ i → i < n → 0 ≤ Od i ∧ Od i < n) ∧ ∀ f : Int → Int, psum (fun i => f (Od i)) n = psum f n
/-- what is told of a CASE is kept -/
def wv4 (k : Nat) (M : Mem) : Mem := sI (sI (sI (sI M 222 k (M.1 160 101)) 223 k (M.1 160 102)) 224 k (M.1 160 103)) 225 k (M.1 160 81)
section S9cb
variable {d : Nat} {M M' M1 : Mem} {a j N n : Nat} {c p i nc pa V x : Int} {w v1 : Int32} {f g Od : Int → Int}
theorem psum_c (h : ∀ k : Int, 0 ≤ k → k < n → f k = g k) : psum f n = psum g n := by
  induction n with
  | zero => rfl
  | succ n ih =>
    show psum f n + f n = psum g n + g n
    rw [ih fun k a b => h k a (by omega), h n (by omega) (by omega)]
theorem psum_0 (h : ∀ k : Int, 0 ≤ k → k < n → f k = 0) : psum f n = 0 := by
  induction n with
  | zero => rfl
  | succ n ih =>
    show psum f n + f n = 0
    rw [ih fun k a b => h k a (by omega), h n (by omega) (by omega)]
    rfl
theorem psum_u (hi : 0 ≤ i ∧ i < n) : psum (fun k => if k = i then x else f k) n = psum f n - f i + x := by
  induction n with
  | zero => omega
  | succ n ih =>
    show psum (fun k => if k = i then x else f k) n + (if (n : Int) = i then x else f n) = psum f n + f n - f i + x
    by_cases y : (n : Int) = i
    · rw [if_pos y, psum_c (f := fun k => if k = i then x else f k) (g := f) fun k a b => if_neg (by omega), y]
      omega
    · rw [if_neg y, ih (by omega)]
      omega
/-- two places are exchanged -/
theorem psum_s {b : Int} (hi : 0 ≤ i ∧ i < n) (hb : 0 ≤ b ∧ b < n) : psum (fun k => f (if k = i then b else if k = b then i else k)) n = psum f n := by
  by_cases y : i = b
  · refine psum_c fun k _ _ => ?_
    rw [← y]
    by_cases z : k = i
    · rw [if_pos z, z]
    · rw [if_neg z, if_neg z]
  · have e : psum (fun k => f (if k = i then b else if k = b then i else k)) n = psum (fun k => if k = i then f b else (fun k => if k = b then f i else f k) k) n := psum_c fun k _ _ => by
      by_cases z : k = i
      · simp only [if_pos z]
      · by_cases z2 : k = b
        · simp only [if_neg z, if_pos z2]
        · simp only [if_neg z, if_neg z2]
    rw [e, psum_u hi, psum_u hb]
    simp only [if_neg y]
    omega
theorem psum_p (h : ∀ k : Int, 0 ≤ k → k < n → 0 ≤ f k) : 0 ≤ psum f n ∧ ∀ i : Int, 0 ≤ i → i < n → f i ≤ psum f n := by
  induction n with
  | zero => exact ⟨Int.le_refl _, fun i a b => by omega⟩
  | succ n ih =>
    obtain ⟨h1, h2⟩ := ih fun k a b => h k a (by omega)
    have h3 := h n (by omega) (by omega)
    refine ⟨by show 0 ≤ psum f n + f n; omega, fun i a b => ?_⟩
    show f i ≤ psum f n + f n
    by_cases y : i = n
    · rw [y]; omega
    · have := h2 i a (by omega)
      omega
theorem psum_2 (h : ∀ k : Int, 0 ≤ k → k < n → 0 ≤ f k) {b : Int} (hi : 0 ≤ i ∧ i < n) (hb : 0 ≤ b ∧ b < n) (hn : i ≠ b) : f i + f b ≤ psum f n := by
  have e := psum_u (f := f) (x := 0) hi
  have h2 : ∀ k : Int, 0 ≤ k → k < n → 0 ≤ (fun k => if k = i then 0 else f k) k := fun k a b => by
    by_cases y : k = i
    · simp only [if_pos y]; omega
    · simp only [if_neg y]; exact h k a b
  have := (psum_p h2).2 b hb.1 hb.2
  simp only [if_neg (show ¬ b = i from fun z => hn z.symm)] at this
  omega
theorem psum_1 {b : Int} (hb : 0 ≤ b ∧ b < n) : psum (fun k => if k = b then 1 else 0) n = 1 := by
  have e := psum_u (f := fun _ => 0) (x := 1) hb
  rw [psum_0 (f := fun _ => 0) fun _ _ _ => rfl] at e
  exact e
theorem odK.inj (h : odK Od n) {b : Int} (hi : 0 ≤ i ∧ i < n) (hb : 0 ≤ b ∧ b < n) (e : Od i = Od b) : i = b := by
  by_cases y : i = b
  · exact y
  · have q := h.1 i hi.1 hi.2
    have e1 := h.2 fun k => if k = Od i then 1 else 0
    rw [psum_1 q] at e1
    have := psum_2 (f := fun k => if Od k = Od i then 1 else 0) (fun k _ _ => by
      by_cases z : Od k = Od i
      · simp only [if_pos z]; omega
      · simp only [if_neg z]; omega) hi hb y
    rw [e1] at this
    simp only [if_pos e.symm] at this
    simp at this
theorem odK.sur (h : odK Od n) (hc : 0 ≤ c ∧ c < n) : ∃ i : Int, 0 ≤ i ∧ i < n ∧ Od i = c := by
  by_cases y : ∃ i : Int, 0 ≤ i ∧ i < n ∧ Od i = c
  · exact y
  · have e1 := h.2 fun k => if k = c then 1 else 0
    rw [psum_1 hc, psum_0 (f := fun i => if Od i = c then 1 else 0) fun k a b => if_neg fun z => y ⟨k, a, b, z⟩] at e1
    cases e1
theorem odK.id : odK (fun i => i) n := ⟨fun i a b => ⟨a, b⟩, fun f => rfl⟩
theorem odK.sw (h : odK Od n) {b : Int} (hi : 0 ≤ i ∧ i < n) (hb : 0 ≤ b ∧ b < n) : odK (fun k => Od (if k = i then b else if k = b then i else k)) n := by
  refine ⟨fun k x y => h.1 _ ?_ ?_, fun f => ?_⟩
  · by_cases z : k = i
    · rw [if_pos z]; exact hb.1
    · by_cases z2 : k = b
      · rw [if_neg z, if_pos z2]; exact hi.1
      · rw [if_neg z, if_neg z2]; exact x
  · by_cases z : k = i
    · rw [if_pos z]; exact hb.2
    · by_cases z2 : k = b
      · rw [if_neg z, if_pos z2]; exact hi.2
      · rw [if_neg z, if_neg z2]; exact y
  · exact (psum_s (f := fun k => f (Od k)) hi hb).trans (h.2 f)
theorem wv4_o (h : ¬ ((a = 222 ∨ a = 223 ∨ a = 224 ∨ a = 225) ∧ j = n)) : (wv4 n M).1 a j = M.1 a j := by
  have g : ∀ (M : Mem) (k : Nat) (w : Int32), (k = 222 ∨ k = 223 ∨ k = 224 ∨ k = 225) → (sI M k n w).1 a j = M.1 a j := fun M k w hk => by
    by_cases y : a = k
    · rw [y]; exact sI_nej fun z => h ⟨by omega, z⟩
    · exact sI_ne y
  unfold wv4
  exact (g _ 225 _ (by decide)).trans ((g _ 224 _ (by decide)).trans ((g _ 223 _ (by decide)).trans (g _ 222 _ (by decide))))
theorem wv4_2 : (wv4 n M).2 = M.2 := rfl
theorem wv4_e : (wv4 n M).1 222 n = M.1 160 101 ∧ (wv4 n M).1 223 n = M.1 160 102 ∧ (wv4 n M).1 224 n = M.1 160 103 ∧ (wv4 n M).1 225 n = M.1 160 81 := by
  unfold wv4
  exact ⟨(sI_ne (by decide)).trans ((sI_ne (by decide)).trans ((sI_ne (by decide)).trans sI_eq)), (sI_ne (by decide)).trans ((sI_ne (by decide)).trans sI_eq), (sI_ne (by decide)).trans sI_eq, sI_eq⟩
theorem r257_e {J : Int32 × Mem → XA} (hR : RT M) (hp : 0 ≤ p ∧ p ≤ 7) (h : M.1 176 p.toNat = iI nc) (hl : nc ≤ i ∧ i ≤ 1000 ∧ 0 ≤ nc) (hN : 0 < N) (hv : v1 = iI p) : lp (c257_83 (runX d) (some 160) v1 J) N (w, iI i, M) = J (w, M) := by
  obtain ⟨N, rfl⟩ : ∃ e, N = e + 1 := ⟨N - 1, by omega⟩
  rw [lp_e]
  unfold c257_83
  dsimp only
  rw [gtP_q (rk_160 hR) (rf_17 hR), alI_q (rk_176 hR) hv (by omega) h, if_pos (leI_p rfl rfl (by omega))]
theorem r257_t {J : Int32 × Mem → XA} (hR : RT M) (hp : 0 ≤ p ∧ p ≤ 7) (h : M.1 176 p.toNat = iI nc) (hi : 0 ≤ i ∧ i < nc ∧ nc ≤ 16) (ho : M.1 183 (16 * p + i).toNat = iI c) (hc : 0 ≤ c ∧ c < 16) (e : runX d 254 [va_rf (some 160), .int (iI c)] (sI M 160 93 (iI i)) = some (.null, M1)) (h2 : M1.2 = M.2) (hV : M1.1 160 101 = iI V) (hVb : 1 ≤ V ∧ V ≤ 5) (hv : v1 = iI p) : lp (c257_83 (runX d) (some 160) v1 J) (N + 1) (iI pa, iI i, M) = lp (c257_83 (runX d) (some 160) v1 J) N (iI (pa + if V = 1 then 1 else 0), iI (i + 1), wv4 (16 * p + c).toNat M1) := by
  have R1 : RT M1 := ⟨fun q z => by rw [congrArg (fun z => z.2.2) h2]; exact hR.1 q z, fun q z => by rw [congrArg (fun z => z.2.1) h2]; exact hR.2 q z⟩
  have kr := rk_160 hR
  have k1 := rk_160 R1
  subst hv
  have i16 : (16 : Int32) * iI p + iI i = iI (16 * p + i) := adI (mlI li_16 rfl) rfl
  have c16 : (16 : Int32) * iI p + iI c = iI (16 * p + c) := adI (mlI li_16 rfl) rfl
  rw [lp_e]
  generalize lp (c257_83 (runX d) (some 160) (iI p) J) N = go
  unfold c257_83
  dsimp only
  rw [gtP_q kr (rf_17 hR), alI_q (rk_176 hR) rfl (by omega) h, if_neg (leI_n rfl rfl (by omega)), gtP_q kr (rf_24 hR), alI_q (rk_183 hR) i16 (by omega) ho, ptI_e kr, vC_e (M := sI M 160 93 (iI i)) kr, cV_e e]
  rw [gtP_q k1 (rf_105 R1), gtI_q k1 hV, c16, asI_e (rk_222 R1) (by omega) (by omega) (by omega)]
  rw [gtP_q (M := sI M1 222 (16 * p + c).toNat (iI V)) k1 (rf_106 R1), gtI_q (M := sI M1 222 (16 * p + c).toNat (iI V)) (w := M1.1 160 102) k1 (sI_ne (by decide)), asI_e (M := sI M1 222 (16 * p + c).toNat (iI V)) (rk_223 R1) (by omega) (by omega) (by omega)]
  rw [gtP_q (M := sI (sI M1 222 (16 * p + c).toNat (iI V)) 223 (16 * p + c).toNat (M1.1 160 102)) k1 (rf_107 R1), gtI_q (M := sI (sI M1 222 (16 * p + c).toNat (iI V)) 223 (16 * p + c).toNat (M1.1 160 102)) (w := M1.1 160 103) k1 ((sI_ne (by decide)).trans (sI_ne (by decide))), asI_e (M := sI (sI M1 222 (16 * p + c).toNat (iI V)) 223 (16 * p + c).toNat (M1.1 160 102)) (rk_224 R1) (by omega) (by omega) (by omega)]
  rw [gtP_q (M := sI (sI (sI M1 222 (16 * p + c).toNat (iI V)) 223 (16 * p + c).toNat (M1.1 160 102)) 224 (16 * p + c).toNat (M1.1 160 103)) k1 (rf_108 R1), gtI_q (M := sI (sI (sI M1 222 (16 * p + c).toNat (iI V)) 223 (16 * p + c).toNat (M1.1 160 102)) 224 (16 * p + c).toNat (M1.1 160 103)) (w := M1.1 160 81) k1 ((sI_ne (by decide)).trans ((sI_ne (by decide)).trans (sI_ne (by decide)))), asI_e (M := sI (sI (sI M1 222 (16 * p + c).toNat (iI V)) 223 (16 * p + c).toNat (M1.1 160 102)) 224 (16 * p + c).toNat (M1.1 160 103)) (rk_225 R1) (by omega) (by omega) (by omega)]
  have ew : sI (sI (sI (sI M1 222 (16 * p + c).toNat (iI V)) 223 (16 * p + c).toNat (M1.1 160 102)) 224 (16 * p + c).toNat (M1.1 160 103)) 225 (16 * p + c).toNat (M1.1 160 81) = wv4 (16 * p + c).toNat M1 := by unfold wv4; rw [hV]
  rw [ew]
  have g101 : (wv4 (16 * p + c).toNat M1).1 160 101 = iI V := (wv4_o (by omega)).trans hV
  rw [gtI_q (M := wv4 (16 * p + c).toNat M1) k1 g101, jn_v]
  by_cases y : V = 1
  · rw [if_pos (eqI_p rfl li_1 y), jv_e, if_pos y, ltI_q (adI rfl li_1)]
    exact ltI_q (adI rfl li_1)
  · rw [if_neg (eqI_n rfl li_1 (by omega)), jv_e, if_neg y, ltI_q (adI rfl li_0)]
    exact ltI_q (adI rfl li_1)
end S9cb
