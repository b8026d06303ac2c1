/-! a run, step by step: its answer and its memory are said by formulas -/
def Rt (x : XA) (Q : Value → Mem → Prop) : Prop := ∃ v M, x = some (v, M) ∧ Q v M
theorem rs1 {x x' : XA} {Q : Value → Mem → Prop} (h : x = x') (k : Rt x' Q) : Rt x Q := by
  rw [h]
  exact k
theorem Rt.ok {v : Value} {M : Mem} {Q : Value → Mem → Prop} (h : Q v M) : Rt (some (v, M)) Q := ⟨v, M, rfl, h⟩
theorem Rt.okI {v : Int32} {z : Int} {M : Mem} {Q : Value → Mem → Prop} (hv : v = iI z) (h : Q (.int (iI z)) M) : Rt (some (.int v, M)) Q := ⟨_, M, by rw [hv], h⟩
theorem Rt.mono {x : XA} {Q Q' : Value → Mem → Prop} (h : Rt x Q) (g : ∀ v M, Q v M → Q' v M) : Rt x Q' := by
  obtain ⟨v, M, h1, h2⟩ := h
  exact ⟨v, M, h1, g v M h2⟩
theorem Rt.e {x : XA} {v : Value} {M : Mem} (h : Rt x fun v' M' => v' = v ∧ M' = M) : x = some (v, M) := by
  obtain ⟨v', M', h1, h2, h3⟩ := h
  rw [h1, h2, h3]
theorem Rt.cI {x : XA} {k : Int32 → Mem → XA} {P : Int → Mem → Prop} {Q : Value → Mem → Prop} (h : Rt x fun v M => ∃ z, v = .int (iI z) ∧ P z M) (g : ∀ z M, P z M → Rt (k (iI z) M) Q) : Rt (cI x k) Q := by
  obtain ⟨v, M, h1, z, h2, h3⟩ := h
  subst h2
  rw [cI_e h1]
  exact g z M h3
theorem Rt.cV {x : XA} {k : Mem → XA} {P : Mem → Prop} {Q : Value → Mem → Prop} (h : Rt x fun _ M => P M) (g : ∀ M, P M → Rt (k M) Q) : Rt (cV x k) Q := by
  obtain ⟨v, M, h1, h3⟩ := h
  rw [cV_e h1]
  exact g M h3
theorem Rc_I {x : XA} {k : Int32 → Mem → XA} {P Q : Value → Mem → Prop} (h : Rt x P) (g : ∀ v M, P v M → Rt (cI (some (v, M)) k) Q) : Rt (cI x k) Q := by
  obtain ⟨v, M, h1, h2⟩ := h
  rw [h1]
  exact g v M h2
theorem Rc_L {x : XA} {k : Int64 → Mem → XA} {P Q : Value → Mem → Prop} (h : Rt x P) (g : ∀ v M, P v M → Rt (cL (some (v, M)) k) Q) : Rt (cL x k) Q := by
  obtain ⟨v, M, h1, h2⟩ := h
  rw [h1]
  exact g v M h2
theorem Rc_P {x : XA} {k : Option Nat → Mem → XA} {P Q : Value → Mem → Prop} (h : Rt x P) (g : ∀ v M, P v M → Rt (cP (some (v, M)) k) Q) : Rt (cP x k) Q := by
  obtain ⟨v, M, h1, h2⟩ := h
  rw [h1]
  exact g v M h2
theorem Rc_V {x : XA} {k : Mem → XA} {P Q : Value → Mem → Prop} (h : Rt x P) (g : ∀ v M, P v M → Rt (cV (some (v, M)) k) Q) : Rt (cV x k) Q := by
  obtain ⟨v, M, h1, h2⟩ := h
  rw [h1]
  exact g v M h2
/-- a meeting of ways: what holds where they meet -/
theorem Rt.jn {σ : Type} {f : σ → XA} {k : (σ → XA) → XA} {Q : Value → Mem → Prop} (A : σ → Prop) (hf : ∀ s, A s → Rt (f s) Q) (hk : ∀ j : σ → XA, (∀ s, A s → Rt (j s) Q) → Rt (k j) Q) : Rt (jn f k) Q := hk f hf
/-- a loop: what holds at its head, and a number that falls -/
theorem Rt.lp {σ : Type} {body : σ → (σ → XA) → XA} {Q : Value → Mem → Prop} (A : Nat → σ → Prop) (hb : ∀ m s (go : σ → XA), A m s → (∀ m' s', m' < m → A m' s' → Rt (go s') Q) → Rt (body s go) Q) : ∀ m s n, m < n → A m s → Rt (lp body n s) Q := by
  intro m
  induction m using Nat.strongRecOn with
  | _ m ih =>
    intro s n hn hA
    obtain ⟨n, rfl⟩ : ∃ e, n = e + 1 := ⟨n - 1, by omega⟩
    rw [lp_e]
    exact hb m s _ hA fun m' s' h1 h2 => ih m' h1 s' n (by omega) h2
/-- the number in a cell -/
def V (M : Mem) (a j : Nat) : Int := (M.1 a j).toInt
section S23
variable {M : Mem} {a b j i n u : Nat} {t : Nat × Nat} {v w c e : Int32} {x y z : Int}
theorem eV : M.1 a j = iI (V M a j) := (iI_eta _).symm
theorem V_r : -2147483648 ≤ V M a j ∧ V M a j ≤ 2147483647 := by
  have h1 := Int32.le_toInt (M.1 a j)
  have h2 := Int32.toInt_lt (M.1 a j)
  unfold V
  constructor
  · simpa using h1
  · have h3 : (M.1 a j).toInt < 2147483648 := by simpa using h2
    omega
theorem V_i (h : M.1 a j = iI z) (hz : -2147483648 ≤ z ∧ z ≤ 2147483647) : V M a j = z := by
  unfold V
  rw [h, iI_toInt hz.1 (by omega)]
theorem adI (ha : v = iI x) (hb : w = iI y) : v + w = iI (x + y) := by rw [ha, hb, iI_add]
theorem sbI (ha : v = iI x) (hb : w = iI y) : v - w = iI (x - y) := by rw [ha, hb, iI_sub]
theorem mlI (ha : v = iI x) (hb : w = iI y) : v * w = iI (x * y) := by rw [ha, hb, iI_mul]
theorem ngI (ha : v = iI x) : -v = iI (-x) := by rw [ha, iI_neg]
theorem cvI (h : v = iI x) (e : x = y) : v = iI y := by rw [h, e]
theorem lsI_p (ha : v = iI x) (hb : w = iI y) (h : -2147483648 ≤ x ∧ x < y ∧ y ≤ 2147483647) : v < w := by
  rw [ha, hb, iI_lt (by omega) (by omega) (by omega) (by omega)]
  omega
theorem lsI_n (ha : v = iI x) (hb : w = iI y) (h : -2147483648 ≤ y ∧ y ≤ x ∧ x ≤ 2147483647) : ¬ v < w := by
  rw [ha, hb, iI_lt (by omega) (by omega) (by omega) (by omega)]
  omega
theorem leI_p (ha : v = iI x) (hb : w = iI y) (h : -2147483648 ≤ x ∧ x ≤ y ∧ y ≤ 2147483647) : v ≤ w := by
  rw [ha, hb, iI_le (by omega) (by omega) (by omega) (by omega)]
  omega
theorem leI_n (ha : v = iI x) (hb : w = iI y) (h : -2147483648 ≤ y ∧ y < x ∧ x ≤ 2147483647) : ¬ v ≤ w := by
  rw [ha, hb, iI_le (by omega) (by omega) (by omega) (by omega)]
  omega
theorem eqI_p (ha : v = iI x) (hb : w = iI y) (h : x = y) : v = w := by rw [ha, hb, h]
theorem eqI_n (ha : v = iI x) (hb : w = iI y) (h : -2147483648 ≤ x ∧ x ≤ 2147483647 ∧ -2147483648 ≤ y ∧ y ≤ 2147483647 ∧ ¬ x = y) : ¬ v = w := by
  rw [ha, hb, iI_eq (by omega) (by omega) (by omega) (by omega)]
  omega
theorem sI_eqj (h : i = j) : (sI M a j v).1 a i = v := by rw [h, sI_eq]
theorem sI_nej (h : i ≠ j) : (sI M a j v).1 b i = M.1 b i := by
  show up2 M.1 a j v b i = M.1 b i
  unfold up2
  by_cases h1 : b = a
  · rw [if_pos h1, if_neg h, h1]
  · rw [if_neg h1]
theorem sL_i {v : Int64} : (sL M a j v).1 b i = M.1 b i := rfl
theorem sP_i {v : Option Nat} : (sP M a j v).1 b i = M.1 b i := rfl
theorem sI_l : (sI M a j v).2.1 b i = M.2.1 b i := rfl
theorem sP_l {v : Option Nat} : (sP M a j v).2.1 b i = M.2.1 b i := rfl
theorem sL_ne {v : Int64} (h : b ≠ a) : (sL M a j v).2.1 b i = M.2.1 b i := by
  show up2 M.2.1 a j v b i = M.2.1 b i
  unfold up2
  rw [if_neg h]
theorem sL_eq {v : Int64} : (sL M a j v).2.1 a j = v := by
  show up2 M.2.1 a j v a j = v
  unfold up2
  rw [if_pos rfl, if_pos rfl]
theorem sL_eqj {v : Int64} (h : i = j) : (sL M a j v).2.1 a i = v := by rw [h, sL_eq]
theorem sL_nej {v : Int64} (h : i ≠ j) : (sL M a j v).2.1 b i = M.2.1 b i := by
  show up2 M.2.1 a j v b i = M.2.1 b i
  unfold up2
  by_cases h1 : b = a
  · rw [if_pos h1, if_neg h, h1]
  · rw [if_neg h1]
theorem gtI_q {k : Int32 → XA} (h : M.2.2.2[a]? = some t) (e : M.1 a j = w) : gtI t M (some a) j k = k w := by rw [gtI_e h, e]
theorem gtL_q {w : Int64} {k : Int64 → XA} (h : M.2.2.2[a]? = some t) (e : M.2.1 a j = w) : gtL t M (some a) j k = k w := by rw [gtL_e h, e]
theorem gtP_q {w : Option Nat} {k : Option Nat → XA} (h : M.2.2.2[a]? = some t) (e : M.2.2.1 a j = w) : gtP t M (some a) j k = k w := by rw [gtP_e h, e]
theorem alI_q {k : Int32 → XA} (h : M.2.2.2[a]? = some (u, n)) (hi : c = iI z) (hz : 0 ≤ z ∧ z < n ∧ z ≤ 2147483647) (e : M.1 a z.toNat = w) : alI u M (some a) c k = k w := by rw [hi, alI_e h hz.1 hz.2.1 (by omega), e]
theorem alO_q {k : Int32 → XA} (h : M.2.2.2[a]? = some (u + 100, n)) (hi : c = iI z) (hz : 0 ≤ z ∧ z < n ∧ z ≤ 2147483647) (e : M.1 a z.toNat = w) : alI u M (some a) c k = k w := by rw [hi, alI_o h hz.1 hz.2.1 (by omega), e]
theorem alX_q {k : Int32 → XA} (h : M.2.2.2[a]? = some (u, n)) (hi : c = iI z) (hz : 0 ≤ z ∧ z < n ∧ z ≤ 2147483647) (e : M.1 a z.toNat = w) : alX u M (some a) c k = k w := by rw [hi, alX_e h hz.1 hz.2.1 (by omega), e]
theorem alL_q {w : Int64} {k : Int64 → XA} (h : M.2.2.2[a]? = some (104, n)) (hi : c = iI z) (hz : 0 ≤ z ∧ z < n ∧ z ≤ 2147483647) (e : M.2.1 a z.toNat = w) : alL M (some a) c k = k w := by rw [hi, alL_e h hz.1 hz.2.1 (by omega), e]
theorem alP_q {w : Option Nat} {k : Option Nat → XA} (h : M.2.2.2[a]? = some (u, n)) (hi : c = iI z) (hz : 0 ≤ z ∧ z < n ∧ z ≤ 2147483647) (e : M.2.2.1 a z.toNat = w) : alP u M (some a) c k = k w := by rw [hi, alP_e h hz.1 hz.2.1 (by omega), e]
theorem aln_q {k : Int32 → XA} (h : M.2.2.2[a]? = some (u, n)) (hu : (100 ≤ u ∧ (u ≤ 104 ∨ 110 ≤ u ∧ u ≤ 114)) ∨ (200 ≤ u ∧ u ≠ 220)) : aln M (some a) k = k (iI n) := aln_e h hu
theorem ptI_q {k : Mem → XA} (h : M.2.2.2[a]? = some t) (hv : v = iI z) : ptI t M (some a) j v k = k (sI M a j (iI z)) := by rw [ptI_e h, hv]
theorem ptZ_q {k : Mem → XA} (h : M.2.2.2[a]? = some t) (hv : v = iI z) (hz : 0 ≤ z ∧ z ≤ 1) : ptZ t M (some a) j v k = k (sI M a j (iI z)) := by
  have h2 : z = 0 ∨ z = 1 := by omega
  rw [ptZ_e h (by rcases h2 with rfl | rfl; exact Or.inl hv; exact Or.inr hv), hv]
theorem ptL_q {v w : Int64} {k : Mem → XA} (h : M.2.2.2[a]? = some t) (hv : v = w) : ptL t M (some a) j v k = k (sL M a j w) := by rw [ptL_e h, hv]
theorem asI_q {k : Mem → XA} (h : M.2.2.2[a]? = some (u, n)) (hi : c = iI z) (hz : 0 ≤ z ∧ z < n ∧ z ≤ 2147483647) (hv : v = iI y) : asI u M (some a) c v k = k (sI M a z.toNat (iI y)) := by rw [hi, asI_e h hz.1 hz.2.1 (by omega), hv]
theorem asL_q {v w : Int64} {k : Mem → XA} (h : M.2.2.2[a]? = some (104, n)) (hi : c = iI z) (hz : 0 ≤ z ∧ z < n ∧ z ≤ 2147483647) (hv : v = w) : asL M (some a) c v k = k (sL M a z.toNat w) := by rw [hi, asL_e h hz.1 hz.2.1 (by omega), hv]
theorem rtZ_q (hv : v = iI z) (hz : 0 ≤ z ∧ z ≤ 1) : rtZ v M = some (.int (iI z), M) := by
  have h2 : z = 0 ∨ z = 1 := by omega
  rw [rtZ_e (by rcases h2 with rfl | rfl; exact Or.inl hv; exact Or.inr hv), hv]
theorem ltI_q {k : Int32 → XA} (h : v = iI z) : lt v k = k (iI z) := by rw [h]; rfl
theorem ltL_q {v w : Int64} {k : Int64 → XA} (h : v = w) : lt v k = k w := by rw [h]; rfl
end S23
theorem lgc_p {x y a b : Int64} (ha : a = x) (hb : b = y) (h : x = y) : lg_cmp a b = 0 := by
  rw [ha, hb]
  exact (lg_cmp_eq _ _).mpr h
theorem lgc_n {x y a b : Int64} (ha : a = x) (hb : b = y) (h : ¬ x = y) : ¬ lg_cmp a b = 0 := by
  rw [ha, hb]
  exact fun q => h ((lg_cmp_eq _ _).mp q)
theorem b8_all : ∀ k : Fin 256, (iI ((k.val : Int) - 128)).toInt8.toInt32 = iI ((k.val : Int) - 128) := by decide +kernel
theorem b8_e {v : Int32} {z : Int} (h : v = iI z) (hz : -128 ≤ z ∧ z ≤ 127) : v.toInt8.toInt32 = iI z := by
  have q := b8_all ⟨(z + 128).toNat, by omega⟩
  have e : ((((⟨(z + 128).toNat, by omega⟩ : Fin 256).val : Nat) : Int) - 128) = z := by
    show (((z + 128).toNat : Nat) : Int) - 128 = z
    omega
  rw [e] at q
  rw [h, q]
theorem u16_all : ∀ k : Fin 128, ((iI (k.val : Int)).toUInt32 % 65536).toInt32 = iI (k.val : Int) := by decide +kernel
theorem u16_e {v : Int32} {z : Int} (h : v = iI z) (hz : 0 ≤ z ∧ z ≤ 127) : (v.toUInt32 % 65536).toInt32 = iI z := by
  have q := u16_all ⟨z.toNat, by omega⟩
  have e : (((⟨z.toNat, by omega⟩ : Fin 128).val : Nat) : Int) = z := by
    show ((z.toNat : Nat) : Int) = z
    omega
  rw [e] at q
  rw [h, q]
/-- the places that may have changed; 9999: the whole cell -/
def inW (L : List (Nat × Nat)) (a j : Nat) : Bool := L.any fun q => q.1 == a && (q.2 == 9999 || q.2 == j)
theorem inW_c {L : List (Nat × Nat)} {a : Nat} (h : (a, 9999) ∈ L) (j : Nat) : inW L a j = true := by
  unfold inW
  rw [List.any_eq_true]
  exact ⟨_, h, by simp⟩
theorem inW_n {L : List (Nat × Nat)} {a : Nat} (h : ∀ q, q ∈ L → q.1 ≠ a) (j : Nat) : inW L a j = false := by
  unfold inW
  rw [List.any_eq_false]
  intro q hq
  have := h q hq
  simp [this]
theorem inW_m {L L' : List (Nat × Nat)} (h : ∀ q, q ∈ L → q ∈ L') {a j : Nat} (e : inW L' a j = false) : inW L a j = false := by
  unfold inW at *
  rw [List.any_eq_false] at *
  exact fun q hq => e q (h q hq)
/-- nothing but some numbers has changed -/
def Fr (W : List (Nat × Nat)) (M M' : Mem) : Prop := M'.2.2 = M.2.2 ∧ (∀ a j, inW W a j = false → M'.1 a j = M.1 a j) ∧ ∀ a j, inW W a j = false → M'.2.1 a j = M.2.1 a j
section S23b
variable {W W' : List (Nat × Nat)} {M M' M2 : Mem} {a j : Nat}
theorem Fr.r : Fr W M M := ⟨rfl, fun _ _ _ => rfl, fun _ _ _ => rfl⟩
theorem Fr.i (h : Fr W M M') (a j : Nat) (q : inW W a j = false) : M'.1 a j = M.1 a j := h.2.1 a j q
theorem Fr.l (h : Fr W M M') (a j : Nat) (q : inW W a j = false) : M'.2.1 a j = M.2.1 a j := h.2.2 a j q
theorem Fr.c (h : Fr W M M') (a : Nat) (q : ∀ z, z ∈ W → z.1 ≠ a) (j : Nat) : M'.1 a j = M.1 a j := h.2.1 a j (inW_n q j)
theorem Fr.lc (h : Fr W M M') (a : Nat) (q : ∀ z, z ∈ W → z.1 ≠ a) (j : Nat) : M'.2.1 a j = M.2.1 a j := h.2.2 a j (inW_n q j)
theorem Fr.k (h : Fr W M M') : M'.2.2.2 = M.2.2.2 := congrArg (fun z => z.2) h.1
theorem Fr.p (h : Fr W M M') : M'.2.2.1 = M.2.2.1 := congrArg (fun z => z.1) h.1
theorem Fr.kd {t : Nat × Nat} (h : Fr W M M') (e : M.2.2.2[a]? = some t) : M'.2.2.2[a]? = some t := by rw [h.k]; exact e
theorem Fr.t (h : Fr W M M') (g : Fr W M' M2) : Fr W M M2 := ⟨g.1.trans h.1, fun a j q => (g.2.1 a j q).trans (h.2.1 a j q), fun a j q => (g.2.2 a j q).trans (h.2.2 a j q)⟩
theorem Fr.m (h : Fr W' M M') (g : ∀ q, q ∈ W' → q ∈ W) : Fr W M M' := ⟨h.1, fun a j q => h.2.1 a j (inW_m g q), fun a j q => h.2.2 a j (inW_m g q)⟩
theorem Fr.sI {v : Int32} (q : inW W a j = true) (h : Fr W M M') : Fr W M (sI M' a j v) := ⟨h.1, fun b i e => (by
  by_cases c : b = a
  · by_cases c2 : i = j
    · subst c; subst c2; rw [q] at e; exact absurd e (by decide)
    · rw [sI_nej c2]; exact h.2.1 b i e
  · rw [sI_ne c]; exact h.2.1 b i e), fun b i e => h.2.2 b i e⟩
theorem Fr.sL {v : Int64} (q : inW W a j = true) (h : Fr W M M') : Fr W M (sL M' a j v) := ⟨h.1, fun b i e => h.2.1 b i e, fun b i e => (by
  by_cases c : b = a
  · by_cases c2 : i = j
    · subst c; subst c2; rw [q] at e; exact absurd e (by decide)
    · rw [sL_nej c2]; exact h.2.2 b i e
  · rw [sL_ne c]; exact h.2.2 b i e)⟩
end S23b
