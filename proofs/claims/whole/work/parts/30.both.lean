/-! two runs side by side: the class's on one memory, the reference's on another -/
def Rs (x y : XA) (Q : Value → Mem → Value → Mem → Prop) : Prop := ∃ v M w N, x = some (v, M) ∧ y = some (w, N) ∧ Q v M w N
section S30
variable {x x' y y' : XA} {Q Q' P : Value → Mem → Value → Mem → Prop} {P1 : Value → Mem → Prop}
theorem rsl (h : x = x') (k : Rs x' y Q) : Rs x y Q := by
  rw [h]
  exact k
theorem rsr (h : y = y') (k : Rs x y' Q) : Rs x y Q := by
  rw [h]
  exact k
theorem Rs.ok {v w : Value} {M N : Mem} (h : Q v M w N) : Rs (some (v, M)) (some (w, N)) Q := ⟨v, M, w, N, rfl, rfl, h⟩
theorem Rs.mono (h : Rs x y Q) (g : ∀ v M w N, Q v M w N → Q' v M w N) : Rs x y Q' := by
  obtain ⟨v, M, w, N, h1, h2, h3⟩ := h
  exact ⟨v, M, w, N, h1, h2, g v M w N h3⟩
/-- a call of one side -/
theorem RlI {k : Int32 → Mem → XA} (h : Rt x P1) (g : ∀ v M, P1 v M → Rs (cI (some (v, M)) k) y Q) : Rs (cI x k) y Q := by
  obtain ⟨v, M, h1, h2⟩ := h
  rw [h1]
  exact g v M h2
theorem RlL {k : Int64 → Mem → XA} (h : Rt x P1) (g : ∀ v M, P1 v M → Rs (cL (some (v, M)) k) y Q) : Rs (cL x k) y Q := by
  obtain ⟨v, M, h1, h2⟩ := h
  rw [h1]
  exact g v M h2
theorem RlP {k : Option Nat → Mem → XA} (h : Rt x P1) (g : ∀ v M, P1 v M → Rs (cP (some (v, M)) k) y Q) : Rs (cP x k) y Q := by
  obtain ⟨v, M, h1, h2⟩ := h
  rw [h1]
  exact g v M h2
theorem RlV {k : Mem → XA} (h : Rt x P1) (g : ∀ v M, P1 v M → Rs (cV (some (v, M)) k) y Q) : Rs (cV x k) y Q := by
  obtain ⟨v, M, h1, h2⟩ := h
  rw [h1]
  exact g v M h2
theorem RrI {k : Int32 → Mem → XA} (h : Rt y P1) (g : ∀ v M, P1 v M → Rs x (cI (some (v, M)) k) Q) : Rs x (cI y k) Q := by
  obtain ⟨v, M, h1, h2⟩ := h
  rw [h1]
  exact g v M h2
theorem RrL {k : Int64 → Mem → XA} (h : Rt y P1) (g : ∀ v M, P1 v M → Rs x (cL (some (v, M)) k) Q) : Rs x (cL y k) Q := by
  obtain ⟨v, M, h1, h2⟩ := h
  rw [h1]
  exact g v M h2
theorem RrP {k : Option Nat → Mem → XA} (h : Rt y P1) (g : ∀ v M, P1 v M → Rs x (cP (some (v, M)) k) Q) : Rs x (cP y k) Q := by
  obtain ⟨v, M, h1, h2⟩ := h
  rw [h1]
  exact g v M h2
theorem RrV {k : Mem → XA} (h : Rt y P1) (g : ∀ v M, P1 v M → Rs x (cV (some (v, M)) k) Q) : Rs x (cV y k) Q := by
  obtain ⟨v, M, h1, h2⟩ := h
  rw [h1]
  exact g v M h2
/-- a call of both -/
theorem Rb_VV {k k' : Mem → XA} (h : Rs x y P) (g : ∀ v M w N, P v M w N → Rs (cV (some (v, M)) k) (cV (some (w, N)) k') Q) : Rs (cV x k) (cV y k') Q := by
  obtain ⟨v, M, w, N, h1, h2, h3⟩ := h
  rw [h1, h2]
  exact g v M w N h3
theorem Rb_II {k k' : Int32 → Mem → XA} (h : Rs x y P) (g : ∀ v M w N, P v M w N → Rs (cI (some (v, M)) k) (cI (some (w, N)) k') Q) : Rs (cI x k) (cI y k') Q := by
  obtain ⟨v, M, w, N, h1, h2, h3⟩ := h
  rw [h1, h2]
  exact g v M w N h3
theorem Rb_VI {k : Mem → XA} {k' : Int32 → Mem → XA} (h : Rs x y P) (g : ∀ v M w N, P v M w N → Rs (cV (some (v, M)) k) (cI (some (w, N)) k') Q) : Rs (cV x k) (cI y k') Q := by
  obtain ⟨v, M, w, N, h1, h2, h3⟩ := h
  rw [h1, h2]
  exact g v M w N h3
theorem Rb_IV {k : Int32 → Mem → XA} {k' : Mem → XA} (h : Rs x y P) (g : ∀ v M w N, P v M w N → Rs (cI (some (v, M)) k) (cV (some (w, N)) k') Q) : Rs (cI x k) (cV y k') Q := by
  obtain ⟨v, M, w, N, h1, h2, h3⟩ := h
  rw [h1, h2]
  exact g v M w N h3
/-- loops of both: turn by turn -/
theorem Rb_lp {σ τ : Type} {bl : σ → (σ → XA) → XA} {br : τ → (τ → XA) → XA} (A : Nat → σ → τ → Prop) (hb : ∀ m s t (gl : σ → XA) (gr : τ → XA), A m s t → (∀ m' s' t', m' < m → A m' s' t' → Rs (gl s') (gr t') Q) → Rs (bl s gl) (br t gr) Q) : ∀ m s t n n', m < n → m < n' → A m s t → Rs (lp bl n s) (lp br n' t) Q := by
  intro m
  induction m using Nat.strongRecOn with
  | _ m ih =>
    intro s t n n' hn hn' hA
    obtain ⟨n, rfl⟩ : ∃ e, n = e + 1 := ⟨n - 1, by omega⟩
    obtain ⟨n', rfl⟩ : ∃ e, n' = e + 1 := ⟨n' - 1, by omega⟩
    rw [lp_e, lp_e]
    exact hb m s t _ _ hA fun m' s' t' h1 h2 => ih m' h1 s' t' n n' (by omega) (by omega) h2
/-- a loop of the left side alone -/
theorem Rl_lp {σ : Type} {body : σ → (σ → XA) → XA} (A : Nat → σ → Prop) (hb : ∀ m s (go : σ → XA), A m s → (∀ m' s', m' < m → A m' s' → Rs (go s') y Q) → Rs (body s go) y Q) : ∀ m s n, m < n → A m s → Rs (lp body n s) y Q := by
  intro m
  induction m using Nat.strongRecOn with
  | _ m ih =>
    intro s n hn hA
    obtain ⟨n, rfl⟩ : ∃ e, n = e + 1 := ⟨n - 1, by omega⟩
    rw [lp_e]
    exact hb m s _ hA fun m' s' h1 h2 => ih m' h1 s' n (by omega) h2
theorem Rr_lp {σ : Type} {body : σ → (σ → XA) → XA} (A : Nat → σ → Prop) (hb : ∀ m s (go : σ → XA), A m s → (∀ m' s', m' < m → A m' s' → Rs x (go s') Q) → Rs x (body s go) Q) : ∀ m s n, m < n → A m s → Rs x (lp body n s) Q := by
  intro m
  induction m using Nat.strongRecOn with
  | _ m ih =>
    intro s n hn hA
    obtain ⟨n, rfl⟩ : ∃ e, n = e + 1 := ⟨n - 1, by omega⟩
    rw [lp_e]
    exact hb m s _ hA fun m' s' h1 h2 => ih m' h1 s' n (by omega) h2
/-- one run, then the other -/
theorem Rs.seq (h : Rt x fun v M => Rt y fun w N => Q v M w N) : Rs x y Q := by
  obtain ⟨v, M, h1, w, N, h2, h3⟩ := h
  exact ⟨v, M, w, N, h1, h2, h3⟩
/-- both sides meet -/
theorem Rb_jn {σ τ : Type} {f : σ → XA} {g : τ → XA} {k : (σ → XA) → XA} {k' : (τ → XA) → XA} (A : σ → τ → Prop) (hf : ∀ s t, A s t → Rs (f s) (g t) Q) (hk : ∀ (j : σ → XA) (j' : τ → XA), (∀ s t, A s t → Rs (j s) (j' t) Q) → Rs (k j) (k' j') Q) : Rs (jn f k) (jn g k') Q := hk f g hf
/-- a call of the left side, done beside all that the right does; then what is left of the left -/
theorem Rs_cVl {k : Mem → XA} (h : Rs x y P) (g : ∀ v M w N, P v M w N → Rt (k M) fun v' M' => Q v' M' w N) : Rs (cV x k) y Q := by
  obtain ⟨v, M, w, N, h1, h2, h3⟩ := h
  obtain ⟨v', M', h4, h5⟩ := g v M w N h3
  exact ⟨v', M', w, N, by rw [cV_e h1, h4], h2, h5⟩
end S30
