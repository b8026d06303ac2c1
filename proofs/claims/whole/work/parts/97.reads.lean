/-! what the first object's machine reads and never writes -/
def zsd (p : Int) : Int := if p < 1000 then 0 else 1
/-- a cell that nobody writes -/
def stC (κ : ZK) (a : Nat) : Prop := 259 ≤ a ∧ a ≠ κ 8 0 ∧ a ≠ κ 8 1 ∧ a ≠ κ 8 2
/-- a side that is there -/
def zSd (e : ZS) (q : Int) : Prop := q = 0 ∨ (q = 1 ∧ e.1 22 0 0 = 1)
/-- codes -/
def zE1 (e : ZS) (κ : ZK) (M : Mem) : Prop := (e.1 22 0 0 = 1 ∨ (e.1 22 0 0 = 0 ∧ e.1 21 1 0 = 0 ∧ e.1 24 1 0 = 0)) ∧ (0 ≤ e.1 21 0 0 ∧ e.1 21 0 0 ≤ 1000 ∧ 0 ≤ e.1 21 1 0 ∧ e.1 21 1 0 ≤ 1000) ∧ ∀ q, zSd e q → (M.2.2.1 91 q.toNat = some (κ 0 q) ∧ M.2.2.2[κ 0 q]? = some (6, 18) ∧ stC κ (κ 0 q) ∧ M.1 (κ 0 q) 5 = iI (e.1 21 q 0) ∧ M.1 (κ 0 q) 0 = iI (e.1 29 q 0)) ∧ (M.2.2.1 (κ 0 q) 6 = some (κ 1 q) ∧ M.2.2.1 (κ 0 q) 7 = some (κ 2 q) ∧ M.2.2.1 (κ 0 q) 8 = some (κ 3 q)) ∧ (∀ k, k = 1 ∨ k = 2 ∨ k = 3 → M.2.2.2[κ k q]? = some (100, (e.1 21 q 0).toNat) ∧ stC κ (κ k q)) ∧ ∀ j, 0 ≤ j → j < e.1 21 q 0 → M.1 (κ 1 q) j.toNat = iI (e.1 0 (1000 * q + j) 0) ∧ M.1 (κ 2 q) j.toNat = iI (e.1 1 (1000 * q + j) 0) ∧ M.1 (κ 3 q) j.toNat = iI (e.1 19 (1000 * q + j) 0)
/-- members -/
def zE2 (e : ZS) (κ : ZK) (M : Mem) : Prop := (∀ q, zSd e q → (0 ≤ e.1 24 q 0 ∧ e.1 24 q 0 ≤ 96) ∧ M.2.2.1 (κ 0 q) 2 = some (κ 4 q) ∧ stC κ (κ 4 q) ∧ ∃ ow : Nat → Int, Ls M ow (κ 4 q) (fun j => κ 6 (96 * q + j)) (e.1 24 q 0) 1) ∧ ∀ id, zId e id → (stC κ (κ 6 id) ∧ M.2.2.2[κ 6 id]? = some (8, 9)) ∧ M.1 (κ 6 id) 1 = iI (e.1 3 id 0 - (if id < 96 then 0 else 8)) ∧ M.1 (κ 6 id) 2 = iI (e.1 4 id 0) ∧ M.1 (κ 6 id) 4 = iI (e.1 5 id 0) ∧ e.2 0 id 0 = iI (e.1 5 id 0) ∧ (e.1 4 id 0 = 4 → M.1 (κ 6 id) 5 = iI (e.1 6 id 0 - (if id < 96 then 0 else 1000)) ∧ zIn e (e.1 6 id 0) ∧ (e.1 6 id 0 < 1000 ↔ id < 96)) ∧ M.1 (κ 6 id) 8 = iI (e.1 23 id 0 - (if id < 96 then 0 else 4800)) ∧ (0 ≤ e.1 4 id 0 ∧ e.1 4 id 0 ≤ 4 ∧ (e.1 4 id 0 = 3 → 1 ≤ e.1 5 id 0 ∧ e.1 5 id 0 ≤ 50) ∧ (e.1 4 id 0 = 4 → 0 ≤ e.1 5 id 0 ∧ e.1 5 id 0 ≤ 4))
/-- how long a member is among the values -/
def zlen (e : ZS) (id : Int) : Int := if e.1 4 id 0 = 3 then e.1 5 id 0 else 1
def zE4 (e : ZS) : Prop := (∀ id, zId e id → (if id < 96 then 0 else 4800) ≤ e.1 23 id 0 ∧ e.1 23 id 0 + zlen e id ≤ (if id < 96 then 4800 else 9600)) ∧ ∀ i j, zId e i → zId e j → i ≠ j → e.1 23 i 0 + zlen e i ≤ e.1 23 j 0 ∨ e.1 23 j 0 + zlen e j ≤ e.1 23 i 0
/-- units -/
def zE3 (e : ZS) (κ : ZK) (M : Mem) : Prop := (∀ q, zSd e q → (0 ≤ e.1 25 q 0 ∧ e.1 25 q 0 ≤ 8) ∧ M.2.2.1 (κ 0 q) 1 = some (κ 5 q) ∧ stC κ (κ 5 q) ∧ (∃ ow : Nat → Int, Ls M ow (κ 5 q) (fun j => κ 7 (8 * q + j)) (e.1 25 q 0) 1) ∧ ∀ k, 0 ≤ k → k < e.1 25 q 0 → (stC κ (κ 7 (8 * q + k)) ∧ M.2.2.2[κ 7 (8 * q + k)]? = some (11, 10)) ∧ M.1 (κ 7 (8 * q + k)) 1 = iI (e.1 26 (8 * q + k) 0) ∧ M.1 (κ 7 (8 * q + k)) 2 = iI (e.1 27 (8 * q + k) 0) ∧ M.1 (κ 7 (8 * q + k)) 5 = iI (if e.1 7 (8 * q + k) 0 < 0 then -2 else e.1 7 (8 * q + k) 0 - 1000 * q) ∧ (0 ≤ e.1 26 (8 * q + k) 0 ∧ e.1 26 (8 * q + k) 0 ≤ e.1 27 (8 * q + k) 0 ∧ e.1 27 (8 * q + k) 0 ≤ e.1 24 q 0) ∧ (∀ m, 0 ≤ m → m < e.1 24 q 0 → (e.1 3 (96 * q + m) 0 = 8 * q + k ↔ e.1 26 (8 * q + k) 0 ≤ m ∧ m < e.1 27 (8 * q + k) 0)) ∧ (0 ≤ e.1 7 (8 * q + k) 0 → zIn e (e.1 7 (8 * q + k) 0) ∧ (e.1 7 (8 * q + k) 0 < 1000 ↔ q = 0))) ∧ ∀ id, zId e id → (if id < 96 then 0 ≤ e.1 3 id 0 ∧ e.1 3 id 0 < e.1 25 0 0 else 8 ≤ e.1 3 id 0 ∧ e.1 3 id 0 < 8 + e.1 25 1 0)
/-- numbers of the run -/
def zE5 (e : ZS) (κ : ZK) (M : Mem) : Prop := (M.1 88 1 = iI (e.1 20 0 0) ∧ M.1 88 3 = iI (if e.1 8 0 0 < 0 then -2 else e.1 8 0 0) ∧ (e.1 10 0 0 = 1 → M.1 88 5 = iI (e.1 16 0 0 + 1) ∧ κ 12 0 = 1) ∧ M.1 88 6 = iI (if e.1 10 0 0 = 1 then 2 else if e.1 10 1 0 = 1 then 1 else 0) ∧ M.2.2.1 88 4 = if e.1 10 2 0 = 1 then some 143 else none) ∧ (M.2.2.1 (κ 0 0) 12 = some (κ 9 0) ∧ M.2.2.2[κ 9 0]? = some (113, 3) ∧ ∀ i : Nat, i < 3 → M.2.2.1 (κ 9 0) i = some (κ 8 i) ∧ M.2.2.2[κ 8 i]? = some (100, (e.1 21 0 0).toNat) ∧ 259 ≤ κ 8 i) ∧ (κ 8 0 ≠ κ 8 1 ∧ κ 8 0 ≠ κ 8 2 ∧ κ 8 1 ≠ κ 8 2) ∧ (1 ≤ e.1 20 0 0 ∧ e.1 20 0 0 ≤ 1000) ∧ (e.1 10 0 0 = 1 → e.1 10 1 0 = 1 ∧ e.1 22 0 0 = 0 ∧ 0 ≤ e.1 16 0 0 ∧ e.1 16 0 0 < 16) ∧ (0 ≤ e.1 8 0 0 → e.1 22 0 0 = 0 ∧ e.1 8 0 0 < e.1 21 0 0 ∧ iw (e.1 0 (e.1 8 0 0) 0) ≠ -1)
/-- BUILD -/
def zE6 (e : ZS) (κ : ZK) (M : Mem) : Prop := (M.2.2.1 88 9 = if e.1 22 0 0 = 1 then some (κ 10 0) else none) ∧ (e.1 22 0 0 = 1 → M.2.2.2[κ 10 0]? = some (1, 4) ∧ stC κ (κ 11 0) ∧ M.2.2.1 (κ 10 0) 3 = some (κ 11 0) ∧ M.2.2.2[κ 11 0]? = some (100, (e.1 24 0 0).toNat) ∧ ∀ m, 0 ≤ m → m < e.1 24 0 0 → M.1 (κ 11 0) m.toNat = iI (e.1 28 m 0)) ∧ ∀ p, zIn e p → 3 ≤ zop e p → zop e p ≤ 7 → (p < 1000 → (0 ≤ e.1 1 p 0 ∧ e.1 1 p 0 < e.1 24 0 0) ∧ (e.1 22 0 0 = 0 → e.1 2 p 0 = e.1 1 p 0) ∧ (e.1 22 0 0 = 1 → (e.1 28 (e.1 1 p 0) 0 = -2 ∧ e.1 2 p 0 = e.1 1 p 0) ∨ (0 ≤ e.1 28 (e.1 1 p 0) 0 ∧ e.1 28 (e.1 1 p 0) 0 < e.1 24 1 0 ∧ e.1 2 p 0 = 96 + e.1 28 (e.1 1 p 0) 0) ∨ (e.1 28 (e.1 1 p 0) 0 < -2 ∧ -13 ≤ e.1 28 (e.1 1 p 0) 0 ∧ e.1 2 p 0 = e.1 28 (e.1 1 p 0) 0))) ∧ (1000 ≤ p → (0 ≤ e.1 1 p 0 ∧ e.1 1 p 0 < e.1 24 1 0) ∧ e.1 2 p 0 = 96 + e.1 1 p 0)
/-- DOUBLES -/
def zStd (M : Mem) (q pid m : Int) : Prop := ∃ n, M.1 (zTw q) 0 = iI n ∧ 0 ≤ n ∧ n ≤ 100000 ∧ M.1 (zTw q) 7 = iI pid ∧ M.1 (zTw q) 8 = iI m
def zE7 (e : ZS) (M : Mem) : Prop := (∀ q, 0 ≤ q → q < 8 → (∃ n pp mm, M.1 (zTw q) 0 = iI n ∧ -2 ≤ n ∧ n ≤ 100000 ∧ M.1 (zTw q) 7 = iI pp ∧ 0 ≤ pp ∧ pp ≤ 100 ∧ M.1 (zTw q) 8 = iI mm ∧ 0 ≤ mm ∧ mm ≤ 1000) ∧ M.1 (zTw q) 2 = iI (e.1 12 q 0) ∧ (0 ≤ e.1 12 q 0 ∧ e.1 12 q 0 ≤ 8) ∧ ∀ r, 0 ≤ r → r < 8 → M.1 (zTw q + 1) (4 * r).toNat = iI (e.1 13 q r) ∧ M.1 (zTw q + 1) (4 * r + 1).toNat = e.2 1 q r ∧ M.1 (zTw q + 1) (4 * r + 2).toNat = iI (e.1 14 q r) ∧ M.1 (zTw q + 1) (4 * r + 3).toNat = e.2 2 q r ∧ (0 ≤ e.1 14 q r ∧ e.1 14 q r ≤ 1)) ∧ (0 ≤ e.1 29 0 0 ∧ e.1 29 0 0 < 8 ∧ 0 ≤ e.1 29 1 0 ∧ e.1 29 1 0 < 8) ∧ ∀ id, zId e id → e.1 4 id 0 = 4 → (e.1 11 id 0 = -1 ∧ ∀ q, 0 ≤ q → q < 8 → ¬ zStd M q (e.1 29 (if id < 96 then 0 else 1) 0) (if id < 96 then id else id - 96)) ∨ (0 ≤ e.1 11 id 0 ∧ e.1 11 id 0 < 8 ∧ zStd M (e.1 11 id 0) (e.1 29 (if id < 96 then 0 else 1) 0) (if id < 96 then id else id - 96) ∧ M.1 (zTw (e.1 11 id 0)) 1 = iI (e.1 5 id 0) ∧ (∀ r, 0 ≤ r → r < e.1 12 (e.1 11 id 0) 0 → -1 ≤ e.1 13 (e.1 11 id 0) r ∧ e.1 13 (e.1 11 id 0) r < e.1 5 id 0) ∧ ∀ q, 0 ≤ q → q < 8 → q ≠ e.1 11 id 0 → ¬ zStd M q (e.1 29 (if id < 96 then 0 else 1) 0) (if id < 96 then id else id - 96))
def zCE (e : ZS) (κ : ZK) (M : Mem) : Prop := zE1 e κ M ∧ zE2 e κ M ∧ zE3 e κ M ∧ zE4 e ∧ zE5 e κ M ∧ zE6 e κ M ∧ zE7 e M
section S97
variable {d : Nat} {e s s' : ZS} {κ : ZK} {M M' M2 : Mem} {a j : Nat} {v : Int32} {c t k i n : Int}
theorem zFo.st (f : zFo κ M M') (h : stC κ a) (j : Nat) : M'.1 a j = M.1 a j := f.2 a j (inW_n (fun z y => by
  have g : ∀ z, z ∈ W_x → z.1 < 259 := by decide
  have := g z y
  have := h.1
  omega) j) (fun _ => h.2.1) (fun _ => h.2.2.1) (fun _ => h.2.2.2)
theorem zFo.kd (f : zFo κ M M') : M'.2.2.2 = M.2.2.2 := congrArg (fun z => z.2.2) f.1
theorem zFo.p (f : zFo κ M M') : M'.2.2.1 = M.2.2.1 := congrArg (fun z => z.2.1) f.1
theorem zE5.k8 (h : zE5 e κ M) : zK8 κ := fun i hi => by
  rcases hi with hi | hi | hi <;> subst hi
  · exact (h.2.1.2.2 0 (by decide)).2.2
  · exact (h.2.1.2.2 1 (by decide)).2.2
  · exact (h.2.1.2.2 2 (by decide)).2.2
theorem zFo.f (f : zFo κ M M') (hk : zK8 κ) (h : inW W_x a j = false) (ha : a < 259) : M'.1 a j = M.1 a j := f.2 a j h (by have := hk 0 (by omega); omega) (by have := hk 1 (by omega); omega) (by have := hk 2 (by omega); omega)
theorem zTw_x {q : Int} (h : 0 ≤ q ∧ q < 8) : zTw q < 200 ∧ (∀ j, j = 0 ∨ j = 1 ∨ j = 2 ∨ j = 7 ∨ j = 8 → inW W_x (zTw q) j = false) ∧ ∀ j, inW W_x (zTw q + 1) j = false := by
  have c : q = 0 ∨ q = 1 ∨ q = 2 ∨ q = 3 ∨ q = 4 ∨ q = 5 ∨ q = 6 ∨ q = 7 := by omega
  rcases c with c | c | c | c | c | c | c | c <;> subst c <;> exact ⟨by decide, (by rintro j (rfl | rfl | rfl | rfl | rfl) <;> decide), inW_n (by decide)⟩
theorem zE1.fo (h : zE1 e κ M) (f : zFo κ M M') : zE1 e κ M' := by
  obtain ⟨h1, h2, h3⟩ := h
  refine ⟨h1, h2, fun q p => ?_⟩
  obtain ⟨⟨a1, a2, a3, a4, a5⟩, b, c, g⟩ := h3 q p
  rw [f.p, f.kd]
  refine ⟨⟨a1, a2, a3, (f.st a3 _).trans a4, (f.st a3 _).trans a5⟩, b, c, fun j u w => ?_⟩
  rw [f.st (c 1 (by omega)).2, f.st (c 2 (by omega)).2, f.st (c 3 (by omega)).2]
  exact g j u w
theorem Ls.zfo {ow : Nat → Int} {C : Int → Nat} {r : Int} (h : Ls M ow a C n r) (f : zFo κ M M') (hs : stC κ a) : Ls M' ow a C n r := by
  obtain ⟨⟨h1, h2, h3, h4⟩, h5, h6, D, cap, h7⟩ := h
  unfold Ls
  rw [f.p, f.kd, f.st hs]
  exact ⟨⟨h1, h2, h3, h4⟩, h5, h6, D, cap, h7⟩
theorem zE2.fo (h : zE2 e κ M) (f : zFo κ M M') : zE2 e κ M' := by
  obtain ⟨h1, h2⟩ := h
  refine ⟨fun q p => ?_, fun id p => ?_⟩
  · obtain ⟨a1, a2, a3, ow, a4⟩ := h1 q p
    exact ⟨a1, by rw [f.p]; exact a2, a3, ow, a4.zfo f a3⟩
  · obtain ⟨⟨a1, a2⟩, a3⟩ := h2 id p
    rw [f.kd, f.st a1, f.st a1, f.st a1, f.st a1, f.st a1]
    exact ⟨⟨a1, a2⟩, a3⟩
theorem zE3.fo (h : zE3 e κ M) (f : zFo κ M M') : zE3 e κ M' := by
  obtain ⟨h1, h2⟩ := h
  refine ⟨fun q p => ?_, h2⟩
  obtain ⟨a1, a2, a3, ⟨ow, a4⟩, a5⟩ := h1 q p
  refine ⟨a1, by rw [f.p]; exact a2, a3, ⟨ow, a4.zfo f a3⟩, fun k u w => ?_⟩
  obtain ⟨⟨b1, b2⟩, b3⟩ := a5 k u w
  rw [f.kd, f.st b1, f.st b1, f.st b1]
  exact ⟨⟨b1, b2⟩, b3⟩
theorem zE5.fo (h : zE5 e κ M) (f : zFo κ M M') : zE5 e κ M' := by
  have hk := h.k8
  obtain ⟨⟨h1, h2, h3, h4, h5⟩, h6, h7⟩ := h
  unfold zE5
  rw [f.p, f.kd, f.f hk (a := 88) (j := 1) (by decide) (by decide), f.f hk (a := 88) (j := 3) (by decide) (by decide), f.f hk (a := 88) (j := 5) (by decide) (by decide), f.f hk (a := 88) (j := 6) (by decide) (by decide)]
  exact ⟨⟨h1, h2, h3, h4, h5⟩, h6, h7⟩
theorem zE6.fo (h : zE6 e κ M) (f : zFo κ M M') : zE6 e κ M' := by
  obtain ⟨h1, h2, h3⟩ := h
  refine ⟨by rw [f.p]; exact h1, fun q => ?_, h3⟩
  obtain ⟨a1, a2, a3, a4, a5⟩ := h2 q
  rw [f.p, f.kd]
  exact ⟨a1, a2, a3, a4, fun m u w => (f.st a2 _).trans (a5 m u w)⟩
theorem zStd.fo {q pid m : Int} (hk : zK8 κ) (hq : 0 ≤ q ∧ q < 8) (f : zFo κ M M') : zStd M' q pid m ↔ zStd M q pid m := by
  obtain ⟨c1, c2, c3⟩ := zTw_x hq
  unfold zStd
  rw [f.f hk (c2 0 (by omega)) (by omega), f.f hk (c2 7 (by omega)) (by omega), f.f hk (c2 8 (by omega)) (by omega)]
theorem zE7.fo (h : zE7 e M) (hk : zK8 κ) (f : zFo κ M M') : zE7 e M' := by
  obtain ⟨h1, h2, h3⟩ := h
  refine ⟨fun q p r => ?_, h2, fun id p r => ?_⟩
  · obtain ⟨c1, c2, c3⟩ := zTw_x ⟨p, r⟩
    obtain ⟨a1, a2, a3, a4⟩ := h1 q p r
    rw [f.f hk (c2 0 (by omega)) (by omega), f.f hk (c2 7 (by omega)) (by omega), f.f hk (c2 8 (by omega)) (by omega), f.f hk (c2 2 (by omega)) (by omega)]
    refine ⟨a1, a2, a3, fun r u w => ?_⟩
    rw [f.f hk (c3 _) (by omega), f.f hk (c3 _) (by omega), f.f hk (c3 _) (by omega), f.f hk (c3 _) (by omega)]
    exact a4 r u w
  · rcases h3 id p r with ⟨a1, a2⟩ | ⟨a1, a2, a3, a4, a5, a6⟩
    · exact Or.inl ⟨a1, fun q u w z => a2 q u w ((zStd.fo hk ⟨u, w⟩ f).1 z)⟩
    · obtain ⟨c1, c2, c3⟩ := zTw_x ⟨a1, a2⟩
      exact Or.inr ⟨a1, a2, (zStd.fo hk ⟨a1, a2⟩ f).2 a3, (f.f hk (c2 1 (by omega)) (by omega)).trans a4, a5, fun q u w x z => a6 q u w x ((zStd.fo hk ⟨u, w⟩ f).1 z)⟩
theorem zCE.fo (h : zCE e κ M) (f : zFo κ M M') : zCE e κ M' := by
  obtain ⟨h1, h2, h3, h4, h5, h6, h7⟩ := h
  exact ⟨h1.fo f, h2.fo f, h3.fo f, h4, h5.fo f, h6.fo f, h7.fo h5.k8 f⟩
end S97
