/-! DOUBLES: what stands of them, for both -/
/-- 0 number (-1: none), 1 parcel, 2 member, 3 parameters, 12 RULES, 13 argument, 14 fails -/
def dbP (D : Nat → Int → Int → Int) (np : Int) (g : Int → PG) : Prop := ∀ q, 0 ≤ q → q < 8 → (-1 ≤ D 0 q 0 ∧ D 0 q 0 ≤ 100000) ∧ (0 ≤ D 1 q 0 ∧ D 1 q 0 ≤ 7) ∧ (0 ≤ D 2 q 0 ∧ D 2 q 0 ≤ 95) ∧ (0 ≤ D 12 q 0 ∧ D 12 q 0 ≤ 8) ∧ (∀ r, 0 ≤ r → r < 8 → 0 ≤ D 14 q r ∧ D 14 q r ≤ 1) ∧ (0 ≤ D 0 q 0 → D 1 q 0 < np ∧ D 2 q 0 < (gR (g (D 1 q 0))).1 2 0 0 ∧ (gR (g (D 1 q 0))).1 2 2 (D 2 q 0) = 4 ∧ D 3 q 0 = (gR (g (D 1 q 0))).1 2 4 (D 2 q 0) ∧ ∀ r, 0 ≤ r → r < D 12 q 0 → -1 ≤ D 13 q r ∧ D 13 q r < D 3 q 0) ∧ ∀ q', 0 ≤ q' → q' < 8 → 0 ≤ D 0 q 0 → 0 ≤ D 0 q' 0 → D 1 q 0 = D 1 q' 0 → D 2 q 0 = D 2 q' 0 → q = q'
def dbC (D : Nat → Int → Int → Int) (W : Nat → Int → Int → Int32) (M : Mem) : Prop := ∀ q, 0 ≤ q → q < 8 → (M.1 (zTw q) 0 = iI (if D 0 q 0 < 0 then -2 else D 0 q 0) ∧ M.1 (zTw q) 7 = iI (D 1 q 0) ∧ M.1 (zTw q) 8 = iI (D 2 q 0) ∧ M.1 (zTw q) 2 = iI (D 12 q 0) ∧ (0 ≤ D 0 q 0 → M.1 (zTw q) 1 = iI (D 3 q 0))) ∧ ∀ r, 0 ≤ r → r < 8 → M.1 (zTw q + 1) (4 * r).toNat = iI (D 13 q r) ∧ M.1 (zTw q + 1) (4 * r + 1).toNat = W 1 q r ∧ M.1 (zTw q + 1) (4 * r + 2).toNat = iI (D 14 q r) ∧ M.1 (zTw q + 1) (4 * r + 3).toNat = W 2 q r
def dbR (D : Nat → Int → Int → Int) (W : Nat → Int → Int → Int32) (M : Mem) : Prop := ∀ q, 0 ≤ q → q < 8 → (M.1 227 q.toNat = iI (D 0 q 0) ∧ M.1 228 q.toNat = iI (D 1 q 0) ∧ M.1 229 q.toNat = iI (D 2 q 0) ∧ M.1 230 q.toNat = iI (D 12 q 0)) ∧ ∀ r, 0 ≤ r → r < 8 → M.1 231 (8 * q + r).toNat = iI (D 13 q r) ∧ M.1 232 (8 * q + r).toNat = W 1 q r ∧ M.1 233 (8 * q + r).toNat = iI (D 14 q r) ∧ M.1 234 (8 * q + r).toNat = W 2 q r
def dSt (D : Nat → Int → Int → Int) (p m q : Int) : Prop := 0 ≤ D 0 q 0 ∧ D 1 q 0 = p ∧ D 2 q 0 = m
def seat (D : Nat → Int → Int → Int) (p m : Int) : Nat → Int
  | 0 => -1
  | k + 1 => if 0 ≤ D 0 k 0 ∧ D 1 k 0 = p ∧ D 2 k 0 = m then (k : Int) else seat D p m k
def dD (D : Nat → Int → Int → Int) (p0 p1 : Int) : Nat → Int → Int → Int := fun k i j => if k = 11 then (if i < 96 then seat D p0 i 8 else seat D p1 (i - 96) 8) else D k i j
section S9bv
variable {g : Int → PG} {g0 g1 : PG} {fr p0 p1 np : Int} {L lk : Int → Int} {P : Nat → Int} {D : Nat → Int → Int → Int} {W : Nat → Int → Int → Int32} {j m p x l o q id k u : Int} {e : ZS} {M : Mem} {Z : Nat → Nat → Prop} {M' : Mem}
theorem seat_s (D : Nat → Int → Int → Int) (p m : Int) : ∀ k : Nat, (seat D p m k = -1 ∧ ∀ q : Int, 0 ≤ q → q < k → ¬ dSt D p m q) ∨ (0 ≤ seat D p m k ∧ seat D p m k < k ∧ dSt D p m (seat D p m k))
  | 0 => Or.inl ⟨rfl, fun q a b => by omega⟩
  | k + 1 => by
    by_cases y : dSt D p m k
    · right
      have e : seat D p m (k + 1) = (k : Int) := if_pos y
      rw [e]
      exact ⟨by omega, by omega, y⟩
    · have e : seat D p m (k + 1) = seat D p m k := if_neg y
      rw [e]
      rcases seat_s D p m k with ⟨a, b⟩ | ⟨a, b, c⟩
      · refine Or.inl ⟨a, fun q h1 h2 => ?_⟩
        by_cases z : q = k
        · rw [z]; exact y
        · exact b q h1 (by omega)
      · exact Or.inr ⟨a, by omega, c⟩
theorem dbC.st (h : dbC D W M) (hP : dbP D np g) (hq : 0 ≤ q ∧ q < 8) (hp : 0 ≤ p ∧ p ≤ 7) (hm : 0 ≤ m ∧ m ≤ 95) : zStd M q p m ↔ dSt D p m q := by
  obtain ⟨⟨h1, h2, h3, -⟩, -⟩ := h q hq.1 hq.2
  obtain ⟨p1, p2, p3, -⟩ := hP q hq.1 hq.2
  constructor
  · rintro ⟨n, a, b, c, d, f⟩
    rw [h1] at a; rw [h2] at d; rw [h3] at f
    have d' := iI_in d (by omega) (by omega)
    have f' := iI_in f (by omega) (by omega)
    by_cases y : D 0 q 0 < 0
    · rw [if_pos y] at a
      have := iI_in a (by omega) (by omega)
      omega
    · exact ⟨by omega, d', f'⟩
  · rintro ⟨a, b, c⟩
    rw [if_neg (by omega)] at h1
    exact ⟨_, h1, a, p1.2, by rw [h2, b], by rw [h3, c]⟩
theorem dbR.st (h : dbR D W M) (hP : dbP D np g) (hq : 0 ≤ q ∧ q < 8) (hp : 0 ≤ p ∧ p ≤ 7) (hm : 0 ≤ m ∧ m ≤ 95) : zRst M q p m ↔ dSt D p m q := by
  obtain ⟨⟨h1, h2, h3, -⟩, -⟩ := h q hq.1 hq.2
  obtain ⟨p1, p2, p3, -⟩ := hP q hq.1 hq.2
  constructor
  · rintro ⟨n, a, b, c, d, f⟩
    rw [h1] at a; rw [h2] at d; rw [h3] at f
    have d' := iI_in d (by omega) (by omega)
    have f' := iI_in f (by omega) (by omega)
    have := iI_in a (by omega) (by omega)
    exact ⟨by omega, d', f'⟩
  · rintro ⟨a, b, c⟩
    exact ⟨_, h1, a, p1.2, by rw [h2, b], by rw [h3, c]⟩
theorem dD_0 (y : id < 96) : dD D p0 p1 11 id 0 = seat D p0 id 8 := (if_pos rfl).trans (if_pos y)
theorem dD_1 (y : ¬ id < 96) : dD D p0 p1 11 id 0 = seat D p1 (id - 96) 8 := (if_pos rfl).trans (if_neg y)
/-- whose DOUBLE it is -/
theorem seat_d (hP : dbP D np g) (h : dSt D p m q) (hq : 0 ≤ q ∧ q < 8) : seat D p m 8 = q := by
  rcases seat_s D p m 8 with ⟨-, b⟩ | ⟨a, b, c⟩
  · exact absurd h (b q hq.1 hq.2)
  · obtain ⟨-, -, -, -, -, -, u⟩ := hP (seat D p m 8) a b
    exact u q hq.1 hq.2 c.1 h.1 (c.2.1.trans h.2.1.symm) (c.2.2.trans h.2.2.symm)
theorem zE7.mk (h : zEO (g p0) (g p1) fr p0 p1 L lk P (dD D p0 p1)) (hP : dbP D np g) (hC : dbC D W M) : zE7 (zenv (g p0) (g p1) fr p0 p1 lk P (dD D p0 p1) W) M := by
  have b0 := h.1.2.2
  have b1 := h.2.2.2.1
  have n0 := h.1.1.n2
  refine ⟨fun q a b => ?_, ⟨b0.1, b0.2, b1.1, b1.2⟩, fun id hi h4 => ?_⟩
  · obtain ⟨⟨h1, h2, h3, h4, h5⟩, h6⟩ := hC q a b
    obtain ⟨y1, y2, y3, y4, y5, -⟩ := hP q a b
    refine ⟨⟨_, _, _, h1, ?_, ?_, h2, y2.1, by omega, h3, y3.1, by omega⟩, h4, y4, fun r c d => ?_⟩
    · split <;> omega
    · split <;> omega
    · obtain ⟨z1, z2, z3, z4⟩ := h6 r c d
      exact ⟨z1, z2, z3, z4, y5 r c d⟩
  · have gen : ∀ (m : Int) (pp : Int), (0 ≤ pp ∧ pp ≤ 7) → (0 ≤ m ∧ m ≤ 95) → (seat D pp m 8 = -1 ∧ ∀ q, 0 ≤ q → q < 8 → ¬ zStd M q pp m) ∨ (0 ≤ seat D pp m 8 ∧ seat D pp m 8 < 8 ∧ zStd M (seat D pp m 8) pp m ∧ M.1 (zTw (seat D pp m 8)) 1 = iI ((gR (g pp)).1 2 4 m) ∧ (∀ r, 0 ≤ r → r < D 12 (seat D pp m 8) 0 → -1 ≤ D 13 (seat D pp m 8) r ∧ D 13 (seat D pp m 8) r < (gR (g pp)).1 2 4 m) ∧ ∀ q, 0 ≤ q → q < 8 → q ≠ seat D pp m 8 → ¬ zStd M q pp m) := fun m pp hp hm => by
      rcases seat_s D pp m 8 with ⟨a, b⟩ | ⟨a, b, c⟩
      · exact Or.inl ⟨a, fun q u w => by rw [hC.st hP ⟨u, w⟩ hp hm]; exact b q u w⟩
      · obtain ⟨-, -, -, -, -, y6, y7⟩ := hP _ a b
        obtain ⟨w1, w2, w3, w4, w5⟩ := y6 c.1
        obtain ⟨⟨-, -, -, -, h5⟩, -⟩ := hC _ a b
        have h5' := h5 c.1
        rw [c.2.1, c.2.2] at w4
        refine Or.inr ⟨a, b, (hC.st hP ⟨a, b⟩ hp hm).2 c, by rw [h5', w4], fun r u w => by rw [← w4]; exact w5 r u w, fun q u w z => ?_⟩
        rw [hC.st hP ⟨u, w⟩ hp hm]
        intro c2
        exact z (y7 q u w c.1 c2.1 (c.2.1.trans c2.2.1.symm) (c.2.2.trans c2.2.2.symm)).symm
    by_cases y : id < 96
    · rw [if_pos y, if_pos y]
      have hi' : 0 ≤ id := by rcases hi with hi | hi <;> omega
      have e11 : (zenv (g p0) (g p1) fr p0 p1 lk P (dD D p0 p1) W).1 11 id 0 = seat D p0 id 8 := dD_0 y
      have e5 : (zenv (g p0) (g p1) fr p0 p1 lk P (dD D p0 p1) W).1 5 id 0 = (gR (g p0)).1 2 4 id := if_pos y
      rw [e11, e5]
      exact gen id p0 ⟨b0.1, by omega⟩ ⟨hi', by omega⟩
    · rw [if_neg y, if_neg y]
      have hi' : id - 96 ≤ 95 := by
        rcases hi with ⟨-, hi⟩ | ⟨-, hi⟩
        · have hi2 : id < (gR (g p0)).1 2 0 0 := hi
          omega
        · have hi2 : id < 96 + (if fr = 1 then (gR (g p1)).1 2 0 0 else 0) := hi
          by_cases z : fr = 1
          · have := (h.2.2.1 z).1.n2
            rw [if_pos z] at hi2; omega
          · rw [if_neg z] at hi2; omega
      have e11 : (zenv (g p0) (g p1) fr p0 p1 lk P (dD D p0 p1) W).1 11 id 0 = seat D p1 (id - 96) 8 := dD_1 y
      have e5 : (zenv (g p0) (g p1) fr p0 p1 lk P (dD D p0 p1) W).1 5 id 0 = (gR (g p1)).1 2 4 (id - 96) := if_neg y
      rw [e11, e5]
      exact gen (id - 96) p1 ⟨b1.1, by omega⟩ ⟨by omega, hi'⟩
theorem zR7.mk (h : zEO (g p0) (g p1) fr p0 p1 L lk P (dD D p0 p1)) (hP : dbP D np g) (hC : dbR D W M) : zR7 (zenv (g p0) (g p1) fr p0 p1 lk P (dD D p0 p1) W) M := by
  have b0 := h.1.2.2
  have b1 := h.2.2.2.1
  have n0 := h.1.1.n2
  refine ⟨fun q a b => ?_, ⟨b0.1, b0.2, b1.1, b1.2⟩, fun id hi h4 => ?_⟩
  · obtain ⟨⟨h1, h2, h3, h4⟩, h6⟩ := hC q a b
    obtain ⟨y1, y2, y3, y4, y5, -⟩ := hP q a b
    refine ⟨⟨_, _, _, h1, by omega, by omega, h2, y2.1, by omega, h3, y3.1, by omega⟩, h4, y4, fun r c d => ?_⟩
    obtain ⟨z1, z2, z3, z4⟩ := h6 r c d
    exact ⟨z1, z2, z3, z4, y5 r c d⟩
  · have gen : ∀ (m : Int) (pp : Int), (0 ≤ pp ∧ pp ≤ 7) → (0 ≤ m ∧ m ≤ 95) → (seat D pp m 8 = -1 ∧ ∀ q, 0 ≤ q → q < 8 → ¬ zRst M q pp m) ∨ (0 ≤ seat D pp m 8 ∧ seat D pp m 8 < 8 ∧ zRst M (seat D pp m 8) pp m ∧ (∀ r, 0 ≤ r → r < D 12 (seat D pp m 8) 0 → -1 ≤ D 13 (seat D pp m 8) r ∧ D 13 (seat D pp m 8) r < (gR (g pp)).1 2 4 m) ∧ ∀ q, 0 ≤ q → q < 8 → q ≠ seat D pp m 8 → ¬ zRst M q pp m) := fun m pp hp hm => by
      rcases seat_s D pp m 8 with ⟨a, b⟩ | ⟨a, b, c⟩
      · exact Or.inl ⟨a, fun q u w => by rw [hC.st hP ⟨u, w⟩ hp hm]; exact b q u w⟩
      · obtain ⟨-, -, -, -, -, y6, y7⟩ := hP _ a b
        obtain ⟨w1, w2, w3, w4, w5⟩ := y6 c.1
        rw [c.2.1, c.2.2] at w4
        refine Or.inr ⟨a, b, (hC.st hP ⟨a, b⟩ hp hm).2 c, fun r u w => by rw [← w4]; exact w5 r u w, fun q u w z => ?_⟩
        rw [hC.st hP ⟨u, w⟩ hp hm]
        intro c2
        exact z (y7 q u w c.1 c2.1 (c.2.1.trans c2.2.1.symm) (c.2.2.trans c2.2.2.symm)).symm
    by_cases y : id < 96
    · rw [if_pos y, if_pos y]
      have hi' : 0 ≤ id := by rcases hi with hi | hi <;> omega
      have e11 : (zenv (g p0) (g p1) fr p0 p1 lk P (dD D p0 p1) W).1 11 id 0 = seat D p0 id 8 := dD_0 y
      have e5 : (zenv (g p0) (g p1) fr p0 p1 lk P (dD D p0 p1) W).1 5 id 0 = (gR (g p0)).1 2 4 id := if_pos y
      rw [e11, e5]
      exact gen id p0 ⟨b0.1, by omega⟩ ⟨hi', by omega⟩
    · rw [if_neg y, if_neg y]
      have hi' : id - 96 ≤ 95 := by
        rcases hi with ⟨-, hi⟩ | ⟨-, hi⟩
        · have hi2 : id < (gR (g p0)).1 2 0 0 := hi
          omega
        · have hi2 : id < 96 + (if fr = 1 then (gR (g p1)).1 2 0 0 else 0) := hi
          by_cases z : fr = 1
          · have := (h.2.2.1 z).1.n2
            rw [if_pos z] at hi2; omega
          · rw [if_neg z] at hi2; omega
      have e11 : (zenv (g p0) (g p1) fr p0 p1 lk P (dD D p0 p1) W).1 11 id 0 = seat D p1 (id - 96) 8 := dD_1 y
      have e5 : (zenv (g p0) (g p1) fr p0 p1 lk P (dD D p0 p1) W).1 5 id 0 = (gR (g p1)).1 2 4 (id - 96) := if_neg y
      rw [e11, e5]
      exact gen (id - 96) p1 ⟨b1.1, by omega⟩ ⟨by omega, hi'⟩
/-- the environment out of what stands -/
theorem zEO.mk (h0 : PkP (g p0)) (hp0 : 0 ≤ p0 ∧ p0 < 8) (h1 : fr = 1 → PkP (g p1)) (hp1 : 0 ≤ p1 ∧ p1 < 8) (hL : (fr = 0 ∧ (∀ m, lk m = -2) ∧ ∀ u, L u < 0) ∨ (fr = 1 ∧ LkF (gR (g p0)) (gR (g p1)) L lk)) (hN : (1 ≤ P 0 ∧ P 0 ≤ 1000) ∧ (P 1 = -1 ∨ (fr = 0 ∧ 0 ≤ P 1 ∧ P 1 < gE (g p0) ∧ iw (gG (g p0) 0 (P 1)) ≠ -1)) ∧ (P 2 = 0 ∨ (P 2 = 1 ∧ P 3 = 1 ∧ fr = 0)) ∧ (P 3 = 0 ∨ P 3 = 1) ∧ (P 4 = 0 ∨ P 4 = 1) ∧ (0 ≤ P 5 ∧ P 5 < 16) ∧ 0 ≤ P 6 ∧ P 6 ≤ 40000) (hP : dbP D np g) : zEO (g p0) (g p1) fr p0 p1 L lk P (dD D p0 p1) := by
  refine ⟨⟨h0.1, h0.2.1, hp0⟩, hL, fun z => ⟨(h1 z).1, (h1 z).2.1⟩, hp1, hN, fun id a b => ?_⟩
  have gen : ∀ (m : Int) (pp : Int), seat D pp m 8 = -1 ∨ (0 ≤ seat D pp m 8 ∧ seat D pp m 8 < 8 ∧ 0 ≤ D 12 (seat D pp m 8) 0 ∧ D 12 (seat D pp m 8) 0 ≤ 8 ∧ ∀ r, 0 ≤ r → r < D 12 (seat D pp m 8) 0 → -1 ≤ D 13 (seat D pp m 8) r ∧ D 13 (seat D pp m 8) r < (gR (g pp)).1 2 4 m) := fun m pp => by
    rcases seat_s D pp m 8 with ⟨a, -⟩ | ⟨a, b, c⟩
    · exact Or.inl a
    · obtain ⟨-, -, -, y4, -, y6, -⟩ := hP _ a b
      obtain ⟨w1, w2, w3, w4, w5⟩ := y6 c.1
      rw [c.2.1, c.2.2] at w4
      exact Or.inr ⟨a, b, y4.1, y4.2, fun r u w => by rw [← w4]; exact w5 r u w⟩
  by_cases y : id < 96
  · have e11 : dD D p0 p1 11 id 0 = seat D p0 id 8 := (if_pos rfl).trans (if_pos y)
    rw [e11, if_pos y]
    exact gen id p0
  · have e11 : dD D p0 p1 11 id 0 = seat D p1 (id - 96) 8 := (if_pos rfl).trans (if_neg y)
    rw [e11, if_neg y]
    exact gen (id - 96) p1
theorem dbC.fg (h : dbC D W M) (f : FG Z M M') (w : ∀ a j, Z a j → 108 ≤ a → a < 140 → (a % 4 = 0 ∧ (j = 3 ∨ j = 4 ∨ j = 5 ∨ j = 6)) ∨ a % 4 = 2 ∨ a % 4 = 3) : dbC D W M' := fun q a b => by
  obtain ⟨⟨h1, h2, h3, h4, h5⟩, h6⟩ := h q a b
  have t : 108 ≤ zTw q ∧ zTw q < 139 ∧ zTw q % 4 = 0 := by unfold zTw; omega
  have i0 : ∀ j, j = 0 ∨ j = 1 ∨ j = 2 ∨ j = 7 ∨ j = 8 → M'.1 (zTw q) j = M.1 (zTw q) j := fun j z => f.i (f.lw (by omega)) fun y => by have := w _ _ y t.1 (by omega); omega
  have i1 : ∀ j, M'.1 (zTw q + 1) j = M.1 (zTw q + 1) j := fun j => f.i (f.lw (by omega)) fun y => by have := w _ _ y (by omega) (by omega); omega
  refine ⟨⟨(i0 _ (by decide)).trans h1, (i0 _ (by decide)).trans h2, (i0 _ (by decide)).trans h3, (i0 _ (by decide)).trans h4, fun z => (i0 _ (by decide)).trans (h5 z)⟩, fun r c d => ?_⟩
  obtain ⟨z1, z2, z3, z4⟩ := h6 r c d
  exact ⟨(i1 _).trans z1, (i1 _).trans z2, (i1 _).trans z3, (i1 _).trans z4⟩
theorem dbR.fg (h : dbR D W M) (f : FG Z M M') (w : ∀ a j, Z a j → a < 227 ∨ 234 < a) : dbR D W M' := fun q a b => by
  obtain ⟨⟨h1, h2, h3, h4⟩, h6⟩ := h q a b
  have i : ∀ a j, 227 ≤ a → a ≤ 234 → M'.1 a j = M.1 a j := fun a j z z2 => f.i (f.lw (by omega)) fun y => by have := w _ _ y; omega
  refine ⟨⟨(i _ _ (by decide) (by decide)).trans h1, (i _ _ (by decide) (by decide)).trans h2, (i _ _ (by decide) (by decide)).trans h3, (i _ _ (by decide) (by decide)).trans h4⟩, fun r c d => ?_⟩
  obtain ⟨z1, z2, z3, z4⟩ := h6 r c d
  exact ⟨(i _ _ (by decide) (by decide)).trans z1, (i _ _ (by decide) (by decide)).trans z2, (i _ _ (by decide) (by decide)).trans z3, (i _ _ (by decide) (by decide)).trans z4⟩
end S9bv
