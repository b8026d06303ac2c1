/-! the class's memory beside the environment -/
def zkap (g0 g1 : PG) (bo bl wt : Nat) : ZK := fun k i => match k with
  | 0 => if i = 0 then gX g0 else gX g1
  | 1 => (if i = 0 then gX g0 else gX g1) + 1
  | 2 => (if i = 0 then gX g0 else gX g1) + 2
  | 3 => (if i = 0 then gX g0 else gX g1) + 3
  | 4 => if i = 0 then hCL (gH g0) 2 else hCL (gH g1) 2
  | 5 => if i = 0 then hCL (gH g0) 1 else hCL (gH g1) 1
  | 6 => if i < 96 then hEC (gH g0) 2 i else hEC (gH g1) 2 (i - 96)
  | 7 => if i < 8 then hEC (gH g0) 1 i else hEC (gH g1) 1 (i - 8)
  | 8 => gX g0 + 13 + i.toNat
  | 9 => gX g0 + 12
  | 10 => bo
  | 11 => bl
  | 12 => wt
  | _ => 0
/-- a side -/
def SdF (e : ZS) (κ : ZK) (q p : Int) (g : PG) : Prop :=
  (q = 0 ∨ q = 1) ∧
  (κ 0 q = gX g ∧ κ 1 q = gX g + 1 ∧ κ 2 q = gX g + 2 ∧ κ 3 q = gX g + 3 ∧ κ 4 q = hCL (gH g) 2 ∧ κ 5 q = hCL (gH g) 1) ∧
  (∀ m, 0 ≤ m → m < 96 → κ 6 (96 * q + m) = hEC (gH g) 2 m) ∧ (∀ u, 0 ≤ u → u < 8 → κ 7 (8 * q + u) = hEC (gH g) 1 u) ∧
  (e.1 21 q 0 = gE g ∧ e.1 29 q 0 = p ∧ e.1 24 q 0 = (gR g).1 2 0 0 ∧ e.1 25 q 0 = (gR g).1 1 0 0) ∧
  (∀ j, 0 ≤ j → j < 1000 → e.1 0 (1000 * q + j) 0 = gG g 0 j ∧ e.1 1 (1000 * q + j) 0 = gG g 3 j ∧ e.1 19 (1000 * q + j) 0 = gG g 2 j) ∧
  (∀ m, 0 ≤ m → m < (gR g).1 2 0 0 → MbE e (gR g) q m ∧ e.1 23 (96 * q + m) 0 = 4800 * q + hEF (gH g) 2 8 m) ∧
  ∀ u, 0 ≤ u → u < (gR g).1 1 0 0 → e.1 26 (8 * q + u) 0 = hEF (gH g) 1 1 u ∧ e.1 27 (8 * q + u) 0 = hEF (gH g) 1 2 u ∧ ((e.1 7 (8 * q + u) 0 = -1 ∧ (gR g).1 1 5 u = -1 ∧ hEF (gH g) 1 5 u = -2) ∨ (e.1 7 (8 * q + u) 0 = (gR g).1 1 5 u + 1000 * q ∧ 0 ≤ (gR g).1 1 5 u ∧ (gR g).1 1 5 u + 2 ≤ gE g ∧ hEF (gH g) 1 5 u = (gR g).1 1 5 u))
section S9bw
variable {g0 g1 : PG} {fr p0 p1 : Int} {L lk : Int → Int} {P : Nat → Int} {D : Nat → Int → Int → Int} {W : Nat → Int → Int → Int32} {j m p x l o q id k u : Int} {e : ZS} {M : Mem} {κ : ZK} {g : PG} {bo bl wt : Nat} {S V : Int → Int}
theorem SdF.s0 (h : zEO g0 g1 fr p0 p1 L lk P D) (e : ZS) (he : e = zenv g0 g1 fr p0 p1 lk P D W) : SdF e (zkap g0 g1 bo bl wt) 0 p0 g0 := by
  refine ⟨Or.inl rfl, ⟨rfl, rfl, rfl, rfl, rfl, rfl⟩, fun m a b => ?_, fun u a b => ?_, ?_, fun j a b => ?_, fun m a b => ⟨?_, ?_⟩, fun u a b => ⟨?_, ?_, ?_⟩⟩
  · exact (if_pos (by omega)).trans (by rw [show 96 * (0 : Int) + m = m by omega])
  · exact (if_pos (by omega)).trans (by rw [show 8 * (0 : Int) + u = u by omega])
  · rw [he]; exact ⟨rfl, rfl, rfl, rfl⟩
  · rw [he, show 1000 * (0 : Int) + j = j by omega]
    exact ⟨if_pos (by omega), if_pos (by omega), if_pos (by omega)⟩
  · rw [he]; exact h.m0 a b
  · have n := h.1.1.n2
    rw [he, show 96 * (0 : Int) + m = m by omega, show 4800 * (0 : Int) = 0 by decide, Int.zero_add]
    exact if_pos (by omega)
  · have n := h.1.1.n2
    rw [he, show 8 * (0 : Int) + u = u by omega]
    exact if_pos (by omega)
  · have n := h.1.1.n2
    rw [he, show 8 * (0 : Int) + u = u by omega]
    exact if_pos (by omega)
  · rw [show 8 * (0 : Int) + u = u by omega, show 1000 * (0 : Int) = 0 by decide, Int.add_zero]
    exact (h.s0 ⟨a, b⟩ e he).imp (fun z => z) fun z => ⟨z.1, z.2.1, z.2.2.1, z.2.2.2.1⟩
theorem SdF.s1 (h : zEO g0 g1 fr p0 p1 L lk P D) (hf : fr = 1) (e : ZS) (he : e = zenv g0 g1 fr p0 p1 lk P D W) : SdF e (zkap g0 g1 bo bl wt) 1 p1 g1 := by
  have n := (h.2.2.1 hf).1.n2
  refine ⟨Or.inr rfl, ⟨rfl, rfl, rfl, rfl, rfl, rfl⟩, fun m a b => ?_, fun u a b => ?_, ?_, fun j a b => ?_, fun m a b => ⟨?_, ?_⟩, fun u a b => ⟨?_, ?_, ?_⟩⟩
  · exact (if_neg (by omega)).trans (by rw [show 96 * (1 : Int) + m - 96 = m by omega])
  · exact (if_neg (by omega)).trans (by rw [show 8 * (1 : Int) + u - 8 = u by omega])
  · rw [he]; exact ⟨(show (if fr = 1 then gE g1 else 0) = gE g1 from if_pos hf), rfl, (show (if fr = 1 then (gR g1).1 2 0 0 else 0) = (gR g1).1 2 0 0 from if_pos hf), (show (if fr = 1 then (gR g1).1 1 0 0 else 0) = (gR g1).1 1 0 0 from if_pos hf)⟩
  · have sx : 1000 * (1 : Int) + j - 1000 = j := by omega
    rw [he]
    exact ⟨(if_neg (by omega)).trans (by rw [sx]), (if_neg (by omega)).trans (by rw [sx]), (if_neg (by omega)).trans (by rw [sx])⟩
  · rw [he]; exact h.m1 hf a b
  · rw [he]
    exact (if_neg (by omega)).trans (by rw [show 96 * (1 : Int) + m - 96 = m by omega]; omega)
  · rw [he]
    exact (if_neg (by omega)).trans (by rw [show 8 * (1 : Int) + u - 8 = u by omega])
  · rw [he]
    exact (if_neg (by omega)).trans (by rw [show 8 * (1 : Int) + u - 8 = u by omega])
  · rw [show 8 * (1 : Int) + u = 8 + u by omega, show 1000 * (1 : Int) = 1000 by decide]
    exact (h.s1 hf ⟨a, b⟩ e he).imp (fun z => z) fun z => ⟨z.1, z.2.1, z.2.2.1, z.2.2.2.1⟩
/-- where values stand: one behind the other -/
theorem clf_le (hl : ∀ j : Int, 0 ≤ j → j < m → 1 ≤ (if S j = 3 then V j else 1) ∧ (if S j = 3 then V j else 1) ≤ 50) : ∀ k : Nat, (k : Int) ≤ m → 0 ≤ clf S V k ∧ clf S V k ≤ 50 * k ∧ ∀ i : Nat, i < k → clf S V i + (if S i = 3 then V i else 1) ≤ clf S V k
  | 0, _ => ⟨by unfold clf; omega, by unfold clf; omega, fun i a => by omega⟩
  | k + 1, h => by
    obtain ⟨a, b, c⟩ := clf_le hl k (by omega)
    have l := hl k (by omega) (by omega)
    have e : clf S V (k + 1) = clf S V k + (if S k = 3 then V k else 1) := rfl
    rw [e]
    refine ⟨by omega, by omega, fun i z => ?_⟩
    by_cases y : i = k
    · rw [y]; omega
    · have := c i (by omega)
      omega
/-- how long a member is -/
theorem SdF.len (h : SdF e κ q p g) (hP : PkP g) (a : 0 ≤ m) (b : m < (gR g).1 2 0 0) : zlen e (96 * q + m) = (if hEF (gH g) 2 2 m = 3 then hEF (gH g) 2 4 m else 1) ∧ 1 ≤ zlen e (96 * q + m) ∧ zlen e (96 * q + m) ≤ 50 := by
  obtain ⟨⟨b1, b2, b3, b4⟩, b5, b6, b7, b8⟩ := (h.2.2.2.2.2.2.1 m a b).1
  have mk := hP.1.1.2.2.2.1 m a (by rw [hP.1.n2.1]; exact b)
  have f2 := mk.2.1 2 (by decide) (by decide)
  have f4 := mk.2.1 4 (by decide) (by decide)
  unfold zlen
  rw [b2, b3, f2, f4]
  by_cases y : (gR g).1 2 2 m = 3
  · rw [if_pos y]; exact ⟨rfl, b7 y⟩
  · rw [if_neg y]; exact ⟨rfl, by decide, by decide⟩
theorem SdF.cel (h : SdF e κ q p g) (hP : PkP g) : (∀ m, 0 ≤ m → m < (gR g).1 2 0 0 → 4800 * q ≤ e.1 23 (96 * q + m) 0 ∧ e.1 23 (96 * q + m) 0 + zlen e (96 * q + m) ≤ 4800 * q + 4800) ∧ ∀ i j, 0 ≤ i → i < j → j < (gR g).1 2 0 0 → e.1 23 (96 * q + i) 0 + zlen e (96 * q + i) ≤ e.1 23 (96 * q + j) 0 := by
  have n := hP.1.n2
  have hl : ∀ j : Int, 0 ≤ j → j < (gR g).1 2 0 0 → 1 ≤ (if hEF (gH g) 2 2 j = 3 then hEF (gH g) 2 4 j else 1) ∧ (if hEF (gH g) 2 2 j = 3 then hEF (gH g) 2 4 j else 1) ≤ 50 := fun j a b => by
    obtain ⟨z1, z2⟩ := h.len hP a b
    rw [← z1]; exact z2
  have c := fun k hk => clf_le hl k hk
  have c8 : ∀ m, 0 ≤ m → m < (gR g).1 2 0 0 → e.1 23 (96 * q + m) 0 = 4800 * q + clf (hEF (gH g) 2 2) (hEF (gH g) 2 4) m.toNat := fun m a b => by
    rw [(h.2.2.2.2.2.2.1 m a b).2, hP.2.1 m a (by omega)]
  refine ⟨fun m a b => ?_, fun i j a b d => ?_⟩
  · rw [c8 m a b, (h.len hP a b).1]
    obtain ⟨y1, y2, y3⟩ := c (m.toNat + 1) (by omega)
    obtain ⟨y4, -⟩ := c m.toNat (by omega)
    have y5 := y3 m.toNat (by omega)
    rw [show ((m.toNat : Nat) : Int) = m by omega] at y5
    omega
  · rw [c8 i a (by omega), c8 j (by omega) d, (h.len hP a (by omega)).1]
    obtain ⟨y1, y2, y3⟩ := c j.toNat (by omega)
    have y5 := y3 i.toNat (by omega)
    rw [show ((i.toNat : Nat) : Int) = i by omega] at y5
    omega
end S9bw
