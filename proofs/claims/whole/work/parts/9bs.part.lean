/-! the environment of two parcels -/
/-- a parcel: its settled codes, its things in the class, its rows in the reference, how many codes, the class's cell, the first of its cells -/
abbrev PG : Type := (Nat → Int → Int) × HG × RG × Int × Nat × Nat
def gG (g : PG) : Nat → Int → Int := g.1
def gH (g : PG) : HG := g.2.1
def gR (g : PG) : RG := g.2.2.1
def gE (g : PG) : Int := g.2.2.2.1
def gX (g : PG) : Nat := g.2.2.2.2.1
def gL (g : PG) : Nat := g.2.2.2.2.2
/-- what a member is linked to -/
def glk (l m o : Int) : Int := if l = -2 then m else if l < 0 then l else o + l
def zenv (g0 g1 : PG) (fr p0 p1 : Int) (lk : Int → Int) (P : Nat → Int) (D : Nat → Int → Int → Int) (W : Nat → Int → Int → Int32) : ZS := (fun k i j => match k with
  | 0 => if i < 1000 then gG g0 0 i else gG g1 0 (i - 1000)
  | 1 => if i < 1000 then gG g0 3 i else gG g1 3 (i - 1000)
  | 2 => if i < 1000 then glk (lk (gG g0 3 i)) (gG g0 3 i) 96 else 96 + gG g1 3 (i - 1000)
  | 3 => if i < 96 then (gR g0).1 2 1 i else 8 + (gR g1).1 2 1 (i - 96)
  | 4 => if i < 96 then (gR g0).1 2 2 i else (gR g1).1 2 2 (i - 96)
  | 5 => if i < 96 then (gR g0).1 2 4 i else (gR g1).1 2 4 (i - 96)
  | 6 => if i < 96 then (gR g0).1 2 5 i else 1000 + (gR g1).1 2 5 (i - 96)
  | 7 => if i < 8 then (if i < (gR g0).1 1 0 0 ∧ 0 ≤ (gR g0).1 1 5 i then (gR g0).1 1 5 i else -1) else (if fr = 1 ∧ i - 8 < (gR g1).1 1 0 0 ∧ 0 ≤ (gR g1).1 1 5 (i - 8) then 1000 + (gR g1).1 1 5 (i - 8) else -1)
  | 8 => P 1
  | 10 => if i = 0 then P 2 else if i = 1 then P 3 else P 4
  | 11 => D 11 i 0
  | 12 => D 12 i 0
  | 13 => D 13 i j
  | 14 => D 14 i j
  | 16 => P 5
  | 18 => if i < 1000 then (gR g0).1 2 4 (gG g0 3 i) else (gR g1).1 2 4 (gG g1 3 (i - 1000))
  | 19 => if i < 1000 then gG g0 2 i else gG g1 2 (i - 1000)
  | 20 => P 0
  | 21 => if i = 0 then gE g0 else if fr = 1 then gE g1 else 0
  | 22 => fr
  | 23 => if i < 96 then hEF (gH g0) 2 8 i else 4800 + hEF (gH g1) 2 8 (i - 96)
  | 24 => if i = 0 then (gR g0).1 2 0 0 else if fr = 1 then (gR g1).1 2 0 0 else 0
  | 25 => if i = 0 then (gR g0).1 1 0 0 else if fr = 1 then (gR g1).1 1 0 0 else 0
  | 26 => if i < 8 then hEF (gH g0) 1 1 i else hEF (gH g1) 1 1 (i - 8)
  | 27 => if i < 8 then hEF (gH g0) 1 2 i else hEF (gH g1) 1 2 (i - 8)
  | 28 => lk i
  | 29 => if i = 0 then p0 else p1
  | 30 => P 6
  | _ => 0, fun k i j => match k with
  | 0 => iI (if i < 96 then (gR g0).1 2 4 i else (gR g1).1 2 4 (i - 96))
  | 1 => W 1 i j
  | 2 => W 2 i j
  | _ => 0)
/-- where a parcel's members stand among the values -/
def zPc (H : HG) : Prop := ∀ j, 0 ≤ j → j < hEN H 2 → hEF H 2 8 j = clf (hEF H 2 2) (hEF H 2 4) j.toNat
/-- links -/
def LkF (R0 R1 : RG) (L lk : Int → Int) : Prop := ∀ m, 0 ≤ m → m < R0.1 2 0 0 → (L (R0.1 2 1 m) < 0 ∧ lk m = -2) ∨ (0 ≤ L (R0.1 2 1 m) ∧ ∃ x, MbF (R1.1 2 1) (R1.2 2) (R1.1 2 0 0) (L (R0.1 2 1 m)) (R0.2 2 m) x ∧ (-1 ≤ x ∧ x < R1.1 2 0 0) ∧ ((0 ≤ lk m ∧ lk m = x ∧ zLk R0 R1 m x = 96 + x) ∨ (-13 ≤ lk m ∧ lk m ≤ -10 ∧ zLk R0 R1 m x = lk m)))
/-- the environment's parcels and numbers are sound -/
def zEO (g0 g1 : PG) (fr p0 p1 : Int) (L lk : Int → Int) (P : Nat → Int) (D : Nat → Int → Int → Int) : Prop :=
  (zPK (gG g0) (gR g0) (gH g0) (gE g0) ∧ zPc (gH g0) ∧ 0 ≤ p0 ∧ p0 < 8) ∧
  ((fr = 0 ∧ (∀ m, lk m = -2) ∧ ∀ u, L u < 0) ∨ (fr = 1 ∧ LkF (gR g0) (gR g1) L lk)) ∧ (fr = 1 → zPK (gG g1) (gR g1) (gH g1) (gE g1) ∧ zPc (gH g1)) ∧ (0 ≤ p1 ∧ p1 < 8) ∧
  ((1 ≤ P 0 ∧ P 0 ≤ 1000) ∧ (P 1 = -1 ∨ (fr = 0 ∧ 0 ≤ P 1 ∧ P 1 < gE g0 ∧ iw (gG g0 0 (P 1)) ≠ -1)) ∧ (P 2 = 0 ∨ (P 2 = 1 ∧ P 3 = 1 ∧ fr = 0)) ∧ (P 3 = 0 ∨ P 3 = 1) ∧ (P 4 = 0 ∨ P 4 = 1) ∧ (0 ≤ P 5 ∧ P 5 < 16) ∧ 0 ≤ P 6 ∧ P 6 ≤ 40000) ∧
  ∀ id, 0 ≤ id → id < 192 → D 11 id 0 = -1 ∨ (0 ≤ D 11 id 0 ∧ D 11 id 0 < 8 ∧ 0 ≤ D 12 (D 11 id 0) 0 ∧ D 12 (D 11 id 0) 0 ≤ 8 ∧ ∀ r, 0 ≤ r → r < D 12 (D 11 id 0) 0 → -1 ≤ D 13 (D 11 id 0) r ∧ D 13 (D 11 id 0) r < (if id < 96 then (gR g0).1 2 4 id else (gR g1).1 2 4 (id - 96)))
section S9bs
variable {g0 g1 : PG} {fr p0 p1 : Int} {L lk : Int → Int} {P : Nat → Int} {D : Nat → Int → Int → Int} {W : Nat → Int → Int → Int32} {j m p x l o q id k u : Int} {e : ZS}
theorem if_lt {α : Type} {a b : α} (h : j < m) : (if j < m then a else b) = a := if_pos h
theorem if_ge {α : Type} {a b : α} (h : m ≤ j) : (if j < m then a else b) = b := if_neg (by omega)
theorem zPK.n2 {G : Nat → Int → Int} {R : RG} {H : HG} {E : Int} (h : zPK G R H E) : hEN H 2 = R.1 2 0 0 ∧ (0 ≤ R.1 2 0 0 ∧ R.1 2 0 0 ≤ 96) ∧ hEN H 1 = R.1 1 0 0 ∧ (1 ≤ R.1 1 0 0 ∧ R.1 1 0 0 ≤ 8) ∧ (0 ≤ E ∧ E ≤ 1000) := by
  obtain ⟨h1, ⟨h2, h3, h4⟩, -⟩ := h
  obtain ⟨⟨a1, a2, a3, a4, a5⟩, ⟨b1, b2, b3, b4, -⟩, -⟩ := h1
  omega
/-- codes of side 0 -/
theorem zEO.c0 (h : zEO g0 g1 fr p0 p1 L lk P D) : zCd (zenv g0 g1 fr p0 p1 lk P D W) (gG g0) (gE g0) 0 := by
  obtain ⟨⟨⟨h1, ⟨h2, h3, h4⟩, h5, h6⟩, -⟩, -, -, -, ⟨-, h8, -⟩, -⟩ := h
  refine ⟨Or.inl ⟨rfl, rfl⟩, ⟨h3, h4⟩, fun j a b => ⟨⟨?_, ?_, ?_⟩, (h5 j a b).1, fun z => ?_, fun z => ?_⟩⟩
  · exact (if_pos (by omega)).trans (by rw [Int.add_zero])
  · exact (if_pos (by omega)).trans (by rw [Int.add_zero])
  · exact (if_pos (by omega)).trans (by rw [Int.add_zero])
  · have e18 : (zenv g0 g1 fr p0 p1 lk P D W).1 18 (j + 0) 0 = (gR g0).1 2 4 (gG g0 3 j) := (if_pos (by omega)).trans (by rw [Int.add_zero])
    rw [e18]
    obtain ⟨⟨k1, k2⟩, -, -, k3⟩ := h6 j a b (by omega) (by omega)
    obtain ⟨s4, v4⟩ := k3 z
    refine ⟨v4, ?_⟩
    have mk := h1.2.2.2.1 (gG g0 3 j) k1 (by rw [h1.1.2.2.1]; exact k2)
    rcases mk.2.2.2.2.2.2.2 with ⟨z1, z2, z3⟩ | ⟨z1, z2⟩
    · obtain ⟨b, -, -, -, -, z4, -⟩ := z3
      exact ⟨z4.1, z2⟩
    · omega
  · have e8 : (zenv g0 g1 fr p0 p1 lk P D W).1 8 0 0 = P 1 := rfl
    rw [e8] at z
    rcases h8 with w | ⟨-, w1, w2, w3⟩
    · omega
    · rw [show j = P 1 by omega]; exact w3
/-- codes of side 1 -/
theorem zEO.c1 (h : zEO g0 g1 fr p0 p1 L lk P D) (hf : fr = 1) : zCd (zenv g0 g1 fr p0 p1 lk P D W) (gG g1) (gE g1) 1000 := by
  obtain ⟨⟨⟨-, ⟨-, -, h4'⟩, -⟩, -⟩, -, h0, -, ⟨-, h8, -⟩, -⟩ := h
  obtain ⟨⟨h1, ⟨h2, h3, h4⟩, h5, h6⟩, -⟩ := h0 hf
  have sx : ∀ j : Int, j + 1000 - 1000 = j := fun j => by omega
  refine ⟨Or.inr ⟨rfl, ?_⟩, ⟨h3, h4⟩, fun j a b => ⟨⟨?_, ?_, ?_⟩, (h5 j a b).1, fun z => ?_, fun z => ?_⟩⟩
  · exact (show (if fr = 1 then gE g1 else 0) = gE g1 from if_pos hf).symm
  · exact (if_neg (by omega)).trans (by rw [sx])
  · exact (if_neg (by omega)).trans (by rw [sx])
  · exact (if_neg (by omega)).trans (by rw [sx])
  · have e18 : (zenv g0 g1 fr p0 p1 lk P D W).1 18 (j + 1000) 0 = (gR g1).1 2 4 (gG g1 3 j) := (if_neg (by omega)).trans (by rw [sx])
    rw [e18]
    obtain ⟨⟨k1, k2⟩, -, -, k3⟩ := h6 j a b (by omega) (by omega)
    obtain ⟨s4, v4⟩ := k3 z
    refine ⟨v4, ?_⟩
    have mk := h1.2.2.2.1 (gG g1 3 j) k1 (by rw [h1.1.2.2.1]; exact k2)
    rcases mk.2.2.2.2.2.2.2 with ⟨z1, z2, z3⟩ | ⟨z1, z2⟩
    · obtain ⟨b, -, -, -, -, z4, -⟩ := z3
      exact ⟨z4.1, z2⟩
    · omega
  · have e8 : (zenv g0 g1 fr p0 p1 lk P D W).1 8 0 0 = P 1 := rfl
    rw [e8] at z
    rcases h8 with w | ⟨w, -⟩
    · omega
    · omega
/-- a member -/
def MbE (e : ZS) (R : RG) (q m : Int) : Prop := (e.1 3 (96 * q + m) 0 = 8 * q + R.1 2 1 m ∧ e.1 4 (96 * q + m) 0 = R.1 2 2 m ∧ e.1 5 (96 * q + m) 0 = R.1 2 4 m ∧ e.2 0 (96 * q + m) 0 = iI (R.1 2 4 m)) ∧ (0 ≤ R.1 2 1 m ∧ R.1 2 1 m < R.1 1 0 0) ∧ (0 ≤ R.1 2 2 m ∧ R.1 2 2 m ≤ 4) ∧ (R.1 2 2 m = 3 → 1 ≤ R.1 2 4 m ∧ R.1 2 4 m ≤ 50) ∧ (R.1 2 2 m = 4 → (0 ≤ R.1 2 4 m ∧ R.1 2 4 m ≤ 4) ∧ e.1 6 (96 * q + m) 0 = R.1 2 5 m + 1000 * q ∧ (0 ≤ R.1 2 5 m ∧ R.1 2 5 m < 1000) ∧ zIn e (R.1 2 5 m + 1000 * q) ∧ zEn e (R.1 2 5 m + 1000 * q) (R.1 2 4 m))
theorem zEO.m0 (h : zEO g0 g1 fr p0 p1 L lk P D) (a : 0 ≤ m) (b : m < (gR g0).1 2 0 0) : MbE (zenv g0 g1 fr p0 p1 lk P D W) (gR g0) 0 m := by
  have hc := h.c0 (W := W)
  obtain ⟨⟨h0, -⟩, -⟩ := h
  have n := h0.n2
  obtain ⟨h1, ⟨h2, h3, h4⟩, h5, h6⟩ := h0
  have mk := h1.2.2.2.1 m a (by rw [h1.1.2.2.1]; exact b)
  obtain ⟨-, -, y1, y2, y3, y4, y5, y6⟩ := mk
  have lt : 96 * (0 : Int) + m < 96 := by omega
  have es : 96 * (0 : Int) + m = m := by omega
  refine ⟨⟨?_, ?_, ?_, ?_⟩, by omega, y2, y5, fun z => ?_⟩
  · exact (if_pos lt).trans (by rw [es]; omega)
  · exact (if_pos lt).trans (by rw [es])
  · exact (if_pos lt).trans (by rw [es])
  · exact congrArg iI ((if_pos lt).trans (by rw [es]))
  · rcases y6 with ⟨z1, z2, z3⟩ | ⟨z1, z2⟩
    · have z3' := z3
      obtain ⟨b', q1, q2, q3, q4, q5, -⟩ := z3'
      rw [show 1000 * (0 : Int) = 0 by decide, Int.add_zero]
      refine ⟨⟨q5.1, z2⟩, (if_pos lt).trans (by rw [es]), by omega, Or.inl ⟨by omega, ?_⟩, by have := en_zen z3 hc; rw [Int.add_zero] at this; exact this⟩
      show _ < gE g0
      omega
    · omega
theorem zEO.m1 (h : zEO g0 g1 fr p0 p1 L lk P D) (hf : fr = 1) (a : 0 ≤ m) (b : m < (gR g1).1 2 0 0) : MbE (zenv g0 g1 fr p0 p1 lk P D W) (gR g1) 1 m := by
  have hc := h.c1 (W := W) hf
  obtain ⟨-, -, h0, -⟩ := h
  obtain ⟨h0, -⟩ := h0 hf
  have n := h0.n2
  obtain ⟨h1, ⟨h2, h3, h4⟩, h5, h6⟩ := h0
  have mk := h1.2.2.2.1 m a (by rw [h1.1.2.2.1]; exact b)
  obtain ⟨-, -, y1, y2, y3, y4, y5, y6⟩ := mk
  have lt : ¬ 96 * (1 : Int) + m < 96 := by omega
  have es : 96 * (1 : Int) + m - 96 = m := by omega
  refine ⟨⟨?_, ?_, ?_, ?_⟩, by omega, y2, y5, fun z => ?_⟩
  · exact (if_neg lt).trans (by rw [es]; omega)
  · exact (if_neg lt).trans (by rw [es])
  · exact (if_neg lt).trans (by rw [es])
  · exact congrArg iI ((if_neg lt).trans (by rw [es]))
  · rcases y6 with ⟨z1, z2, z3⟩ | ⟨z1, z2⟩
    · have z3' := z3
      obtain ⟨b', q1, q2, q3, q4, q5, -⟩ := z3'
      have e21 : (zenv g0 g1 fr p0 p1 lk P D W).1 21 1 0 = gE g1 := (show (if fr = 1 then gE g1 else 0) = gE g1 from if_pos hf)
      refine ⟨⟨q5.1, z2⟩, (if_neg lt).trans (by rw [es]; omega), by omega, Or.inr ⟨by omega, ?_⟩, en_zen z3 hc⟩
      rw [e21]
      omega
    · omega
/-- what an instruction names -/
theorem iw_37 (h : 3 ≤ iw o ∧ iw o ≤ 7) : False := by
  have g : iw o ≤ 2 ∨ 8 ≤ iw o := by
    unfold iw
    (repeat' split) <;> omega
  omega
theorem zEO.u0 (h : zEO g0 g1 fr p0 p1 L lk P D) (e : ZS) (he : e = zenv g0 g1 fr p0 p1 lk P D W) (a : 0 ≤ j ∧ j < gE g0) (h3 : 3 ≤ zop e j) (h7 : zop e j ≤ 7) : zop e j = gG g0 0 j ∧ e.1 1 j 0 = gG g0 3 j ∧ (0 ≤ gG g0 3 j ∧ gG g0 3 j < (gR g0).1 2 0 0) ∧ e.1 18 j 0 = (gR g0).1 2 4 (gG g0 3 j) ∧ (gG g0 0 j = 3 ∨ gG g0 0 j = 4 → (gR g0).1 2 2 (gG g0 3 j) = 1 ∨ (gR g0).1 2 2 (gG g0 3 j) = 2) ∧ (gG g0 0 j = 5 ∨ gG g0 0 j = 6 → (gR g0).1 2 2 (gG g0 3 j) = 3) ∧ (gG g0 0 j = 7 → (gR g0).1 2 2 (gG g0 3 j) = 4) ∧ e.1 2 j 0 = glk (lk (gG g0 3 j)) (gG g0 3 j) 96 := by
  have hc := h.c0 (W := W)
  rw [← he] at hc
  obtain ⟨c1, c2, c3⟩ := hc.of a
  obtain ⟨⟨h0, -⟩, -⟩ := h
  have n := h0.n2
  obtain ⟨-, -, -, h6⟩ := h0
  have zo : zop e j = gG g0 0 j := by
    rw [Int.add_zero] at c2
    rcases c2 with z | ⟨z, -⟩
    · exact z
    · rw [z] at h3 h7; exact (iw_37 ⟨h3, h7⟩).elim
  obtain ⟨k1, k2, k3, k4⟩ := h6 j a.1 a.2 (by omega) (by omega)
  refine ⟨zo, ?_, k1, ?_, k2, k3, fun z => (k4 z).1, ?_⟩
  · rw [he]; exact if_pos (by omega)
  · rw [he]; exact if_pos (by omega)
  · rw [he]; exact if_pos (by omega)
theorem zEO.u1 (h : zEO g0 g1 fr p0 p1 L lk P D) (hf : fr = 1) (e : ZS) (he : e = zenv g0 g1 fr p0 p1 lk P D W) (a : 0 ≤ j ∧ j < gE g1) (h3 : 3 ≤ zop e (j + 1000)) (h7 : zop e (j + 1000) ≤ 7) : zop e (j + 1000) = gG g1 0 j ∧ e.1 1 (j + 1000) 0 = gG g1 3 j ∧ (0 ≤ gG g1 3 j ∧ gG g1 3 j < (gR g1).1 2 0 0) ∧ e.1 18 (j + 1000) 0 = (gR g1).1 2 4 (gG g1 3 j) ∧ (gG g1 0 j = 3 ∨ gG g1 0 j = 4 → (gR g1).1 2 2 (gG g1 3 j) = 1 ∨ (gR g1).1 2 2 (gG g1 3 j) = 2) ∧ (gG g1 0 j = 5 ∨ gG g1 0 j = 6 → (gR g1).1 2 2 (gG g1 3 j) = 3) ∧ (gG g1 0 j = 7 → (gR g1).1 2 2 (gG g1 3 j) = 4) ∧ e.1 2 (j + 1000) 0 = 96 + gG g1 3 j := by
  have hc := h.c1 (W := W) hf
  rw [← he] at hc
  obtain ⟨c1, c2, c3⟩ := hc.of a
  obtain ⟨-, -, h0, -⟩ := h
  obtain ⟨h0, -⟩ := h0 hf
  have n := h0.n2
  obtain ⟨-, -, -, h6⟩ := h0
  have sx : j + 1000 - 1000 = j := by omega
  have zo : zop e (j + 1000) = gG g1 0 j := by
    rcases c2 with z | ⟨z, -⟩
    · exact z
    · rw [z] at h3 h7; exact (iw_37 ⟨h3, h7⟩).elim
  obtain ⟨k1, k2, k3, k4⟩ := h6 j a.1 a.2 (by omega) (by omega)
  refine ⟨zo, ?_, k1, ?_, k2, k3, fun z => (k4 z).1, ?_⟩
  · rw [he]; exact (if_neg (by omega)).trans (by rw [sx])
  · rw [he]; exact (if_neg (by omega)).trans (by rw [sx])
  · rw [he]; exact (if_neg (by omega)).trans (by rw [sx])
end S9bs
