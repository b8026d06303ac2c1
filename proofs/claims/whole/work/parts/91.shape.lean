/-! codes that are well shaped: what a state keeps -/
/-- where an instruction leads: a jump's place among all codes -/
def zn (e : ZS) (p : Int) : Int := if zop e p = 24 ∨ zop e p = 25 ∨ zop e p = 26 ∨ zop e p = 31 then znum e p + zoff p else znum e p
def zNx (Y : Nat → Int → Int) (a c t H S T P : Int) : Prop := a ≤ t ∧ t < c ∧ Y 0 t = H ∧ Y 1 t ≤ S ∧ Y 2 t = T ∧ Y 3 t = P
def zOP (nx : Int → Int → Int → Int → Int → Prop) (pr : Int → Int → Prop) (o n g H S T P p : Int) : Prop :=
  (0 ≤ o ∧ o ≤ 34) ∧ (o = 0 → nx (p + 1) (H + 1) S T P) ∧ (o = 1 → 0 ≤ n ∧ n < S ∧ nx (p + 1) (H + 1) S T P) ∧
  (o = 2 → 0 ≤ n ∧ n ≤ 9 ∧ n ≤ S ∧ 1 ≤ H ∧ nx (p + 1) (H - 1) (if n < S then S else n + 1) T P) ∧
  (o = 3 → nx (p + 1) (H + 1) S T P) ∧ (o = 4 ∨ o = 9 ∨ o = 28 ∨ o = 29 → 1 ≤ H ∧ nx (p + 1) (H - 1) S T P) ∧
  (o = 5 ∨ o = 21 ∨ o = 22 ∨ o = 23 → 1 ≤ H ∧ nx (p + 1) H S T P) ∧ (o = 6 ∨ o = 33 → 2 ≤ H ∧ nx (p + 1) (H - 2) S T P) ∧
  (o = 7 ∨ o = 32 → 0 ≤ g ∧ g ≤ H ∧ nx (p + 1) (H - g + 1) S T P) ∧ (10 ≤ o ∧ o ≤ 20 → 2 ≤ H ∧ nx (p + 1) (H - 1) S T P) ∧
  (o = 8 ∨ o = 34 → 1 ≤ H) ∧ (o = 24 ∨ o = 31 → 1 ≤ H ∧ nx (p + 1) (H - 1) S T P ∧ nx n (H - 1) S T P) ∧ (o = 25 → nx n H S T P) ∧
  (o = 26 → H = 0 ∧ nx (p + 1) H S (T + 1) p ∧ nx n 1 S T P) ∧ (o = 27 → 1 ≤ T ∧ ∃ q, pr P q ∧ nx (p + 1) H S (T - 1) q) ∧ (o = 30 → nx (p + 1) H S T P)
/-- a place of a code -/
def zIn (e : ZS) (p : Int) : Prop := (0 ≤ p ∧ p < e.1 21 0 0) ∨ (1000 ≤ p ∧ p < 1000 + e.1 21 1 0)
def zTC (e : ZS) (Y : Nat → Int → Int) (a c : Int) : Prop := (0 ≤ a ∧ a < c ∧ c - a ≤ 200 ∧ (c ≤ e.1 21 0 0 ∨ 1000 ≤ a ∧ c ≤ 1000 + e.1 21 1 0)) ∧ ∀ p, a ≤ p → p < c → (0 ≤ Y 0 p ∧ Y 0 p ≤ p - a ∧ 0 ≤ Y 1 p ∧ Y 1 p ≤ 10 ∧ 0 ≤ Y 2 p ∧ Y 2 p ≤ 20) ∧ ((Y 2 p = 0 ∧ (e.1 0 p 0 = 27 ∨ e.1 19 p 0 = -2)) ∨ (0 < Y 2 p ∧ a ≤ Y 3 p ∧ Y 3 p < p ∧ zop e (Y 3 p) = 26 ∧ Y 2 (Y 3 p) = Y 2 p - 1 ∧ (e.1 0 p 0 = 27 ∨ 0 ≤ e.1 19 p 0 ∧ e.1 19 p 0 + zoff p = zn e (Y 3 p)))) ∧ zOP (zNx Y a c) (fun P q => Y 3 P = q) (zop e p) (zn e p) (e.1 18 p 0) (Y 0 p) (Y 1 p) (Y 2 p) (Y 3 p) p
/-- a code that begins at a with s LOCALS -/
def zEn (e : ZS) (a s : Int) : Prop := ∃ Y c, zTC e Y a c ∧ Y 0 a = 0 ∧ Y 1 a ≤ s ∧ Y 2 a = 0
/-- the TRYs around, the innermost first -/
def zch (e : ZS) (Y : Nat → Int → Int) (a c S : Int) (T : Int → Int) : Nat → Int → Prop
  | 0, _ => True
  | t + 1, p => T t = zn e p ∧ (a ≤ p ∧ p < c ∧ zop e p = 26 ∧ Y 1 p ≤ S) ∧ zch e Y a c S T t (Y 3 p)
/-- code i is at a place of its own -/
def zwf (e s : ZS) (i : Int) (Y : Nat → Int → Int) (a c : Int) : Prop := zTC e Y a c ∧ (a ≤ s.1 2 i 0 ∧ s.1 2 i 0 < c) ∧ Y 1 (s.1 2 i 0) ≤ s.1 16 i 0 ∧ (0 ≤ s.1 16 i 0 ∧ s.1 16 i 0 ≤ 10) ∧ s.1 4 i 0 = Y 2 (s.1 2 i 0) ∧ zch e Y a c (s.1 16 i 0) (s.1 7 i) (s.1 4 i 0).toNat (Y 3 (s.1 2 i 0))
/-- code i waits for the one above it, a START of k (-1: a CALL) -/
def zwt (e s : ZS) (i k : Int) : Prop := ∃ Y a c, zwf e s i Y a c ∧ ((0 ≤ k ∧ k < 16 ∧ s.1 3 i 0 = Y 0 (s.1 2 i 0) ∧ 3 ≤ zop e (s.1 2 i 0) ∧ zop e (s.1 2 i 0) ≤ 7 ∧ 0 ≤ e.1 2 (s.1 2 i 0) 0 ∧ e.1 3 (e.1 2 (s.1 2 i 0) 0) 0 = k ∧ s.1 8 k 0 = 1) ∨ (k = -1 ∧ zop e (s.1 2 i 0) = 7 ∧ s.1 3 i 0 = Y 0 (s.1 2 i 0) - e.1 18 (s.1 2 i 0) 0))
/-- the environment -/
def zET (e : ZS) : Prop := (0 ≤ e.1 21 0 0 ∧ e.1 21 0 0 ≤ 1000 ∧ 0 ≤ e.1 21 1 0 ∧ e.1 21 1 0 ≤ 1000) ∧ (∀ p, zIn e p → 3 ≤ zop e p → zop e p ≤ 7 → (e.1 2 p 0 < 0 ∧ -13 ≤ e.1 2 p 0) ∨ (0 ≤ e.1 2 p 0 ∧ e.1 2 p 0 < 192 ∧ (0 ≤ e.1 3 (e.1 2 p 0) 0 ∧ e.1 3 (e.1 2 p 0) 0 < 16) ∧ (zop e p = 3 ∨ zop e p = 4 → e.1 4 (e.1 2 p 0) 0 = 1 ∨ e.1 4 (e.1 2 p 0) 0 = 2) ∧ (zop e p = 5 ∨ zop e p = 6 → e.1 4 (e.1 2 p 0) 0 = 3 ∧ 1 ≤ e.1 5 (e.1 2 p 0) 0 ∧ e.1 5 (e.1 2 p 0) 0 ≤ 50) ∧ (zop e p = 7 → e.1 4 (e.1 2 p 0) 0 = 4 ∧ e.1 5 (e.1 2 p 0) 0 = e.1 18 p 0 ∧ 0 ≤ e.1 18 p 0 ∧ e.1 18 p 0 ≤ 4 ∧ zEn e (e.1 6 (e.1 2 p 0) 0) (e.1 18 p 0)))) ∧ (∀ p, zIn e p → zop e p = 32 → e.1 5 (znum e p) 0 = e.1 18 p 0) ∧ (∀ k, 0 ≤ k → k < 16 → (e.1 7 k 0 = -1 ∨ (0 ≤ e.1 7 k 0 ∧ zEn e (e.1 7 k 0) 0))) ∧ ∀ id, 0 ≤ id → id < 192 → e.1 11 id 0 = -1 ∨ (0 ≤ e.1 11 id 0 ∧ e.1 11 id 0 < 8 ∧ 0 ≤ e.1 12 (e.1 11 id 0) 0 ∧ e.1 12 (e.1 11 id 0) 0 ≤ 8 ∧ ∀ r, 0 ≤ r → r < e.1 12 (e.1 11 id 0) 0 → -1 ≤ e.1 13 (e.1 11 id 0) r ∧ e.1 13 (e.1 11 id 0) r < e.1 5 id 0)
/-- a state -/
def zWT (e s : ZS) : Prop := ((0 ≤ s.1 0 0 0 ∧ s.1 0 0 0 ≤ 12 ∧ s.1 5 0 0 = -1 ∧ s.1 6 0 0 = 0 ∧ 0 ≤ s.1 9 0 0 ∧ (∀ k, s.1 8 k 0 = 0 ∨ s.1 8 k 0 = 1 ∨ s.1 8 k 0 = 2)) ∧ (∀ i, 0 ≤ i → i + 1 < s.1 0 0 0 → zwt e s i (s.1 5 (i + 1) 0) ∧ s.1 6 (i + 1) 0 = s.1 6 i 0 + s.1 3 i 0) ∧ ∀ i j, 0 ≤ i → i < j → j < s.1 0 0 0 → 0 ≤ s.1 5 i 0 → s.1 5 i 0 ≠ s.1 5 j 0) ∧
  (((s.1 1 0 0 = 0 ∨ s.1 1 0 0 = 1) ∧ 1 ≤ s.1 0 0 0 ∧ (∃ Y a c, zwf e s (zf s) Y a c ∧ zh s = Y 0 (zpc s)) ∧ (s.1 1 0 0 = 1 → 3 ≤ zop e (zpc s) ∧ zop e (zpc s) ≤ 7 ∧ 0 ≤ e.1 2 (zpc s) 0 ∧ s.1 8 (e.1 3 (e.1 2 (zpc s) 0) 0) 0 = 1)) ∨
   ((s.1 1 0 0 = 3 ∨ s.1 1 0 0 = 7) ∧ 1 ≤ s.1 0 0 0 ∧ ∃ Y a c, zwf e s (zf s) Y a c) ∨
   ((s.1 1 0 0 = 2 ∨ s.1 1 0 0 = 4 ∨ s.1 1 0 0 = 8) ∧ (1 ≤ s.1 0 0 0 → zwt e s (zf s) (s.1 5 (s.1 0 0 0) 0) ∧ ∀ i, 0 ≤ i → i < s.1 0 0 0 → 0 ≤ s.1 5 i 0 → s.1 5 i 0 ≠ s.1 5 (s.1 0 0 0) 0)) ∨
   s.1 1 0 0 = 5 ∨ s.1 1 0 0 = 6)
section S91
variable {e s s' : ZS} {Y : Nat → Int → Int} {a c i k t H S S' T P : Int} {Tr Tr' : Int → Int} {m : Nat}
theorem zch.mono (hS : S ≤ S') : ∀ {m : Nat} {p : Int}, zch e Y a c S Tr m p → (∀ j : Int, 0 ≤ j → j < m → Tr' j = Tr j) → zch e Y a c S' Tr' m p
  | 0, _, _, _ => trivial
  | m + 1, p, ⟨h1, ⟨h2, h3, h4, h5⟩, h6⟩, g => ⟨(g m (by omega) (by omega)).trans h1, ⟨h2, h3, h4, by omega⟩, zch.mono hS h6 fun j x y => g j x (by omega)⟩
theorem zwf.kp (h : zwf e s i Y a c) (h2 : s'.1 2 i 0 = s.1 2 i 0) (h4 : s'.1 4 i 0 = s.1 4 i 0) (h16 : s'.1 16 i 0 = s.1 16 i 0) (h7 : s'.1 7 i = s.1 7 i) : zwf e s' i Y a c := by
  unfold zwf at *
  rw [h2, h4, h16, h7]
  exact h
theorem zwt.kp (h : zwt e s i k) (h2 : s'.1 2 i 0 = s.1 2 i 0) (h3 : s'.1 3 i 0 = s.1 3 i 0) (h4 : s'.1 4 i 0 = s.1 4 i 0) (h16 : s'.1 16 i 0 = s.1 16 i 0) (h7 : s'.1 7 i = s.1 7 i) (h8 : s.1 8 k 0 = 1 → s'.1 8 k 0 = 1) : zwt e s' i k := by
  obtain ⟨Y, a, c, w, g⟩ := h
  refine ⟨Y, a, c, w.kp h2 h4 h16 h7, ?_⟩
  rw [h2, h3]
  exact g.imp (fun z => ⟨z.1, z.2.1, z.2.2.1, z.2.2.2.1, z.2.2.2.2.1, z.2.2.2.2.2.1, z.2.2.2.2.2.2.1, h8 z.2.2.2.2.2.2.2⟩) id
/-- on to another place of the code -/
theorem zwf.nx (h : zwf e s i Y a c) (x : zNx Y a c t H S T P) (e2 : s'.1 2 i 0 = t) (e16 : S ≤ s'.1 16 i 0 ∧ 0 ≤ s'.1 16 i 0 ∧ s'.1 16 i 0 ≤ 10) (e4 : s'.1 4 i 0 = T) (hch : zch e Y a c (s'.1 16 i 0) (s'.1 7 i) T.toNat P) : zwf e s' i Y a c := by
  obtain ⟨x1, x2, x3, x4, x5, x6⟩ := x
  refine ⟨h.1, by rw [e2]; exact ⟨x1, x2⟩, by rw [e2]; omega, e16.2, by rw [e2, e4, x5], ?_⟩
  rw [e2, e4, x6]
  exact hch
/-- only the top changes -/
def zTp (s s' : ZS) : Prop := s'.1 0 0 0 = s.1 0 0 0 ∧ (∀ i, i ≠ zf s → s'.1 2 i 0 = s.1 2 i 0 ∧ s'.1 3 i 0 = s.1 3 i 0 ∧ s'.1 4 i 0 = s.1 4 i 0 ∧ s'.1 16 i 0 = s.1 16 i 0 ∧ s'.1 7 i = s.1 7 i) ∧ (∀ i, s'.1 5 i 0 = s.1 5 i 0 ∧ s'.1 6 i 0 = s.1 6 i 0) ∧ (∀ k, (s'.1 8 k 0 = 0 ∨ s'.1 8 k 0 = 1 ∨ s'.1 8 k 0 = 2) ∧ (s.1 8 k 0 = 1 → s'.1 8 k 0 = 1)) ∧ 0 ≤ s'.1 9 0 0
/-- what is known of the others -/
def zBs (e s : ZS) : Prop := (0 ≤ s.1 0 0 0 ∧ s.1 0 0 0 ≤ 12 ∧ s.1 5 0 0 = -1 ∧ s.1 6 0 0 = 0 ∧ 0 ≤ s.1 9 0 0 ∧ (∀ k, s.1 8 k 0 = 0 ∨ s.1 8 k 0 = 1 ∨ s.1 8 k 0 = 2)) ∧ (∀ i, 0 ≤ i → i + 1 < s.1 0 0 0 → zwt e s i (s.1 5 (i + 1) 0) ∧ s.1 6 (i + 1) 0 = s.1 6 i 0 + s.1 3 i 0) ∧ ∀ i j, 0 ≤ i → i < j → j < s.1 0 0 0 → 0 ≤ s.1 5 i 0 → s.1 5 i 0 ≠ s.1 5 j 0
theorem zBs.tp (h : zBs e s) (g : zTp s s') : zBs e s' := by
  obtain ⟨⟨h1, h2, h3, h4, h5, h6⟩, h7, h8⟩ := h
  obtain ⟨g1, g2, g3, g4, g5⟩ := g
  unfold zf at g2
  refine ⟨⟨by omega, by omega, (g3 0).1.trans h3, (g3 0).2.trans h4, g5, fun k => (g4 k).1⟩, fun i p q => ?_, fun i j p q r => ?_⟩
  · rw [g1] at q
    obtain ⟨a1, a2, a3, a4, a5⟩ := g2 i (by omega)
    rw [(g3 (i + 1)).1, (g3 (i + 1)).2, (g3 i).2, a2]
    exact ⟨(h7 i p q).1.kp a1 a2 a3 a4 a5 (g4 _).2, (h7 i p q).2⟩
  · rw [g1] at r
    rw [(g3 i).1, (g3 j).1]
    exact h8 i j p q r
/-- the numbers below code i -/
theorem zBs.sb (h : zBs e s) : ∀ k : Nat, (k : Int) < s.1 0 0 0 → 0 ≤ s.1 6 k 0 ∧ s.1 6 k 0 ≤ 200 * k := by
  intro k
  induction k with
  | zero => intro _; have := h.1.2.2.2.1; show 0 ≤ s.1 6 0 0 ∧ s.1 6 0 0 ≤ 200 * 0; omega
  | succ k ih =>
    intro hk
    have a := ih (by omega)
    obtain ⟨⟨Y, a1, c, w, g⟩, b⟩ := h.2.1 k (by omega) (by omega)
    obtain ⟨⟨w1, w2⟩, w3, w4, w5, w6⟩ := w
    obtain ⟨q1, q2, q3⟩ := w2 _ w3.1 w3.2
    have hh : 0 ≤ s.1 3 k 0 ∧ s.1 3 k 0 ≤ 200 := by
      rcases g with g | g
      · omega
      · have := q3.2.2.2.2.2.2.2.2.1 (Or.inl g.2.1)
        omega
    show 0 ≤ s.1 6 ((k : Int) + 1) 0 ∧ s.1 6 ((k : Int) + 1) 0 ≤ 200 * ((k : Int) + 1)
    omega
end S91
