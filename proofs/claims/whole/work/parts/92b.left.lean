/-! what a state keeps when a code is left; where the codes stand -/
/-- places of the codes on the stack -/
def zLy (s : ZS) : Prop := (1 ≤ s.1 0 0 0 ∧ s.1 0 0 0 ≤ 12) ∧ (∀ i, 0 ≤ i → i < s.1 0 0 0 → 0 ≤ s.1 6 i 0 ∧ s.1 6 i 0 ≤ 200 * i ∧ 0 ≤ s.1 16 i 0 ∧ s.1 16 i 0 ≤ 10) ∧ (∀ i, 0 ≤ i → i < zf s → 0 ≤ s.1 3 i 0 ∧ 10 * i + s.1 6 i 0 + 10 + s.1 3 i 0 ≤ 10 * zf s + s.1 6 (zf s) 0) ∧ 0 ≤ zh s ∧ zh s ≤ 200
def ztp (s : ZS) : Int := 10 * zf s + s.1 6 (zf s) 0 + 10 + zh s
section S92b
variable {e s s' : ZS} {Y : Nat → Int → Int} {a c i k t H S S' T P o n g m : Int}
/-- a waiting code's height -/
theorem zwt.h (h : zwt e s i k) : 0 ≤ s.1 3 i 0 ∧ s.1 3 i 0 ≤ 200 ∧ 0 ≤ s.1 16 i 0 ∧ s.1 16 i 0 ≤ 10 := by
  obtain ⟨Y, a, c, w, g⟩ := h
  obtain ⟨⟨w1, w2⟩, w3, w4, w5, w6⟩ := w
  obtain ⟨q1, q2, q3⟩ := w2 _ w3.1 w3.2
  rcases g with g | g
  · omega
  · have := q3.2.2.2.2.2.2.2.2.1 (Or.inl g.2.1)
    omega
theorem zBs.ls (h : zBs e s) : ∀ j : Nat, (j : Int) < s.1 0 0 0 → ∀ i : Int, 0 ≤ i → i < j → 0 ≤ s.1 3 i 0 ∧ 10 * i + s.1 6 i 0 + 10 + s.1 3 i 0 ≤ 10 * j + s.1 6 j 0 := by
  intro j
  induction j with
  | zero => intro _ i p q; omega
  | succ j ih =>
    intro hj i p q
    obtain ⟨a1, a2⟩ := h.2.1 j (by omega) (by omega)
    have a3 := a1.h
    have e1 : ((j + 1 : Nat) : Int) = (j : Int) + 1 := by omega
    rw [e1] at q ⊢
    by_cases y : i = j
    · subst y; omega
    · have := ih (by omega) i p (by omega)
      omega
/-- where the codes stand -/
theorem zWT.ly (h : zWT e s) (hm : s.1 1 0 0 = 0 ∨ s.1 1 0 0 = 1) : zLy s := by
  obtain ⟨hb, hc⟩ := h
  have hb' : zBs e s := hb
  have hm' : ∃ Y a c, 1 ≤ s.1 0 0 0 ∧ zwf e s (zf s) Y a c ∧ zh s = Y 0 (zpc s) := by
    rcases hc with ⟨-, h1, ⟨Y, a, c, w⟩, -⟩ | ⟨z, -⟩ | ⟨z, -⟩ | z | z
    · exact ⟨Y, a, c, h1, w⟩
    all_goals omega
  clear hc
  obtain ⟨Y, a, c, h1, w, hh⟩ := hm'
  have q := w.1.2 (zpc s) w.2.1.1 w.2.1.2
  have bb := hb'.1
  have zfe : zf s = s.1 0 0 0 - 1 := rfl
  refine ⟨⟨h1, bb.2.1⟩, fun i p q => ?_, fun i p q => ?_, ?_⟩
  · have sb := hb'.sb i.toNat (by omega)
    rw [show ((i.toNat : Nat) : Int) = i by omega] at sb
    by_cases y : i = zf s
    · have := w.2.2.2.1
      rw [← y] at this
      omega
    · have := (hb'.2.1 i p (by omega)).1.h
      omega
  · have := hb'.ls (zf s).toNat (by omega) i p (by omega)
    rw [show (((zf s).toNat : Nat) : Int) = zf s by omega] at this
    exact this
  · have := w.1.1
    have := w.2.1
    have e2 : zpc s = s.1 2 (zf s) 0 := rfl
    rw [hh]
    omega
/-- what is caught, and where -/
theorem zwf.ct (w : zwf e s i Y a c) (ho : zop e (s.1 2 i 0) ≠ 27) : (s.1 4 i 0 = 0 ∧ e.1 19 (s.1 2 i 0) 0 = -2) ∨ (0 < s.1 4 i 0 ∧ 0 ≤ e.1 19 (s.1 2 i 0) 0 ∧ e.1 19 (s.1 2 i 0) 0 + zoff (s.1 2 i 0) = s.1 7 i (s.1 4 i 0 - 1) ∧ ∃ q, zNx Y a c (s.1 7 i (s.1 4 i 0 - 1)) 1 (s.1 16 i 0) (s.1 4 i 0 - 1) q ∧ zch e Y a c (s.1 16 i 0) (s.1 7 i) (s.1 4 i 0 - 1).toNat q) := by
  obtain ⟨w1, w2, w3, w4, w5, w6⟩ := w
  obtain ⟨b, ct, op⟩ := w1.2 _ w2.1 w2.2
  have n27 : e.1 0 (s.1 2 i 0) 0 ≠ 27 := fun q => by
    unfold zop at ho op
    rw [q] at ho op
    by_cases y : s.1 2 i 0 = e.1 8 0 0
    · rw [if_pos y] at op
      have := op.1.1
      rw [show iw 27 = -1 by decide] at this
      omega
    · rw [if_neg y] at ho; exact ho rfl
  rcases ct with ⟨c1, c2⟩ | ⟨c1, c2, c3, c4, c5, c6⟩
  · exact Or.inl ⟨by omega, c2.resolve_left n27⟩
  · have c7 := c6.resolve_left n27
    obtain ⟨t, ht⟩ : ∃ t : Nat, (s.1 4 i 0).toNat = t + 1 := ⟨(s.1 4 i 0).toNat - 1, by omega⟩
    rw [ht] at w6
    obtain ⟨x1, x2, x3⟩ := w6
    have et : (t : Int) = s.1 4 i 0 - 1 := by omega
    rw [et] at x1
    obtain ⟨b2, -, op2⟩ := w1.2 _ x2.1 x2.2.1
    have := (op2.2.2.2.2.2.2.2.2.2.2.2.2.2.1 x2.2.2.1).2.2
    refine Or.inr ⟨by omega, c7.1, by omega, Y 3 (Y 3 (s.1 2 i 0)), ?_, ?_⟩
    · rw [x1]
      obtain ⟨y1, y2, y3, y4, y5, y6⟩ := this
      exact ⟨y1, y2, y3, by omega, by omega, y6⟩
    · rw [show (s.1 4 i 0 - 1).toNat = t by omega]; exact x3
/-- a code is left, or what fails is caught -/
theorem zWT_thr (h : zWT e s) (hm : s.1 1 0 0 = 3 ∨ s.1 1 0 0 = 7) (ho : zop e (zpc s) ≠ 27) : zWT e (zthr s (s.1 1 0 0)) := by
  obtain ⟨hb, hc⟩ := h
  have hb' : zBs e s := hb
  have hm' : ∃ Y a c, 1 ≤ s.1 0 0 0 ∧ zwf e s (zf s) Y a c := by
    rcases hc with ⟨z, -⟩ | ⟨-, h1, Y, a, c, w⟩ | ⟨z, -⟩ | z | z
    · omega
    · exact ⟨Y, a, c, h1, w⟩
    all_goals omega
  clear hc
  obtain ⟨Y, a, c, h1, w⟩ := hm'
  unfold zthr
  by_cases y : s.1 1 0 0 = 3 ∧ 0 < s.1 4 (zf s) 0
  · rw [if_pos y]
    rcases w.ct ho with z | ⟨z1, z2, z3, q, z4, z5⟩
    · omega
    · refine zWT_in hb' h1 w z4 ⟨rfl, fun i hi => ⟨?_, ?_, ?_, rfl, rfl⟩, fun i => ⟨rfl, rfl⟩, fun k => ⟨hb'.1.2.2.2.2.2 k, id⟩, hb'.1.2.2.2.2.1⟩ zi_e ?_ ?_ ?_ ?_ ?_
      · exact (zi_k (by decide)).trans ((zi_k (by decide)).trans (zi_i hi))
      · exact (zi_k (by decide)).trans ((zi_k (by decide)).trans ((zi_k (by decide)).trans (zi_i hi)))
      · exact (zi_k (by decide)).trans (zi_i hi)
      · exact (zi_k (by decide)).trans ((zi_k (by decide)).trans zi_e)
      · exact (zi_k (by decide)).trans ((zi_k (by decide)).trans ((zi_k (by decide)).trans zi_e))
      · exact ⟨Int.le_refl _, w.2.2.2.1.1, w.2.2.2.1.2⟩
      · exact (zi_k (by decide)).trans zi_e
      · exact z5
  · rw [if_neg y]
    have zfe : zf s = s.1 0 0 0 - 1 := rfl
    have e0 : (zi (zi s 0 0 0 (zf s)) 1 0 0 (s.1 1 0 0 + 1)).1 0 0 0 = zf s := (zi_k (by decide)).trans zi_e
    have em : (zi (zi s 0 0 0 (zf s)) 1 0 0 (s.1 1 0 0 + 1)).1 1 0 0 = s.1 1 0 0 + 1 := zi_e
    obtain ⟨⟨b1, b2, b3, b4, b5, b6⟩, b7, b8⟩ := hb'
    refine ⟨⟨⟨by omega, by omega, b3, b4, b5, b6⟩, fun i p q => ?_, fun i j p q r => ?_⟩, Or.inr (Or.inr (Or.inl ⟨by omega, fun q => ⟨?_, fun i u v => ?_⟩⟩))⟩
    · rw [e0] at q
      exact ⟨(b7 i p (by omega)).1.kp rfl rfl rfl rfl rfl id, (b7 i p (by omega)).2⟩
    · rw [e0] at r
      exact b8 i j p q (by omega)
    · rw [e0] at q
      rw [e0]
      have := (b7 (zf s - 1) (by omega) (by omega)).1
      rw [show zf s - 1 + 1 = zf s by omega] at this
      have e2 : zf (zi (zi s 0 0 0 (zf s)) 1 0 0 (s.1 1 0 0 + 1)) = zf s - 1 := by unfold zf at e0 ⊢; rw [e0]
      rw [e2]
      exact this.kp rfl rfl rfl rfl rfl id
    · rw [e0] at v ⊢
      exact b8 i (zf s) u v (by omega)
/-- the code below goes on failing -/
theorem zWT_unw (h : zWT e s) (hm : s.1 1 0 0 = 4 ∨ s.1 1 0 0 = 8) (h1 : 1 ≤ s.1 0 0 0) : zWT e (zunw s (s.1 1 0 0)) ∧ 3 ≤ zop e (zpc s) ∧ zop e (zpc s) ≤ 7 := by
  obtain ⟨hb, hc⟩ := h
  have hb' : zBs e s := hb
  have hw : zwt e s (zf s) (s.1 5 (s.1 0 0 0) 0) ∧ ∀ i, 0 ≤ i → i < s.1 0 0 0 → 0 ≤ s.1 5 i 0 → s.1 5 i 0 ≠ s.1 5 (s.1 0 0 0) 0 := by
    rcases hc with ⟨z, -⟩ | ⟨z, -⟩ | ⟨-, z⟩ | z | z
    · omega
    · omega
    · exact z h1
    all_goals omega
  clear hc
  obtain ⟨⟨Y, a, c, w, g⟩, hd⟩ := hw
  obtain ⟨⟨b1, b2, b3, b4, b5, b6⟩, b7, b8⟩ := hb'
  have zfe : zf s = s.1 0 0 0 - 1 := rfl
  refine ⟨?_, ?_⟩
  · unfold zunw
    rcases g with ⟨g1, g2, g3, g4, g5, g6, g7, g8⟩ | ⟨g1, g2, g3⟩
    · rw [if_pos g1]
      have u8 : ∀ k, (zi (zerr s 8 3) 8 (s.1 5 (s.1 0 0 0) 0) 0 2).1 8 k 0 = if k = s.1 5 (s.1 0 0 0) 0 then 2 else s.1 8 k 0 := fun k => by
        by_cases y : k = s.1 5 (s.1 0 0 0) 0
        · rw [if_pos y, y]; exact zi_e
        · rw [if_neg y]; exact zi_i y
      refine ⟨⟨⟨b1, b2, b3, b4, b5, fun k => ?_⟩, fun i p q => ⟨(b7 i p q).1.kp rfl rfl rfl rfl rfl fun z => ?_, (b7 i p q).2⟩, b8⟩, Or.inr (Or.inl ⟨Or.inl ((zi_k (by decide)).trans zi_e), h1, Y, a, c, w.kp rfl rfl rfl rfl⟩)⟩
      · rw [u8]
        by_cases y : k = s.1 5 (s.1 0 0 0) 0
        · rw [if_pos y]; omega
        · rw [if_neg y]; exact b6 k
      · rw [u8]
        by_cases y : s.1 5 (i + 1) 0 = s.1 5 (s.1 0 0 0) 0
        · exfalso
          have q' : i + 1 < s.1 0 0 0 := q
          exact hd (i + 1) (by omega) q' (by omega) y
        · rw [if_neg y]; exact z
    · rw [if_neg (by omega), if_neg (by omega)]
      refine ⟨⟨⟨b1, b2, b3, b4, b5, b6⟩, fun i p q => ⟨(b7 i p q).1.kp rfl rfl rfl rfl rfl id, (b7 i p q).2⟩, b8⟩, Or.inr (Or.inl ⟨?_, h1, Y, a, c, w.kp rfl rfl rfl rfl⟩)⟩
      have : (zi s 1 0 0 (s.1 1 0 0 - 1)).1 1 0 0 = s.1 1 0 0 - 1 := zi_e
      omega
  · have e2 : zpc s = s.1 2 (zf s) 0 := rfl
    rw [e2]
    rcases g with g | g <;> omega
end S92b
