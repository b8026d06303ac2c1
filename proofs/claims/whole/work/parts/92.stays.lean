/-! what a state keeps when an instruction is done -/
section S92
variable {e s s' : ZS} {Y : Nat → Int → Int} {a c i k t H S S' T P o n g : Int}
/-- within the code on top -/
theorem zWT_in (hb : zBs e s) (h1 : 1 ≤ s.1 0 0 0) (w : zwf e s (zf s) Y a c) (x : zNx Y a c t H S T P) (tp : zTp s s') (m : s'.1 1 0 0 = 0) (e2 : s'.1 2 (zf s) 0 = t) (e3 : s'.1 3 (zf s) 0 = H) (e16 : S ≤ s'.1 16 (zf s) 0 ∧ 0 ≤ s'.1 16 (zf s) 0 ∧ s'.1 16 (zf s) 0 ≤ 10) (e4 : s'.1 4 (zf s) 0 = T) (hch : zch e Y a c (s'.1 16 (zf s) 0) (s'.1 7 (zf s)) T.toNat P) : zWT e s' := by
  have f : zf s' = zf s := by unfold zf; rw [tp.1]
  refine ⟨hb.tp tp, Or.inl ⟨Or.inl m, by rw [tp.1]; exact h1, ⟨Y, a, c, ?_, ?_⟩, fun q => by omega⟩⟩
  · rw [f]; exact w.nx x e2 e16 e4 hch
  · unfold zh zpc; rw [f, e2, e3, x.2.2.1]
/-- what fails -/
theorem zWT_er (hb : zBs e s) (h1 : 1 ≤ s.1 0 0 0) (w : zwf e s (zf s) Y a c) (tp : zTp s s') (m : s'.1 1 0 0 = 3 ∨ s'.1 1 0 0 = 7) (e2 : s'.1 2 (zf s) 0 = s.1 2 (zf s) 0) (e4 : s'.1 4 (zf s) 0 = s.1 4 (zf s) 0) (e16 : s'.1 16 (zf s) 0 = s.1 16 (zf s) 0) (e7 : s'.1 7 (zf s) = s.1 7 (zf s)) : zWT e s' := by
  have f : zf s' = zf s := by unfold zf; rw [tp.1]
  refine ⟨hb.tp tp, Or.inr (Or.inl ⟨m, by rw [tp.1]; exact h1, Y, a, c, ?_⟩)⟩
  rw [f]; exact w.kp e2 e4 e16 e7
theorem zNx_eq {H' S' T' P' t' : Int} (x : zNx Y a c t H S T P) (h : H = H') : zNx Y a c t H' S T P := by rw [← h]; exact x
/-- s' is s, but for the place, the height, the TRYs and the LOCALS set of the code on top -/
def zMv (s s' : ZS) (t H T S : Int) : Prop := zTp s s' ∧ s'.1 1 0 0 = s.1 1 0 0 ∧ s'.1 2 (zf s) 0 = t ∧ s'.1 3 (zf s) 0 = H ∧ s'.1 4 (zf s) 0 = T ∧ s'.1 16 (zf s) 0 = S
theorem mvA0 {v : Int32} (hb : zBs e s) : zMv s (znx (zpush s v)) (zpc s + 1) (zh s + 1) (s.1 4 (zf s) 0) (s.1 16 (zf s) 0) := ⟨⟨rfl, fun i hi => ⟨(zi_i hi), (zi_k (by decide)).trans ((zi_i hi)), rfl, rfl, rfl⟩, fun i => ⟨rfl, rfl⟩, fun k => ⟨hb.1.2.2.2.2.2 k, id⟩, hb.1.2.2.2.2.1⟩, rfl, zi_e, (zi_k (by decide)).trans (zi_e), rfl, rfl⟩
theorem zdn_h : zh (zdn s c) = zh s - c := zi_e
theorem mvA {v : Int32} (hb : zBs e s) : zMv s (znx (zpush (zdn s c) v)) (zpc s + 1) (zh s - c + 1) (s.1 4 (zf s) 0) (s.1 16 (zf s) 0) := ⟨⟨rfl, fun i hi => ⟨(zi_i hi), (zi_k (by decide)).trans ((zi_i hi).trans ((zi_i hi))), rfl, rfl, rfl⟩, fun i => ⟨rfl, rfl⟩, fun k => ⟨hb.1.2.2.2.2.2 k, id⟩, hb.1.2.2.2.2.1⟩, rfl, zi_e, ((zi_k (by decide)).trans zi_e).trans (by rw [zdn_h]), rfl, rfl⟩
theorem mvB (hb : zBs e s) : zMv s (znx (zdn s c)) (zpc s + 1) (zh s - c) (s.1 4 (zf s) 0) (s.1 16 (zf s) 0) := ⟨⟨rfl, fun i hi => ⟨(zi_i hi), (zi_k (by decide)).trans ((zi_i hi)), rfl, rfl, rfl⟩, fun i => ⟨rfl, rfl⟩, fun k => ⟨hb.1.2.2.2.2.2 k, id⟩, hb.1.2.2.2.2.1⟩, rfl, zi_e, (zi_k (by decide)).trans (zi_e), rfl, rfl⟩
theorem mvN (hb : zBs e s) : zMv s (znx s) (zpc s + 1) (zh s) (s.1 4 (zf s) 0) (s.1 16 (zf s) 0) := ⟨⟨rfl, fun i hi => ⟨(zi_i hi), rfl, rfl, rfl, rfl⟩, fun i => ⟨rfl, rfl⟩, fun k => ⟨hb.1.2.2.2.2.2 k, id⟩, hb.1.2.2.2.2.1⟩, rfl, zi_e, rfl, rfl, rfl⟩
theorem mvC (hb : zBs e s) : zMv s (zgo (zdn s c) t) (t) (zh s - c) (s.1 4 (zf s) 0) (s.1 16 (zf s) 0) := ⟨⟨rfl, fun i hi => ⟨(zi_i hi), (zi_k (by decide)).trans ((zi_i hi)), rfl, rfl, rfl⟩, fun i => ⟨rfl, rfl⟩, fun k => ⟨hb.1.2.2.2.2.2 k, id⟩, hb.1.2.2.2.2.1⟩, rfl, zi_e, (zi_k (by decide)).trans (zi_e), rfl, rfl⟩
theorem mvC0 (hb : zBs e s) : zMv s (zgo s t) (t) (zh s) (s.1 4 (zf s) 0) (s.1 16 (zf s) 0) := ⟨⟨rfl, fun i hi => ⟨(zi_i hi), rfl, rfl, rfl, rfl⟩, fun i => ⟨rfl, rfl⟩, fun k => ⟨hb.1.2.2.2.2.2 k, id⟩, hb.1.2.2.2.2.1⟩, rfl, zi_e, rfl, rfl, rfl⟩
theorem mvD {v : Int32} (hb : zBs e s) : zMv s (znx (zi (zw (zdn s c) 0 (zf s) n v) 16 (zf s) 0 S)) (zpc s + 1) (zh s - c) (s.1 4 (zf s) 0) (S) := ⟨⟨rfl, fun i hi => ⟨(zi_i hi), (zi_k (by decide)).trans ((zi_k (by decide)).trans ((zi_i hi))), rfl, (zi_k (by decide)).trans ((zi_i hi)), rfl⟩, fun i => ⟨rfl, rfl⟩, fun k => ⟨hb.1.2.2.2.2.2 k, id⟩, hb.1.2.2.2.2.1⟩, rfl, zi_e, (zi_k (by decide)).trans ((zi_k (by decide)).trans (zi_e)), rfl, (zi_k (by decide)).trans (zi_e)⟩
theorem mvE (hb : zBs e s) : zMv s (znx (zi (zi s 7 (zf s) i k) 4 (zf s) 0 T)) (zpc s + 1) (zh s) (T) (s.1 16 (zf s) 0) := ⟨⟨rfl, fun i hi => ⟨(zi_i hi), rfl, (zi_k (by decide)).trans ((zi_i hi)), rfl, funext fun j => ((zi_k (by decide)).trans ((zi_k (by decide)).trans ((zi_i hi))))⟩, fun i => ⟨rfl, rfl⟩, fun k => ⟨hb.1.2.2.2.2.2 k, id⟩, hb.1.2.2.2.2.1⟩, rfl, zi_e, rfl, (zi_k (by decide)).trans (zi_e), rfl⟩
theorem mvF (hb : zBs e s) : zMv s (znx (zi s 4 (zf s) 0 T)) (zpc s + 1) (zh s) (T) (s.1 16 (zf s) 0) := ⟨⟨rfl, fun i hi => ⟨(zi_i hi), rfl, (zi_k (by decide)).trans ((zi_i hi)), rfl, rfl⟩, fun i => ⟨rfl, rfl⟩, fun k => ⟨hb.1.2.2.2.2.2 k, id⟩, hb.1.2.2.2.2.1⟩, rfl, zi_e, rfl, (zi_k (by decide)).trans (zi_e), rfl⟩
theorem mvG {v : Int32} {kk : Nat} (hb : zBs e s) : zMv s (zw (znx (zdn s c)) kk i k v) (zpc s + 1) (zh s - c) (s.1 4 (zf s) 0) (s.1 16 (zf s) 0) := mvB hb
/-- on within the code -/
theorem zWT_mv (hb : zBs e s) (hm : s.1 1 0 0 = 0) (h1 : 1 ≤ s.1 0 0 0) (w : zwf e s (zf s) Y a c) (mv : zMv s s' t H T S) (x : zNx Y a c t H S' T P) (hS : S' ≤ S ∧ 0 ≤ S ∧ S ≤ 10) (hch : zch e Y a c S (s'.1 7 (zf s)) T.toNat P) : zWT e s' := by
  obtain ⟨m1, m2, m3, m4, m5, m6⟩ := mv
  exact zWT_in hb h1 w x m1 (m2.trans hm) m3 m4 (by rw [m6]; exact hS) m5 (by rw [m6]; exact hch)
/-- the TRYs and LOCALS stay -/
theorem zWT_mv0 {H' : Int} (hb : zBs e s) (hm : s.1 1 0 0 = 0) (h1 : 1 ≤ s.1 0 0 0) (w : zwf e s (zf s) Y a c) (mv : zMv s s' t H (s.1 4 (zf s) 0) (s.1 16 (zf s) 0)) (x : zNx Y a c t H' (Y 1 (zpc s)) (Y 2 (zpc s)) (Y 3 (zpc s))) (hH : H' = H) (e7 : s'.1 7 (zf s) = s.1 7 (zf s)) : zWT e s' := by
  have w3 := w.2.2.1
  have w4 := w.2.2.2.2.1
  refine zWT_mv hb hm h1 w mv (S' := Y 1 (zpc s)) (P := Y 3 (zpc s)) ?_ ⟨w3, w.2.2.2.1⟩ ?_
  · rw [hH] at x
    rw [w4]
    exact x
  · rw [e7]
    exact w.2.2.2.2.2
/-- an instruction that uses no member -/
theorem zWT_ex (hb : zBs e s) (hm : s.1 1 0 0 = 0) (h1 : 1 ≤ s.1 0 0 0) (w : zwf e s (zf s) Y a c) (hh : zh s = Y 0 (zpc s)) (hE : zET e) (hno : ¬ (3 ≤ zop e (zpc s) ∧ zop e (zpc s) ≤ 7)) (hn23 : zop e (zpc s) ≠ 23) : zWT e (zex e s (zop e (zpc s)) (znum e (zpc s))) := by
  obtain ⟨⟨b1, b2, b3, b4, b5, b6⟩, ct, op⟩ := w.1.2 (zpc s) w.2.1.1 w.2.1.2
  have hz : zn e (zpc s) = if zop e (zpc s) = 24 ∨ zop e (zpc s) = 25 ∨ zop e (zpc s) = 26 ∨ zop e (zpc s) = 31 then znum e (zpc s) + zoff (zpc s) else znum e (zpc s) := rfl
  have w3 : Y 1 (zpc s) ≤ s.1 16 (zf s) 0 := w.2.2.1
  have w4 : s.1 4 (zf s) 0 = Y 2 (zpc s) := w.2.2.2.2.1
  have w16 := w.2.2.2.1
  have hin : zIn e (zpc s) := by
    have := w.1.1
    have := w.2.1
    have e2 : zpc s = s.1 2 (zf s) 0 := rfl
    unfold zIn
    omega
  obtain ⟨ora, orb⟩ := op.1
  obtain ⟨o, ho⟩ : ∃ o, zop e (zpc s) = o := ⟨_, rfl⟩
  obtain ⟨n, hn⟩ : ∃ n, znum e (zpc s) = n := ⟨_, rfl⟩
  have g32 := hE.2.2.1 _ hin
  simp only [ho, hn] at op hz hno hn23 ora orb g32
  rw [ho, hn]
  have er : ∀ {c' : Int} {v : Int32}, zWT e (zerr (zdn s c') v 3) := fun {c' v} => zWT_er hb h1 w ⟨rfl, fun i hi => ⟨rfl, zi_i hi, rfl, rfl, rfl⟩, fun i => ⟨rfl, rfl⟩, fun k => ⟨hb.1.2.2.2.2.2 k, id⟩, hb.1.2.2.2.2.1⟩ (Or.inl zi_e) rfl rfl rfl rfl
  have rt : ∀ {v : Int32}, zWT e (zi (zi (zw s 6 0 0 v) 0 0 0 (zf s)) 1 0 0 2) := fun {v} => by
    have zfe : zf s = s.1 0 0 0 - 1 := rfl
    have e0 : (zi (zi (zw s 6 0 0 v) 0 0 0 (zf s)) 1 0 0 2).1 0 0 0 = zf s := (zi_k (by decide)).trans zi_e
    obtain ⟨⟨b1, b2, b3, b4, b5, b6⟩, b7, b8⟩ := hb
    refine ⟨⟨⟨by omega, by omega, b3, b4, b5, b6⟩, fun i p q => ?_, fun i j p q r => ?_⟩, Or.inr (Or.inr (Or.inl ⟨Or.inl zi_e, fun q => ⟨?_, fun i u v => ?_⟩⟩))⟩
    · rw [e0] at q
      exact ⟨(b7 i p (by omega)).1.kp rfl rfl rfl rfl rfl id, (b7 i p (by omega)).2⟩
    · rw [e0] at r
      exact b8 i j p q (by omega)
    · rw [e0] at q
      rw [e0]
      have := (b7 (zf s - 1) (by omega) (by omega)).1
      rw [show zf s - 1 + 1 = zf s by omega] at this
      have e2 : zf (zi (zi (zw s 6 0 0 v) 0 0 0 (zf s)) 1 0 0 2) = zf s - 1 := by unfold zf at e0 ⊢; rw [e0]
      rw [e2]
      exact this.kp rfl rfl rfl rfl rfl id
    · rw [e0] at v ⊢
      exact b8 i (zf s) u v (by omega)
  unfold zex
  by_cases c0 : o = 0
  · rw [if_pos c0]
    exact zWT_mv0 hb hm h1 w (mvA0 hb) (op.2.1 c0) (by omega) rfl
  rw [if_neg c0]
  by_cases c1 : o = 1
  · rw [if_pos c1]
    exact zWT_mv0 hb hm h1 w (mvA0 hb) (op.2.2.1 c1).2.2 (by omega) rfl
  rw [if_neg c1]
  by_cases c2 : o = 2
  · rw [if_pos c2]
    rw [if_neg (by omega)] at hz
    obtain ⟨z1, z2, z3, z4, z5⟩ := op.2.2.2.1 c2
    rw [hz] at z1 z2 z3 z5
    refine zWT_mv hb hm h1 w (mvD hb) (S' := if n < Y 1 (zpc s) then Y 1 (zpc s) else n + 1) (P := Y 3 (zpc s)) ?_ ?_ ?_
    · rw [hh, w4]; exact z5
    · by_cases y : n < s.1 16 (zf s) 0
      · rw [if_pos y]
        refine ⟨?_, w16⟩
        split <;> omega
      · rw [if_neg y, if_neg (by omega)]
        omega
    · refine w.2.2.2.2.2.mono ?_ (fun _ _ _ => rfl)
      split <;> omega
  rw [if_neg c2]
  rw [if_neg (by omega : ¬ o ≤ 7)]
  by_cases c8 : o = 8
  · rw [if_pos c8]; exact rt
  rw [if_neg c8]
  by_cases c34 : o = 34
  · rw [if_pos c34]; exact rt
  rw [if_neg c34]
  by_cases c9 : o = 9
  · rw [if_pos c9]
    exact zWT_mv0 hb hm h1 w (mvB hb) (op.2.2.2.2.2.1 (by omega)).2 (by omega) rfl
  rw [if_neg c9]
  by_cases c33 : o = 33
  · rw [if_pos c33]
    exact zWT_mv0 hb hm h1 w (mvB hb) (op.2.2.2.2.2.2.2.1 (by omega)).2 (by omega) rfl
  rw [if_neg c33]
  by_cases c20 : o ≤ 20
  · rw [if_pos c20]
    by_cases y : ztop s 1 = 0 ∧ (o = 13 ∨ o = 14)
    · rw [if_pos y]; exact er
    · rw [if_neg y]
      exact zWT_mv0 hb hm h1 w (mvA hb) (op.2.2.2.2.2.2.2.2.2.1 (by omega)).2 (by omega) rfl
  rw [if_neg c20]
  by_cases c21 : o = 21
  · rw [if_pos c21]
    exact zWT_mv0 hb hm h1 w (mvA hb) (op.2.2.2.2.2.2.1 (by omega)).2 (by omega) rfl
  rw [if_neg c21]
  by_cases c22 : o = 22
  · rw [if_pos c22]
    exact zWT_mv0 hb hm h1 w (mvA hb) (op.2.2.2.2.2.2.1 (by omega)).2 (by omega) rfl
  rw [if_neg c22, if_neg hn23]
  by_cases c24 : o = 24
  · rw [if_pos c24]
    rw [if_pos (by omega)] at hz
    obtain ⟨z1, z2, z3⟩ := op.2.2.2.2.2.2.2.2.2.2.2.1 (by omega)
    rw [hz] at z3
    by_cases y : ztop s 1 = 0
    · rw [if_pos y]
      exact zWT_mv0 hb hm h1 w (mvC hb) z3 (by omega) rfl
    · rw [if_neg y]
      exact zWT_mv0 hb hm h1 w (mvC hb) z2 (by omega) rfl
  rw [if_neg c24]
  by_cases c31 : o = 31
  · rw [if_pos c31]
    rw [if_pos (by omega)] at hz
    obtain ⟨z1, z2, z3⟩ := op.2.2.2.2.2.2.2.2.2.2.2.1 (by omega)
    rw [hz] at z3
    by_cases y : ztop s 1 = 0
    · rw [if_pos y]
      exact zWT_mv0 hb hm h1 w (mvC hb) z2 (by omega) rfl
    · rw [if_neg y]
      exact zWT_mv0 hb hm h1 w (mvC hb) z3 (by omega) rfl
  rw [if_neg c31]
  by_cases c25 : o = 25
  · rw [if_pos c25]
    rw [if_pos (by omega)] at hz
    have z3 := op.2.2.2.2.2.2.2.2.2.2.2.2.1 c25
    rw [hz] at z3
    exact zWT_mv0 hb hm h1 w (mvC0 hb) z3 (by omega) rfl
  rw [if_neg c25]
  by_cases c26 : o = 26
  · rw [if_pos c26]
    rw [if_pos (by omega)] at hz
    obtain ⟨z1, z2, z3⟩ := op.2.2.2.2.2.2.2.2.2.2.2.2.2.1 c26
    obtain ⟨tt, ht⟩ : ∃ tt : Nat, (tt : Int) = s.1 4 (zf s) 0 := ⟨(s.1 4 (zf s) 0).toNat, by omega⟩
    refine zWT_mv hb hm h1 w (mvE hb) (S' := Y 1 (zpc s)) (P := zpc s) ?_ ⟨w3, w16⟩ ?_
    · rw [hh, w4]; exact z2
    · have wc := w.2.2.2.2.2
      rw [← ht, show ((tt : Int)).toNat = tt by omega] at wc
      rw [← ht, show ((tt : Int) + 1).toNat = tt + 1 by omega]
      refine ⟨((zi_k (by decide)).trans ((zi_k (by decide)).trans zi_e)).trans hz.symm, ⟨w.2.1.1, w.2.1.2, ho.trans c26, w3⟩, wc.mono (Int.le_refl _) fun j p q => ?_⟩
      exact (zi_k (by decide)).trans ((zi_k (by decide)).trans (zi_j (by omega)))
  rw [if_neg c26]
  by_cases c27 : o = 27
  · rw [if_pos c27]
    obtain ⟨z1, q, z2, z3⟩ := op.2.2.2.2.2.2.2.2.2.2.2.2.2.2.1 c27
    refine zWT_mv hb hm h1 w (mvF hb) (S' := Y 1 (zpc s)) (P := q) ?_ ⟨w3, w16⟩ ?_
    · rw [hh, w4]; exact z3
    · have wc := w.2.2.2.2.2
      obtain ⟨tt, ht⟩ : ∃ tt : Nat, ((tt : Int) + 1) = s.1 4 (zf s) 0 := ⟨(s.1 4 (zf s) 0).toNat - 1, by omega⟩
      rw [← ht, show ((tt : Int) + 1).toNat = tt + 1 by omega] at wc
      rw [← ht, show ((tt : Int) + 1 - 1).toNat = tt by omega, ← z2]
      exact wc.2.2
  rw [if_neg c27]
  by_cases c28 : o = 28
  · rw [if_pos c28]
    by_cases y : ztop s 1 = 0
    · rw [if_pos y]; exact er
    · rw [if_neg y]
      exact zWT_mv0 hb hm h1 w (mvB hb) (op.2.2.2.2.2.1 (by omega)).2 (by omega) rfl
  rw [if_neg c28]
  by_cases c29 : o = 29
  · rw [if_pos c29]; exact er
  rw [if_neg c29]
  by_cases c32 : o = 32
  · rw [if_pos c32]
    exact zWT_mv0 hb hm h1 w (mvA hb) (op.2.2.2.2.2.2.2.2.1 (by omega)).2.2 (by rw [g32 c32]; omega) rfl
  rw [if_neg c32]
  exact zWT_mv0 hb hm h1 w (mvN hb) (op.2.2.2.2.2.2.2.2.2.2.2.2.2.2.2 (by omega)) (by omega) rfl
end S92
