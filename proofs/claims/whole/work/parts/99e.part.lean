/-! what a state keeps: members, calls, starts, DRAW -/
section S92c
variable {e s s' : ZS} {Y : Nat → Int → Int} {a c i k t H S S' T P o n g m id key par st : Int} {v : Int32}
/-- a new code on top of one that waits -/
theorem zWT_ent (hb : zBs e s) (h1 : 1 ≤ s.1 0 0 0) (hn : s.1 0 0 0 < 12) (w : zwf e s (zf s) Y a c) (hs : zTp s s') (w2 : s'.1 2 (zf s) 0 = s.1 2 (zf s) 0 ∧ s'.1 4 (zf s) 0 = s.1 4 (zf s) 0 ∧ s'.1 16 (zf s) 0 = s.1 16 (zf s) 0 ∧ s'.1 7 (zf s) = s.1 7 (zf s)) (hw : (0 ≤ st ∧ st < 16 ∧ s'.1 3 (zf s) 0 = Y 0 (zpc s) ∧ 3 ≤ zop e (zpc s) ∧ zop e (zpc s) ≤ 7 ∧ 0 ≤ e.1 2 (zpc s) 0 ∧ e.1 3 (e.1 2 (zpc s) 0) 0 = st ∧ s'.1 8 st 0 = 1) ∨ (st = -1 ∧ zop e (zpc s) = 7 ∧ s'.1 3 (zf s) 0 = Y 0 (zpc s) - e.1 18 (zpc s) 0)) (hd : 0 ≤ st → ∀ i, 0 ≤ i → i < s.1 0 0 0 → 0 ≤ s.1 5 i 0 → s.1 5 i 0 ≠ st) {c' : Int} (he : zEn e t c') (hc : 0 ≤ c' ∧ c' ≤ 10) (hsb : k = s'.1 6 (zf s) 0 + s'.1 3 (zf s) 0) (hm : s'.1 1 0 0 = 0) : zWT e (zent s' t st k c') := by
  obtain ⟨Y2, c2, tc, y0, y1, y2⟩ := he
  have hb' := hb.tp hs
  have zfe : zf s = s.1 0 0 0 - 1 := rfl
  have hs1 := hs.1
  obtain ⟨⟨b1, b2, b3, b4, b5, b6⟩, b7, b8⟩ := hb'
  have fld : ∀ kk, kk = 2 ∨ kk = 3 ∨ kk = 4 ∨ kk = 5 ∨ kk = 6 ∨ kk = 16 → ∀ i, i ≠ s.1 0 0 0 → (zent s' t st k c').1 kk i 0 = s'.1 kk i 0 := fun kk p i q => by
    have q' : i ≠ s'.1 0 0 0 := by omega
    rcases p with p | p | p | p | p | p <;> subst p
    · exact (zi_k (by decide)).trans ((zi_k (by decide)).trans ((zi_k (by decide)).trans ((zi_k (by decide)).trans ((zi_k (by decide)).trans ((zi_k (by decide)).trans (zi_i q'))))))
    · exact (zi_k (by decide)).trans ((zi_k (by decide)).trans ((zi_k (by decide)).trans ((zi_k (by decide)).trans ((zi_k (by decide)).trans (zi_i q')))))
    · exact (zi_k (by decide)).trans ((zi_k (by decide)).trans ((zi_k (by decide)).trans ((zi_k (by decide)).trans (zi_i q'))))
    · exact (zi_k (by decide)).trans ((zi_k (by decide)).trans ((zi_k (by decide)).trans (zi_i q')))
    · exact (zi_k (by decide)).trans ((zi_k (by decide)).trans (zi_i q'))
    · exact (zi_k (by decide)).trans (zi_i q')
  have n0 : (zent s' t st k c').1 0 0 0 = s.1 0 0 0 + 1 := zi_e.trans (by omega)
  have n2 : (zent s' t st k c').1 2 (s.1 0 0 0) 0 = t := by rw [← hs1]; exact (zi_k (by decide)).trans ((zi_k (by decide)).trans ((zi_k (by decide)).trans ((zi_k (by decide)).trans ((zi_k (by decide)).trans ((zi_k (by decide)).trans zi_e)))))
  have n3 : (zent s' t st k c').1 3 (s.1 0 0 0) 0 = 0 := by rw [← hs1]; exact (zi_k (by decide)).trans ((zi_k (by decide)).trans ((zi_k (by decide)).trans ((zi_k (by decide)).trans ((zi_k (by decide)).trans zi_e))))
  have n4 : (zent s' t st k c').1 4 (s.1 0 0 0) 0 = 0 := by rw [← hs1]; exact (zi_k (by decide)).trans ((zi_k (by decide)).trans ((zi_k (by decide)).trans ((zi_k (by decide)).trans zi_e)))
  have n5 : (zent s' t st k c').1 5 (s.1 0 0 0) 0 = st := by rw [← hs1]; exact (zi_k (by decide)).trans ((zi_k (by decide)).trans ((zi_k (by decide)).trans zi_e))
  have n6 : (zent s' t st k c').1 6 (s.1 0 0 0) 0 = k := by rw [← hs1]; exact (zi_k (by decide)).trans ((zi_k (by decide)).trans zi_e)
  have n16 : (zent s' t st k c').1 16 (s.1 0 0 0) 0 = c' := by rw [← hs1]; exact (zi_k (by decide)).trans zi_e
  have n8 : ∀ x, (zent s' t st k c').1 8 x 0 = s'.1 8 x 0 := fun x => rfl
  have n7 : ∀ x, (zent s' t st k c').1 7 x = s'.1 7 x := fun x => rfl
  have zf' : zf (zent s' t st k c') = s.1 0 0 0 := by unfold zf; rw [n0]; omega
  have wf0 : zwt e (zent s' t st k c') (zf s) st := by
    refine ⟨Y, a, c, w.kp (by rw [fld 2 (by omega) _ (by omega)]; exact w2.1) (by rw [fld 4 (by omega) _ (by omega)]; exact w2.2.1) (by rw [fld 16 (by omega) _ (by omega)]; exact w2.2.2.1) (by rw [n7]; exact w2.2.2.2), ?_⟩
    rw [fld 2 (by omega) _ (by omega), fld 3 (by omega) _ (by omega), w2.1, n8]
    exact hw
  refine ⟨⟨⟨by omega, by omega, ?_, ?_, b5, b6⟩, fun i p q => ?_, fun i j p q r => ?_⟩, Or.inl ⟨Or.inl hm, by omega, ⟨Y2, t, c2, ?_, ?_⟩, fun z => ?_⟩⟩
  · rw [fld 5 (by omega) 0 (by omega)]; exact b3
  · rw [fld 6 (by omega) 0 (by omega)]; exact b4
  · rw [n0] at q
    by_cases y : i + 1 = s.1 0 0 0
    · have e1 : i = zf s := by omega
      rw [y, n5, n6, e1, fld 6 (by omega) _ (by omega), fld 3 (by omega) _ (by omega)]
      exact ⟨wf0, hsb⟩
    · obtain ⟨x1, x2⟩ := b7 i p (by omega)
      rw [fld 5 (by omega) _ (by omega), fld 6 (by omega) _ (by omega), fld 6 (by omega) _ (by omega), fld 3 (by omega) _ (by omega)]
      exact ⟨x1.kp (fld 2 (by omega) _ (by omega)) (fld 3 (by omega) _ (by omega)) (fld 4 (by omega) _ (by omega)) (fld 16 (by omega) _ (by omega)) (n7 _) (fun z => z), x2⟩
  · rw [n0] at r
    rw [fld 5 (by omega) i (by omega)]
    by_cases y : j = s.1 0 0 0
    · rw [y, n5]
      intro z
      have z0 := (hs.2.2.1 i).1
      rw [z0] at z ⊢
      by_cases u : 0 ≤ st
      · exact hd u i p (by omega) z
      · omega
    · rw [fld 5 (by omega) j (by omega)]
      exact b8 i j p q (by omega)
  · rw [zf']
    refine ⟨tc, by rw [n2]; exact ⟨Int.le_refl _, tc.1.2.1⟩, by rw [n2, n16]; exact y1, by rw [n16]; exact hc, by rw [n2, n4, y2], ?_⟩
    rw [n4]
    exact trivial
  · unfold zh zpc
    rw [zf', n3, n2, y0]
  · have : (zent s' t st k c').1 1 0 0 = s'.1 1 0 0 := rfl
    omega
/-- what is heard, what begins: the codes stay -/
theorem zTp_0 (hb : zBs e s) (h : ∀ kk, kk = 0 ∨ kk = 2 ∨ kk = 3 ∨ kk = 4 ∨ kk = 5 ∨ kk = 6 ∨ kk = 7 ∨ kk = 9 ∨ kk = 16 → s'.1 kk = s.1 kk) (h8 : ∀ x, (s'.1 8 x 0 = 0 ∨ s'.1 8 x 0 = 1 ∨ s'.1 8 x 0 = 2) ∧ (s.1 8 x 0 = 1 → s'.1 8 x 0 = 1)) : zTp s s' := ⟨by rw [h 0 (by omega)], fun i _ => ⟨by rw [h 2 (by omega)], by rw [h 3 (by omega)], by rw [h 4 (by omega)], by rw [h 16 (by omega)], by rw [h 7 (by omega)]⟩, fun i => ⟨by rw [h 5 (by omega)], by rw [h 6 (by omega)]⟩, h8, by rw [h 9 (by omega)]; exact hb.1.2.2.2.2.1⟩
theorem zBs_0 (hb : zBs e s) (w : zwf e s (zf s) Y a c) (h : ∀ kk, kk = 0 ∨ kk = 2 ∨ kk = 3 ∨ kk = 4 ∨ kk = 5 ∨ kk = 6 ∨ kk = 7 ∨ kk = 9 ∨ kk = 16 → s'.1 kk = s.1 kk) (h8 : ∀ x, (s'.1 8 x 0 = 0 ∨ s'.1 8 x 0 = 1 ∨ s'.1 8 x 0 = 2) ∧ (s.1 8 x 0 = 1 → s'.1 8 x 0 = 1)) : zBs e s' ∧ zwf e s' (zf s') Y a c ∧ zf s' = zf s ∧ zpc s' = zpc s ∧ zh s' = zh s := by
  have tp := zTp_0 hb h h8
  have f : zf s' = zf s := by unfold zf; rw [tp.1]
  refine ⟨hb.tp tp, ?_, f, ?_, ?_⟩
  · rw [f]; exact w.kp (by rw [h 2 (by omega)]) (by rw [h 4 (by omega)]) (by rw [h 16 (by omega)]) (by rw [h 7 (by omega)])
  · unfold zpc; rw [f, h 2 (by omega)]
  · unfold zh; rw [f, h 3 (by omega)]
theorem zWT_e0 (hb : zBs e s) (h1 : 1 ≤ s.1 0 0 0) (w : zwf e s (zf s) Y a c) (h37 : m = 3 ∨ m = 7) : zWT e (zerr (zdn s i) v m) ∧ zWT e (zerr s v m) := by
  refine ⟨zWT_er hb h1 w ⟨rfl, fun i hi => ⟨rfl, zi_i hi, rfl, rfl, rfl⟩, fun i => ⟨rfl, rfl⟩, fun k => ⟨hb.1.2.2.2.2.2 k, fun z => z⟩, hb.1.2.2.2.2.1⟩ (by rw [show (zerr (zdn s i) v m).1 1 0 0 = m from zi_e]; exact h37) rfl rfl rfl rfl, zWT_er hb h1 w ⟨rfl, fun i hi => ⟨rfl, rfl, rfl, rfl, rfl⟩, fun i => ⟨rfl, rfl⟩, fun k => ⟨hb.1.2.2.2.2.2 k, fun z => z⟩, hb.1.2.2.2.2.1⟩ (by rw [show (zerr s v m).1 1 0 0 = m from zi_e]; exact h37) rfl rfl rfl rfl⟩
/-- a CALL -/
theorem zWT_call (hb : zBs e s) (hm : s.1 1 0 0 = 0) (h1 : 1 ≤ s.1 0 0 0) (w : zwf e s (zf s) Y a c) (hh : zh s = Y 0 (zpc s)) (h7 : zop e (zpc s) = 7) (he : zEn e (e.1 6 id 0) (e.1 18 (zpc s) 0)) (hp : par = e.1 18 (zpc s) 0 ∧ 0 ≤ par ∧ par ≤ 4) {d r : Int} : zWT e (zcall e s id d par r) := by
  have op := (w.1.2 (zpc s) w.2.1.1 w.2.1.2).2.2
  have nx := (op.2.2.2.2.2.2.2.2.1 (Or.inl h7)).2.2
  have w16 := w.2.2.2.1
  unfold zcall
  by_cases c1 : 0 ≤ r
  · rw [if_pos c1]
    by_cases c2 : e.1 14 d r = 1
    · rw [if_pos c2]; exact (zWT_e0 (i := 0) hb h1 w (Or.inl rfl)).2
    · rw [if_neg c2]
      exact zWT_mv0 hb hm h1 w (mvA hb) nx (by rw [hp.1]; omega) rfl
  · rw [if_neg c1]
    by_cases c2 : s.1 0 0 0 = 12
    · rw [if_pos c2]; exact (zWT_e0 (i := 0) hb h1 w (Or.inr rfl)).2
    · rw [if_neg c2]
      have hn := hb.1.2.1
      have e3 : (zdn (zarg s par) par).1 3 (zf s) 0 = zh s - par := zi_e
      refine zWT_ent hb h1 (by omega) w (s' := zdn (zarg s par) par) ⟨rfl, fun i hi => ⟨rfl, zi_i hi, rfl, rfl, rfl⟩, fun i => ⟨rfl, rfl⟩, fun k => ⟨hb.1.2.2.2.2.2 k, fun z => z⟩, hb.1.2.2.2.2.1⟩ ⟨rfl, rfl, rfl, rfl⟩ (Or.inr ⟨rfl, h7, by rw [e3, hh, hp.1]⟩) (fun q => by omega) (by rw [hp.1]; exact he) (by omega) ?_ hm
      rw [e3]; rfl
/-- a member whose unit has begun -/
theorem zWT_mem (hb : zBs e s) (hm : s.1 1 0 0 = 0) (h1 : 1 ≤ s.1 0 0 0) (w : zwf e s (zf s) Y a c) (hh : zh s = Y 0 (zpc s)) (ho : 3 ≤ zop e (zpc s) ∧ zop e (zpc s) ≤ 7) (h7 : zop e (zpc s) = 7 → e.1 5 id 0 = e.1 18 (zpc s) 0 ∧ 0 ≤ e.1 18 (zpc s) 0 ∧ e.1 18 (zpc s) 0 ≤ 4 ∧ zEn e (e.1 6 id 0) (e.1 18 (zpc s) 0)) : zWT e (zmem e s (zop e (zpc s)) id) := by
  have op := (w.1.2 (zpc s) w.2.1.1 w.2.1.2).2.2
  unfold zmem
  by_cases c3 : zop e (zpc s) = 3
  · rw [if_pos c3]
    exact zWT_mv0 hb hm h1 w (mvA0 hb) (op.2.2.2.2.1 c3) (by omega) rfl
  rw [if_neg c3]
  by_cases c4 : zop e (zpc s) = 4
  · rw [if_pos c4]
    exact zWT_mv0 hb hm h1 w (mvG hb) (op.2.2.2.2.2.1 (by omega)).2 (by omega) rfl
  rw [if_neg c4]
  by_cases c5 : zop e (zpc s) = 5
  · rw [if_pos c5]
    by_cases y : (ztop s 1).toInt < 0 ∨ e.1 5 id 0 ≤ (ztop s 1).toInt
    · rw [if_pos y]; exact (zWT_e0 hb h1 w (Or.inl rfl)).1
    · rw [if_neg y]
      exact zWT_mv0 hb hm h1 w (mvA hb) (op.2.2.2.2.2.2.1 (by omega)).2 (by omega) rfl
  rw [if_neg c5]
  by_cases c6 : zop e (zpc s) = 6
  · rw [if_pos c6]
    by_cases y : (ztop s 2).toInt < 0 ∨ e.1 5 id 0 ≤ (ztop s 2).toInt
    · rw [if_pos y]; exact (zWT_e0 hb h1 w (Or.inl rfl)).1
    · rw [if_neg y]
      exact zWT_mv0 hb hm h1 w (mvG hb) (op.2.2.2.2.2.2.2.1 (by omega)).2 (by omega) rfl
  rw [if_neg c6]
  have c7 : zop e (zpc s) = 7 := by omega
  obtain ⟨p1, p2, p3, p4⟩ := h7 c7
  by_cases y : 0 ≤ e.1 11 id 0 ∧ e.1 10 1 0 = 1
  · rw [if_pos y]
    have zz := zBs_0 (s' := zhear s (e.1 11 id 0) (e.1 5 id 0) (zruleOf e s id)) hb w (fun kk p => by rcases p with p | p | p | p | p | p | p | p | p <;> subst p <;> rfl) (fun x => ⟨hb.1.2.2.2.2.2 x, fun z => z⟩)
    exact zWT_call zz.1 hm h1 zz.2.1 hh c7 p4 (by rw [p1]; exact ⟨rfl, p2, p3⟩)
  · rw [if_neg y]
    exact zWT_call hb hm h1 w hh c7 p4 (by rw [p1]; exact ⟨rfl, p2, p3⟩)
/-- an instruction that uses a member -/
theorem zWT_use (hb : zBs e s) (hm : s.1 1 0 0 = 0) (h1 : 1 ≤ s.1 0 0 0) (w : zwf e s (zf s) Y a c) (hh : zh s = Y 0 (zpc s)) (hE : zET e) (ho : 3 ≤ zop e (zpc s) ∧ zop e (zpc s) ≤ 7) : zWT e (zuse e s (zop e (zpc s)) (e.1 2 (zpc s) 0) (e.1 3 (e.1 2 (zpc s) 0) 0)) := by
  have hin : zIn e (zpc s) := by
    have := w.1.1
    have := w.2.1
    have e2 : zpc s = s.1 2 (zf s) 0 := rfl
    unfold zIn
    omega
  have T := hE.2.1 _ hin ho.1 ho.2
  unfold zuse
  by_cases c1 : e.1 2 (zpc s) 0 < 0
  · rw [if_pos c1]; exact (zWT_e0 (i := 0) hb h1 w (Or.inl rfl)).2
  rw [if_neg c1]
  rcases T with T | ⟨t1, t2, t3, t4, t5, t6⟩
  · omega
  by_cases c2 : s.1 8 (e.1 3 (e.1 2 (zpc s) 0) 0) 0 = 1
  · rw [if_pos c2]
    exact zWT_mem hb hm h1 w hh ho (fun q => (t6 q).2)
  rw [if_neg c2]
  by_cases c3 : s.1 8 (e.1 3 (e.1 2 (zpc s) 0) 0) 0 = 2
  · rw [if_pos c3]; exact (zWT_e0 (i := 0) hb h1 w (Or.inl rfl)).2
  rw [if_neg c3]
  obtain ⟨key, hkey⟩ : ∃ key, key = e.1 3 (e.1 2 (zpc s) 0) 0 := ⟨_, rfl⟩
  rw [← hkey] at t3 c2 c3 ⊢
  obtain ⟨s1, hs1⟩ : ∃ s1, s1 = zinit e (zi s 8 key 0 1) key := ⟨_, rfl⟩
  have u8 : ∀ x, s1.1 8 x 0 = if x = key then 1 else s.1 8 x 0 := fun x => by
    rw [hs1]
    by_cases y : x = key
    · rw [if_pos y, y]; exact zi_e
    · rw [if_neg y]; exact zi_i y
  have h8 : ∀ x, (s1.1 8 x 0 = 0 ∨ s1.1 8 x 0 = 1 ∨ s1.1 8 x 0 = 2) ∧ (s.1 8 x 0 = 1 → s1.1 8 x 0 = 1) := fun x => by
    rw [u8]
    by_cases y : x = key
    · rw [if_pos y]; omega
    · rw [if_neg y]; exact ⟨hb.1.2.2.2.2.2 x, fun z => z⟩
  have hsame : ∀ kk, kk = 0 ∨ kk = 2 ∨ kk = 3 ∨ kk = 4 ∨ kk = 5 ∨ kk = 6 ∨ kk = 7 ∨ kk = 9 ∨ kk = 16 → s1.1 kk = s.1 kk := fun kk p => by
    rw [hs1]; rcases p with p | p | p | p | p | p | p | p | p <;> subst p <;> rfl
  obtain ⟨z1, z2, z3, z4, z5⟩ := zBs_0 hb w hsame h8
  have m1 : s1.1 1 0 0 = 0 := by rw [hs1]; exact hm
  have n1 : 1 ≤ s1.1 0 0 0 := by rw [hsame 0 (by omega)]; exact h1
  rw [← hs1]
  have uk : s1.1 8 key 0 = 1 := by rw [u8, if_pos rfl]
  by_cases c4 : e.1 7 key 0 < 0
  · rw [if_pos c4]
    have := zWT_mem (id := e.1 2 (zpc s) 0) z1 m1 n1 z2 (by rw [z5, z4]; exact hh) (by rw [z4]; exact ho) (fun q => by rw [z4] at q ⊢; exact (t6 q).2)
    rw [z4] at this
    exact this
  rw [if_neg c4]
  have e7 : 0 ≤ e.1 7 key 0 ∧ zEn e (e.1 7 key 0) 0 := by
    rcases hE.2.2.2.1 key t3.1 t3.2 with q | q
    · omega
    · exact q
  by_cases c5 : s.1 0 0 0 < 12
  · rw [if_pos c5]
    refine zWT_ent z1 n1 (by rw [hsame 0 (by omega)]; exact c5) z2 (s' := s1) ⟨rfl, fun i hi => ⟨rfl, rfl, rfl, rfl, rfl⟩, fun i => ⟨rfl, rfl⟩, fun k => ⟨z1.1.2.2.2.2.2 k, fun z => z⟩, z1.1.2.2.2.2.1⟩ ⟨rfl, rfl, rfl, rfl⟩ (Or.inl ⟨t3.1, t3.2, by rw [z4]; show zh s1 = _; rw [z5]; exact hh, by rw [z4]; exact ho.1, by rw [z4]; exact ho.2, by rw [z4]; omega, by rw [z4]; exact hkey.symm, uk⟩) (fun _ i p q r => ?_) e7.2 (by omega) ?_ m1
    · intro y
      rw [hsame 5 (by omega)] at y
      -- a START of it stands: its unit has begun
      rw [hsame 0 (by omega)] at q
      by_cases y0 : i = 0
      · have := hb.1.2.2.1
        rw [y0] at y; omega
      · have wt := (hb.2.1 (i - 1) (by omega) (by omega)).1
        rw [show i - 1 + 1 = i by omega, y] at wt
        obtain ⟨Y3, a3, c3', -, g⟩ := wt
        rcases g with g | g
        · exact c2 g.2.2.2.2.2.2.2
        · omega
    · rw [z3]
      have q3 : zh s1 = s1.1 3 (zf s) 0 := by unfold zh; rw [z3]
      rw [hsame 6 (by omega), ← q3, z5]
  · rw [if_neg c5]
    have zz := zBs_0 (s' := zi s1 8 key 0 2) hb w (fun kk p => by rw [← hsame kk p]; rcases p with p | p | p | p | p | p | p | p | p <;> subst p <;> rfl) (fun x => by
      by_cases y : x = key
      · rw [y, show (zi s1 8 key 0 2).1 8 key 0 = 2 from zi_e]
        exact ⟨by omega, fun z => absurd z c2⟩
      · rw [show (zi s1 8 key 0 2).1 8 x 0 = s1.1 8 x 0 from zi_i y]; exact h8 x)
    exact (zWT_e0 (i := 0) zz.1 n1 zz.2.1 (Or.inl rfl)).2
/-- DRAW -/
theorem zWT_draw (hb : zBs e s) (hm : s.1 1 0 0 = 0) (h1 : 1 ≤ s.1 0 0 0) (w : zwf e s (zf s) Y a c) (hh : zh s = Y 0 (zpc s)) (ho : zop e (zpc s) = 23) : zWT e (zdraw e s (ztop s 1)) := by
  have op := (w.1.2 (zpc s) w.2.1.1 w.2.1.2).2.2
  have nx := (op.2.2.2.2.2.2.1 (by omega)).2
  have key : ∀ (X : ZS) (r : Int32), (∀ kk, kk ≠ 14 → X.1 kk = s.1 kk) → zWT e (zi (znx (zpush (zdn X 1) r)) 11 0 0 (s.1 11 0 0 + 1)) := fun X r hX => by
    have fX : zf X = zf s := by unfold zf; rw [hX 0 (by decide)]
    have pX : zpc X = zpc s := by unfold zpc; rw [fX, hX 2 (by decide)]
    have hhX : zh X = zh s := by unfold zh; rw [fX, hX 3 (by decide)]
    have bX : zBs e X := hb.tp (zTp_0 hb (fun kk p => hX kk (by omega)) (fun x => by rw [hX 8 (by decide)]; exact ⟨hb.1.2.2.2.2.2 x, fun z => z⟩))
    have wX : zwf e X (zf X) Y a c := by rw [fX]; exact w.kp (by rw [hX 2 (by decide)]) (by rw [hX 4 (by decide)]) (by rw [hX 16 (by decide)]) (by rw [hX 7 (by decide)])
    have mX : X.1 1 0 0 = 0 := by rw [hX 1 (by decide)]; exact hm
    have nX : 1 ≤ X.1 0 0 0 := by rw [hX 0 (by decide)]; exact h1
    exact zWT_mv0 (s' := zi (znx (zpush (zdn X 1) r)) 11 0 0 (s.1 11 0 0 + 1)) bX mX nX wX (mvA (v := r) (c := 1) bX) (by rw [pX]; exact nx) (by omega) rfl
  unfold zdraw
  by_cases c1 : (1 : Int32) ≤ ztop s 1
  · rw [if_pos c1]
    by_cases c2 : e.1 10 2 0 = 1
    · rw [if_pos c2]
      by_cases c3 : s.1 11 0 0 = s.1 14 0 0
      · rw [if_pos c3]
        refine key _ _ (fun kk p => ?_)
        funext x y
        exact zi_k p
      · rw [if_neg c3]; exact key _ _ (fun _ _ => rfl)
    · rw [if_neg c2]; exact key (zw s 4 0 0 _) _ (fun _ _ => rfl)
  · rw [if_neg c1]; exact (zWT_e0 hb h1 w (Or.inl rfl)).1
end S92c
