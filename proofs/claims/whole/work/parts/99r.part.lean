/-! the small machine: a step keeps what is known -/
section S99r
variable {e s s' t u : ZS} {Y : Nat → Int → Int} {a c i k o n m p D : Int} {kk : Nat}
/-- what is known of a state -/
def zKn (e s : ZS) : Prop := zWT e s ∧ zIv e s ∧ (s.1 1 0 0 = 3 ∨ s.1 1 0 0 = 7 → zop e (zpc s) ≠ 27)
theorem ztick_b (hw : zWT e s) (hm : s.1 1 0 0 = 0) (h9 : 0 < s.1 9 0 0) : zWT e (ztick e s) := by
  obtain ⟨hb', hc⟩ := hw
  have hb : zBs e s := hb'
  have b' : zBs e (ztick e s) := hb.tp ⟨rfl, fun _ _ => ⟨rfl, rfl, rfl, rfl, rfl⟩, fun _ => ⟨rfl, rfl⟩, fun k => ⟨hb.1.2.2.2.2.2 k, fun z => z⟩, by show 0 ≤ s.1 9 0 0 - 1; omega⟩
  refine ⟨b', Or.inl ?_⟩
  rcases hc with ⟨-, h1, ⟨Y, a, c, w, hh⟩, -⟩ | ⟨z, -⟩ | ⟨z, -⟩ | z | z
  · refine ⟨Or.inl hm, h1, ⟨Y, a, c, w.kp rfl rfl rfl rfl, hh⟩, fun z => ?_⟩
    have : s.1 1 0 0 = 1 := z
    omega
  all_goals omega
theorem zpc_t : zpc (ztick e s) = zpc s := rfl
/-- an instruction that is done keeps it -/
theorem zex_kn (hT : zET e) (hw : zWT e s) (hm : s.1 1 0 0 = 0) : zWT e (zex e s (zop e (zpc s)) (znum e (zpc s))) := by
  have hb : zBs e s := hw.1
  have q : ∃ Y a c, 1 ≤ s.1 0 0 0 ∧ zwf e s (zf s) Y a c ∧ zh s = Y 0 (zpc s) := by
    rcases hw.2 with ⟨-, h1, ⟨Y, a, c, w, hh⟩, -⟩ | ⟨z, -⟩ | ⟨z, -⟩ | z | z
    · exact ⟨Y, a, c, h1, w, hh⟩
    all_goals omega
  obtain ⟨Y, a, c, h1, w, hh⟩ := q
  by_cases u : 3 ≤ zop e (zpc s) ∧ zop e (zpc s) ≤ 7
  · have z := zWT_use hb hm h1 w hh hT u
    have zx : zex e s (zop e (zpc s)) (znum e (zpc s)) = zuse e s (zop e (zpc s)) (e.1 2 (zpc s) 0) (e.1 3 (e.1 2 (zpc s) 0) 0) := by
      unfold zex
      rw [if_neg (by omega), if_neg (by omega), if_neg (by omega), if_pos u.2]
    rw [zx]; exact z
  by_cases c23 : zop e (zpc s) = 23
  · have z := zWT_draw hb hm h1 w hh c23
    have zx : zex e s (zop e (zpc s)) (znum e (zpc s)) = zdraw e s (ztop s 1) := by
      unfold zex
      rw [if_neg (by omega), if_neg (by omega), if_neg (by omega), if_neg (by omega), if_neg (by omega), if_neg (by omega), if_neg (by omega), if_neg (by omega), if_neg (by omega), if_neg (by omega), if_neg (by omega), if_pos c23]
    rw [zx]; exact z
  exact zWT_ex hb hm h1 w hh hT u c23
/-- what is counted, when an instruction is done: from what was before (mo: how it went on) -/
theorem zex_iv (hl : zEl e) (hm : s.1 1 0 0 = 0) (c1 : s.1 9 0 0 + s.1 10 0 0 = e.1 20 0 0 ∧ 0 ≤ s.1 10 0 0 ∧ 0 ≤ s.1 9 0 0) (c2 : 0 ≤ s.1 11 0 0 ∧ s.1 11 0 0 ≤ s.1 10 0 0 ∧ (o = 23 → s.1 11 0 0 < s.1 10 0 0)) (c3 : s.1 14 0 0 ≤ 1000) (c4 : ∀ D, 0 ≤ s.1 17 D 0 ∧ s.1 17 D 0 + 1 ≤ 2 * s.1 10 0 0 + e.1 30 0 0) (c5 : ∀ p, -1 ≤ s.1 15 p 0 ∧ s.1 15 p 0 ≤ 16) (c6 : -2000000000 ≤ s.1 12 0 0 - s.1 9 0 0 ∧ s.1 12 0 0 ≤ 2147483647) : zIv e (zex e s o n) := by
  have k9 := zex_k (e := e) (s := s) (o := o) (n := n) (kk := 9) (by decide)
  have k10 := zex_k (e := e) (s := s) (o := o) (n := n) (kk := 10) (by decide)
  have k12 := zex_k (e := e) (s := s) (o := o) (n := n) (kk := 12) (by decide)
  have k15 := zex_k (e := e) (s := s) (o := o) (n := n) (kk := 15) (by decide)
  have kd := zex_d (e := e) (s := s) (o := o) (n := n)
  have km := zex_m (e := e) (s := s) (o := o) (n := n) hm
  obtain ⟨t, ht⟩ : ∃ t, t = zex e s o n := ⟨_, rfl⟩
  rw [← ht] at k9 k10 k12 k15 kd km ⊢
  have l20 := hl.1
  unfold zIv
  rw [k9, k10, k12, k15]
  refine ⟨⟨c1.1, c1.2.1⟩, ?_, ?_, fun D => ?_, c5, c6⟩
  · clear km
    rcases kd with ⟨z, -⟩ | ⟨z1, z2, -⟩
    · omega
    · have := c2.2.2 z1
      omega
  · clear km
    rcases kd with ⟨-, z⟩ | ⟨z1, z2, z3⟩
    · omega
    · have := c2.2.2 z1
      rcases z3 with z3 | z3 <;> omega
  · have := c4 D
    clear kd
    rcases km with ⟨z1, z2⟩ | ⟨-, z2, z3⟩
    · rw [if_neg (by omega)]
      rcases z2 D with z | z <;> omega
    · rw [if_pos (Or.inr z2)]
      have := z3 D
      omega
theorem zstep_kn (hT : zET e) (hl : zEl e) (h : zKn e s) : zKn e (zstep e s) := by
  obtain ⟨hw, hi, h27⟩ := h
  have hb : zBs e s := hw.1
  have h9 : 0 ≤ s.1 9 0 0 := hb.1.2.2.2.2.1
  obtain ⟨i1, i2, i3, i4, i5, i6⟩ := hi
  by_cases m0 : s.1 1 0 0 = 0
  · by_cases l0 : s.1 9 0 0 = 0
    · have z : zstep e s = zerr s 6 5 := by unfold zstep; rw [if_pos m0, if_pos l0]
      have em : (zerr s 6 5).1 1 0 0 = 5 := zi_e
      rw [z]
      refine ⟨⟨hb, Or.inr (Or.inr (Or.inr (Or.inl em)))⟩, ⟨i1, i2, i3, fun D => ?_, i5, i6⟩, fun y => by omega⟩
      have := i4 D
      rw [if_neg (by omega)] at this
      rw [em, if_neg (by decide)]
      exact this
    by_cases w0 : s.1 12 0 0 = 0
    · have z : zstep e s = zi s 1 0 0 6 := by unfold zstep; rw [if_pos m0, if_neg l0, if_pos w0]
      have em : (zi s 1 0 0 6).1 1 0 0 = 6 := zi_e
      rw [z]
      refine ⟨⟨hb, Or.inr (Or.inr (Or.inr (Or.inr em)))⟩, ⟨i1, i2, i3, fun D => ?_, i5, i6⟩, fun y => by omega⟩
      have := i4 D
      rw [if_neg (by omega)] at this
      rw [em, if_neg (by decide)]
      exact this
    have z : zstep e s = zex e (ztick e s) (zop e (zpc s)) (znum e (zpc s)) := by unfold zstep; rw [if_pos m0, if_neg l0, if_neg w0]
    rw [z]
    have t9 : (ztick e s).1 9 0 0 = s.1 9 0 0 - 1 := rfl
    have t10 : (ztick e s).1 10 0 0 = s.1 10 0 0 + 1 := rfl
    have t12 : (ztick e s).1 12 0 0 = s.1 12 0 0 - 1 := rfl
    have t11 : (ztick e s).1 11 0 0 = s.1 11 0 0 := rfl
    have t14 : (ztick e s).1 14 0 0 = s.1 14 0 0 := rfl
    have t17 : ∀ D, (ztick e s).1 17 D 0 = s.1 17 D 0 := fun _ => rfl
    refine ⟨zex_kn hT (ztick_b hw m0 (by omega)) m0, zex_iv (s := ztick e s) hl m0 (by rw [t9, t10]; omega) (by rw [t10, t11]; omega) (by rw [t14]; exact i3) (fun D => ?_) (fun p => ?_) (by rw [t9, t12]; omega), fun y => ?_⟩
    · rw [t17, t10]
      have := i4 D
      rw [if_neg (by omega)] at this
      omega
    · by_cases y : e.1 10 0 0 = 1 ∧ p = zpc s
      · have z : (ztick e s).1 15 p 0 = e.1 16 0 0 := if_pos ⟨rfl, y⟩
        have := hl.2.1 y.1
        omega
      · have z : (ztick e s).1 15 p 0 = s.1 15 p 0 := if_neg fun w => y w.2
        rw [z]; exact i5 p
    · rcases zex_7 (e := e) (s := ztick e s) (o := zop e (zpc s)) (n := znum e (zpc s)) m0 with w | w
      · omega
      · rw [w.2]; exact w.1
  by_cases m1 : s.1 1 0 0 = 1
  · have z : zstep e s = zex e (zi s 1 0 0 0) (zop e (zpc s)) (znum e (zpc s)) := by unfold zstep; rw [if_neg m0, if_pos m1]
    rw [z]
    have em : (zi s 1 0 0 0).1 1 0 0 = 0 := zi_e
    have hc : 1 ≤ s.1 0 0 0 ∧ (∃ Y a c, zwf e s (zf s) Y a c ∧ zh s = Y 0 (zpc s)) ∧ 3 ≤ zop e (zpc s) ∧ zop e (zpc s) ≤ 7 := by
      rcases hw.2 with ⟨-, h1, w, hh⟩ | ⟨z, -⟩ | ⟨z, -⟩ | z | z
      · exact ⟨h1, w, (hh m1).1, (hh m1).2.1⟩
      all_goals omega
    obtain ⟨h1, ⟨Y, a, c, w, hh⟩, o3, o7⟩ := hc
    have w' : zWT e (zi s 1 0 0 0) := ⟨hb, Or.inl ⟨Or.inl em, h1, ⟨Y, a, c, w, hh⟩, fun z => by omega⟩⟩
    refine ⟨zex_kn hT w' em, zex_iv (s := zi s 1 0 0 0) hl em ⟨i1.1, i1.2, h9⟩ ⟨i2.1, i2.2, fun z => by omega⟩ i3 (fun D => ?_) i5 i6, fun y => ?_⟩
    · have := i4 D
      rw [if_pos (Or.inl m1)] at this
      exact this
    · rcases zex_7 (e := e) (s := zi s 1 0 0 0) (o := zop e (zpc s)) (n := znum e (zpc s)) em with w | w
      · omega
      · rw [w.2]; exact w.1
  by_cases m2 : s.1 1 0 0 = 2
  · have z : zstep e s = zret s := by unfold zstep; rw [if_neg m0, if_neg m1, if_pos m2]
    rw [z]
    by_cases n1 : 1 ≤ s.1 0 0 0
    · have wr := (zWT_ret hw m2 n1).1
      unfold zret at wr ⊢
      by_cases y : 0 ≤ s.1 5 (s.1 0 0 0) 0
      · rw [if_pos y] at wr ⊢
        have em : (zi s 1 0 0 1).1 1 0 0 = 1 := zi_e
        refine ⟨wr, ⟨i1, i2, i3, fun D => ?_, i5, i6⟩, fun y => by omega⟩
        have := i4 D
        rw [if_pos (Or.inr m2)] at this
        rw [em, if_pos (Or.inl rfl)]
        exact this
      · rw [if_neg y, if_neg (by omega)] at wr ⊢
        have em : (zi (znx (zpush s (s.2 6 0 0))) 1 0 0 0).1 1 0 0 = 0 := zi_e
        refine ⟨wr, ⟨i1, i2, i3, fun D => ?_, i5, i6⟩, fun y => by omega⟩
        have := i4 D
        rw [if_pos (Or.inr m2)] at this
        rw [em, if_neg (by decide)]
        show 0 ≤ s.1 17 D 0 ∧ s.1 17 D 0 + 0 ≤ 2 * s.1 10 0 0 + e.1 30 0 0
        omega
    · have n0 : s.1 0 0 0 = 0 := by have := hb.1.1; omega
      have z : zret s = s := by
        unfold zret
        rw [n0, if_neg (by have := hb.1.2.2.1; omega), if_pos rfl]
      rw [z]
      exact ⟨hw, ⟨i1, i2, i3, i4, i5, i6⟩, h27⟩
  by_cases m3 : s.1 1 0 0 = 3 ∨ s.1 1 0 0 = 7
  · have z : zstep e s = zthr s (s.1 1 0 0) := by unfold zstep; rw [if_neg m0, if_neg m1, if_neg m2, if_pos m3]
    rw [z]
    have wr := zWT_thr hw m3 (h27 m3)
    have fin : ∀ t : ZS, t.1 9 = s.1 9 → t.1 10 = s.1 10 → t.1 11 = s.1 11 → t.1 12 = s.1 12 → t.1 14 = s.1 14 → t.1 15 = s.1 15 → t.1 17 = s.1 17 → t.1 1 0 0 ≠ 1 → t.1 1 0 0 ≠ 2 → t.1 1 0 0 ≠ 3 → t.1 1 0 0 ≠ 7 → zWT e t → zKn e t := fun t a9 a10 a11 a12 a14 a15 a17 b1 b2 b3 b7 wt => by
      refine ⟨wt, ?_, fun y => by omega⟩
      unfold zIv
      rw [a9, a10, a11, a12, a14, a15, a17]
      refine ⟨i1, i2, i3, fun D => ?_, i5, i6⟩
      have := i4 D
      rw [if_neg (by omega)] at this
      rw [if_neg (by omega)]
      exact this
    unfold zthr at wr ⊢
    by_cases y : s.1 1 0 0 = 3 ∧ 0 < s.1 4 (zf s) 0
    · rw [if_pos y] at wr ⊢
      have em : ∀ X : ZS, (zi X 1 0 0 0).1 1 0 0 = 0 := fun X => zi_e
      exact fin _ rfl rfl rfl rfl rfl rfl rfl (by rw [em]; decide) (by rw [em]; decide) (by rw [em]; decide) (by rw [em]; decide) wr
    · rw [if_neg y] at wr ⊢
      have em : ∀ X : ZS, (zi X 1 0 0 (s.1 1 0 0 + 1)).1 1 0 0 = s.1 1 0 0 + 1 := fun X => zi_e
      exact fin _ rfl rfl rfl rfl rfl rfl rfl (by rw [em]; omega) (by rw [em]; omega) (by rw [em]; omega) (by rw [em]; omega) wr
  by_cases m4 : s.1 1 0 0 = 4 ∨ s.1 1 0 0 = 8
  · have z : zstep e s = zunw s (s.1 1 0 0) := by unfold zstep; rw [if_neg m0, if_neg m1, if_neg m2, if_neg m3, if_pos m4]
    rw [z]
    by_cases n1 : 1 ≤ s.1 0 0 0
    · obtain ⟨wr, u3, u7⟩ := zWT_unw hw m4 n1
      have fin : ∀ t : ZS, t.1 9 = s.1 9 → t.1 10 = s.1 10 → t.1 11 = s.1 11 → t.1 12 = s.1 12 → t.1 14 = s.1 14 → t.1 15 = s.1 15 → t.1 17 = s.1 17 → zpc t = zpc s → t.1 1 0 0 ≠ 1 → t.1 1 0 0 ≠ 2 → zWT e t → zKn e t := fun t a9 a10 a11 a12 a14 a15 a17 ap b1 b2 wt => by
        refine ⟨wt, ?_, fun y => by rw [ap]; omega⟩
        unfold zIv
        rw [a9, a10, a11, a12, a14, a15, a17]
        refine ⟨i1, i2, i3, fun D => ?_, i5, i6⟩
        have := i4 D
        rw [if_neg (by omega)] at this
        rw [if_neg (by omega)]
        exact this
      unfold zunw at wr ⊢
      by_cases y : 0 ≤ s.1 5 (s.1 0 0 0) 0
      · rw [if_pos y] at wr ⊢
        have em : (zi (zerr s 8 3) 8 (s.1 5 (s.1 0 0 0) 0) 0 2).1 1 0 0 = 3 := zi_e (s := zi (zw s 5 0 0 8) 13 0 0 (zpc s)) (k := 1) (i := 0) (j := 0) (v := 3)
        exact fin _ rfl rfl rfl rfl rfl rfl rfl rfl (by rw [em]; decide) (by rw [em]; decide) wr
      · rw [if_neg y, if_neg (by omega)] at wr ⊢
        have em : ∀ X : ZS, (zi X 1 0 0 (s.1 1 0 0 - 1)).1 1 0 0 = s.1 1 0 0 - 1 := fun X => zi_e
        exact fin _ rfl rfl rfl rfl rfl rfl rfl rfl (by rw [em]; omega) (by rw [em]; omega) wr
    · have n0 : s.1 0 0 0 = 0 := by have := hb.1.1; omega
      have z : zunw s (s.1 1 0 0) = s := by
        unfold zunw
        rw [n0, if_neg (by have := hb.1.2.2.1; omega), if_pos rfl]
      rw [z]
      exact ⟨hw, ⟨i1, i2, i3, i4, i5, i6⟩, h27⟩
  have z : zstep e s = s := by unfold zstep; rw [if_neg m0, if_neg m1, if_neg m2, if_neg m3, if_neg m4]
  rw [z]
  exact ⟨hw, ⟨i1, i2, i3, i4, i5, i6⟩, h27⟩
theorem zto_kn (hT : zET e) (hl : zEl e) (h : zKn e s) (g : zto e s t) : zKn e t := by
  obtain ⟨k, g⟩ := g
  subst g
  have all : ∀ (k : Nat) (s : ZS), zKn e s → zKn e (zgoes e s k) := fun k => by
    induction k with
    | zero => exact fun s h => h
    | succ k ih => exact fun s h => ih (zstep e s) (zstep_kn hT hl h)
  exact all k s h
end S99r
