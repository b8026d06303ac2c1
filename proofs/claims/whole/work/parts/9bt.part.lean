/-! the environment of two parcels is sound -/
section S9bt
variable {g0 g1 : PG} {fr p0 p1 : Int} {L lk : Int → Int} {P : Nat → Int} {D : Nat → Int → Int → Int} {W : Nat → Int → Int → Int32} {j m p x l o q id k u : Int} {e : ZS}
theorem glk_0 : glk (-2) m o = m := if_pos rfl
theorem glk_n (h : l < 0) (h2 : l ≠ -2) : glk l m o = l := by unfold glk; rw [if_neg h2, if_pos h]
theorem glk_p (h : 0 ≤ l) : glk l m o = o + l := by unfold glk; rw [if_neg (by omega), if_neg (by omega)]
/-- a place of a code is one of a side -/
theorem zEO.in (h : zEO g0 g1 fr p0 p1 L lk P D) (hp : zIn (zenv g0 g1 fr p0 p1 lk P D W) p) : (0 ≤ p ∧ p < gE g0) ∨ (fr = 1 ∧ ∃ j, p = j + 1000 ∧ 0 ≤ j ∧ j < gE g1) := by
  rcases hp with ⟨a, b⟩ | ⟨a, b⟩
  · exact Or.inl ⟨a, b⟩
  · have b' : p < 1000 + (if fr = 1 then gE g1 else 0) := b
    by_cases y : fr = 1
    · rw [if_pos y] at b'
      exact Or.inr ⟨y, p - 1000, by omega, by omega, by omega⟩
    · rw [if_neg y] at b'
      omega
theorem zEO.id0 (h : 0 ≤ m ∧ m < (gR g0).1 2 0 0) : zId (zenv g0 g1 fr p0 p1 lk P D W) m := Or.inl h
theorem zEO.id1 (hf : fr = 1) (h : 0 ≤ m ∧ m < (gR g1).1 2 0 0) : zId (zenv g0 g1 fr p0 p1 lk P D W) (96 + m) := by
  refine Or.inr ⟨by omega, ?_⟩
  show 96 + m < 96 + (if fr = 1 then (gR g1).1 2 0 0 else 0)
  rw [if_pos hf]
  omega
/-- an instruction that is GONE -/
theorem zEO.gone (h : zEO g0 g1 fr p0 p1 L lk P D) (e : ZS) (he : e = zenv g0 g1 fr p0 p1 lk P D W) (hp : zIn e p) (h32 : zop e p = 32) : (0 ≤ p ∧ p < gE g0) ∧ (0 ≤ gG g0 3 p ∧ gG g0 3 p < (gR g0).1 2 0 0) ∧ znum e p = gG g0 3 p ∧ e.1 18 p 0 = (gR g0).1 2 4 (gG g0 3 p) := by
  have hp' := hp
  rw [he] at hp'
  have n := h.1.1.n2
  rcases h.in hp' with a | ⟨hf, j, y, a⟩
  · have hc := h.c0 (W := W)
    rw [← he] at hc
    obtain ⟨c1, c2, c3⟩ := hc.of a
    rw [Int.add_zero] at c2 c3
    obtain ⟨⟨h0, -⟩, -⟩ := h
    obtain ⟨-, -, h5, h6⟩ := h0
    have o := (h5 p a.1 a.2).1
    have g7 : gG g0 0 p = 7 := by
      rcases c2 with z | ⟨z, z2⟩
      · omega
      · have := iw_v o z2
        omega
    refine ⟨a, (h6 p a.1 a.2 (by omega) (by omega)).1, c3 (by omega), ?_⟩
    rw [he]; exact if_pos (by omega)
  · subst y
    have hc := h.c1 (W := W) hf
    rw [← he] at hc
    obtain ⟨c1, c2, c3⟩ := hc.of a
    obtain ⟨-, -, h0, -, ⟨-, h8, -⟩, -⟩ := h
    obtain ⟨⟨-, -, h5, h6⟩, -⟩ := h0 hf
    have o := (h5 j a.1 a.2).1
    rcases c2 with z | ⟨z, z2⟩
    · omega
    · exfalso
      have z3 := hc.2.2 j a.1 a.2
      have e8 : e.1 8 0 0 = P 1 := by rw [he]; rfl
      have n8 : ¬ j + 1000 = e.1 8 0 0 := by rw [e8]; omega
      have : zop e (j + 1000) = gG g1 0 j := (if_neg n8).trans z3.1.1
      omega
theorem zEO.z8 (h : zEO g0 g1 fr p0 p1 L lk P D) : zE8 (zenv g0 g1 fr p0 p1 lk P D W) := fun p hp h32 => by
  obtain ⟨a, b, c, d⟩ := h.gone _ rfl hp h32
  have n := h.1.1.n2
  rw [c]
  exact ⟨by omega, b.1, b.2⟩
theorem zEO.zz (h : zEO g0 g1 fr p0 p1 L lk P D) : zZ (zenv g0 g1 fr p0 p1 lk P D W) := fun p hp h3 h7 h2 => by
  rcases h.in hp with a | ⟨hf, j, y, a⟩
  · obtain ⟨u1, u2, u3, u4, u5, u6, u7, u8⟩ := h.u0 _ rfl a h3 h7
    rw [u8] at h2 ⊢
    rcases h.2.1 with ⟨f0, w, -⟩ | ⟨f1, w⟩
    · rw [w, glk_0]; exact zEO.id0 u3
    · rcases w _ u3.1 u3.2 with ⟨-, z⟩ | ⟨-, x, -, z2, z | z⟩
      · rw [z, glk_0]; exact zEO.id0 u3
      · rw [glk_p z.1]; exact zEO.id1 f1 (by omega)
      · rw [glk_n (by omega) (by omega)] at h2; omega
  · subst y
    obtain ⟨u1, u2, u3, u4, u5, u6, u7, u8⟩ := h.u1 hf _ rfl a h3 h7
    rw [u8]
    exact zEO.id1 hf u3
/-- where a unit's START is -/
theorem zEO.s0 (h : zEO g0 g1 fr p0 p1 L lk P D) (hu : 0 ≤ u ∧ u < (gR g0).1 1 0 0) (e : ZS) (he : e = zenv g0 g1 fr p0 p1 lk P D W) : (e.1 7 u 0 = -1 ∧ (gR g0).1 1 5 u = -1 ∧ hEF (gH g0) 1 5 u = -2) ∨ (e.1 7 u 0 = (gR g0).1 1 5 u ∧ 0 ≤ (gR g0).1 1 5 u ∧ (gR g0).1 1 5 u + 2 ≤ gE g0 ∧ hEF (gH g0) 1 5 u = (gR g0).1 1 5 u ∧ zEn e (e.1 7 u 0) 0) := by
  have n := h.1.1.n2
  have hc := h.c0 (W := W)
  rw [← he] at hc
  have e7 : e.1 7 u 0 = if u < (gR g0).1 1 0 0 ∧ 0 ≤ (gR g0).1 1 5 u then (gR g0).1 1 5 u else -1 := by rw [he]; exact if_pos (by omega)
  obtain ⟨-, y, -⟩ := h.1.1.1.2.2.1 u hu.1 hu.2
  rcases y with ⟨y1, y2⟩ | ⟨y1, y2⟩
  · exact Or.inl ⟨by rw [e7, if_neg (by omega)], y2, y1⟩
  · have y3 := y2
    obtain ⟨b, z1, z2, z3, -⟩ := y3
    rw [← y1] at y2 z1 z2
    have e7' : e.1 7 u 0 = (gR g0).1 1 5 u := by rw [e7, if_pos ⟨hu.2, z1⟩]
    refine Or.inr ⟨e7', z1, by omega, y1.symm, ?_⟩
    rw [e7']
    have := en_zen y2 hc
    rw [Int.add_zero] at this
    exact this
theorem zEO.s1 (h : zEO g0 g1 fr p0 p1 L lk P D) (hf : fr = 1) (hu : 0 ≤ u ∧ u < (gR g1).1 1 0 0) (e : ZS) (he : e = zenv g0 g1 fr p0 p1 lk P D W) : (e.1 7 (8 + u) 0 = -1 ∧ (gR g1).1 1 5 u = -1 ∧ hEF (gH g1) 1 5 u = -2) ∨ (e.1 7 (8 + u) 0 = (gR g1).1 1 5 u + 1000 ∧ 0 ≤ (gR g1).1 1 5 u ∧ (gR g1).1 1 5 u + 2 ≤ gE g1 ∧ hEF (gH g1) 1 5 u = (gR g1).1 1 5 u ∧ zEn e (e.1 7 (8 + u) 0) 0) := by
  have hz := (h.2.2.1 hf).1
  have n := hz.n2
  have hc := h.c1 (W := W) hf
  rw [← he] at hc
  have e7 : e.1 7 (8 + u) 0 = if fr = 1 ∧ u < (gR g1).1 1 0 0 ∧ 0 ≤ (gR g1).1 1 5 u then 1000 + (gR g1).1 1 5 u else -1 := by
    rw [he]
    refine (if_neg (by omega)).trans ?_
    rw [show 8 + u - 8 = u by omega]
  obtain ⟨-, y, -⟩ := hz.1.2.2.1 u hu.1 hu.2
  rcases y with ⟨y1, y2⟩ | ⟨y1, y2⟩
  · exact Or.inl ⟨by rw [e7, if_neg (by omega)], y2, y1⟩
  · have y3 := y2
    obtain ⟨b, z1, z2, z3, -⟩ := y3
    rw [← y1] at y2 z1 z2
    have e7' : e.1 7 (8 + u) 0 = (gR g1).1 1 5 u + 1000 := by rw [e7, if_pos ⟨hf, hu.2, z1⟩]; omega
    refine Or.inr ⟨e7', z1, by omega, y1.symm, ?_⟩
    rw [e7']
    exact en_zen y2 hc
theorem zEO.et (h : zEO g0 g1 fr p0 p1 L lk P D) : zET (zenv g0 g1 fr p0 p1 lk P D W) := by
  have n0 := h.1.1.n2
  obtain ⟨e, he⟩ : ∃ e, e = zenv g0 g1 fr p0 p1 lk P D W := ⟨_, rfl⟩
  rw [← he]
  refine ⟨?_, fun p hp h3 h7 => ?_, fun p hp h32 => ?_, fun k a b => ?_, fun id a b => ?_⟩
  · have e0 : e.1 21 0 0 = gE g0 := by rw [he]; rfl
    have e1 : e.1 21 1 0 = if fr = 1 then gE g1 else 0 := by rw [he]; rfl
    rw [e0, e1]
    refine ⟨by omega, by omega, ?_, ?_⟩ <;> by_cases y : fr = 1
    · rw [if_pos y]; exact ((h.2.2.1 y).1.n2).2.2.2.2.1
    · rw [if_neg y]; decide
    · rw [if_pos y]; exact ((h.2.2.1 y).1.n2).2.2.2.2.2
    · rw [if_neg y]; decide
  · have hp' := hp
    rw [he] at hp'
    -- a member of side q
    have M0 : ∀ m, 0 ≤ m → m < (gR g0).1 2 0 0 → e.1 18 p 0 = (gR g0).1 2 4 m → (zop e p = 3 ∨ zop e p = 4 → (gR g0).1 2 2 m = 1 ∨ (gR g0).1 2 2 m = 2) → (zop e p = 5 ∨ zop e p = 6 → (gR g0).1 2 2 m = 3) → (zop e p = 7 → (gR g0).1 2 2 m = 4) → 0 ≤ m ∧ m < 192 ∧ (0 ≤ e.1 3 m 0 ∧ e.1 3 m 0 < 16) ∧ (zop e p = 3 ∨ zop e p = 4 → e.1 4 m 0 = 1 ∨ e.1 4 m 0 = 2) ∧ (zop e p = 5 ∨ zop e p = 6 → e.1 4 m 0 = 3 ∧ 1 ≤ e.1 5 m 0 ∧ e.1 5 m 0 ≤ 50) ∧ (zop e p = 7 → e.1 4 m 0 = 4 ∧ e.1 5 m 0 = e.1 18 p 0 ∧ 0 ≤ e.1 18 p 0 ∧ e.1 18 p 0 ≤ 4 ∧ zEn e (e.1 6 m 0) (e.1 18 p 0)) := fun m a b q1 q2 q3 q4 => by
      have mb := h.m0 (W := W) a b
      rw [← he] at mb
      obtain ⟨⟨b1, b2, b3, b4⟩, b5, b6, b7, b8⟩ := mb
      rw [show 96 * (0 : Int) + m = m by omega] at b1 b2 b3 b4 b8
      rw [b1, b2, b3, q1]
      refine ⟨a, by omega, by omega, q2, fun z => ⟨q3 z, b7 (q3 z)⟩, fun z => ?_⟩
      obtain ⟨c1, c2, c3, c4, c5⟩ := b8 (q4 z)
      rw [c2]
      exact ⟨q4 z, rfl, c1.1, c1.2, c5⟩
    have M1 : ∀ m, fr = 1 → 0 ≤ m → m < (gR g1).1 2 0 0 → (zop e p = 7 → e.1 18 p 0 = (gR g1).1 2 4 m) → (zop e p = 3 ∨ zop e p = 4 → (gR g1).1 2 2 m = 1 ∨ (gR g1).1 2 2 m = 2) → (zop e p = 5 ∨ zop e p = 6 → (gR g1).1 2 2 m = 3) → (zop e p = 7 → (gR g1).1 2 2 m = 4) → 0 ≤ 96 + m ∧ 96 + m < 192 ∧ (0 ≤ e.1 3 (96 + m) 0 ∧ e.1 3 (96 + m) 0 < 16) ∧ (zop e p = 3 ∨ zop e p = 4 → e.1 4 (96 + m) 0 = 1 ∨ e.1 4 (96 + m) 0 = 2) ∧ (zop e p = 5 ∨ zop e p = 6 → e.1 4 (96 + m) 0 = 3 ∧ 1 ≤ e.1 5 (96 + m) 0 ∧ e.1 5 (96 + m) 0 ≤ 50) ∧ (zop e p = 7 → e.1 4 (96 + m) 0 = 4 ∧ e.1 5 (96 + m) 0 = e.1 18 p 0 ∧ 0 ≤ e.1 18 p 0 ∧ e.1 18 p 0 ≤ 4 ∧ zEn e (e.1 6 (96 + m) 0) (e.1 18 p 0)) := fun m hf a b q1 q2 q3 q4 => by
      have mb := h.m1 (W := W) hf a b
      rw [← he] at mb
      have n1 := (h.2.2.1 hf).1.n2
      obtain ⟨⟨b1, b2, b3, b4⟩, b5, b6, b7, b8⟩ := mb
      rw [show 96 * (1 : Int) + m = 96 + m by omega] at b1 b2 b3 b4 b8
      rw [b1, b2, b3]
      refine ⟨by omega, by omega, by omega, q2, fun z => ⟨q3 z, b7 (q3 z)⟩, fun z => ?_⟩
      obtain ⟨c1, c2, c3, c4, c5⟩ := b8 (q4 z)
      rw [c2, q1 z]
      exact ⟨q4 z, rfl, c1.1, c1.2, c5⟩
    rcases h.in hp' with a | ⟨hf, j, y, a⟩
    · obtain ⟨u1, u2, u3, u4, u5, u6, u7, u8⟩ := h.u0 e he a h3 h7
      rw [← u1] at u5 u6 u7
      have own := M0 _ u3.1 u3.2 u4 u5 u6 u7
      rw [u8]
      rcases h.2.1 with ⟨f0, w, -⟩ | ⟨f1, w⟩
      · rw [w, glk_0]; exact Or.inr own
      · rcases w _ u3.1 u3.2 with ⟨-, z⟩ | ⟨-, x, -, z2, z | z⟩
        · rw [z, glk_0]; exact Or.inr own
        · rw [glk_p z.1]
          obtain ⟨z3, z4, z5⟩ := z
          have zx : 0 ≤ x ∧ (gR g1).1 2 2 x = (gR g0).1 2 2 (gG g0 3 p) ∧ ((gR g1).1 2 2 x = 4 → (gR g1).1 2 4 x = (gR g0).1 2 4 (gG g0 3 p)) := by
            unfold zLk at z5
            by_cases i1 : x < 0
            · rw [if_pos i1] at z5; omega
            · rw [if_neg i1] at z5
              by_cases i2 : (gR g1).1 2 2 x = (gR g0).1 2 2 (gG g0 3 p)
              · rw [if_neg (fun k => k i2)] at z5
                by_cases i3 : (gR g1).1 2 3 x = 0
                · rw [if_neg (fun k => k i3)] at z5
                  by_cases i4 : (gR g1).1 2 2 x = 4 ∧ ¬ (gR g1).1 2 4 x = (gR g0).1 2 4 (gG g0 3 p)
                  · rw [if_pos i4] at z5; omega
                  · refine ⟨by omega, i2, fun k => ?_⟩
                    by_cases i5 : (gR g1).1 2 4 x = (gR g0).1 2 4 (gG g0 3 p)
                    · exact i5
                    · exact absurd ⟨k, i5⟩ i4
                · rw [if_pos i3] at z5; omega
              · rw [if_pos i2] at z5; omega
          obtain ⟨x0, x1, x2⟩ := zx
          rw [z4]
          refine Or.inr (M1 x f1 x0 z2.2 (fun k => ?_) (fun k => ?_) (fun k => ?_) fun k => ?_)
          · rw [u4]; exact (x2 (x1.trans (u7 k))).symm
          · rw [x1]; exact u5 k
          · rw [x1]; exact u6 k
          · rw [x1]; exact u7 k
        · rw [glk_n (by omega) (by omega)]; exact Or.inl (by omega)
    · subst y
      obtain ⟨u1, u2, u3, u4, u5, u6, u7, u8⟩ := h.u1 hf e he a h3 h7
      rw [← u1] at u5 u6 u7
      rw [u8]
      exact Or.inr (M1 _ hf u3.1 u3.2 (fun _ => u4) u5 u6 u7)
  · obtain ⟨a, b, c, d⟩ := h.gone e he hp h32
    rw [c, d, he]
    exact if_pos (by omega)
  · by_cases y : k < 8
    · by_cases y2 : k < (gR g0).1 1 0 0
      · rcases h.s0 ⟨a, y2⟩ e he with z | ⟨z1, z2, z3, z4, z5⟩
        · exact Or.inl z.1
        · exact Or.inr ⟨by omega, z5⟩
      · left
        rw [he]
        exact (if_pos y).trans (if_neg (by omega))
    · by_cases hf : fr = 1
      · by_cases y2 : k - 8 < (gR g1).1 1 0 0
        · have z := h.s1 hf (u := k - 8) (by omega) e he
          rw [show 8 + (k - 8) = k by omega] at z
          rcases z with z | ⟨z1, z2, z3, z4, z5⟩
          · exact Or.inl z.1
          · exact Or.inr ⟨by omega, z5⟩
        · left
          rw [he]
          exact (if_neg y).trans (if_neg (by omega))
      · left
        rw [he]
        exact (if_neg y).trans (if_neg (by omega))
  · have e11 : e.1 11 = fun i _ => D 11 i 0 := by rw [he]; rfl
    have e12 : e.1 12 = fun i _ => D 12 i 0 := by rw [he]; rfl
    have e13 : e.1 13 = fun i j => D 13 i j := by rw [he]; rfl
    have e5 : e.1 5 id 0 = if id < 96 then (gR g0).1 2 4 id else (gR g1).1 2 4 (id - 96) := by rw [he]; rfl
    rw [e11, e12, e13, e5]
    exact h.2.2.2.2.2 id a b
theorem zEO.ev (h : zEO g0 g1 fr p0 p1 L lk P D) : zEv (zenv g0 g1 fr p0 p1 lk P D W) := by
  refine ⟨h.et, ?_, h.z8, h.zz⟩
  obtain ⟨-, -, -, -, ⟨h1, h2, h3, h4, h5, h6, h7⟩, -⟩ := h
  exact ⟨h1, fun _ => h6, h7⟩
end S9bt
