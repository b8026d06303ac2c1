/-! a code that was read, in an environment -/
section S9bq
variable {e : ZS} {G Y : Nat → Int → Int} {E O a b s o n g H S T P p j c s' d' x y : Int} {k : Nat}
theorem eff_0 (w : Eff 0 n g H S d' s') : d' = H + 1 ∧ s' = S := by unfold Eff at w; omega
theorem eff_0i : Eff 0 n g H S (H + 1) S := Or.inl ⟨Or.inl rfl, rfl, rfl⟩
theorem eff_7 (w : Eff 7 n g H S d' s') : 0 ≤ g ∧ g ≤ H := by unfold Eff at w; omega
theorem eff_8 (w : Eff 8 n g H S d' s') : 1 ≤ H := by unfold Eff at w; omega
theorem eff_8i : Eff 8 0 g 1 S 0 S := by unfold Eff; omega
theorem eff_26 (w : Eff 26 n g H S d' s') : False := by unfold Eff at w; omega
theorem iI_in (h : iI x = iI y) (hx : -2147483648 ≤ x ∧ x ≤ 2147483647) (hy : -2147483648 ≤ y ∧ y ≤ 2147483647) : x = y := by
  by_cases q : x = y
  · exact q
  · exact absurd h (eqI_n rfl rfl ⟨hx.1, hx.2, hy.1, hy.2, q⟩)
theorem ysh_k (hk : k ≠ 3) : ysh Y O k (j + O) = Y k j := by
  unfold ysh
  rw [if_neg hk, show j + O - O = j by omega]
theorem ysh_3 : ysh Y O 3 (j + O) = Y 3 j + O := by
  unfold ysh
  rw [if_pos rfl, show j + O - O = j by omega]
theorem yx_l (h : j < b) : yx Y b s k j = Y k j := if_pos h
theorem yx_b : yx Y b s 0 b = 0 ∧ yx Y b s 1 b = s ∧ yx Y b s 2 b = 0 ∧ yx Y b s 3 b = -1 := by
  unfold yx
  refine ⟨?_, ?_, ?_, ?_⟩ <;> rw [if_neg (by omega)]
  · rw [if_pos rfl, if_pos rfl]
  · rfl
  · rfl
  · rfl
theorem yx_e (h : j = b + 1) : yx Y b s 0 j = 1 ∧ yx Y b s 1 j = s ∧ yx Y b s 2 j = 0 ∧ yx Y b s 3 j = -1 := by
  unfold yx
  refine ⟨?_, ?_, ?_, ?_⟩ <;> rw [if_neg (by omega)]
  · rw [if_pos rfl, if_neg (by omega)]
  · rfl
  · rfl
  · rfl
theorem zCd.of (h : zCd e G E O) (hj : 0 ≤ j ∧ j < E) : zoff (j + O) = O ∧ (zop e (j + O) = G 0 j ∨ (zop e (j + O) = iw (G 0 j) ∧ iw (G 0 j) ≠ -1)) ∧ (G 0 j ≠ 0 → znum e (j + O) = G 3 j) := by
  obtain ⟨h1, h2, h3⟩ := h
  obtain ⟨⟨a1, a2, a3⟩, a4, a5, a6⟩ := h3 j hj.1 hj.2
  refine ⟨?_, ?_, fun q => ?_⟩
  · unfold zoff
    rcases h1 with ⟨y, -⟩ | ⟨y, -⟩
    · rw [if_pos (by omega), y]
    · rw [if_neg (by omega), y]
  · unfold zop
    by_cases y : j + O = e.1 8 0 0
    · rw [if_pos y, a1]; exact Or.inr ⟨rfl, a6 y⟩
    · rw [if_neg y, a1]; exact Or.inl rfl
  · unfold znum
    rw [if_neg (by rw [a1]; exact fun z => q z.2), a2]
theorem zn_of (h : zCd e G E O) (hj : 0 ≤ j ∧ j < E) (h0 : G 0 j ≠ 0) : (zop e (j + O) = 24 ∨ zop e (j + O) = 25 ∨ zop e (j + O) = 26 ∨ zop e (j + O) = 31 → zn e (j + O) = G 3 j + O) ∧ (zop e (j + O) = 1 ∨ zop e (j + O) = 2 → zn e (j + O) = G 3 j) := by
  obtain ⟨h1, h2, h3⟩ := h.of hj
  unfold zn
  constructor
  · intro y
    rw [if_pos y, h3 h0, h1]
  · intro y
    rw [if_neg (by omega), h3 h0]
theorem en_zen (h : EnT G E a s) (hc : zCd e G E O) : zEn e (a + O) s := by
  obtain ⟨b, h0, hab, hbe, h200, hs, hT, g0, g2, g8, g28⟩ := h
  obtain ⟨Y, hY⟩ := hT 0 (-1) (by omega) (by omega) (by omega) (by omega)
  obtain ⟨⟨t1, t2, t3, t4, t5, t6⟩, hY⟩ := hY
  have hc' := hc
  obtain ⟨c1, c2, c3⟩ := hc'
  obtain ⟨Z, hZ⟩ : ∃ Z, Z = ysh (yx Y b s) O := ⟨_, rfl⟩
  have zk : ∀ k j, k ≠ 3 → Z k (j + O) = yx Y b s k j := fun k j q => by rw [hZ]; exact ysh_k q
  have z3 : ∀ j, Z 3 (j + O) = yx Y b s 3 j + O := fun j => by rw [hZ]; exact ysh_3
  -- where it goes on
  have nxt : ∀ t H S T P, NxT Y a b 0 s 0 (-1) t H S T P → zNx Z (a + O) (b + 2 + O) (t + O) H S T (P + O) := fun t H S T P w => by
    obtain ⟨w1, w2⟩ := w
    rcases w2 with ⟨w2, w3, w4, w5, w6⟩ | ⟨w2, w3, w4, w5, w6⟩
    · refine ⟨by omega, by omega, ?_, ?_, ?_, ?_⟩
      · rw [zk 0 t (by decide), yx_l w2]; exact w3
      · rw [zk 1 t (by decide), yx_l w2]; exact w4
      · rw [zk 2 t (by decide), yx_l w2]; exact w5
      · rw [z3, yx_l w2, w6]
    · subst w2
      obtain ⟨y0, y1, y2, y3⟩ := yx_b (Y := Y) (b := t) (s := s)
      refine ⟨by omega, by omega, ?_, ?_, ?_, ?_⟩
      · rw [zk 0 t (by decide), y0, w3]
      · rw [zk 1 t (by decide), y1]; exact w4
      · rw [zk 2 t (by decide), y2, w5]
      · rw [z3, y3, w6]
  refine ⟨Z, b + 2 + O, ⟨⟨by omega, by omega, by omega, by omega⟩, fun p p1 p2 => ?_⟩, ?_, ?_, ?_⟩
  · obtain ⟨j, rfl⟩ : ∃ j, p = j + O := ⟨p - O, by omega⟩
    have hj : 0 ≤ j ∧ j < E := by omega
    obtain ⟨o1, o2, o3⟩ := hc.of hj
    obtain ⟨⟨q1, q2, q3⟩, q4, q5, q6⟩ := c3 j hj.1 hj.2
    rw [zk 0 j (by decide), zk 1 j (by decide), zk 2 j (by decide), z3]
    by_cases y : j < b
    · obtain ⟨u1, u2, u3⟩ := hY j (by omega) y
      rw [yx_l y, yx_l y, yx_l y, yx_l y, q1, q3]
      refine ⟨by omega, ?_, ?_⟩
      · rcases u2 with ⟨v1, v2, v3⟩ | ⟨v1, v2, v3, v4, v5⟩
        · exact Or.inl ⟨v2, v3⟩
        · obtain ⟨w1, w2, w3⟩ := hY (Y 3 j) v1 (by omega)
          have hj3 : 0 ≤ Y 3 j ∧ Y 3 j < E := by omega
          obtain ⟨r1, r2, r3⟩ := hc.of hj3
          have op3 : zop e (Y 3 j + O) = 26 := by
            rcases r2 with z | ⟨z, z2⟩
            · rw [z, v3]
            · exfalso; rw [v3] at z2; exact z2 (by decide)
          have n3 := (zn_of hc hj3 (by omega)).1 (by omega)
          have g3 : a ≤ G 3 (Y 3 j) := by
            rw [v3] at w3
            rcases w3 with ⟨H', S', z, -⟩ | ⟨z, -⟩ | ⟨z, -⟩ | ⟨-, -, -, z⟩ | ⟨⟨z, -⟩, -⟩
            · exact (eff_26 z).elim
            · omega
            · omega
            · rcases z with z | z
              · exact z.1
              · exact absurd z (by unfold NoX; exact id)
            · omega
          refine Or.inr ⟨?_, by omega, by omega, op3, ?_, ?_⟩
          · have := w1.2.2.2.2.1; omega
          · rw [zk 2 (Y 3 j) (by decide), yx_l (by omega)]; exact v4
          · rcases v5 with v5 | v5
            · exact Or.inl v5
            · exact Or.inr ⟨by omega, by rw [o1, n3, v5]⟩
      · have nn := zn_of hc hj
        have g7 : G 0 j = 7 → 0 ≤ G 6 j ∧ G 6 j ≤ Y 0 j := fun z => by
          rw [z] at u3
          rcases u3 with ⟨H', S', w, -⟩ | ⟨w, -⟩ | ⟨w, -⟩ | ⟨w, -⟩ | ⟨⟨w, -⟩, -⟩
          · exact eff_7 w
          all_goals omega
        have g8' : G 0 j = 8 → 1 ≤ Y 0 j := fun z => by
          rw [z] at u3
          rcases u3 with ⟨H', S', w, -⟩ | ⟨w, -⟩ | ⟨w, -⟩ | ⟨w, -⟩ | ⟨⟨w, -⟩, -⟩
          · exact eff_8 w
          all_goals omega
        by_cases i0 : G 0 j = 0
        · -- a number: its own operation says nothing of n
          have zo : zop e (j + O) = 0 := by
            rcases o2 with z | ⟨z, -⟩
            · rw [z, i0]
            · rw [z, i0]; rfl
          refine opt_zop (O := O) (n := zn e (j + O)) (g := G 6 j) (nx := fun t H S T P => NxT Y a b 0 s 0 (-1) t H S T P ∨ NoX t H S T P) (pr := fun P q => a ≤ P ∧ Y 3 P = q) ?_ q4 (by rw [i0]; exact Or.inl zo) rfl ⟨fun z => by omega, fun z => by omega⟩ (fun z => by omega) (fun t H S T P w => w.elim (nxt t H S T P) (fun z => absurd z (by unfold NoX; exact id))) (fun q w => ?_) rfl g8'
          · rw [i0] at u3 ⊢
            rcases u3 with ⟨H', S', w, z⟩ | ⟨w, -⟩ | ⟨w, -⟩ | ⟨w, -⟩ | ⟨⟨w, -⟩, -⟩
            · obtain ⟨e1, e2⟩ := eff_0 w
              exact Or.inl ⟨H', S', by rw [e1, e2]; exact eff_0i, z⟩
            all_goals omega
          · rcases u2 with ⟨v1, v2, v3⟩ | ⟨v1, v2, -⟩
            · omega
            · rw [z3, yx_l (by omega), w.2]
        · refine opt_zop (O := O) (n := G 3 j) (g := G 6 j) (nx := fun t H S T P => NxT Y a b 0 s 0 (-1) t H S T P ∨ NoX t H S T P) (pr := fun P q => a ≤ P ∧ Y 3 P = q) u3 q4 o2 rfl (nn i0) (fun z => ?_) (fun t H S T P w => w.elim (nxt t H S T P) (fun z => absurd z (by unfold NoX; exact id))) (fun q w => ?_) rfl g8'
          · obtain ⟨v1, v2, v3⟩ := q5 z
            have := g7 z
            exact iI_in v1 (by omega) (by omega)
          · rcases u2 with ⟨v1, v2, v3⟩ | ⟨v1, v2, -⟩
            · omega
            · rw [z3, yx_l (by omega), w.2]
    · by_cases y2 : j = b
      · subst y2
        obtain ⟨y0, y1, y2, y3⟩ := yx_b (Y := Y) (b := j) (s := s)
        rw [y0, y1, y2, y3, q1, q3]
        refine ⟨by omega, Or.inl ⟨rfl, Or.inr g2⟩, ?_⟩
        have zo : zop e (j + O) = 0 := by
          rcases o2 with z | ⟨z, -⟩
          · rw [z, g0]
          · rw [z, g0]; rfl
        refine opt_zop (O := O) (j := j) (o := 0) (n := 0) (g := 0) (nx := fun t H S T P => t = j + 1 ∧ H = 1 ∧ S = s ∧ T = 0 ∧ P = -1) (pr := fun _ _ => False) (Or.inl ⟨0 + 1, s, eff_0i, Or.inr ⟨rfl, rfl, rfl, rfl, rfl⟩⟩) (by omega) (Or.inl zo) rfl ⟨fun z => by omega, fun z => by omega⟩ (fun z => by omega) (fun t H S T P w => ?_) (fun q w => w.elim) rfl (fun z => by omega)
        obtain ⟨rfl, rfl, rfl, rfl, rfl⟩ := w
        obtain ⟨x0, x1, x2, x3⟩ := yx_e (Y := Y) (b := j) (s := S) (j := j + 1) rfl
        exact ⟨by omega, by omega, by rw [zk 0 _ (by decide), x0], by rw [zk 1 _ (by decide), x1]; exact Int.le_refl _, by rw [zk 2 _ (by decide), x2], by rw [z3, x3]⟩
      · have y3 : j = b + 1 := by omega
        obtain ⟨x0, x1, x2, x3⟩ := yx_e (Y := Y) (b := b) (s := s) (j := j) y3
        subst y3
        rw [x0, x1, x2, x3, q1, q3]
        refine ⟨by omega, Or.inl ⟨rfl, Or.inr g28⟩, ?_⟩
        have zo : zop e (b + 1 + O) = 8 ∨ zop e (b + 1 + O) = 34 := by
          rcases o2 with z | ⟨z, -⟩
          · rw [z, g8]; exact Or.inl rfl
          · rw [z, g8]; exact Or.inr rfl
        refine opt_zop (O := O) (j := b + 1) (o := 8) (n := 0) (g := 0) (nx := fun t H S T P => False) (pr := fun _ _ => False) (Or.inl ⟨0, s, eff_8i, Or.inl rfl⟩) (by omega) (by rw [g8] at o2; exact o2) rfl ⟨fun z => by omega, fun z => by omega⟩ (fun z => by omega) (fun t H S T P w => w.elim) (fun q w => w.elim) rfl (fun _ => by omega)
  · rw [zk 0 a (by decide)]
    by_cases y : a < b
    · rw [yx_l y]; exact (t6 y).1
    · rw [show a = b by omega]; exact yx_b.1
  · rw [zk 1 a (by decide)]
    by_cases y : a < b
    · rw [yx_l y]; exact (t6 y).2.1
    · rw [show a = b by omega, yx_b.2.1]; exact Int.le_refl _
  · rw [zk 2 a (by decide)]
    by_cases y : a < b
    · rw [yx_l y]; exact (t6 y).2.2.1
    · rw [show a = b by omega]; exact yx_b.2.2.1
end S9bq
