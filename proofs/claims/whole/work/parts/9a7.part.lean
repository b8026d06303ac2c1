/-! the reference's machine: what is told stands in the members of a unit, all of them -/
section S9a7
variable {d : Nat} {M M' Mx : Mem} {R : RG} {v1 v2 v3 v4 : Int32} {p q n L m m0 bs : Int} {rec : Nat → List Value → Mem → XA}
theorem r240_out {j242 : Mem → XA} (hR : RT M) (h : RR M p R) (hp : 0 ≤ p ∧ p ≤ 7) (hC : 0 ≤ R.1 2 0 0 ∧ R.1 2 0 0 ≤ 96) (hm : 0 ≤ m0 ∧ m0 < R.1 2 0 0) (hb : bs = 0 ∨ bs = 96) (hu : ∀ m, 0 ≤ m → m < R.1 2 0 0 → (0 ≤ R.1 2 1 m ∧ R.1 2 1 m < 8) ∧ (0 ≤ R.1 2 2 m ∧ R.1 2 2 m ≤ 10) ∧ (R.1 2 2 m = 3 → 1 ≤ R.1 2 4 m ∧ R.1 2 4 m ≤ 50)) : ∃ M', lp (c240_105 rec (some 160) j242 (iI p) (iI bs) (iI (96 * p + m0))) 4294967296 ((0 : Int32), M) = j242 M' ∧ M'.2 = M.2 ∧ (∀ a j, a ≠ 211 → a ≠ 212 → M'.1 a j = M.1 a j) ∧ (∀ m, 0 ≤ m → m < R.1 2 0 0 → R.1 2 1 m = R.1 2 1 m0 → (R.1 2 2 m = 1 → M'.1 211 (bs + m).toNat = iI (R.1 2 4 m)) ∧ (R.1 2 2 m = 3 → ∀ i : Int, 0 ≤ i → i < R.1 2 4 m → M'.1 212 (50 * (bs + m) + i).toNat = 0)) ∧ (∀ x : Int, 0 ≤ x → (∀ m, 0 ≤ m → m < R.1 2 0 0 → R.1 2 1 m = R.1 2 1 m0 → R.1 2 2 m = 1 → x ≠ bs + m) → M'.1 211 x.toNat = M.1 211 x.toNat) ∧ ∀ x : Int, 0 ≤ x → (∀ m, 0 ≤ m → m < R.1 2 0 0 → R.1 2 1 m = R.1 2 1 m0 → R.1 2 2 m = 3 → ¬ (50 * (bs + m) ≤ x ∧ x < 50 * (bs + m) + R.1 2 4 m)) → M'.1 212 x.toNat = M.1 212 x.toNat := by
  refine lp_use (body := c240_105 rec (some 160) j242 (iI p) (iI bs) (iI (96 * p + m0))) (R := fun s => j242 s.2) (R.1 2 0 0).toNat (fun k s => s.1 = iI (k : Int) ∧ s.2.2 = M.2 ∧ (∀ a j, a ≠ 211 → a ≠ 212 → s.2.1 a j = M.1 a j) ∧ (∀ m, 0 ≤ m → m < (k : Int) → R.1 2 1 m = R.1 2 1 m0 → (R.1 2 2 m = 1 → s.2.1 211 (bs + m).toNat = iI (R.1 2 4 m)) ∧ (R.1 2 2 m = 3 → ∀ i : Int, 0 ≤ i → i < R.1 2 4 m → s.2.1 212 (50 * (bs + m) + i).toNat = 0)) ∧ (∀ x : Int, 0 ≤ x → (∀ m, 0 ≤ m → m < (k : Int) → R.1 2 1 m = R.1 2 1 m0 → R.1 2 2 m = 1 → x ≠ bs + m) → s.2.1 211 x.toNat = M.1 211 x.toNat) ∧ ∀ x : Int, 0 ≤ x → (∀ m, 0 ≤ m → m < (k : Int) → R.1 2 1 m = R.1 2 1 m0 → R.1 2 2 m = 3 → ¬ (50 * (bs + m) ≤ x ∧ x < 50 * (bs + m) + R.1 2 4 m)) → s.2.1 212 x.toNat = M.1 212 x.toNat) ((0 : Int32), M) 4294967296 (by omega) ⟨li_0, rfl, fun _ _ _ _ => rfl, fun m a b => by omega, fun _ _ _ => rfl, fun _ _ _ => rfl⟩ (fun s' g1 g2 => ?_) (fun k s hk hI => ?_) (fun s hI go => ?_)
  · obtain ⟨-, u2, u3, u4, u5, u6⟩ := g1
    exact ⟨s'.2, g2, u2, u3, fun m a b => u4 m a (by omega), fun x a b => u5 x a fun m c d => b m c (by omega), fun x a b => u6 x a fun m c d => b m c (by omega)⟩
  · obtain ⟨i1, Mk⟩ := s
    obtain ⟨u1, u2, u3, u4, u5, u6⟩ := hI
    dsimp only at u1 u2 u3 u4 u5 u6
    subst u1
    have kb : 0 ≤ (k : Int) ∧ (k : Int) < R.1 2 0 0 := by omega
    obtain ⟨w1, w2, w3⟩ := hu k kb.1 kb.2
    have w0 := (hu m0 hm.1 hm.2).1
    have Rk := hR.keep u2
    have hk' := h.keep u2 u3
    have kk := rk_160 Rk
    have c0 : Mk.1 169 p.toNat = iI (R.1 2 0 0) := hk'.gi (c := 169) (st := 1) (k := 2) (f := 0) (j0 := 0) (by decide) (by omega) (by omega)
    have a1 : Mk.1 171 (96 * p + (k : Int)).toNat = iI (R.1 2 1 k) := hk'.gi (c := 171) (st := 96) (k := 2) (f := 1) (by decide) (by omega) rfl
    have a2 : Mk.1 171 (96 * p + m0).toNat = iI (R.1 2 1 m0) := hk'.gi (c := 171) (st := 96) (k := 2) (f := 1) (by decide) (by omega) rfl
    have a3 : Mk.1 172 (96 * p + (k : Int)).toNat = iI (R.1 2 2 k) := hk'.gi (c := 172) (st := 96) (k := 2) (f := 2) (by decide) (by omega) rfl
    have a4 : Mk.1 174 (96 * p + (k : Int)).toNat = iI (R.1 2 4 k) := hk'.gi (c := 174) (st := 96) (k := 2) (f := 4) (by decide) (by omega) rfl
    have e1 : (96 : Int32) * iI p + iI (k : Int) = iI (96 * p + (k : Int)) := adI (mlI (x := 96) rfl rfl) rfl
    have e2 : iI bs + iI (k : Int) = iI (bs + (k : Int)) := adI rfl rfl
    have ik : iI (k : Int) + (1 : Int32) = iI ((k + 1 : Nat) : Int) := cvI (adI rfl li_1) (by omega)
    -- what stands before its row is seen to
    obtain ⟨M2, hM2⟩ : ∃ z, z = if R.1 2 1 k = R.1 2 1 m0 ∧ R.1 2 2 k = 1 then sI Mk 211 (bs + (k : Int)).toNat (iI (R.1 2 4 k)) else Mk := ⟨_, rfl⟩
    have m22 : M2.2 = M.2 := by rw [hM2]; split <;> exact u2
    have m2o : ∀ a j, a ≠ 211 → M2.1 a j = Mk.1 a j := fun a j z => by
      rw [hM2]
      by_cases y : R.1 2 1 k = R.1 2 1 m0 ∧ R.1 2 2 k = 1
      · rw [if_pos y]; exact sI_ne z
      · rw [if_neg y]
    have R2 := hR.keep m22
    have h2' := h.keep m22 (fun a j y z => (m2o a j y).trans (u3 a j y z))
    have m0b : 0 ≤ m0 ∧ m0 < 96 := by omega
    obtain ⟨M3, q1, q2, q3, q4, q5⟩ := r240_in (rec := rec) (Mx := Mk) (m := (k : Int)) (m0 := m0) R2 h2' hp ⟨by omega, m0b⟩ hb ⟨w1.1, w1.2, w0.1, w0.2⟩ w2 w3
    have one : ∀ go : Int32 × Mem → XA, c240_105 rec (some 160) j242 (iI p) (iI bs) (iI (96 * p + m0)) (iI (k : Int), Mk) go = lp (c240_174 rec (some 160) (jv fun (s43 : Mem) => lt (iI (k : Int) + (1 : Int32)) fun (x44 : Int32) => go (x44, s43)) (iI bs) (iI (k : Int), Mk) (iI (96 * p + m0)) (iI (96 * p + (k : Int)))) 4294967296 ((0 : Int32), M2) := fun go => by
      unfold c240_105
      dsimp only
      rw [gtP_q kk (rf_10 Rk), alI_q (n := 8) (z := p) (rk_169 Rk) rfl (by omega) c0, if_neg (leI_n rfl rfl (by omega)), ltI_q e1, gtP_q kk (rf_12 Rk), alI_q (n := 768) (z := 96 * p + (k : Int)) (rk_171 Rk) rfl (by omega) a1, gtP_q kk (rf_12 Rk), alI_q (n := 768) (z := 96 * p + m0) (rk_171 Rk) rfl (by omega) a2, jn_v]
      by_cases y1 : R.1 2 1 k = R.1 2 1 m0
      · rw [if_pos (eqI_p rfl rfl y1), gtP_q kk (rf_13 Rk), alI_q (n := 768) (z := 96 * p + (k : Int)) (rk_172 Rk) rfl (by omega) a3]
        by_cases y2 : R.1 2 2 k = 1
        · rw [if_pos ⟨y1, y2⟩] at hM2
          rw [if_pos (eqI_p rfl li_1 y2), gtP_q kk (rf_70 Rk), gtP_q kk (rf_15 Rk), alI_q (n := 768) (z := 96 * p + (k : Int)) (rk_174 Rk) rfl (by omega) a4, e2, asI_e (rk_211 Rk) (by omega) (by omega) (by omega), ← hM2, jv_e, jn_v]
        · rw [if_neg (fun z => y2 z.2)] at hM2
          rw [if_neg (eqI_n rfl li_1 (by omega)), hM2, jv_e, jn_v]
      · rw [if_neg (fun z => y1 z.1)] at hM2
        rw [if_neg (eqI_n rfl rfl (by omega)), hM2, jv_e, jn_v]
    refine ⟨(iI ((k + 1 : Nat) : Int), M3), ⟨rfl, q2.trans m22, fun a j y z => (q3 a j z).trans ((m2o a j y).trans (u3 a j y z)), fun m a b c => ⟨fun y => ?_, fun y i d f => ?_⟩, fun x a b => ?_, fun x a b => ?_⟩, fun go => ?_⟩
    · refine (q3 _ _ (by decide)).trans ?_
      by_cases w : m = k
      · rw [w] at c y ⊢
        rw [hM2, if_pos ⟨c, y⟩]; exact sI_eq
      · have old := (u4 m a (by omega) c).1 y
        rw [hM2]
        by_cases z : R.1 2 1 k = R.1 2 1 m0 ∧ R.1 2 2 k = 1
        · rw [if_pos z]; exact (sI_nej (by omega)).trans old
        · rw [if_neg z]; exact old
    · by_cases w : m = k
      · rw [w] at c y f ⊢
        exact q4 c y i d f
      · have w9 := hu m a (by omega)
        have w8 := w9.2.2 y
        rw [q5 _ (by omega) (by
          intro z
          have := w3 z.2.1
          omega), m2o _ _ (by decide)]
        exact (u4 m a (by omega) c).2 y i d f
    · refine (q3 _ _ (by decide)).trans ?_
      have old := u5 x a fun m c d => b m c (by omega)
      rw [hM2]
      by_cases z : R.1 2 1 k = R.1 2 1 m0 ∧ R.1 2 2 k = 1
      · rw [if_pos z]
        have := b k (by omega) (by omega) z.1 z.2
        exact (sI_nej (by omega)).trans old
      · rw [if_neg z]; exact old
    · have old := u6 x a fun m c d => b m c (by omega)
      rw [q5 x a (fun z => b k (by omega) (by omega) z.1 z.2.1 z.2.2), m2o _ _ (by decide)]
      exact old
    · rw [one, q1, jv_e, ltI_q ik]
  · obtain ⟨i1, Mk⟩ := s
    obtain ⟨u1, u2, u3, -⟩ := hI
    dsimp only at u1 u2 u3
    subst u1
    have Rk := hR.keep u2
    have c0 : Mk.1 169 p.toNat = iI (R.1 2 0 0) := (h.keep u2 u3).gi (c := 169) (st := 1) (k := 2) (f := 0) (j0 := 0) (by decide) (by omega) (by omega)
    unfold c240_105
    dsimp only
    rw [gtP_q (rk_160 Rk) (rf_10 Rk), alI_q (n := 8) (z := p) (rk_169 Rk) rfl (by omega) c0, if_pos (leI_p rfl rfl (by omega))]
end S9a7
