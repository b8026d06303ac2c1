/-! what is known of a parcel that was read -/
def zPK (G : Nat → Int → Int) (R : RG) (H : HG) (e : Int) : Prop := HRC G e H R (R.1 1 0 0) ∧ (1 ≤ R.1 1 0 0 ∧ 0 ≤ e ∧ e ≤ 1000) ∧ (∀ j, 0 ≤ j → j < e → (0 ≤ G 0 j ∧ G 0 j ≤ 29) ∧ (0 ≤ G 4 j ∧ G 4 j ≤ 7) ∧ (0 ≤ G 5 j ∧ G 5 j ≤ 1) ∧ G 1 j = G 3 j ∧ (8 ≤ G 0 j → (24 ≤ G 0 j ∧ G 0 j ≤ 26) ∨ G 3 j = 0)) ∧ ∀ j, 0 ≤ j → j < e → 3 ≤ G 0 j → G 0 j ≤ 7 → (0 ≤ G 3 j ∧ G 3 j < R.1 2 0 0) ∧ (G 0 j = 3 ∨ G 0 j = 4 → R.1 2 2 (G 3 j) = 1 ∨ R.1 2 2 (G 3 j) = 2) ∧ (G 0 j = 5 ∨ G 0 j = 6 → R.1 2 2 (G 3 j) = 3) ∧ (G 0 j = 7 → R.1 2 2 (G 3 j) = 4 ∧ iI (R.1 2 4 (G 3 j)) = iI (G 6 j))
section S9br
variable {n1 n2 e u i : Int} {X1 X2 : Int → Int64} {B U G G1 Gs : Nat → Int → Int} {X : Nat → Int → Int64} {R : RG} {H : HG} {k' : Int}
/-- the latest use of a code -/
theorem SetU.last (hG : ∀ q, 0 ≤ q → q < u → (0 ≤ U 1 q ∧ U 1 q ≤ 4) ∧ (U 1 q < 3 ∧ U 7 q = U 1 q + 1 ∨ 3 ≤ U 1 q ∧ U 7 q = U 1 q) ∧ G 0 (U 2 q) = U 1 q + 3) (h2 : ∀ r, 0 ≤ r → r < n2 → 0 ≤ B 2 r) : ∀ {k : Nat} {G1 : Nat → Int → Int}, (k : Int) ≤ u → SetU X1 X2 n1 n2 B U X G k G1 → ∀ i, (∃ q : Int, 0 ≤ q ∧ q < (k : Int) ∧ U 2 q = i) → ∃ q un r, (0 ≤ q ∧ q < (k : Int)) ∧ U 2 q = i ∧ UsL X1 X2 n1 n2 B U X q un r ∧ UsO B U q un r ∧ (G1 0 i = 0 ∨ (B 2 r ≠ 0 ∧ G1 0 i = G 0 i ∧ G1 3 i = r))
  | 0, _, _, _, _, ⟨q, a, b, _⟩ => absurd b (by omega)
  | k + 1, _, hk, ⟨Ga, un, r, a1, a2, a3, a4⟩, i, ⟨q, b1, b2, b3⟩ => by
    have sb := (SetU.sub hG h2 (k := k) (by omega) a1).1
    by_cases y : i = U 2 k
    · refine ⟨k, un, r, by omega, y.symm, a2, a3, ?_⟩
      rw [a4]
      unfold sU
      rw [if_pos y, if_pos y, if_pos rfl]
      by_cases z : B 2 r = 0
      · rw [if_pos z]; exact Or.inl rfl
      · rw [if_neg z, if_neg (show ¬ (3 : Nat) = 0 by decide), if_pos (show (3 : Nat) = 1 ∨ (3 : Nat) = 3 from Or.inr rfl), if_neg z]
        rcases (sb i).1 with w | ⟨-, w⟩
        · exact Or.inr ⟨z, w, rfl⟩
        · exact Or.inl w
    · have qk : q ≠ k := fun w => y (by rw [← b3, w])
      obtain ⟨q', un', r', c1, c2, c3, c4, c5⟩ := SetU.last hG h2 (k := k) (by omega) a1 i ⟨q, b1, by omega, b3⟩
      refine ⟨q', un', r', by omega, c2, c3, c4, ?_⟩
      rw [a4]
      unfold sU
      rw [if_neg y, if_neg y]
      exact c5
theorem zPK_of (h1 : 1 ≤ k') (hH : HRC G e H R k') (hD : DGK G U X e u) (he : 0 ≤ e ∧ e ≤ 1000) (hu : 0 ≤ u) (hS : SetU (R.2 1) (R.2 2) (R.1 1 0 0) (R.1 2 0 0) (R.1 2) U X G u.toNat Gs) : zPK Gs R H e := by
  obtain ⟨d1, d2⟩ := hD
  have hG : ∀ q, 0 ≤ q → q < u → (0 ≤ U 1 q ∧ U 1 q ≤ 4) ∧ (U 1 q < 3 ∧ U 7 q = U 1 q + 1 ∨ 3 ≤ U 1 q ∧ U 7 q = U 1 q) ∧ G 0 (U 2 q) = U 1 q + 3 := fun q a b => by
    obtain ⟨⟨z1, z2, z3, z4, z5, z6⟩, -⟩ := d1 q a b
    exact ⟨z1, z2, z5⟩
  have hm : ∀ r, 0 ≤ r → r < R.1 2 0 0 → 0 ≤ R.1 2 2 r := fun r a b => (hH.2.2.2.1 r a (by rw [hH.1.2.2.1]; exact b)).2.2.2.1.1
  have uN : ((u.toNat : Nat) : Int) = u := by omega
  obtain ⟨s1, s2, s3⟩ := SetU.sub hG hm (k := u.toNat) (by omega) hS
  have e1 : R.1 1 0 0 = k' := hH.1.2.1
  refine ⟨by rw [e1]; exact hH.sub s1, by omega, fun j a b => ?_, fun j a b o3 o7 => ?_⟩
  · obtain ⟨⟨g4, g4', g5, g5', g0, g0', g8⟩, gu⟩ := d2 j a b
    obtain ⟨t1, t2, t3⟩ := s1 j
    have e4 := t3 4 (by decide)
    have e5 := t3 5 (by decide)
    refine ⟨?_, by omega, by omega, ?_, fun z => ?_⟩
    · rcases t1 with z | ⟨z, z2⟩ <;> omega
    · exact s2 j (gu.imp (fun z => z.1) fun ⟨q, z1, z2, z3⟩ => ⟨q, z1, by omega, z3⟩)
    · have e0 : Gs 0 j = G 0 j := by rcases t1 with w | ⟨w, w2⟩ <;> omega
      have e3 := t2 (by omega)
      rcases g8 (by omega) with w | w
      · exact Or.inl (by omega)
      · exact Or.inr (by omega)
  · obtain ⟨-, gu⟩ := d2 j a b
    obtain ⟨t1, t2, t3⟩ := s1 j
    have e0 : Gs 0 j = G 0 j := by rcases t1 with w | ⟨w, w2⟩ <;> omega
    obtain ⟨q0, z1, z2, z3⟩ : ∃ q, 0 ≤ q ∧ q < u ∧ U 2 q = j := by
      rcases gu with z | z
      · omega
      · exact z
    obtain ⟨q, un, r, c1, c2, c3, c4, c5⟩ := SetU.last hG hm (k := u.toNat) (by omega) hS j ⟨q0, z1, by omega, z3⟩
    obtain ⟨c5, c6, c7⟩ : R.1 2 2 r ≠ 0 ∧ Gs 0 j = G 0 j ∧ Gs 3 j = r := by
      rcases c5 with z | z
      · omega
      · exact z
    obtain ⟨⟨k1, k2, k3, k4, k5, k6, -⟩, -⟩ := d1 q c1.1 (by omega)
    obtain ⟨r0, -, kd⟩ := c4
    have rb : r < R.1 2 0 0 := by
      rcases c3.2 with ⟨-, z, -⟩ | ⟨z, -⟩
      · exact z
      · omega
    have b2 := hm r r0 rb
    rw [c7]
    rw [c2] at k5
    have e6 := t3 6 (by decide)
    unfold KdU at kd
    refine ⟨⟨r0, rb⟩, fun w => ?_, fun w => ?_, fun w => ?_⟩
    · rcases kd with z | z | z | z <;> omega
    · rcases kd with z | z | z | z <;> omega
    · have u1 : U 1 q = 4 := by omega
      obtain ⟨-, k62⟩ := k6 u1
      rw [c2] at k62
      rcases kd with z | z | z | ⟨z1, z2, z3⟩
      · omega
      · omega
      · omega
      · exact ⟨z2, by rw [e6, k62]; exact z3⟩
end S9br
