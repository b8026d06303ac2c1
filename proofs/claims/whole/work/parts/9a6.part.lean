/-! the reference's machine: what is told stands in the members of a unit -/
section S9a6
variable {d : Nat} {M M' Mx : Mem} {R : RG} {v1 v2 v3 v4 : Int32} {p q n L m m0 bs : Int} {rec : Nat → List Value → Mem → XA}
theorem RR.keep (h : RR M p R) (g : M'.2 = M.2) (f : ∀ a j, a ≠ 211 → a ≠ 212 → M'.1 a j = M.1 a j) : RR M' p R := ⟨fun z y j a b => by
  have l : ∀ z, z ∈ rTI → z.1 < 211 := by decide
  have := l z y
  rw [f _ _ (by omega) (by omega)]; exact h.1 z y j a b, fun z y j a b => by rw [congrArg (fun z => z.1) g]; exact h.2 z y j a b⟩
/-- a loop whose way out is left open -/
theorem lp_runj {σ J : Type} {b : J → σ → (σ → XA) → XA} {R : J → σ → XA} (n : Nat) (I : Nat → σ → Prop) (st : ∀ k s, k < n → I k s → ∃ s', I (k + 1) s' ∧ ∀ j go, b j s go = go s') (en : ∀ s, I n s → ∀ j go, b j s go = R j s) : ∀ (m k : Nat) (s : σ) (N : Nat), k + m = n → m < N → I k s → ∃ s', I n s' ∧ ∀ j, lp (b j) N s = R j s'
  | 0, k, s, N, h1, h2, h3 => by
    obtain ⟨N, rfl⟩ : ∃ e, N = e + 1 := ⟨N - 1, by omega⟩
    have e : k = n := by omega
    subst e
    exact ⟨s, h3, fun j => by rw [lp_e]; exact en s h3 j _⟩
  | m + 1, k, s, N, h1, h2, h3 => by
    obtain ⟨N, rfl⟩ : ∃ e, N = e + 1 := ⟨N - 1, by omega⟩
    obtain ⟨s1, g1, g2⟩ := st k s (by omega) h3
    obtain ⟨s2, g3, g4⟩ := lp_runj n I st en m (k + 1) s1 N (by omega) (by omega) g1
    exact ⟨s2, g3, fun j => by rw [lp_e, g2]; exact g4 j⟩
theorem lp_usej {σ J : Type} {P : Prop} {b : J → σ → (σ → XA) → XA} {R : J → σ → XA} (n : Nat) (I : Nat → σ → Prop) (s0 : σ) (N : Nat) (hN : n < N) (h0 : I 0 s0) (k : ∀ s', I n s' → (∀ j, lp (b j) N s0 = R j s') → P) (st : ∀ k s, k < n → I k s → ∃ s', I (k + 1) s' ∧ ∀ j go, b j s go = go s') (en : ∀ s, I n s → ∀ j go, b j s go = R j s) : P := by
  obtain ⟨s', h1, h2⟩ := lp_runj n I st en n 0 s0 N (by omega) hN h0
  exact k s' h1 h2
theorem r240_in (hR : RT M) (h : RR M p R) (hp : 0 ≤ p ∧ p ≤ 7) (hm : (0 ≤ m ∧ m < 96) ∧ 0 ≤ m0 ∧ m0 < 96) (hb : bs = 0 ∨ bs = 96) (hu : 0 ≤ R.1 2 1 m ∧ R.1 2 1 m < 8 ∧ 0 ≤ R.1 2 1 m0 ∧ R.1 2 1 m0 < 8) (hs : 0 ≤ R.1 2 2 m ∧ R.1 2 2 m ≤ 10) (hz : R.1 2 2 m = 3 → 1 ≤ R.1 2 4 m ∧ R.1 2 4 m ≤ 50) : ∃ M', (∀ j236 : Mem → XA, lp (c240_174 rec (some 160) j236 (iI bs) (iI m, Mx) (iI (96 * p + m0)) (iI (96 * p + m))) 4294967296 ((0 : Int32), M) = j236 M') ∧ M'.2 = M.2 ∧ (∀ a j, a ≠ 212 → M'.1 a j = M.1 a j) ∧ (R.1 2 1 m = R.1 2 1 m0 → R.1 2 2 m = 3 → ∀ i : Int, 0 ≤ i → i < R.1 2 4 m → M'.1 212 (50 * (bs + m) + i).toNat = 0) ∧ ∀ x : Int, 0 ≤ x → ¬ (R.1 2 1 m = R.1 2 1 m0 ∧ R.1 2 2 m = 3 ∧ 50 * (bs + m) ≤ x ∧ x < 50 * (bs + m) + R.1 2 4 m) → M'.1 212 x.toNat = M.1 212 x.toNat := by
  have A : ∀ X : Mem, X.2 = M.2 → (∀ a j, a ≠ 212 → X.1 a j = M.1 a j) → RT X ∧ X.1 171 (96 * p + m).toNat = iI (R.1 2 1 m) ∧ X.1 171 (96 * p + m0).toNat = iI (R.1 2 1 m0) ∧ X.1 172 (96 * p + m).toNat = iI (R.1 2 2 m) ∧ X.1 174 (96 * p + m).toNat = iI (R.1 2 4 m) := fun X g f => by
    have h' := h.keep g (fun a j _ z => f a j z)
    exact ⟨hR.keep g, h'.gi (c := 171) (st := 96) (k := 2) (f := 1) (by decide) (by omega) rfl, h'.gi (c := 171) (st := 96) (k := 2) (f := 1) (by decide) (by omega) rfl, h'.gi (c := 172) (st := 96) (k := 2) (f := 2) (by decide) (by omega) rfl, h'.gi (c := 174) (st := 96) (k := 2) (f := 4) (by decide) (by omega) rfl⟩
  obtain ⟨N, hN⟩ : ∃ N : Nat, (N : Int) = if R.1 2 1 m = R.1 2 1 m0 ∧ R.1 2 2 m = 3 then R.1 2 4 m else 0 := by
    by_cases y : R.1 2 1 m = R.1 2 1 m0 ∧ R.1 2 2 m = 3
    · have := hz y.2
      exact ⟨(R.1 2 4 m).toNat, by rw [if_pos y]; omega⟩
    · exact ⟨0, by rw [if_neg y]; rfl⟩
  have N50 : N ≤ 50 := by
    by_cases y : R.1 2 1 m = R.1 2 1 m0 ∧ R.1 2 2 m = 3
    · have := hz y.2
      rw [if_pos y] at hN; omega
    · rw [if_neg y] at hN; omega
  refine lp_usej (b := fun j236 => c240_174 rec (some 160) j236 (iI bs) (iI m, Mx) (iI (96 * p + m0)) (iI (96 * p + m))) (R := fun (j236 : Mem → XA) s => j236 s.2) N (fun k s => s.1 = iI (k : Int) ∧ s.2.2 = M.2 ∧ (∀ a j, a ≠ 212 → s.2.1 a j = M.1 a j) ∧ (∀ i : Int, 0 ≤ i → i < k → s.2.1 212 (50 * (bs + m) + i).toNat = 0) ∧ ∀ x : Int, 0 ≤ x → ¬ (50 * (bs + m) ≤ x ∧ x < 50 * (bs + m) + k) → s.2.1 212 x.toNat = M.1 212 x.toNat) ((0 : Int32), M) 4294967296 (by omega) ⟨li_0, rfl, fun _ _ _ => rfl, fun i a b => by omega, fun _ _ _ => rfl⟩ (fun s' g1 g2 => ?_) (fun k s hk hI => ?_) (fun s hI j236 go => ?_)
  · obtain ⟨-, u2, u3, u4, u5⟩ := g1
    refine ⟨s'.2, g2, u2, u3, fun y1 y2 i a b => u4 i a (by rw [hN, if_pos ⟨y1, y2⟩]; exact b), fun x a b => u5 x a (fun z => b ?_)⟩
    by_cases y : R.1 2 1 m = R.1 2 1 m0 ∧ R.1 2 2 m = 3
    · rw [if_pos y] at hN
      exact ⟨y.1, y.2, z.1, by omega⟩
    · rw [if_neg y] at hN; omega
  · obtain ⟨i1, Mk⟩ := s
    obtain ⟨u1, u2, u3, u4, u5⟩ := hI
    dsimp only at u1 u2 u3 u4 u5
    subst u1
    obtain ⟨Rk, a1, a2, a3, a4⟩ := A Mk u2 u3
    have kk := rk_160 Rk
    have y : R.1 2 1 m = R.1 2 1 m0 ∧ R.1 2 2 m = 3 := Classical.byContradiction fun z => by rw [if_neg z] at hN; omega
    have z5 := hz y.2
    rw [if_pos y] at hN
    have e5 : (50 : Int32) * (iI bs + iI m) + iI (k : Int) = iI (50 * (bs + m) + (k : Int)) := adI (mlI (x := 50) rfl (adI rfl rfl)) rfl
    refine ⟨(iI ((k + 1 : Nat) : Int), sI Mk 212 (50 * (bs + m) + (k : Int)).toNat 0), ⟨rfl, u2, fun a j z => (sI_ne z).trans (u3 a j z), fun i a b => ?_, fun x a b => ?_⟩, fun j236 go => ?_⟩
    · by_cases w : i = k
      · rw [w]; exact sI_eq
      · exact (sI_nej (by omega)).trans (u4 i a (by omega))
    · exact (sI_nej (by omega)).trans (u5 x a (by omega))
    · unfold c240_174
      dsimp only
      rw [gtP_q kk (rf_12 Rk), alI_q (n := 768) (z := 96 * p + m) (rk_171 Rk) rfl (by omega) a1, gtP_q kk (rf_12 Rk), alI_q (n := 768) (z := 96 * p + m0) (rk_171 Rk) rfl (by omega) a2, if_pos (eqI_p rfl rfl y.1), gtP_q kk (rf_13 Rk), alI_q (n := 768) (z := 96 * p + m) (rk_172 Rk) rfl (by omega) a3, if_pos (show iI (R.1 2 2 m) = 3 from eqI_p (y := 3) rfl rfl y.2), gtP_q kk (rf_15 Rk), alI_q (n := 768) (z := 96 * p + m) (rk_174 Rk) rfl (by omega) a4, if_neg (leI_n rfl rfl (by omega)), gtP_q kk (rf_71 Rk), e5, asI_e (rk_212 Rk) (by omega) (by omega) (by omega)]
      exact ltI_q (z := ((k + 1 : Nat) : Int)) (cvI (adI rfl li_1) (by omega))
  · obtain ⟨i1, Mk⟩ := s
    obtain ⟨u1, u2, u3, u4, u5⟩ := hI
    dsimp only at u1 u2 u3
    subst u1
    obtain ⟨Rk, a1, a2, a3, a4⟩ := A Mk u2 u3
    have kk := rk_160 Rk
    unfold c240_174
    dsimp only
    rw [gtP_q kk (rf_12 Rk), alI_q (n := 768) (z := 96 * p + m) (rk_171 Rk) rfl (by omega) a1, gtP_q kk (rf_12 Rk), alI_q (n := 768) (z := 96 * p + m0) (rk_171 Rk) rfl (by omega) a2]
    by_cases y1 : R.1 2 1 m = R.1 2 1 m0
    · rw [if_pos (eqI_p rfl rfl y1), gtP_q kk (rf_13 Rk), alI_q (n := 768) (z := 96 * p + m) (rk_172 Rk) rfl (by omega) a3]
      by_cases y2 : R.1 2 2 m = 3
      · have z5 := hz y2
        rw [if_pos ⟨y1, y2⟩] at hN
        rw [if_pos (show iI (R.1 2 2 m) = 3 from eqI_p (y := 3) rfl rfl y2), gtP_q kk (rf_15 Rk), alI_q (n := 768) (z := 96 * p + m) (rk_174 Rk) rfl (by omega) a4, if_pos (leI_p rfl rfl (by omega))]
      · rw [if_neg (show ¬ iI (R.1 2 2 m) = 3 from eqI_n (y := 3) rfl rfl (by omega))]
    · rw [if_neg (eqI_n rfl rfl (by omega))]
end S9a6
