/-! covers are cleared, both -/
section S9cg
variable {d : Nat} {o : HO} {M M' M2 : Mem} {LL a j x E : Nat} {xs : Nat → Int32} {c p i n b : Int} {v v1 v2 v3 w : Int32}
theorem zc54 (hd : 2 ≤ d) (hx : M.2.2.2[x]? = some (6, 18) ∧ M.2.2.1 x 12 = some (x + 12)) (h12 : M.2.2.2[x + 12]? = some (113, 3)) (hk : ∀ i, i < 3 → M.2.2.1 (x + 12) i = some (x + 13 + i) ∧ M.2.2.2[x + 13 + i]? = some (100, E)) (hE : E ≤ 1000) : ∃ M', runX d 54 [va_rf (some x)] M = some (.null, M') ∧ M'.2 = M.2 ∧ (∀ b j, b < x + 13 ∨ x + 15 < b → M'.1 b j = M.1 b j) ∧ ∀ i j, i < 3 → j < E → M'.1 (x + 13 + i) j = iI 0 := by
  obtain ⟨d, rfl⟩ : ∃ e, d = e + 1 := ⟨d - 1, by omega⟩
  rw [r54]; unfold b54; rw [aR_e, aZ_e]; unfold c54
  rw [jn_v]
  refine lp_use (body := c54_2 (runX d) (some x) (jv fun s1 => some (.null, s1))) (R := fun s => some (.null, s.2)) 3 (fun k s => s.1 = iI (k : Int) ∧ s.2.2 = M.2 ∧ (∀ b j, b < x + 13 ∨ x + 15 < b → s.2.1 b j = M.1 b j) ∧ ∀ i j, i < k → j < E → s.2.1 (x + 13 + i) j = iI 0) ((0 : Int32), M) 4294967296 (by omega) ⟨li_0, rfl, fun _ _ _ => rfl, fun i j p => by omega⟩ (fun s' g1 g2 => ?_) (fun k s hk' hI => ?_) (fun s hI go => ?_)
  · exact ⟨s'.2, g2, g1.2.1, g1.2.2.1, g1.2.2.2⟩
  · obtain ⟨i1, Mk⟩ := s
    obtain ⟨u1, u2, u3, u4⟩ := hI
    dsimp only at u1 u2 u3 u4
    subst u1
    have p2 : Mk.2.2.1 = M.2.2.1 := congrArg (fun z => z.2.1) u2
    have k2 : Mk.2.2.2 = M.2.2.2 := congrArg (fun z => z.2.2) u2
    obtain ⟨q1, q2⟩ := hk k hk'
    obtain ⟨Mn, x1, x2, x3, x4⟩ := kp352 (d := d) (M := Mk) (a := x + 13 + k) (N := E) (w := 0) (by omega) (by rw [k2]; exact q2) (by omega)
    have y1 : Mk.2.2.2[x]? = some (6, 18) := by rw [k2]; exact hx.1
    have y2 : Mk.2.2.1 x 12 = some (x + 12) := by rw [p2]; exact hx.2
    have y3 : Mk.2.2.2[x + 12]? = some (113, 3) := by rw [k2]; exact h12
    have y4 : Mk.2.2.1 (x + 12) ((k : Int)).toNat = some (x + 13 + k) := by rw [p2]; exact q1
    refine ⟨(iI ((k + 1 : Nat) : Int), Mn), ⟨rfl, x2.trans u2, fun b j z => (x3 b j (by omega)).trans (u3 b j z), fun i j z z2 => ?_⟩, fun go => ?_⟩
    · dsimp only
      by_cases y : i = k
      · rw [y]; exact (x4 j z2).trans li_0
      · exact (x3 _ _ (by omega)).trans (u4 i j (by omega) z2)
    · unfold c54_2
      dsimp only
      rw [if_neg (leI_n (y := (k : Int)) li_3 rfl (by omega)), gtP_q y1 y2, alP_q (z := (k : Int)) y3 rfl (by omega) y4, cV_e x1]
      exact ltI_q (z := ((k + 1 : Nat) : Int)) (cvI (adI rfl li_1) (by omega))
  · obtain ⟨i1, Mk⟩ := s
    obtain ⟨u1, -⟩ := hI
    dsimp only at u1
    subst u1
    unfold c54_2
    dsimp only
    rw [if_pos (leI_p (y := ((3 : Nat) : Int)) li_3 rfl (by omega)), jv_e]
theorem zr257_16 {K : Mem → XA} (hR : RT M) (hp : 0 ≤ p ∧ p ≤ 7) (h : M.1 188 p.toNat = iI E) (hE : E ≤ 1000) (hv : v = iI p) (hw : w = iI (1000 * p)) : ∃ M', lp (c257_16 (runX d) (some 160) v K) 4294967296 (w, M) = K M' ∧ M'.2 = M.2 ∧ (∀ a j : Nat, ¬ ((a = 216 ∨ a = 217 ∨ a = 218) ∧ 1000 * p ≤ j ∧ (j : Int) < 1000 * p + 1000) → M'.1 a j = M.1 a j) ∧ ∀ j, 0 ≤ j → j < (E : Int) → M'.1 216 (1000 * p + j).toNat = iI 0 ∧ M'.1 217 (1000 * p + j).toNat = iI 0 ∧ M'.1 218 (1000 * p + j).toNat = iI (-1) := by
  subst hv; subst hw
  have i1000 : (1000 : Int32) * iI p + iI E = iI (1000 * p + E) := adI (mlI li_1000 rfl) rfl
  refine lp_use (body := c257_16 (runX d) (some 160) (iI p) K) (R := fun s => K s.2) E (fun k s => s.1 = iI (1000 * p + k) ∧ s.2.2 = M.2 ∧ (∀ a j : Nat, ¬ ((a = 216 ∨ a = 217 ∨ a = 218) ∧ 1000 * p ≤ j ∧ (j : Int) < 1000 * p + 1000) → s.2.1 a j = M.1 a j) ∧ ∀ j, 0 ≤ j → j < (k : Int) → s.2.1 216 (1000 * p + j).toNat = iI 0 ∧ s.2.1 217 (1000 * p + j).toNat = iI 0 ∧ s.2.1 218 (1000 * p + j).toNat = iI (-1)) (iI (1000 * p), M) 4294967296 (by omega) ⟨congrArg iI (by omega), rfl, fun _ _ _ => rfl, fun j a b => by omega⟩ (fun s' g1 g2 => ?_) (fun k s hk' hI => ?_) (fun s hI go => ?_)
  · exact ⟨s'.2, g2, g1.2.1, g1.2.2.1, g1.2.2.2⟩
  · obtain ⟨i1, Mk⟩ := s
    obtain ⟨u1, u2, u3, u4⟩ := hI
    dsimp only at u1 u2 u3 u4
    subst u1
    have Rk : RT Mk := hR.keep u2
    have kk := rk_160 Rk
    obtain ⟨M1, hM1⟩ : ∃ X, X = sI (sI (sI Mk 216 (1000 * p + k).toNat (iI 0)) 217 (1000 * p + k).toNat (iI 0)) 218 (1000 * p + k).toNat (iI (-1)) := ⟨_, rfl⟩
    have e188 : Mk.1 188 p.toNat = iI E := (u3 _ _ (by omega)).trans h
    refine ⟨(iI (1000 * p + ((k + 1 : Nat) : Int)), M1), ⟨rfl, by rw [hM1]; exact u2, fun a j z => ?_, fun j z z2 => ?_⟩, fun go => ?_⟩
    · dsimp only
      rw [hM1]
      refine Eq.trans ?_ (u3 a j z)
      have g : ∀ (X : Mem) (b : Nat) (w : Int32), (b = 216 ∨ b = 217 ∨ b = 218) → (sI X b (1000 * p + k).toNat w).1 a j = X.1 a j := fun X b w hb => by
        by_cases y : a = b
        · rw [y]; exact sI_nej fun t => z ⟨by omega, by omega, by omega⟩
        · exact sI_ne y
      exact (g _ 218 _ (by decide)).trans ((g _ 217 _ (by decide)).trans (g _ 216 _ (by decide)))
    · dsimp only
      rw [hM1]
      by_cases y : j = k
      · rw [y]
        exact ⟨(sI_ne (by decide)).trans ((sI_ne (by decide)).trans sI_eq), (sI_ne (by decide)).trans sI_eq, sI_eq⟩
      · have nj : (1000 * p + j).toNat ≠ (1000 * p + k).toNat := by omega
        obtain ⟨b1, b2, b3⟩ := u4 j z (by omega)
        exact ⟨(sI_ne (by decide)).trans ((sI_ne (by decide)).trans ((sI_nej nj).trans b1)), (sI_ne (by decide)).trans ((sI_nej nj).trans ((sI_ne (by decide)).trans b2)), (sI_nej nj).trans ((sI_ne (by decide)).trans ((sI_ne (by decide)).trans b3))⟩
    · unfold c257_16
      dsimp only
      rw [gtP_q kk (rf_29 Rk), alI_q (rk_188 Rk) rfl (by omega) e188, if_neg (leI_n i1000 rfl (by omega)), gtP_q kk (rf_94 Rk), li_0, asI_e (rk_216 Rk) (by omega) (by omega) (by omega)]
      rw [gtP_q (M := sI Mk 216 (1000 * p + k).toNat (iI 0)) kk (rf_95 Rk), asI_e (M := sI Mk 216 (1000 * p + k).toNat (iI 0)) (rk_217 Rk) (by omega) (by omega) (by omega)]
      rw [gtP_q (M := sI (sI Mk 216 (1000 * p + k).toNat (iI 0)) 217 (1000 * p + k).toNat (iI 0)) kk (rf_96 Rk), show (-1 : Int32) = iI (-1) from rfl, asI_e (M := sI (sI Mk 216 (1000 * p + k).toNat (iI 0)) 217 (1000 * p + k).toNat (iI 0)) (rk_218 Rk) (by omega) (by omega) (by omega), ← hM1]
      exact ltI_q (z := 1000 * p + ((k + 1 : Nat) : Int)) (cvI (adI rfl li_1) (by omega))
  · obtain ⟨i1, Mk⟩ := s
    obtain ⟨u1, u2, u3, u4⟩ := hI
    dsimp only at u1 u2 u3
    subst u1
    have Rk : RT Mk := hR.keep u2
    unfold c257_16
    dsimp only
    rw [gtP_q (rk_160 Rk) (rf_29 Rk), alI_q (rk_188 Rk) rfl (by omega) ((u3 _ _ (by omega)).trans h), if_pos (leI_p i1000 rfl (by omega))]
end S9cg
