/-! a run begins: the reference -/
def Zma (a j : Nat) : Prop := (a = 160 ∧ (j = 66 ∨ j = 67)) ∨ a = 209 ∨ a = 211
section S9c2
variable {d : Nat} {M M' M1 M2 : Mem} {a b j N x y : Nat} {v v1 v2 w : Int32} {c t k i n p o q id p0 p1 fr u m : Int} {R0 R1 R : RG} {L : Int → Int} {g : PG}
theorem RR.i2 (h : RR M p R) (h2 : M'.2 = M.2) (f : ∀ a j, 162 ≤ a → a ≤ 208 → M'.1 a j = M.1 a j) : RR M' p R := ⟨fun q z j a b => by
  have l : ∀ z, z ∈ rTI → 162 ≤ z.1 ∧ z.1 ≤ 208 := by decide
  rw [f _ _ (l q z).1 (l q z).2]; exact h.1 q z j a b, fun q z j a b => by rw [congrArg (fun z => z.1) h2]; exact h.2 q z j a b⟩
theorem ltI_n0 (hp : 0 ≤ p ∧ p ≤ 7) : ¬ iI p < 0 := lsI_n rfl li_0 (by omega)
/-- a row of shared values; o ahead of it: 0 or 96 -/
theorem zr235_60 (hR : RT M) (h : RR M p R) (hp : 0 ≤ p ∧ p ≤ 7) (hn : 0 ≤ R.1 2 0 0 ∧ R.1 2 0 0 ≤ 96) (hb : zRb R) (hv : v = iI p) {K : Mem → XA} : ∃ M', lp (c235_60 (runX d) (some 160) v K) 4294967296 ((0 : Int32), M) = K M' ∧ M'.2 = M.2 ∧ (∀ a j, ¬ (a = 211 ∧ j < 96) → M'.1 a j = M.1 a j) ∧ ∀ m, 0 ≤ m → m < R.1 2 0 0 → M'.1 211 m.toNat = iI (if R.1 2 2 m = 2 then R.1 2 4 m else 0) := by
  subst hv
  refine lp_use (body := c235_60 (runX d) (some 160) (iI p) K) (R := fun s => K s.2) (R.1 2 0 0).toNat (fun k s => s.1 = iI (k : Int) ∧ s.2.2 = M.2 ∧ (∀ a j, ¬ (a = 211 ∧ j < 96) → s.2.1 a j = M.1 a j) ∧ ∀ m : Int, 0 ≤ m → m < k → s.2.1 211 m.toNat = iI (if R.1 2 2 m = 2 then R.1 2 4 m else 0)) ((0 : Int32), M) 4294967296 (by omega) ⟨li_0, rfl, fun _ _ _ => rfl, fun m a b => by omega⟩ (fun s' h1 h2 => ?_) (fun k s hk' hI => ?_) (fun s hI go => ?_)
  · obtain ⟨g1, g2, g3, g4⟩ := h1
    exact ⟨s'.2, h2, g2, g3, fun m a b => g4 m a (by omega)⟩
  · obtain ⟨i1, Mk⟩ := s
    obtain ⟨g1, g2, g3, g4⟩ := hI
    dsimp only at g1 g2 g3 g4
    subst g1
    have Rk : RT Mk := ⟨fun q z => by rw [congrArg (fun z => z.2.2) g2]; exact hR.1 q z, fun q z => by rw [congrArg (fun z => z.2.1) g2]; exact hR.2 q z⟩
    have hk : RR Mk p R := h.i2 g2 fun a j z1 z2 => g3 a j (by omega)
    have k160 := rk_160 Rk
    have r0 : Mk.1 169 p.toNat = iI (R.1 2 0 0) := by have := hk.1 (169, 1, 2, 0) (by decide) 0 (by decide) (by decide); rw [show (1 : Int) * p + 0 = p by omega] at this; exact this
    have r2 : Mk.1 172 (96 * p + (k : Int)).toNat = iI (R.1 2 2 k) := hk.1 (172, 96, 2, 2) (by decide) k (by omega) (show (k : Int) < 96 by omega)
    have r4 : Mk.1 174 (96 * p + (k : Int)).toNat = iI (R.1 2 4 k) := hk.1 (174, 96, 2, 4) (by decide) k (by omega) (show (k : Int) < 96 by omega)
    have idx : (96 : Int32) * iI p + iI (k : Int) = iI (96 * p + (k : Int)) := adI (mlI (x := 96) rfl rfl) rfl
    refine ⟨(iI ((k + 1 : Nat) : Int), sI Mk 211 k (iI (if R.1 2 2 k = 2 then R.1 2 4 k else 0))), ⟨rfl, g2, fun a j z => ?_, fun m a b => ?_⟩, fun go => ?_⟩
    · refine Eq.trans ?_ (g3 a j z)
      by_cases y : a = 211
      · subst y; exact sI_nej fun w => z ⟨rfl, by omega⟩
      · exact sI_ne y
    · dsimp only
      by_cases y : m = (k : Int)
      · rw [y]; exact sI_eq
      · exact (sI_nej (by omega)).trans (g4 m a (by omega))
    · unfold c235_60
      dsimp only
      rw [gtP_q k160 (rf_10 Rk), alI_q (rk_169 Rk) rfl (by omega) r0, if_neg (leI_n rfl rfl (by omega)), gtP_q k160 (rf_70 Rk), gtP_q k160 (rf_13 Rk), idx, alI_q (rk_172 Rk) rfl (by omega) r2, jn_v]
      have fin : ∀ w : Int, (jv (fun (s23 : Int32) => asI 100 Mk (some 211) (iI (k : Int)) s23 fun M24 => lt (iI (k : Int) + (1 : Int32)) fun (x25 : Int32) => go (x25, M24)) (iI w) : XA) = go (iI ((k + 1 : Nat) : Int), sI Mk 211 k (iI w)) := fun w => by
        rw [jv_e, asI_e (rk_211 Rk) (by omega) (by omega) (by omega)]
        exact ltI_q (z := ((k + 1 : Nat) : Int)) (cvI (adI rfl li_1) (by omega))
      by_cases y : R.1 2 2 (k : Int) = 2
      · rw [if_pos (eqI_p rfl (show (2 : Int32) = iI 2 from rfl) y), gtP_q k160 (rf_15 Rk), alI_q (rk_174 Rk) rfl (by omega) r4, if_pos y]
        exact fin _
      · have b2 : R.1 2 2 (k : Int) ≠ 2 := y
        rw [if_neg y]
        by_cases y3 : iI (R.1 2 2 (k : Int)) = 2
        · have := (hb k (by omega) (by omega)).1
          exact absurd (iI_in (y := 2) y3 (by omega) (by omega)) y
        · rw [if_neg y3, li_0]
          exact fin _
  · obtain ⟨i1, Mk⟩ := s
    obtain ⟨g1, g2, g3, -⟩ := hI
    dsimp only at g1 g2 g3
    subst g1
    have Rk : RT Mk := ⟨fun q z => by rw [congrArg (fun z => z.2.2) g2]; exact hR.1 q z, fun q z => by rw [congrArg (fun z => z.2.1) g2]; exact hR.2 q z⟩
    have hk : RR Mk p R := h.i2 g2 fun a j z1 z2 => g3 a j (by omega)
    have r0 : Mk.1 169 p.toNat = iI (R.1 2 0 0) := by have := hk.1 (169, 1, 2, 0) (by decide) 0 (by decide) (by decide); rw [show (1 : Int) * p + 0 = p by omega] at this; exact this
    unfold c235_60
    dsimp only
    rw [gtP_q (rk_160 Rk) (rf_10 Rk), alI_q (rk_169 Rk) rfl (by omega) r0, if_pos (leI_p rfl rfl (by omega))]
/-- of the other parcel -/
theorem zr235_114 (hR : RT M) (h : RR M p R) (hp : 0 ≤ p ∧ p ≤ 7) (hn : 0 ≤ R.1 2 0 0 ∧ R.1 2 0 0 ≤ 96) (hb : zRb R) (hv : v = iI p) {K : Mem → XA} : ∃ M', lp (c235_114 (runX d) (some 160) v K) 4294967296 ((0 : Int32), M) = K M' ∧ M'.2 = M.2 ∧ (∀ a j, ¬ (a = 211 ∧ 96 ≤ j ∧ j < 192) → M'.1 a j = M.1 a j) ∧ ∀ m, 0 ≤ m → m < R.1 2 0 0 → M'.1 211 (96 + m).toNat = iI (if R.1 2 2 m = 2 then R.1 2 4 m else 0) := by
  subst hv
  refine lp_use (body := c235_114 (runX d) (some 160) (iI p) K) (R := fun s => K s.2) (R.1 2 0 0).toNat (fun k s => s.1 = iI (k : Int) ∧ s.2.2 = M.2 ∧ (∀ a j, ¬ (a = 211 ∧ 96 ≤ j ∧ j < 192) → s.2.1 a j = M.1 a j) ∧ ∀ m : Int, 0 ≤ m → m < k → s.2.1 211 (96 + m).toNat = iI (if R.1 2 2 m = 2 then R.1 2 4 m else 0)) ((0 : Int32), M) 4294967296 (by omega) ⟨li_0, rfl, fun _ _ _ => rfl, fun m a b => by omega⟩ (fun s' h1 h2 => ?_) (fun k s hk' hI => ?_) (fun s hI go => ?_)
  · obtain ⟨g1, g2, g3, g4⟩ := h1
    exact ⟨s'.2, h2, g2, g3, fun m a b => g4 m a (by omega)⟩
  · obtain ⟨i1, Mk⟩ := s
    obtain ⟨g1, g2, g3, g4⟩ := hI
    dsimp only at g1 g2 g3 g4
    subst g1
    have Rk : RT Mk := ⟨fun q z => by rw [congrArg (fun z => z.2.2) g2]; exact hR.1 q z, fun q z => by rw [congrArg (fun z => z.2.1) g2]; exact hR.2 q z⟩
    have hk : RR Mk p R := h.i2 g2 fun a j z1 z2 => g3 a j (by omega)
    have k160 := rk_160 Rk
    have r0 : Mk.1 169 p.toNat = iI (R.1 2 0 0) := by have := hk.1 (169, 1, 2, 0) (by decide) 0 (by decide) (by decide); rw [show (1 : Int) * p + 0 = p by omega] at this; exact this
    have r2 : Mk.1 172 (96 * p + (k : Int)).toNat = iI (R.1 2 2 k) := hk.1 (172, 96, 2, 2) (by decide) k (by omega) (show (k : Int) < 96 by omega)
    have r4 : Mk.1 174 (96 * p + (k : Int)).toNat = iI (R.1 2 4 k) := hk.1 (174, 96, 2, 4) (by decide) k (by omega) (show (k : Int) < 96 by omega)
    have idx : (96 : Int32) * iI p + iI (k : Int) = iI (96 * p + (k : Int)) := adI (mlI (x := 96) rfl rfl) rfl
    refine ⟨(iI ((k + 1 : Nat) : Int), sI Mk 211 (96 + k) (iI (if R.1 2 2 k = 2 then R.1 2 4 k else 0))), ⟨rfl, g2, fun a j z => ?_, fun m a b => ?_⟩, fun go => ?_⟩
    · refine Eq.trans ?_ (g3 a j z)
      by_cases y : a = 211
      · subst y; exact sI_nej fun w => z ⟨rfl, by omega, by omega⟩
      · exact sI_ne y
    · dsimp only
      by_cases y : m = (k : Int)
      · rw [y, show (96 + (k : Int)).toNat = 96 + k by omega]; exact sI_eq
      · exact (sI_nej (by omega)).trans (g4 m a (by omega))
    · unfold c235_114
      dsimp only
      rw [if_neg (show ¬ iI p < 0 from fun z => absurd z (ltI_n0 hp)), gtP_q k160 (rf_10 Rk), alI_q (rk_169 Rk) rfl (by omega) r0, if_neg (leI_n rfl rfl (by omega)), gtP_q k160 (rf_70 Rk), gtP_q k160 (rf_13 Rk), idx, alI_q (rk_172 Rk) rfl (by omega) r2, jn_v]
      have fin : ∀ w : Int, (jv (fun (s23 : Int32) => asI 100 Mk (some 211) ((96 : Int32) + iI (k : Int)) s23 fun M24 => lt (iI (k : Int) + (1 : Int32)) fun (x25 : Int32) => go (x25, M24)) (iI w) : XA) = go (iI ((k + 1 : Nat) : Int), sI Mk 211 (96 + k) (iI w)) := fun w => by
        rw [jv_e, show (96 : Int32) + iI (k : Int) = iI (96 + (k : Int)) from adI (x := 96) rfl rfl, asI_e (rk_211 Rk) (by omega) (by omega) (by omega), show (96 + (k : Int)).toNat = 96 + k by omega]
        exact ltI_q (z := ((k + 1 : Nat) : Int)) (cvI (adI rfl li_1) (by omega))
      by_cases y : R.1 2 2 (k : Int) = 2
      · rw [if_pos (eqI_p rfl (show (2 : Int32) = iI 2 from rfl) y), gtP_q k160 (rf_15 Rk), alI_q (rk_174 Rk) rfl (by omega) r4, if_pos y]
        exact fin _
      · have b2 : R.1 2 2 (k : Int) ≠ 2 := y
        rw [if_neg y]
        by_cases y3 : iI (R.1 2 2 (k : Int)) = 2
        · have := (hb k (by omega) (by omega)).1
          exact absurd (iI_in (y := 2) y3 (by omega) (by omega)) y
        · rw [if_neg y3, li_0]
          exact fin _
  · obtain ⟨i1, Mk⟩ := s
    obtain ⟨g1, g2, g3, -⟩ := hI
    dsimp only at g1 g2 g3
    subst g1
    have Rk : RT Mk := ⟨fun q z => by rw [congrArg (fun z => z.2.2) g2]; exact hR.1 q z, fun q z => by rw [congrArg (fun z => z.2.1) g2]; exact hR.2 q z⟩
    have hk : RR Mk p R := h.i2 g2 fun a j z1 z2 => g3 a j (by omega)
    have r0 : Mk.1 169 p.toNat = iI (R.1 2 0 0) := by have := hk.1 (169, 1, 2, 0) (by decide) 0 (by decide) (by decide); rw [show (1 : Int) * p + 0 = p by omega] at this; exact this
    unfold c235_114
    dsimp only
    rw [if_neg (show ¬ iI p < 0 from fun z => absurd z (ltI_n0 hp)), gtP_q (rk_160 Rk) (rf_10 Rk), alI_q (rk_169 Rk) rfl (by omega) r0, if_pos (leI_p rfl rfl (by omega))]
end S9c2
