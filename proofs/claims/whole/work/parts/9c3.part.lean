/-! a run begins: the reference, all of it -/
section S9c3
variable {d : Nat} {M M' M1 M2 : Mem} {a b j N x y : Nat} {v v1 v2 w : Int32} {c t k i n p o q id p0 p1 fr u m : Int} {R0 R1 R : RG} {L : Int → Int} {g : PG}
theorem zr235_12 (hd : 1 ≤ d) (hR : RT M) (h : RR M p0 R0) (h1 : fr = 1 → RR M p1 R1) (hp : 0 ≤ p0 ∧ p0 ≤ 7) (hp1 : 0 ≤ p1 ∧ p1 ≤ 7) (hn : 0 ≤ R0.1 1 0 0 ∧ R0.1 1 0 0 ≤ 8) (hn1 : fr = 1 → 0 ≤ R1.1 1 0 0 ∧ R1.1 1 0 0 ≤ 8) (hf : fr = 0 ∨ fr = 1) (hL0 : fr = 0 → ∀ u, L u = -1) (hL1 : fr = 1 → ∀ u, 0 ≤ u → u < R0.1 1 0 0 → LcF (R1.2 1) (R1.1 1 0 0) (R0.2 1 u) (L u)) (hv : v1 = iI p0) (hw : v2 = iI (if fr = 1 then p1 else -1)) {K : Mem → XA} : ∃ M', lp (c235_12 (runX d) (some 160) v1 v2 K) 4294967296 ((0 : Int32), M) = K M' ∧ M'.2 = M.2 ∧ (∀ a j, a ≠ 209 → M'.1 a j = M.1 a j) ∧ ∀ u, 0 ≤ u → u < R0.1 1 0 0 → M'.1 209 u.toNat = iI (L u) := by
  subst hv; subst hw
  refine lp_use (body := c235_12 (runX d) (some 160) (iI p0) (iI (if fr = 1 then p1 else -1)) K) (R := fun s => K s.2) (R0.1 1 0 0).toNat (fun k s => s.1 = iI (k : Int) ∧ s.2.2 = M.2 ∧ (∀ a j, a ≠ 209 → s.2.1 a j = M.1 a j) ∧ ∀ u : Int, 0 ≤ u → u < k → s.2.1 209 u.toNat = iI (L u)) ((0 : Int32), M) 4294967296 (by omega) ⟨li_0, rfl, fun _ _ _ => rfl, fun m a b => by omega⟩ (fun s' h1 h2 => ?_) (fun k s hk' hI => ?_) (fun s hI go => ?_)
  · obtain ⟨g1, g2, g3, g4⟩ := h1
    exact ⟨s'.2, h2, g2, g3, fun m a b => g4 m a (by omega)⟩
  · obtain ⟨i1, Mk⟩ := s
    obtain ⟨g1, g2, g3, g4⟩ := hI
    dsimp only at g1 g2 g3 g4
    subst g1
    have Rk : RT Mk := ⟨fun q z => by rw [congrArg (fun z => z.2.2) g2]; exact hR.1 q z, fun q z => by rw [congrArg (fun z => z.2.1) g2]; exact hR.2 q z⟩
    have hk : RR Mk p0 R0 := ⟨fun q z j a b => by
      have l : ∀ z, z ∈ rTI → z.1 ≠ 209 := by decide
      rw [g3 _ _ (l q z)]; exact h.1 q z j a b, fun q z j a b => by rw [congrArg (fun z => z.1) g2]; exact h.2 q z j a b⟩
    have hk1 : fr = 1 → RR Mk p1 R1 := fun y => ⟨fun q z j a b => by
      have l : ∀ z, z ∈ rTI → z.1 ≠ 209 := by decide
      rw [g3 _ _ (l q z)]; exact (h1 y).1 q z j a b, fun q z j a b => by rw [congrArg (fun z => z.1) g2]; exact (h1 y).2 q z j a b⟩
    have k160 := rk_160 Rk
    have r0 : Mk.1 162 p0.toNat = iI (R0.1 1 0 0) := by have := hk.1 (162, 1, 1, 0) (by decide) 0 (by decide) (by decide); rw [show (1 : Int) * p0 + 0 = p0 by omega] at this; exact this
    have rx : Mk.2.1 163 (8 * p0 + (k : Int)).toNat = R0.2 1 k := hk.2 (163, 8, 1) (by decide) k (by omega) (show (k : Int) < 8 by omega)
    have idx : (8 : Int32) * iI p0 + iI (k : Int) = iI (8 * p0 + (k : Int)) := adI (mlI (x := 8) rfl rfl) rfl
    refine ⟨(iI ((k + 1 : Nat) : Int), sI Mk 209 k (iI (L k))), ⟨rfl, g2, fun a j z => (sI_ne z).trans (g3 a j z), fun m a b => ?_⟩, fun go => ?_⟩
    · dsimp only
      by_cases y : m = (k : Int)
      · rw [y]; exact sI_eq
      · exact (sI_nej (by omega)).trans (g4 m a (by omega))
    · unfold c235_12
      dsimp only
      rw [gtP_q k160 (rf_3 Rk), alI_q (rk_162 Rk) rfl (by omega) r0, if_neg (leI_n rfl rfl (by omega)), gtP_q k160 (rf_68 Rk), jn_v]
      have fin : ∀ w : Int, (jv (fun (s32 : Int32 × Mem) => asI 100 s32.2 (some 209) (iI (k : Int)) s32.1 fun M33 => lt (iI (k : Int) + (1 : Int32)) fun (x34 : Int32) => go (x34, M33)) (iI w, Mk) : XA) = go (iI ((k + 1 : Nat) : Int), sI Mk 209 k (iI w)) := fun w => by
        rw [jv_e, asI_e (rk_209 Rk) (by omega) (by omega) (by omega)]
        exact ltI_q (z := ((k + 1 : Nat) : Int)) (cvI (adI rfl li_1) (by omega))
      rcases hf with y | y
      · rw [if_neg (by omega : ¬ fr = 1), if_neg (leI_n li_0 rfl (by omega)), show (-1 : Int32) = iI (-1) from rfl, fin, hL0 y]
      · rw [if_pos y, if_pos (leI_p li_0 rfl (by omega)), gtP_q k160 (rf_4 Rk), idx, alL_q (rk_163 Rk) rfl (by omega) rx, vC_e k160]
        obtain ⟨v', M', z1, r, z2, z3, z4⟩ := a227 (y := R0.2 1 k) (v1 := iI p1) (d := d) hd Rk (hk1 y) rfl hp1 (hn1 y)
        rw [z2, z3] at z1
        rw [cI_e z1, z4.one (hL1 y k (by omega) (by omega)), fin]
  · obtain ⟨i1, Mk⟩ := s
    obtain ⟨g1, g2, g3, -⟩ := hI
    dsimp only at g1 g2 g3
    subst g1
    have Rk : RT Mk := ⟨fun q z => by rw [congrArg (fun z => z.2.2) g2]; exact hR.1 q z, fun q z => by rw [congrArg (fun z => z.2.1) g2]; exact hR.2 q z⟩
    have hk : RR Mk p0 R0 := ⟨fun q z j a b => by
      have l : ∀ z, z ∈ rTI → z.1 ≠ 209 := by decide
      rw [g3 _ _ (l q z)]; exact h.1 q z j a b, fun q z j a b => by rw [congrArg (fun z => z.1) g2]; exact h.2 q z j a b⟩
    have r0 : Mk.1 162 p0.toNat = iI (R0.1 1 0 0) := by have := hk.1 (162, 1, 1, 0) (by decide) 0 (by decide) (by decide); rw [show (1 : Int) * p0 + 0 = p0 by omega] at this; exact this
    unfold c235_12
    dsimp only
    rw [gtP_q (rk_160 Rk) (rf_3 Rk), alI_q (rk_162 Rk) rfl (by omega) r0, if_pos (leI_p rfl rfl (by omega))]
theorem zr235 (hd : 2 ≤ d) (hR : RT M) (h : RR M p0 R0) (h1 : fr = 1 → RR M p1 R1) (hp : 0 ≤ p0 ∧ p0 ≤ 7) (hp1 : 0 ≤ p1 ∧ p1 ≤ 7) (hn : 0 ≤ R0.1 1 0 0 ∧ R0.1 1 0 0 ≤ 8) (hm : 0 ≤ R0.1 2 0 0 ∧ R0.1 2 0 0 ≤ 96) (hb : zRb R0) (hn1 : fr = 1 → (0 ≤ R1.1 1 0 0 ∧ R1.1 1 0 0 ≤ 8) ∧ (0 ≤ R1.1 2 0 0 ∧ R1.1 2 0 0 ≤ 96) ∧ zRb R1) (hf : fr = 0 ∨ fr = 1) (hL0 : fr = 0 → ∀ u, L u = -1) (hL1 : fr = 1 → ∀ u, 0 ≤ u → u < R0.1 1 0 0 → LcF (R1.2 1) (R1.1 1 0 0) (R0.2 1 u) (L u)) (hv : v1 = iI p0) (hw : v2 = iI (if fr = 1 then p1 else -1)) : ∃ M', runX d 235 [va_rf (some 160), .int v1, .int v2] M = some (.null, M') ∧ M'.2 = M.2 ∧ (∀ a j, ¬ Zma a j → M'.1 a j = M.1 a j) ∧ (M'.1 160 66 = iI p0 ∧ M'.1 160 67 = iI (if fr = 1 then p1 else -1)) ∧ (∀ u, 0 ≤ u → u < R0.1 1 0 0 → M'.1 209 u.toNat = iI (L u)) ∧ (∀ m, 0 ≤ m → m < R0.1 2 0 0 → M'.1 211 m.toNat = iI (if R0.1 2 2 m = 2 then R0.1 2 4 m else 0)) ∧ (fr = 1 → ∀ m, 0 ≤ m → m < R1.1 2 0 0 → M'.1 211 (96 + m).toNat = iI (if R1.1 2 2 m = 2 then R1.1 2 4 m else 0)) := by
  obtain ⟨d, rfl⟩ : ∃ e, d = e + 1 := ⟨d - 1, by omega⟩
  have k160 := rk_160 hR
  obtain ⟨Ma, hMa⟩ : ∃ z, z = sI (sI M 160 66 v1) 160 67 v2 := ⟨_, rfl⟩
  have a2 : Ma.2 = M.2 := by rw [hMa]; rfl
  have af : ∀ a j, a ≠ 160 → Ma.1 a j = M.1 a j := fun a j z => by rw [hMa]; exact (sI_ne z).trans (sI_ne z)
  have Ra : RT Ma := ⟨fun q z => by rw [congrArg (fun z => z.2.2) a2]; exact hR.1 q z, fun q z => by rw [congrArg (fun z => z.2.1) a2]; exact hR.2 q z⟩
  obtain ⟨Mb, b1, b2, b3, b4⟩ := zr235_12 (d := d) (M := Ma) (p1 := p1) (R1 := R1) (L := L) (v1 := v1) (v2 := v2) (K := jv fun s3 => jn (fun (s4 : Mem) => jn (fun (s5 : Mem) => some (.null, s5)) fun j173 => lp (c235_114 (runX d) (some 160) v2 j173) 4294967296 ((0 : Int32), s4)) fun j112 => lp (c235_60 (runX d) (some 160) v1 j112) 4294967296 ((0 : Int32), s3)) (by omega) Ra (h.i2 a2 fun a j z _ => af a j (by omega)) (fun y => (h1 y).i2 a2 fun a j z _ => af a j (by omega)) hp hp1 hn (fun y => (hn1 y).1) hf hL0 hL1 hv hw
  have Rb : RT Mb := ⟨fun q z => by rw [congrArg (fun z => z.2.2) b2]; exact Ra.1 q z, fun q z => by rw [congrArg (fun z => z.2.1) b2]; exact Ra.2 q z⟩
  have b2' := b2.trans a2
  have bf : ∀ a j, a ≠ 160 → a ≠ 209 → Mb.1 a j = M.1 a j := fun a j z1 z2 => (b3 a j z2).trans (af a j z1)
  obtain ⟨Mc, c1, c2, c3, c4⟩ := zr235_60 (d := d) (M := Mb) (v := v1) (K := jv fun s4 => jn (fun (s5 : Mem) => some (.null, s5)) fun j173 => lp (c235_114 (runX d) (some 160) v2 j173) 4294967296 ((0 : Int32), s4)) Rb (h.i2 b2' fun a j z z2 => bf a j (by omega) (by omega)) hp hm hb hv
  have Rc : RT Mc := ⟨fun q z => by rw [congrArg (fun z => z.2.2) c2]; exact Rb.1 q z, fun q z => by rw [congrArg (fun z => z.2.1) c2]; exact Rb.2 q z⟩
  have c2' := c2.trans b2'
  have cf : ∀ a j, a ≠ 160 → a ≠ 209 → a ≠ 211 → Mc.1 a j = M.1 a j := fun a j z1 z2 z3 => (c3 a j (by omega)).trans (bf a j z1 z2)
  have go : runX (d + 1) 235 [va_rf (some 160), .int v1, .int v2] M = lp (c235_114 (runX d) (some 160) v2 (jv fun s5 => some (.null, s5))) 4294967296 ((0 : Int32), Mc) := by
    rw [r235]; unfold b235; rw [aR_e, aI_e, aI_e, aZ_e]; unfold c235
    rw [ptI_e k160, ptI_e (M := sI M 160 66 v1) k160, ← hMa, jn_v, b1, jv_e, jn_v, c1, jv_e, jn_v]
  have t66 : Ma.1 160 66 = iI p0 := by rw [hMa]; exact (sI_nej (by decide)).trans (sI_eq.trans hv)
  have t67 : Ma.1 160 67 = iI (if fr = 1 then p1 else -1) := by rw [hMa]; exact sI_eq.trans hw
  have zma : ∀ a j, ¬ Zma a j → Ma.1 a j = M.1 a j ∧ a ≠ 209 ∧ a ≠ 211 := fun a j z => by
    unfold Zma at z
    refine ⟨?_, by omega, by omega⟩
    rw [hMa]
    by_cases y : a = 160
    · subst y
      exact (sI_nej (by omega)).trans (sI_nej (by omega))
    · exact (sI_ne y).trans (sI_ne y)
  rw [go]
  rcases hf with y | y
  · have hw' : v2 = iI (-1) := by rw [hw, if_neg (by omega)]
    refine ⟨Mc, ?_, c2', fun a j z => ?_, ⟨?_, ?_⟩, fun u x1 x2 => ?_, c4, fun z => by omega⟩
    · rw [show (4294967296 : Nat) = 4294967295 + 1 from rfl, lp_e]
      unfold c235_114
      dsimp only
      rw [if_pos (lsI_p hw' li_0 (by decide)), jv_e]
    · obtain ⟨z1, z2, z3⟩ := zma a j z
      exact (c3 a j (by omega)).trans ((b3 a j z2).trans z1)
    · exact (c3 _ _ (by decide)).trans ((b3 _ _ (by decide)).trans t66)
    · exact (c3 _ _ (by decide)).trans ((b3 _ _ (by decide)).trans t67)
    · exact (c3 _ _ (by omega)).trans (b4 u x1 x2)
  · have hw' : v2 = iI p1 := by rw [hw, if_pos y]
    obtain ⟨n1, n2, n3⟩ := hn1 y
    obtain ⟨Md, d1, d2, d3, d4⟩ := zr235_114 (d := d) (M := Mc) (v := v2) (K := jv fun s5 => some (.null, s5)) Rc ((h1 y).i2 c2' fun a j z z2 => cf a j (by omega) (by omega) (by omega)) hp1 n2 n3 hw'
    refine ⟨Md, by rw [d1, jv_e], d2.trans c2', fun a j z => ?_, ⟨?_, ?_⟩, fun u x1 x2 => ?_, fun m x1 x2 => ?_, fun _ => d4⟩
    · obtain ⟨z1, z2, z3⟩ := zma a j z
      exact (d3 a j (by omega)).trans ((c3 a j (by omega)).trans ((b3 a j z2).trans z1))
    · exact (d3 _ _ (by decide)).trans ((c3 _ _ (by decide)).trans ((b3 _ _ (by decide)).trans t66))
    · exact (d3 _ _ (by decide)).trans ((c3 _ _ (by decide)).trans ((b3 _ _ (by decide)).trans t67))
    · exact (d3 _ _ (by omega)).trans ((c3 _ _ (by omega)).trans (b4 u x1 x2))
    · exact (d3 _ _ (by omega)).trans (c4 m x1 x2)
end S9c3
