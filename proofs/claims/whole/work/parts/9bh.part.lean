/-! the reference's machine: doesFail() -/
/-- what is told of a code that has ended -/
def zRN (u : ZS) (r : Int) (M : Mem) : Prop := (u.1 1 0 0 = 2 ∧ r = 0 ∧ M.1 160 85 = iI 0) ∨ ((u.1 1 0 0 = 4 ∨ u.1 1 0 0 = 8) ∧ r = 1 ∧ M.1 160 85 = iI 0 ∧ M.1 160 88 = u.2 5 0 0 ∧ M.1 160 89 = iI (u.1 13 0 0)) ∨ (u.1 1 0 0 = 5 ∧ r = 1 ∧ M.1 160 85 = iI 1 ∧ M.1 160 88 = u.2 5 0 0 ∧ M.1 160 89 = iI (u.1 13 0 0)) ∨ (u.1 1 0 0 = 6 ∧ r = 1 ∧ M.1 160 85 = iI 1 ∧ M.1 160 84 = iI 1)
section S9bh
variable {d : Nat} {e s s' t u A : ZS} {M M' M1 M2 : Mem} {a b j N x y : Nat} {v v1 v2 v3 w : Int32} {c k i n m p o q id key par NN D r B en : Int} {R : Int → RG} {G : RG} {L : Int → Int} {Y : Nat → Int → Int}
theorem rr252 (hd : 61 ≤ d) (hT : zET e) (hl : zEl e) (h8 : zE8 e) (hZ : zZ e) (hE : zRE e R L M) (hG : zRG e s M) (h0 : s.1 0 0 0 = 0) (hm : s.1 1 0 0 = 0) (hK : zKn e (zbeg s en par)) (h73 : M.1 160 73 = iI par) (h85 : M.1 160 85 = iI 0) (hP : ∀ k, 0 ≤ k → k < par → M.1 213 k.toNat = s.2 0 0 k) (hv : v1 = iI en) (hv2 : v2 = iI par) : ∃ M' r u, runX d 252 [va_rf (some 160), .int v1, .int v2] M = some (.int (iI r), M') ∧ zRq e u M M' ∧ zto e (zbeg s en par) u ∧ zend u ∧ zRG e u M' ∧ zRN u r M' := by
  obtain ⟨d, rfl⟩ : ∃ e, d = e + 1 := ⟨d - 1, by omega⟩
  subst hv; subst hv2
  have k := rk_160 hG.1
  obtain ⟨Mc, hMc⟩ : ∃ X, X = sI (sI (sI M 160 86 (iI 0)) 160 87 (iI 0)) 160 76 (iI 0) := ⟨_, rfl⟩
  have w : zRw M Mc := by rw [hMc]; exact ((zRw.r.sI (by decide)).sI (by decide)).sI (by decide)
  have kc : Mc.2.2.2[160]? = some (13, 157) := by rw [hMc]; exact k
  obtain ⟨v0, v1', v2', v3', v4', v5', v6', v7'⟩ := zent_v (s := s) (c := en) (m := par) (st := -1) (sb := 0)
  rw [h0] at v0 v2' v3' v4' v5' v6' v7'
  obtain ⟨u, hu⟩ : ∃ u, u = zbeg s en par := ⟨_, rfl⟩
  have hu' : u = zent s en (-1) 0 par := hu
  rw [← hu'] at v0 v1' v2' v3' v4' v5' v6' v7'
  rw [← hu] at hK ⊢
  have hI : zRI e u Mc 0 par := by
    refine ⟨⟨v0, v1'.trans hm, v3', v4', v7'⟩, hG.ff w (by rw [hu']; exact zent_G), fun i p q => by omega, ⟨?_, ?_, ?_, ?_⟩, fun k p q => ?_⟩
    · rw [hMc]; exact sI_eq
    · rw [v6', hMc]
      exact (sI_nej (by decide)).trans ((sI_nej (by decide)).trans ((sI_nej (by decide)).trans (h73.trans (congrArg iI (by omega)))))
    · rw [w.2 _ _ (by decide)]; exact h85
    · rw [hMc]; exact (sI_nej (by decide)).trans ((sI_nej (by decide)).trans sI_eq)
    · rw [v6', show (0 : Int) + k = k by omega, hMc]
      refine ((sI_ne (by decide)).trans ((sI_ne (by decide)).trans (sI_ne (by decide)))).trans ((hP k p q).trans ?_)
      rw [hu']; rfl
  have u9 := hK.2.1.1
  have l20 := hl.1
  have hD : zRD e R L ((1001 : Nat) - 1 : Int) := zRD_all hT hl h8 hZ 1001
  obtain ⟨r, M2, z1, t, z2, z3, z4⟩ := hD d u Mc 0 par (iI en) (iI par) (by omega) (by omega) (by omega) (by omega) (hE.ro w.ro) hK hI (by rw [v2']) rfl
  have k2 : M2.2.2.2[160]? = some (13, 157) := by rw [congrArg (fun z => z.2.2) z3.1]; exact kc
  have fq := z3.pre w.ro
  have head : ∀ x : Int, (x = 0 ∨ x = 1) → M2.1 160 86 = iI x → runX (d + 1) 252 [va_rf (some 160), .int (iI en), .int (iI par)] M = some (.int (iI x), M2) := fun x hx h86 => by
    rw [r252]; unfold b252; rw [aR_e, aI_e, aI_e, aZ_e]; unfold c252
    rw [ptZ_q (z := 0) k li_0 (by omega), ptZ_q (M := sI M 160 86 (iI 0)) (z := 0) k li_0 (by omega), ptI_q (M := sI (sI M 160 86 (iI 0)) 160 87 (iI 0)) (z := 0) k li_0, ← hMc, vC_e kc, cI_e z1, gtI_q k2 h86]
    exact rtZ_q rfl (by omega)
  rcases z4 with ⟨⟨c1, c2, c3, c4⟩, c5, c6, ⟨c7, c8, c9⟩, c10⟩ | ⟨c1, c2, c3, c4, c5, c6⟩
  · have e5 : t.1 5 0 0 < 0 := by rw [c3, v5']; decide
    rcases c10 with ⟨d1, d2, d3⟩ | ⟨d1, d2, d3, d4, d5⟩
    · exact ⟨M2, 0, t, head 0 (Or.inl rfl) d2, fq, z2, Or.inr (Or.inr ⟨c1, e5, Or.inl d1⟩), c5, Or.inl ⟨d1, rfl, c9⟩⟩
    · exact ⟨M2, 1, t, head 1 (Or.inr rfl) d2, fq, z2, Or.inr (Or.inr ⟨c1, e5, Or.inr d1⟩), c5, Or.inr (Or.inl ⟨d1, rfl, c9, d4, d5⟩)⟩
  · rcases c1 with c1 | c1
    · exact ⟨M2, 1, t, head 1 (Or.inr rfl) c4, fq, z2, Or.inl c1, c2, Or.inr (Or.inr (Or.inl ⟨c1, rfl, c3, (c5 c1).1, (c5 c1).2⟩))⟩
    · exact ⟨M2, 1, t, head 1 (Or.inr rfl) c4, fq, z2, Or.inr (Or.inl c1), c2, Or.inr (Or.inr (Or.inr ⟨c1, rfl, c3, c6 c1⟩))⟩
end S9bh
