/-! parcel(), both: a parcel is kept -/
/-- cells that parcel() changes in the class -/
def Zpw (ow : Nat → Int) (a j : Nat) : Prop := Zrd a j ∨ (a = 66 ∧ j = 1) ∨ a = 87 ∨ (259 ≤ a ∧ ow a = 1)
section S9el
variable {dl d LL N TT ex x : Nat} {T : Int → Int} {n p i e k s0 : Int} {M M' M0 M2 Mc Mr : Mem} {xs : Nat → Int32} {G : Nat → Int → Int} {R : RG} {H : HG} {Z Z' : Nat → Nat → Prop} {ow : Nat → Int} {v1 : Int32} {o : HO}
theorem FG.cut (h : FG (fun a j => Z a j ∨ ln M ≤ a) M M') : FG Z M M' := ⟨h.1, h.2.1, fun a j l z => h.2.2 a j l fun w => w.elim z fun y => by omega⟩
theorem hEF_cl {k f : Nat} {j : Int} (h : f ≠ 8) : hEF (sCl (wOw H ow) n) k f j = hEF H k f j := if_neg fun z => h z.2.1
theorem HRC.cl8 (h : HRC G e H R k) : HRC G e (sCl (wOw H ow) n) R k := by
  obtain ⟨h1, h2, h3, h4, h5, h6, h7⟩ := h
  have eU : ∀ f j tt, f ≠ 8 → enU (sCl (wOw H ow) n) k f tt j = enU H k f tt j := fun f j tt z => by
    unfold enU
    rw [hEF_cl z]
  refine ⟨h1, h2, fun j a b => ?_, fun i a b => ?_, fun i a b => ?_, fun i a b => ?_, h7⟩
  · obtain ⟨u1, u2, u3, u4, u5, u6, u7⟩ := h3 j a b
    unfold UnK UnW
    simp only [hEF_cl (H := H) (ow := ow) (n := n) (show (5 : Nat) ≠ 8 by decide), hEF_cl (H := H) (ow := ow) (n := n) (show (1 : Nat) ≠ 8 by decide), hEF_cl (H := H) (ow := ow) (n := n) (show (3 : Nat) ≠ 8 by decide), hEF_cl (H := H) (ow := ow) (n := n) (show (7 : Nat) ≠ 8 by decide), hEF_cl (H := H) (ow := ow) (n := n) (show (9 : Nat) ≠ 8 by decide), eU 2 _ _ (by decide), eU 4 _ _ (by decide)]
    exact ⟨u1, u2, u3, u4, u5, u6, u7⟩
  · obtain ⟨u1, u2, u3⟩ := h4 i a b
    exact ⟨u1, fun f y z => (hEF_cl (by omega)).trans (u2 f y z), u3⟩
  · obtain ⟨u1, ⟨t1, t2, t3, t4, t5⟩, u3⟩ := h5 i a b
    exact ⟨u1, ⟨(hEF_cl (by decide)).trans t1, (hEF_cl (by decide)).trans t2, (hEF_cl (by decide)).trans t3, (hEF_cl (by decide)).trans t4, (hEF_cl (by decide)).trans t5⟩, u3⟩
  · obtain ⟨u1, ⟨t1, t2, t3⟩, u3⟩ := h6 i a b
    exact ⟨u1, ⟨(hEF_cl (by decide)).trans t1, (hEF_cl (by decide)).trans t2, (hEF_cl (by decide)).trans t3⟩, u3⟩
theorem zPK.cl8 (h : zPK G R H e) : zPK G R (sCl (wOw H ow) n) e := ⟨h.1.cl8, h.2⟩
theorem zPc_cl (hn : n = hEN H 2) : zPc (sCl (wOw H ow) n) := fun j a b => by
  have e1 : ∀ f, f ≠ 8 → hEF (sCl (wOw H ow) n) 2 f = hEF (wOw H ow) 2 f := fun f z => funext fun j => if_neg fun y => z y.2.1
  rw [e1 2 (by decide), e1 4 (by decide)]
  exact if_pos ⟨rfl, rfl, a, by rw [hn]; exact b⟩
theorem nw_ob : ObF (nw M 6 18) (ln M) (fun _ => 0) (fun _ => none) := ⟨nw_kd, fun f => nw_i.trans li_0.symm, fun f => nw_p⟩
/-- the object and its rows, in the class -/
theorem kp_new (hd : 13 ≤ d) (hC : CT M) (hO : OldOK LL xs M) (h259 : 259 ≤ ln M) (hH : HS N TT ex M H) (h9 : M.1 65 9 = iI e) (hA : CA1 M G e) (hM : CMK M G e) (hz : zPK G R H e) (hv : v1 = iI p) : ∃ M', runX d 50 [va_rf (some (ln M)), va_rf (some 65), .int v1] (nw M 6 18) = some (.null, M') ∧ FG (fun a _ => N ≤ a) M M' ∧ (∃ H', HS N TT (ex + 702) M' H') ∧ ln M' = ln M + 18 ∧ PkP (G, sCl (wOw H (owx (hOw H) (ln M) 0)) (hEN H 2), R, e, ln M, N) ∧ PkC p (G, sCl (wOw H (owx (hOw H) (ln M) 0)) (hEN H 2), R, e, ln M, N) M' ∧ (∀ j : Int, 0 ≤ j → j < R.1 3 0 0 → M'.1 (ln M + 6) j.toNat = iI j) ∧ M'.1 (ln M) 13 = iI 0 ∧ M'.1 (ln M) 16 = iI 0 ∧ M'.2.2.1 (ln M) 14 = some (ln M + 16) ∧ M'.2.2.1 (ln M) 15 = some (ln M + 17) := by
  subst hv
  have hc := hz.1
  have hN := hH.1.1
  have e3 : hEN H 3 = R.1 3 0 0 := hc.1.2.2.2.1
  have n3 := hz.n3
  obtain ⟨x, hx⟩ : ∃ x, x = ln M := ⟨_, rfl⟩
  obtain ⟨X, hX⟩ : ∃ X, X = nw M 6 18 := ⟨_, rfl⟩
  have fX : Fo (fun _ => False) 1 18 M X := by rw [hX]; exact Fo.nw
  have gX1 := fX.fgx h259
  have lX : ln X = x + 1 := by rw [hX, nw_ln, hx]
  have oX : ObF X x (fun _ => 0) (fun _ => none) := by rw [hX, hx]; exact nw_ob
  have hX2 : HS N TT (ex + 2) X (wOw H (owx (hOw H) x 0)) := by rw [hX, hx]; exact hH.new
  have cX : CT X := hC.fg gX1 fun _ _ _ _ z => z
  have pX : OldOK LL xs X := hO.fg gX1 fun _ _ _ z => z
  have iX : ∀ c j, c < 259 → X.1 c j = M.1 c j := fun c j l => gX1.i (Nat.lt_of_lt_of_le l h259) fun z => z
  have hs2 : ∀ j, 0 ≤ j → j < hEN (wOw H (owx (hOw H) x 0)) 2 → 0 ≤ hEF (wOw H (owx (hOw H) x 0)) 2 2 j ∧ hEF (wOw H (owx (hOw H) x 0)) 2 2 j ≤ 4 := fun j a b => by
    obtain ⟨-, f5, -, y1, -⟩ := hc.2.2.2.1 j a b
    have := f5 2 (by decide) (by decide)
    show 0 ≤ hEF H 2 2 j ∧ hEF H 2 2 j ≤ 4
    rw [this]; exact y1
  obtain ⟨M', k1, k2, k3, k4, k5, k6, k7, k8, k9⟩ := kp50 (d := d) (M := X) (x := x) (v := iI p) (G := G) (e := e) hd cX pX hX2 lX (by omega) oX (if_pos (Nat.le_refl _)) (by have := hz.2.1; omega) hz.ob ((iX 65 9 (by decide)).trans h9) (fun j a b => by
    obtain ⟨t1, t2, t3⟩ := hA j a b
    exact ⟨(iX 72 _ (by decide)).trans t1, (iX 73 _ (by decide)).trans t2, (iX 74 _ (by decide)).trans t3⟩) (fun j a b => (iX 75 _ (by decide)).trans (hM j a b)) hs2 (by show 0 ≤ hEN H 3 ∧ hEN H 3 ≤ 16; omega)
  have en2 : hEN (wOw H (owx (hOw H) x 0)) 2 = hEN H 2 := rfl
  rw [en2] at k2 k4
  have g2 : FG (fun a _ => N ≤ a) X M' := by
    have f := k2.fgx (by omega)
    refine f.m fun a j z => ?_
    rcases z with z | ⟨j, a1, a2, z⟩
    · omega
    · have hnz : hOw (wOw H (owx (hOw H) x 0)) (hEC H 2 j) ≠ 0 := by
        have := (hX2.2.2.1 2 (by decide) (by decide) j a1 a2).1.2.1
        rw [show hEC H 2 j = hEC (wOw H (owx (hOw H) x 0)) 2 j from rfl, this]
        omega
      rw [z]
      exact hX2.ge hnz
  rw [← hx, ← hX]
  have rv : ∀ a, hOw (sCl (wOw H (owx (hOw H) x 0)) (hEN H 2)) a ≠ 0 → a < x := fun a z => owx_0 z
  obtain ⟨p1, p2, p3⟩ := k4.pk rv
  have gpk : gmc (G, sCl (wOw H (owx (hOw H) x 0)) (hEN H 2), R, e, x, N) = mcn G e.toNat := rfl
  have e3' : hEN (wOw H (owx (hOw H) x 0)) 3 = R.1 3 0 0 := e3
  rw [e3'] at k6 k7
  obtain ⟨o1, o2, o3⟩ := k5
  refine ⟨M', k1, (gX1.m fun _ _ z => z.elim).tr g2, ⟨_, k4⟩, by omega, ⟨hz.cl8, zPc_cl rfl, hN.1, by show N ≤ x; omega⟩, ⟨⟨⟨o1, (o2 0).trans rfl, (o2 5).trans rfl⟩, fun k a b => ?_, ⟨(o3 6).trans rfl, (o3 7).trans rfl, (o3 8).trans rfl⟩, (o3 9).trans rfl, (o3 10).trans rfl, (o3 11).trans rfl, (o3 12).trans rfl⟩, k6, ⟨k7.1, k8, k9⟩, p1, p2, p3⟩, fun j a b => ?_, (o2 13).trans li_0, (o2 16).trans li_0, (o3 14).trans rfl, (o3 15).trans rfl⟩
  · have c4 : k = 1 ∨ k = 2 ∨ k = 3 ∨ k = 4 := by omega
    rcases c4 with rfl | rfl | rfl | rfl
    · exact (o3 1).trans rfl
    · exact (o3 2).trans rfl
    · exact (o3 3).trans rfl
    · exact (o3 4).trans rfl
  · have := k7.2 j.toNat (by omega)
    rw [this]
    exact congrArg iI (by omega)
end S9el
