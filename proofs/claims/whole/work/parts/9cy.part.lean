/-! a prop is tried, both -/
def Zhc (o : HO) (a j : Nat) : Prop := ZM o 0 0 a j ∨ (a = 146 ∧ (j = 4 ∨ j = 5))
def Zhr (a j : Nat) : Prop := ZR 0 0 a j ∨ (a = 160 ∧ j = 136)
/-- numbers stand where parameters do -/
def zpm (s : ZS) (tv : Int → Int32) : ZS := (s.1, fun k i j => if k = 0 then tv j else s.2 k i j)
section S9cy
variable {d dl : Nat} {e s s' u hs : ZS} {κ : ZK} {R : Int → RG} {L : Int → Int} {o : HO} {v : VR} {q : QN} {M M' M1 M2 Mc Mr Mc' Mr' : Mem} {LL a j x N bs n kd sw : Nat} {xs : Nat → Int32} {ow : Nat → Int} {c p i nc k t b sl al lu mc wk en par tr : Int} {w v1 v2 : Int32} {Z Z' : Nat → Nat → Prop} {tv : Int → Int32}
/-- a code makes a STEP at least, if there is WORK -/
theorem zEx.dec (h : zEx e s en par u) (h1 : s.1 1 0 0 = 0) (h9 : s.1 9 0 0 ≠ 0) (h6 : u.1 1 0 0 ≠ 6) : u.1 12 0 0 < s.1 12 0 0 := by
  obtain ⟨⟨k, hk⟩, he⟩ := h
  obtain ⟨t, ht⟩ : ∃ t, t = zbeg s en par := ⟨_, rfl⟩
  rw [← ht] at hk
  have t1 : t.1 1 0 0 = 0 := by rw [ht]; exact h1
  have t9 : t.1 9 0 0 = s.1 9 0 0 := by rw [ht]; rfl
  have t12 : t.1 12 0 0 = s.1 12 0 0 := by rw [ht]; rfl
  have tn : ¬ zend t := by
    have t0 : t.1 0 0 0 = s.1 0 0 0 + 1 := by rw [ht]; exact zi_e
    unfold zend
    omega
  cases k with
  | zero =>
    have : t = u := hk
    rw [← this] at he
    exact absurd he tn
  | succ k =>
    have g : zgoes e t (k + 1) = zgoes e (zstep e t) k := rfl
    rw [g] at hk
    have fx := zgoes_fx (e := e) k (zstep e t)
    rw [hk] at fx
    by_cases y : t.1 12 0 0 = 0
    · have z : zstep e t = zi t 1 0 0 6 := by unfold zstep; rw [if_pos t1, if_neg (by omega), if_pos y]
      have m6 : (zstep e t).1 1 0 0 = 6 := by rw [z]; exact zi_e
      have s6 : ∀ X : ZS, X.1 1 0 0 = 6 → zstep e X = X := fun X h6 => by
        unfold zstep
        rw [if_neg (by omega), if_neg (by omega), if_neg (by omega), if_neg (by omega), if_neg (by omega)]
      have e6 : ∀ k, ∀ X : ZS, X.1 1 0 0 = 6 → zgoes e X k = X := fun k => by
        induction k with
        | zero => exact fun X _ => rfl
        | succ k ih =>
          intro X h6
          show zgoes e (zstep e X) k = X
          rw [s6 X h6]
          exact ih X h6
      rw [e6 k _ m6] at hk
      rw [← hk] at h6
      exact absurd m6 h6
    · have z : (zstep e t).1 12 0 0 ≤ (ztick e t).1 12 0 0 := by
        unfold zstep
        rw [if_pos t1, if_neg (by omega), if_neg y]
        exact zex_fx.2.2.2.2.2.1
      have z2 : (ztick e t).1 12 0 0 = t.1 12 0 0 - 1 := rfl
      have := fx.2.2.2.2.2.1
      omega
theorem zPr.pm (h : zPr LL xs e κ R L s Mc Mr) : zPr LL xs e κ R L (zpm s tv) Mc Mr := ⟨h.1, ⟨h.2.1.1, h.2.1.2.1, h.2.1.2.2⟩, h.2.2.1, h.2.2.2⟩
/-- other writes of the reference -/
theorem zPr.mr2 (h : zPr LL xs e κ R L s Mc Mr) (h2 : Mr'.2 = Mr.2) (f : ∀ a j, ¬ (a = 160 ∧ (j = 73 ∨ j = 136)) → a ≠ 213 → Mr'.1 a j = Mr.1 a j) : zPr LL xs e κ R L s Mc Mr' := ⟨h.1, h.2.1, h.2.2.1.sub h2 fun a j z => f a j (by omega) (by omega), h.2.2.2.sub h2 fun a j z => f a j (by omega) (by omega)⟩
/-- the reference pushes the numbers -/
theorem r288_17 {J : Mem → XA} (hd : 1 ≤ d) (hR : RT M) (hp : 0 ≤ p ∧ p ≤ 7) (hk : 0 ≤ k ∧ k < 6) (hpar : 0 ≤ par ∧ par ≤ 4) (h186 : M.1 186 (6 * p + k).toNat = iI par) (h73 : M.1 160 73 = iI 0) (hT : ∀ j, 0 ≤ j → j < par → M.1 245 j.toNat = tv j) : ∃ M', lp (c288_17 (runX d) (some 160) (iI p) (iI k) J) 4294967296 ((0 : Int32), M) = J M' ∧ M'.2 = M.2 ∧ (∀ a j, ¬ (a = 160 ∧ j = 73) → a ≠ 213 → M'.1 a j = M.1 a j) ∧ M'.1 160 73 = iI par ∧ ∀ j, 0 ≤ j → j < par → M'.1 213 j.toNat = tv j := by
  have l6 : (6 : Int32) = iI 6 := rfl
  refine lp_use (body := c288_17 (runX d) (some 160) (iI p) (iI k) J) (R := fun s => J s.2) par.toNat (fun k s => s.1 = iI (k : Int) ∧ s.2.2 = M.2 ∧ (∀ a j, ¬ (a = 160 ∧ j = 73) → a ≠ 213 → s.2.1 a j = M.1 a j) ∧ s.2.1 160 73 = iI (k : Int) ∧ ∀ q : Int, 0 ≤ q → q < k → s.2.1 213 q.toNat = tv q) ((0 : Int32), M) 4294967296 (by omega) ⟨li_0, rfl, fun _ _ _ _ => rfl, h73, fun q a b => by omega⟩ (fun s' g1 g2 => ?_) (fun k' s hk' hI => ?_) (fun s hI go => ?_)
  · refine ⟨s'.2, g2, g1.2.1, g1.2.2.1, ?_, fun q a b => g1.2.2.2.2 q a (by omega)⟩
    rw [g1.2.2.2.1]
    exact congrArg iI (by omega)
  · obtain ⟨i1, Mk⟩ := s
    obtain ⟨u1, u2, u3, u4, u5⟩ := hI
    dsimp only at u1 u2 u3 u4 u5
    subst u1
    have Rk : RT Mk := hR.keep u2
    refine ⟨(iI ((k' + 1 : Nat) : Int), sI (sI Mk 213 ((k' : Int)).toNat (tv k')) 160 73 (iI ((k' : Int) + 1))), ⟨rfl, u2, fun a j z z2 => ?_, ?_, fun q a b => ?_⟩, fun go => ?_⟩
    · refine Eq.trans ?_ (u3 a j z z2)
      refine Eq.trans ?_ (sI_ne (v := tv k') (j := ((k' : Int)).toNat) z2)
      by_cases y : a = 160
      · exact sI_nej fun w => z ⟨y, w⟩
      · exact sI_ne y
    · exact sI_eq.trans (congrArg iI (by omega))
    · refine (sI_ne (by decide)).trans ?_
      by_cases y : q = (k' : Int)
      · rw [y]; exact sI_eq
      · exact (sI_nej (by omega)).trans (u5 q a (by omega))
    · unfold c288_17
      dsimp only
      rw [gtP_q (rk_160 Rk) (rf_27 Rk), alI_q (n := 48) (z := 6 * p + k) (rk_186 Rk) (adI (mlI l6 rfl) rfl) (by omega) ((u3 _ _ (by omega) (by decide)).trans h186), if_neg (leI_n (y := (k' : Int)) rfl rfl (by omega)), gtP_q (rk_160 Rk) (rf_135 Rk), alI_q (n := 4) (z := (k' : Int)) (w := tv k') (rk_245 Rk) rfl (by omega) ((u3 _ _ (by omega) (by decide)).trans (hT k' (by omega) (by omega))), vC_e (rk_160 Rk), cV_e (mR241 hd Rk u4 (by omega))]
      exact ltI_q (z := ((k' + 1 : Nat) : Int)) (cvI (adI rfl li_1) (by omega))
  · obtain ⟨i1, Mk⟩ := s
    obtain ⟨u1, u2, u3, u4, u5⟩ := hI
    dsimp only at u1 u2 u3 u4 u5
    subst u1
    have Rk : RT Mk := hR.keep u2
    unfold c288_17
    dsimp only
    rw [gtP_q (rk_160 Rk) (rf_27 Rk), alI_q (n := 48) (z := 6 * p + k) (rk_186 Rk) (adI (mlI l6 rfl) rfl) (by omega) ((u3 _ _ (by omega) (by decide)).trans h186), if_pos (leI_p (y := (par.toNat : Int)) rfl rfl (by omega))]
/-- both machines before a prop's code -/
theorem KI.hold (hdl : 6 ≤ dl) (hd : 3 ≤ d) (hP : hoP o) (hp : 0 ≤ p ∧ p < oN o) (hsl : 1 ≤ sl ∧ sl ≤ 1000) (h : KI LL xs o p sl 0 b hs Mc Mr) (h3 : Mc.1 88 3 = iI (-2)) (h90 : Mr.1 160 90 = iI (-1)) (hw : w = iI p) (hq : q = (sl, -1, 0, 0, 0)) : ∃ Mg M2 Rg R2 s, (runX dl 23 [va_rf (some 88)] Mc = some (.null, Mg) ∧ runX dl 24 [va_rf (some 88)] Mg = some (.null, M2)) ∧ (runX d 235 [va_rf (some 160), .int w, .int ((-1 : Int32))] Mr = some (.null, Rg) ∧ runX d 251 [va_rf (some 160)] Rg = some (.null, R2)) ∧ (Fz (ZM o 0 0) Mc Mg ∧ Fz (ZM o 0 0) Mc M2 ∧ Fz (ZR 0 0) Mr Rg ∧ Fz (ZR 0 0) Mr R2) ∧ zPr LL xs (rE o (v1p p) (pf q 0 34000)) (rK o (v1p p) 0) (rR o (v1p p)) (vL (v1p p)) s M2 R2 ∧ (s.1 1 0 0 = 0 ∧ s.1 9 0 0 = sl ∧ s.1 12 0 0 = b ∧ s.1 17 = hs.1 17) ∧ (hoC LL xs o M2 ∧ hoR o R2) ∧ (rvC o (v1p p) (pf q 0 34000) M2 ∧ rvR o (v1p p) (pf q 0 34000) R2) ∧ (M2.1 88 2 = R2.1 160 78 ∧ R2.1 160 77 = iI sl ∧ R2.1 160 84 = iI 0 ∧ R2.1 160 85 = iI 0) := by
  have q1 : q.1 = sl := by rw [hq]
  have q2 : q.2.1 = -1 := by rw [hq]
  have q3 : q.2.2.1 = 0 := by rw [hq]
  have q4 : q.2.2.2.1 = 0 := by rw [hq]
  have q5 : q.2.2.2.2 = 0 := by rw [hq]
  have hqk : qOK o (v1p p) q := ⟨by omega, Or.inl q2, Or.inl q3, Or.inl q4, Or.inl q5⟩
  have hu : rPu o (v1p p) q := rPu.one hP hp hqk
  have hE : rvP o (v1p p) (pf q 0 34000) := hu.env (st := 0) (b := 34000) (by omega) (by omega)
  have hV : zEv (rE o (v1p p) (pf q 0 34000)) := hE.ev
  have hg := hP.2.2.1 p hp.1 hp.2
  obtain ⟨Mg, Rg, g1, g2, g3, g4, g5, g6, g7⟩ := h.beg (dl := dl) (d := d) (w := w) (al := -1) (q := q) (Mc' := Mc) (Mr' := Mr) (by omega) (by omega) hP hp hsl hq hqk (by rw [if_pos (by decide)]; exact (sI_id h3).symm) (sI_id h90).symm hw 0 (by omega) hs ⟨rfl, fun _ _ => rfl⟩ (fun z => absurd z (by decide))
  obtain ⟨s, hs'⟩ : ∃ s, s = zst (rE o (v1p p) (pf q 0 0)) b 0 hs := ⟨_, rfl⟩
  rw [← hs'] at g7
  obtain ⟨⟨i1, i2⟩, ⟨i3, i4⟩, ⟨i5, i6⟩, ⟨i7, i8⟩, ⟨i9, i10, i11, i12, i13, i14⟩, i15⟩ := g7
  have h12 : s.1 12 0 0 = b := by rw [hs']; rfl
  have h17 : s.1 17 = hs.1 17 := by rw [hs']; rfl
  have ch : zCH (rE o (v1p p) (pf q 0 34000)) (rK o (v1p p) 0) s Mg := by
    have i5' := i5
    rw [q3] at i5'
    exact i5'
  have rh : zRH (rE o (v1p p) (pf q 0 34000)) s Rg := i6
  have ps : zPs (rE o (v1p p) (pf q 0 34000)) s := ⟨i9, i10, fun D => i11 D, i12, by omega, i14⟩
  have rc : rvC o (v1p p) (pf q 0 34000) Mg := i3.ct fun z => by omega
  have rr : rvR o (v1p p) (pf q 0 34000) Rg := i4.rt fun z => by omega
  have EC : zCE (rE o (v1p p) (pf q 0 34000)) (rK o (v1p p) 0) Mg := by
    have := ho_E hP hu.2.1 hE i1 rc
    have e2 : pf q 0 34000 2 = 0 := q3
    rw [e2] at this
    exact this
  have ER := ho_R hP hu.2.1 hE i2 rr
  have hk := EC.2.2.2.2.1.k8
  obtain ⟨g10, g11, g12⟩ := i1.1
  have lu0 : ¬ (rE o (v1p p) (pf q 0 34000)).1 10 2 0 = 1 := by
    show ¬ q.2.2.2.2 = 1
    omega
  obtain ⟨M2, x1, x2, x3, x4, x5, x6, x7⟩ := zc24 (d := dl) (M := Mg) (sd := Mg.1 88 2) (by omega) g10 ch hk ps.1.2 rfl (fun z => absurd z lu0)
  obtain ⟨R2, y1, y2, y3, y4, y5, y6, y7⟩ := zr251 (d := d) (M := Rg) (sd := Mg.1 88 2) (by omega) rh i7.symm (i8.trans (by rfl)) (fun z => absurd z lu0)
  have fc : zFl (rK o (v1p p) 0) Mg M2 := x2.l
  have fr : zRl (rE o (v1p p) (pf q 0 34000)) Rg R2 := y2.l
  have fz : Fz (ZM o 0 0) Mc Mg := ⟨g3, fun a j z => g4 a j fun y => z (by unfold ZM; omega)⟩
  have gz : Fz (ZR 0 0) Mr Rg := ⟨g5, fun a j z => g6 a j fun y => z (Zma_R y)⟩
  refine ⟨Mg, M2, Rg, R2, zrs (rE o (v1p p) (pf q 0 34000)) s (Mg.1 88 2), ⟨g1, x1⟩, ⟨g2, y1⟩, ⟨fz, fz.tr (fc.zm.m fun _ _ z => ZM_0 z), gz, gz.tr ((fr.zr (p := p) (k := 0) rfl q3).m fun _ _ z => ZR_0 z)⟩, ⟨ps.bt hV.2.1, ⟨x3, x4, EC.fl fc, g11.fl fc hk⟩, y3, ER.rl fr⟩, ⟨ps.1.2, by rw [← q1]; rfl, h12, ?_⟩, ⟨i1.fl hP hu.2.1 fc, i2.rl fr⟩, ⟨?_, rr.rl fr⟩, ?_, ?_, ?_, y4⟩
  · rw [← h17]; exact zrs_k (by decide) (by decide) (by decide) (by decide)
  · exact rc.fl fc hg
  · exact (x7 _ _ (by decide) (by omega) (by omega)).trans (i7.trans (y7 _ _ (by decide) (by omega)).symm)
  · rw [← q1]; exact (y7 _ _ (by decide) (by omega)).trans i8
  · refine (y7 _ _ (by decide) (by omega)).trans ((g6 _ _ (by unfold Zma; omega)).trans h.2.2.2.2.1.2.2.1)
end S9cy
