/-! a prop is tried: both -/
def KSx (LL : Nat) (xs : Nat → Int32) (o : HO) (p sl lu : Int) (Mc Mr : Mem) : Prop := KS LL xs o p sl lu Mc Mr ∧ Mr.1 160 90 = iI (-1)
section S9cz
variable {d dl : Nat} {e s s' u hs : ZS} {κ : ZK} {R : Int → RG} {L : Int → Int} {o : HO} {v : VR} {q : QN} {M M' M1 M2 Mc Mr Mc' Mr' : Mem} {LL a j x N bs n kd sw : Nat} {xs : Nat → Int32} {ow : Nat → Int} {c p i nc k t b sl al lu mc wk en par tr nT : Int} {w v1 v2 : Int32} {Z Z' : Nat → Nat → Prop} {tv : Int → Int32}
theorem ho_14 (hP : hoP o) (ha : a = 146 ∨ a = 147) : hoZ o a j := ⟨by omega, fun q hq => by
  have g : ∀ q, q ∈ CFd → q.1 ≠ 146 ∧ q.1 ≠ 147 := by decide
  have := g _ hq
  dsimp only at this
  omega, fun p x y u z => by have := (hP.2.2.1 p x y).2.2; omega, fun x y => by omega⟩
/-- between runs, out of the machines -/
theorem KI.of (hq : q = (sl, -1, 0, 0, 0)) (hC : hoC LL xs o Mc) (hR : hoR o Mr) (hrc : rvC o (v1p p) (pf q 0 34000) Mc) (hrr : rvR o (v1p p) (pf q 0 34000) Mr) (e77 : Mr.1 160 77 = iI sl) (e78 : Mc.1 88 2 = Mr.1 160 78) (e84 : Mr.1 160 84 = iI 0) (hz : zPr LL xs (rE o (v1p p) (pf q 0 34000)) (rK o (v1p p) 0) (rR o (v1p p)) (vL (v1p p)) u Mc Mr) (h12 : 0 ≤ u.1 12 0 0 ∧ u.1 12 0 0 ≤ 40000) (h17 : ∀ D, 0 ≤ u.1 17 D 0 ∧ u.1 17 D 0 ≤ 34000) : KI LL xs o p sl 0 (u.1 12 0 0) u Mc Mr := by
  have q1 : q.1 = sl := by rw [hq]
  have q3 : q.2.2.1 = 0 := by rw [hq]
  have q4 : q.2.2.2.1 = 0 := by rw [hq]
  have q5 : q.2.2.2.2 = 0 := by rw [hq]
  obtain ⟨w1, ⟨w2, w3, w4, w5⟩, w6, w7⟩ := hrc.wk
  obtain ⟨-, ⟨-, r4, r5, r6⟩, -⟩ := hrr.xt
  have ch : zCH (rE o (v1p p) (pf q 0 34000)) (rK o (v1p p) 0) u Mc := hz.2.1.2.1.ch
  have rh : zRH (rE o (v1p p) (pf q 0 34000)) u Mr := hz.2.2.1.rh
  have m0 := hz.1.1.2
  refine ⟨⟨hC, hR⟩, fun al => ⟨w1, ⟨?_, sI_eq, ?_, ?_⟩, w6, fun z => absurd z v1F⟩, ⟨e77, ?_, ?_, ?_⟩, e78, ⟨?_, rh.2.2.1, e84, h12⟩, ch.2.2.2.1, rh.2.2.2.2.1, h17⟩
  · rw [← q1]; exact (sI_nej (by decide)).trans w2
  · rw [q3, q4] at w4; exact (sI_nej (by decide)).trans w4
  · rw [q5] at w5; exact w5
  · rw [r4, q3]
  · rw [r5, q4]
  · rw [r6, q5]
  · rw [ch.2.1]
    unfold zcw
    rw [if_neg (by rw [m0]; decide), if_pos h12.1]
/-- no WORK was left -/
theorem KS.of (hq : q = (sl, -1, 0, 0, 0)) (hC : hoC LL xs o Mc) (hR : hoR o Mr) (hrr : rvR o (v1p p) (pf q 0 34000) Mr) (e77 : Mr.1 160 77 = iI sl) (e78 : Mc.1 88 2 = Mr.1 160 78) (hz : zSp LL xs (rE o (v1p p) (pf q 0 34000)) (rK o (v1p p) 0) (rR o (v1p p)) (vL (v1p p)) s Mc Mr) (h17 : ∀ D, 0 ≤ s.1 17 D 0 ∧ s.1 17 D 0 ≤ 34000) : KS LL xs o p sl 0 Mc Mr := by
  have q3 : q.2.2.1 = 0 := by rw [hq]
  have q4 : q.2.2.2.1 = 0 := by rw [hq]
  have q5 : q.2.2.2.2 = 0 := by rw [hq]
  obtain ⟨-, ⟨-, r4, r5, r6⟩, -⟩ := hrr.xt
  obtain ⟨z1, z2, z3, z4, z5, z6, z7, z8, z9, u, f, iv, u12, rh, cx⟩ := hz
  have f4 : u.1 17 = s.1 17 := f.2.2.2.1 (by
    show ¬ q.2.2.2.1 = 1
    omega)
  refine ⟨⟨hC, hR⟩, ⟨e77, ?_, ?_, ?_⟩, e78, ⟨z5, z8⟩, u, cx.2.2.1, rh.2.2.2.2.1, fun D => ?_⟩
  · rw [r4, q3]
  · rw [r5, q4]
  · rw [r6, q5]
  · rw [f4]; exact h17 D
theorem hold_pair (hdl : 12 ≤ dl) (hd : 63 ≤ d) (hP : hoP o) (hp : 0 ≤ p ∧ p < oN o) (hsl : 1 ≤ sl ∧ sl ≤ 1000) (hk : 0 ≤ k ∧ k < (gR (oP o p)).1 4 0 0) (h : KI LL xs o p sl 0 b hs Mc Mr) (h3 : Mc.1 88 3 = iI (-2)) (h90 : Mr.1 160 90 = iI (-1)) (hT : ∀ j : Int, 0 ≤ j → j < (gR (oP o p)).1 4 4 k → Mc.1 146 j.toNat = tv j ∧ Mr.1 245 j.toNat = tv j) (h5 : Mc.1 146 5 = iI nT) (h136 : Mr.1 160 136 = iI nT) (hw : w = iI p) (hv : v1 = iI k) : ∃ Mc2 Mr2 rc, runX dl 27 [va_rf (some 88), va_rf (some (hEC (gH (oP o p)) 4 k)), va_rf (some 146)] Mc = some (.int (iI rc), Mc2) ∧ runX d 288 [va_rf (some 160), .int w, .int v1] Mr = some (.int (iI (1 - rc)), Mr2) ∧ (rc = 0 ∨ rc = 1) ∧ Fz (Zhc o) Mc Mc2 ∧ Fz Zhr Mr Mr2 ∧ (Mc2.1 146 5 = iI (nT + 1) ∧ Mr2.1 160 136 = iI (nT + 1)) ∧ ((∃ b' hs2, KI LL xs o p sl 0 b' hs2 Mc2 Mr2 ∧ b' < b ∧ Mc2.1 88 3 = iI (-2) ∧ Mr2.1 160 90 = iI (-1) ∧ (rc = 0 → Mc2.1 146 4 = Mr2.1 160 88) ∧ (rc = 1 → Mc2.1 146 4 = Mc.1 146 4)) ∨ (KSx LL xs o p sl 0 Mc2 Mr2 ∧ rc = 0)) := by
  obtain ⟨dl, rfl⟩ : ∃ e, dl = e + 1 := ⟨dl - 1, by omega⟩
  obtain ⟨d, rfl⟩ : ∃ e, d = e + 1 := ⟨d - 1, by omega⟩
  subst hv
  have l6 : (6 : Int32) = iI 6 := rfl
  have hg := hP.2.2.1 p hp.1 hp.2
  have n3 := hg.1.n3
  have p8 := hP.1
  have lo := pk_lo hP hp
  obtain ⟨q, hq⟩ : ∃ q : QN, q = (sl, -1, 0, 0, 0) := ⟨_, rfl⟩
  have q1 : q.1 = sl := by rw [hq]
  have q2 : q.2.1 = -1 := by rw [hq]
  have q3 : q.2.2.1 = 0 := by rw [hq]
  have q4 : q.2.2.2.1 = 0 := by rw [hq]
  have q5 : q.2.2.2.2 = 0 := by rw [hq]
  have hqk : qOK o (v1p p) q := ⟨by omega, Or.inl q2, Or.inl q3, Or.inl q4, Or.inl q5⟩
  have hu : rPu o (v1p p) q := rPu.one hP hp hqk
  have hE : rvP o (v1p p) (pf q 0 34000) := hu.env (st := 0) (b := 34000) (by omega) (by omega)
  have hV : zEv (rE o (v1p p) (pf q 0 34000)) := hE.ev
  obtain ⟨-, ⟨f1, f4, f5⟩, -, c2, c3⟩ := hg.1.1.2.2.2.2.2.1 k hk.1 (by omega)
  obtain ⟨en, hen⟩ : ∃ X, X = (gR (oP o p)).1 4 5 k := ⟨_, rfl⟩
  obtain ⟨par, hpar⟩ : ∃ X, X = (gR (oP o p)).1 4 4 k := ⟨_, rfl⟩
  rw [← hen] at c3 f5
  rw [← hpar] at c3 c2 hT
  obtain ⟨zen, en0, en1⟩ : zEn (rE o (v1p p) (pf q 0 34000)) en par ∧ 0 ≤ en ∧ en < 1000 := hE.en rfl c3
  obtain ⟨Mg, M2, Rg, R2, s, ⟨x1, x2⟩, ⟨x3, x4⟩, ⟨fa, fb, fd, fe⟩, pr, ⟨s1, s9, s12, s17⟩, ⟨hC2, hR2⟩, ⟨rc2, rr2⟩, e78, e77, e84, e85⟩ := h.hold (dl := dl) (d := d) (w := w) (by omega) (by omega) hP hp hsl h3 h90 hw hq
  subst hw
  have hCm := h.1.1.1.1
  have hCg : CT Mg := hCm.keep fa.1
  have hC2' := hC2.1.1
  have hRm := h.1.2.1.1
  have hRg : RT Rg := hRm.keep fd.1
  have hR2' := hR2.1.1
  -- the numbers, in the class
  obtain ⟨M4, hM4⟩ : ∃ X, X = cpI M2 146 0 92 0 4 := ⟨_, rfl⟩
  have o4 : ∀ a j, a ≠ 92 → M4.1 a j = M2.1 a j := fun a j z => by
    rw [hM4]; exact if_neg z
  have k4 : M4.2 = M2.2 := by rw [hM4]; rfl
  have f24 : zFl (rK o (v1p p) 0) M2 M4 := ⟨k4, fun a j z _ _ _ => o4 a j fun y => by
    rw [y, inW_c (L := W_y) (a := 92) (by decide) j] at z
    exact absurd z (by decide)⟩
  have n92 : ∀ j : Int, 0 ≤ j → j < par → M4.1 92 j.toNat = tv j := fun j a b => by
    rw [hM4, cpI_new _ (by omega), fb.2 _ _ fun y => by have := ZM_x y; omega]
    exact (hT j a b).1
  have pr4 := pr.mc f24 fun a j z _ => o4 a j z
  have hC4 : CT M4 := hC2'.keep k4
  -- and in the reference
  obtain ⟨⟨rr', -⟩, pkc⟩ : PkR p (oP o p) R2 ∧ PkC p (oP o p) M4 := ⟨hR2.2.1 p hp.1 hp.2, (hC2.fl hP hu.2.1 f24).2.1 p hp.1 hp.2⟩
  have e186 : R2.1 186 (6 * p + k).toNat = iI par := by rw [hpar]; exact rr'.at (q := (186, 6, 4, 4)) (by decide) hk.1 (show k < 6 by omega) rfl
  have e187 : R2.1 187 (6 * p + k).toNat = iI en := by rw [hen]; exact rr'.at (q := (187, 6, 4, 5)) (by decide) hk.1 (show k < 6 by omega) rfl
  obtain ⟨R3, hR3⟩ : ∃ X, X = sI R2 160 73 ((0 : Int32)) := ⟨_, rfl⟩
  have o3 : ∀ a j, ¬ (a = 160 ∧ j = 73) → R3.1 a j = R2.1 a j := fun a j z => by
    rw [hR3]
    by_cases y : a = 160
    · exact sI_nej fun w => z ⟨y, w⟩
    · exact sI_ne y
  have hR3' : RT R3 := hR2'.keep (by rw [hR3]; rfl)
  have n245 : ∀ j : Int, 0 ≤ j → j < par → R3.1 245 j.toNat = tv j := fun j a b => by
    rw [o3 _ _ (by omega), fe.2 _ _ fun y => by unfold ZR at y; omega]
    exact (hT j a b).2
  obtain ⟨J, hJ⟩ : ∃ J : Mem → XA, J = jv fun (s4 : Mem) => gtI (13, 157) s4 (some 160) 136 fun x5 => ptI (13, 157) s4 (some 160) 136 (x5 + ((1 : Int32))) fun M6 => gtP (13, 157) M6 (some 160) 28 fun x7 => alI 100 M6 x7 ((((6 : Int32)) * (iI p)) + (iI k)) fun x8 => gtP (13, 157) M6 (some 160) 27 fun x9 => alI 100 M6 x9 ((((6 : Int32)) * (iI p)) + (iI k)) fun x10 => vC (13, 157) M6 (some 160) <| cI (runX d 252 [va_rf (some 160), .int x8, .int x10] M6) fun x12 M11 => rtZ x12 M11 := ⟨_, rfl⟩
  obtain ⟨R4, y1, y2, y3, y4, y5⟩ := r288_17 (d := d) (J := J) (M := R3) (p := p) (k := k) (par := par) (tv := tv) (by omega) hR3' (by omega) (by omega) (by omega) ((o3 _ _ (by omega)).trans e186) (by rw [hR3]; exact sI_eq.trans li_0) n245
  obtain ⟨R5, hR5⟩ : ∃ X, X = sI R4 160 136 (iI (nT + 1)) := ⟨_, rfl⟩
  have k5 : R5.2 = R2.2 := by rw [hR5, ← (show R3.2 = R2.2 by rw [hR3]; rfl), ← y2]; rfl
  have o5 : ∀ a j, ¬ (a = 160 ∧ (j = 73 ∨ j = 136)) → a ≠ 213 → R5.1 a j = R2.1 a j := fun a j z z2 => by
    refine Eq.trans ?_ ((y3 a j (by omega) z2).trans (o3 a j (by omega)))
    rw [hR5]
    by_cases y : a = 160
    · exact sI_nej fun w => z ⟨y, Or.inr w⟩
    · exact sI_ne y
  have hR4' : RT R4 := hR3'.keep y2
  have hR5' : RT R5 := hR2'.keep k5
  have e73 : R5.1 160 73 = iI par := by rw [hR5]; exact (sI_nej (by decide)).trans y4
  have n213 : ∀ j : Int, 0 ≤ j → j < par → R5.1 213 j.toNat = tv j := fun j a b => by
    rw [hR5]; exact (sI_ne (by decide)).trans (y5 j a b)
  have e136 : R4.1 160 136 = iI nT := (y3 _ _ (by omega) (by decide)).trans ((o3 _ _ (by omega)).trans ((fe.2 _ _ fun y => by unfold ZR at y; omega).trans h136))
  have pr5 := (pr4.mr2 k5 o5).pm (tv := tv)
  obtain ⟨z, hz⟩ : ∃ z, z = zpm s tv := ⟨_, rfl⟩
  rw [← hz] at pr5
  have z9 : z.1 = s.1 := by rw [hz]; rfl
  -- the code
  obtain ⟨Mc', Mr', rc, rr, w1, w2, w3⟩ := code_pair (dl := dl) (d := d) (v := iI en) (v1 := iI en) (v2 := iI par) (by omega) (by omega) hV pr5 zen ⟨Int.le_refl _, by omega, by omega⟩ en1 e73 ((o5 _ _ (by omega) (by decide)).trans e85) (fun j a b => ⟨by rw [hz]; exact n92 j a b, by rw [hz]; exact n213 j a b⟩) rfl rfl rfl
  have ER5 := pr5.2.2.2
  obtain ⟨g1, g2, g3⟩ := w3.out ER5
  have hrc : (rc = 0 ∧ rr = 1) ∨ (rc = 1 ∧ rr = 0) := by
    rcases g3 with ⟨u, -, -, -, -, -, -, y | y⟩ | y
    · exact Or.inr ⟨y.2.1, y.2.2.1⟩
    · exact Or.inl ⟨y.2.1, y.2.2.1⟩
    · exact Or.inl ⟨y.1, y.2.1⟩
  have err : rr = 1 - rc := by omega
  have F1 : Fz (ZM o 0 0) Mc Mc' := fb.tr ((f24.zm.m fun _ _ z => ZM_0 z).tr (g1.zm.m fun _ _ z => ZM_0 z))
  have hC5 : CT Mc' := hC4.keep g1.1
  have e146 : Mc'.1 146 5 = iI nT := (F1.2 _ _ fun y => by have := ZM_x y; omega).trans h5
  obtain ⟨Mx, hMx⟩ : ∃ X, X = if rc = 0 then sI Mc' 146 4 (Mc'.1 88 20) else Mc' := ⟨_, rfl⟩
  obtain ⟨My, hMy⟩ : ∃ X, X = sI Mx 146 5 (iI (nT + 1)) := ⟨_, rfl⟩
  have kx : Mx.2 = Mc'.2 := by
    rw [hMx]
    by_cases y : rc = 0
    · rw [if_pos y]; rfl
    · rw [if_neg y]
  have fx : Fz (fun a j => a = 146 ∧ (j = 4 ∨ j = 5)) Mc' My := by
    rw [hMy]
    refine Fz.si ?_ ⟨rfl, Or.inr rfl⟩
    rw [hMx]
    by_cases y : rc = 0
    · rw [if_pos y]; exact Fz.r.si ⟨rfl, Or.inl rfl⟩
    · rw [if_neg y]; exact Fz.r
  have x5 : Mx.1 146 5 = iI nT := by
    rw [hMx]
    by_cases y : rc = 0
    · rw [if_pos y]; exact (sI_nej (by decide)).trans e146
    · rw [if_neg y]; exact e146
  have hCx : CT Mx := hC5.keep kx
  have hEn : hEF (gH (oP o p)) 4 5 k = en := f5
  have cl : runX (dl + 1) 27 [va_rf (some 88), va_rf (some (hEC (gH (oP o p)) 4 k)), va_rf (some 146)] Mc = some (.int (iI rc), My) := by
    obtain ⟨-, -, -, -, hTT, -⟩ := pkc
    obtain ⟨⟨t1, t2, t3⟩, t4, t5⟩ := hTT 4 (by decide) (by decide) k hk.1 (by omega)
    have fin : (jv (fun (s8 : Mem) => alI 100 s8 (some 146) ((5 : Int32)) fun x9 => asI 100 s8 (some 146) ((5 : Int32)) ((x9 + ((1 : Int32)))) fun M10 => rtZ (iI rc) M10)) Mx = some (.int (iI rc), My) := by
      rw [jv_e, show (5 : Int32) = iI 5 from rfl, alI_q (n := 6) (z := 5) (ck_146 hCx) rfl (by omega) x5, asI_e (z := 5) (n := 6) (ck_146 hCx) (by omega) (by omega) (by omega), show iI nT + 1 = iI (nT + 1) from adI rfl li_1, show (5 : Int).toNat = 5 from rfl, ← hMy]
      exact rtZ_q rfl (by omega)
    rw [r27]; unfold b27; rw [aR_e, aR_e, aR_e, aZ_e]; unfold c27
    rw [vC_e (ck_88 hCm), cV_e x1, vC_e (ck_88 hCg), cV_e x2, gtP_q (ck_88 hC2') (cf_88_11 hC2'), acI_e (N := 6) (m := 4) (N2 := 2520) (show (0 : Int32) = iI 0 from rfl) (show (0 : Int32) = iI 0 from rfl) (show (4 : Int32) = iI ((4 : Nat) : Int) from rfl) (ck_146 hC2') (ck_92 hC2') (by omega), ← hM4, gtI_q t1 ((t4 5 (by decide) (by decide)).trans (congrArg iI hEn)), vC_e (ck_88 hC4), cI_e w1, jn_v]
    by_cases y : rc = 0
    · rw [if_pos (show iI rc = 0 by rw [y]; rfl), gtI_q (w := Mc'.1 88 20) (ck_88 hC5) rfl, show (4 : Int32) = iI 4 from rfl, asI_e (z := 4) (n := 6) (ck_146 hC5) (by omega) (by omega) (by omega), show (4 : Int).toNat = 4 from rfl]
      have : sI Mc' 146 4 (Mc'.1 88 20) = Mx := by rw [hMx, if_pos y]
      rw [this]
      exact fin
    · rw [if_neg (show ¬ iI rc = 0 from eqI_n (y := 0) rfl rfl (by omega))]
      have : Mc' = Mx := by rw [hMx, if_neg y]
      rw [this]
      rw [← this]
      have f2 := fin
      rw [← this] at f2
      exact f2
  have rl : runX (d + 1) 288 [va_rf (some 160), .int (iI p), .int (iI k)] Mr = some (.int (iI (1 - rc)), Mr') := by
    rw [r288]; unfold b288; rw [aR_e, aI_e, aI_e, aZ_e]; unfold c288
    rw [vC_e (rk_160 hRm), cV_e x3, vC_e (rk_160 hRg), cV_e x4, ptI_e (rk_160 hR2'), ← hR3, jn_v, ← hJ, y1, hJ, jv_e, gtI_q (rk_160 hR4') e136, ptI_q (z := nT + 1) (rk_160 hR4') (adI rfl li_1), ← hR5, gtP_q (rk_160 hR5') (rf_28 hR5'), alI_q (n := 48) (z := 6 * p + k) (rk_187 hR5') (adI (mlI l6 rfl) rfl) (by omega) ((o5 _ _ (by omega) (by decide)).trans e187), gtP_q (rk_160 hR5') (rf_27 hR5'), alI_q (n := 48) (z := 6 * p + k) (rk_186 hR5') (adI (mlI l6 rfl) rfl) (by omega) ((o5 _ _ (by omega) (by decide)).trans e186), vC_e (rk_160 hR5'), cI_e w2, err]
    exact rtZ_q rfl (by omega)
  have G1 : Fz Zhr R2 R5 := ⟨k5, fun a j z => o5 a j (fun y => z (by
    rcases y with ⟨y, y2 | y2⟩
    · exact Or.inl (by unfold ZR; omega)
    · exact Or.inr ⟨y, y2⟩)) fun y => z (Or.inl (by unfold ZR; omega))⟩
  have G2 : Fz (ZR 0 0) R5 Mr' := (g2.zr (p := p) (k := 0) rfl q3).m fun _ _ z => ZR_0 z
  have G3 : Fz Zhr Mr Mr' := (fe.m fun _ _ z => Or.inl z).tr (G1.tr (G2.m fun _ _ z => Or.inl z))
  have hR5o : hoR o R5 := hR2.fg (G1.fg hR2.1.2) fun a j z => by
    rcases z with z | z
    · exact ZR_hr (p := 0) (k := 0) z
    · rw [z.1, z.2]
      exact ⟨fun _ q hq => by
        have g : ∀ q, q ∈ RFd → q.1 ≠ 136 := by decide
        exact g _ hq rfl, by decide, by decide, by decide⟩
  have hRo : hoR o Mr' := hR5o.rl g2
  have hCo : hoC LL xs o Mc' := (hC2.fl hP hu.2.1 f24).fl hP hu.2.1 g1
  have rcx : rvC o (v1p p) (pf q 0 34000) Mc' := (rc2.fl f24 hg).fl g1 hg
  have rr5 : rvR o (v1p p) (pf q 0 34000) R5 := by
    obtain ⟨⟨a1, a2⟩, ⟨a3, a4, a5, a6, a7⟩, a8⟩ := rr2
    exact ⟨⟨(o5 _ _ (by omega) (by decide)).trans a1, (o5 _ _ (by omega) (by decide)).trans a2⟩, ⟨(o5 _ _ (by omega) (by decide)).trans a3, (o5 _ _ (by omega) (by decide)).trans a4, (o5 _ _ (by omega) (by decide)).trans a5, (o5 _ _ (by omega) (by decide)).trans a6, fun z => (o5 _ _ (by omega) (by decide)).trans (a7 z)⟩, fun u a b => ⟨(o5 _ _ (by omega) (by decide)).trans (a8 u a b).1, (a8 u a b).2⟩⟩
  have rrx : rvR o (v1p p) (pf q 0 34000) Mr' := rr5.rl g2
  have n77 : Mr'.1 160 77 = iI sl := (g2.2.1 _ _ (by decide)).trans ((o5 _ _ (by omega) (by decide)).trans e77)
  have n78 : Mr'.1 160 78 = R2.1 160 78 := (g2.2.1 _ _ (by decide)).trans (o5 _ _ (by omega) (by decide))
  have c2' : Mc'.1 88 2 = M2.1 88 2 := by
    have gl := hg.2.2
    have k0 : rK o (v1p p) 0 12 0 = 0 := rfl
    exact (g1.2 _ _ (by decide) (fun z => by omega) (fun z => by omega) (fun z => by omega)).trans (o4 _ _ (by decide))
  have n136 : Mr'.1 160 136 = iI (nT + 1) := (G2.2 _ _ fun y => by unfold ZR at y; omega).trans (by rw [hR5]; exact sI_eq)
  have m5 : My.1 146 5 = iI (nT + 1) := by rw [hMy]; exact sI_eq
  have m88 : My.1 88 3 = Mc'.1 88 3 := fx.2 _ _ (by omega)
  have r88 : Mc'.1 88 3 = iI (-2) := by
    have := rcx.2.1.2.1
    have e2 : pf q 0 34000 1 = -1 := q2
    rw [e2, if_pos (by decide)] at this
    exact this
  have r90 : Mr'.1 160 90 = iI (-1) := by
    have := rrx.2.1.1
    have e2 : pf q 0 34000 1 = -1 := q2
    rw [e2] at this
    exact this
  refine ⟨My, Mr', rc, cl, rl, by omega, (F1.m fun _ _ z => Or.inl z).tr (fx.m fun _ _ z => Or.inr z), G3, ⟨m5, n136⟩, ?_⟩
  rcases g3 with ⟨u, u1, u2, u3, u4, u5, u6, u7⟩ | ⟨u1, u2, u3⟩
  · have ufx := u1.fx
    obtain ⟨v1', v2', v3', v4', v5', v6'⟩ := ufx
    rw [z9] at v1' v2' v3' v4' v5' v6'
    have dec := u1.dec (by rw [z9]; exact s1) (by rw [z9, s9]; omega) u2
    rw [z9, s12] at dec
    have nb12 : (znb u).1 12 0 0 = u.1 12 0 0 := by rw [znb_k (by decide) (by decide)]
    have b0 := h.2.2.2.2.1.2.2.2
    have h17 : (znb u).1 17 = hs.1 17 := by
      rw [v4' (by
        show ¬ q.2.2.2.1 = 1
        omega), s17]
    have kI : KI LL xs o p sl 0 ((znb u).1 12 0 0) (znb u) Mc' Mr' := KI.of hq hCo hRo rcx rrx n77 (c2'.trans (e78.trans n78.symm)) ((u4.2.1 _ _ (by decide)).trans ((o5 _ _ (by omega) (by decide)).trans e84)) u3 ⟨v2' (by omega), by omega⟩ fun D => by rw [h17]; exact h.2.2.2.2.2.2.2 D
    refine Or.inl ⟨(znb u).1 12 0 0, znb u, kI.sub (Z' := fun _ _ => False) hP fx (fun a j z => ⟨ho_14 hP (Or.inl z.1), by omega, by omega⟩) Fz.r (fun a j z => z.elim), by omega, m88.trans r88, r90, fun z => ?_, fun z => ?_⟩
    · rcases u7 with y | y
      · omega
      · rw [hMy, y.2.2.2.1.2]
        refine (sI_nej (by decide)).trans ?_
        rw [hMx, if_pos z, y.2.2.2.1.1]
        exact sI_eq
    · rw [hMy]
      refine (sI_nej (by decide)).trans ?_
      rw [hMx, if_neg (by omega)]
      exact F1.2 _ _ fun y => by have := ZM_x y; omega
  · refine Or.inr ⟨⟨KS.sub (Z' := fun _ _ => False) (KS.of hq hCo hRo rrx n77 (c2'.trans (e78.trans n78.symm)) u3 fun D => ?_) hP fx (fun a j z => ⟨ho_14 hP (Or.inl z.1), by omega, by omega⟩) Fz.r (fun a j z => z.elim), r90⟩, u1⟩
    rw [z9, s17]; exact h.2.2.2.2.2.2.2 D
end S9cz
