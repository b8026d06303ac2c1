/-! a CASE alone, watched: both -/
def Zlw (o : HO) (a j : Nat) : Prop := ZM o 0 0 a j ∨ (a = 142 ∧ j < 5) ∨ (a = 64 ∧ j = 7)
def Zlr (a j : Nat) : Prop := ZR 0 0 a j ∨ (a = 160 ∧ j = 109) ∨ a = 226
/-- what is told of the latest alone() or touch() -/
def tdB (Mc Mr : Mem) : Prop := Mc.1 64 7 = Mr.1 160 109 ∧ (Mc.1 64 7 = iI 0 ∨ Mc.1 64 7 = iI 1) ∧ (Mc.1 64 7 = iI 1 → Mc.1 142 1 = Mr.1 226 0 ∧ Mc.1 142 2 = Mr.1 226 1 ∧ Mc.1 142 3 = Mr.1 226 2 ∧ Mc.1 142 4 = Mr.1 226 3)
section S9cj
variable {d dl : Nat} {o : HO} {v : VR} {q : QN} {s s' u hs : ZS} {M M' M2 Mc Mr Mc' Mr' : Mem} {LL a j x N : Nat} {xs : Nat → Int32} {ow : Nat → Int} {c p i n nc k t b sl : Int} {w v1 : Int32} {Z Z' : Nat → Nat → Prop}
theorem ZM_0 (h : ZM o p 0 a j) : ZM o n k a j := by unfold ZM at h ⊢; omega
theorem ZR_0 (h : ZR p 0 a j) : ZR n k a j := by unfold ZR at h ⊢; omega
theorem zc49 (hd : 2 ≤ d) (hC : CT M) : ∃ M', runX d 49 [va_rf (some 142), va_rf (some 89)] M = some (.null, M') ∧ M' = sI (sI (sI (sI (sI M 142 0 (M.1 89 0)) 142 1 (M.1 89 1)) 142 2 (M.1 89 2)) 142 3 (M.1 89 3)) 142 4 (M.1 89 4) := by
  obtain ⟨d, rfl⟩ : ∃ e, d = e + 2 := ⟨d - 2, by omega⟩
  have k := ck_142 hC
  have k9 := ck_89 hC
  refine ⟨_, ?_, rfl⟩
  have e48 : runX (d + 1) 48 [va_rf (some 142), .int (M.1 89 0), .int (M.1 89 1), .int (M.1 89 2)] M = some (.null, sI (sI (sI M 142 0 (M.1 89 0)) 142 1 (M.1 89 1)) 142 2 (M.1 89 2)) := by
    rw [r48]; unfold b48; rw [aR_e, aI_e, aI_e, aI_e, aZ_e]; unfold c48
    rw [ptI_e k, ptI_e (M := sI M 142 0 (M.1 89 0)) k, ptI_e (M := sI (sI M 142 0 (M.1 89 0)) 142 1 (M.1 89 1)) k]
  have g : ∀ j, (sI (sI (sI M 142 0 (M.1 89 0)) 142 1 (M.1 89 1)) 142 2 (M.1 89 2)).1 89 j = M.1 89 j := fun j => (sI_ne (by decide)).trans ((sI_ne (by decide)).trans (sI_ne (by decide)))
  rw [r49]; unfold b49; rw [aR_e, aR_e, aZ_e]; unfold c49
  rw [gtI_e k9, gtI_e k9, gtI_e k9, vC_e k, cV_e e48, gtI_q (M := sI (sI (sI M 142 0 (M.1 89 0)) 142 1 (M.1 89 1)) 142 2 (M.1 89 2)) k9 (g 3), ptI_e (M := sI (sI (sI M 142 0 (M.1 89 0)) 142 1 (M.1 89 1)) 142 2 (M.1 89 2)) k]
  rw [gtI_q (M := sI (sI (sI (sI M 142 0 (M.1 89 0)) 142 1 (M.1 89 1)) 142 2 (M.1 89 2)) 142 3 (M.1 89 3)) k9 ((sI_ne (by decide)).trans (g 4)), ptI_e (M := sI (sI (sI (sI M 142 0 (M.1 89 0)) 142 1 (M.1 89 1)) 142 2 (M.1 89 2)) 142 3 (M.1 89 3)) k]
theorem lw_pair (hdl : 20 ≤ dl) (hd : 70 ≤ d) (hu : rPu o v q) (hq : q = (sl, -1, 0, 1, 0)) (hC : hoC LL xs o Mc) (hR : hoR o Mr) (hW0 : rvW o v q (sI Mc 88 6 (iI 1))) (hX0 : rvX o v q (sI Mr 160 92 (iI 1))) (h10 : Mc.1 88 10 = 2147483647) (h78 : Mc.1 88 2 = Mr.1 160 78) (h77 : Mr.1 160 77 = iI sl) (h211 : ∀ id, zId (rE o v (pf q 0 0)) id → (rE o v (pf q 0 0)).1 4 id 0 = 2 → Mr.1 211 id.toNat = (rE o v (pf q 0 0)).2 0 id 0) (hdc : hdC hs Mc) (hdr : hdR hs Mr) (hc : 0 ≤ c ∧ c < (gR (oP o (vP v))).1 3 0 0) (hw : w = iI c) : ∃ Mc' Mr' V s', runX dl 175 [va_rf (some 64), va_rf (some (hEC (gH (oP o (vP v))) 3 c))] Mc = some (.int (iI V), Mc') ∧ runX d 260 [va_rf (some 160), .int w] Mr = some (.int (iI V), Mr') ∧ Fz (Zlw o) Mc Mc' ∧ Fz Zlr Mr Mr' ∧ (hoC LL xs o Mc' ∧ hoR o Mr') ∧ tdB Mc' Mr' ∧ (hdC s' Mc' ∧ hdR s' Mr' ∧ ∀ D, 0 ≤ s'.1 17 D 0 ∧ s'.1 17 D 0 ≤ 34000) ∧ Mr'.1 160 90 = iI (-1) ∧ Mr'.1 160 91 = iI 0 ∧ Mr'.1 160 92 = iI 0 ∧ Mr'.1 160 97 = iI 0 := by
  obtain ⟨dl, rfl⟩ : ∃ e, dl = e + 1 := ⟨dl - 1, by omega⟩
  obtain ⟨d, rfl⟩ : ∃ e, d = e + 1 := ⟨d - 1, by omega⟩
  subst hw
  have hP := hu.1
  have hv := hu.2.1
  have p8 := hP.1
  have lo := pk_lo hP hv.1
  have q1 : q.1 = sl := by rw [hq]
  have q2 : q.2.1 = -1 := by rw [hq]
  have q3 : q.2.2.1 = 0 := by rw [hq]
  have q4 : q.2.2.2.1 = 1 := by rw [hq]
  have q5 : q.2.2.2.2 = 0 := by rw [hq]
  have hE := hu.env (st := 0) (b := 0) (by omega) (by omega)
  have nE := (hP.2.2.1 _ hv.1.1 hv.1.2).1.n2
  -- the class, up to the life
  obtain ⟨Mb, b1, b2, b3, b4, b5⟩ := zc21 (d := dl) (M := Mc) (v := 1) (by omega) hC.1.2.2 hC.1.1
  have fb : Fz (ZM o 0 0) Mc Mb := ⟨b2, fun a j z => b3 a j fun y => z (Zwa_M y)⟩
  have hCb : hoC LL xs o Mb := hC.fg hP (fb.fg hC.1.2.2) fun a j z => ZM_ho (k := 0) hP hv.1 (ZM_0 z)
  have pb : Mb.2.2.1 = Mc.2.2.1 := congrArg (fun z => z.2.1) b2
  have kb : Mb.2.2.2 = Mc.2.2.2 := congrArg (fun z => z.2.2) b2
  have n88 : ∀ j, j ≠ 6 → Mb.1 88 j = Mc.1 88 j := fun j z => b3 _ _ (by unfold Zwa; omega)
  obtain ⟨w1, ⟨w2, w3, w4, w5⟩, w6, w7⟩ := hW0
  obtain ⟨Mg, g1, g2, g3, g4, g5⟩ := bg_C (d := dl) (M := Mb) (P := pf q 0 0) (by omega) hP hv hE hCb (by rw [pb]; exact w1)
  have pg : Mg.2.2.1 = Mc.2.2.1 := (congrArg (fun z => z.2.1) g2).trans pb
  have kg : Mg.2.2.2 = Mc.2.2.2 := (congrArg (fun z => z.2.2) g2).trans kb
  have fg : Fz (ZM o 0 0) Mc Mg := fb.tr ⟨g2, fun a j z => g3 a j (by unfold ZM at z; omega)⟩
  have m88 : ∀ j, j ≠ 6 → Mg.1 88 j = Mc.1 88 j := fun j z => (g3 _ _ (by decide)).trans (n88 j z)
  have hW : rvW o v q Mg := by
    refine ⟨by rw [pg]; exact w1, ⟨(m88 1 (by decide)).trans ((sI_nej (by decide)).symm.trans w2), (m88 3 (by decide)).trans ((sI_nej (by decide)).symm.trans w3), ?_, by rw [pg]; exact w5⟩, by rw [pg]; exact w6, fun z => ?_⟩
    · rw [g3 _ _ (by decide), b4, q3, q4]; rfl
    · obtain ⟨y1, ⟨y2, y3⟩, y4, y5, y6⟩ := w7 z
      refine ⟨by rw [kg]; exact y1, ⟨y2, y3⟩, by rw [pg]; exact y4, by rw [kg]; exact y5, fun m x1 x2 => ?_⟩
      refine (fg.2 _ _ ?_).trans ((sI_ne (by omega)).symm.trans (y6 m x1 x2))
      unfold ZM
      omega
  -- the reference, up to the life
  obtain ⟨R3, z1, z2, z3, z4, z5⟩ := zr278 (d := d) (M := Mr) (by omega) hR.1.1
  obtain ⟨R4, hR4⟩ : ∃ X, X = sI R3 160 83 (-1) := ⟨_, rfl⟩
  have e4 : ∀ a j, ¬ (a = 160 ∧ (j = 83 ∨ j = 92)) → a ≠ 235 → R4.1 a j = Mr.1 a j := fun a j z z' => by
    rw [hR4]
    refine Eq.trans ?_ (z3 a j (by unfold Zli; omega))
    by_cases y : a = 160
    · exact sI_nej (by omega)
    · exact sI_ne y
  have fr : Fz (ZR 0 0) Mr R4 := by
    have f3 : Fz (ZR 0 0) Mr R3 := ⟨z2, fun a j z => z3 a j fun y => z (Zli_R y)⟩
    rw [hR4]
    exact f3.si (Or.inl ⟨rfl, by decide⟩)
  have hR4' : hoR o R4 := hR.fg (fr.fg hR.1.2) fun a j z => ZR_hr z
  have hX : rvX o v q R4 := by
    obtain ⟨⟨a1, a2⟩, ⟨a3, a4, a5, a6⟩, a7⟩ := hX0
    have g : ∀ j, j ≠ 92 → j ≠ 83 → R4.1 160 j = (sI Mr 160 92 (iI 1)).1 160 j := fun j y y2 => (e4 _ _ (by omega) (by decide)).trans (sI_nej y).symm
    refine ⟨⟨(g 66 (by decide) (by decide)).trans a1, (g 67 (by decide) (by decide)).trans a2⟩, ⟨(g 90 (by decide) (by decide)).trans a3, (g 91 (by decide) (by decide)).trans a4, ?_, (g 97 (by decide) (by decide)).trans a6⟩, fun u x y => ⟨((e4 _ _ (by omega) (by decide)).trans (sI_ne (by decide)).symm).trans (a7 u x y).1, (a7 u x y).2⟩⟩
    rw [hR4, q4]
    exact (sI_nej (by decide)).trans z4
  have ri : RI LL xs o v q 0 (zst (rE o v (pf q 0 0)) (-1) 0 (hs0 hs)) Mg R4 := by
    refine RI.mk g4 hR4' hW hX ((m88 2 (by decide)).trans (h78.trans (e4 _ _ (by omega) (by decide)).symm)) ((e4 _ _ (by omega) (by decide)).trans (by rw [q1]; exact h77)) g5 (fun id a b => (e4 _ _ (by omega) (by decide)).trans (h211 id a b)) ?_ ?_ (fun z => by omega) (fun Q u1 u2 => ?_) (fun Q u1 u2 => ?_) (fun z => by omega) (fun D => ⟨Int.le_refl _, Int.le_refl _⟩) ⟨Or.inr (by omega), by decide⟩ (by decide) (Int.le_refl _) (by omega)
    · rw [if_neg (by decide), m88 10 (by decide), h10]; rfl
    · rw [hR4]; exact sI_eq
    · obtain ⟨y1, y2, y3⟩ := hdc Q u1 u2
      have tz : 108 ≤ zTw Q ∧ zTw Q + 3 < 140 ∧ zTw Q % 4 = 0 := by unfold zTw; omega
      have no : ∀ a j, (a = zTw Q + 3 ∨ a = zTw Q + 2) → Mg.1 a j = Mc.1 a j := fun a j z => (g3 _ _ (by omega)).trans (b3 _ _ (by unfold Zwa; omega))
      exact ⟨(g3 _ _ (by omega)).trans (b5 Q u1 u2), fun j u w => (no _ _ (by omega)).trans (y2 j u w), fun j u w => (no _ _ (by omega)).trans (y3 j u w)⟩
    · obtain ⟨y1, y2, y3⟩ := hdr Q u1 u2
      refine ⟨?_, fun j u w => (e4 _ _ (by omega) (by decide)).trans (y2 j u w), fun j u w => (e4 _ _ (by omega) (by decide)).trans (y3 j u w)⟩
      rw [hR4]; exact (sI_ne (by decide)).trans (z5 Q u1 u2)
  obtain ⟨Mh, R5, x1, x2, x3, x4, x5, x6⟩ := RI.turn (dl := dl) (d := d) (c := c) (i := 0) (w := iI c) (by omega) (by omega) hu ri (by omega) (by omega) (Or.inr ⟨rfl, q3⟩) (Or.inr ⟨rfl, q3⟩) (fun z => by omega) hc rfl
  rcases x6 with ⟨s', V, Fa, Wh, y1, -, ⟨y2, y3, y4, y5, y6, y7, y8⟩⟩ | ⟨z, -⟩
  · obtain ⟨⟨v1, v2, v3⟩, ⟨v4, v5, v6⟩, v7⟩ := y2
    have hCh := x5.1.1
    have hRh := x5.1.2
    obtain ⟨Mi, i1, i2⟩ := zc49 (d := dl) (M := Mh) (by omega) hCh.1.1
    obtain ⟨Mj, hMj⟩ : ∃ X, X = sI Mi 64 7 1 := ⟨_, rfl⟩
    have ni : ∀ a j, ¬ (a = 142 ∧ j < 5) → Mi.1 a j = Mh.1 a j := fun a j z => by
      rw [i2]
      by_cases y : a = 142
      · subst y
        exact (sI_nej (by omega)).trans ((sI_nej (by omega)).trans ((sI_nej (by omega)).trans ((sI_nej (by omega)).trans (sI_nej (by omega)))))
      · exact (sI_ne y).trans ((sI_ne y).trans ((sI_ne y).trans ((sI_ne y).trans (sI_ne y))))
    have nj : ∀ a j, ¬ (a = 142 ∧ j < 5) → ¬ (a = 64 ∧ j = 7) → Mj.1 a j = Mh.1 a j := fun a j z z' => by
      refine Eq.trans ?_ (ni a j z)
      rw [hMj]
      by_cases y2 : a = 64
      · exact sI_nej fun w => z' ⟨y2, w⟩
      · exact sI_ne y2
    have fj : Fz (fun a j => (a = 142 ∧ j < 5) ∨ (a = 64 ∧ j = 7)) Mh Mj := ⟨by rw [hMj, i2]; rfl, fun a j z => nj a j (fun y => z (Or.inl y)) fun y => z (Or.inr y)⟩
    have hzj : ∀ a j, ((a = 142 ∧ j < 5) ∨ (a = 64 ∧ j = 7)) → hoZ o a j := fun a j z => by
      have g : ∀ q, q ∈ CFd → q.1 ≠ 142 ∧ ¬ (q.1 = 64 ∧ q.2.1 = 7) := by decide
      refine ⟨by omega, fun q hq => ?_, fun p' x y u w => ?_, fun x y => by omega⟩
      · have := g _ hq
        dsimp only at this
        omega
      · have := pk_lo hP ⟨x, y⟩
        omega
    have hCj : hoC LL xs o Mj := hCh.fg hP (fj.fg hCh.1.2.2) hzj
    have kc := ck_142 hCj.1.1
    have ch : runX (dl + 1) 175 [va_rf (some 64), va_rf (some (hEC (gH (oP o (vP v))) 3 c))] Mc = some (.int (iI V), Mj) := by
      have k64i : Mi.2.2.2[64]? = some (12, 19) := by rw [i2]; exact ck_64 hCh.1.1
      have g142 : Mj.1 142 0 = iI V := by
        rw [hMj, i2]
        exact (sI_ne (by decide)).trans ((sI_nej (by decide)).trans ((sI_nej (by decide)).trans ((sI_nej (by decide)).trans ((sI_nej (by decide)).trans (sI_eq.trans v1)))))
      rw [r175]; unfold b175; rw [aR_e, aR_e, aZ_e]; unfold c175
      rw [gtP_q (ck_64 hC.1.1) (cf_64_2 hC.1.1), vC_e (ck_88 hC.1.1), cV_e b1, gtP_q (ck_64 hCb.1.1) (cf_64_2 hCb.1.1), vC_e (ck_88 hCb.1.1), cV_e g1, gtP_q (ck_64 g4.1.1) (cf_64_2 g4.1.1), vC_e (ck_88 g4.1.1), cV_e x1]
      rw [gtP_q (ck_64 hCh.1.1) (cf_64_6 hCh.1.1), gtP_q (ck_64 hCh.1.1) (cf_64_2 hCh.1.1), gtP_q (ck_88 hCh.1.1) (cf_88_0 hCh.1.1), vC_e (ck_142 hCh.1.1), cV_e i1, ptZ_e k64i (Or.inr rfl), ← hMj, gtP_q (ck_64 hCj.1.1) (cf_64_6 hCj.1.1), gtI_q kc g142]
    -- the reference
    obtain ⟨R6, hR6⟩ : ∃ X, X = sI (sI R5 160 92 0) 160 109 1 := ⟨_, rfl⟩
    obtain ⟨R9, hR9⟩ : ∃ X, X = sI (sI (sI (sI R6 226 0 Fa) 226 1 Wh) 226 2 (iI (s'.1 10 0 0))) 226 3 (iI (s'.1 11 0 0)) := ⟨_, rfl⟩
    have n6 : ∀ a j, ¬ (a = 160 ∧ (j = 92 ∨ j = 109)) → R6.1 a j = R5.1 a j := fun a j z => by
      rw [hR6]
      by_cases y : a = 160
      · exact (sI_nej (by omega)).trans (sI_nej (by omega))
      · exact (sI_ne y).trans (sI_ne y)
    have n9 : ∀ a j, a ≠ 226 → R9.1 a j = R6.1 a j := fun a j z => by
      rw [hR9]
      exact (sI_ne z).trans ((sI_ne z).trans ((sI_ne z).trans (sI_ne z)))
    have k5 := rk_160 hRh.1.1
    have t6 : RT R6 := hRh.1.1.keep (by rw [hR6]; rfl)
    have k6 := rk_160 t6
    have k9 := rk_226 t6
    have cr : runX (d + 1) 260 [va_rf (some 160), .int (iI c)] Mr = some (.int (iI V), R9) := by
      rw [r260]; unfold b260; rw [aR_e, aI_e, aZ_e]; unfold c260
      have k3 : R3.2.2.2[160]? = some (13, 157) := by rw [congrArg (fun z => z.2.2) z2]; exact rk_160 hR.1.1
      rw [vC_e (rk_160 hR.1.1), cV_e z1, ptI_e k3, ← hR4, vC_e (rk_160 hR4'.1.1), cV_e x2, ptZ_e k5 (Or.inl rfl), ptZ_e (M := sI R5 160 92 0) k5 (Or.inr rfl), ← hR6]
      rw [gtP_q k6 (rf_110 t6), gtI_q k6 ((n6 _ _ (by omega)).trans v5), li_0, asI_e k9 (by decide) (by decide) (by decide), show (0 : Int).toNat = 0 from rfl]
      rw [gtP_q (M := sI R6 226 0 Fa) k6 (rf_110 t6), gtI_q (M := sI R6 226 0 Fa) (w := Wh) k6 ((sI_ne (by decide)).trans ((n6 _ _ (by omega)).trans v6)), li_1, asI_e (M := sI R6 226 0 Fa) k9 (by decide) (by decide) (by decide), show (1 : Int).toNat = 1 from rfl]
      rw [gtP_q (M := sI (sI R6 226 0 Fa) 226 1 Wh) k6 (rf_110 t6), gtI_q (M := sI (sI R6 226 0 Fa) 226 1 Wh) (w := iI (s'.1 10 0 0)) k6 ((sI_ne (by decide)).trans ((sI_ne (by decide)).trans ((n6 _ _ (by omega)).trans y4.2))), li_2, asI_e (M := sI (sI R6 226 0 Fa) 226 1 Wh) k9 (by decide) (by decide) (by decide), show (2 : Int).toNat = 2 from rfl]
      rw [gtP_q (M := sI (sI (sI R6 226 0 Fa) 226 1 Wh) 226 2 (iI (s'.1 10 0 0))) k6 (rf_110 t6), gtI_q (M := sI (sI (sI R6 226 0 Fa) 226 1 Wh) 226 2 (iI (s'.1 10 0 0))) (w := iI (s'.1 11 0 0)) k6 ((sI_ne (by decide)).trans ((sI_ne (by decide)).trans ((sI_ne (by decide)).trans ((n6 _ _ (by omega)).trans y5.2)))), li_3, asI_e (M := sI (sI (sI R6 226 0 Fa) 226 1 Wh) 226 2 (iI (s'.1 10 0 0))) k9 (by decide) (by decide) (by decide), show (3 : Int).toNat = 3 from rfl]
      rw [← hR9]
      rw [gtI_q (M := R9) (by rw [hR9]; exact k6) ((n9 _ _ (by decide)).trans ((n6 _ _ (by omega)).trans v4))]
    have f59 : Fz Zlr R5 R9 := ⟨by rw [hR9, hR6]; rfl, fun a j z => by
      unfold Zlr ZR at z
      exact (n9 a j (by omega)).trans (n6 a j (by omega))⟩
    have hR9' : hoR o R9 := hRh.fg (f59.fg hRh.1.2) fun a j z => by
      unfold Zlr at z
      rcases z with z | z | z
      · exact ZR_hr z
      · refine ⟨fun _ q hq => ?_, by omega, by omega, by omega⟩
        have g : ∀ q, q ∈ RFd → q.1 ≠ 109 := by decide
        have := g _ hq
        dsimp only at this
        omega
      · exact ⟨fun y => by omega, by omega, by omega, by omega⟩
    obtain ⟨⟨-, -, -, ch4, -⟩, -, -, -, -, rh4, -⟩ := y1.2.2.1
    refine ⟨Mj, R9, V, s', ch, cr, (fg.m fun a j z => Or.inl z).tr (((x3.zm).m fun a j z => Or.inl ?_).tr (fj.m fun a j z => Or.inr z)), (fr.m fun a j z => Or.inl z).tr (((x4.zr (p := vP v) (k := 0) rfl q3).m fun a j z => Or.inl (ZR_0 z)).tr f59), ⟨hCj, hR9'⟩, ⟨?_, ?_, fun _ => ?_⟩, ⟨fun Q a b => ?_, fun Q a b => ?_, fun D => ?_⟩, ?_, ?_, ?_, ?_⟩
    · rw [q3] at z; exact ZM_0 z
    · rw [n9 _ _ (by decide), hR6, hMj]; exact sI_eq.trans sI_eq.symm
    · right; rw [hMj]; exact sI_eq
    · have e1 : Mj.1 142 1 = Fa := by
        rw [hMj, i2]
        exact (sI_ne (by decide)).trans ((sI_nej (by decide)).trans ((sI_nej (by decide)).trans ((sI_nej (by decide)).trans (sI_eq.trans v2))))
      have e2 : Mj.1 142 2 = Wh := by
        rw [hMj, i2]
        exact (sI_ne (by decide)).trans ((sI_nej (by decide)).trans ((sI_nej (by decide)).trans (sI_eq.trans v3)))
      have e3 : Mj.1 142 3 = iI (s'.1 10 0 0) := by
        rw [hMj, i2]
        exact (sI_ne (by decide)).trans ((sI_nej (by decide)).trans (sI_eq.trans y4.1))
      have e4 : Mj.1 142 4 = iI (s'.1 11 0 0) := by
        rw [hMj, i2]
        exact (sI_ne (by decide)).trans (sI_eq.trans y5.1)
      rw [e1, e2, e3, e4, hR9]
      exact ⟨((sI_nej (by decide)).trans ((sI_nej (by decide)).trans ((sI_nej (by decide)).trans sI_eq))).symm, ((sI_nej (by decide)).trans ((sI_nej (by decide)).trans sI_eq)).symm, ((sI_nej (by decide)).trans sI_eq).symm, sI_eq.symm⟩
    · obtain ⟨w1, w2, w3⟩ := ch4 Q a b
      have tz : zTw Q + 3 < 140 ∧ 108 ≤ zTw Q := by unfold zTw; omega
      exact ⟨(nj _ _ (by omega) (by omega)).trans w1, fun j u w => (nj _ _ (by omega) (by omega)).trans (w2 j u w), fun j u w => (nj _ _ (by omega) (by omega)).trans (w3 j u w)⟩
    · obtain ⟨w1, w2, w3⟩ := rh4 Q a b
      exact ⟨(n9 _ _ (by omega)).trans ((n6 _ _ (by omega)).trans w1), fun j u w => (n9 _ _ (by omega)).trans ((n6 _ _ (by omega)).trans (w2 j u w)), fun j u w => (n9 _ _ (by omega)).trans ((n6 _ _ (by omega)).trans (w3 j u w))⟩
    · have := y1.2.2.2.2.1.2.2.1 D
      omega
    · rw [n9 _ _ (by decide), n6 _ _ (by omega), x5.2.1.2.2.1.1, q2]
    · rw [n9 _ _ (by decide), n6 _ _ (by omega), x5.2.1.2.2.1.2.1, q3]
    · rw [n9 _ _ (by decide), hR6]; exact (sI_nej (by decide)).trans sI_eq
    · rw [n9 _ _ (by decide), n6 _ _ (by omega), x5.2.1.2.2.1.2.2.2, q5]
  · have z' : (0 : Int) ≤ -1 := z
    omega
end S9cj
