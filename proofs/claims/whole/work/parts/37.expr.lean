theorem p_5 {D : Nat} {dp : Int} (hD : 20 ≤ D) (hp : Pair D 99 [6] 206 20 dp) : Pair (D + 1) 99 [5] 207 19 dp := by
  intro d d2 hd hd2 T n m kd pl E tx ua ut mu Mc Mr G U Hl X i e s u uc vs hS hx hsc hsr hrw hbd hvs
  subst hvs
  obtain ⟨d, rfl⟩ : ∃ e, d = e + 1 := ⟨d - 1, by omega⟩
  obtain ⟨d2, rfl⟩ : ∃ e, d2 = e + 1 := ⟨d2 - 1, by omega⟩
  show Rs (runX (d + 1) 99 [va_rf (some 65), .int (iI 5), .int (iI dp)] Mc) (runX (d2 + 1) 207 [va_rf (some 160)] Mr) _
  rw [r99]; unfold b99; rw [aR_e, aI_e, aI_e, aZ_e]; unfold c99; rw [r207]; unfold b207; rw [aR_e, aZ_e]; unfold c207
  have hCx := hx
  obtain ⟨hC, hR, hTk, hT, hW, ⟨hu1, hu2, hu3, hu4⟩, h49, h48, ⟨hb1, hb2, hb3, hb4⟩⟩ := hx
  obtain ⟨bb_0, bb_1, bb_2, bb_3, bb_4, bb_5, bb_6, bb_7, bb_8, bb_9, bb_10, bb_11⟩ := hbd
  obtain ⟨qa_12, qa_13, qa_10, qa_9, qa_16, qa_19⟩ := hsc
  obtain ⟨wa_36, wa_37, wa_38, wa_41, wa_43, wa_51, wa_53, wa_50, wa_n⟩ := hsr
  obtain ⟨caa, raa, lca, lra, cua, rua⟩ := hrw
  have hk1 := (hS.ok i (by omega) (by omega)).r
  refine rsl (if_pos (leI_p (rfl) (li_5) (by omega))) ?_
  refine rsl (jn_v) ?_
  refine rsl (if_neg (eqI_n (rfl) (li_2) (by omega))) ?_
  refine rsl (jv_e) ?_
  refine rsl (vC_e (ck_65 hC)) ?_
  refine rsr (vC_e (rk_160 hR)) ?_
  refine Rb_VV (hp _ _ (by omega) (by omega) T n m kd pl E tx ua ut mu _ _ G U Hl X i e s u uc _ hS (hCx.fr Fr.r Fr.r) ⟨qa_12, qa_13, qa_10, qa_9, qa_16, qa_19⟩ ⟨wa_36, wa_37, wa_38, wa_41, wa_43, wa_51, wa_53, wa_50, wa_n⟩ ⟨caa, raa, lca, lra, cua, rua⟩ ⟨by omega, by omega, by omega, by omega, by omega, by omega, by omega, by omega, by omega, by omega, by omega, by omega⟩ (vs2 (adI (rfl) (li_1)) (rfl))) fun v Mx2 w Nx2 hx2 => ?_
  rcases hx2 with ⟨i2, e2, u2, uc2, G2, U2, X2, fl2, fr2, sc2, sr2, rw2, bd2, mv2, ag2, au2, ax2⟩ | ⟨F2, P2, fl2, fr2, tc2, tr2⟩
  ·
    have FL2 : Fr W_cp Mc Mx2 := Fr.t Fr.r fl2
    have FR2 : Fr W_rx Mr Nx2 := Fr.t Fr.r fr2
    obtain ⟨bb2_0, bb2_1, bb2_2, bb2_3, bb2_4, bb2_5, bb2_6, bb2_7, bb2_8, bb2_9, bb2_10, bb2_11⟩ := bd2
    obtain ⟨q2_12, q2_13, q2_10, q2_9, q2_16, q2_19⟩ := sc2
    obtain ⟨w2_36, w2_37, w2_38, w2_41, w2_43, w2_51, w2_53, w2_50, w2_n⟩ := sr2
    obtain ⟨ca2, ra2, lc2, lr2, cu2, ru2⟩ := rw2
    have hk3 := (hS.ok i2 (by omega) (by omega)).r
    refine rsl (cV_e rfl) ?_
    refine rsr (cV_e rfl) ?_
    refine rsl (jn_v) ?_
    refine rsl (jn_v) ?_
    refine rsr (jn_v) ?_
    refine Rb_lp (fun m2 q t => (∃ (k i2 : Int), q.1 = iI k ∧ (0 ≤ k ∧ k ≤ i2) ∧ PK m kd pl E tx Mc Mr G U Hl X i e s u uc dp q.2 t i2 ∧ (m2 : Int) = m - i2 + 1) ∨ ∃ (k F P : Int), q.1 = iI k ∧ (0 ≤ k ∧ k ≤ 1500) ∧ Fr W_cp Mc q.2 ∧ Fr W_rp Mr t ∧ FTc m F P q.2 ∧ FTr (2500 - 30 * dp - 19) F P t ∧ m2 = 0) (fun m2 q t gl gr hq hgo => ?_) (m - i2 + 1).toNat _ _ _ _ (by omega) (by omega) (Or.inl ⟨0, i2, li_0, by omega, ⟨e2, u2, uc2, G2, U2, X2, FL2, FR2, ⟨q2_12, q2_13, q2_10, q2_9, q2_16, q2_19⟩, ⟨w2_36, w2_37, w2_38, w2_41, w2_43, w2_51, w2_53, w2_50, w2_n⟩, ⟨ca2, ra2, lc2, lr2, cu2, ru2⟩, ⟨by omega, by omega, by omega, by omega, by omega, by omega, by omega, by omega, by omega, by omega, by omega, by omega⟩, ⟨by omega, by omega, by omega, by omega, by omega, by omega⟩, (Ag.t Ag.r ag2 (by omega)), (Ag.t Ag.r au2 (by omega)), (AgL.t AgL.r ax2 (by omega))⟩, by omega⟩)
    obtain ⟨qk4, qm4⟩ := q
    dsimp only at hq
    try dsimp only
    rcases hq with hq | hq
    ·
      obtain ⟨k4, i4, hk4, ⟨hka4, hkb4⟩, ⟨e4, u4, uc4, G4, U4, X4, FL4, FR4, sc4, sr4, rw4, bd4, ⟨mv4_0, mv4_1, mv4_2, mv4_3, mv4_4, mv4_5⟩, ag4, au4, ax4⟩, hm4⟩ := hq
      obtain ⟨bb4_0, bb4_1, bb4_2, bb4_3, bb4_4, bb4_5, bb4_6, bb4_7, bb4_8, bb4_9, bb4_10, bb4_11⟩ := bd4
      obtain ⟨q4_12, q4_13, q4_10, q4_9, q4_16, q4_19⟩ := sc4
      obtain ⟨w4_36, w4_37, w4_38, w4_41, w4_43, w4_51, w4_53, w4_50, w4_n⟩ := sr4
      obtain ⟨ca4, ra4, lc4, lr4, cu4, ru4⟩ := rw4
      have hk5 := (hS.ok i4 (by omega) (by omega)).r
      unfold c99_61 c207_4
      refine rsl (if_neg (leI_n (li_3000) (hk4) (by omega))) ?_
      refine rsl (gtI_q (w := iI ((kd i4))) (ck_65 (hC.fr FL4)) (q4_13)) ?_
      by_cases c6 : ((kd i4)) = 37
      ·
        refine rsl (cI_e (lk_37 (by omega) ((rfl).trans (congrArg iI (by omega))))) ?_
        refine rsl (if_pos (eqI_p (rfl) (rfl) (by omega))) ?_
        refine rsl (gtI_q (w := iI ((kd i4))) (ck_65 (hC.fr FL4)) (q4_13)) ?_
        refine rsl (cI_e (ok_37 (by omega) ((rfl).trans (congrArg iI (by omega))))) ?_
        refine rsl (vC_e (ck_65 (hC.fr FL4))) ?_
        have hm7 : i4 + 1 < m := hS.more i4 (by omega) (by omega) (by omega)
        refine rsl (cV_e (a63q (by omega) hS (hC.fr FL4) (hTk.fr (WL := W_cp) FL4 (by decide)) (q4_12) (q4_13) (q4_10) (i2 := (i4 + 1)) (by omega) (by omega))) ?_
        have hk8 := (hS.ok (i4 + 1) (by omega) (by omega)).r
        refine rsl (vC_e (ck_65 (hC.fr FL4).sI.sI)) ?_
        refine rsr (gtI_q (w := iI 0) (rk_160 (hR.fr FR4)) (w4_41)) ?_
        refine rsr (if_pos (eqI_p (rfl) (li_0) (by omega))) ?_
        refine rsr (gtI_q (w := iI ((kr (kd i4)))) (rk_160 (hR.fr FR4)) (w4_36)) ?_
        refine rsr (jn_v) ?_
        refine rsr (if_neg (krI_n (k := 42) (rfl) (li_42) (hS.ok i4 (by omega) (by omega)) (by unfold KdOK sgk; omega) (by decide +kernel) (by omega) (by omega))) ?_
        refine rsr (gtI_q (w := iI ((kr (kd i4)))) (rk_160 (hR.fr FR4)) (w4_36)) ?_
        refine rsr (if_neg (krI_n (k := 47) (rfl) (li_47) (hS.ok i4 (by omega) (by omega)) (by unfold KdOK sgk; omega) (by decide +kernel) (by omega) (by omega))) ?_
        refine rsr (gtI_q (w := iI ((kr (kd i4)))) (rk_160 (hR.fr FR4)) (w4_36)) ?_
        refine rsr (if_pos (krI_p (k := 37) (rfl) (li_37) (by omega) (by decide +kernel))) ?_
        refine rsr (jv_e) ?_
        refine rsr (gtI_q (w := iI ((kr (kd i4)))) (rk_160 (hR.fr FR4)) (w4_36)) ?_
        refine rsr (jn_v) ?_
        refine rsr (if_neg (krI_n (k := 42) (rfl) (li_42) (hS.ok i4 (by omega) (by omega)) (by unfold KdOK sgk; omega) (by decide +kernel) (by omega) (by omega))) ?_
        refine rsr (gtI_q (w := iI ((kr (kd i4)))) (rk_160 (hR.fr FR4)) (w4_36)) ?_
        refine rsr (if_neg (krI_n (k := 47) (rfl) (li_47) (hS.ok i4 (by omega) (by omega)) (by unfold KdOK sgk; omega) (by decide +kernel) (by omega) (by omega))) ?_
        refine rsr (jv_e) ?_
        refine rsr (vC_e (rk_160 (hR.fr FR4))) ?_
        refine RrV (nx_ok (by omega) hS (hR.fr FR4) (hT.fr (W := W_rx) FR4 (by decide) (by decide)) (fun i a b => (Fr.lc (W := W_rx) FR4 _ (by decide) _).trans (hW i a b)) (i := i4) (w4_41) (w4_38) (by omega) (by omega)) fun v Ma10 h10 => ?_
        obtain ⟨g10, e10_k0, e10_k1, e10_k2, p10_0⟩ := h10
        have f10 : Fr W_rx Mr Ma10 := Fr.t FR4 (Fr.m g10 (by decide))
        refine rsr (cV_e rfl) ?_
        refine rsr (vC_e (rk_160 (hR.fr f10))) ?_
        refine Rb_VV (hp _ _ (by omega) (by omega) T n m kd pl E tx ua ut mu _ _ G4 U4 Hl X4 (i4 + 1) e4 s u4 uc4 _ hS (hCx.fr (Fr.sI (by decide) (Fr.sI (by decide) FL4)) f10) ⟨(sI_nej (by decide)).trans (sI_eq), sI_eq, (sI_nej (by decide)).trans ((sI_nej (by decide)).trans (q4_10)), (sI_nej (by decide)).trans ((sI_nej (by decide)).trans (q4_9)), (sI_nej (by decide)).trans ((sI_nej (by decide)).trans (q4_16)), (sI_nej (by decide)).trans ((sI_nej (by decide)).trans (q4_19))⟩ ⟨e10_k0, e10_k1, e10_k2, (g10.i _ _ (by decide)).trans (w4_41), (g10.i _ _ (by decide)).trans (w4_43), (g10.i _ _ (by decide)).trans (w4_51), (g10.i _ _ (by decide)).trans (w4_53), (g10.i _ _ (by decide)).trans (w4_50), p10_0⟩ ⟨(ca4.fr (W := W_c0) (Fr.sI (by decide) (Fr.sI (by decide) Fr.r)) (by decide)), (ra4.fr g10 (by decide)), (lc4.fr (W := W_c0) (Fr.sI (by decide) (Fr.sI (by decide) Fr.r)) (by decide)), (lr4.fr g10 (by decide)), (cu4.fr (W := W_c0) (Fr.sI (by decide) (Fr.sI (by decide) Fr.r)) (by decide)), (ru4.fr g10 (by decide))⟩ ⟨by omega, by omega, by omega, by omega, by omega, by omega, by omega, by omega, by omega, by omega, by omega, by omega⟩ (vs2 (adI (rfl) (li_1)) (rfl))) fun v Mx11 w Nx11 hx11 => ?_
        rcases hx11 with ⟨i11, e11, u11, uc11, G11, U11, X11, fl11, fr11, sc11, sr11, rw11, bd11, mv11, ag11, au11, ax11⟩ | ⟨F11, P11, fl11, fr11, tc11, tr11⟩
        ·
          have FL11 : Fr W_cp Mc Mx11 := Fr.t (Fr.sI (by decide) (Fr.sI (by decide) FL4)) fl11
          have FR11 : Fr W_rx Mr Nx11 := Fr.t f10 fr11
          obtain ⟨bb11_0, bb11_1, bb11_2, bb11_3, bb11_4, bb11_5, bb11_6, bb11_7, bb11_8, bb11_9, bb11_10, bb11_11⟩ := bd11
          obtain ⟨q11_12, q11_13, q11_10, q11_9, q11_16, q11_19⟩ := sc11
          obtain ⟨w11_36, w11_37, w11_38, w11_41, w11_43, w11_51, w11_53, w11_50, w11_n⟩ := sr11
          obtain ⟨ca11, ra11, lc11, lr11, cu11, ru11⟩ := rw11
          have hk12 := (hS.ok i11 (by omega) (by omega)).r
          refine rsl (cV_e rfl) ?_
          refine rsr (cV_e rfl) ?_
          refine rsl (vC_e (ck_65 (hC.fr FL11))) ?_
          refine RlI (a87 (by omega) (hC.fr FL11) (q11_9) (rfl) (li_0) (by omega)) fun v Ma14 h14 => ?_
          obtain ⟨r13, rfl, g14, e14_k0, p14_0, p14_1⟩ := h14
          have f14 : Fr W_cp Mc Ma14 := Fr.t FL11 (Fr.m g14 (by decide))
          refine rsl (cI_e rfl) ?_
          refine rsl (if_neg (eqI_n (rfl) (li_3) (by omega))) ?_
          refine rsl (ltI_q (z := (k4 + 1)) (adI (hk4) (li_1))) ?_
          refine rsr (vC_e (rk_160 (hR.fr FR11))) ?_
          refine RrI (a196 (by omega) (hR.fr FR11) (w11_43) ((FR11.i _ _ (by decide)).trans h49) ((FR11.i _ _ (by decide)).trans h48) (li_14) (li_0) (by omega)) fun v Ma16 h16 => ?_
          obtain ⟨r15, rfl, g16, e16_k0, p16_0, p16_1⟩ := h16
          have f16 : Fr W_rx Mr Ma16 := Fr.t FR11 (Fr.m g16 (by decide))
          refine rsr (cI_e rfl) ?_
          exact hgo (m - i11 + 1).toNat _ _ (by omega) (Or.inl ⟨(k4 + 1), i11, rfl, by omega, ⟨(e11 + 1), u11, uc11, (pu G11 e11 [14, 0, -2, 0, ut, mu, 0]), U11, X11, f14, f16, ⟨(g14.i _ _ (by decide)).trans (q11_12), (g14.i _ _ (by decide)).trans (q11_13), (g14.i _ _ (by decide)).trans (q11_10), e14_k0, (g14.i _ _ (by decide)).trans (q11_16), (g14.i _ _ (by decide)).trans (q11_19)⟩, ⟨(g16.i _ _ (by decide)).trans (w11_36), (g16.i _ _ (by decide)).trans (w11_37), (g16.i _ _ (by decide)).trans (w11_38), (g16.i _ _ (by decide)).trans (w11_41), e16_k0, (g16.i _ _ (by decide)).trans (w11_51), (g16.i _ _ (by decide)).trans (w11_53), (g16.i _ _ (by decide)).trans (w11_50), (w11_n.fr g16 (by decide) (by decide))⟩, ⟨(CA1.em ca11 (by omega) p14_1 rfl), (RA1.em ra11 (by omega) p16_1 rfl), (lc11.fr g14 (by decide)), (lr11.fr g16 (by decide)), (cu11.fr g14 (by decide)), (ru11.fr g16 (by decide))⟩, ⟨by omega, by omega, by omega, by omega, by omega, by omega, by omega, by omega, by omega, by omega, by omega, by omega⟩, ⟨by omega, by omega, by omega, by omega, by omega, by omega⟩, (Ag.pu (Ag.t ag4 ag11 (by omega)) (by omega)), (Ag.t au4 au11 (by omega)), (AgL.t ax4 ax11 (by omega))⟩, by omega⟩)
        ·
          have FL11 : Fr W_cp Mc Mx11 := Fr.t (Fr.sI (by decide) (Fr.sI (by decide) FL4)) fl11
          have FR11 : Fr W_rp Mr Nx11 := Fr.t (Fr.m f10 W_rx_p) fr11
          obtain ⟨ti11, tz11, tn11, tu11, t1311, t1011, t1111, t1211, t911, t1611, t1911, tb11⟩ := tc11
          obtain ⟨re11, rn11, ru11, rm11, rt11, u4111, u4211, u4311, u5111, u5311, u4811, u4911, ub11⟩ := tr11
          refine rsl (cV_e rfl) ?_
          refine rsr (cV_e rfl) ?_
          refine rsl (vC_e (ck_65 (hC.fr FL11))) ?_
          refine RlI (y87 (by omega) (hC.fr FL11) (hTk.fr (WL := W_cp) FL11 (by decide)) (t1211) (t1311) (t1011) (t1111) (t911) (t1611) (t1911) (rfl) (li_0) (by omega)) fun v Ma18 h18 => ?_
          obtain ⟨rv17, sz17, sn17, uc17, rfl, g18, e18_sz17, e18_sn17, e18_uc17, e18_k0, e18_k1, e18_k2, e18_k3, p18_0, p18_1, p18_2, p18_3⟩ := h18
          have f18 : Fr W_cp Mc Ma18 := Fr.t FL11 (Fr.m g18 (by decide))
          refine rsl (cI_e rfl) ?_
          refine rsl (if_neg (eqI_n (rfl) (li_3) (by omega))) ?_
          refine rsl (ltI_q (z := (k4 + 1)) (adI (hk4) (li_1))) ?_
          refine rsr (vC_e (rk_160 (hR.fr FR11))) ?_
          refine RrI (x196_s (by omega) (hR.fr FR11) (u4111) (u4211) (u4311) (u5111) (u5311) (u4811) (u4911) (li_14) (li_0) (by omega)) fun v Ma20 h20 => ?_
          obtain ⟨rv19, em19, rfl, g20, e20_em19, e20_k0, e20_k1, e20_k2, e20_k3, e20_k4, p20_0, p20_1⟩ := h20
          have f20 : Fr W_rp Mr Ma20 := Fr.t FR11 (Fr.m g20 (by decide))
          refine rsr (cI_e rfl) ?_
          exact hgo 0 _ _ (by omega) (Or.inr ⟨(k4 + 1), F11, P11, rfl, by omega, f18, f20, ⟨ti11, sz17, sn17, uc17, e18_k0, e18_k1, e18_k2, e18_k3, e18_sz17, e18_sn17, e18_uc17, by omega⟩, ⟨em19, rn11, ru11, rm11, rt11, e20_k0, e20_k1, e20_em19, e20_k2, e20_k3, e20_k4, (g20.i _ _ (by decide)).trans (u4911), by omega⟩, rfl⟩)
      ·
        by_cases c21 : ((kd i4)) = 42
        ·
          refine rsl (cI_e (lk_42 (by omega) ((rfl).trans (congrArg iI (by omega))))) ?_
          refine rsl (if_pos (eqI_p (rfl) (rfl) (by omega))) ?_
          refine rsl (gtI_q (w := iI ((kd i4))) (ck_65 (hC.fr FL4)) (q4_13)) ?_
          refine rsl (cI_e (ok_42 (by omega) ((rfl).trans (congrArg iI (by omega))))) ?_
          refine rsl (vC_e (ck_65 (hC.fr FL4))) ?_
          have hm22 : i4 + 1 < m := hS.more i4 (by omega) (by omega) (by omega)
          refine rsl (cV_e (a63q (by omega) hS (hC.fr FL4) (hTk.fr (WL := W_cp) FL4 (by decide)) (q4_12) (q4_13) (q4_10) (i2 := (i4 + 1)) (by omega) (by omega))) ?_
          have hk23 := (hS.ok (i4 + 1) (by omega) (by omega)).r
          refine rsl (vC_e (ck_65 (hC.fr FL4).sI.sI)) ?_
          refine rsr (gtI_q (w := iI 0) (rk_160 (hR.fr FR4)) (w4_41)) ?_
          refine rsr (if_pos (eqI_p (rfl) (li_0) (by omega))) ?_
          refine rsr (gtI_q (w := iI ((kr (kd i4)))) (rk_160 (hR.fr FR4)) (w4_36)) ?_
          refine rsr (jn_v) ?_
          refine rsr (if_pos (krI_p (k := 42) (rfl) (li_42) (by omega) (by decide +kernel))) ?_
          refine rsr (jv_e) ?_
          refine rsr (gtI_q (w := iI ((kr (kd i4)))) (rk_160 (hR.fr FR4)) (w4_36)) ?_
          refine rsr (jn_v) ?_
          refine rsr (if_pos (krI_p (k := 42) (rfl) (li_42) (by omega) (by decide +kernel))) ?_
          refine rsr (jv_e) ?_
          refine rsr (vC_e (rk_160 (hR.fr FR4))) ?_
          refine RrV (nx_ok (by omega) hS (hR.fr FR4) (hT.fr (W := W_rx) FR4 (by decide) (by decide)) (fun i a b => (Fr.lc (W := W_rx) FR4 _ (by decide) _).trans (hW i a b)) (i := i4) (w4_41) (w4_38) (by omega) (by omega)) fun v Ma25 h25 => ?_
          obtain ⟨g25, e25_k0, e25_k1, e25_k2, p25_0⟩ := h25
          have f25 : Fr W_rx Mr Ma25 := Fr.t FR4 (Fr.m g25 (by decide))
          refine rsr (cV_e rfl) ?_
          refine rsr (vC_e (rk_160 (hR.fr f25))) ?_
          refine Rb_VV (hp _ _ (by omega) (by omega) T n m kd pl E tx ua ut mu _ _ G4 U4 Hl X4 (i4 + 1) e4 s u4 uc4 _ hS (hCx.fr (Fr.sI (by decide) (Fr.sI (by decide) FL4)) f25) ⟨(sI_nej (by decide)).trans (sI_eq), sI_eq, (sI_nej (by decide)).trans ((sI_nej (by decide)).trans (q4_10)), (sI_nej (by decide)).trans ((sI_nej (by decide)).trans (q4_9)), (sI_nej (by decide)).trans ((sI_nej (by decide)).trans (q4_16)), (sI_nej (by decide)).trans ((sI_nej (by decide)).trans (q4_19))⟩ ⟨e25_k0, e25_k1, e25_k2, (g25.i _ _ (by decide)).trans (w4_41), (g25.i _ _ (by decide)).trans (w4_43), (g25.i _ _ (by decide)).trans (w4_51), (g25.i _ _ (by decide)).trans (w4_53), (g25.i _ _ (by decide)).trans (w4_50), p25_0⟩ ⟨(ca4.fr (W := W_c0) (Fr.sI (by decide) (Fr.sI (by decide) Fr.r)) (by decide)), (ra4.fr g25 (by decide)), (lc4.fr (W := W_c0) (Fr.sI (by decide) (Fr.sI (by decide) Fr.r)) (by decide)), (lr4.fr g25 (by decide)), (cu4.fr (W := W_c0) (Fr.sI (by decide) (Fr.sI (by decide) Fr.r)) (by decide)), (ru4.fr g25 (by decide))⟩ ⟨by omega, by omega, by omega, by omega, by omega, by omega, by omega, by omega, by omega, by omega, by omega, by omega⟩ (vs2 (adI (rfl) (li_1)) (rfl))) fun v Mx26 w Nx26 hx26 => ?_
          rcases hx26 with ⟨i26, e26, u26, uc26, G26, U26, X26, fl26, fr26, sc26, sr26, rw26, bd26, mv26, ag26, au26, ax26⟩ | ⟨F26, P26, fl26, fr26, tc26, tr26⟩
          ·
            have FL26 : Fr W_cp Mc Mx26 := Fr.t (Fr.sI (by decide) (Fr.sI (by decide) FL4)) fl26
            have FR26 : Fr W_rx Mr Nx26 := Fr.t f25 fr26
            obtain ⟨bb26_0, bb26_1, bb26_2, bb26_3, bb26_4, bb26_5, bb26_6, bb26_7, bb26_8, bb26_9, bb26_10, bb26_11⟩ := bd26
            obtain ⟨q26_12, q26_13, q26_10, q26_9, q26_16, q26_19⟩ := sc26
            obtain ⟨w26_36, w26_37, w26_38, w26_41, w26_43, w26_51, w26_53, w26_50, w26_n⟩ := sr26
            obtain ⟨ca26, ra26, lc26, lr26, cu26, ru26⟩ := rw26
            have hk27 := (hS.ok i26 (by omega) (by omega)).r
            refine rsl (cV_e rfl) ?_
            refine rsr (cV_e rfl) ?_
            refine rsl (vC_e (ck_65 (hC.fr FL26))) ?_
            refine RlI (a87 (by omega) (hC.fr FL26) (q26_9) (rfl) (li_0) (by omega)) fun v Ma29 h29 => ?_
            obtain ⟨r28, rfl, g29, e29_k0, p29_0, p29_1⟩ := h29
            have f29 : Fr W_cp Mc Ma29 := Fr.t FL26 (Fr.m g29 (by decide))
            refine rsl (cI_e rfl) ?_
            refine rsl (if_neg (eqI_n (rfl) (li_3) (by omega))) ?_
            refine rsl (ltI_q (z := (k4 + 1)) (adI (hk4) (li_1))) ?_
            refine rsr (vC_e (rk_160 (hR.fr FR26))) ?_
            refine RrI (a196 (by omega) (hR.fr FR26) (w26_43) ((FR26.i _ _ (by decide)).trans h49) ((FR26.i _ _ (by decide)).trans h48) (li_12) (li_0) (by omega)) fun v Ma31 h31 => ?_
            obtain ⟨r30, rfl, g31, e31_k0, p31_0, p31_1⟩ := h31
            have f31 : Fr W_rx Mr Ma31 := Fr.t FR26 (Fr.m g31 (by decide))
            refine rsr (cI_e rfl) ?_
            exact hgo (m - i26 + 1).toNat _ _ (by omega) (Or.inl ⟨(k4 + 1), i26, rfl, by omega, ⟨(e26 + 1), u26, uc26, (pu G26 e26 [12, 0, -2, 0, ut, mu, 0]), U26, X26, f29, f31, ⟨(g29.i _ _ (by decide)).trans (q26_12), (g29.i _ _ (by decide)).trans (q26_13), (g29.i _ _ (by decide)).trans (q26_10), e29_k0, (g29.i _ _ (by decide)).trans (q26_16), (g29.i _ _ (by decide)).trans (q26_19)⟩, ⟨(g31.i _ _ (by decide)).trans (w26_36), (g31.i _ _ (by decide)).trans (w26_37), (g31.i _ _ (by decide)).trans (w26_38), (g31.i _ _ (by decide)).trans (w26_41), e31_k0, (g31.i _ _ (by decide)).trans (w26_51), (g31.i _ _ (by decide)).trans (w26_53), (g31.i _ _ (by decide)).trans (w26_50), (w26_n.fr g31 (by decide) (by decide))⟩, ⟨(CA1.em ca26 (by omega) p29_1 rfl), (RA1.em ra26 (by omega) p31_1 rfl), (lc26.fr g29 (by decide)), (lr26.fr g31 (by decide)), (cu26.fr g29 (by decide)), (ru26.fr g31 (by decide))⟩, ⟨by omega, by omega, by omega, by omega, by omega, by omega, by omega, by omega, by omega, by omega, by omega, by omega⟩, ⟨by omega, by omega, by omega, by omega, by omega, by omega⟩, (Ag.pu (Ag.t ag4 ag26 (by omega)) (by omega)), (Ag.t au4 au26 (by omega)), (AgL.t ax4 ax26 (by omega))⟩, by omega⟩)
          ·
            have FL26 : Fr W_cp Mc Mx26 := Fr.t (Fr.sI (by decide) (Fr.sI (by decide) FL4)) fl26
            have FR26 : Fr W_rp Mr Nx26 := Fr.t (Fr.m f25 W_rx_p) fr26
            obtain ⟨ti26, tz26, tn26, tu26, t1326, t1026, t1126, t1226, t926, t1626, t1926, tb26⟩ := tc26
            obtain ⟨re26, rn26, ru26, rm26, rt26, u4126, u4226, u4326, u5126, u5326, u4826, u4926, ub26⟩ := tr26
            refine rsl (cV_e rfl) ?_
            refine rsr (cV_e rfl) ?_
            refine rsl (vC_e (ck_65 (hC.fr FL26))) ?_
            refine RlI (y87 (by omega) (hC.fr FL26) (hTk.fr (WL := W_cp) FL26 (by decide)) (t1226) (t1326) (t1026) (t1126) (t926) (t1626) (t1926) (rfl) (li_0) (by omega)) fun v Ma33 h33 => ?_
            obtain ⟨rv32, sz32, sn32, uc32, rfl, g33, e33_sz32, e33_sn32, e33_uc32, e33_k0, e33_k1, e33_k2, e33_k3, p33_0, p33_1, p33_2, p33_3⟩ := h33
            have f33 : Fr W_cp Mc Ma33 := Fr.t FL26 (Fr.m g33 (by decide))
            refine rsl (cI_e rfl) ?_
            refine rsl (if_neg (eqI_n (rfl) (li_3) (by omega))) ?_
            refine rsl (ltI_q (z := (k4 + 1)) (adI (hk4) (li_1))) ?_
            refine rsr (vC_e (rk_160 (hR.fr FR26))) ?_
            refine RrI (x196_s (by omega) (hR.fr FR26) (u4126) (u4226) (u4326) (u5126) (u5326) (u4826) (u4926) (li_12) (li_0) (by omega)) fun v Ma35 h35 => ?_
            obtain ⟨rv34, em34, rfl, g35, e35_em34, e35_k0, e35_k1, e35_k2, e35_k3, e35_k4, p35_0, p35_1⟩ := h35
            have f35 : Fr W_rp Mr Ma35 := Fr.t FR26 (Fr.m g35 (by decide))
            refine rsr (cI_e rfl) ?_
            exact hgo 0 _ _ (by omega) (Or.inr ⟨(k4 + 1), F26, P26, rfl, by omega, f33, f35, ⟨ti26, sz32, sn32, uc32, e33_k0, e33_k1, e33_k2, e33_k3, e33_sz32, e33_sn32, e33_uc32, by omega⟩, ⟨em34, rn26, ru26, rm26, rt26, e35_k0, e35_k1, e35_em34, e35_k2, e35_k3, e35_k4, (g35.i _ _ (by decide)).trans (u4926), by omega⟩, rfl⟩)
        ·
          by_cases c36 : ((kd i4)) = 47
          ·
            refine rsl (cI_e (lk_47 (by omega) ((rfl).trans (congrArg iI (by omega))))) ?_
            refine rsl (if_pos (eqI_p (rfl) (rfl) (by omega))) ?_
            refine rsl (gtI_q (w := iI ((kd i4))) (ck_65 (hC.fr FL4)) (q4_13)) ?_
            refine rsl (cI_e (ok_47 (by omega) ((rfl).trans (congrArg iI (by omega))))) ?_
            refine rsl (vC_e (ck_65 (hC.fr FL4))) ?_
            have hm37 : i4 + 1 < m := hS.more i4 (by omega) (by omega) (by omega)
            refine rsl (cV_e (a63q (by omega) hS (hC.fr FL4) (hTk.fr (WL := W_cp) FL4 (by decide)) (q4_12) (q4_13) (q4_10) (i2 := (i4 + 1)) (by omega) (by omega))) ?_
            have hk38 := (hS.ok (i4 + 1) (by omega) (by omega)).r
            refine rsl (vC_e (ck_65 (hC.fr FL4).sI.sI)) ?_
            refine rsr (gtI_q (w := iI 0) (rk_160 (hR.fr FR4)) (w4_41)) ?_
            refine rsr (if_pos (eqI_p (rfl) (li_0) (by omega))) ?_
            refine rsr (gtI_q (w := iI ((kr (kd i4)))) (rk_160 (hR.fr FR4)) (w4_36)) ?_
            refine rsr (jn_v) ?_
            refine rsr (if_neg (krI_n (k := 42) (rfl) (li_42) (hS.ok i4 (by omega) (by omega)) (by unfold KdOK sgk; omega) (by decide +kernel) (by omega) (by omega))) ?_
            refine rsr (gtI_q (w := iI ((kr (kd i4)))) (rk_160 (hR.fr FR4)) (w4_36)) ?_
            refine rsr (if_pos (krI_p (k := 47) (rfl) (li_47) (by omega) (by decide +kernel))) ?_
            refine rsr (jv_e) ?_
            refine rsr (gtI_q (w := iI ((kr (kd i4)))) (rk_160 (hR.fr FR4)) (w4_36)) ?_
            refine rsr (jn_v) ?_
            refine rsr (if_neg (krI_n (k := 42) (rfl) (li_42) (hS.ok i4 (by omega) (by omega)) (by unfold KdOK sgk; omega) (by decide +kernel) (by omega) (by omega))) ?_
            refine rsr (gtI_q (w := iI ((kr (kd i4)))) (rk_160 (hR.fr FR4)) (w4_36)) ?_
            refine rsr (if_pos (krI_p (k := 47) (rfl) (li_47) (by omega) (by decide +kernel))) ?_
            refine rsr (jv_e) ?_
            refine rsr (vC_e (rk_160 (hR.fr FR4))) ?_
            refine RrV (nx_ok (by omega) hS (hR.fr FR4) (hT.fr (W := W_rx) FR4 (by decide) (by decide)) (fun i a b => (Fr.lc (W := W_rx) FR4 _ (by decide) _).trans (hW i a b)) (i := i4) (w4_41) (w4_38) (by omega) (by omega)) fun v Ma40 h40 => ?_
            obtain ⟨g40, e40_k0, e40_k1, e40_k2, p40_0⟩ := h40
            have f40 : Fr W_rx Mr Ma40 := Fr.t FR4 (Fr.m g40 (by decide))
            refine rsr (cV_e rfl) ?_
            refine rsr (vC_e (rk_160 (hR.fr f40))) ?_
            refine Rb_VV (hp _ _ (by omega) (by omega) T n m kd pl E tx ua ut mu _ _ G4 U4 Hl X4 (i4 + 1) e4 s u4 uc4 _ hS (hCx.fr (Fr.sI (by decide) (Fr.sI (by decide) FL4)) f40) ⟨(sI_nej (by decide)).trans (sI_eq), sI_eq, (sI_nej (by decide)).trans ((sI_nej (by decide)).trans (q4_10)), (sI_nej (by decide)).trans ((sI_nej (by decide)).trans (q4_9)), (sI_nej (by decide)).trans ((sI_nej (by decide)).trans (q4_16)), (sI_nej (by decide)).trans ((sI_nej (by decide)).trans (q4_19))⟩ ⟨e40_k0, e40_k1, e40_k2, (g40.i _ _ (by decide)).trans (w4_41), (g40.i _ _ (by decide)).trans (w4_43), (g40.i _ _ (by decide)).trans (w4_51), (g40.i _ _ (by decide)).trans (w4_53), (g40.i _ _ (by decide)).trans (w4_50), p40_0⟩ ⟨(ca4.fr (W := W_c0) (Fr.sI (by decide) (Fr.sI (by decide) Fr.r)) (by decide)), (ra4.fr g40 (by decide)), (lc4.fr (W := W_c0) (Fr.sI (by decide) (Fr.sI (by decide) Fr.r)) (by decide)), (lr4.fr g40 (by decide)), (cu4.fr (W := W_c0) (Fr.sI (by decide) (Fr.sI (by decide) Fr.r)) (by decide)), (ru4.fr g40 (by decide))⟩ ⟨by omega, by omega, by omega, by omega, by omega, by omega, by omega, by omega, by omega, by omega, by omega, by omega⟩ (vs2 (adI (rfl) (li_1)) (rfl))) fun v Mx41 w Nx41 hx41 => ?_
            rcases hx41 with ⟨i41, e41, u41, uc41, G41, U41, X41, fl41, fr41, sc41, sr41, rw41, bd41, mv41, ag41, au41, ax41⟩ | ⟨F41, P41, fl41, fr41, tc41, tr41⟩
            ·
              have FL41 : Fr W_cp Mc Mx41 := Fr.t (Fr.sI (by decide) (Fr.sI (by decide) FL4)) fl41
              have FR41 : Fr W_rx Mr Nx41 := Fr.t f40 fr41
              obtain ⟨bb41_0, bb41_1, bb41_2, bb41_3, bb41_4, bb41_5, bb41_6, bb41_7, bb41_8, bb41_9, bb41_10, bb41_11⟩ := bd41
              obtain ⟨q41_12, q41_13, q41_10, q41_9, q41_16, q41_19⟩ := sc41
              obtain ⟨w41_36, w41_37, w41_38, w41_41, w41_43, w41_51, w41_53, w41_50, w41_n⟩ := sr41
              obtain ⟨ca41, ra41, lc41, lr41, cu41, ru41⟩ := rw41
              have hk42 := (hS.ok i41 (by omega) (by omega)).r
              refine rsl (cV_e rfl) ?_
              refine rsr (cV_e rfl) ?_
              refine rsl (vC_e (ck_65 (hC.fr FL41))) ?_
              refine RlI (a87 (by omega) (hC.fr FL41) (q41_9) (rfl) (li_0) (by omega)) fun v Ma44 h44 => ?_
              obtain ⟨r43, rfl, g44, e44_k0, p44_0, p44_1⟩ := h44
              have f44 : Fr W_cp Mc Ma44 := Fr.t FL41 (Fr.m g44 (by decide))
              refine rsl (cI_e rfl) ?_
              refine rsl (if_neg (eqI_n (rfl) (li_3) (by omega))) ?_
              refine rsl (ltI_q (z := (k4 + 1)) (adI (hk4) (li_1))) ?_
              refine rsr (vC_e (rk_160 (hR.fr FR41))) ?_
              refine RrI (a196 (by omega) (hR.fr FR41) (w41_43) ((FR41.i _ _ (by decide)).trans h49) ((FR41.i _ _ (by decide)).trans h48) (li_13) (li_0) (by omega)) fun v Ma46 h46 => ?_
              obtain ⟨r45, rfl, g46, e46_k0, p46_0, p46_1⟩ := h46
              have f46 : Fr W_rx Mr Ma46 := Fr.t FR41 (Fr.m g46 (by decide))
              refine rsr (cI_e rfl) ?_
              exact hgo (m - i41 + 1).toNat _ _ (by omega) (Or.inl ⟨(k4 + 1), i41, rfl, by omega, ⟨(e41 + 1), u41, uc41, (pu G41 e41 [13, 0, -2, 0, ut, mu, 0]), U41, X41, f44, f46, ⟨(g44.i _ _ (by decide)).trans (q41_12), (g44.i _ _ (by decide)).trans (q41_13), (g44.i _ _ (by decide)).trans (q41_10), e44_k0, (g44.i _ _ (by decide)).trans (q41_16), (g44.i _ _ (by decide)).trans (q41_19)⟩, ⟨(g46.i _ _ (by decide)).trans (w41_36), (g46.i _ _ (by decide)).trans (w41_37), (g46.i _ _ (by decide)).trans (w41_38), (g46.i _ _ (by decide)).trans (w41_41), e46_k0, (g46.i _ _ (by decide)).trans (w41_51), (g46.i _ _ (by decide)).trans (w41_53), (g46.i _ _ (by decide)).trans (w41_50), (w41_n.fr g46 (by decide) (by decide))⟩, ⟨(CA1.em ca41 (by omega) p44_1 rfl), (RA1.em ra41 (by omega) p46_1 rfl), (lc41.fr g44 (by decide)), (lr41.fr g46 (by decide)), (cu41.fr g44 (by decide)), (ru41.fr g46 (by decide))⟩, ⟨by omega, by omega, by omega, by omega, by omega, by omega, by omega, by omega, by omega, by omega, by omega, by omega⟩, ⟨by omega, by omega, by omega, by omega, by omega, by omega⟩, (Ag.pu (Ag.t ag4 ag41 (by omega)) (by omega)), (Ag.t au4 au41 (by omega)), (AgL.t ax4 ax41 (by omega))⟩, by omega⟩)
            ·
              have FL41 : Fr W_cp Mc Mx41 := Fr.t (Fr.sI (by decide) (Fr.sI (by decide) FL4)) fl41
              have FR41 : Fr W_rp Mr Nx41 := Fr.t (Fr.m f40 W_rx_p) fr41
              obtain ⟨ti41, tz41, tn41, tu41, t1341, t1041, t1141, t1241, t941, t1641, t1941, tb41⟩ := tc41
              obtain ⟨re41, rn41, ru41, rm41, rt41, u4141, u4241, u4341, u5141, u5341, u4841, u4941, ub41⟩ := tr41
              refine rsl (cV_e rfl) ?_
              refine rsr (cV_e rfl) ?_
              refine rsl (vC_e (ck_65 (hC.fr FL41))) ?_
              refine RlI (y87 (by omega) (hC.fr FL41) (hTk.fr (WL := W_cp) FL41 (by decide)) (t1241) (t1341) (t1041) (t1141) (t941) (t1641) (t1941) (rfl) (li_0) (by omega)) fun v Ma48 h48 => ?_
              obtain ⟨rv47, sz47, sn47, uc47, rfl, g48, e48_sz47, e48_sn47, e48_uc47, e48_k0, e48_k1, e48_k2, e48_k3, p48_0, p48_1, p48_2, p48_3⟩ := h48
              have f48 : Fr W_cp Mc Ma48 := Fr.t FL41 (Fr.m g48 (by decide))
              refine rsl (cI_e rfl) ?_
              refine rsl (if_neg (eqI_n (rfl) (li_3) (by omega))) ?_
              refine rsl (ltI_q (z := (k4 + 1)) (adI (hk4) (li_1))) ?_
              refine rsr (vC_e (rk_160 (hR.fr FR41))) ?_
              refine RrI (x196_s (by omega) (hR.fr FR41) (u4141) (u4241) (u4341) (u5141) (u5341) (u4841) (u4941) (li_13) (li_0) (by omega)) fun v Ma50 h50 => ?_
              obtain ⟨rv49, em49, rfl, g50, e50_em49, e50_k0, e50_k1, e50_k2, e50_k3, e50_k4, p50_0, p50_1⟩ := h50
              have f50 : Fr W_rp Mr Ma50 := Fr.t FR41 (Fr.m g50 (by decide))
              refine rsr (cI_e rfl) ?_
              exact hgo 0 _ _ (by omega) (Or.inr ⟨(k4 + 1), F41, P41, rfl, by omega, f48, f50, ⟨ti41, sz47, sn47, uc47, e48_k0, e48_k1, e48_k2, e48_k3, e48_sz47, e48_sn47, e48_uc47, by omega⟩, ⟨em49, rn41, ru41, rm41, rt41, e50_k0, e50_k1, e50_em49, e50_k2, e50_k3, e50_k4, (g50.i _ _ (by decide)).trans (u4941), by omega⟩, rfl⟩)
          ·
            refine RlI (lv_5 (by omega) (rfl) (by omega)) fun v Ml51 hl51 => ?_
            obtain ⟨rl51, rfl, rfl, nl51, bl51⟩ := hl51
            refine rsl (cI_e rfl) ?_
            refine rsl (if_neg (eqI_n (rfl) (rfl) (by omega))) ?_
            refine rsl (jv_e) ?_
            refine rsr (gtI_q (w := iI 0) (rk_160 (hR.fr FR4)) (w4_41)) ?_
            refine rsr (if_pos (eqI_p (rfl) (li_0) (by omega))) ?_
            refine rsr (gtI_q (w := iI ((kr (kd i4)))) (rk_160 (hR.fr FR4)) (w4_36)) ?_
            refine rsr (jn_v) ?_
            refine rsr (if_neg (krI_n (k := 42) (rfl) (li_42) (hS.ok i4 (by omega) (by omega)) (by unfold KdOK sgk; omega) (by decide +kernel) (by omega) (by omega))) ?_
            refine rsr (gtI_q (w := iI ((kr (kd i4)))) (rk_160 (hR.fr FR4)) (w4_36)) ?_
            refine rsr (if_neg (krI_n (k := 47) (rfl) (li_47) (hS.ok i4 (by omega) (by omega)) (by unfold KdOK sgk; omega) (by decide +kernel) (by omega) (by omega))) ?_
            refine rsr (gtI_q (w := iI ((kr (kd i4)))) (rk_160 (hR.fr FR4)) (w4_36)) ?_
            refine rsr (if_neg (krI_n (k := 37) (rfl) (li_37) (hS.ok i4 (by omega) (by omega)) (by unfold KdOK sgk; omega) (by decide +kernel) (by omega) (by omega))) ?_
            refine rsr (jv_e) ?_
            exact Rs.ok (Or.inl ⟨i4, e4, u4, uc4, G4, U4, X4, FL4, FR4, ⟨q4_12, q4_13, q4_10, q4_9, q4_16, q4_19⟩, ⟨w4_36, w4_37, w4_38, w4_41, w4_43, w4_51, w4_53, w4_50, w4_n⟩, ⟨ca4, ra4, lc4, lr4, cu4, ru4⟩, ⟨by omega, by omega, by omega, by omega, by omega, by omega, by omega, by omega, by omega, by omega, by omega, by omega⟩, ⟨by omega, by omega, by omega, by omega, by omega, by omega⟩, ag4, au4, ax4⟩)
    ·
      obtain ⟨k4, F4, P4, hk4, ⟨hka4, hkb4⟩, FL4, FR4, tc4, tr4, hm4⟩ := hq
      obtain ⟨ti4, tz4, tn4, tu4, t134, t104, t114, t124, t94, t164, t194, tb4⟩ := tc4
      obtain ⟨re4, rn4, ru4, rm4, rt4, u414, u424, u434, u514, u534, u484, u494, ub4⟩ := tr4
      unfold c99_61 c207_4
      refine rsl (if_neg (leI_n (li_3000) (hk4) (by omega))) ?_
      refine rsl (gtI_q (w := iI 2) (ck_65 (hC.fr FL4)) (t134)) ?_
      refine rsl (cI_e (y102 (by omega) (rfl))) ?_
      refine rsl (if_neg (eqI_n (rfl) (rfl) (by omega))) ?_
      refine rsl (jv_e) ?_
      refine rsr (gtI_q (w := iI F4) (rk_160 (hR.fr FR4)) (u414)) ?_
      refine rsr (if_neg (eqI_n (rfl) (li_0) (by omega))) ?_
      refine rsr (jv_e) ?_
      exact Rs.ok (Or.inr ⟨F4, P4, FL4, FR4, ⟨ti4, tz4, tn4, tu4, t134, t104, t114, t124, t94, t164, t194, by omega⟩, ⟨re4, rn4, ru4, rm4, rt4, u414, u424, u434, u514, u534, u484, u494, by omega⟩⟩)
  ·
    have FL2 : Fr W_cp Mc Mx2 := Fr.t Fr.r fl2
    have FR2 : Fr W_rp Mr Nx2 := Fr.t (Fr.m Fr.r W_rx_p) fr2
    obtain ⟨ti2, tz2, tn2, tu2, t132, t102, t112, t122, t92, t162, t192, tb2⟩ := tc2
    obtain ⟨re2, rn2, ru2, rm2, rt2, u412, u422, u432, u512, u532, u482, u492, ub2⟩ := tr2
    refine rsl (cV_e rfl) ?_
    refine rsr (cV_e rfl) ?_
    refine rsl (jn_v) ?_
    refine rsl (jn_v) ?_
    refine rsl (lp_e) ?_
    unfold c99_61
    refine rsl (if_neg (leI_n (li_3000) (li_0) (by omega))) ?_
    refine rsl (gtI_q (w := iI 2) (ck_65 (hC.fr FL2)) (t132)) ?_
    refine rsl (cI_e (y102 (by omega) (rfl))) ?_
    refine rsl (if_neg (eqI_n (rfl) (rfl) (by omega))) ?_
    refine rsl (jv_e) ?_
    refine rsr (jn_v) ?_
    refine rsr (lp_e) ?_
    unfold c207_4
    refine rsr (gtI_q (w := iI F2) (rk_160 (hR.fr FR2)) (u412)) ?_
    refine rsr (if_neg (eqI_n (rfl) (li_0) (by omega))) ?_
    refine rsr (jv_e) ?_
    exact Rs.ok (Or.inr ⟨F2, P2, FL2, FR2, ⟨ti2, tz2, tn2, tu2, t132, t102, t112, t122, t92, t162, t192, by omega⟩, ⟨re2, rn2, ru2, rm2, rt2, u412, u422, u432, u512, u532, u482, u492, by omega⟩⟩)
theorem p_4 {D : Nat} {dp : Int} (hD : 20 ≤ D) (hp : Pair D 99 [5] 207 19 dp) : Pair (D + 1) 99 [4] 208 18 dp := by
  intro d d2 hd hd2 T n m kd pl E tx ua ut mu Mc Mr G U Hl X i e s u uc vs hS hx hsc hsr hrw hbd hvs
  subst hvs
  obtain ⟨d, rfl⟩ : ∃ e, d = e + 1 := ⟨d - 1, by omega⟩
  obtain ⟨d2, rfl⟩ : ∃ e, d2 = e + 1 := ⟨d2 - 1, by omega⟩
  show Rs (runX (d + 1) 99 [va_rf (some 65), .int (iI 4), .int (iI dp)] Mc) (runX (d2 + 1) 208 [va_rf (some 160)] Mr) _
  rw [r99]; unfold b99; rw [aR_e, aI_e, aI_e, aZ_e]; unfold c99; rw [r208]; unfold b208; rw [aR_e, aZ_e]; unfold c208
  have hCx := hx
  obtain ⟨hC, hR, hTk, hT, hW, ⟨hu1, hu2, hu3, hu4⟩, h49, h48, ⟨hb1, hb2, hb3, hb4⟩⟩ := hx
  obtain ⟨bb_0, bb_1, bb_2, bb_3, bb_4, bb_5, bb_6, bb_7, bb_8, bb_9, bb_10, bb_11⟩ := hbd
  obtain ⟨qa_12, qa_13, qa_10, qa_9, qa_16, qa_19⟩ := hsc
  obtain ⟨wa_36, wa_37, wa_38, wa_41, wa_43, wa_51, wa_53, wa_50, wa_n⟩ := hsr
  obtain ⟨caa, raa, lca, lra, cua, rua⟩ := hrw
  have hk1 := (hS.ok i (by omega) (by omega)).r
  refine rsl (if_pos (leI_p (rfl) (li_5) (by omega))) ?_
  refine rsl (jn_v) ?_
  refine rsl (if_neg (eqI_n (rfl) (li_2) (by omega))) ?_
  refine rsl (jv_e) ?_
  refine rsl (vC_e (ck_65 hC)) ?_
  refine rsr (vC_e (rk_160 hR)) ?_
  refine Rb_VV (hp _ _ (by omega) (by omega) T n m kd pl E tx ua ut mu _ _ G U Hl X i e s u uc _ hS (hCx.fr Fr.r Fr.r) ⟨qa_12, qa_13, qa_10, qa_9, qa_16, qa_19⟩ ⟨wa_36, wa_37, wa_38, wa_41, wa_43, wa_51, wa_53, wa_50, wa_n⟩ ⟨caa, raa, lca, lra, cua, rua⟩ ⟨by omega, by omega, by omega, by omega, by omega, by omega, by omega, by omega, by omega, by omega, by omega, by omega⟩ (vs2 (adI (rfl) (li_1)) (rfl))) fun v Mx2 w Nx2 hx2 => ?_
  rcases hx2 with ⟨i2, e2, u2, uc2, G2, U2, X2, fl2, fr2, sc2, sr2, rw2, bd2, mv2, ag2, au2, ax2⟩ | ⟨F2, P2, fl2, fr2, tc2, tr2⟩
  ·
    have FL2 : Fr W_cp Mc Mx2 := Fr.t Fr.r fl2
    have FR2 : Fr W_rx Mr Nx2 := Fr.t Fr.r fr2
    obtain ⟨bb2_0, bb2_1, bb2_2, bb2_3, bb2_4, bb2_5, bb2_6, bb2_7, bb2_8, bb2_9, bb2_10, bb2_11⟩ := bd2
    obtain ⟨q2_12, q2_13, q2_10, q2_9, q2_16, q2_19⟩ := sc2
    obtain ⟨w2_36, w2_37, w2_38, w2_41, w2_43, w2_51, w2_53, w2_50, w2_n⟩ := sr2
    obtain ⟨ca2, ra2, lc2, lr2, cu2, ru2⟩ := rw2
    have hk3 := (hS.ok i2 (by omega) (by omega)).r
    refine rsl (cV_e rfl) ?_
    refine rsr (cV_e rfl) ?_
    refine rsl (jn_v) ?_
    refine rsl (jn_v) ?_
    refine rsr (jn_v) ?_
    refine Rb_lp (fun m2 q t => (∃ (k i2 : Int), q.1 = iI k ∧ (0 ≤ k ∧ k ≤ i2) ∧ PK m kd pl E tx Mc Mr G U Hl X i e s u uc dp q.2 t i2 ∧ (m2 : Int) = m - i2 + 1) ∨ ∃ (k F P : Int), q.1 = iI k ∧ (0 ≤ k ∧ k ≤ 1500) ∧ Fr W_cp Mc q.2 ∧ Fr W_rp Mr t ∧ FTc m F P q.2 ∧ FTr (2500 - 30 * dp - 18) F P t ∧ m2 = 0) (fun m2 q t gl gr hq hgo => ?_) (m - i2 + 1).toNat _ _ _ _ (by omega) (by omega) (Or.inl ⟨0, i2, li_0, by omega, ⟨e2, u2, uc2, G2, U2, X2, FL2, FR2, ⟨q2_12, q2_13, q2_10, q2_9, q2_16, q2_19⟩, ⟨w2_36, w2_37, w2_38, w2_41, w2_43, w2_51, w2_53, w2_50, w2_n⟩, ⟨ca2, ra2, lc2, lr2, cu2, ru2⟩, ⟨by omega, by omega, by omega, by omega, by omega, by omega, by omega, by omega, by omega, by omega, by omega, by omega⟩, ⟨by omega, by omega, by omega, by omega, by omega, by omega⟩, (Ag.t Ag.r ag2 (by omega)), (Ag.t Ag.r au2 (by omega)), (AgL.t AgL.r ax2 (by omega))⟩, by omega⟩)
    obtain ⟨qk4, qm4⟩ := q
    dsimp only at hq
    try dsimp only
    rcases hq with hq | hq
    ·
      obtain ⟨k4, i4, hk4, ⟨hka4, hkb4⟩, ⟨e4, u4, uc4, G4, U4, X4, FL4, FR4, sc4, sr4, rw4, bd4, ⟨mv4_0, mv4_1, mv4_2, mv4_3, mv4_4, mv4_5⟩, ag4, au4, ax4⟩, hm4⟩ := hq
      obtain ⟨bb4_0, bb4_1, bb4_2, bb4_3, bb4_4, bb4_5, bb4_6, bb4_7, bb4_8, bb4_9, bb4_10, bb4_11⟩ := bd4
      obtain ⟨q4_12, q4_13, q4_10, q4_9, q4_16, q4_19⟩ := sc4
      obtain ⟨w4_36, w4_37, w4_38, w4_41, w4_43, w4_51, w4_53, w4_50, w4_n⟩ := sr4
      obtain ⟨ca4, ra4, lc4, lr4, cu4, ru4⟩ := rw4
      have hk5 := (hS.ok i4 (by omega) (by omega)).r
      unfold c99_61 c208_4
      refine rsl (if_neg (leI_n (li_3000) (hk4) (by omega))) ?_
      refine rsl (gtI_q (w := iI ((kd i4))) (ck_65 (hC.fr FL4)) (q4_13)) ?_
      by_cases c6 : ((kd i4)) = 43
      ·
        refine rsl (cI_e (lk_43 (by omega) ((rfl).trans (congrArg iI (by omega))))) ?_
        refine rsl (if_pos (eqI_p (rfl) (rfl) (by omega))) ?_
        refine rsl (gtI_q (w := iI ((kd i4))) (ck_65 (hC.fr FL4)) (q4_13)) ?_
        refine rsl (cI_e (ok_43 (by omega) ((rfl).trans (congrArg iI (by omega))))) ?_
        refine rsl (vC_e (ck_65 (hC.fr FL4))) ?_
        have hm7 : i4 + 1 < m := hS.more i4 (by omega) (by omega) (by omega)
        refine rsl (cV_e (a63q (by omega) hS (hC.fr FL4) (hTk.fr (WL := W_cp) FL4 (by decide)) (q4_12) (q4_13) (q4_10) (i2 := (i4 + 1)) (by omega) (by omega))) ?_
        have hk8 := (hS.ok (i4 + 1) (by omega) (by omega)).r
        refine rsl (vC_e (ck_65 (hC.fr FL4).sI.sI)) ?_
        refine rsr (gtI_q (w := iI 0) (rk_160 (hR.fr FR4)) (w4_41)) ?_
        refine rsr (if_pos (eqI_p (rfl) (li_0) (by omega))) ?_
        refine rsr (gtI_q (w := iI ((kr (kd i4)))) (rk_160 (hR.fr FR4)) (w4_36)) ?_
        refine rsr (jn_v) ?_
        refine rsr (if_pos (krI_p (k := 43) (rfl) (li_43) (by omega) (by decide +kernel))) ?_
        refine rsr (jv_e) ?_
        refine rsr (gtI_q (w := iI ((kr (kd i4)))) (rk_160 (hR.fr FR4)) (w4_36)) ?_
        refine rsr (jn_v) ?_
        refine rsr (if_pos (krI_p (k := 43) (rfl) (li_43) (by omega) (by decide +kernel))) ?_
        refine rsr (jv_e) ?_
        refine rsr (vC_e (rk_160 (hR.fr FR4))) ?_
        refine RrV (nx_ok (by omega) hS (hR.fr FR4) (hT.fr (W := W_rx) FR4 (by decide) (by decide)) (fun i a b => (Fr.lc (W := W_rx) FR4 _ (by decide) _).trans (hW i a b)) (i := i4) (w4_41) (w4_38) (by omega) (by omega)) fun v Ma10 h10 => ?_
        obtain ⟨g10, e10_k0, e10_k1, e10_k2, p10_0⟩ := h10
        have f10 : Fr W_rx Mr Ma10 := Fr.t FR4 (Fr.m g10 (by decide))
        refine rsr (cV_e rfl) ?_
        refine rsr (vC_e (rk_160 (hR.fr f10))) ?_
        refine Rb_VV (hp _ _ (by omega) (by omega) T n m kd pl E tx ua ut mu _ _ G4 U4 Hl X4 (i4 + 1) e4 s u4 uc4 _ hS (hCx.fr (Fr.sI (by decide) (Fr.sI (by decide) FL4)) f10) ⟨(sI_nej (by decide)).trans (sI_eq), sI_eq, (sI_nej (by decide)).trans ((sI_nej (by decide)).trans (q4_10)), (sI_nej (by decide)).trans ((sI_nej (by decide)).trans (q4_9)), (sI_nej (by decide)).trans ((sI_nej (by decide)).trans (q4_16)), (sI_nej (by decide)).trans ((sI_nej (by decide)).trans (q4_19))⟩ ⟨e10_k0, e10_k1, e10_k2, (g10.i _ _ (by decide)).trans (w4_41), (g10.i _ _ (by decide)).trans (w4_43), (g10.i _ _ (by decide)).trans (w4_51), (g10.i _ _ (by decide)).trans (w4_53), (g10.i _ _ (by decide)).trans (w4_50), p10_0⟩ ⟨(ca4.fr (W := W_c0) (Fr.sI (by decide) (Fr.sI (by decide) Fr.r)) (by decide)), (ra4.fr g10 (by decide)), (lc4.fr (W := W_c0) (Fr.sI (by decide) (Fr.sI (by decide) Fr.r)) (by decide)), (lr4.fr g10 (by decide)), (cu4.fr (W := W_c0) (Fr.sI (by decide) (Fr.sI (by decide) Fr.r)) (by decide)), (ru4.fr g10 (by decide))⟩ ⟨by omega, by omega, by omega, by omega, by omega, by omega, by omega, by omega, by omega, by omega, by omega, by omega⟩ (vs2 (adI (rfl) (li_1)) (rfl))) fun v Mx11 w Nx11 hx11 => ?_
        rcases hx11 with ⟨i11, e11, u11, uc11, G11, U11, X11, fl11, fr11, sc11, sr11, rw11, bd11, mv11, ag11, au11, ax11⟩ | ⟨F11, P11, fl11, fr11, tc11, tr11⟩
        ·
          have FL11 : Fr W_cp Mc Mx11 := Fr.t (Fr.sI (by decide) (Fr.sI (by decide) FL4)) fl11
          have FR11 : Fr W_rx Mr Nx11 := Fr.t f10 fr11
          obtain ⟨bb11_0, bb11_1, bb11_2, bb11_3, bb11_4, bb11_5, bb11_6, bb11_7, bb11_8, bb11_9, bb11_10, bb11_11⟩ := bd11
          obtain ⟨q11_12, q11_13, q11_10, q11_9, q11_16, q11_19⟩ := sc11
          obtain ⟨w11_36, w11_37, w11_38, w11_41, w11_43, w11_51, w11_53, w11_50, w11_n⟩ := sr11
          obtain ⟨ca11, ra11, lc11, lr11, cu11, ru11⟩ := rw11
          have hk12 := (hS.ok i11 (by omega) (by omega)).r
          refine rsl (cV_e rfl) ?_
          refine rsr (cV_e rfl) ?_
          refine rsl (vC_e (ck_65 (hC.fr FL11))) ?_
          refine RlI (a87 (by omega) (hC.fr FL11) (q11_9) (rfl) (li_0) (by omega)) fun v Ma14 h14 => ?_
          obtain ⟨r13, rfl, g14, e14_k0, p14_0, p14_1⟩ := h14
          have f14 : Fr W_cp Mc Ma14 := Fr.t FL11 (Fr.m g14 (by decide))
          refine rsl (cI_e rfl) ?_
          refine rsl (if_neg (eqI_n (rfl) (li_3) (by omega))) ?_
          refine rsl (ltI_q (z := (k4 + 1)) (adI (hk4) (li_1))) ?_
          refine rsr (vC_e (rk_160 (hR.fr FR11))) ?_
          refine RrI (a196 (by omega) (hR.fr FR11) (w11_43) ((FR11.i _ _ (by decide)).trans h49) ((FR11.i _ _ (by decide)).trans h48) (li_10) (li_0) (by omega)) fun v Ma16 h16 => ?_
          obtain ⟨r15, rfl, g16, e16_k0, p16_0, p16_1⟩ := h16
          have f16 : Fr W_rx Mr Ma16 := Fr.t FR11 (Fr.m g16 (by decide))
          refine rsr (cI_e rfl) ?_
          exact hgo (m - i11 + 1).toNat _ _ (by omega) (Or.inl ⟨(k4 + 1), i11, rfl, by omega, ⟨(e11 + 1), u11, uc11, (pu G11 e11 [10, 0, -2, 0, ut, mu, 0]), U11, X11, f14, f16, ⟨(g14.i _ _ (by decide)).trans (q11_12), (g14.i _ _ (by decide)).trans (q11_13), (g14.i _ _ (by decide)).trans (q11_10), e14_k0, (g14.i _ _ (by decide)).trans (q11_16), (g14.i _ _ (by decide)).trans (q11_19)⟩, ⟨(g16.i _ _ (by decide)).trans (w11_36), (g16.i _ _ (by decide)).trans (w11_37), (g16.i _ _ (by decide)).trans (w11_38), (g16.i _ _ (by decide)).trans (w11_41), e16_k0, (g16.i _ _ (by decide)).trans (w11_51), (g16.i _ _ (by decide)).trans (w11_53), (g16.i _ _ (by decide)).trans (w11_50), (w11_n.fr g16 (by decide) (by decide))⟩, ⟨(CA1.em ca11 (by omega) p14_1 rfl), (RA1.em ra11 (by omega) p16_1 rfl), (lc11.fr g14 (by decide)), (lr11.fr g16 (by decide)), (cu11.fr g14 (by decide)), (ru11.fr g16 (by decide))⟩, ⟨by omega, by omega, by omega, by omega, by omega, by omega, by omega, by omega, by omega, by omega, by omega, by omega⟩, ⟨by omega, by omega, by omega, by omega, by omega, by omega⟩, (Ag.pu (Ag.t ag4 ag11 (by omega)) (by omega)), (Ag.t au4 au11 (by omega)), (AgL.t ax4 ax11 (by omega))⟩, by omega⟩)
        ·
          have FL11 : Fr W_cp Mc Mx11 := Fr.t (Fr.sI (by decide) (Fr.sI (by decide) FL4)) fl11
          have FR11 : Fr W_rp Mr Nx11 := Fr.t (Fr.m f10 W_rx_p) fr11
          obtain ⟨ti11, tz11, tn11, tu11, t1311, t1011, t1111, t1211, t911, t1611, t1911, tb11⟩ := tc11
          obtain ⟨re11, rn11, ru11, rm11, rt11, u4111, u4211, u4311, u5111, u5311, u4811, u4911, ub11⟩ := tr11
          refine rsl (cV_e rfl) ?_
          refine rsr (cV_e rfl) ?_
          refine rsl (vC_e (ck_65 (hC.fr FL11))) ?_
          refine RlI (y87 (by omega) (hC.fr FL11) (hTk.fr (WL := W_cp) FL11 (by decide)) (t1211) (t1311) (t1011) (t1111) (t911) (t1611) (t1911) (rfl) (li_0) (by omega)) fun v Ma18 h18 => ?_
          obtain ⟨rv17, sz17, sn17, uc17, rfl, g18, e18_sz17, e18_sn17, e18_uc17, e18_k0, e18_k1, e18_k2, e18_k3, p18_0, p18_1, p18_2, p18_3⟩ := h18
          have f18 : Fr W_cp Mc Ma18 := Fr.t FL11 (Fr.m g18 (by decide))
          refine rsl (cI_e rfl) ?_
          refine rsl (if_neg (eqI_n (rfl) (li_3) (by omega))) ?_
          refine rsl (ltI_q (z := (k4 + 1)) (adI (hk4) (li_1))) ?_
          refine rsr (vC_e (rk_160 (hR.fr FR11))) ?_
          refine RrI (x196_s (by omega) (hR.fr FR11) (u4111) (u4211) (u4311) (u5111) (u5311) (u4811) (u4911) (li_10) (li_0) (by omega)) fun v Ma20 h20 => ?_
          obtain ⟨rv19, em19, rfl, g20, e20_em19, e20_k0, e20_k1, e20_k2, e20_k3, e20_k4, p20_0, p20_1⟩ := h20
          have f20 : Fr W_rp Mr Ma20 := Fr.t FR11 (Fr.m g20 (by decide))
          refine rsr (cI_e rfl) ?_
          exact hgo 0 _ _ (by omega) (Or.inr ⟨(k4 + 1), F11, P11, rfl, by omega, f18, f20, ⟨ti11, sz17, sn17, uc17, e18_k0, e18_k1, e18_k2, e18_k3, e18_sz17, e18_sn17, e18_uc17, by omega⟩, ⟨em19, rn11, ru11, rm11, rt11, e20_k0, e20_k1, e20_em19, e20_k2, e20_k3, e20_k4, (g20.i _ _ (by decide)).trans (u4911), by omega⟩, rfl⟩)
      ·
        by_cases c21 : ((kd i4)) = 45
        ·
          refine rsl (cI_e (lk_45 (by omega) ((rfl).trans (congrArg iI (by omega))))) ?_
          refine rsl (if_pos (eqI_p (rfl) (rfl) (by omega))) ?_
          refine rsl (gtI_q (w := iI ((kd i4))) (ck_65 (hC.fr FL4)) (q4_13)) ?_
          refine rsl (cI_e (ok_45 (by omega) ((rfl).trans (congrArg iI (by omega))))) ?_
          refine rsl (vC_e (ck_65 (hC.fr FL4))) ?_
          have hm22 : i4 + 1 < m := hS.more i4 (by omega) (by omega) (by omega)
          refine rsl (cV_e (a63q (by omega) hS (hC.fr FL4) (hTk.fr (WL := W_cp) FL4 (by decide)) (q4_12) (q4_13) (q4_10) (i2 := (i4 + 1)) (by omega) (by omega))) ?_
          have hk23 := (hS.ok (i4 + 1) (by omega) (by omega)).r
          refine rsl (vC_e (ck_65 (hC.fr FL4).sI.sI)) ?_
          refine rsr (gtI_q (w := iI 0) (rk_160 (hR.fr FR4)) (w4_41)) ?_
          refine rsr (if_pos (eqI_p (rfl) (li_0) (by omega))) ?_
          refine rsr (gtI_q (w := iI ((kr (kd i4)))) (rk_160 (hR.fr FR4)) (w4_36)) ?_
          refine rsr (jn_v) ?_
          refine rsr (if_neg (krI_n (k := 43) (rfl) (li_43) (hS.ok i4 (by omega) (by omega)) (by unfold KdOK sgk; omega) (by decide +kernel) (by omega) (by omega))) ?_
          refine rsr (gtI_q (w := iI ((kr (kd i4)))) (rk_160 (hR.fr FR4)) (w4_36)) ?_
          refine rsr (if_pos (krI_p (k := 45) (rfl) (li_45) (by omega) (by decide +kernel))) ?_
          refine rsr (jv_e) ?_
          refine rsr (gtI_q (w := iI ((kr (kd i4)))) (rk_160 (hR.fr FR4)) (w4_36)) ?_
          refine rsr (jn_v) ?_
          refine rsr (if_neg (krI_n (k := 43) (rfl) (li_43) (hS.ok i4 (by omega) (by omega)) (by unfold KdOK sgk; omega) (by decide +kernel) (by omega) (by omega))) ?_
          refine rsr (jv_e) ?_
          refine rsr (vC_e (rk_160 (hR.fr FR4))) ?_
          refine RrV (nx_ok (by omega) hS (hR.fr FR4) (hT.fr (W := W_rx) FR4 (by decide) (by decide)) (fun i a b => (Fr.lc (W := W_rx) FR4 _ (by decide) _).trans (hW i a b)) (i := i4) (w4_41) (w4_38) (by omega) (by omega)) fun v Ma25 h25 => ?_
          obtain ⟨g25, e25_k0, e25_k1, e25_k2, p25_0⟩ := h25
          have f25 : Fr W_rx Mr Ma25 := Fr.t FR4 (Fr.m g25 (by decide))
          refine rsr (cV_e rfl) ?_
          refine rsr (vC_e (rk_160 (hR.fr f25))) ?_
          refine Rb_VV (hp _ _ (by omega) (by omega) T n m kd pl E tx ua ut mu _ _ G4 U4 Hl X4 (i4 + 1) e4 s u4 uc4 _ hS (hCx.fr (Fr.sI (by decide) (Fr.sI (by decide) FL4)) f25) ⟨(sI_nej (by decide)).trans (sI_eq), sI_eq, (sI_nej (by decide)).trans ((sI_nej (by decide)).trans (q4_10)), (sI_nej (by decide)).trans ((sI_nej (by decide)).trans (q4_9)), (sI_nej (by decide)).trans ((sI_nej (by decide)).trans (q4_16)), (sI_nej (by decide)).trans ((sI_nej (by decide)).trans (q4_19))⟩ ⟨e25_k0, e25_k1, e25_k2, (g25.i _ _ (by decide)).trans (w4_41), (g25.i _ _ (by decide)).trans (w4_43), (g25.i _ _ (by decide)).trans (w4_51), (g25.i _ _ (by decide)).trans (w4_53), (g25.i _ _ (by decide)).trans (w4_50), p25_0⟩ ⟨(ca4.fr (W := W_c0) (Fr.sI (by decide) (Fr.sI (by decide) Fr.r)) (by decide)), (ra4.fr g25 (by decide)), (lc4.fr (W := W_c0) (Fr.sI (by decide) (Fr.sI (by decide) Fr.r)) (by decide)), (lr4.fr g25 (by decide)), (cu4.fr (W := W_c0) (Fr.sI (by decide) (Fr.sI (by decide) Fr.r)) (by decide)), (ru4.fr g25 (by decide))⟩ ⟨by omega, by omega, by omega, by omega, by omega, by omega, by omega, by omega, by omega, by omega, by omega, by omega⟩ (vs2 (adI (rfl) (li_1)) (rfl))) fun v Mx26 w Nx26 hx26 => ?_
          rcases hx26 with ⟨i26, e26, u26, uc26, G26, U26, X26, fl26, fr26, sc26, sr26, rw26, bd26, mv26, ag26, au26, ax26⟩ | ⟨F26, P26, fl26, fr26, tc26, tr26⟩
          ·
            have FL26 : Fr W_cp Mc Mx26 := Fr.t (Fr.sI (by decide) (Fr.sI (by decide) FL4)) fl26
            have FR26 : Fr W_rx Mr Nx26 := Fr.t f25 fr26
            obtain ⟨bb26_0, bb26_1, bb26_2, bb26_3, bb26_4, bb26_5, bb26_6, bb26_7, bb26_8, bb26_9, bb26_10, bb26_11⟩ := bd26
            obtain ⟨q26_12, q26_13, q26_10, q26_9, q26_16, q26_19⟩ := sc26
            obtain ⟨w26_36, w26_37, w26_38, w26_41, w26_43, w26_51, w26_53, w26_50, w26_n⟩ := sr26
            obtain ⟨ca26, ra26, lc26, lr26, cu26, ru26⟩ := rw26
            have hk27 := (hS.ok i26 (by omega) (by omega)).r
            refine rsl (cV_e rfl) ?_
            refine rsr (cV_e rfl) ?_
            refine rsl (vC_e (ck_65 (hC.fr FL26))) ?_
            refine RlI (a87 (by omega) (hC.fr FL26) (q26_9) (rfl) (li_0) (by omega)) fun v Ma29 h29 => ?_
            obtain ⟨r28, rfl, g29, e29_k0, p29_0, p29_1⟩ := h29
            have f29 : Fr W_cp Mc Ma29 := Fr.t FL26 (Fr.m g29 (by decide))
            refine rsl (cI_e rfl) ?_
            refine rsl (if_neg (eqI_n (rfl) (li_3) (by omega))) ?_
            refine rsl (ltI_q (z := (k4 + 1)) (adI (hk4) (li_1))) ?_
            refine rsr (vC_e (rk_160 (hR.fr FR26))) ?_
            refine RrI (a196 (by omega) (hR.fr FR26) (w26_43) ((FR26.i _ _ (by decide)).trans h49) ((FR26.i _ _ (by decide)).trans h48) (li_11) (li_0) (by omega)) fun v Ma31 h31 => ?_
            obtain ⟨r30, rfl, g31, e31_k0, p31_0, p31_1⟩ := h31
            have f31 : Fr W_rx Mr Ma31 := Fr.t FR26 (Fr.m g31 (by decide))
            refine rsr (cI_e rfl) ?_
            exact hgo (m - i26 + 1).toNat _ _ (by omega) (Or.inl ⟨(k4 + 1), i26, rfl, by omega, ⟨(e26 + 1), u26, uc26, (pu G26 e26 [11, 0, -2, 0, ut, mu, 0]), U26, X26, f29, f31, ⟨(g29.i _ _ (by decide)).trans (q26_12), (g29.i _ _ (by decide)).trans (q26_13), (g29.i _ _ (by decide)).trans (q26_10), e29_k0, (g29.i _ _ (by decide)).trans (q26_16), (g29.i _ _ (by decide)).trans (q26_19)⟩, ⟨(g31.i _ _ (by decide)).trans (w26_36), (g31.i _ _ (by decide)).trans (w26_37), (g31.i _ _ (by decide)).trans (w26_38), (g31.i _ _ (by decide)).trans (w26_41), e31_k0, (g31.i _ _ (by decide)).trans (w26_51), (g31.i _ _ (by decide)).trans (w26_53), (g31.i _ _ (by decide)).trans (w26_50), (w26_n.fr g31 (by decide) (by decide))⟩, ⟨(CA1.em ca26 (by omega) p29_1 rfl), (RA1.em ra26 (by omega) p31_1 rfl), (lc26.fr g29 (by decide)), (lr26.fr g31 (by decide)), (cu26.fr g29 (by decide)), (ru26.fr g31 (by decide))⟩, ⟨by omega, by omega, by omega, by omega, by omega, by omega, by omega, by omega, by omega, by omega, by omega, by omega⟩, ⟨by omega, by omega, by omega, by omega, by omega, by omega⟩, (Ag.pu (Ag.t ag4 ag26 (by omega)) (by omega)), (Ag.t au4 au26 (by omega)), (AgL.t ax4 ax26 (by omega))⟩, by omega⟩)
          ·
            have FL26 : Fr W_cp Mc Mx26 := Fr.t (Fr.sI (by decide) (Fr.sI (by decide) FL4)) fl26
            have FR26 : Fr W_rp Mr Nx26 := Fr.t (Fr.m f25 W_rx_p) fr26
            obtain ⟨ti26, tz26, tn26, tu26, t1326, t1026, t1126, t1226, t926, t1626, t1926, tb26⟩ := tc26
            obtain ⟨re26, rn26, ru26, rm26, rt26, u4126, u4226, u4326, u5126, u5326, u4826, u4926, ub26⟩ := tr26
            refine rsl (cV_e rfl) ?_
            refine rsr (cV_e rfl) ?_
            refine rsl (vC_e (ck_65 (hC.fr FL26))) ?_
            refine RlI (y87 (by omega) (hC.fr FL26) (hTk.fr (WL := W_cp) FL26 (by decide)) (t1226) (t1326) (t1026) (t1126) (t926) (t1626) (t1926) (rfl) (li_0) (by omega)) fun v Ma33 h33 => ?_
            obtain ⟨rv32, sz32, sn32, uc32, rfl, g33, e33_sz32, e33_sn32, e33_uc32, e33_k0, e33_k1, e33_k2, e33_k3, p33_0, p33_1, p33_2, p33_3⟩ := h33
            have f33 : Fr W_cp Mc Ma33 := Fr.t FL26 (Fr.m g33 (by decide))
            refine rsl (cI_e rfl) ?_
            refine rsl (if_neg (eqI_n (rfl) (li_3) (by omega))) ?_
            refine rsl (ltI_q (z := (k4 + 1)) (adI (hk4) (li_1))) ?_
            refine rsr (vC_e (rk_160 (hR.fr FR26))) ?_
            refine RrI (x196_s (by omega) (hR.fr FR26) (u4126) (u4226) (u4326) (u5126) (u5326) (u4826) (u4926) (li_11) (li_0) (by omega)) fun v Ma35 h35 => ?_
            obtain ⟨rv34, em34, rfl, g35, e35_em34, e35_k0, e35_k1, e35_k2, e35_k3, e35_k4, p35_0, p35_1⟩ := h35
            have f35 : Fr W_rp Mr Ma35 := Fr.t FR26 (Fr.m g35 (by decide))
            refine rsr (cI_e rfl) ?_
            exact hgo 0 _ _ (by omega) (Or.inr ⟨(k4 + 1), F26, P26, rfl, by omega, f33, f35, ⟨ti26, sz32, sn32, uc32, e33_k0, e33_k1, e33_k2, e33_k3, e33_sz32, e33_sn32, e33_uc32, by omega⟩, ⟨em34, rn26, ru26, rm26, rt26, e35_k0, e35_k1, e35_em34, e35_k2, e35_k3, e35_k4, (g35.i _ _ (by decide)).trans (u4926), by omega⟩, rfl⟩)
        ·
          refine RlI (lv_4 (by omega) (rfl) (by omega)) fun v Ml36 hl36 => ?_
          obtain ⟨rl36, rfl, rfl, nl36, bl36⟩ := hl36
          refine rsl (cI_e rfl) ?_
          refine rsl (if_neg (eqI_n (rfl) (rfl) (by omega))) ?_
          refine rsl (jv_e) ?_
          refine rsr (gtI_q (w := iI 0) (rk_160 (hR.fr FR4)) (w4_41)) ?_
          refine rsr (if_pos (eqI_p (rfl) (li_0) (by omega))) ?_
          refine rsr (gtI_q (w := iI ((kr (kd i4)))) (rk_160 (hR.fr FR4)) (w4_36)) ?_
          refine rsr (jn_v) ?_
          refine rsr (if_neg (krI_n (k := 43) (rfl) (li_43) (hS.ok i4 (by omega) (by omega)) (by unfold KdOK sgk; omega) (by decide +kernel) (by omega) (by omega))) ?_
          refine rsr (gtI_q (w := iI ((kr (kd i4)))) (rk_160 (hR.fr FR4)) (w4_36)) ?_
          refine rsr (if_neg (krI_n (k := 45) (rfl) (li_45) (hS.ok i4 (by omega) (by omega)) (by unfold KdOK sgk; omega) (by decide +kernel) (by omega) (by omega))) ?_
          refine rsr (jv_e) ?_
          exact Rs.ok (Or.inl ⟨i4, e4, u4, uc4, G4, U4, X4, FL4, FR4, ⟨q4_12, q4_13, q4_10, q4_9, q4_16, q4_19⟩, ⟨w4_36, w4_37, w4_38, w4_41, w4_43, w4_51, w4_53, w4_50, w4_n⟩, ⟨ca4, ra4, lc4, lr4, cu4, ru4⟩, ⟨by omega, by omega, by omega, by omega, by omega, by omega, by omega, by omega, by omega, by omega, by omega, by omega⟩, ⟨by omega, by omega, by omega, by omega, by omega, by omega⟩, ag4, au4, ax4⟩)
    ·
      obtain ⟨k4, F4, P4, hk4, ⟨hka4, hkb4⟩, FL4, FR4, tc4, tr4, hm4⟩ := hq
      obtain ⟨ti4, tz4, tn4, tu4, t134, t104, t114, t124, t94, t164, t194, tb4⟩ := tc4
      obtain ⟨re4, rn4, ru4, rm4, rt4, u414, u424, u434, u514, u534, u484, u494, ub4⟩ := tr4
      unfold c99_61 c208_4
      refine rsl (if_neg (leI_n (li_3000) (hk4) (by omega))) ?_
      refine rsl (gtI_q (w := iI 2) (ck_65 (hC.fr FL4)) (t134)) ?_
      refine rsl (cI_e (y102 (by omega) (rfl))) ?_
      refine rsl (if_neg (eqI_n (rfl) (rfl) (by omega))) ?_
      refine rsl (jv_e) ?_
      refine rsr (gtI_q (w := iI F4) (rk_160 (hR.fr FR4)) (u414)) ?_
      refine rsr (if_neg (eqI_n (rfl) (li_0) (by omega))) ?_
      refine rsr (jv_e) ?_
      exact Rs.ok (Or.inr ⟨F4, P4, FL4, FR4, ⟨ti4, tz4, tn4, tu4, t134, t104, t114, t124, t94, t164, t194, by omega⟩, ⟨re4, rn4, ru4, rm4, rt4, u414, u424, u434, u514, u534, u484, u494, by omega⟩⟩)
  ·
    have FL2 : Fr W_cp Mc Mx2 := Fr.t Fr.r fl2
    have FR2 : Fr W_rp Mr Nx2 := Fr.t (Fr.m Fr.r W_rx_p) fr2
    obtain ⟨ti2, tz2, tn2, tu2, t132, t102, t112, t122, t92, t162, t192, tb2⟩ := tc2
    obtain ⟨re2, rn2, ru2, rm2, rt2, u412, u422, u432, u512, u532, u482, u492, ub2⟩ := tr2
    refine rsl (cV_e rfl) ?_
    refine rsr (cV_e rfl) ?_
    refine rsl (jn_v) ?_
    refine rsl (jn_v) ?_
    refine rsl (lp_e) ?_
    unfold c99_61
    refine rsl (if_neg (leI_n (li_3000) (li_0) (by omega))) ?_
    refine rsl (gtI_q (w := iI 2) (ck_65 (hC.fr FL2)) (t132)) ?_
    refine rsl (cI_e (y102 (by omega) (rfl))) ?_
    refine rsl (if_neg (eqI_n (rfl) (rfl) (by omega))) ?_
    refine rsl (jv_e) ?_
    refine rsr (jn_v) ?_
    refine rsr (lp_e) ?_
    unfold c208_4
    refine rsr (gtI_q (w := iI F2) (rk_160 (hR.fr FR2)) (u412)) ?_
    refine rsr (if_neg (eqI_n (rfl) (li_0) (by omega))) ?_
    refine rsr (jv_e) ?_
    exact Rs.ok (Or.inr ⟨F2, P2, FL2, FR2, ⟨ti2, tz2, tn2, tu2, t132, t102, t112, t122, t92, t162, t192, by omega⟩, ⟨re2, rn2, ru2, rm2, rt2, u412, u422, u432, u512, u532, u482, u492, by omega⟩⟩)
theorem p_2 {D : Nat} {dp : Int} (hD : 20 ≤ D) (hp4 : Pair D 99 [4] 208 18 dp) (hp2 : dp < 20 → Pair D 99 [2] 209 16 (dp + 1)) : Pair (D + 2) 99 [2] 209 16 dp := by
  intro d d2 hd hd2 T n m kd pl E tx ua ut mu Mc Mr G U Hl X i e s u uc vs hS hx hsc hsr hrw hbd hvs
  subst hvs
  obtain ⟨d, rfl⟩ : ∃ e, d = e + 1 := ⟨d - 1, by omega⟩
  obtain ⟨d2, rfl⟩ : ∃ e, d2 = e + 1 := ⟨d2 - 1, by omega⟩
  show Rs (runX (d + 1) 99 [va_rf (some 65), .int (iI 2), .int (iI dp)] Mc) (runX (d2 + 1) 209 [va_rf (some 160)] Mr) _
  rw [r99]; unfold b99; rw [aR_e, aI_e, aI_e, aZ_e]; unfold c99; rw [r209]; unfold b209; rw [aR_e, aZ_e]; unfold c209
  have hCx := hx
  obtain ⟨hC, hR, hTk, hT, hW, ⟨hu1, hu2, hu3, hu4⟩, h49, h48, ⟨hb1, hb2, hb3, hb4⟩⟩ := hx
  obtain ⟨bb_0, bb_1, bb_2, bb_3, bb_4, bb_5, bb_6, bb_7, bb_8, bb_9, bb_10, bb_11⟩ := hbd
  obtain ⟨qa_12, qa_13, qa_10, qa_9, qa_16, qa_19⟩ := hsc
  obtain ⟨wa_36, wa_37, wa_38, wa_41, wa_43, wa_51, wa_53, wa_50, wa_n⟩ := hsr
  obtain ⟨caa, raa, lca, lra, cua, rua⟩ := hrw
  have hk1 := (hS.ok i (by omega) (by omega)).r
  refine rsl (if_pos (leI_p (rfl) (li_5) (by omega))) ?_
  refine rsl (jn_v) ?_
  refine rsl (if_pos (eqI_p (rfl) (li_2) (by omega))) ?_
  refine rsl (gtI_q (w := iI ((kd i))) (ck_65 hC) (qa_13)) ?_
  by_cases c2 : ((kd i)) = 227
  · refine rsl (if_pos (eqI_p (rfl) (li_227) (by omega))) ?_
    refine rsl (vC_e (ck_65 hC)) ?_
    by_cases c3 : dp < 20
    ·
      have hm4 : i + 1 < m := hS.more i (by omega) (by omega) (by omega)
      refine rsl (cV_e (a69q (by omega) hS hC (hTk.fr (WL := W_cp) Fr.r (by decide)) (qa_12) (qa_13) (qa_10) (li_227) (rfl) (i2 := (i + 1)) (by omega) (by omega))) ?_
      have hk5 := (hS.ok (i + 1) (by omega) (by omega)).r
      refine rsl (vC_e (ck_65 hC.sI.sI)) ?_
      refine rsr (gtI_q (w := iI 0) (rk_160 hR) (wa_41)) ?_
      refine rsr (jn_v) ?_
      refine rsr (if_pos (eqI_p (rfl) (li_0) (by omega))) ?_
      refine rsr (gtI_q (w := iI ((kr (kd i)))) (rk_160 hR) (wa_36)) ?_
      refine rsr (if_pos (krI_p (k := 227) (rfl) (li_428) (by omega) (by decide +kernel))) ?_
      refine rsr (vC_e (rk_160 hR)) ?_
      refine rsr (cI_e (ar200_p (by omega) hS hR (wa_36) (wa_37) (wa_41) (wa_50) (by omega))) ?_
      refine rsr (jn_v) ?_
      refine rsr (if_neg (eqI_n (rfl) (li_0) (by omega))) ?_
      refine rsr (vC_e (rk_160 hR.sI)) ?_
      refine RrV (nx_ok (by omega) hS hR.sI (hT.fr (W := W_rx) (Fr.sI (by decide) Fr.r) (by decide) (by decide)) (fun i a b => (Fr.lc (W := W_rx) (Fr.sI (by decide) Fr.r) _ (by decide) _).trans (hW i a b)) (i := i) ((sI_nej (by decide)).trans (wa_41)) ((sI_nej (by decide)).trans (wa_38)) (by omega) (by omega)) fun v Ma7 h7 => ?_
      obtain ⟨g7, e7_k0, e7_k1, e7_k2, p7_0⟩ := h7
      have f7 : Fr W_rx Mr Ma7 := Fr.t (Fr.sI (by decide) Fr.r) (Fr.m g7 (by decide))
      refine rsr (cV_e rfl) ?_
      refine rsr (vC_e (rk_160 (hR.fr f7))) ?_
      refine Rb_VV ((hp2 (by omega)) _ _ (by omega) (by omega) T n m kd pl E tx ua ut mu _ _ G U Hl X (i + 1) e s u uc _ hS (hCx.fr (Fr.sI (by decide) (Fr.sI (by decide) Fr.r)) f7) ⟨(sI_nej (by decide)).trans (sI_eq), sI_eq, (sI_nej (by decide)).trans ((sI_nej (by decide)).trans (qa_10)), (sI_nej (by decide)).trans ((sI_nej (by decide)).trans (qa_9)), (sI_nej (by decide)).trans ((sI_nej (by decide)).trans (qa_16)), (sI_nej (by decide)).trans ((sI_nej (by decide)).trans (qa_19))⟩ ⟨e7_k0, e7_k1, e7_k2, (g7.i _ _ (by decide)).trans ((sI_nej (by decide)).trans (wa_41)), (g7.i _ _ (by decide)).trans ((sI_nej (by decide)).trans (wa_43)), (g7.i _ _ (by decide)).trans ((sI_nej (by decide)).trans (wa_51)), (g7.i _ _ (by decide)).trans ((sI_nej (by decide)).trans (wa_53)), (g7.i _ _ (by decide)).trans (sI_eq), p7_0⟩ ⟨(caa.fr (W := W_c0) (Fr.sI (by decide) (Fr.sI (by decide) Fr.r)) (by decide)), ((raa.fr (W := W_r0) (Fr.sI (by decide) Fr.r) (by decide)).fr g7 (by decide)), (lca.fr (W := W_c0) (Fr.sI (by decide) (Fr.sI (by decide) Fr.r)) (by decide)), ((lra.fr (W := W_r0) (Fr.sI (by decide) Fr.r) (by decide)).fr g7 (by decide)), (cua.fr (W := W_c0) (Fr.sI (by decide) (Fr.sI (by decide) Fr.r)) (by decide)), ((rua.fr (W := W_r0) (Fr.sI (by decide) Fr.r) (by decide)).fr g7 (by decide))⟩ ⟨by omega, by omega, by omega, by omega, by omega, by omega, by omega, by omega, by omega, by omega, by omega, by omega⟩ (vs2 (li_2) (adI (rfl) (li_1)))) fun v Mx8 w Nx8 hx8 => ?_
      rcases hx8 with ⟨i8, e8, u8, uc8, G8, U8, X8, fl8, fr8, sc8, sr8, rw8, bd8, mv8, ag8, au8, ax8⟩ | ⟨F8, P8, fl8, fr8, tc8, tr8⟩
      ·
        have FL8 : Fr W_cp Mc Mx8 := Fr.t (Fr.sI (by decide) (Fr.sI (by decide) Fr.r)) fl8
        have FR8 : Fr W_rx Mr Nx8 := Fr.t f7 fr8
        obtain ⟨bb8_0, bb8_1, bb8_2, bb8_3, bb8_4, bb8_5, bb8_6, bb8_7, bb8_8, bb8_9, bb8_10, bb8_11⟩ := bd8
        obtain ⟨q8_12, q8_13, q8_10, q8_9, q8_16, q8_19⟩ := sc8
        obtain ⟨w8_36, w8_37, w8_38, w8_41, w8_43, w8_51, w8_53, w8_50, w8_n⟩ := sr8
        obtain ⟨ca8, ra8, lc8, lr8, cu8, ru8⟩ := rw8
        have hk9 := (hS.ok i8 (by omega) (by omega)).r
        refine rsl (cV_e rfl) ?_
        refine rsr (cV_e rfl) ?_
        refine rsl (vC_e (ck_65 (hC.fr FL8))) ?_
        refine RlI (a87 (by omega) (hC.fr FL8) (q8_9) (li_21) (li_0) (by omega)) fun v Ma11 h11 => ?_
        obtain ⟨r10, rfl, g11, e11_k0, p11_0, p11_1⟩ := h11
        have f11 : Fr W_cp Mc Ma11 := Fr.t FL8 (Fr.m g11 (by decide))
        refine rsl (cI_e rfl) ?_
        refine rsr (gtI_q (w := iI (dp + 1)) (rk_160 (hR.fr FR8)) (w8_50)) ?_
        refine rsr (ptI_q (z := dp) (rk_160 (hR.fr FR8)) (cvI (sbI (rfl) (li_1)) (by omega))) ?_
        refine rsr (vC_e (rk_160 (hR.fr FR8).sI)) ?_
        refine RrI (a196 (by omega) (hR.fr FR8).sI ((sI_nej (by decide)).trans (w8_43)) ((sI_nej (by decide)).trans ((FR8.i _ _ (by decide)).trans h49)) ((sI_nej (by decide)).trans ((FR8.i _ _ (by decide)).trans h48)) (li_21) (li_0) (by omega)) fun v Ma13 h13 => ?_
        obtain ⟨r12, rfl, g13, e13_k0, p13_0, p13_1⟩ := h13
        have f13 : Fr W_rx Mr Ma13 := Fr.t (Fr.sI (by decide) FR8) (Fr.m g13 (by decide))
        refine rsr (cI_e rfl) ?_
        refine rsr (jv_e) ?_
        exact Rs.ok (Or.inl ⟨i8, (e8 + 1), u8, uc8, (pu G8 e8 [21, 0, -2, 0, ut, mu, 0]), U8, X8, f11, f13, ⟨(g11.i _ _ (by decide)).trans (q8_12), (g11.i _ _ (by decide)).trans (q8_13), (g11.i _ _ (by decide)).trans (q8_10), e11_k0, (g11.i _ _ (by decide)).trans (q8_16), (g11.i _ _ (by decide)).trans (q8_19)⟩, ⟨(g13.i _ _ (by decide)).trans ((sI_nej (by decide)).trans (w8_36)), (g13.i _ _ (by decide)).trans ((sI_nej (by decide)).trans (w8_37)), (g13.i _ _ (by decide)).trans ((sI_nej (by decide)).trans (w8_38)), (g13.i _ _ (by decide)).trans ((sI_nej (by decide)).trans (w8_41)), e13_k0, (g13.i _ _ (by decide)).trans ((sI_nej (by decide)).trans (w8_51)), (g13.i _ _ (by decide)).trans ((sI_nej (by decide)).trans (w8_53)), (g13.i _ _ (by decide)).trans (sI_eq), ((w8_n.fr (W := W_r0) (Fr.sI (by decide) Fr.r) (by decide) (by decide)).fr g13 (by decide) (by decide))⟩, ⟨(CA1.em ca8 (by omega) p11_1 rfl), (RA1.em (ra8.fr (W := W_r0) (Fr.sI (by decide) Fr.r) (by decide)) (by omega) p13_1 rfl), (lc8.fr g11 (by decide)), ((lr8.fr (W := W_r0) (Fr.sI (by decide) Fr.r) (by decide)).fr g13 (by decide)), (cu8.fr g11 (by decide)), ((ru8.fr (W := W_r0) (Fr.sI (by decide) Fr.r) (by decide)).fr g13 (by decide))⟩, ⟨by omega, by omega, by omega, by omega, by omega, by omega, by omega, by omega, by omega, by omega, by omega, by omega⟩, ⟨by omega, by omega, by omega, by omega, by omega, by omega⟩, (Ag.pu (Ag.t Ag.r ag8 (by omega)) (by omega)), (Ag.t Ag.r au8 (by omega)), (AgL.t AgL.r ax8 (by omega))⟩)
      ·
        have FL8 : Fr W_cp Mc Mx8 := Fr.t (Fr.sI (by decide) (Fr.sI (by decide) Fr.r)) fl8
        have FR8 : Fr W_rp Mr Nx8 := Fr.t (Fr.m f7 W_rx_p) fr8
        obtain ⟨ti8, tz8, tn8, tu8, t138, t108, t118, t128, t98, t168, t198, tb8⟩ := tc8
        obtain ⟨re8, rn8, ru8, rm8, rt8, u418, u428, u438, u518, u538, u488, u498, ub8⟩ := tr8
        refine rsl (cV_e rfl) ?_
        refine rsr (cV_e rfl) ?_
        refine rsl (vC_e (ck_65 (hC.fr FL8))) ?_
        refine RlI (y87 (by omega) (hC.fr FL8) (hTk.fr (WL := W_cp) FL8 (by decide)) (t128) (t138) (t108) (t118) (t98) (t168) (t198) (li_21) (li_0) (by omega)) fun v Ma15 h15 => ?_
        obtain ⟨rv14, sz14, sn14, uc14, rfl, g15, e15_sz14, e15_sn14, e15_uc14, e15_k0, e15_k1, e15_k2, e15_k3, p15_0, p15_1, p15_2, p15_3⟩ := h15
        have f15 : Fr W_cp Mc Ma15 := Fr.t FL8 (Fr.m g15 (by decide))
        refine rsl (cI_e rfl) ?_
        have b16 := V_r (M := Nx8) (a := 160) (j := 50)
        refine rsr (gtI_q (w := iI ((V Nx8 160 50))) (rk_160 (hR.fr FR8)) (eV)) ?_
        refine rsr (ptI_q (z := ((V Nx8 160 50) - 1)) (rk_160 (hR.fr FR8)) (cvI (sbI (rfl) (li_1)) (by omega))) ?_
        refine rsr (vC_e (rk_160 (hR.fr FR8).sI)) ?_
        refine RrI (x196_s (by omega) (hR.fr FR8).sI ((sI_nej (by decide)).trans (u418)) ((sI_nej (by decide)).trans (u428)) ((sI_nej (by decide)).trans (u438)) ((sI_nej (by decide)).trans (u518)) ((sI_nej (by decide)).trans (u538)) ((sI_nej (by decide)).trans (u488)) ((sI_nej (by decide)).trans (u498)) (li_21) (li_0) (by omega)) fun v Ma18 h18 => ?_
        obtain ⟨rv17, em17, rfl, g18, e18_em17, e18_k0, e18_k1, e18_k2, e18_k3, e18_k4, p18_0, p18_1⟩ := h18
        have f18 : Fr W_rp Mr Ma18 := Fr.t (Fr.sI (by decide) FR8) (Fr.m g18 (by decide))
        refine rsr (cI_e rfl) ?_
        refine rsr (jv_e) ?_
        exact Rs.ok (Or.inr ⟨F8, P8, f15, f18, ⟨ti8, sz14, sn14, uc14, e15_k0, e15_k1, e15_k2, e15_k3, e15_sz14, e15_sn14, e15_uc14, by omega⟩, ⟨em17, rn8, ru8, rm8, rt8, e18_k0, e18_k1, e18_em17, e18_k2, e18_k3, e18_k4, (g18.i _ _ (by decide)).trans ((sI_nej (by decide)).trans (u498)), by omega⟩⟩)
    ·
      refine rsl (cV_e (a69_6 (by omega) hS hC (hTk.fr (WL := W_cp) Fr.r (by decide)) (qa_12) (qa_13) (qa_10) (li_227) (rfl) (by omega))) ?_
      refine rsl (vC_e (ck_65 hC.sI.sI.sI)) ?_
      refine RlV (y99_2 (by omega) hC.sI.sI.sI (hTk.fr (WL := W_cp) (Fr.sI (by decide) (Fr.sI (by decide) (Fr.sI (by decide) Fr.r))) (by decide)) ((sI_nej (by decide)).trans ((sI_nej (by decide)).trans ((sI_nej (by decide)).trans (qa_12)))) (sI_eq) ((sI_nej (by decide)).trans ((sI_nej (by decide)).trans (sI_eq))) ((sI_nej (by decide)).trans (sI_eq)) ((sI_nej (by decide)).trans ((sI_nej (by decide)).trans ((sI_nej (by decide)).trans (qa_9)))) ((sI_nej (by decide)).trans ((sI_nej (by decide)).trans ((sI_nej (by decide)).trans (qa_16)))) ((sI_nej (by decide)).trans ((sI_nej (by decide)).trans ((sI_nej (by decide)).trans (qa_19)))) (li_2) (adI (rfl) (li_1)) (by omega)) fun v Ma20 h20 => ?_
      obtain ⟨sz19, sn19, uc19, g20, e20_sz19, e20_sn19, e20_uc19, e20_k0, e20_k1, e20_k2, e20_k3, p20_0, p20_1, p20_2⟩ := h20
      have f20 : Fr W_cp Mc Ma20 := Fr.t (Fr.sI (by decide) (Fr.sI (by decide) (Fr.sI (by decide) Fr.r))) (Fr.m g20 (by decide))
      refine rsl (cV_e rfl) ?_
      refine rsl (vC_e (ck_65 (hC.fr f20))) ?_
      refine RlI (y87 (by omega) (hC.fr f20) (hTk.fr (WL := W_cp) f20 (by decide)) (e20_k3) (e20_k0) (e20_k1) (e20_k2) (e20_sz19) (e20_sn19) (e20_uc19) (li_21) (li_0) (by omega)) fun v Ma22 h22 => ?_
      obtain ⟨rv21, sz21, sn21, uc21, rfl, g22, e22_sz21, e22_sn21, e22_uc21, e22_k0, e22_k1, e22_k2, e22_k3, p22_0, p22_1, p22_2, p22_3⟩ := h22
      have f22 : Fr W_cp Mc Ma22 := Fr.t f20 (Fr.m g22 (by decide))
      refine rsl (cI_e rfl) ?_
      refine rsr (gtI_q (w := iI 0) (rk_160 hR) (wa_41)) ?_
      refine rsr (jn_v) ?_
      refine rsr (if_pos (eqI_p (rfl) (li_0) (by omega))) ?_
      refine rsr (gtI_q (w := iI ((kr (kd i)))) (rk_160 hR) (wa_36)) ?_
      refine rsr (if_pos (krI_p (k := 227) (rfl) (li_428) (by omega) (by decide +kernel))) ?_
      refine rsr (vC_e (rk_160 hR)) ?_
      refine rsr (cI_e (ar200_6 (by omega) hS hR (wa_36) (wa_37) (wa_41) (wa_50) (by omega))) ?_
      refine rsr (jn_v) ?_
      refine rsr (if_pos (eqI_p (rfl) (li_0) (by omega))) ?_
      refine rsr (jv_e) ?_
      exact Rs.ok (Or.inr ⟨6, ((pl i)), f22, (Fr.sI (by decide) (Fr.sI (by decide) (Fr.sI (by decide) Fr.r))), ⟨i, sz21, sn21, uc21, e22_k0, e22_k1, e22_k2, e22_k3, e22_sz21, e22_sn21, e22_uc21, by omega⟩, ⟨e, s, u, mu, ut, (sI_nej (by decide)).trans (sI_eq), sI_eq, (sI_nej (by decide)).trans ((sI_nej (by decide)).trans ((sI_nej (by decide)).trans (wa_43))), (sI_nej (by decide)).trans ((sI_nej (by decide)).trans ((sI_nej (by decide)).trans (wa_51))), (sI_nej (by decide)).trans ((sI_nej (by decide)).trans ((sI_nej (by decide)).trans (wa_53))), (sI_nej (by decide)).trans ((sI_nej (by decide)).trans ((sI_nej (by decide)).trans (h48))), (sI_nej (by decide)).trans ((sI_nej (by decide)).trans ((sI_nej (by decide)).trans (h49))), by omega⟩⟩)
  · refine rsl (if_neg (eqI_n (rfl) (li_227) (by omega))) ?_
    refine rsl (jv_e) ?_
    refine rsl (vC_e (ck_65 hC)) ?_
    refine Rs_cVl (P := fun _ Mc2 _ Mr2 => PO m kd pl E tx Mc Mr G U Hl X i e s u uc dp (2500 - 30 * dp - 16) Mc2 Mr2) ?_ (fun v Mx23 w Nx23 hx23 => ?_)
    ·
      obtain ⟨d, rfl⟩ : ∃ e, d = e + 1 := ⟨d - 1, by omega⟩
      have hva : (iI 2 + (1 : Int32)) = iI 3 := adI (x := 2) rfl li_1
      rw [hva]
      rw [r99]; unfold b99; rw [aR_e, aI_e, aI_e, aZ_e]; unfold c99
      refine rsl (if_pos (leI_p (rfl) (li_5) (by omega))) ?_
      refine rsl (jn_v) ?_
      refine rsl (if_neg (eqI_n (rfl) (li_2) (by omega))) ?_
      refine rsl (jv_e) ?_
      refine rsl (vC_e (ck_65 hC)) ?_
      refine rsr (gtI_q (w := iI 0) (rk_160 hR) (wa_41)) ?_
      refine rsr (jn_v) ?_
      refine rsr (if_pos (eqI_p (rfl) (li_0) (by omega))) ?_
      refine rsr (gtI_q (w := iI ((kr (kd i)))) (rk_160 hR) (wa_36)) ?_
      refine rsr (if_neg (krI_n (k := 227) (rfl) (li_428) (hS.ok i (by omega) (by omega)) (by unfold KdOK sgk; omega) (by decide +kernel) (by omega) (by omega))) ?_
      refine rsr (jv_e) ?_
      refine rsr (vC_e (rk_160 hR)) ?_
      refine Rb_VV (hp4 _ _ (by omega) (by omega) T n m kd pl E tx ua ut mu _ _ G U Hl X i e s u uc _ hS (hCx.fr Fr.r Fr.r) ⟨qa_12, qa_13, qa_10, qa_9, qa_16, qa_19⟩ ⟨wa_36, wa_37, wa_38, wa_41, wa_43, wa_51, wa_53, wa_50, wa_n⟩ ⟨caa, raa, lca, lra, cua, rua⟩ ⟨by omega, by omega, by omega, by omega, by omega, by omega, by omega, by omega, by omega, by omega, by omega, by omega⟩ (vs2 (adI (rfl) (li_1)) (rfl))) fun v Mx24 w Nx24 hx24 => ?_
      rcases hx24 with ⟨i24, e24, u24, uc24, G24, U24, X24, fl24, fr24, sc24, sr24, rw24, bd24, mv24, ag24, au24, ax24⟩ | ⟨F24, P24, fl24, fr24, tc24, tr24⟩
      ·
        have FL24 : Fr W_cp Mc Mx24 := Fr.t Fr.r fl24
        have FR24 : Fr W_rx Mr Nx24 := Fr.t Fr.r fr24
        obtain ⟨bb24_0, bb24_1, bb24_2, bb24_3, bb24_4, bb24_5, bb24_6, bb24_7, bb24_8, bb24_9, bb24_10, bb24_11⟩ := bd24
        obtain ⟨q24_12, q24_13, q24_10, q24_9, q24_16, q24_19⟩ := sc24
        obtain ⟨w24_36, w24_37, w24_38, w24_41, w24_43, w24_51, w24_53, w24_50, w24_n⟩ := sr24
        obtain ⟨ca24, ra24, lc24, lr24, cu24, ru24⟩ := rw24
        have hk25 := (hS.ok i24 (by omega) (by omega)).r
        refine rsl (cV_e rfl) ?_
        refine rsr (cV_e rfl) ?_
        refine rsl (jn_v) ?_
        refine rsl (jn_v) ?_
        refine rsl (lp_e) ?_
        unfold c99_61
        refine rsl (if_neg (leI_n (li_3000) (li_0) (by omega))) ?_
        refine rsl (gtI_q (w := iI ((kd i24))) (ck_65 (hC.fr FL24)) (q24_13)) ?_
        by_cases c26 : ((kd i24)) = 60
        ·
          refine rsl (cI_e (lk_60 (by omega) ((rfl).trans (congrArg iI (by omega))))) ?_
          refine rsl (if_pos (eqI_p (rfl) (rfl) (by omega))) ?_
          refine rsl (gtI_q (w := iI ((kd i24))) (ck_65 (hC.fr FL24)) (q24_13)) ?_
          refine rsl (cI_e (ok_60 (by omega) ((rfl).trans (congrArg iI (by omega))))) ?_
          refine rsl (vC_e (ck_65 (hC.fr FL24))) ?_
          have hm27 : i24 + 1 < m := hS.more i24 (by omega) (by omega) (by omega)
          refine rsl (cV_e (a63q (by omega) hS (hC.fr FL24) (hTk.fr (WL := W_cp) FL24 (by decide)) (q24_12) (q24_13) (q24_10) (i2 := (i24 + 1)) (by omega) (by omega))) ?_
          have hk28 := (hS.ok (i24 + 1) (by omega) (by omega)).r
          refine rsl (vC_e (ck_65 (hC.fr FL24).sI.sI)) ?_
          refine rsr (gtI_q (w := iI ((kr (kd i24)))) (rk_160 (hR.fr FR24)) (w24_36)) ?_
          refine rsr (jn_v) ?_
          refine rsr (if_pos (krI_p (k := 60) (rfl) (li_60) (by omega) (by decide +kernel))) ?_
          refine rsr (jv_e) ?_
          refine rsr (gtI_q (w := iI 0) (rk_160 (hR.fr FR24)) (w24_41)) ?_
          refine rsr (jn_v) ?_
          refine rsr (if_pos (eqI_p (rfl) (li_0) (by omega))) ?_
          refine rsr (if_neg (lsI_n (li_15) (li_0) (by omega))) ?_
          refine rsr (vC_e (rk_160 (hR.fr FR24))) ?_
          refine RrV (nx_ok (by omega) hS (hR.fr FR24) (hT.fr (W := W_rx) FR24 (by decide) (by decide)) (fun i a b => (Fr.lc (W := W_rx) FR24 _ (by decide) _).trans (hW i a b)) (i := i24) (w24_41) (w24_38) (by omega) (by omega)) fun v Ma30 h30 => ?_
          obtain ⟨g30, e30_k0, e30_k1, e30_k2, p30_0⟩ := h30
          have f30 : Fr W_rx Mr Ma30 := Fr.t FR24 (Fr.m g30 (by decide))
          refine rsr (cV_e rfl) ?_
          refine rsr (vC_e (rk_160 (hR.fr f30))) ?_
          refine Rb_VV (hp4 _ _ (by omega) (by omega) T n m kd pl E tx ua ut mu _ _ G24 U24 Hl X24 (i24 + 1) e24 s u24 uc24 _ hS (hCx.fr (Fr.sI (by decide) (Fr.sI (by decide) FL24)) f30) ⟨(sI_nej (by decide)).trans (sI_eq), sI_eq, (sI_nej (by decide)).trans ((sI_nej (by decide)).trans (q24_10)), (sI_nej (by decide)).trans ((sI_nej (by decide)).trans (q24_9)), (sI_nej (by decide)).trans ((sI_nej (by decide)).trans (q24_16)), (sI_nej (by decide)).trans ((sI_nej (by decide)).trans (q24_19))⟩ ⟨e30_k0, e30_k1, e30_k2, (g30.i _ _ (by decide)).trans (w24_41), (g30.i _ _ (by decide)).trans (w24_43), (g30.i _ _ (by decide)).trans (w24_51), (g30.i _ _ (by decide)).trans (w24_53), (g30.i _ _ (by decide)).trans (w24_50), p30_0⟩ ⟨(ca24.fr (W := W_c0) (Fr.sI (by decide) (Fr.sI (by decide) Fr.r)) (by decide)), (ra24.fr g30 (by decide)), (lc24.fr (W := W_c0) (Fr.sI (by decide) (Fr.sI (by decide) Fr.r)) (by decide)), (lr24.fr g30 (by decide)), (cu24.fr (W := W_c0) (Fr.sI (by decide) (Fr.sI (by decide) Fr.r)) (by decide)), (ru24.fr g30 (by decide))⟩ ⟨by omega, by omega, by omega, by omega, by omega, by omega, by omega, by omega, by omega, by omega, by omega, by omega⟩ (vs2 (adI (rfl) (li_1)) (rfl))) fun v Mx31 w Nx31 hx31 => ?_
          rcases hx31 with ⟨i31, e31, u31, uc31, G31, U31, X31, fl31, fr31, sc31, sr31, rw31, bd31, mv31, ag31, au31, ax31⟩ | ⟨F31, P31, fl31, fr31, tc31, tr31⟩
          ·
            have FL31 : Fr W_cp Mc Mx31 := Fr.t (Fr.sI (by decide) (Fr.sI (by decide) FL24)) fl31
            have FR31 : Fr W_rx Mr Nx31 := Fr.t f30 fr31
            obtain ⟨bb31_0, bb31_1, bb31_2, bb31_3, bb31_4, bb31_5, bb31_6, bb31_7, bb31_8, bb31_9, bb31_10, bb31_11⟩ := bd31
            obtain ⟨q31_12, q31_13, q31_10, q31_9, q31_16, q31_19⟩ := sc31
            obtain ⟨w31_36, w31_37, w31_38, w31_41, w31_43, w31_51, w31_53, w31_50, w31_n⟩ := sr31
            obtain ⟨ca31, ra31, lc31, lr31, cu31, ru31⟩ := rw31
            have hk32 := (hS.ok i31 (by omega) (by omega)).r
            refine rsl (cV_e rfl) ?_
            refine rsr (cV_e rfl) ?_
            refine rsl (vC_e (ck_65 (hC.fr FL31))) ?_
            refine RlI (a87 (by omega) (hC.fr FL31) (q31_9) (rfl) (li_0) (by omega)) fun v Ma34 h34 => ?_
            obtain ⟨r33, rfl, g34, e34_k0, p34_0, p34_1⟩ := h34
            have f34 : Fr W_cp Mc Ma34 := Fr.t FL31 (Fr.m g34 (by decide))
            refine rsl (cI_e rfl) ?_
            refine rsl (if_pos (eqI_p (rfl) (li_3) (by omega))) ?_
            refine rsl (jv_e) ?_
            refine rsr (vC_e (rk_160 (hR.fr FR31))) ?_
            refine RrI (a196 (by omega) (hR.fr FR31) (w31_43) ((FR31.i _ _ (by decide)).trans h49) ((FR31.i _ _ (by decide)).trans h48) (li_15) (li_0) (by omega)) fun v Ma36 h36 => ?_
            obtain ⟨r35, rfl, g36, e36_k0, p36_0, p36_1⟩ := h36
            have f36 : Fr W_rx Mr Ma36 := Fr.t FR31 (Fr.m g36 (by decide))
            refine rsr (cI_e rfl) ?_
            refine rsr (jv_e) ?_
            exact Rs.ok (Or.inl ⟨i31, (e31 + 1), u31, uc31, (pu G31 e31 [15, 0, -2, 0, ut, mu, 0]), U31, X31, f34, f36, ⟨(g34.i _ _ (by decide)).trans (q31_12), (g34.i _ _ (by decide)).trans (q31_13), (g34.i _ _ (by decide)).trans (q31_10), e34_k0, (g34.i _ _ (by decide)).trans (q31_16), (g34.i _ _ (by decide)).trans (q31_19)⟩, ⟨(g36.i _ _ (by decide)).trans (w31_36), (g36.i _ _ (by decide)).trans (w31_37), (g36.i _ _ (by decide)).trans (w31_38), (g36.i _ _ (by decide)).trans (w31_41), e36_k0, (g36.i _ _ (by decide)).trans (w31_51), (g36.i _ _ (by decide)).trans (w31_53), (g36.i _ _ (by decide)).trans (w31_50), (w31_n.fr g36 (by decide) (by decide))⟩, ⟨(CA1.em ca31 (by omega) p34_1 rfl), (RA1.em ra31 (by omega) p36_1 rfl), (lc31.fr g34 (by decide)), (lr31.fr g36 (by decide)), (cu31.fr g34 (by decide)), (ru31.fr g36 (by decide))⟩, ⟨by omega, by omega, by omega, by omega, by omega, by omega, by omega, by omega, by omega, by omega, by omega, by omega⟩, ⟨by omega, by omega, by omega, by omega, by omega, by omega⟩, (Ag.pu (Ag.t (Ag.t Ag.r ag24 (by omega)) ag31 (by omega)) (by omega)), (Ag.t (Ag.t Ag.r au24 (by omega)) au31 (by omega)), (AgL.t (AgL.t AgL.r ax24 (by omega)) ax31 (by omega))⟩)
          ·
            have FL31 : Fr W_cp Mc Mx31 := Fr.t (Fr.sI (by decide) (Fr.sI (by decide) FL24)) fl31
            have FR31 : Fr W_rp Mr Nx31 := Fr.t (Fr.m f30 W_rx_p) fr31
            obtain ⟨ti31, tz31, tn31, tu31, t1331, t1031, t1131, t1231, t931, t1631, t1931, tb31⟩ := tc31
            obtain ⟨re31, rn31, ru31, rm31, rt31, u4131, u4231, u4331, u5131, u5331, u4831, u4931, ub31⟩ := tr31
            refine rsl (cV_e rfl) ?_
            refine rsr (cV_e rfl) ?_
            refine rsl (vC_e (ck_65 (hC.fr FL31))) ?_
            refine RlI (y87 (by omega) (hC.fr FL31) (hTk.fr (WL := W_cp) FL31 (by decide)) (t1231) (t1331) (t1031) (t1131) (t931) (t1631) (t1931) (rfl) (li_0) (by omega)) fun v Ma38 h38 => ?_
            obtain ⟨rv37, sz37, sn37, uc37, rfl, g38, e38_sz37, e38_sn37, e38_uc37, e38_k0, e38_k1, e38_k2, e38_k3, p38_0, p38_1, p38_2, p38_3⟩ := h38
            have f38 : Fr W_cp Mc Ma38 := Fr.t FL31 (Fr.m g38 (by decide))
            refine rsl (cI_e rfl) ?_
            refine rsl (if_pos (eqI_p (rfl) (li_3) (by omega))) ?_
            refine rsl (jv_e) ?_
            refine rsr (vC_e (rk_160 (hR.fr FR31))) ?_
            refine RrI (x196_s (by omega) (hR.fr FR31) (u4131) (u4231) (u4331) (u5131) (u5331) (u4831) (u4931) (li_15) (li_0) (by omega)) fun v Ma40 h40 => ?_
            obtain ⟨rv39, em39, rfl, g40, e40_em39, e40_k0, e40_k1, e40_k2, e40_k3, e40_k4, p40_0, p40_1⟩ := h40
            have f40 : Fr W_rp Mr Ma40 := Fr.t FR31 (Fr.m g40 (by decide))
            refine rsr (cI_e rfl) ?_
            refine rsr (jv_e) ?_
            exact Rs.ok (Or.inr ⟨F31, P31, f38, f40, ⟨ti31, sz37, sn37, uc37, e38_k0, e38_k1, e38_k2, e38_k3, e38_sz37, e38_sn37, e38_uc37, by omega⟩, ⟨em39, rn31, ru31, rm31, rt31, e40_k0, e40_k1, e40_em39, e40_k2, e40_k3, e40_k4, (g40.i _ _ (by decide)).trans (u4931), by omega⟩⟩)
        ·
          by_cases c41 : ((kd i24)) = 128
          ·
            refine rsl (cI_e (lk_128 (by omega) ((rfl).trans (congrArg iI (by omega))))) ?_
            refine rsl (if_pos (eqI_p (rfl) (rfl) (by omega))) ?_
            refine rsl (gtI_q (w := iI ((kd i24))) (ck_65 (hC.fr FL24)) (q24_13)) ?_
            refine rsl (cI_e (ok_128 (by omega) ((rfl).trans (congrArg iI (by omega))))) ?_
            refine rsl (vC_e (ck_65 (hC.fr FL24))) ?_
            have hm42 : i24 + 1 < m := hS.more i24 (by omega) (by omega) (by omega)
            refine rsl (cV_e (a63q (by omega) hS (hC.fr FL24) (hTk.fr (WL := W_cp) FL24 (by decide)) (q24_12) (q24_13) (q24_10) (i2 := (i24 + 1)) (by omega) (by omega))) ?_
            have hk43 := (hS.ok (i24 + 1) (by omega) (by omega)).r
            refine rsl (vC_e (ck_65 (hC.fr FL24).sI.sI)) ?_
            refine rsr (gtI_q (w := iI ((kr (kd i24)))) (rk_160 (hR.fr FR24)) (w24_36)) ?_
            refine rsr (jn_v) ?_
            refine rsr (if_neg (krI_n (k := 60) (rfl) (li_60) (hS.ok i24 (by omega) (by omega)) (by unfold KdOK sgk; omega) (by decide +kernel) (by omega) (by omega))) ?_
            refine rsr (gtI_q (w := iI ((kr (kd i24)))) (rk_160 (hR.fr FR24)) (w24_36)) ?_
            refine rsr (if_pos (krI_p (k := 128) (rfl) (li_300) (by omega) (by decide +kernel))) ?_
            refine rsr (jv_e) ?_
            refine rsr (gtI_q (w := iI 0) (rk_160 (hR.fr FR24)) (w24_41)) ?_
            refine rsr (jn_v) ?_
            refine rsr (if_pos (eqI_p (rfl) (li_0) (by omega))) ?_
            refine rsr (if_neg (lsI_n (li_16) (li_0) (by omega))) ?_
            refine rsr (vC_e (rk_160 (hR.fr FR24))) ?_
            refine RrV (nx_ok (by omega) hS (hR.fr FR24) (hT.fr (W := W_rx) FR24 (by decide) (by decide)) (fun i a b => (Fr.lc (W := W_rx) FR24 _ (by decide) _).trans (hW i a b)) (i := i24) (w24_41) (w24_38) (by omega) (by omega)) fun v Ma45 h45 => ?_
            obtain ⟨g45, e45_k0, e45_k1, e45_k2, p45_0⟩ := h45
            have f45 : Fr W_rx Mr Ma45 := Fr.t FR24 (Fr.m g45 (by decide))
            refine rsr (cV_e rfl) ?_
            refine rsr (vC_e (rk_160 (hR.fr f45))) ?_
            refine Rb_VV (hp4 _ _ (by omega) (by omega) T n m kd pl E tx ua ut mu _ _ G24 U24 Hl X24 (i24 + 1) e24 s u24 uc24 _ hS (hCx.fr (Fr.sI (by decide) (Fr.sI (by decide) FL24)) f45) ⟨(sI_nej (by decide)).trans (sI_eq), sI_eq, (sI_nej (by decide)).trans ((sI_nej (by decide)).trans (q24_10)), (sI_nej (by decide)).trans ((sI_nej (by decide)).trans (q24_9)), (sI_nej (by decide)).trans ((sI_nej (by decide)).trans (q24_16)), (sI_nej (by decide)).trans ((sI_nej (by decide)).trans (q24_19))⟩ ⟨e45_k0, e45_k1, e45_k2, (g45.i _ _ (by decide)).trans (w24_41), (g45.i _ _ (by decide)).trans (w24_43), (g45.i _ _ (by decide)).trans (w24_51), (g45.i _ _ (by decide)).trans (w24_53), (g45.i _ _ (by decide)).trans (w24_50), p45_0⟩ ⟨(ca24.fr (W := W_c0) (Fr.sI (by decide) (Fr.sI (by decide) Fr.r)) (by decide)), (ra24.fr g45 (by decide)), (lc24.fr (W := W_c0) (Fr.sI (by decide) (Fr.sI (by decide) Fr.r)) (by decide)), (lr24.fr g45 (by decide)), (cu24.fr (W := W_c0) (Fr.sI (by decide) (Fr.sI (by decide) Fr.r)) (by decide)), (ru24.fr g45 (by decide))⟩ ⟨by omega, by omega, by omega, by omega, by omega, by omega, by omega, by omega, by omega, by omega, by omega, by omega⟩ (vs2 (adI (rfl) (li_1)) (rfl))) fun v Mx46 w Nx46 hx46 => ?_
            rcases hx46 with ⟨i46, e46, u46, uc46, G46, U46, X46, fl46, fr46, sc46, sr46, rw46, bd46, mv46, ag46, au46, ax46⟩ | ⟨F46, P46, fl46, fr46, tc46, tr46⟩
            ·
              have FL46 : Fr W_cp Mc Mx46 := Fr.t (Fr.sI (by decide) (Fr.sI (by decide) FL24)) fl46
              have FR46 : Fr W_rx Mr Nx46 := Fr.t f45 fr46
              obtain ⟨bb46_0, bb46_1, bb46_2, bb46_3, bb46_4, bb46_5, bb46_6, bb46_7, bb46_8, bb46_9, bb46_10, bb46_11⟩ := bd46
              obtain ⟨q46_12, q46_13, q46_10, q46_9, q46_16, q46_19⟩ := sc46
              obtain ⟨w46_36, w46_37, w46_38, w46_41, w46_43, w46_51, w46_53, w46_50, w46_n⟩ := sr46
              obtain ⟨ca46, ra46, lc46, lr46, cu46, ru46⟩ := rw46
              have hk47 := (hS.ok i46 (by omega) (by omega)).r
              refine rsl (cV_e rfl) ?_
              refine rsr (cV_e rfl) ?_
              refine rsl (vC_e (ck_65 (hC.fr FL46))) ?_
              refine RlI (a87 (by omega) (hC.fr FL46) (q46_9) (rfl) (li_0) (by omega)) fun v Ma49 h49 => ?_
              obtain ⟨r48, rfl, g49, e49_k0, p49_0, p49_1⟩ := h49
              have f49 : Fr W_cp Mc Ma49 := Fr.t FL46 (Fr.m g49 (by decide))
              refine rsl (cI_e rfl) ?_
              refine rsl (if_pos (eqI_p (rfl) (li_3) (by omega))) ?_
              refine rsl (jv_e) ?_
              refine rsr (vC_e (rk_160 (hR.fr FR46))) ?_
              refine RrI (a196 (by omega) (hR.fr FR46) (w46_43) ((FR46.i _ _ (by decide)).trans h49) ((FR46.i _ _ (by decide)).trans h48) (li_16) (li_0) (by omega)) fun v Ma51 h51 => ?_
              obtain ⟨r50, rfl, g51, e51_k0, p51_0, p51_1⟩ := h51
              have f51 : Fr W_rx Mr Ma51 := Fr.t FR46 (Fr.m g51 (by decide))
              refine rsr (cI_e rfl) ?_
              refine rsr (jv_e) ?_
              exact Rs.ok (Or.inl ⟨i46, (e46 + 1), u46, uc46, (pu G46 e46 [16, 0, -2, 0, ut, mu, 0]), U46, X46, f49, f51, ⟨(g49.i _ _ (by decide)).trans (q46_12), (g49.i _ _ (by decide)).trans (q46_13), (g49.i _ _ (by decide)).trans (q46_10), e49_k0, (g49.i _ _ (by decide)).trans (q46_16), (g49.i _ _ (by decide)).trans (q46_19)⟩, ⟨(g51.i _ _ (by decide)).trans (w46_36), (g51.i _ _ (by decide)).trans (w46_37), (g51.i _ _ (by decide)).trans (w46_38), (g51.i _ _ (by decide)).trans (w46_41), e51_k0, (g51.i _ _ (by decide)).trans (w46_51), (g51.i _ _ (by decide)).trans (w46_53), (g51.i _ _ (by decide)).trans (w46_50), (w46_n.fr g51 (by decide) (by decide))⟩, ⟨(CA1.em ca46 (by omega) p49_1 rfl), (RA1.em ra46 (by omega) p51_1 rfl), (lc46.fr g49 (by decide)), (lr46.fr g51 (by decide)), (cu46.fr g49 (by decide)), (ru46.fr g51 (by decide))⟩, ⟨by omega, by omega, by omega, by omega, by omega, by omega, by omega, by omega, by omega, by omega, by omega, by omega⟩, ⟨by omega, by omega, by omega, by omega, by omega, by omega⟩, (Ag.pu (Ag.t (Ag.t Ag.r ag24 (by omega)) ag46 (by omega)) (by omega)), (Ag.t (Ag.t Ag.r au24 (by omega)) au46 (by omega)), (AgL.t (AgL.t AgL.r ax24 (by omega)) ax46 (by omega))⟩)
            ·
              have FL46 : Fr W_cp Mc Mx46 := Fr.t (Fr.sI (by decide) (Fr.sI (by decide) FL24)) fl46
              have FR46 : Fr W_rp Mr Nx46 := Fr.t (Fr.m f45 W_rx_p) fr46
              obtain ⟨ti46, tz46, tn46, tu46, t1346, t1046, t1146, t1246, t946, t1646, t1946, tb46⟩ := tc46
              obtain ⟨re46, rn46, ru46, rm46, rt46, u4146, u4246, u4346, u5146, u5346, u4846, u4946, ub46⟩ := tr46
              refine rsl (cV_e rfl) ?_
              refine rsr (cV_e rfl) ?_
              refine rsl (vC_e (ck_65 (hC.fr FL46))) ?_
              refine RlI (y87 (by omega) (hC.fr FL46) (hTk.fr (WL := W_cp) FL46 (by decide)) (t1246) (t1346) (t1046) (t1146) (t946) (t1646) (t1946) (rfl) (li_0) (by omega)) fun v Ma53 h53 => ?_
              obtain ⟨rv52, sz52, sn52, uc52, rfl, g53, e53_sz52, e53_sn52, e53_uc52, e53_k0, e53_k1, e53_k2, e53_k3, p53_0, p53_1, p53_2, p53_3⟩ := h53
              have f53 : Fr W_cp Mc Ma53 := Fr.t FL46 (Fr.m g53 (by decide))
              refine rsl (cI_e rfl) ?_
              refine rsl (if_pos (eqI_p (rfl) (li_3) (by omega))) ?_
              refine rsl (jv_e) ?_
              refine rsr (vC_e (rk_160 (hR.fr FR46))) ?_
              refine RrI (x196_s (by omega) (hR.fr FR46) (u4146) (u4246) (u4346) (u5146) (u5346) (u4846) (u4946) (li_16) (li_0) (by omega)) fun v Ma55 h55 => ?_
              obtain ⟨rv54, em54, rfl, g55, e55_em54, e55_k0, e55_k1, e55_k2, e55_k3, e55_k4, p55_0, p55_1⟩ := h55
              have f55 : Fr W_rp Mr Ma55 := Fr.t FR46 (Fr.m g55 (by decide))
              refine rsr (cI_e rfl) ?_
              refine rsr (jv_e) ?_
              exact Rs.ok (Or.inr ⟨F46, P46, f53, f55, ⟨ti46, sz52, sn52, uc52, e53_k0, e53_k1, e53_k2, e53_k3, e53_sz52, e53_sn52, e53_uc52, by omega⟩, ⟨em54, rn46, ru46, rm46, rt46, e55_k0, e55_k1, e55_em54, e55_k2, e55_k3, e55_k4, (g55.i _ _ (by decide)).trans (u4946), by omega⟩⟩)
          ·
            by_cases c56 : ((kd i24)) = 129
            ·
              refine rsl (cI_e (lk_129 (by omega) ((rfl).trans (congrArg iI (by omega))))) ?_
              refine rsl (if_pos (eqI_p (rfl) (rfl) (by omega))) ?_
              refine rsl (gtI_q (w := iI ((kd i24))) (ck_65 (hC.fr FL24)) (q24_13)) ?_
              refine rsl (cI_e (ok_129 (by omega) ((rfl).trans (congrArg iI (by omega))))) ?_
              refine rsl (vC_e (ck_65 (hC.fr FL24))) ?_
              have hm57 : i24 + 1 < m := hS.more i24 (by omega) (by omega) (by omega)
              refine rsl (cV_e (a63q (by omega) hS (hC.fr FL24) (hTk.fr (WL := W_cp) FL24 (by decide)) (q24_12) (q24_13) (q24_10) (i2 := (i24 + 1)) (by omega) (by omega))) ?_
              have hk58 := (hS.ok (i24 + 1) (by omega) (by omega)).r
              refine rsl (vC_e (ck_65 (hC.fr FL24).sI.sI)) ?_
              refine rsr (gtI_q (w := iI ((kr (kd i24)))) (rk_160 (hR.fr FR24)) (w24_36)) ?_
              refine rsr (jn_v) ?_
              refine rsr (if_neg (krI_n (k := 60) (rfl) (li_60) (hS.ok i24 (by omega) (by omega)) (by unfold KdOK sgk; omega) (by decide +kernel) (by omega) (by omega))) ?_
              refine rsr (gtI_q (w := iI ((kr (kd i24)))) (rk_160 (hR.fr FR24)) (w24_36)) ?_
              refine rsr (if_neg (krI_n (k := 128) (rfl) (li_300) (hS.ok i24 (by omega) (by omega)) (by unfold KdOK sgk; omega) (by decide +kernel) (by omega) (by omega))) ?_
              refine rsr (gtI_q (w := iI ((kr (kd i24)))) (rk_160 (hR.fr FR24)) (w24_36)) ?_
              refine rsr (if_pos (krI_p (k := 129) (rfl) (li_301) (by omega) (by decide +kernel))) ?_
              refine rsr (jv_e) ?_
              refine rsr (gtI_q (w := iI 0) (rk_160 (hR.fr FR24)) (w24_41)) ?_
              refine rsr (jn_v) ?_
              refine rsr (if_pos (eqI_p (rfl) (li_0) (by omega))) ?_
              refine rsr (if_neg (lsI_n (li_17) (li_0) (by omega))) ?_
              refine rsr (vC_e (rk_160 (hR.fr FR24))) ?_
              refine RrV (nx_ok (by omega) hS (hR.fr FR24) (hT.fr (W := W_rx) FR24 (by decide) (by decide)) (fun i a b => (Fr.lc (W := W_rx) FR24 _ (by decide) _).trans (hW i a b)) (i := i24) (w24_41) (w24_38) (by omega) (by omega)) fun v Ma60 h60 => ?_
              obtain ⟨g60, e60_k0, e60_k1, e60_k2, p60_0⟩ := h60
              have f60 : Fr W_rx Mr Ma60 := Fr.t FR24 (Fr.m g60 (by decide))
              refine rsr (cV_e rfl) ?_
              refine rsr (vC_e (rk_160 (hR.fr f60))) ?_
              refine Rb_VV (hp4 _ _ (by omega) (by omega) T n m kd pl E tx ua ut mu _ _ G24 U24 Hl X24 (i24 + 1) e24 s u24 uc24 _ hS (hCx.fr (Fr.sI (by decide) (Fr.sI (by decide) FL24)) f60) ⟨(sI_nej (by decide)).trans (sI_eq), sI_eq, (sI_nej (by decide)).trans ((sI_nej (by decide)).trans (q24_10)), (sI_nej (by decide)).trans ((sI_nej (by decide)).trans (q24_9)), (sI_nej (by decide)).trans ((sI_nej (by decide)).trans (q24_16)), (sI_nej (by decide)).trans ((sI_nej (by decide)).trans (q24_19))⟩ ⟨e60_k0, e60_k1, e60_k2, (g60.i _ _ (by decide)).trans (w24_41), (g60.i _ _ (by decide)).trans (w24_43), (g60.i _ _ (by decide)).trans (w24_51), (g60.i _ _ (by decide)).trans (w24_53), (g60.i _ _ (by decide)).trans (w24_50), p60_0⟩ ⟨(ca24.fr (W := W_c0) (Fr.sI (by decide) (Fr.sI (by decide) Fr.r)) (by decide)), (ra24.fr g60 (by decide)), (lc24.fr (W := W_c0) (Fr.sI (by decide) (Fr.sI (by decide) Fr.r)) (by decide)), (lr24.fr g60 (by decide)), (cu24.fr (W := W_c0) (Fr.sI (by decide) (Fr.sI (by decide) Fr.r)) (by decide)), (ru24.fr g60 (by decide))⟩ ⟨by omega, by omega, by omega, by omega, by omega, by omega, by omega, by omega, by omega, by omega, by omega, by omega⟩ (vs2 (adI (rfl) (li_1)) (rfl))) fun v Mx61 w Nx61 hx61 => ?_
              rcases hx61 with ⟨i61, e61, u61, uc61, G61, U61, X61, fl61, fr61, sc61, sr61, rw61, bd61, mv61, ag61, au61, ax61⟩ | ⟨F61, P61, fl61, fr61, tc61, tr61⟩
              ·
                have FL61 : Fr W_cp Mc Mx61 := Fr.t (Fr.sI (by decide) (Fr.sI (by decide) FL24)) fl61
                have FR61 : Fr W_rx Mr Nx61 := Fr.t f60 fr61
                obtain ⟨bb61_0, bb61_1, bb61_2, bb61_3, bb61_4, bb61_5, bb61_6, bb61_7, bb61_8, bb61_9, bb61_10, bb61_11⟩ := bd61
                obtain ⟨q61_12, q61_13, q61_10, q61_9, q61_16, q61_19⟩ := sc61
                obtain ⟨w61_36, w61_37, w61_38, w61_41, w61_43, w61_51, w61_53, w61_50, w61_n⟩ := sr61
                obtain ⟨ca61, ra61, lc61, lr61, cu61, ru61⟩ := rw61
                have hk62 := (hS.ok i61 (by omega) (by omega)).r
                refine rsl (cV_e rfl) ?_
                refine rsr (cV_e rfl) ?_
                refine rsl (vC_e (ck_65 (hC.fr FL61))) ?_
                refine RlI (a87 (by omega) (hC.fr FL61) (q61_9) (rfl) (li_0) (by omega)) fun v Ma64 h64 => ?_
                obtain ⟨r63, rfl, g64, e64_k0, p64_0, p64_1⟩ := h64
                have f64 : Fr W_cp Mc Ma64 := Fr.t FL61 (Fr.m g64 (by decide))
                refine rsl (cI_e rfl) ?_
                refine rsl (if_pos (eqI_p (rfl) (li_3) (by omega))) ?_
                refine rsl (jv_e) ?_
                refine rsr (vC_e (rk_160 (hR.fr FR61))) ?_
                refine RrI (a196 (by omega) (hR.fr FR61) (w61_43) ((FR61.i _ _ (by decide)).trans h49) ((FR61.i _ _ (by decide)).trans h48) (li_17) (li_0) (by omega)) fun v Ma66 h66 => ?_
                obtain ⟨r65, rfl, g66, e66_k0, p66_0, p66_1⟩ := h66
                have f66 : Fr W_rx Mr Ma66 := Fr.t FR61 (Fr.m g66 (by decide))
                refine rsr (cI_e rfl) ?_
                refine rsr (jv_e) ?_
                exact Rs.ok (Or.inl ⟨i61, (e61 + 1), u61, uc61, (pu G61 e61 [17, 0, -2, 0, ut, mu, 0]), U61, X61, f64, f66, ⟨(g64.i _ _ (by decide)).trans (q61_12), (g64.i _ _ (by decide)).trans (q61_13), (g64.i _ _ (by decide)).trans (q61_10), e64_k0, (g64.i _ _ (by decide)).trans (q61_16), (g64.i _ _ (by decide)).trans (q61_19)⟩, ⟨(g66.i _ _ (by decide)).trans (w61_36), (g66.i _ _ (by decide)).trans (w61_37), (g66.i _ _ (by decide)).trans (w61_38), (g66.i _ _ (by decide)).trans (w61_41), e66_k0, (g66.i _ _ (by decide)).trans (w61_51), (g66.i _ _ (by decide)).trans (w61_53), (g66.i _ _ (by decide)).trans (w61_50), (w61_n.fr g66 (by decide) (by decide))⟩, ⟨(CA1.em ca61 (by omega) p64_1 rfl), (RA1.em ra61 (by omega) p66_1 rfl), (lc61.fr g64 (by decide)), (lr61.fr g66 (by decide)), (cu61.fr g64 (by decide)), (ru61.fr g66 (by decide))⟩, ⟨by omega, by omega, by omega, by omega, by omega, by omega, by omega, by omega, by omega, by omega, by omega, by omega⟩, ⟨by omega, by omega, by omega, by omega, by omega, by omega⟩, (Ag.pu (Ag.t (Ag.t Ag.r ag24 (by omega)) ag61 (by omega)) (by omega)), (Ag.t (Ag.t Ag.r au24 (by omega)) au61 (by omega)), (AgL.t (AgL.t AgL.r ax24 (by omega)) ax61 (by omega))⟩)
              ·
                have FL61 : Fr W_cp Mc Mx61 := Fr.t (Fr.sI (by decide) (Fr.sI (by decide) FL24)) fl61
                have FR61 : Fr W_rp Mr Nx61 := Fr.t (Fr.m f60 W_rx_p) fr61
                obtain ⟨ti61, tz61, tn61, tu61, t1361, t1061, t1161, t1261, t961, t1661, t1961, tb61⟩ := tc61
                obtain ⟨re61, rn61, ru61, rm61, rt61, u4161, u4261, u4361, u5161, u5361, u4861, u4961, ub61⟩ := tr61
                refine rsl (cV_e rfl) ?_
                refine rsr (cV_e rfl) ?_
                refine rsl (vC_e (ck_65 (hC.fr FL61))) ?_
                refine RlI (y87 (by omega) (hC.fr FL61) (hTk.fr (WL := W_cp) FL61 (by decide)) (t1261) (t1361) (t1061) (t1161) (t961) (t1661) (t1961) (rfl) (li_0) (by omega)) fun v Ma68 h68 => ?_
                obtain ⟨rv67, sz67, sn67, uc67, rfl, g68, e68_sz67, e68_sn67, e68_uc67, e68_k0, e68_k1, e68_k2, e68_k3, p68_0, p68_1, p68_2, p68_3⟩ := h68
                have f68 : Fr W_cp Mc Ma68 := Fr.t FL61 (Fr.m g68 (by decide))
                refine rsl (cI_e rfl) ?_
                refine rsl (if_pos (eqI_p (rfl) (li_3) (by omega))) ?_
                refine rsl (jv_e) ?_
                refine rsr (vC_e (rk_160 (hR.fr FR61))) ?_
                refine RrI (x196_s (by omega) (hR.fr FR61) (u4161) (u4261) (u4361) (u5161) (u5361) (u4861) (u4961) (li_17) (li_0) (by omega)) fun v Ma70 h70 => ?_
                obtain ⟨rv69, em69, rfl, g70, e70_em69, e70_k0, e70_k1, e70_k2, e70_k3, e70_k4, p70_0, p70_1⟩ := h70
                have f70 : Fr W_rp Mr Ma70 := Fr.t FR61 (Fr.m g70 (by decide))
                refine rsr (cI_e rfl) ?_
                refine rsr (jv_e) ?_
                exact Rs.ok (Or.inr ⟨F61, P61, f68, f70, ⟨ti61, sz67, sn67, uc67, e68_k0, e68_k1, e68_k2, e68_k3, e68_sz67, e68_sn67, e68_uc67, by omega⟩, ⟨em69, rn61, ru61, rm61, rt61, e70_k0, e70_k1, e70_em69, e70_k2, e70_k3, e70_k4, (g70.i _ _ (by decide)).trans (u4961), by omega⟩⟩)
            ·
              by_cases c71 : ((kd i24)) = 130
              ·
                refine rsl (cI_e (lk_130 (by omega) ((rfl).trans (congrArg iI (by omega))))) ?_
                refine rsl (if_pos (eqI_p (rfl) (rfl) (by omega))) ?_
                refine rsl (gtI_q (w := iI ((kd i24))) (ck_65 (hC.fr FL24)) (q24_13)) ?_
                refine rsl (cI_e (ok_130 (by omega) ((rfl).trans (congrArg iI (by omega))))) ?_
                refine rsl (vC_e (ck_65 (hC.fr FL24))) ?_
                have hm72 : i24 + 1 < m := hS.more i24 (by omega) (by omega) (by omega)
                refine rsl (cV_e (a63q (by omega) hS (hC.fr FL24) (hTk.fr (WL := W_cp) FL24 (by decide)) (q24_12) (q24_13) (q24_10) (i2 := (i24 + 1)) (by omega) (by omega))) ?_
                have hk73 := (hS.ok (i24 + 1) (by omega) (by omega)).r
                refine rsl (vC_e (ck_65 (hC.fr FL24).sI.sI)) ?_
                refine rsr (gtI_q (w := iI ((kr (kd i24)))) (rk_160 (hR.fr FR24)) (w24_36)) ?_
                refine rsr (jn_v) ?_
                refine rsr (if_neg (krI_n (k := 60) (rfl) (li_60) (hS.ok i24 (by omega) (by omega)) (by unfold KdOK sgk; omega) (by decide +kernel) (by omega) (by omega))) ?_
                refine rsr (gtI_q (w := iI ((kr (kd i24)))) (rk_160 (hR.fr FR24)) (w24_36)) ?_
                refine rsr (if_neg (krI_n (k := 128) (rfl) (li_300) (hS.ok i24 (by omega) (by omega)) (by unfold KdOK sgk; omega) (by decide +kernel) (by omega) (by omega))) ?_
                refine rsr (gtI_q (w := iI ((kr (kd i24)))) (rk_160 (hR.fr FR24)) (w24_36)) ?_
                refine rsr (if_neg (krI_n (k := 129) (rfl) (li_301) (hS.ok i24 (by omega) (by omega)) (by unfold KdOK sgk; omega) (by decide +kernel) (by omega) (by omega))) ?_
                refine rsr (gtI_q (w := iI ((kr (kd i24)))) (rk_160 (hR.fr FR24)) (w24_36)) ?_
                refine rsr (if_pos (krI_p (k := 130) (rfl) (li_302) (by omega) (by decide +kernel))) ?_
                refine rsr (jv_e) ?_
                refine rsr (gtI_q (w := iI 0) (rk_160 (hR.fr FR24)) (w24_41)) ?_
                refine rsr (jn_v) ?_
                refine rsr (if_pos (eqI_p (rfl) (li_0) (by omega))) ?_
                refine rsr (if_neg (lsI_n (li_18) (li_0) (by omega))) ?_
                refine rsr (vC_e (rk_160 (hR.fr FR24))) ?_
                refine RrV (nx_ok (by omega) hS (hR.fr FR24) (hT.fr (W := W_rx) FR24 (by decide) (by decide)) (fun i a b => (Fr.lc (W := W_rx) FR24 _ (by decide) _).trans (hW i a b)) (i := i24) (w24_41) (w24_38) (by omega) (by omega)) fun v Ma75 h75 => ?_
                obtain ⟨g75, e75_k0, e75_k1, e75_k2, p75_0⟩ := h75
                have f75 : Fr W_rx Mr Ma75 := Fr.t FR24 (Fr.m g75 (by decide))
                refine rsr (cV_e rfl) ?_
                refine rsr (vC_e (rk_160 (hR.fr f75))) ?_
                refine Rb_VV (hp4 _ _ (by omega) (by omega) T n m kd pl E tx ua ut mu _ _ G24 U24 Hl X24 (i24 + 1) e24 s u24 uc24 _ hS (hCx.fr (Fr.sI (by decide) (Fr.sI (by decide) FL24)) f75) ⟨(sI_nej (by decide)).trans (sI_eq), sI_eq, (sI_nej (by decide)).trans ((sI_nej (by decide)).trans (q24_10)), (sI_nej (by decide)).trans ((sI_nej (by decide)).trans (q24_9)), (sI_nej (by decide)).trans ((sI_nej (by decide)).trans (q24_16)), (sI_nej (by decide)).trans ((sI_nej (by decide)).trans (q24_19))⟩ ⟨e75_k0, e75_k1, e75_k2, (g75.i _ _ (by decide)).trans (w24_41), (g75.i _ _ (by decide)).trans (w24_43), (g75.i _ _ (by decide)).trans (w24_51), (g75.i _ _ (by decide)).trans (w24_53), (g75.i _ _ (by decide)).trans (w24_50), p75_0⟩ ⟨(ca24.fr (W := W_c0) (Fr.sI (by decide) (Fr.sI (by decide) Fr.r)) (by decide)), (ra24.fr g75 (by decide)), (lc24.fr (W := W_c0) (Fr.sI (by decide) (Fr.sI (by decide) Fr.r)) (by decide)), (lr24.fr g75 (by decide)), (cu24.fr (W := W_c0) (Fr.sI (by decide) (Fr.sI (by decide) Fr.r)) (by decide)), (ru24.fr g75 (by decide))⟩ ⟨by omega, by omega, by omega, by omega, by omega, by omega, by omega, by omega, by omega, by omega, by omega, by omega⟩ (vs2 (adI (rfl) (li_1)) (rfl))) fun v Mx76 w Nx76 hx76 => ?_
                rcases hx76 with ⟨i76, e76, u76, uc76, G76, U76, X76, fl76, fr76, sc76, sr76, rw76, bd76, mv76, ag76, au76, ax76⟩ | ⟨F76, P76, fl76, fr76, tc76, tr76⟩
                ·
                  have FL76 : Fr W_cp Mc Mx76 := Fr.t (Fr.sI (by decide) (Fr.sI (by decide) FL24)) fl76
                  have FR76 : Fr W_rx Mr Nx76 := Fr.t f75 fr76
                  obtain ⟨bb76_0, bb76_1, bb76_2, bb76_3, bb76_4, bb76_5, bb76_6, bb76_7, bb76_8, bb76_9, bb76_10, bb76_11⟩ := bd76
                  obtain ⟨q76_12, q76_13, q76_10, q76_9, q76_16, q76_19⟩ := sc76
                  obtain ⟨w76_36, w76_37, w76_38, w76_41, w76_43, w76_51, w76_53, w76_50, w76_n⟩ := sr76
                  obtain ⟨ca76, ra76, lc76, lr76, cu76, ru76⟩ := rw76
                  have hk77 := (hS.ok i76 (by omega) (by omega)).r
                  refine rsl (cV_e rfl) ?_
                  refine rsr (cV_e rfl) ?_
                  refine rsl (vC_e (ck_65 (hC.fr FL76))) ?_
                  refine RlI (a87 (by omega) (hC.fr FL76) (q76_9) (rfl) (li_0) (by omega)) fun v Ma79 h79 => ?_
                  obtain ⟨r78, rfl, g79, e79_k0, p79_0, p79_1⟩ := h79
                  have f79 : Fr W_cp Mc Ma79 := Fr.t FL76 (Fr.m g79 (by decide))
                  refine rsl (cI_e rfl) ?_
                  refine rsl (if_pos (eqI_p (rfl) (li_3) (by omega))) ?_
                  refine rsl (jv_e) ?_
                  refine rsr (vC_e (rk_160 (hR.fr FR76))) ?_
                  refine RrI (a196 (by omega) (hR.fr FR76) (w76_43) ((FR76.i _ _ (by decide)).trans h49) ((FR76.i _ _ (by decide)).trans h48) (li_18) (li_0) (by omega)) fun v Ma81 h81 => ?_
                  obtain ⟨r80, rfl, g81, e81_k0, p81_0, p81_1⟩ := h81
                  have f81 : Fr W_rx Mr Ma81 := Fr.t FR76 (Fr.m g81 (by decide))
                  refine rsr (cI_e rfl) ?_
                  refine rsr (jv_e) ?_
                  exact Rs.ok (Or.inl ⟨i76, (e76 + 1), u76, uc76, (pu G76 e76 [18, 0, -2, 0, ut, mu, 0]), U76, X76, f79, f81, ⟨(g79.i _ _ (by decide)).trans (q76_12), (g79.i _ _ (by decide)).trans (q76_13), (g79.i _ _ (by decide)).trans (q76_10), e79_k0, (g79.i _ _ (by decide)).trans (q76_16), (g79.i _ _ (by decide)).trans (q76_19)⟩, ⟨(g81.i _ _ (by decide)).trans (w76_36), (g81.i _ _ (by decide)).trans (w76_37), (g81.i _ _ (by decide)).trans (w76_38), (g81.i _ _ (by decide)).trans (w76_41), e81_k0, (g81.i _ _ (by decide)).trans (w76_51), (g81.i _ _ (by decide)).trans (w76_53), (g81.i _ _ (by decide)).trans (w76_50), (w76_n.fr g81 (by decide) (by decide))⟩, ⟨(CA1.em ca76 (by omega) p79_1 rfl), (RA1.em ra76 (by omega) p81_1 rfl), (lc76.fr g79 (by decide)), (lr76.fr g81 (by decide)), (cu76.fr g79 (by decide)), (ru76.fr g81 (by decide))⟩, ⟨by omega, by omega, by omega, by omega, by omega, by omega, by omega, by omega, by omega, by omega, by omega, by omega⟩, ⟨by omega, by omega, by omega, by omega, by omega, by omega⟩, (Ag.pu (Ag.t (Ag.t Ag.r ag24 (by omega)) ag76 (by omega)) (by omega)), (Ag.t (Ag.t Ag.r au24 (by omega)) au76 (by omega)), (AgL.t (AgL.t AgL.r ax24 (by omega)) ax76 (by omega))⟩)
                ·
                  have FL76 : Fr W_cp Mc Mx76 := Fr.t (Fr.sI (by decide) (Fr.sI (by decide) FL24)) fl76
                  have FR76 : Fr W_rp Mr Nx76 := Fr.t (Fr.m f75 W_rx_p) fr76
                  obtain ⟨ti76, tz76, tn76, tu76, t1376, t1076, t1176, t1276, t976, t1676, t1976, tb76⟩ := tc76
                  obtain ⟨re76, rn76, ru76, rm76, rt76, u4176, u4276, u4376, u5176, u5376, u4876, u4976, ub76⟩ := tr76
                  refine rsl (cV_e rfl) ?_
                  refine rsr (cV_e rfl) ?_
                  refine rsl (vC_e (ck_65 (hC.fr FL76))) ?_
                  refine RlI (y87 (by omega) (hC.fr FL76) (hTk.fr (WL := W_cp) FL76 (by decide)) (t1276) (t1376) (t1076) (t1176) (t976) (t1676) (t1976) (rfl) (li_0) (by omega)) fun v Ma83 h83 => ?_
                  obtain ⟨rv82, sz82, sn82, uc82, rfl, g83, e83_sz82, e83_sn82, e83_uc82, e83_k0, e83_k1, e83_k2, e83_k3, p83_0, p83_1, p83_2, p83_3⟩ := h83
                  have f83 : Fr W_cp Mc Ma83 := Fr.t FL76 (Fr.m g83 (by decide))
                  refine rsl (cI_e rfl) ?_
                  refine rsl (if_pos (eqI_p (rfl) (li_3) (by omega))) ?_
                  refine rsl (jv_e) ?_
                  refine rsr (vC_e (rk_160 (hR.fr FR76))) ?_
                  refine RrI (x196_s (by omega) (hR.fr FR76) (u4176) (u4276) (u4376) (u5176) (u5376) (u4876) (u4976) (li_18) (li_0) (by omega)) fun v Ma85 h85 => ?_
                  obtain ⟨rv84, em84, rfl, g85, e85_em84, e85_k0, e85_k1, e85_k2, e85_k3, e85_k4, p85_0, p85_1⟩ := h85
                  have f85 : Fr W_rp Mr Ma85 := Fr.t FR76 (Fr.m g85 (by decide))
                  refine rsr (cI_e rfl) ?_
                  refine rsr (jv_e) ?_
                  exact Rs.ok (Or.inr ⟨F76, P76, f83, f85, ⟨ti76, sz82, sn82, uc82, e83_k0, e83_k1, e83_k2, e83_k3, e83_sz82, e83_sn82, e83_uc82, by omega⟩, ⟨em84, rn76, ru76, rm76, rt76, e85_k0, e85_k1, e85_em84, e85_k2, e85_k3, e85_k4, (g85.i _ _ (by decide)).trans (u4976), by omega⟩⟩)
              ·
                refine RlI (lv_3 (by omega) (rfl) (by omega)) fun v Ml86 hl86 => ?_
                obtain ⟨rl86, rfl, rfl, nl86, bl86⟩ := hl86
                refine rsl (cI_e rfl) ?_
                refine rsl (if_neg (eqI_n (rfl) (rfl) (by omega))) ?_
                refine rsl (jv_e) ?_
                refine rsr (gtI_q (w := iI ((kr (kd i24)))) (rk_160 (hR.fr FR24)) (w24_36)) ?_
                refine rsr (jn_v) ?_
                refine rsr (if_neg (krI_n (k := 60) (rfl) (li_60) (hS.ok i24 (by omega) (by omega)) (by unfold KdOK sgk; omega) (by decide +kernel) (by omega) (by omega))) ?_
                refine rsr (gtI_q (w := iI ((kr (kd i24)))) (rk_160 (hR.fr FR24)) (w24_36)) ?_
                refine rsr (if_neg (krI_n (k := 128) (rfl) (li_300) (hS.ok i24 (by omega) (by omega)) (by unfold KdOK sgk; omega) (by decide +kernel) (by omega) (by omega))) ?_
                refine rsr (gtI_q (w := iI ((kr (kd i24)))) (rk_160 (hR.fr FR24)) (w24_36)) ?_
                refine rsr (if_neg (krI_n (k := 129) (rfl) (li_301) (hS.ok i24 (by omega) (by omega)) (by unfold KdOK sgk; omega) (by decide +kernel) (by omega) (by omega))) ?_
                refine rsr (gtI_q (w := iI ((kr (kd i24)))) (rk_160 (hR.fr FR24)) (w24_36)) ?_
                refine rsr (if_neg (krI_n (k := 130) (rfl) (li_302) (hS.ok i24 (by omega) (by omega)) (by unfold KdOK sgk; omega) (by decide +kernel) (by omega) (by omega))) ?_
                refine rsr (jv_e) ?_
                refine rsr (gtI_q (w := iI 0) (rk_160 (hR.fr FR24)) (w24_41)) ?_
                refine rsr (jn_v) ?_
                refine rsr (if_pos (eqI_p (rfl) (li_0) (by omega))) ?_
                refine rsr (if_pos (lsI_p (li_m1) (li_0) (by omega))) ?_
                refine rsr (jv_e) ?_
                exact Rs.ok (Or.inl ⟨i24, e24, u24, uc24, G24, U24, X24, FL24, FR24, ⟨q24_12, q24_13, q24_10, q24_9, q24_16, q24_19⟩, ⟨w24_36, w24_37, w24_38, w24_41, w24_43, w24_51, w24_53, w24_50, w24_n⟩, ⟨ca24, ra24, lc24, lr24, cu24, ru24⟩, ⟨by omega, by omega, by omega, by omega, by omega, by omega, by omega, by omega, by omega, by omega, by omega, by omega⟩, ⟨by omega, by omega, by omega, by omega, by omega, by omega⟩, (Ag.t Ag.r ag24 (by omega)), (Ag.t Ag.r au24 (by omega)), (AgL.t AgL.r ax24 (by omega))⟩)
      ·
        have FL24 : Fr W_cp Mc Mx24 := Fr.t Fr.r fl24
        have FR24 : Fr W_rp Mr Nx24 := Fr.t (Fr.m Fr.r W_rx_p) fr24
        obtain ⟨ti24, tz24, tn24, tu24, t1324, t1024, t1124, t1224, t924, t1624, t1924, tb24⟩ := tc24
        obtain ⟨re24, rn24, ru24, rm24, rt24, u4124, u4224, u4324, u5124, u5324, u4824, u4924, ub24⟩ := tr24
        refine rsl (cV_e rfl) ?_
        refine rsr (cV_e rfl) ?_
        refine rsl (jn_v) ?_
        refine rsl (jn_v) ?_
        refine rsl (lp_e) ?_
        unfold c99_61
        refine rsl (if_neg (leI_n (li_3000) (li_0) (by omega))) ?_
        refine rsl (gtI_q (w := iI 2) (ck_65 (hC.fr FL24)) (t1324)) ?_
        refine rsl (cI_e (y102 (by omega) (rfl))) ?_
        refine rsl (if_neg (eqI_n (rfl) (rfl) (by omega))) ?_
        refine rsl (jv_e) ?_
        have b87 := V_r (M := Nx24) (a := 160) (j := 36)
        refine rsr (gtI_q (w := iI ((V Nx24 160 36))) (rk_160 (hR.fr FR24)) (eV)) ?_
        refine rsr (jn_v) ?_
        by_cases c88 : ((V Nx24 160 36)) = 60
        · refine rsr (if_pos (eqI_p (rfl) (li_60) (by omega))) ?_
          refine rsr (jv_e) ?_
          refine rsr (gtI_q (w := iI F24) (rk_160 (hR.fr FR24)) (u4124)) ?_
          refine rsr (jn_v) ?_
          refine rsr (if_neg (eqI_n (rfl) (li_0) (by omega))) ?_
          refine rsr (jv_e) ?_
          exact Rs.ok (Or.inr ⟨F24, P24, FL24, FR24, ⟨ti24, tz24, tn24, tu24, t1324, t1024, t1124, t1224, t924, t1624, t1924, by omega⟩, ⟨re24, rn24, ru24, rm24, rt24, u4124, u4224, u4324, u5124, u5324, u4824, u4924, by omega⟩⟩)
        · refine rsr (if_neg (eqI_n (rfl) (li_60) (by omega))) ?_
          refine rsr (gtI_q (w := iI ((V Nx24 160 36))) (rk_160 (hR.fr FR24)) (eV)) ?_
          by_cases c89 : ((V Nx24 160 36)) = 300
          · refine rsr (if_pos (eqI_p (rfl) (li_300) (by omega))) ?_
            refine rsr (jv_e) ?_
            refine rsr (gtI_q (w := iI F24) (rk_160 (hR.fr FR24)) (u4124)) ?_
            refine rsr (jn_v) ?_
            refine rsr (if_neg (eqI_n (rfl) (li_0) (by omega))) ?_
            refine rsr (jv_e) ?_
            exact Rs.ok (Or.inr ⟨F24, P24, FL24, FR24, ⟨ti24, tz24, tn24, tu24, t1324, t1024, t1124, t1224, t924, t1624, t1924, by omega⟩, ⟨re24, rn24, ru24, rm24, rt24, u4124, u4224, u4324, u5124, u5324, u4824, u4924, by omega⟩⟩)
          · refine rsr (if_neg (eqI_n (rfl) (li_300) (by omega))) ?_
            refine rsr (gtI_q (w := iI ((V Nx24 160 36))) (rk_160 (hR.fr FR24)) (eV)) ?_
            by_cases c90 : ((V Nx24 160 36)) = 301
            · refine rsr (if_pos (eqI_p (rfl) (li_301) (by omega))) ?_
              refine rsr (jv_e) ?_
              refine rsr (gtI_q (w := iI F24) (rk_160 (hR.fr FR24)) (u4124)) ?_
              refine rsr (jn_v) ?_
              refine rsr (if_neg (eqI_n (rfl) (li_0) (by omega))) ?_
              refine rsr (jv_e) ?_
              exact Rs.ok (Or.inr ⟨F24, P24, FL24, FR24, ⟨ti24, tz24, tn24, tu24, t1324, t1024, t1124, t1224, t924, t1624, t1924, by omega⟩, ⟨re24, rn24, ru24, rm24, rt24, u4124, u4224, u4324, u5124, u5324, u4824, u4924, by omega⟩⟩)
            · refine rsr (if_neg (eqI_n (rfl) (li_301) (by omega))) ?_
              refine rsr (gtI_q (w := iI ((V Nx24 160 36))) (rk_160 (hR.fr FR24)) (eV)) ?_
              by_cases c91 : ((V Nx24 160 36)) = 302
              · refine rsr (if_pos (eqI_p (rfl) (li_302) (by omega))) ?_
                refine rsr (jv_e) ?_
                refine rsr (gtI_q (w := iI F24) (rk_160 (hR.fr FR24)) (u4124)) ?_
                refine rsr (jn_v) ?_
                refine rsr (if_neg (eqI_n (rfl) (li_0) (by omega))) ?_
                refine rsr (jv_e) ?_
                exact Rs.ok (Or.inr ⟨F24, P24, FL24, FR24, ⟨ti24, tz24, tn24, tu24, t1324, t1024, t1124, t1224, t924, t1624, t1924, by omega⟩, ⟨re24, rn24, ru24, rm24, rt24, u4124, u4224, u4324, u5124, u5324, u4824, u4924, by omega⟩⟩)
              · refine rsr (if_neg (eqI_n (rfl) (li_302) (by omega))) ?_
                refine rsr (jv_e) ?_
                refine rsr (gtI_q (w := iI F24) (rk_160 (hR.fr FR24)) (u4124)) ?_
                refine rsr (jn_v) ?_
                refine rsr (if_neg (eqI_n (rfl) (li_0) (by omega))) ?_
                refine rsr (jv_e) ?_
                exact Rs.ok (Or.inr ⟨F24, P24, FL24, FR24, ⟨ti24, tz24, tn24, tu24, t1324, t1024, t1124, t1224, t924, t1624, t1924, by omega⟩, ⟨re24, rn24, ru24, rm24, rt24, u4124, u4224, u4324, u5124, u5324, u4824, u4924, by omega⟩⟩)
    ·
      rcases hx23 with ⟨i23, e23, u23, uc23, G23, U23, X23, FL23, FR23, sc23, sr23, rw23, bd23, ⟨mv23_0, mv23_1, mv23_2, mv23_3, mv23_4, mv23_5⟩, ag23, au23, ax23⟩ | ⟨F23, P23, FL23, FR23, tc23, tr23⟩
      ·
        obtain ⟨bb23_0, bb23_1, bb23_2, bb23_3, bb23_4, bb23_5, bb23_6, bb23_7, bb23_8, bb23_9, bb23_10, bb23_11⟩ := bd23
        obtain ⟨q23_12, q23_13, q23_10, q23_9, q23_16, q23_19⟩ := sc23
        obtain ⟨w23_36, w23_37, w23_38, w23_41, w23_43, w23_51, w23_53, w23_50, w23_n⟩ := sr23
        obtain ⟨ca23, ra23, lc23, lr23, cu23, ru23⟩ := rw23
        have hk92 := (hS.ok i23 (by omega) (by omega)).r
        refine rs1 (jn_v) ?_
        refine rs1 (jn_v) ?_
        refine rs1 (lp_e) ?_
        unfold c99_61
        refine rs1 (if_neg (leI_n (li_3000) (li_0) (by omega))) ?_
        refine rs1 (gtI_q (w := iI ((kd i23))) (ck_65 (hC.fr FL23)) (q23_13)) ?_
        refine Rc_I (lv_2 (by omega) (rfl) (by omega)) fun v Ml93 hl93 => ?_
        obtain ⟨rl93, rfl, rfl, nl93, bl93⟩ := hl93
        refine rs1 (cI_e rfl) ?_
        refine rs1 (if_neg (eqI_n (rfl) (rfl) (by omega))) ?_
        refine rs1 (jv_e) ?_
        exact Rt.ok (Or.inl ⟨i23, e23, u23, uc23, G23, U23, X23, FL23, FR23, ⟨q23_12, q23_13, q23_10, q23_9, q23_16, q23_19⟩, ⟨w23_36, w23_37, w23_38, w23_41, w23_43, w23_51, w23_53, w23_50, w23_n⟩, ⟨ca23, ra23, lc23, lr23, cu23, ru23⟩, ⟨by omega, by omega, by omega, by omega, by omega, by omega, by omega, by omega, by omega, by omega, by omega, by omega⟩, ⟨by omega, by omega, by omega, by omega, by omega, by omega⟩, ag23, au23, ax23⟩)
      ·
        obtain ⟨ti23, tz23, tn23, tu23, t1323, t1023, t1123, t1223, t923, t1623, t1923, tb23⟩ := tc23
        obtain ⟨re23, rn23, ru23, rm23, rt23, u4123, u4223, u4323, u5123, u5323, u4823, u4923, ub23⟩ := tr23
        refine rs1 (jn_v) ?_
        refine rs1 (jn_v) ?_
        refine rs1 (lp_e) ?_
        unfold c99_61
        refine rs1 (if_neg (leI_n (li_3000) (li_0) (by omega))) ?_
        refine rs1 (gtI_q (w := iI 2) (ck_65 (hC.fr FL23)) (t1323)) ?_
        refine rs1 (cI_e (y102 (by omega) (rfl))) ?_
        refine rs1 (if_neg (eqI_n (rfl) (rfl) (by omega))) ?_
        refine rs1 (jv_e) ?_
        exact Rt.ok (Or.inr ⟨F23, P23, FL23, FR23, ⟨ti23, tz23, tn23, tu23, t1323, t1023, t1123, t1223, t923, t1623, t1923, by omega⟩, ⟨re23, rn23, ru23, rm23, rt23, u4123, u4223, u4323, u5123, u5323, u4823, u4923, by omega⟩⟩)
theorem p_1 {D : Nat} {dp : Int} (hD : 20 ≤ D) (hp : Pair D 99 [2] 209 16 dp) : Pair (D + 1) 99 [1] 210 15 dp := by
  intro d d2 hd hd2 T n m kd pl E tx ua ut mu Mc Mr G U Hl X i e s u uc vs hS hx hsc hsr hrw hbd hvs
  subst hvs
  obtain ⟨d, rfl⟩ : ∃ e, d = e + 1 := ⟨d - 1, by omega⟩
  obtain ⟨d2, rfl⟩ : ∃ e, d2 = e + 1 := ⟨d2 - 1, by omega⟩
  show Rs (runX (d + 1) 99 [va_rf (some 65), .int (iI 1), .int (iI dp)] Mc) (runX (d2 + 1) 210 [va_rf (some 160)] Mr) _
  rw [r99]; unfold b99; rw [aR_e, aI_e, aI_e, aZ_e]; unfold c99; rw [r210]; unfold b210; rw [aR_e, aZ_e]; unfold c210
  have hCx := hx
  obtain ⟨hC, hR, hTk, hT, hW, ⟨hu1, hu2, hu3, hu4⟩, h49, h48, ⟨hb1, hb2, hb3, hb4⟩⟩ := hx
  obtain ⟨bb_0, bb_1, bb_2, bb_3, bb_4, bb_5, bb_6, bb_7, bb_8, bb_9, bb_10, bb_11⟩ := hbd
  obtain ⟨qa_12, qa_13, qa_10, qa_9, qa_16, qa_19⟩ := hsc
  obtain ⟨wa_36, wa_37, wa_38, wa_41, wa_43, wa_51, wa_53, wa_50, wa_n⟩ := hsr
  obtain ⟨caa, raa, lca, lra, cua, rua⟩ := hrw
  have hk1 := (hS.ok i (by omega) (by omega)).r
  refine rsl (if_pos (leI_p (rfl) (li_5) (by omega))) ?_
  refine rsl (jn_v) ?_
  refine rsl (if_neg (eqI_n (rfl) (li_2) (by omega))) ?_
  refine rsl (jv_e) ?_
  refine rsl (vC_e (ck_65 hC)) ?_
  refine rsr (vC_e (rk_160 hR)) ?_
  refine Rb_VV (hp _ _ (by omega) (by omega) T n m kd pl E tx ua ut mu _ _ G U Hl X i e s u uc _ hS (hCx.fr Fr.r Fr.r) ⟨qa_12, qa_13, qa_10, qa_9, qa_16, qa_19⟩ ⟨wa_36, wa_37, wa_38, wa_41, wa_43, wa_51, wa_53, wa_50, wa_n⟩ ⟨caa, raa, lca, lra, cua, rua⟩ ⟨by omega, by omega, by omega, by omega, by omega, by omega, by omega, by omega, by omega, by omega, by omega, by omega⟩ (vs2 (adI (rfl) (li_1)) (rfl))) fun v Mx2 w Nx2 hx2 => ?_
  rcases hx2 with ⟨i2, e2, u2, uc2, G2, U2, X2, fl2, fr2, sc2, sr2, rw2, bd2, mv2, ag2, au2, ax2⟩ | ⟨F2, P2, fl2, fr2, tc2, tr2⟩
  ·
    have FL2 : Fr W_cp Mc Mx2 := Fr.t Fr.r fl2
    have FR2 : Fr W_rx Mr Nx2 := Fr.t Fr.r fr2
    obtain ⟨bb2_0, bb2_1, bb2_2, bb2_3, bb2_4, bb2_5, bb2_6, bb2_7, bb2_8, bb2_9, bb2_10, bb2_11⟩ := bd2
    obtain ⟨q2_12, q2_13, q2_10, q2_9, q2_16, q2_19⟩ := sc2
    obtain ⟨w2_36, w2_37, w2_38, w2_41, w2_43, w2_51, w2_53, w2_50, w2_n⟩ := sr2
    obtain ⟨ca2, ra2, lc2, lr2, cu2, ru2⟩ := rw2
    have hk3 := (hS.ok i2 (by omega) (by omega)).r
    refine rsl (cV_e rfl) ?_
    refine rsr (cV_e rfl) ?_
    refine rsl (jn_v) ?_
    refine rsl (jn_v) ?_
    refine rsr (jn_v) ?_
    refine Rb_lp (fun m2 q t => (∃ (k i2 : Int), q.1 = iI k ∧ (0 ≤ k ∧ k ≤ i2) ∧ PK m kd pl E tx Mc Mr G U Hl X i e s u uc dp q.2 t i2 ∧ (m2 : Int) = m - i2 + 1) ∨ ∃ (k F P : Int), q.1 = iI k ∧ (0 ≤ k ∧ k ≤ 1500) ∧ Fr W_cp Mc q.2 ∧ Fr W_rp Mr t ∧ FTc m F P q.2 ∧ FTr (2500 - 30 * dp - 15) F P t ∧ m2 = 0) (fun m2 q t gl gr hq hgo => ?_) (m - i2 + 1).toNat _ _ _ _ (by omega) (by omega) (Or.inl ⟨0, i2, li_0, by omega, ⟨e2, u2, uc2, G2, U2, X2, FL2, FR2, ⟨q2_12, q2_13, q2_10, q2_9, q2_16, q2_19⟩, ⟨w2_36, w2_37, w2_38, w2_41, w2_43, w2_51, w2_53, w2_50, w2_n⟩, ⟨ca2, ra2, lc2, lr2, cu2, ru2⟩, ⟨by omega, by omega, by omega, by omega, by omega, by omega, by omega, by omega, by omega, by omega, by omega, by omega⟩, ⟨by omega, by omega, by omega, by omega, by omega, by omega⟩, (Ag.t Ag.r ag2 (by omega)), (Ag.t Ag.r au2 (by omega)), (AgL.t AgL.r ax2 (by omega))⟩, by omega⟩)
    obtain ⟨qk4, qm4⟩ := q
    dsimp only at hq
    try dsimp only
    rcases hq with hq | hq
    ·
      obtain ⟨k4, i4, hk4, ⟨hka4, hkb4⟩, ⟨e4, u4, uc4, G4, U4, X4, FL4, FR4, sc4, sr4, rw4, bd4, ⟨mv4_0, mv4_1, mv4_2, mv4_3, mv4_4, mv4_5⟩, ag4, au4, ax4⟩, hm4⟩ := hq
      obtain ⟨bb4_0, bb4_1, bb4_2, bb4_3, bb4_4, bb4_5, bb4_6, bb4_7, bb4_8, bb4_9, bb4_10, bb4_11⟩ := bd4
      obtain ⟨q4_12, q4_13, q4_10, q4_9, q4_16, q4_19⟩ := sc4
      obtain ⟨w4_36, w4_37, w4_38, w4_41, w4_43, w4_51, w4_53, w4_50, w4_n⟩ := sr4
      obtain ⟨ca4, ra4, lc4, lr4, cu4, ru4⟩ := rw4
      have hk5 := (hS.ok i4 (by omega) (by omega)).r
      unfold c99_61 c210_4
      refine rsl (if_neg (leI_n (li_3000) (hk4) (by omega))) ?_
      refine rsl (gtI_q (w := iI ((kd i4))) (ck_65 (hC.fr FL4)) (q4_13)) ?_
      by_cases c6 : ((kd i4)) = 225
      ·
        refine rsl (cI_e (lk_225 (by omega) ((rfl).trans (congrArg iI (by omega))))) ?_
        refine rsl (if_pos (eqI_p (rfl) (rfl) (by omega))) ?_
        refine rsl (gtI_q (w := iI ((kd i4))) (ck_65 (hC.fr FL4)) (q4_13)) ?_
        refine rsl (cI_e (ok_225 (by omega) ((rfl).trans (congrArg iI (by omega))))) ?_
        refine rsl (vC_e (ck_65 (hC.fr FL4))) ?_
        have hm7 : i4 + 1 < m := hS.more i4 (by omega) (by omega) (by omega)
        refine rsl (cV_e (a63q (by omega) hS (hC.fr FL4) (hTk.fr (WL := W_cp) FL4 (by decide)) (q4_12) (q4_13) (q4_10) (i2 := (i4 + 1)) (by omega) (by omega))) ?_
        have hk8 := (hS.ok (i4 + 1) (by omega) (by omega)).r
        refine rsl (vC_e (ck_65 (hC.fr FL4).sI.sI)) ?_
        refine rsr (gtI_q (w := iI 0) (rk_160 (hR.fr FR4)) (w4_41)) ?_
        refine rsr (if_pos (eqI_p (rfl) (li_0) (by omega))) ?_
        refine rsr (gtI_q (w := iI ((kr (kd i4)))) (rk_160 (hR.fr FR4)) (w4_36)) ?_
        refine rsr (if_pos (krI_p (k := 225) (rfl) (li_426) (by omega) (by decide +kernel))) ?_
        refine rsr (vC_e (rk_160 (hR.fr FR4))) ?_
        refine RrV (nx_ok (by omega) hS (hR.fr FR4) (hT.fr (W := W_rx) FR4 (by decide) (by decide)) (fun i a b => (Fr.lc (W := W_rx) FR4 _ (by decide) _).trans (hW i a b)) (i := i4) (w4_41) (w4_38) (by omega) (by omega)) fun v Ma10 h10 => ?_
        obtain ⟨g10, e10_k0, e10_k1, e10_k2, p10_0⟩ := h10
        have f10 : Fr W_rx Mr Ma10 := Fr.t FR4 (Fr.m g10 (by decide))
        refine rsr (cV_e rfl) ?_
        refine rsr (vC_e (rk_160 (hR.fr f10))) ?_
        refine Rb_VV (hp _ _ (by omega) (by omega) T n m kd pl E tx ua ut mu _ _ G4 U4 Hl X4 (i4 + 1) e4 s u4 uc4 _ hS (hCx.fr (Fr.sI (by decide) (Fr.sI (by decide) FL4)) f10) ⟨(sI_nej (by decide)).trans (sI_eq), sI_eq, (sI_nej (by decide)).trans ((sI_nej (by decide)).trans (q4_10)), (sI_nej (by decide)).trans ((sI_nej (by decide)).trans (q4_9)), (sI_nej (by decide)).trans ((sI_nej (by decide)).trans (q4_16)), (sI_nej (by decide)).trans ((sI_nej (by decide)).trans (q4_19))⟩ ⟨e10_k0, e10_k1, e10_k2, (g10.i _ _ (by decide)).trans (w4_41), (g10.i _ _ (by decide)).trans (w4_43), (g10.i _ _ (by decide)).trans (w4_51), (g10.i _ _ (by decide)).trans (w4_53), (g10.i _ _ (by decide)).trans (w4_50), p10_0⟩ ⟨(ca4.fr (W := W_c0) (Fr.sI (by decide) (Fr.sI (by decide) Fr.r)) (by decide)), (ra4.fr g10 (by decide)), (lc4.fr (W := W_c0) (Fr.sI (by decide) (Fr.sI (by decide) Fr.r)) (by decide)), (lr4.fr g10 (by decide)), (cu4.fr (W := W_c0) (Fr.sI (by decide) (Fr.sI (by decide) Fr.r)) (by decide)), (ru4.fr g10 (by decide))⟩ ⟨by omega, by omega, by omega, by omega, by omega, by omega, by omega, by omega, by omega, by omega, by omega, by omega⟩ (vs2 (adI (rfl) (li_1)) (rfl))) fun v Mx11 w Nx11 hx11 => ?_
        rcases hx11 with ⟨i11, e11, u11, uc11, G11, U11, X11, fl11, fr11, sc11, sr11, rw11, bd11, mv11, ag11, au11, ax11⟩ | ⟨F11, P11, fl11, fr11, tc11, tr11⟩
        ·
          have FL11 : Fr W_cp Mc Mx11 := Fr.t (Fr.sI (by decide) (Fr.sI (by decide) FL4)) fl11
          have FR11 : Fr W_rx Mr Nx11 := Fr.t f10 fr11
          obtain ⟨bb11_0, bb11_1, bb11_2, bb11_3, bb11_4, bb11_5, bb11_6, bb11_7, bb11_8, bb11_9, bb11_10, bb11_11⟩ := bd11
          obtain ⟨q11_12, q11_13, q11_10, q11_9, q11_16, q11_19⟩ := sc11
          obtain ⟨w11_36, w11_37, w11_38, w11_41, w11_43, w11_51, w11_53, w11_50, w11_n⟩ := sr11
          obtain ⟨ca11, ra11, lc11, lr11, cu11, ru11⟩ := rw11
          have hk12 := (hS.ok i11 (by omega) (by omega)).r
          refine rsl (cV_e rfl) ?_
          refine rsr (cV_e rfl) ?_
          refine rsl (vC_e (ck_65 (hC.fr FL11))) ?_
          refine RlI (a87 (by omega) (hC.fr FL11) (q11_9) (rfl) (li_0) (by omega)) fun v Ma14 h14 => ?_
          obtain ⟨r13, rfl, g14, e14_k0, p14_0, p14_1⟩ := h14
          have f14 : Fr W_cp Mc Ma14 := Fr.t FL11 (Fr.m g14 (by decide))
          refine rsl (cI_e rfl) ?_
          refine rsl (if_neg (eqI_n (rfl) (li_3) (by omega))) ?_
          refine rsl (ltI_q (z := (k4 + 1)) (adI (hk4) (li_1))) ?_
          refine rsr (vC_e (rk_160 (hR.fr FR11))) ?_
          refine RrI (a196 (by omega) (hR.fr FR11) (w11_43) ((FR11.i _ _ (by decide)).trans h49) ((FR11.i _ _ (by decide)).trans h48) (li_19) (li_0) (by omega)) fun v Ma16 h16 => ?_
          obtain ⟨r15, rfl, g16, e16_k0, p16_0, p16_1⟩ := h16
          have f16 : Fr W_rx Mr Ma16 := Fr.t FR11 (Fr.m g16 (by decide))
          refine rsr (cI_e rfl) ?_
          exact hgo (m - i11 + 1).toNat _ _ (by omega) (Or.inl ⟨(k4 + 1), i11, rfl, by omega, ⟨(e11 + 1), u11, uc11, (pu G11 e11 [19, 0, -2, 0, ut, mu, 0]), U11, X11, f14, f16, ⟨(g14.i _ _ (by decide)).trans (q11_12), (g14.i _ _ (by decide)).trans (q11_13), (g14.i _ _ (by decide)).trans (q11_10), e14_k0, (g14.i _ _ (by decide)).trans (q11_16), (g14.i _ _ (by decide)).trans (q11_19)⟩, ⟨(g16.i _ _ (by decide)).trans (w11_36), (g16.i _ _ (by decide)).trans (w11_37), (g16.i _ _ (by decide)).trans (w11_38), (g16.i _ _ (by decide)).trans (w11_41), e16_k0, (g16.i _ _ (by decide)).trans (w11_51), (g16.i _ _ (by decide)).trans (w11_53), (g16.i _ _ (by decide)).trans (w11_50), (w11_n.fr g16 (by decide) (by decide))⟩, ⟨(CA1.em ca11 (by omega) p14_1 rfl), (RA1.em ra11 (by omega) p16_1 rfl), (lc11.fr g14 (by decide)), (lr11.fr g16 (by decide)), (cu11.fr g14 (by decide)), (ru11.fr g16 (by decide))⟩, ⟨by omega, by omega, by omega, by omega, by omega, by omega, by omega, by omega, by omega, by omega, by omega, by omega⟩, ⟨by omega, by omega, by omega, by omega, by omega, by omega⟩, (Ag.pu (Ag.t ag4 ag11 (by omega)) (by omega)), (Ag.t au4 au11 (by omega)), (AgL.t ax4 ax11 (by omega))⟩, by omega⟩)
        ·
          have FL11 : Fr W_cp Mc Mx11 := Fr.t (Fr.sI (by decide) (Fr.sI (by decide) FL4)) fl11
          have FR11 : Fr W_rp Mr Nx11 := Fr.t (Fr.m f10 W_rx_p) fr11
          obtain ⟨ti11, tz11, tn11, tu11, t1311, t1011, t1111, t1211, t911, t1611, t1911, tb11⟩ := tc11
          obtain ⟨re11, rn11, ru11, rm11, rt11, u4111, u4211, u4311, u5111, u5311, u4811, u4911, ub11⟩ := tr11
          refine rsl (cV_e rfl) ?_
          refine rsr (cV_e rfl) ?_
          refine rsl (vC_e (ck_65 (hC.fr FL11))) ?_
          refine RlI (y87 (by omega) (hC.fr FL11) (hTk.fr (WL := W_cp) FL11 (by decide)) (t1211) (t1311) (t1011) (t1111) (t911) (t1611) (t1911) (rfl) (li_0) (by omega)) fun v Ma18 h18 => ?_
          obtain ⟨rv17, sz17, sn17, uc17, rfl, g18, e18_sz17, e18_sn17, e18_uc17, e18_k0, e18_k1, e18_k2, e18_k3, p18_0, p18_1, p18_2, p18_3⟩ := h18
          have f18 : Fr W_cp Mc Ma18 := Fr.t FL11 (Fr.m g18 (by decide))
          refine rsl (cI_e rfl) ?_
          refine rsl (if_neg (eqI_n (rfl) (li_3) (by omega))) ?_
          refine rsl (ltI_q (z := (k4 + 1)) (adI (hk4) (li_1))) ?_
          refine rsr (vC_e (rk_160 (hR.fr FR11))) ?_
          refine RrI (x196_s (by omega) (hR.fr FR11) (u4111) (u4211) (u4311) (u5111) (u5311) (u4811) (u4911) (li_19) (li_0) (by omega)) fun v Ma20 h20 => ?_
          obtain ⟨rv19, em19, rfl, g20, e20_em19, e20_k0, e20_k1, e20_k2, e20_k3, e20_k4, p20_0, p20_1⟩ := h20
          have f20 : Fr W_rp Mr Ma20 := Fr.t FR11 (Fr.m g20 (by decide))
          refine rsr (cI_e rfl) ?_
          exact hgo 0 _ _ (by omega) (Or.inr ⟨(k4 + 1), F11, P11, rfl, by omega, f18, f20, ⟨ti11, sz17, sn17, uc17, e18_k0, e18_k1, e18_k2, e18_k3, e18_sz17, e18_sn17, e18_uc17, by omega⟩, ⟨em19, rn11, ru11, rm11, rt11, e20_k0, e20_k1, e20_em19, e20_k2, e20_k3, e20_k4, (g20.i _ _ (by decide)).trans (u4911), by omega⟩, rfl⟩)
      ·
        refine RlI (lv_1 (by omega) (rfl) (by omega)) fun v Ml21 hl21 => ?_
        obtain ⟨rl21, rfl, rfl, nl21, bl21⟩ := hl21
        refine rsl (cI_e rfl) ?_
        refine rsl (if_neg (eqI_n (rfl) (rfl) (by omega))) ?_
        refine rsl (jv_e) ?_
        refine rsr (gtI_q (w := iI 0) (rk_160 (hR.fr FR4)) (w4_41)) ?_
        refine rsr (if_pos (eqI_p (rfl) (li_0) (by omega))) ?_
        refine rsr (gtI_q (w := iI ((kr (kd i4)))) (rk_160 (hR.fr FR4)) (w4_36)) ?_
        refine rsr (if_neg (krI_n (k := 225) (rfl) (li_426) (hS.ok i4 (by omega) (by omega)) (by unfold KdOK sgk; omega) (by decide +kernel) (by omega) (by omega))) ?_
        refine rsr (jv_e) ?_
        exact Rs.ok (Or.inl ⟨i4, e4, u4, uc4, G4, U4, X4, FL4, FR4, ⟨q4_12, q4_13, q4_10, q4_9, q4_16, q4_19⟩, ⟨w4_36, w4_37, w4_38, w4_41, w4_43, w4_51, w4_53, w4_50, w4_n⟩, ⟨ca4, ra4, lc4, lr4, cu4, ru4⟩, ⟨by omega, by omega, by omega, by omega, by omega, by omega, by omega, by omega, by omega, by omega, by omega, by omega⟩, ⟨by omega, by omega, by omega, by omega, by omega, by omega⟩, ag4, au4, ax4⟩)
    ·
      obtain ⟨k4, F4, P4, hk4, ⟨hka4, hkb4⟩, FL4, FR4, tc4, tr4, hm4⟩ := hq
      obtain ⟨ti4, tz4, tn4, tu4, t134, t104, t114, t124, t94, t164, t194, tb4⟩ := tc4
      obtain ⟨re4, rn4, ru4, rm4, rt4, u414, u424, u434, u514, u534, u484, u494, ub4⟩ := tr4
      unfold c99_61 c210_4
      refine rsl (if_neg (leI_n (li_3000) (hk4) (by omega))) ?_
      refine rsl (gtI_q (w := iI 2) (ck_65 (hC.fr FL4)) (t134)) ?_
      refine rsl (cI_e (y102 (by omega) (rfl))) ?_
      refine rsl (if_neg (eqI_n (rfl) (rfl) (by omega))) ?_
      refine rsl (jv_e) ?_
      refine rsr (gtI_q (w := iI F4) (rk_160 (hR.fr FR4)) (u414)) ?_
      refine rsr (if_neg (eqI_n (rfl) (li_0) (by omega))) ?_
      refine rsr (jv_e) ?_
      exact Rs.ok (Or.inr ⟨F4, P4, FL4, FR4, ⟨ti4, tz4, tn4, tu4, t134, t104, t114, t124, t94, t164, t194, by omega⟩, ⟨re4, rn4, ru4, rm4, rt4, u414, u424, u434, u514, u534, u484, u494, by omega⟩⟩)
  ·
    have FL2 : Fr W_cp Mc Mx2 := Fr.t Fr.r fl2
    have FR2 : Fr W_rp Mr Nx2 := Fr.t (Fr.m Fr.r W_rx_p) fr2
    obtain ⟨ti2, tz2, tn2, tu2, t132, t102, t112, t122, t92, t162, t192, tb2⟩ := tc2
    obtain ⟨re2, rn2, ru2, rm2, rt2, u412, u422, u432, u512, u532, u482, u492, ub2⟩ := tr2
    refine rsl (cV_e rfl) ?_
    refine rsr (cV_e rfl) ?_
    refine rsl (jn_v) ?_
    refine rsl (jn_v) ?_
    refine rsl (lp_e) ?_
    unfold c99_61
    refine rsl (if_neg (leI_n (li_3000) (li_0) (by omega))) ?_
    refine rsl (gtI_q (w := iI 2) (ck_65 (hC.fr FL2)) (t132)) ?_
    refine rsl (cI_e (y102 (by omega) (rfl))) ?_
    refine rsl (if_neg (eqI_n (rfl) (rfl) (by omega))) ?_
    refine rsl (jv_e) ?_
    refine rsr (jn_v) ?_
    refine rsr (lp_e) ?_
    unfold c210_4
    refine rsr (gtI_q (w := iI F2) (rk_160 (hR.fr FR2)) (u412)) ?_
    refine rsr (if_neg (eqI_n (rfl) (li_0) (by omega))) ?_
    refine rsr (jv_e) ?_
    exact Rs.ok (Or.inr ⟨F2, P2, FL2, FR2, ⟨ti2, tz2, tn2, tu2, t132, t102, t112, t122, t92, t162, t192, by omega⟩, ⟨re2, rn2, ru2, rm2, rt2, u412, u422, u432, u512, u532, u482, u492, by omega⟩⟩)
theorem p_0 {D : Nat} {dp : Int} (hD : 20 ≤ D) (hp : Pair D 99 [1] 210 15 dp) : Pair (D + 1) 99 [0] 211 14 dp := by
  intro d d2 hd hd2 T n m kd pl E tx ua ut mu Mc Mr G U Hl X i e s u uc vs hS hx hsc hsr hrw hbd hvs
  subst hvs
  obtain ⟨d, rfl⟩ : ∃ e, d = e + 1 := ⟨d - 1, by omega⟩
  obtain ⟨d2, rfl⟩ : ∃ e, d2 = e + 1 := ⟨d2 - 1, by omega⟩
  show Rs (runX (d + 1) 99 [va_rf (some 65), .int (iI 0), .int (iI dp)] Mc) (runX (d2 + 1) 211 [va_rf (some 160)] Mr) _
  rw [r99]; unfold b99; rw [aR_e, aI_e, aI_e, aZ_e]; unfold c99; rw [r211]; unfold b211; rw [aR_e, aZ_e]; unfold c211
  have hCx := hx
  obtain ⟨hC, hR, hTk, hT, hW, ⟨hu1, hu2, hu3, hu4⟩, h49, h48, ⟨hb1, hb2, hb3, hb4⟩⟩ := hx
  obtain ⟨bb_0, bb_1, bb_2, bb_3, bb_4, bb_5, bb_6, bb_7, bb_8, bb_9, bb_10, bb_11⟩ := hbd
  obtain ⟨qa_12, qa_13, qa_10, qa_9, qa_16, qa_19⟩ := hsc
  obtain ⟨wa_36, wa_37, wa_38, wa_41, wa_43, wa_51, wa_53, wa_50, wa_n⟩ := hsr
  obtain ⟨caa, raa, lca, lra, cua, rua⟩ := hrw
  have hk1 := (hS.ok i (by omega) (by omega)).r
  refine rsl (if_pos (leI_p (rfl) (li_5) (by omega))) ?_
  refine rsl (jn_v) ?_
  refine rsl (if_neg (eqI_n (rfl) (li_2) (by omega))) ?_
  refine rsl (jv_e) ?_
  refine rsl (vC_e (ck_65 hC)) ?_
  refine rsr (vC_e (rk_160 hR)) ?_
  refine Rb_VV (hp _ _ (by omega) (by omega) T n m kd pl E tx ua ut mu _ _ G U Hl X i e s u uc _ hS (hCx.fr Fr.r Fr.r) ⟨qa_12, qa_13, qa_10, qa_9, qa_16, qa_19⟩ ⟨wa_36, wa_37, wa_38, wa_41, wa_43, wa_51, wa_53, wa_50, wa_n⟩ ⟨caa, raa, lca, lra, cua, rua⟩ ⟨by omega, by omega, by omega, by omega, by omega, by omega, by omega, by omega, by omega, by omega, by omega, by omega⟩ (vs2 (adI (rfl) (li_1)) (rfl))) fun v Mx2 w Nx2 hx2 => ?_
  rcases hx2 with ⟨i2, e2, u2, uc2, G2, U2, X2, fl2, fr2, sc2, sr2, rw2, bd2, mv2, ag2, au2, ax2⟩ | ⟨F2, P2, fl2, fr2, tc2, tr2⟩
  ·
    have FL2 : Fr W_cp Mc Mx2 := Fr.t Fr.r fl2
    have FR2 : Fr W_rx Mr Nx2 := Fr.t Fr.r fr2
    obtain ⟨bb2_0, bb2_1, bb2_2, bb2_3, bb2_4, bb2_5, bb2_6, bb2_7, bb2_8, bb2_9, bb2_10, bb2_11⟩ := bd2
    obtain ⟨q2_12, q2_13, q2_10, q2_9, q2_16, q2_19⟩ := sc2
    obtain ⟨w2_36, w2_37, w2_38, w2_41, w2_43, w2_51, w2_53, w2_50, w2_n⟩ := sr2
    obtain ⟨ca2, ra2, lc2, lr2, cu2, ru2⟩ := rw2
    have hk3 := (hS.ok i2 (by omega) (by omega)).r
    refine rsl (cV_e rfl) ?_
    refine rsr (cV_e rfl) ?_
    refine rsl (jn_v) ?_
    refine rsl (jn_v) ?_
    refine rsr (jn_v) ?_
    refine Rb_lp (fun m2 q t => (∃ (k i2 : Int), q.1 = iI k ∧ (0 ≤ k ∧ k ≤ i2) ∧ PK m kd pl E tx Mc Mr G U Hl X i e s u uc dp q.2 t i2 ∧ (m2 : Int) = m - i2 + 1) ∨ ∃ (k F P : Int), q.1 = iI k ∧ (0 ≤ k ∧ k ≤ 1500) ∧ Fr W_cp Mc q.2 ∧ Fr W_rp Mr t ∧ FTc m F P q.2 ∧ FTr (2500 - 30 * dp - 14) F P t ∧ m2 = 0) (fun m2 q t gl gr hq hgo => ?_) (m - i2 + 1).toNat _ _ _ _ (by omega) (by omega) (Or.inl ⟨0, i2, li_0, by omega, ⟨e2, u2, uc2, G2, U2, X2, FL2, FR2, ⟨q2_12, q2_13, q2_10, q2_9, q2_16, q2_19⟩, ⟨w2_36, w2_37, w2_38, w2_41, w2_43, w2_51, w2_53, w2_50, w2_n⟩, ⟨ca2, ra2, lc2, lr2, cu2, ru2⟩, ⟨by omega, by omega, by omega, by omega, by omega, by omega, by omega, by omega, by omega, by omega, by omega, by omega⟩, ⟨by omega, by omega, by omega, by omega, by omega, by omega⟩, (Ag.t Ag.r ag2 (by omega)), (Ag.t Ag.r au2 (by omega)), (AgL.t AgL.r ax2 (by omega))⟩, by omega⟩)
    obtain ⟨qk4, qm4⟩ := q
    dsimp only at hq
    try dsimp only
    rcases hq with hq | hq
    ·
      obtain ⟨k4, i4, hk4, ⟨hka4, hkb4⟩, ⟨e4, u4, uc4, G4, U4, X4, FL4, FR4, sc4, sr4, rw4, bd4, ⟨mv4_0, mv4_1, mv4_2, mv4_3, mv4_4, mv4_5⟩, ag4, au4, ax4⟩, hm4⟩ := hq
      obtain ⟨bb4_0, bb4_1, bb4_2, bb4_3, bb4_4, bb4_5, bb4_6, bb4_7, bb4_8, bb4_9, bb4_10, bb4_11⟩ := bd4
      obtain ⟨q4_12, q4_13, q4_10, q4_9, q4_16, q4_19⟩ := sc4
      obtain ⟨w4_36, w4_37, w4_38, w4_41, w4_43, w4_51, w4_53, w4_50, w4_n⟩ := sr4
      obtain ⟨ca4, ra4, lc4, lr4, cu4, ru4⟩ := rw4
      have hk5 := (hS.ok i4 (by omega) (by omega)).r
      unfold c99_61 c211_4
      refine rsl (if_neg (leI_n (li_3000) (hk4) (by omega))) ?_
      refine rsl (gtI_q (w := iI ((kd i4))) (ck_65 (hC.fr FL4)) (q4_13)) ?_
      by_cases c6 : ((kd i4)) = 226
      ·
        refine rsl (cI_e (lk_226 (by omega) ((rfl).trans (congrArg iI (by omega))))) ?_
        refine rsl (if_pos (eqI_p (rfl) (rfl) (by omega))) ?_
        refine rsl (gtI_q (w := iI ((kd i4))) (ck_65 (hC.fr FL4)) (q4_13)) ?_
        refine rsl (cI_e (ok_226 (by omega) ((rfl).trans (congrArg iI (by omega))))) ?_
        refine rsl (vC_e (ck_65 (hC.fr FL4))) ?_
        have hm7 : i4 + 1 < m := hS.more i4 (by omega) (by omega) (by omega)
        refine rsl (cV_e (a63q (by omega) hS (hC.fr FL4) (hTk.fr (WL := W_cp) FL4 (by decide)) (q4_12) (q4_13) (q4_10) (i2 := (i4 + 1)) (by omega) (by omega))) ?_
        have hk8 := (hS.ok (i4 + 1) (by omega) (by omega)).r
        refine rsl (vC_e (ck_65 (hC.fr FL4).sI.sI)) ?_
        refine rsr (gtI_q (w := iI 0) (rk_160 (hR.fr FR4)) (w4_41)) ?_
        refine rsr (if_pos (eqI_p (rfl) (li_0) (by omega))) ?_
        refine rsr (gtI_q (w := iI ((kr (kd i4)))) (rk_160 (hR.fr FR4)) (w4_36)) ?_
        refine rsr (if_pos (krI_p (k := 226) (rfl) (li_427) (by omega) (by decide +kernel))) ?_
        refine rsr (vC_e (rk_160 (hR.fr FR4))) ?_
        refine RrV (nx_ok (by omega) hS (hR.fr FR4) (hT.fr (W := W_rx) FR4 (by decide) (by decide)) (fun i a b => (Fr.lc (W := W_rx) FR4 _ (by decide) _).trans (hW i a b)) (i := i4) (w4_41) (w4_38) (by omega) (by omega)) fun v Ma10 h10 => ?_
        obtain ⟨g10, e10_k0, e10_k1, e10_k2, p10_0⟩ := h10
        have f10 : Fr W_rx Mr Ma10 := Fr.t FR4 (Fr.m g10 (by decide))
        refine rsr (cV_e rfl) ?_
        refine rsr (vC_e (rk_160 (hR.fr f10))) ?_
        refine Rb_VV (hp _ _ (by omega) (by omega) T n m kd pl E tx ua ut mu _ _ G4 U4 Hl X4 (i4 + 1) e4 s u4 uc4 _ hS (hCx.fr (Fr.sI (by decide) (Fr.sI (by decide) FL4)) f10) ⟨(sI_nej (by decide)).trans (sI_eq), sI_eq, (sI_nej (by decide)).trans ((sI_nej (by decide)).trans (q4_10)), (sI_nej (by decide)).trans ((sI_nej (by decide)).trans (q4_9)), (sI_nej (by decide)).trans ((sI_nej (by decide)).trans (q4_16)), (sI_nej (by decide)).trans ((sI_nej (by decide)).trans (q4_19))⟩ ⟨e10_k0, e10_k1, e10_k2, (g10.i _ _ (by decide)).trans (w4_41), (g10.i _ _ (by decide)).trans (w4_43), (g10.i _ _ (by decide)).trans (w4_51), (g10.i _ _ (by decide)).trans (w4_53), (g10.i _ _ (by decide)).trans (w4_50), p10_0⟩ ⟨(ca4.fr (W := W_c0) (Fr.sI (by decide) (Fr.sI (by decide) Fr.r)) (by decide)), (ra4.fr g10 (by decide)), (lc4.fr (W := W_c0) (Fr.sI (by decide) (Fr.sI (by decide) Fr.r)) (by decide)), (lr4.fr g10 (by decide)), (cu4.fr (W := W_c0) (Fr.sI (by decide) (Fr.sI (by decide) Fr.r)) (by decide)), (ru4.fr g10 (by decide))⟩ ⟨by omega, by omega, by omega, by omega, by omega, by omega, by omega, by omega, by omega, by omega, by omega, by omega⟩ (vs2 (adI (rfl) (li_1)) (rfl))) fun v Mx11 w Nx11 hx11 => ?_
        rcases hx11 with ⟨i11, e11, u11, uc11, G11, U11, X11, fl11, fr11, sc11, sr11, rw11, bd11, mv11, ag11, au11, ax11⟩ | ⟨F11, P11, fl11, fr11, tc11, tr11⟩
        ·
          have FL11 : Fr W_cp Mc Mx11 := Fr.t (Fr.sI (by decide) (Fr.sI (by decide) FL4)) fl11
          have FR11 : Fr W_rx Mr Nx11 := Fr.t f10 fr11
          obtain ⟨bb11_0, bb11_1, bb11_2, bb11_3, bb11_4, bb11_5, bb11_6, bb11_7, bb11_8, bb11_9, bb11_10, bb11_11⟩ := bd11
          obtain ⟨q11_12, q11_13, q11_10, q11_9, q11_16, q11_19⟩ := sc11
          obtain ⟨w11_36, w11_37, w11_38, w11_41, w11_43, w11_51, w11_53, w11_50, w11_n⟩ := sr11
          obtain ⟨ca11, ra11, lc11, lr11, cu11, ru11⟩ := rw11
          have hk12 := (hS.ok i11 (by omega) (by omega)).r
          refine rsl (cV_e rfl) ?_
          refine rsr (cV_e rfl) ?_
          refine rsl (vC_e (ck_65 (hC.fr FL11))) ?_
          refine RlI (a87 (by omega) (hC.fr FL11) (q11_9) (rfl) (li_0) (by omega)) fun v Ma14 h14 => ?_
          obtain ⟨r13, rfl, g14, e14_k0, p14_0, p14_1⟩ := h14
          have f14 : Fr W_cp Mc Ma14 := Fr.t FL11 (Fr.m g14 (by decide))
          refine rsl (cI_e rfl) ?_
          refine rsl (if_neg (eqI_n (rfl) (li_3) (by omega))) ?_
          refine rsl (ltI_q (z := (k4 + 1)) (adI (hk4) (li_1))) ?_
          refine rsr (vC_e (rk_160 (hR.fr FR11))) ?_
          refine RrI (a196 (by omega) (hR.fr FR11) (w11_43) ((FR11.i _ _ (by decide)).trans h49) ((FR11.i _ _ (by decide)).trans h48) (li_20) (li_0) (by omega)) fun v Ma16 h16 => ?_
          obtain ⟨r15, rfl, g16, e16_k0, p16_0, p16_1⟩ := h16
          have f16 : Fr W_rx Mr Ma16 := Fr.t FR11 (Fr.m g16 (by decide))
          refine rsr (cI_e rfl) ?_
          exact hgo (m - i11 + 1).toNat _ _ (by omega) (Or.inl ⟨(k4 + 1), i11, rfl, by omega, ⟨(e11 + 1), u11, uc11, (pu G11 e11 [20, 0, -2, 0, ut, mu, 0]), U11, X11, f14, f16, ⟨(g14.i _ _ (by decide)).trans (q11_12), (g14.i _ _ (by decide)).trans (q11_13), (g14.i _ _ (by decide)).trans (q11_10), e14_k0, (g14.i _ _ (by decide)).trans (q11_16), (g14.i _ _ (by decide)).trans (q11_19)⟩, ⟨(g16.i _ _ (by decide)).trans (w11_36), (g16.i _ _ (by decide)).trans (w11_37), (g16.i _ _ (by decide)).trans (w11_38), (g16.i _ _ (by decide)).trans (w11_41), e16_k0, (g16.i _ _ (by decide)).trans (w11_51), (g16.i _ _ (by decide)).trans (w11_53), (g16.i _ _ (by decide)).trans (w11_50), (w11_n.fr g16 (by decide) (by decide))⟩, ⟨(CA1.em ca11 (by omega) p14_1 rfl), (RA1.em ra11 (by omega) p16_1 rfl), (lc11.fr g14 (by decide)), (lr11.fr g16 (by decide)), (cu11.fr g14 (by decide)), (ru11.fr g16 (by decide))⟩, ⟨by omega, by omega, by omega, by omega, by omega, by omega, by omega, by omega, by omega, by omega, by omega, by omega⟩, ⟨by omega, by omega, by omega, by omega, by omega, by omega⟩, (Ag.pu (Ag.t ag4 ag11 (by omega)) (by omega)), (Ag.t au4 au11 (by omega)), (AgL.t ax4 ax11 (by omega))⟩, by omega⟩)
        ·
          have FL11 : Fr W_cp Mc Mx11 := Fr.t (Fr.sI (by decide) (Fr.sI (by decide) FL4)) fl11
          have FR11 : Fr W_rp Mr Nx11 := Fr.t (Fr.m f10 W_rx_p) fr11
          obtain ⟨ti11, tz11, tn11, tu11, t1311, t1011, t1111, t1211, t911, t1611, t1911, tb11⟩ := tc11
          obtain ⟨re11, rn11, ru11, rm11, rt11, u4111, u4211, u4311, u5111, u5311, u4811, u4911, ub11⟩ := tr11
          refine rsl (cV_e rfl) ?_
          refine rsr (cV_e rfl) ?_
          refine rsl (vC_e (ck_65 (hC.fr FL11))) ?_
          refine RlI (y87 (by omega) (hC.fr FL11) (hTk.fr (WL := W_cp) FL11 (by decide)) (t1211) (t1311) (t1011) (t1111) (t911) (t1611) (t1911) (rfl) (li_0) (by omega)) fun v Ma18 h18 => ?_
          obtain ⟨rv17, sz17, sn17, uc17, rfl, g18, e18_sz17, e18_sn17, e18_uc17, e18_k0, e18_k1, e18_k2, e18_k3, p18_0, p18_1, p18_2, p18_3⟩ := h18
          have f18 : Fr W_cp Mc Ma18 := Fr.t FL11 (Fr.m g18 (by decide))
          refine rsl (cI_e rfl) ?_
          refine rsl (if_neg (eqI_n (rfl) (li_3) (by omega))) ?_
          refine rsl (ltI_q (z := (k4 + 1)) (adI (hk4) (li_1))) ?_
          refine rsr (vC_e (rk_160 (hR.fr FR11))) ?_
          refine RrI (x196_s (by omega) (hR.fr FR11) (u4111) (u4211) (u4311) (u5111) (u5311) (u4811) (u4911) (li_20) (li_0) (by omega)) fun v Ma20 h20 => ?_
          obtain ⟨rv19, em19, rfl, g20, e20_em19, e20_k0, e20_k1, e20_k2, e20_k3, e20_k4, p20_0, p20_1⟩ := h20
          have f20 : Fr W_rp Mr Ma20 := Fr.t FR11 (Fr.m g20 (by decide))
          refine rsr (cI_e rfl) ?_
          exact hgo 0 _ _ (by omega) (Or.inr ⟨(k4 + 1), F11, P11, rfl, by omega, f18, f20, ⟨ti11, sz17, sn17, uc17, e18_k0, e18_k1, e18_k2, e18_k3, e18_sz17, e18_sn17, e18_uc17, by omega⟩, ⟨em19, rn11, ru11, rm11, rt11, e20_k0, e20_k1, e20_em19, e20_k2, e20_k3, e20_k4, (g20.i _ _ (by decide)).trans (u4911), by omega⟩, rfl⟩)
      ·
        refine RlI (lv_0 (by omega) (rfl) (by omega)) fun v Ml21 hl21 => ?_
        obtain ⟨rl21, rfl, rfl, nl21, bl21⟩ := hl21
        refine rsl (cI_e rfl) ?_
        refine rsl (if_neg (eqI_n (rfl) (rfl) (by omega))) ?_
        refine rsl (jv_e) ?_
        refine rsr (gtI_q (w := iI 0) (rk_160 (hR.fr FR4)) (w4_41)) ?_
        refine rsr (if_pos (eqI_p (rfl) (li_0) (by omega))) ?_
        refine rsr (gtI_q (w := iI ((kr (kd i4)))) (rk_160 (hR.fr FR4)) (w4_36)) ?_
        refine rsr (if_neg (krI_n (k := 226) (rfl) (li_427) (hS.ok i4 (by omega) (by omega)) (by unfold KdOK sgk; omega) (by decide +kernel) (by omega) (by omega))) ?_
        refine rsr (jv_e) ?_
        exact Rs.ok (Or.inl ⟨i4, e4, u4, uc4, G4, U4, X4, FL4, FR4, ⟨q4_12, q4_13, q4_10, q4_9, q4_16, q4_19⟩, ⟨w4_36, w4_37, w4_38, w4_41, w4_43, w4_51, w4_53, w4_50, w4_n⟩, ⟨ca4, ra4, lc4, lr4, cu4, ru4⟩, ⟨by omega, by omega, by omega, by omega, by omega, by omega, by omega, by omega, by omega, by omega, by omega, by omega⟩, ⟨by omega, by omega, by omega, by omega, by omega, by omega⟩, ag4, au4, ax4⟩)
    ·
      obtain ⟨k4, F4, P4, hk4, ⟨hka4, hkb4⟩, FL4, FR4, tc4, tr4, hm4⟩ := hq
      obtain ⟨ti4, tz4, tn4, tu4, t134, t104, t114, t124, t94, t164, t194, tb4⟩ := tc4
      obtain ⟨re4, rn4, ru4, rm4, rt4, u414, u424, u434, u514, u534, u484, u494, ub4⟩ := tr4
      unfold c99_61 c211_4
      refine rsl (if_neg (leI_n (li_3000) (hk4) (by omega))) ?_
      refine rsl (gtI_q (w := iI 2) (ck_65 (hC.fr FL4)) (t134)) ?_
      refine rsl (cI_e (y102 (by omega) (rfl))) ?_
      refine rsl (if_neg (eqI_n (rfl) (rfl) (by omega))) ?_
      refine rsl (jv_e) ?_
      refine rsr (gtI_q (w := iI F4) (rk_160 (hR.fr FR4)) (u414)) ?_
      refine rsr (if_neg (eqI_n (rfl) (li_0) (by omega))) ?_
      refine rsr (jv_e) ?_
      exact Rs.ok (Or.inr ⟨F4, P4, FL4, FR4, ⟨ti4, tz4, tn4, tu4, t134, t104, t114, t124, t94, t164, t194, by omega⟩, ⟨re4, rn4, ru4, rm4, rt4, u414, u424, u434, u514, u534, u484, u494, by omega⟩⟩)
  ·
    have FL2 : Fr W_cp Mc Mx2 := Fr.t Fr.r fl2
    have FR2 : Fr W_rp Mr Nx2 := Fr.t (Fr.m Fr.r W_rx_p) fr2
    obtain ⟨ti2, tz2, tn2, tu2, t132, t102, t112, t122, t92, t162, t192, tb2⟩ := tc2
    obtain ⟨re2, rn2, ru2, rm2, rt2, u412, u422, u432, u512, u532, u482, u492, ub2⟩ := tr2
    refine rsl (cV_e rfl) ?_
    refine rsr (cV_e rfl) ?_
    refine rsl (jn_v) ?_
    refine rsl (jn_v) ?_
    refine rsl (lp_e) ?_
    unfold c99_61
    refine rsl (if_neg (leI_n (li_3000) (li_0) (by omega))) ?_
    refine rsl (gtI_q (w := iI 2) (ck_65 (hC.fr FL2)) (t132)) ?_
    refine rsl (cI_e (y102 (by omega) (rfl))) ?_
    refine rsl (if_neg (eqI_n (rfl) (rfl) (by omega))) ?_
    refine rsl (jv_e) ?_
    refine rsr (jn_v) ?_
    refine rsr (lp_e) ?_
    unfold c211_4
    refine rsr (gtI_q (w := iI F2) (rk_160 (hR.fr FR2)) (u412)) ?_
    refine rsr (if_neg (eqI_n (rfl) (li_0) (by omega))) ?_
    refine rsr (jv_e) ?_
    exact Rs.ok (Or.inr ⟨F2, P2, FL2, FR2, ⟨ti2, tz2, tn2, tu2, t132, t102, t112, t122, t92, t162, t192, by omega⟩, ⟨re2, rn2, ru2, rm2, rt2, u412, u422, u432, u512, u532, u482, u492, by omega⟩⟩)
