theorem p_5 {D : Nat} {dp : Int} (hD : 20 ≤ D) (hp : Pair D 99 [6] 206 20 dp) : Pair (D + 1) 99 [5] 207 19 dp := by
  intro d d2 hd hd2 T n m kd pl E tx ua ut mu Mc Mr G U Hl X i e s u uc vs hS hx hsc hsr hrw hbd hvs
  subst hvs
  obtain ⟨d, rfl⟩ : ∃ e, d = e + 1 := ⟨d - 1, by omega⟩
  obtain ⟨d2, rfl⟩ : ∃ e, d2 = e + 1 := ⟨d2 - 1, by omega⟩
  show Rs (runX (d + 1) 99 [va_rf (some 65), .int (iI 5), .int (iI dp)] Mc) (runX (d2 + 1) 207 [va_rf (some 160)] Mr) _
  rw [r99]; unfold b99; rw [aR_e, aI_e, aI_e, aZ_e]; unfold c99; rw [r207]; unfold b207; rw [aR_e, aZ_e]; unfold c207
  have hCx := hx
  obtain ⟨hC, hR, hTk, hT, hW, ⟨hu1, hu2, hu3, hu4⟩, h49, h48, ⟨hb1, hb2, hb3, hb4⟩⟩ := hx
  obtain ⟨bb_0, bb_1, bb_2, bb_3, bb_4, bb_5, bb_6, bb_7, bb_8, bb_9, bb_10, bb_11⟩ := hbd
  obtain ⟨qa_12, qa_13, qa_10, qa_9, qa_16, qa_19⟩ := hsc
  obtain ⟨wa_36, wa_37, wa_38, wa_41, wa_43, wa_51, wa_53, wa_50, wa_n⟩ := hsr
  obtain ⟨caa, raa, lca, lra, cua, rua⟩ := hrw
  have hk1 := (hS.ok i (by omega) (by omega)).r
  refine rsl (if_pos (leI_p (rfl) (li_5) (by omega))) ?_
  refine rsl (jn_v) ?_
  refine rsl (if_neg (eqI_n (rfl) (li_2) (by omega))) ?_
  refine rsl (jv_e) ?_
  refine rsl (vC_e (ck_65 hC)) ?_
  refine rsr (vC_e (rk_160 hR)) ?_
  refine Rb_VV (hp _ _ (by omega) (by omega) T n m kd pl E tx ua ut mu _ _ G U Hl X i e s u uc _ hS (hCx.fr Fr.r Fr.r) ⟨qa_12, qa_13, qa_10, qa_9, qa_16, qa_19⟩ ⟨wa_36, wa_37, wa_38, wa_41, wa_43, wa_51, wa_53, wa_50, wa_n⟩ ⟨caa, raa, lca, lra, cua, rua⟩ ⟨by omega, by omega, by omega, by omega, by omega, by omega, by omega, by omega, by omega, by omega, by omega, by omega⟩ (vs2 (adI (rfl) (li_1)) (rfl))) fun v Mx2 w Nx2 hx2 => ?_
  rcases hx2 with ⟨i2, e2, u2, uc2, G2, U2, X2, fl2, fr2, sc2, sr2, rw2, bd2, mv2, ag2, au2, ax2⟩ | ⟨F2, P2, fl2, fr2, tc2, tr2⟩
  ·
    have FL2 : Fr W_cp Mc Mx2 := Fr.t Fr.r fl2
    have FR2 : Fr W_rx Mr Nx2 := Fr.t Fr.r fr2
    obtain ⟨bb2_0, bb2_1, bb2_2, bb2_3, bb2_4, bb2_5, bb2_6, bb2_7, bb2_8, bb2_9, bb2_10, bb2_11⟩ := bd2
    obtain ⟨q2_12, q2_13, q2_10, q2_9, q2_16, q2_19⟩ := sc2
    obtain ⟨w2_36, w2_37, w2_38, w2_41, w2_43, w2_51, w2_53, w2_50, w2_n⟩ := sr2
    obtain ⟨ca2, ra2, lc2, lr2, cu2, ru2⟩ := rw2
    have hk3 := (hS.ok i2 (by omega) (by omega)).r
    refine rsl (cV_e rfl) ?_
    refine rsr (cV_e rfl) ?_
    refine rsl (jn_v) ?_
    refine rsl (jn_v) ?_
    refine rsr (jn_v) ?_
    refine Rb_lp (fun m2 q t => (∃ (k i2 : Int), q.1 = iI k ∧ (0 ≤ k ∧ k ≤ i2) ∧ PK m kd pl E tx Mc Mr G U Hl X i e s u uc dp q.2 t i2 ∧ (m2 : Int) = m - i2 + 1) ∨ ∃ (k F P : Int), q.1 = iI k ∧ (0 ≤ k ∧ k ≤ 1500) ∧ Fr W_cp Mc q.2 ∧ Fr W_rp Mr t ∧ FTc m F P q.2 ∧ FTr (2000 - 30 * dp - 19) F P t ∧ m2 = 0) (fun m2 q t gl gr hq hgo => ?_) (m - i2 + 1).toNat _ _ _ _ (by omega) (by omega) (Or.inl ⟨0, i2, li_0, by omega, ⟨e2, u2, uc2, G2, U2, X2, FL2, FR2, ⟨q2_12, q2_13, q2_10, q2_9, q2_16, q2_19⟩, ⟨w2_36, w2_37, w2_38, w2_41, w2_43, w2_51, w2_53, w2_50, w2_n⟩, ⟨ca2, ra2, lc2, lr2, cu2, ru2⟩, ⟨by omega, by omega, by omega, by omega, by omega, by omega, by omega, by omega, by omega, by omega, by omega, by omega⟩, ⟨by omega, by omega, by omega, by omega, by omega, by omega⟩, (Ag.t Ag.r ag2 (by omega)), (Ag.t Ag.r au2 (by omega)), (AgL.t AgL.r ax2 (by omega))⟩, by omega⟩)
    obtain ⟨qk4, qm4⟩ := q
    dsimp only at hq
    try dsimp only
    rcases hq with hq | hq
    ·
      obtain ⟨k4, i4, hk4, ⟨hka4, hkb4⟩, ⟨e4, u4, uc4, G4, U4, X4, FL4, FR4, sc4, sr4, rw4, bd4, ⟨mv4_0, mv4_1, mv4_2, mv4_3, mv4_4, mv4_5⟩, ag4, au4, ax4⟩, hm4⟩ := hq
      obtain ⟨bb4_0, bb4_1, bb4_2, bb4_3, bb4_4, bb4_5, bb4_6, bb4_7, bb4_8, bb4_9, bb4_10, bb4_11⟩ := bd4
      obtain ⟨q4_12, q4_13, q4_10, q4_9, q4_16, q4_19⟩ := sc4
      obtain ⟨w4_36, w4_37, w4_38, w4_41, w4_43, w4_51, w4_53, w4_50, w4_n⟩ := sr4
      obtain ⟨ca4, ra4, lc4, lr4, cu4, ru4⟩ := rw4
      have hk5 := (hS.ok i4 (by omega) (by omega)).r
      unfold c99_61 c207_4
      refine rsl (if_neg (leI_n (li_3000) (hk4) (by omega))) ?_
      refine rsl (gtI_q (w := iI ((kd i4))) (ck_65 (hC.fr FL4)) (q4_13)) ?_
      by_cases c6 : ((kd i4)) = 37
      ·
        refine rsl (cI_e (lk_37 (by omega) ((rfl).trans (congrArg iI (by omega))))) ?_
        refine rsl (if_pos (eqI_p (rfl) (rfl) (by omega))) ?_
        refine rsl (gtI_q (w := iI ((kd i4))) (ck_65 (hC.fr FL4)) (q4_13)) ?_
        refine rsl (cI_e (ok_37 (by omega) ((rfl).trans (congrArg iI (by omega))))) ?_
        refine rsl (vC_e (ck_65 (hC.fr FL4))) ?_
        have hm7 : i4 + 1 < m := hS.more i4 (by omega) (by omega) (by omega)
        refine rsl (cV_e (a63 (by omega) hS (hC.fr FL4) (hTk.fr (WL := W_cp) FL4 (by decide)) (q4_12) (q4_13) (q4_10) (by omega))) ?_
        have hk8 := (hS.ok (i4 + 1) (by omega) (by omega)).r
        refine rsl (vC_e (ck_65 (hC.fr FL4).sI.sI)) ?_
        refine rsr (gtI_q (w := iI 0) (rk_160 (hR.fr FR4)) (w4_41)) ?_
        refine rsr (if_pos (eqI_p (rfl) (li_0) (by omega))) ?_
        refine rsr (gtI_q (w := iI ((kr (kd i4)))) (rk_160 (hR.fr FR4)) (w4_36)) ?_
        refine rsr (jn_v) ?_
        refine rsr (if_neg (krI_n (k := 42) (rfl) (li_42) (hS.ok i4 (by omega) (by omega)) (by unfold KdOK sgk; omega) (by decide +kernel) (by omega) (by omega))) ?_
        refine rsr (gtI_q (w := iI ((kr (kd i4)))) (rk_160 (hR.fr FR4)) (w4_36)) ?_
        refine rsr (if_neg (krI_n (k := 47) (rfl) (li_47) (hS.ok i4 (by omega) (by omega)) (by unfold KdOK sgk; omega) (by decide +kernel) (by omega) (by omega))) ?_
        refine rsr (gtI_q (w := iI ((kr (kd i4)))) (rk_160 (hR.fr FR4)) (w4_36)) ?_
        refine rsr (if_pos (krI_p (k := 37) (rfl) (li_37) (by omega) (by decide +kernel))) ?_
        refine rsr (jv_e) ?_
        refine rsr (gtI_q (w := iI ((kr (kd i4)))) (rk_160 (hR.fr FR4)) (w4_36)) ?_
        refine rsr (jn_v) ?_
        refine rsr (if_neg (krI_n (k := 42) (rfl) (li_42) (hS.ok i4 (by omega) (by omega)) (by unfold KdOK sgk; omega) (by decide +kernel) (by omega) (by omega))) ?_
        refine rsr (gtI_q (w := iI ((kr (kd i4)))) (rk_160 (hR.fr FR4)) (w4_36)) ?_
        refine rsr (if_neg (krI_n (k := 47) (rfl) (li_47) (hS.ok i4 (by omega) (by omega)) (by unfold KdOK sgk; omega) (by decide +kernel) (by omega) (by omega))) ?_
        refine rsr (jv_e) ?_
        refine rsr (vC_e (rk_160 (hR.fr FR4))) ?_
        refine RrV (nx_ok (by omega) hS (hR.fr FR4) (hT.fr FR4 (by decide) (by decide)) (fun i a b => ((Fr.lc FR4 _ (by decide) _)).trans (hW i a b)) (i := i4) (w4_41) (w4_38) (by omega) (by omega)) fun v Ma10 h10 => ?_
        obtain ⟨g10, e10_k0, e10_k1, e10_k2, p10_0⟩ := h10
        have f10 : Fr W_rx Mr Ma10 := Fr.t FR4 (Fr.m g10 (by decide))
        refine rsr (cV_e rfl) ?_
        refine rsr (vC_e (rk_160 (hR.fr f10))) ?_
        refine Rb_VV (hp _ _ (by omega) (by omega) T n m kd pl E tx ua ut mu _ _ G4 U4 Hl X4 (i4 + 1) e4 s u4 uc4 _ hS (hCx.fr (Fr.sI (by decide) (Fr.sI (by decide) FL4)) f10) ⟨(sI_nej (by decide)).trans (sI_eq), sI_eq, (sI_nej (by decide)).trans ((sI_nej (by decide)).trans (q4_10)), (sI_nej (by decide)).trans ((sI_nej (by decide)).trans (q4_9)), (sI_nej (by decide)).trans ((sI_nej (by decide)).trans (q4_16)), (sI_nej (by decide)).trans ((sI_nej (by decide)).trans (q4_19))⟩ ⟨e10_k0, e10_k1, e10_k2, (g10.i _ _ (by decide)).trans (w4_41), (g10.i _ _ (by decide)).trans (w4_43), (g10.i _ _ (by decide)).trans (w4_51), (g10.i _ _ (by decide)).trans (w4_53), (g10.i _ _ (by decide)).trans (w4_50), p10_0⟩ ⟨(ca4.fr (W := W_c0) (Fr.sI (by decide) (Fr.sI (by decide) Fr.r)) (by decide)), (ra4.fr g10 (by decide)), (lc4.fr (W := W_c0) (Fr.sI (by decide) (Fr.sI (by decide) Fr.r)) (by decide)), (lr4.fr g10 (by decide)), (cu4.fr (W := W_c0) (Fr.sI (by decide) (Fr.sI (by decide) Fr.r)) (by decide)), (ru4.fr g10 (by decide))⟩ ⟨by omega, by omega, by omega, by omega, by omega, by omega, by omega, by omega, by omega, by omega, by omega, by omega⟩ (vs2 (adI (rfl) (li_1)) (rfl))) fun v Mx11 w Nx11 hx11 => ?_
        rcases hx11 with ⟨i11, e11, u11, uc11, G11, U11, X11, fl11, fr11, sc11, sr11, rw11, bd11, mv11, ag11, au11, ax11⟩ | ⟨F11, P11, fl11, fr11, tc11, tr11⟩
        ·
          have FL11 : Fr W_cp Mc Mx11 := Fr.t (Fr.sI (by decide) (Fr.sI (by decide) FL4)) fl11
          have FR11 : Fr W_rx Mr Nx11 := Fr.t f10 fr11
          obtain ⟨bb11_0, bb11_1, bb11_2, bb11_3, bb11_4, bb11_5, bb11_6, bb11_7, bb11_8, bb11_9, bb11_10, bb11_11⟩ := bd11
          obtain ⟨q11_12, q11_13, q11_10, q11_9, q11_16, q11_19⟩ := sc11
          obtain ⟨w11_36, w11_37, w11_38, w11_41, w11_43, w11_51, w11_53, w11_50, w11_n⟩ := sr11
          obtain ⟨ca11, ra11, lc11, lr11, cu11, ru11⟩ := rw11
          have hk12 := (hS.ok i11 (by omega) (by omega)).r
          refine rsl (cV_e rfl) ?_
          refine rsr (cV_e rfl) ?_
          refine rsl (vC_e (ck_65 (hC.fr FL11))) ?_
          refine RlI (a87 (by omega) (hC.fr FL11) (q11_9) (rfl) (li_0) (by omega)) fun v Ma14 h14 => ?_
          obtain ⟨r13, rfl, g14, e14_k0, p14_0, p14_1⟩ := h14
          have f14 : Fr W_cp Mc Ma14 := Fr.t FL11 (Fr.m g14 (by decide))
          refine rsl (cI_e rfl) ?_
          refine rsl (if_neg (eqI_n (rfl) (li_3) (by omega))) ?_
          refine rsl (ltI_q (z := (k4 + 1)) (adI (hk4) (li_1))) ?_
          refine rsr (vC_e (rk_160 (hR.fr FR11))) ?_
          refine RrI (a196 (by omega) (hR.fr FR11) (w11_43) ((FR11.i _ _ (by decide)).trans h49) ((FR11.i _ _ (by decide)).trans h48) (li_14) (li_0) (by omega)) fun v Ma16 h16 => ?_
          obtain ⟨r15, rfl, g16, e16_k0, p16_0, p16_1⟩ := h16
          have f16 : Fr W_rx Mr Ma16 := Fr.t FR11 (Fr.m g16 (by decide))
          refine rsr (cI_e rfl) ?_
          exact hgo (m - i11 + 1).toNat _ _ (by omega) (Or.inl ⟨(k4 + 1), i11, rfl, by omega, ⟨(e11 + 1), u11, uc11, (pu G11 e11 [14, 0, -2, 0, ut, mu, 0]), U11, X11, f14, f16, ⟨(g14.i _ _ (by decide)).trans (q11_12), (g14.i _ _ (by decide)).trans (q11_13), (g14.i _ _ (by decide)).trans (q11_10), e14_k0, (g14.i _ _ (by decide)).trans (q11_16), (g14.i _ _ (by decide)).trans (q11_19)⟩, ⟨(g16.i _ _ (by decide)).trans (w11_36), (g16.i _ _ (by decide)).trans (w11_37), (g16.i _ _ (by decide)).trans (w11_38), (g16.i _ _ (by decide)).trans (w11_41), e16_k0, (g16.i _ _ (by decide)).trans (w11_51), (g16.i _ _ (by decide)).trans (w11_53), (g16.i _ _ (by decide)).trans (w11_50), (w11_n.fr g16 (by decide) (by decide))⟩, ⟨(CA1.em ca11 (by omega) p14_1 rfl), (RA1.em ra11 (by omega) p16_1 rfl), (lc11.fr g14 (by decide)), (lr11.fr g16 (by decide)), (cu11.fr g14 (by decide)), (ru11.fr g16 (by decide))⟩, ⟨by omega, by omega, by omega, by omega, by omega, by omega, by omega, by omega, by omega, by omega, by omega, by omega⟩, ⟨by omega, by omega, by omega, by omega, by omega, by omega⟩, (Ag.pu (Ag.t ag4 ag11 (by omega)) (by omega)), (Ag.t au4 au11 (by omega)), (AgL.t ax4 ax11 (by omega))⟩, by omega⟩)
        ·
          have FL11 : Fr W_cp Mc Mx11 := Fr.t (Fr.sI (by decide) (Fr.sI (by decide) FL4)) fl11
          have FR11 : Fr W_rp Mr Nx11 := Fr.t (Fr.m f10 W_rx_p) fr11
          obtain ⟨ti11, tz11, tn11, tu11, t1311, t1011, t1111, t1211, t911, t1611, t1911, tb11⟩ := tc11
          obtain ⟨re11, rn11, ru11, rm11, rt11, u4111, u4211, u4311, u5111, u5311, u4811, u4911, ub11⟩ := tr11
          refine rsl (cV_e rfl) ?_
          refine rsr (cV_e rfl) ?_
          refine rsl (vC_e (ck_65 (hC.fr FL11))) ?_
          refine RlI (y87 (by omega) (hC.fr FL11) (hTk.fr (WL := W_cp) FL11 (by decide)) (t1211) (t1311) (t1011) (t1111) (t911) (t1611) (t1911) (rfl) (li_0) (by omega)) fun v Ma18 h18 => ?_
          obtain ⟨rv17, sz17, sn17, uc17, rfl, g18, e18_sz17, e18_sn17, e18_uc17, e18_k0, e18_k1, e18_k2, e18_k3, p18_0, p18_1, p18_2, p18_3⟩ := h18
          have f18 : Fr W_cp Mc Ma18 := Fr.t FL11 (Fr.m g18 (by decide))
          refine rsl (cI_e rfl) ?_
          refine rsl (if_neg (eqI_n (rfl) (li_3) (by omega))) ?_
          refine rsl (ltI_q (z := (k4 + 1)) (adI (hk4) (li_1))) ?_
          refine rsr (vC_e (rk_160 (hR.fr FR11))) ?_
          refine RrI (x196_s (by omega) (hR.fr FR11) (u4111) (u4211) (u4311) (u5111) (u5311) (u4811) (u4911) (li_14) (li_0) (by omega)) fun v Ma20 h20 => ?_
          obtain ⟨rv19, em19, rfl, g20, e20_em19, e20_k0, e20_k1, e20_k2, e20_k3, e20_k4, p20_0, p20_1⟩ := h20
          have f20 : Fr W_rp Mr Ma20 := Fr.t FR11 (Fr.m g20 (by decide))
          refine rsr (cI_e rfl) ?_
          exact hgo 0 _ _ (by omega) (Or.inr ⟨(k4 + 1), F11, P11, rfl, by omega, f18, f20, ⟨ti11, sz17, sn17, uc17, e18_k0, e18_k1, e18_k2, e18_k3, e18_sz17, e18_sn17, e18_uc17, by omega⟩, ⟨em19, rn11, ru11, rm11, rt11, e20_k0, e20_k1, e20_em19, e20_k2, e20_k3, e20_k4, (g20.i _ _ (by decide)).trans (u4911), by omega⟩, rfl⟩)
      ·
        by_cases c21 : ((kd i4)) = 42
        ·
          refine rsl (cI_e (lk_42 (by omega) ((rfl).trans (congrArg iI (by omega))))) ?_
          refine rsl (if_pos (eqI_p (rfl) (rfl) (by omega))) ?_
          refine rsl (gtI_q (w := iI ((kd i4))) (ck_65 (hC.fr FL4)) (q4_13)) ?_
          refine rsl (cI_e (ok_42 (by omega) ((rfl).trans (congrArg iI (by omega))))) ?_
          refine rsl (vC_e (ck_65 (hC.fr FL4))) ?_
          have hm22 : i4 + 1 < m := hS.more i4 (by omega) (by omega) (by omega)
          refine rsl (cV_e (a63 (by omega) hS (hC.fr FL4) (hTk.fr (WL := W_cp) FL4 (by decide)) (q4_12) (q4_13) (q4_10) (by omega))) ?_
          have hk23 := (hS.ok (i4 + 1) (by omega) (by omega)).r
          refine rsl (vC_e (ck_65 (hC.fr FL4).sI.sI)) ?_
          refine rsr (gtI_q (w := iI 0) (rk_160 (hR.fr FR4)) (w4_41)) ?_
          refine rsr (if_pos (eqI_p (rfl) (li_0) (by omega))) ?_
          refine rsr (gtI_q (w := iI ((kr (kd i4)))) (rk_160 (hR.fr FR4)) (w4_36)) ?_
          refine rsr (jn_v) ?_
          refine rsr (if_pos (krI_p (k := 42) (rfl) (li_42) (by omega) (by decide +kernel))) ?_
          refine rsr (jv_e) ?_
          refine rsr (gtI_q (w := iI ((kr (kd i4)))) (rk_160 (hR.fr FR4)) (w4_36)) ?_
          refine rsr (jn_v) ?_
          refine rsr (if_pos (krI_p (k := 42) (rfl) (li_42) (by omega) (by decide +kernel))) ?_
          refine rsr (jv_e) ?_
          refine rsr (vC_e (rk_160 (hR.fr FR4))) ?_
          refine RrV (nx_ok (by omega) hS (hR.fr FR4) (hT.fr FR4 (by decide) (by decide)) (fun i a b => ((Fr.lc FR4 _ (by decide) _)).trans (hW i a b)) (i := i4) (w4_41) (w4_38) (by omega) (by omega)) fun v Ma25 h25 => ?_
          obtain ⟨g25, e25_k0, e25_k1, e25_k2, p25_0⟩ := h25
          have f25 : Fr W_rx Mr Ma25 := Fr.t FR4 (Fr.m g25 (by decide))
          refine rsr (cV_e rfl) ?_
          refine rsr (vC_e (rk_160 (hR.fr f25))) ?_
          refine Rb_VV (hp _ _ (by omega) (by omega) T n m kd pl E tx ua ut mu _ _ G4 U4 Hl X4 (i4 + 1) e4 s u4 uc4 _ hS (hCx.fr (Fr.sI (by decide) (Fr.sI (by decide) FL4)) f25) ⟨(sI_nej (by decide)).trans (sI_eq), sI_eq, (sI_nej (by decide)).trans ((sI_nej (by decide)).trans (q4_10)), (sI_nej (by decide)).trans ((sI_nej (by decide)).trans (q4_9)), (sI_nej (by decide)).trans ((sI_nej (by decide)).trans (q4_16)), (sI_nej (by decide)).trans ((sI_nej (by decide)).trans (q4_19))⟩ ⟨e25_k0, e25_k1, e25_k2, (g25.i _ _ (by decide)).trans (w4_41), (g25.i _ _ (by decide)).trans (w4_43), (g25.i _ _ (by decide)).trans (w4_51), (g25.i _ _ (by decide)).trans (w4_53), (g25.i _ _ (by decide)).trans (w4_50), p25_0⟩ ⟨(ca4.fr (W := W_c0) (Fr.sI (by decide) (Fr.sI (by decide) Fr.r)) (by decide)), (ra4.fr g25 (by decide)), (lc4.fr (W := W_c0) (Fr.sI (by decide) (Fr.sI (by decide) Fr.r)) (by decide)), (lr4.fr g25 (by decide)), (cu4.fr (W := W_c0) (Fr.sI (by decide) (Fr.sI (by decide) Fr.r)) (by decide)), (ru4.fr g25 (by decide))⟩ ⟨by omega, by omega, by omega, by omega, by omega, by omega, by omega, by omega, by omega, by omega, by omega, by omega⟩ (vs2 (adI (rfl) (li_1)) (rfl))) fun v Mx26 w Nx26 hx26 => ?_
          rcases hx26 with ⟨i26, e26, u26, uc26, G26, U26, X26, fl26, fr26, sc26, sr26, rw26, bd26, mv26, ag26, au26, ax26⟩ | ⟨F26, P26, fl26, fr26, tc26, tr26⟩
          ·
            have FL26 : Fr W_cp Mc Mx26 := Fr.t (Fr.sI (by decide) (Fr.sI (by decide) FL4)) fl26
            have FR26 : Fr W_rx Mr Nx26 := Fr.t f25 fr26
            obtain ⟨bb26_0, bb26_1, bb26_2, bb26_3, bb26_4, bb26_5, bb26_6, bb26_7, bb26_8, bb26_9, bb26_10, bb26_11⟩ := bd26
            obtain ⟨q26_12, q26_13, q26_10, q26_9, q26_16, q26_19⟩ := sc26
            obtain ⟨w26_36, w26_37, w26_38, w26_41, w26_43, w26_51, w26_53, w26_50, w26_n⟩ := sr26
            obtain ⟨ca26, ra26, lc26, lr26, cu26, ru26⟩ := rw26
            have hk27 := (hS.ok i26 (by omega) (by omega)).r
            refine rsl (cV_e rfl) ?_
            refine rsr (cV_e rfl) ?_
            refine rsl (vC_e (ck_65 (hC.fr FL26))) ?_
            refine RlI (a87 (by omega) (hC.fr FL26) (q26_9) (rfl) (li_0) (by omega)) fun v Ma29 h29 => ?_
            obtain ⟨r28, rfl, g29, e29_k0, p29_0, p29_1⟩ := h29
            have f29 : Fr W_cp Mc Ma29 := Fr.t FL26 (Fr.m g29 (by decide))
            refine rsl (cI_e rfl) ?_
            refine rsl (if_neg (eqI_n (rfl) (li_3) (by omega))) ?_
            refine rsl (ltI_q (z := (k4 + 1)) (adI (hk4) (li_1))) ?_
            refine rsr (vC_e (rk_160 (hR.fr FR26))) ?_
            refine RrI (a196 (by omega) (hR.fr FR26) (w26_43) ((FR26.i _ _ (by decide)).trans h49) ((FR26.i _ _ (by decide)).trans h48) (li_12) (li_0) (by omega)) fun v Ma31 h31 => ?_
            obtain ⟨r30, rfl, g31, e31_k0, p31_0, p31_1⟩ := h31
            have f31 : Fr W_rx Mr Ma31 := Fr.t FR26 (Fr.m g31 (by decide))
            refine rsr (cI_e rfl) ?_
            exact hgo (m - i26 + 1).toNat _ _ (by omega) (Or.inl ⟨(k4 + 1), i26, rfl, by omega, ⟨(e26 + 1), u26, uc26, (pu G26 e26 [12, 0, -2, 0, ut, mu, 0]), U26, X26, f29, f31, ⟨(g29.i _ _ (by decide)).trans (q26_12), (g29.i _ _ (by decide)).trans (q26_13), (g29.i _ _ (by decide)).trans (q26_10), e29_k0, (g29.i _ _ (by decide)).trans (q26_16), (g29.i _ _ (by decide)).trans (q26_19)⟩, ⟨(g31.i _ _ (by decide)).trans (w26_36), (g31.i _ _ (by decide)).trans (w26_37), (g31.i _ _ (by decide)).trans (w26_38), (g31.i _ _ (by decide)).trans (w26_41), e31_k0, (g31.i _ _ (by decide)).trans (w26_51), (g31.i _ _ (by decide)).trans (w26_53), (g31.i _ _ (by decide)).trans (w26_50), (w26_n.fr g31 (by decide) (by decide))⟩, ⟨(CA1.em ca26 (by omega) p29_1 rfl), (RA1.em ra26 (by omega) p31_1 rfl), (lc26.fr g29 (by decide)), (lr26.fr g31 (by decide)), (cu26.fr g29 (by decide)), (ru26.fr g31 (by decide))⟩, ⟨by omega, by omega, by omega, by omega, by omega, by omega, by omega, by omega, by omega, by omega, by omega, by omega⟩, ⟨by omega, by omega, by omega, by omega, by omega, by omega⟩, (Ag.pu (Ag.t ag4 ag26 (by omega)) (by omega)), (Ag.t au4 au26 (by omega)), (AgL.t ax4 ax26 (by omega))⟩, by omega⟩)
          ·
            have FL26 : Fr W_cp Mc Mx26 := Fr.t (Fr.sI (by decide) (Fr.sI (by decide) FL4)) fl26
            have FR26 : Fr W_rp Mr Nx26 := Fr.t (Fr.m f25 W_rx_p) fr26
            obtain ⟨ti26, tz26, tn26, tu26, t1326, t1026, t1126, t1226, t926, t1626, t1926, tb26⟩ := tc26
            obtain ⟨re26, rn26, ru26, rm26, rt26, u4126, u4226, u4326, u5126, u5326, u4826, u4926, ub26⟩ := tr26
            refine rsl (cV_e rfl) ?_
            refine rsr (cV_e rfl) ?_
            refine rsl (vC_e (ck_65 (hC.fr FL26))) ?_
            refine RlI (y87 (by omega) (hC.fr FL26) (hTk.fr (WL := W_cp) FL26 (by decide)) (t1226) (t1326) (t1026) (t1126) (t926) (t1626) (t1926) (rfl) (li_0) (by omega)) fun v Ma33 h33 => ?_
            obtain ⟨rv32, sz32, sn32, uc32, rfl, g33, e33_sz32, e33_sn32, e33_uc32, e33_k0, e33_k1, e33_k2, e33_k3, p33_0, p33_1, p33_2, p33_3⟩ := h33
            have f33 : Fr W_cp Mc Ma33 := Fr.t FL26 (Fr.m g33 (by decide))
            refine rsl (cI_e rfl) ?_
            refine rsl (if_neg (eqI_n (rfl) (li_3) (by omega))) ?_
            refine rsl (ltI_q (z := (k4 + 1)) (adI (hk4) (li_1))) ?_
            refine rsr (vC_e (rk_160 (hR.fr FR26))) ?_
            refine RrI (x196_s (by omega) (hR.fr FR26) (u4126) (u4226) (u4326) (u5126) (u5326) (u4826) (u4926) (li_12) (li_0) (by omega)) fun v Ma35 h35 => ?_
            obtain ⟨rv34, em34, rfl, g35, e35_em34, e35_k0, e35_k1, e35_k2, e35_k3, e35_k4, p35_0, p35_1⟩ := h35
            have f35 : Fr W_rp Mr Ma35 := Fr.t FR26 (Fr.m g35 (by decide))
            refine rsr (cI_e rfl) ?_
            exact hgo 0 _ _ (by omega) (Or.inr ⟨(k4 + 1), F26, P26, rfl, by omega, f33, f35, ⟨ti26, sz32, sn32, uc32, e33_k0, e33_k1, e33_k2, e33_k3, e33_sz32, e33_sn32, e33_uc32, by omega⟩, ⟨em34, rn26, ru26, rm26, rt26, e35_k0, e35_k1, e35_em34, e35_k2, e35_k3, e35_k4, (g35.i _ _ (by decide)).trans (u4926), by omega⟩, rfl⟩)
        ·
          by_cases c36 : ((kd i4)) = 47
          ·
            refine rsl (cI_e (lk_47 (by omega) ((rfl).trans (congrArg iI (by omega))))) ?_
            refine rsl (if_pos (eqI_p (rfl) (rfl) (by omega))) ?_
            refine rsl (gtI_q (w := iI ((kd i4))) (ck_65 (hC.fr FL4)) (q4_13)) ?_
            refine rsl (cI_e (ok_47 (by omega) ((rfl).trans (congrArg iI (by omega))))) ?_
            refine rsl (vC_e (ck_65 (hC.fr FL4))) ?_
            have hm37 : i4 + 1 < m := hS.more i4 (by omega) (by omega) (by omega)
            refine rsl (cV_e (a63 (by omega) hS (hC.fr FL4) (hTk.fr (WL := W_cp) FL4 (by decide)) (q4_12) (q4_13) (q4_10) (by omega))) ?_
            have hk38 := (hS.ok (i4 + 1) (by omega) (by omega)).r
            refine rsl (vC_e (ck_65 (hC.fr FL4).sI.sI)) ?_
            refine rsr (gtI_q (w := iI 0) (rk_160 (hR.fr FR4)) (w4_41)) ?_
            refine rsr (if_pos (eqI_p (rfl) (li_0) (by omega))) ?_
            refine rsr (gtI_q (w := iI ((kr (kd i4)))) (rk_160 (hR.fr FR4)) (w4_36)) ?_
            refine rsr (jn_v) ?_
            refine rsr (if_neg (krI_n (k := 42) (rfl) (li_42) (hS.ok i4 (by omega) (by omega)) (by unfold KdOK sgk; omega) (by decide +kernel) (by omega) (by omega))) ?_
            refine rsr (gtI_q (w := iI ((kr (kd i4)))) (rk_160 (hR.fr FR4)) (w4_36)) ?_
            refine rsr (if_pos (krI_p (k := 47) (rfl) (li_47) (by omega) (by decide +kernel))) ?_
            refine rsr (jv_e) ?_
            refine rsr (gtI_q (w := iI ((kr (kd i4)))) (rk_160 (hR.fr FR4)) (w4_36)) ?_
            refine rsr (jn_v) ?_
            refine rsr (if_neg (krI_n (k := 42) (rfl) (li_42) (hS.ok i4 (by omega) (by omega)) (by unfold KdOK sgk; omega) (by decide +kernel) (by omega) (by omega))) ?_
            refine rsr (gtI_q (w := iI ((kr (kd i4)))) (rk_160 (hR.fr FR4)) (w4_36)) ?_
            refine rsr (if_pos (krI_p (k := 47) (rfl) (li_47) (by omega) (by decide +kernel))) ?_
            refine rsr (jv_e) ?_
            refine rsr (vC_e (rk_160 (hR.fr FR4))) ?_
            refine RrV (nx_ok (by omega) hS (hR.fr FR4) (hT.fr FR4 (by decide) (by decide)) (fun i a b => ((Fr.lc FR4 _ (by decide) _)).trans (hW i a b)) (i := i4) (w4_41) (w4_38) (by omega) (by omega)) fun v Ma40 h40 => ?_
            obtain ⟨g40, e40_k0, e40_k1, e40_k2, p40_0⟩ := h40
            have f40 : Fr W_rx Mr Ma40 := Fr.t FR4 (Fr.m g40 (by decide))
            refine rsr (cV_e rfl) ?_
            refine rsr (vC_e (rk_160 (hR.fr f40))) ?_
            refine Rb_VV (hp _ _ (by omega) (by omega) T n m kd pl E tx ua ut mu _ _ G4 U4 Hl X4 (i4 + 1) e4 s u4 uc4 _ hS (hCx.fr (Fr.sI (by decide) (Fr.sI (by decide) FL4)) f40) ⟨(sI_nej (by decide)).trans (sI_eq), sI_eq, (sI_nej (by decide)).trans ((sI_nej (by decide)).trans (q4_10)), (sI_nej (by decide)).trans ((sI_nej (by decide)).trans (q4_9)), (sI_nej (by decide)).trans ((sI_nej (by decide)).trans (q4_16)), (sI_nej (by decide)).trans ((sI_nej (by decide)).trans (q4_19))⟩ ⟨e40_k0, e40_k1, e40_k2, (g40.i _ _ (by decide)).trans (w4_41), (g40.i _ _ (by decide)).trans (w4_43), (g40.i _ _ (by decide)).trans (w4_51), (g40.i _ _ (by decide)).trans (w4_53), (g40.i _ _ (by decide)).trans (w4_50), p40_0⟩ ⟨(ca4.fr (W := W_c0) (Fr.sI (by decide) (Fr.sI (by decide) Fr.r)) (by decide)), (ra4.fr g40 (by decide)), (lc4.fr (W := W_c0) (Fr.sI (by decide) (Fr.sI (by decide) Fr.r)) (by decide)), (lr4.fr g40 (by decide)), (cu4.fr (W := W_c0) (Fr.sI (by decide) (Fr.sI (by decide) Fr.r)) (by decide)), (ru4.fr g40 (by decide))⟩ ⟨by omega, by omega, by omega, by omega, by omega, by omega, by omega, by omega, by omega, by omega, by omega, by omega⟩ (vs2 (adI (rfl) (li_1)) (rfl))) fun v Mx41 w Nx41 hx41 => ?_
            rcases hx41 with ⟨i41, e41, u41, uc41, G41, U41, X41, fl41, fr41, sc41, sr41, rw41, bd41, mv41, ag41, au41, ax41⟩ | ⟨F41, P41, fl41, fr41, tc41, tr41⟩
            ·
              have FL41 : Fr W_cp Mc Mx41 := Fr.t (Fr.sI (by decide) (Fr.sI (by decide) FL4)) fl41
              have FR41 : Fr W_rx Mr Nx41 := Fr.t f40 fr41
              obtain ⟨bb41_0, bb41_1, bb41_2, bb41_3, bb41_4, bb41_5, bb41_6, bb41_7, bb41_8, bb41_9, bb41_10, bb41_11⟩ := bd41
              obtain ⟨q41_12, q41_13, q41_10, q41_9, q41_16, q41_19⟩ := sc41
              obtain ⟨w41_36, w41_37, w41_38, w41_41, w41_43, w41_51, w41_53, w41_50, w41_n⟩ := sr41
              obtain ⟨ca41, ra41, lc41, lr41, cu41, ru41⟩ := rw41
              have hk42 := (hS.ok i41 (by omega) (by omega)).r
              refine rsl (cV_e rfl) ?_
              refine rsr (cV_e rfl) ?_
              refine rsl (vC_e (ck_65 (hC.fr FL41))) ?_
              refine RlI (a87 (by omega) (hC.fr FL41) (q41_9) (rfl) (li_0) (by omega)) fun v Ma44 h44 => ?_
              obtain ⟨r43, rfl, g44, e44_k0, p44_0, p44_1⟩ := h44
              have f44 : Fr W_cp Mc Ma44 := Fr.t FL41 (Fr.m g44 (by decide))
              refine rsl (cI_e rfl) ?_
              refine rsl (if_neg (eqI_n (rfl) (li_3) (by omega))) ?_
              refine rsl (ltI_q (z := (k4 + 1)) (adI (hk4) (li_1))) ?_
              refine rsr (vC_e (rk_160 (hR.fr FR41))) ?_
              refine RrI (a196 (by omega) (hR.fr FR41) (w41_43) ((FR41.i _ _ (by decide)).trans h49) ((FR41.i _ _ (by decide)).trans h48) (li_13) (li_0) (by omega)) fun v Ma46 h46 => ?_
              obtain ⟨r45, rfl, g46, e46_k0, p46_0, p46_1⟩ := h46
              have f46 : Fr W_rx Mr Ma46 := Fr.t FR41 (Fr.m g46 (by decide))
              refine rsr (cI_e rfl) ?_
              exact hgo (m - i41 + 1).toNat _ _ (by omega) (Or.inl ⟨(k4 + 1), i41, rfl, by omega, ⟨(e41 + 1), u41, uc41, (pu G41 e41 [13, 0, -2, 0, ut, mu, 0]), U41, X41, f44, f46, ⟨(g44.i _ _ (by decide)).trans (q41_12), (g44.i _ _ (by decide)).trans (q41_13), (g44.i _ _ (by decide)).trans (q41_10), e44_k0, (g44.i _ _ (by decide)).trans (q41_16), (g44.i _ _ (by decide)).trans (q41_19)⟩, ⟨(g46.i _ _ (by decide)).trans (w41_36), (g46.i _ _ (by decide)).trans (w41_37), (g46.i _ _ (by decide)).trans (w41_38), (g46.i _ _ (by decide)).trans (w41_41), e46_k0, (g46.i _ _ (by decide)).trans (w41_51), (g46.i _ _ (by decide)).trans (w41_53), (g46.i _ _ (by decide)).trans (w41_50), (w41_n.fr g46 (by decide) (by decide))⟩, ⟨(CA1.em ca41 (by omega) p44_1 rfl), (RA1.em ra41 (by omega) p46_1 rfl), (lc41.fr g44 (by decide)), (lr41.fr g46 (by decide)), (cu41.fr g44 (by decide)), (ru41.fr g46 (by decide))⟩, ⟨by omega, by omega, by omega, by omega, by omega, by omega, by omega, by omega, by omega, by omega, by omega, by omega⟩, ⟨by omega, by omega, by omega, by omega, by omega, by omega⟩, (Ag.pu (Ag.t ag4 ag41 (by omega)) (by omega)), (Ag.t au4 au41 (by omega)), (AgL.t ax4 ax41 (by omega))⟩, by omega⟩)
            ·
              have FL41 : Fr W_cp Mc Mx41 := Fr.t (Fr.sI (by decide) (Fr.sI (by decide) FL4)) fl41
              have FR41 : Fr W_rp Mr Nx41 := Fr.t (Fr.m f40 W_rx_p) fr41
              obtain ⟨ti41, tz41, tn41, tu41, t1341, t1041, t1141, t1241, t941, t1641, t1941, tb41⟩ := tc41
              obtain ⟨re41, rn41, ru41, rm41, rt41, u4141, u4241, u4341, u5141, u5341, u4841, u4941, ub41⟩ := tr41
              refine rsl (cV_e rfl) ?_
              refine rsr (cV_e rfl) ?_
              refine rsl (vC_e (ck_65 (hC.fr FL41))) ?_
              refine RlI (y87 (by omega) (hC.fr FL41) (hTk.fr (WL := W_cp) FL41 (by decide)) (t1241) (t1341) (t1041) (t1141) (t941) (t1641) (t1941) (rfl) (li_0) (by omega)) fun v Ma48 h48 => ?_
              obtain ⟨rv47, sz47, sn47, uc47, rfl, g48, e48_sz47, e48_sn47, e48_uc47, e48_k0, e48_k1, e48_k2, e48_k3, p48_0, p48_1, p48_2, p48_3⟩ := h48
              have f48 : Fr W_cp Mc Ma48 := Fr.t FL41 (Fr.m g48 (by decide))
              refine rsl (cI_e rfl) ?_
              refine rsl (if_neg (eqI_n (rfl) (li_3) (by omega))) ?_
              refine rsl (ltI_q (z := (k4 + 1)) (adI (hk4) (li_1))) ?_
              refine rsr (vC_e (rk_160 (hR.fr FR41))) ?_
              refine RrI (x196_s (by omega) (hR.fr FR41) (u4141) (u4241) (u4341) (u5141) (u5341) (u4841) (u4941) (li_13) (li_0) (by omega)) fun v Ma50 h50 => ?_
              obtain ⟨rv49, em49, rfl, g50, e50_em49, e50_k0, e50_k1, e50_k2, e50_k3, e50_k4, p50_0, p50_1⟩ := h50
              have f50 : Fr W_rp Mr Ma50 := Fr.t FR41 (Fr.m g50 (by decide))
              refine rsr (cI_e rfl) ?_
              exact hgo 0 _ _ (by omega) (Or.inr ⟨(k4 + 1), F41, P41, rfl, by omega, f48, f50, ⟨ti41, sz47, sn47, uc47, e48_k0, e48_k1, e48_k2, e48_k3, e48_sz47, e48_sn47, e48_uc47, by omega⟩, ⟨em49, rn41, ru41, rm41, rt41, e50_k0, e50_k1, e50_em49, e50_k2, e50_k3, e50_k4, (g50.i _ _ (by decide)).trans (u4941), by omega⟩, rfl⟩)
          ·
            refine RlI (lv_5 (by omega) (rfl) (by omega)) fun v Ml51 hl51 => ?_
            obtain ⟨rl51, rfl, rfl, nl51, bl51⟩ := hl51
            refine rsl (cI_e rfl) ?_
            refine rsl (if_neg (eqI_n (rfl) (rfl) (by omega))) ?_
            refine rsl (jv_e) ?_
            refine rsr (gtI_q (w := iI 0) (rk_160 (hR.fr FR4)) (w4_41)) ?_
            refine rsr (if_pos (eqI_p (rfl) (li_0) (by omega))) ?_
            refine rsr (gtI_q (w := iI ((kr (kd i4)))) (rk_160 (hR.fr FR4)) (w4_36)) ?_
            refine rsr (jn_v) ?_
            refine rsr (if_neg (krI_n (k := 42) (rfl) (li_42) (hS.ok i4 (by omega) (by omega)) (by unfold KdOK sgk; omega) (by decide +kernel) (by omega) (by omega))) ?_
            refine rsr (gtI_q (w := iI ((kr (kd i4)))) (rk_160 (hR.fr FR4)) (w4_36)) ?_
            refine rsr (if_neg (krI_n (k := 47) (rfl) (li_47) (hS.ok i4 (by omega) (by omega)) (by unfold KdOK sgk; omega) (by decide +kernel) (by omega) (by omega))) ?_
            refine rsr (gtI_q (w := iI ((kr (kd i4)))) (rk_160 (hR.fr FR4)) (w4_36)) ?_
            refine rsr (if_neg (krI_n (k := 37) (rfl) (li_37) (hS.ok i4 (by omega) (by omega)) (by unfold KdOK sgk; omega) (by decide +kernel) (by omega) (by omega))) ?_
            refine rsr (jv_e) ?_
            exact Rs.ok (Or.inl ⟨i4, e4, u4, uc4, G4, U4, X4, FL4, FR4, ⟨q4_12, q4_13, q4_10, q4_9, q4_16, q4_19⟩, ⟨w4_36, w4_37, w4_38, w4_41, w4_43, w4_51, w4_53, w4_50, w4_n⟩, ⟨ca4, ra4, lc4, lr4, cu4, ru4⟩, ⟨by omega, by omega, by omega, by omega, by omega, by omega, by omega, by omega, by omega, by omega, by omega, by omega⟩, ⟨by omega, by omega, by omega, by omega, by omega, by omega⟩, ag4, au4, ax4⟩)
    ·
      obtain ⟨k4, F4, P4, hk4, ⟨hka4, hkb4⟩, FL4, FR4, tc4, tr4, hm4⟩ := hq
      obtain ⟨ti4, tz4, tn4, tu4, t134, t104, t114, t124, t94, t164, t194, tb4⟩ := tc4
      obtain ⟨re4, rn4, ru4, rm4, rt4, u414, u424, u434, u514, u534, u484, u494, ub4⟩ := tr4
      unfold c99_61 c207_4
      refine rsl (if_neg (leI_n (li_3000) (hk4) (by omega))) ?_
      refine rsl (gtI_q (w := iI 2) (ck_65 (hC.fr FL4)) (t134)) ?_
      refine rsl (cI_e (y102 (by omega) (rfl))) ?_
      refine rsl (if_neg (eqI_n (rfl) (rfl) (by omega))) ?_
      refine rsl (jv_e) ?_
      refine rsr (gtI_q (w := iI F4) (rk_160 (hR.fr FR4)) (u414)) ?_
      refine rsr (if_neg (eqI_n (rfl) (li_0) (by omega))) ?_
      refine rsr (jv_e) ?_
      exact Rs.ok (Or.inr ⟨F4, P4, FL4, FR4, ⟨ti4, tz4, tn4, tu4, t134, t104, t114, t124, t94, t164, t194, by omega⟩, ⟨re4, rn4, ru4, rm4, rt4, u414, u424, u434, u514, u534, u484, u494, by omega⟩⟩)
  ·
    have FL2 : Fr W_cp Mc Mx2 := Fr.t Fr.r fl2
    have FR2 : Fr W_rp Mr Nx2 := Fr.t (Fr.m Fr.r W_rx_p) fr2
    obtain ⟨ti2, tz2, tn2, tu2, t132, t102, t112, t122, t92, t162, t192, tb2⟩ := tc2
    obtain ⟨re2, rn2, ru2, rm2, rt2, u412, u422, u432, u512, u532, u482, u492, ub2⟩ := tr2
    refine rsl (cV_e rfl) ?_
    refine rsr (cV_e rfl) ?_
    refine rsl (jn_v) ?_
    refine rsl (jn_v) ?_
    refine rsl (lp_e) ?_
    unfold c99_61
    refine rsl (if_neg (leI_n (li_3000) (li_0) (by omega))) ?_
    refine rsl (gtI_q (w := iI 2) (ck_65 (hC.fr FL2)) (t132)) ?_
    refine rsl (cI_e (y102 (by omega) (rfl))) ?_
    refine rsl (if_neg (eqI_n (rfl) (rfl) (by omega))) ?_
    refine rsl (jv_e) ?_
    refine rsr (jn_v) ?_
    refine rsr (lp_e) ?_
    unfold c207_4
    refine rsr (gtI_q (w := iI F2) (rk_160 (hR.fr FR2)) (u412)) ?_
    refine rsr (if_neg (eqI_n (rfl) (li_0) (by omega))) ?_
    refine rsr (jv_e) ?_
    exact Rs.ok (Or.inr ⟨F2, P2, FL2, FR2, ⟨ti2, tz2, tn2, tu2, t132, t102, t112, t122, t92, t162, t192, by omega⟩, ⟨re2, rn2, ru2, rm2, rt2, u412, u422, u432, u512, u532, u482, u492, by omega⟩⟩)
theorem p_4 {D : Nat} {dp : Int} (hD : 20 ≤ D) (hp : Pair D 99 [5] 207 19 dp) : Pair (D + 1) 99 [4] 208 18 dp := by
  intro d d2 hd hd2 T n m kd pl E tx ua ut mu Mc Mr G U Hl X i e s u uc vs hS hx hsc hsr hrw hbd hvs
  subst hvs
  obtain ⟨d, rfl⟩ : ∃ e, d = e + 1 := ⟨d - 1, by omega⟩
  obtain ⟨d2, rfl⟩ : ∃ e, d2 = e + 1 := ⟨d2 - 1, by omega⟩
  show Rs (runX (d + 1) 99 [va_rf (some 65), .int (iI 4), .int (iI dp)] Mc) (runX (d2 + 1) 208 [va_rf (some 160)] Mr) _
  rw [r99]; unfold b99; rw [aR_e, aI_e, aI_e, aZ_e]; unfold c99; rw [r208]; unfold b208; rw [aR_e, aZ_e]; unfold c208
  have hCx := hx
  obtain ⟨hC, hR, hTk, hT, hW, ⟨hu1, hu2, hu3, hu4⟩, h49, h48, ⟨hb1, hb2, hb3, hb4⟩⟩ := hx
  obtain ⟨bb_0, bb_1, bb_2, bb_3, bb_4, bb_5, bb_6, bb_7, bb_8, bb_9, bb_10, bb_11⟩ := hbd
  obtain ⟨qa_12, qa_13, qa_10, qa_9, qa_16, qa_19⟩ := hsc
  obtain ⟨wa_36, wa_37, wa_38, wa_41, wa_43, wa_51, wa_53, wa_50, wa_n⟩ := hsr
  obtain ⟨caa, raa, lca, lra, cua, rua⟩ := hrw
  have hk1 := (hS.ok i (by omega) (by omega)).r
  refine rsl (if_pos (leI_p (rfl) (li_5) (by omega))) ?_
  refine rsl (jn_v) ?_
  refine rsl (if_neg (eqI_n (rfl) (li_2) (by omega))) ?_
  refine rsl (jv_e) ?_
  refine rsl (vC_e (ck_65 hC)) ?_
  refine rsr (vC_e (rk_160 hR)) ?_
  refine Rb_VV (hp _ _ (by omega) (by omega) T n m kd pl E tx ua ut mu _ _ G U Hl X i e s u uc _ hS (hCx.fr Fr.r Fr.r) ⟨qa_12, qa_13, qa_10, qa_9, qa_16, qa_19⟩ ⟨wa_36, wa_37, wa_38, wa_41, wa_43, wa_51, wa_53, wa_50, wa_n⟩ ⟨caa, raa, lca, lra, cua, rua⟩ ⟨by omega, by omega, by omega, by omega, by omega, by omega, by omega, by omega, by omega, by omega, by omega, by omega⟩ (vs2 (adI (rfl) (li_1)) (rfl))) fun v Mx2 w Nx2 hx2 => ?_
  rcases hx2 with ⟨i2, e2, u2, uc2, G2, U2, X2, fl2, fr2, sc2, sr2, rw2, bd2, mv2, ag2, au2, ax2⟩ | ⟨F2, P2, fl2, fr2, tc2, tr2⟩
  ·
    have FL2 : Fr W_cp Mc Mx2 := Fr.t Fr.r fl2
    have FR2 : Fr W_rx Mr Nx2 := Fr.t Fr.r fr2
    obtain ⟨bb2_0, bb2_1, bb2_2, bb2_3, bb2_4, bb2_5, bb2_6, bb2_7, bb2_8, bb2_9, bb2_10, bb2_11⟩ := bd2
    obtain ⟨q2_12, q2_13, q2_10, q2_9, q2_16, q2_19⟩ := sc2
    obtain ⟨w2_36, w2_37, w2_38, w2_41, w2_43, w2_51, w2_53, w2_50, w2_n⟩ := sr2
    obtain ⟨ca2, ra2, lc2, lr2, cu2, ru2⟩ := rw2
    have hk3 := (hS.ok i2 (by omega) (by omega)).r
    refine rsl (cV_e rfl) ?_
    refine rsr (cV_e rfl) ?_
    refine rsl (jn_v) ?_
    refine rsl (jn_v) ?_
    refine rsr (jn_v) ?_
    refine Rb_lp (fun m2 q t => (∃ (k i2 : Int), q.1 = iI k ∧ (0 ≤ k ∧ k ≤ i2) ∧ PK m kd pl E tx Mc Mr G U Hl X i e s u uc dp q.2 t i2 ∧ (m2 : Int) = m - i2 + 1) ∨ ∃ (k F P : Int), q.1 = iI k ∧ (0 ≤ k ∧ k ≤ 1500) ∧ Fr W_cp Mc q.2 ∧ Fr W_rp Mr t ∧ FTc m F P q.2 ∧ FTr (2000 - 30 * dp - 18) F P t ∧ m2 = 0) (fun m2 q t gl gr hq hgo => ?_) (m - i2 + 1).toNat _ _ _ _ (by omega) (by omega) (Or.inl ⟨0, i2, li_0, by omega, ⟨e2, u2, uc2, G2, U2, X2, FL2, FR2, ⟨q2_12, q2_13, q2_10, q2_9, q2_16, q2_19⟩, ⟨w2_36, w2_37, w2_38, w2_41, w2_43, w2_51, w2_53, w2_50, w2_n⟩, ⟨ca2, ra2, lc2, lr2, cu2, ru2⟩, ⟨by omega, by omega, by omega, by omega, by omega, by omega, by omega, by omega, by omega, by omega, by omega, by omega⟩, ⟨by omega, by omega, by omega, by omega, by omega, by omega⟩, (Ag.t Ag.r ag2 (by omega)), (Ag.t Ag.r au2 (by omega)), (AgL.t AgL.r ax2 (by omega))⟩, by omega⟩)
    obtain ⟨qk4, qm4⟩ := q
    dsimp only at hq
    try dsimp only
    rcases hq with hq | hq
    ·
      obtain ⟨k4, i4, hk4, ⟨hka4, hkb4⟩, ⟨e4, u4, uc4, G4, U4, X4, FL4, FR4, sc4, sr4, rw4, bd4, ⟨mv4_0, mv4_1, mv4_2, mv4_3, mv4_4, mv4_5⟩, ag4, au4, ax4⟩, hm4⟩ := hq
      obtain ⟨bb4_0, bb4_1, bb4_2, bb4_3, bb4_4, bb4_5, bb4_6, bb4_7, bb4_8, bb4_9, bb4_10, bb4_11⟩ := bd4
      obtain ⟨q4_12, q4_13, q4_10, q4_9, q4_16, q4_19⟩ := sc4
      obtain ⟨w4_36, w4_37, w4_38, w4_41, w4_43, w4_51, w4_53, w4_50, w4_n⟩ := sr4
      obtain ⟨ca4, ra4, lc4, lr4, cu4, ru4⟩ := rw4
      have hk5 := (hS.ok i4 (by omega) (by omega)).r
      unfold c99_61 c208_4
      refine rsl (if_neg (leI_n (li_3000) (hk4) (by omega))) ?_
      refine rsl (gtI_q (w := iI ((kd i4))) (ck_65 (hC.fr FL4)) (q4_13)) ?_
      by_cases c6 : ((kd i4)) = 43
      ·
        refine rsl (cI_e (lk_43 (by omega) ((rfl).trans (congrArg iI (by omega))))) ?_
        refine rsl (if_pos (eqI_p (rfl) (rfl) (by omega))) ?_
        refine rsl (gtI_q (w := iI ((kd i4))) (ck_65 (hC.fr FL4)) (q4_13)) ?_
        refine rsl (cI_e (ok_43 (by omega) ((rfl).trans (congrArg iI (by omega))))) ?_
        refine rsl (vC_e (ck_65 (hC.fr FL4))) ?_
        have hm7 : i4 + 1 < m := hS.more i4 (by omega) (by omega) (by omega)
        refine rsl (cV_e (a63 (by omega) hS (hC.fr FL4) (hTk.fr (WL := W_cp) FL4 (by decide)) (q4_12) (q4_13) (q4_10) (by omega))) ?_
        have hk8 := (hS.ok (i4 + 1) (by omega) (by omega)).r
        refine rsl (vC_e (ck_65 (hC.fr FL4).sI.sI)) ?_
        refine rsr (gtI_q (w := iI 0) (rk_160 (hR.fr FR4)) (w4_41)) ?_
        refine rsr (if_pos (eqI_p (rfl) (li_0) (by omega))) ?_
        refine rsr (gtI_q (w := iI ((kr (kd i4)))) (rk_160 (hR.fr FR4)) (w4_36)) ?_
        refine rsr (jn_v) ?_
        refine rsr (if_pos (krI_p (k := 43) (rfl) (li_43) (by omega) (by decide +kernel))) ?_
        refine rsr (jv_e) ?_
        refine rsr (gtI_q (w := iI ((kr (kd i4)))) (rk_160 (hR.fr FR4)) (w4_36)) ?_
        refine rsr (jn_v) ?_
        refine rsr (if_pos (krI_p (k := 43) (rfl) (li_43) (by omega) (by decide +kernel))) ?_
        refine rsr (jv_e) ?_
        refine rsr (vC_e (rk_160 (hR.fr FR4))) ?_
        refine RrV (nx_ok (by omega) hS (hR.fr FR4) (hT.fr FR4 (by decide) (by decide)) (fun i a b => ((Fr.lc FR4 _ (by decide) _)).trans (hW i a b)) (i := i4) (w4_41) (w4_38) (by omega) (by omega)) fun v Ma10 h10 => ?_
        obtain ⟨g10, e10_k0, e10_k1, e10_k2, p10_0⟩ := h10
        have f10 : Fr W_rx Mr Ma10 := Fr.t FR4 (Fr.m g10 (by decide))
        refine rsr (cV_e rfl) ?_
        refine rsr (vC_e (rk_160 (hR.fr f10))) ?_
        refine Rb_VV (hp _ _ (by omega) (by omega) T n m kd pl E tx ua ut mu _ _ G4 U4 Hl X4 (i4 + 1) e4 s u4 uc4 _ hS (hCx.fr (Fr.sI (by decide) (Fr.sI (by decide) FL4)) f10) ⟨(sI_nej (by decide)).trans (sI_eq), sI_eq, (sI_nej (by decide)).trans ((sI_nej (by decide)).trans (q4_10)), (sI_nej (by decide)).trans ((sI_nej (by decide)).trans (q4_9)), (sI_nej (by decide)).trans ((sI_nej (by decide)).trans (q4_16)), (sI_nej (by decide)).trans ((sI_nej (by decide)).trans (q4_19))⟩ ⟨e10_k0, e10_k1, e10_k2, (g10.i _ _ (by decide)).trans (w4_41), (g10.i _ _ (by decide)).trans (w4_43), (g10.i _ _ (by decide)).trans (w4_51), (g10.i _ _ (by decide)).trans (w4_53), (g10.i _ _ (by decide)).trans (w4_50), p10_0⟩ ⟨(ca4.fr (W := W_c0) (Fr.sI (by decide) (Fr.sI (by decide) Fr.r)) (by decide)), (ra4.fr g10 (by decide)), (lc4.fr (W := W_c0) (Fr.sI (by decide) (Fr.sI (by decide) Fr.r)) (by decide)), (lr4.fr g10 (by decide)), (cu4.fr (W := W_c0) (Fr.sI (by decide) (Fr.sI (by decide) Fr.r)) (by decide)), (ru4.fr g10 (by decide))⟩ ⟨by omega, by omega, by omega, by omega, by omega, by omega, by omega, by omega, by omega, by omega, by omega, by omega⟩ (vs2 (adI (rfl) (li_1)) (rfl))) fun v Mx11 w Nx11 hx11 => ?_
        rcases hx11 with ⟨i11, e11, u11, uc11, G11, U11, X11, fl11, fr11, sc11, sr11, rw11, bd11, mv11, ag11, au11, ax11⟩ | ⟨F11, P11, fl11, fr11, tc11, tr11⟩
        ·
          have FL11 : Fr W_cp Mc Mx11 := Fr.t (Fr.sI (by decide) (Fr.sI (by decide) FL4)) fl11
          have FR11 : Fr W_rx Mr Nx11 := Fr.t f10 fr11
          obtain ⟨bb11_0, bb11_1, bb11_2, bb11_3, bb11_4, bb11_5, bb11_6, bb11_7, bb11_8, bb11_9, bb11_10, bb11_11⟩ := bd11
          obtain ⟨q11_12, q11_13, q11_10, q11_9, q11_16, q11_19⟩ := sc11
          obtain ⟨w11_36, w11_37, w11_38, w11_41, w11_43, w11_51, w11_53, w11_50, w11_n⟩ := sr11
          obtain ⟨ca11, ra11, lc11, lr11, cu11, ru11⟩ := rw11
          have hk12 := (hS.ok i11 (by omega) (by omega)).r
          refine rsl (cV_e rfl) ?_
          refine rsr (cV_e rfl) ?_
          refine rsl (vC_e (ck_65 (hC.fr FL11))) ?_
          refine RlI (a87 (by omega) (hC.fr FL11) (q11_9) (rfl) (li_0) (by omega)) fun v Ma14 h14 => ?_
          obtain ⟨r13, rfl, g14, e14_k0, p14_0, p14_1⟩ := h14
          have f14 : Fr W_cp Mc Ma14 := Fr.t FL11 (Fr.m g14 (by decide))
          refine rsl (cI_e rfl) ?_
          refine rsl (if_neg (eqI_n (rfl) (li_3) (by omega))) ?_
          refine rsl (ltI_q (z := (k4 + 1)) (adI (hk4) (li_1))) ?_
          refine rsr (vC_e (rk_160 (hR.fr FR11))) ?_
          refine RrI (a196 (by omega) (hR.fr FR11) (w11_43) ((FR11.i _ _ (by decide)).trans h49) ((FR11.i _ _ (by decide)).trans h48) (li_10) (li_0) (by omega)) fun v Ma16 h16 => ?_
          obtain ⟨r15, rfl, g16, e16_k0, p16_0, p16_1⟩ := h16
          have f16 : Fr W_rx Mr Ma16 := Fr.t FR11 (Fr.m g16 (by decide))
          refine rsr (cI_e rfl) ?_
          exact hgo (m - i11 + 1).toNat _ _ (by omega) (Or.inl ⟨(k4 + 1), i11, rfl, by omega, ⟨(e11 + 1), u11, uc11, (pu G11 e11 [10, 0, -2, 0, ut, mu, 0]), U11, X11, f14, f16, ⟨(g14.i _ _ (by decide)).trans (q11_12), (g14.i _ _ (by decide)).trans (q11_13), (g14.i _ _ (by decide)).trans (q11_10), e14_k0, (g14.i _ _ (by decide)).trans (q11_16), (g14.i _ _ (by decide)).trans (q11_19)⟩, ⟨(g16.i _ _ (by decide)).trans (w11_36), (g16.i _ _ (by decide)).trans (w11_37), (g16.i _ _ (by decide)).trans (w11_38), (g16.i _ _ (by decide)).trans (w11_41), e16_k0, (g16.i _ _ (by decide)).trans (w11_51), (g16.i _ _ (by decide)).trans (w11_53), (g16.i _ _ (by decide)).trans (w11_50), (w11_n.fr g16 (by decide) (by decide))⟩, ⟨(CA1.em ca11 (by omega) p14_1 rfl), (RA1.em ra11 (by omega) p16_1 rfl), (lc11.fr g14 (by decide)), (lr11.fr g16 (by decide)), (cu11.fr g14 (by decide)), (ru11.fr g16 (by decide))⟩, ⟨by omega, by omega, by omega, by omega, by omega, by omega, by omega, by omega, by omega, by omega, by omega, by omega⟩, ⟨by omega, by omega, by omega, by omega, by omega, by omega⟩, (Ag.pu (Ag.t ag4 ag11 (by omega)) (by omega)), (Ag.t au4 au11 (by omega)), (AgL.t ax4 ax11 (by omega))⟩, by omega⟩)
        ·
          have FL11 : Fr W_cp Mc Mx11 := Fr.t (Fr.sI (by decide) (Fr.sI (by decide) FL4)) fl11
          have FR11 : Fr W_rp Mr Nx11 := Fr.t (Fr.m f10 W_rx_p) fr11
          obtain ⟨ti11, tz11, tn11, tu11, t1311, t1011, t1111, t1211, t911, t1611, t1911, tb11⟩ := tc11
          obtain ⟨re11, rn11, ru11, rm11, rt11, u4111, u4211, u4311, u5111, u5311, u4811, u4911, ub11⟩ := tr11
          refine rsl (cV_e rfl) ?_
          refine rsr (cV_e rfl) ?_
          refine rsl (vC_e (ck_65 (hC.fr FL11))) ?_
          refine RlI (y87 (by omega) (hC.fr FL11) (hTk.fr (WL := W_cp) FL11 (by decide)) (t1211) (t1311) (t1011) (t1111) (t911) (t1611) (t1911) (rfl) (li_0) (by omega)) fun v Ma18 h18 => ?_
          obtain ⟨rv17, sz17, sn17, uc17, rfl, g18, e18_sz17, e18_sn17, e18_uc17, e18_k0, e18_k1, e18_k2, e18_k3, p18_0, p18_1, p18_2, p18_3⟩ := h18
          have f18 : Fr W_cp Mc Ma18 := Fr.t FL11 (Fr.m g18 (by decide))
          refine rsl (cI_e rfl) ?_
          refine rsl (if_neg (eqI_n (rfl) (li_3) (by omega))) ?_
          refine rsl (ltI_q (z := (k4 + 1)) (adI (hk4) (li_1))) ?_
          refine rsr (vC_e (rk_160 (hR.fr FR11))) ?_
          refine RrI (x196_s (by omega) (hR.fr FR11) (u4111) (u4211) (u4311) (u5111) (u5311) (u4811) (u4911) (li_10) (li_0) (by omega)) fun v Ma20 h20 => ?_
          obtain ⟨rv19, em19, rfl, g20, e20_em19, e20_k0, e20_k1, e20_k2, e20_k3, e20_k4, p20_0, p20_1⟩ := h20
          have f20 : Fr W_rp Mr Ma20 := Fr.t FR11 (Fr.m g20 (by decide))
          refine rsr (cI_e rfl) ?_
          exact hgo 0 _ _ (by omega) (Or.inr ⟨(k4 + 1), F11, P11, rfl, by omega, f18, f20, ⟨ti11, sz17, sn17, uc17, e18_k0, e18_k1, e18_k2, e18_k3, e18_sz17, e18_sn17, e18_uc17, by omega⟩, ⟨em19, rn11, ru11, rm11, rt11, e20_k0, e20_k1, e20_em19, e20_k2, e20_k3, e20_k4, (g20.i _ _ (by decide)).trans (u4911), by omega⟩, rfl⟩)
      ·
        by_cases c21 : ((kd i4)) = 45
        ·
          refine rsl (cI_e (lk_45 (by omega) ((rfl).trans (congrArg iI (by omega))))) ?_
          refine rsl (if_pos (eqI_p (rfl) (rfl) (by omega))) ?_
          refine rsl (gtI_q (w := iI ((kd i4))) (ck_65 (hC.fr FL4)) (q4_13)) ?_
          refine rsl (cI_e (ok_45 (by omega) ((rfl).trans (congrArg iI (by omega))))) ?_
          refine rsl (vC_e (ck_65 (hC.fr FL4))) ?_
          have hm22 : i4 + 1 < m := hS.more i4 (by omega) (by omega) (by omega)
          refine rsl (cV_e (a63 (by omega) hS (hC.fr FL4) (hTk.fr (WL := W_cp) FL4 (by decide)) (q4_12) (q4_13) (q4_10) (by omega))) ?_
          have hk23 := (hS.ok (i4 + 1) (by omega) (by omega)).r
          refine rsl (vC_e (ck_65 (hC.fr FL4).sI.sI)) ?_
          refine rsr (gtI_q (w := iI 0) (rk_160 (hR.fr FR4)) (w4_41)) ?_
          refine rsr (if_pos (eqI_p (rfl) (li_0) (by omega))) ?_
          refine rsr (gtI_q (w := iI ((kr (kd i4)))) (rk_160 (hR.fr FR4)) (w4_36)) ?_
          refine rsr (jn_v) ?_
          refine rsr (if_neg (krI_n (k := 43) (rfl) (li_43) (hS.ok i4 (by omega) (by omega)) (by unfold KdOK sgk; omega) (by decide +kernel) (by omega) (by omega))) ?_
          refine rsr (gtI_q (w := iI ((kr (kd i4)))) (rk_160 (hR.fr FR4)) (w4_36)) ?_
          refine rsr (if_pos (krI_p (k := 45) (rfl) (li_45) (by omega) (by decide +kernel))) ?_
          refine rsr (jv_e) ?_
          refine rsr (gtI_q (w := iI ((kr (kd i4)))) (rk_160 (hR.fr FR4)) (w4_36)) ?_
          refine rsr (jn_v) ?_
          refine rsr (if_neg (krI_n (k := 43) (rfl) (li_43) (hS.ok i4 (by omega) (by omega)) (by unfold KdOK sgk; omega) (by decide +kernel) (by omega) (by omega))) ?_
          refine rsr (jv_e) ?_
          refine rsr (vC_e (rk_160 (hR.fr FR4))) ?_
          refine RrV (nx_ok (by omega) hS (hR.fr FR4) (hT.fr FR4 (by decide) (by decide)) (fun i a b => ((Fr.lc FR4 _ (by decide) _)).trans (hW i a b)) (i := i4) (w4_41) (w4_38) (by omega) (by omega)) fun v Ma25 h25 => ?_
          obtain ⟨g25, e25_k0, e25_k1, e25_k2, p25_0⟩ := h25
          have f25 : Fr W_rx Mr Ma25 := Fr.t FR4 (Fr.m g25 (by decide))
          refine rsr (cV_e rfl) ?_
          refine rsr (vC_e (rk_160 (hR.fr f25))) ?_
          refine Rb_VV (hp _ _ (by omega) (by omega) T n m kd pl E tx ua ut mu _ _ G4 U4 Hl X4 (i4 + 1) e4 s u4 uc4 _ hS (hCx.fr (Fr.sI (by decide) (Fr.sI (by decide) FL4)) f25) ⟨(sI_nej (by decide)).trans (sI_eq), sI_eq, (sI_nej (by decide)).trans ((sI_nej (by decide)).trans (q4_10)), (sI_nej (by decide)).trans ((sI_nej (by decide)).trans (q4_9)), (sI_nej (by decide)).trans ((sI_nej (by decide)).trans (q4_16)), (sI_nej (by decide)).trans ((sI_nej (by decide)).trans (q4_19))⟩ ⟨e25_k0, e25_k1, e25_k2, (g25.i _ _ (by decide)).trans (w4_41), (g25.i _ _ (by decide)).trans (w4_43), (g25.i _ _ (by decide)).trans (w4_51), (g25.i _ _ (by decide)).trans (w4_53), (g25.i _ _ (by decide)).trans (w4_50), p25_0⟩ ⟨(ca4.fr (W := W_c0) (Fr.sI (by decide) (Fr.sI (by decide) Fr.r)) (by decide)), (ra4.fr g25 (by decide)), (lc4.fr (W := W_c0) (Fr.sI (by decide) (Fr.sI (by decide) Fr.r)) (by decide)), (lr4.fr g25 (by decide)), (cu4.fr (W := W_c0) (Fr.sI (by decide) (Fr.sI (by decide) Fr.r)) (by decide)), (ru4.fr g25 (by decide))⟩ ⟨by omega, by omega, by omega, by omega, by omega, by omega, by omega, by omega, by omega, by omega, by omega, by omega⟩ (vs2 (adI (rfl) (li_1)) (rfl))) fun v Mx26 w Nx26 hx26 => ?_
          rcases hx26 with ⟨i26, e26, u26, uc26, G26, U26, X26, fl26, fr26, sc26, sr26, rw26, bd26, mv26, ag26, au26, ax26⟩ | ⟨F26, P26, fl26, fr26, tc26, tr26⟩
          ·
            have FL26 : Fr W_cp Mc Mx26 := Fr.t (Fr.sI (by decide) (Fr.sI (by decide) FL4)) fl26
            have FR26 : Fr W_rx Mr Nx26 := Fr.t f25 fr26
            obtain ⟨bb26_0, bb26_1, bb26_2, bb26_3, bb26_4, bb26_5, bb26_6, bb26_7, bb26_8, bb26_9, bb26_10, bb26_11⟩ := bd26
            obtain ⟨q26_12, q26_13, q26_10, q26_9, q26_16, q26_19⟩ := sc26
            obtain ⟨w26_36, w26_37, w26_38, w26_41, w26_43, w26_51, w26_53, w26_50, w26_n⟩ := sr26
            obtain ⟨ca26, ra26, lc26, lr26, cu26, ru26⟩ := rw26
            have hk27 := (hS.ok i26 (by omega) (by omega)).r
            refine rsl (cV_e rfl) ?_
            refine rsr (cV_e rfl) ?_
            refine rsl (vC_e (ck_65 (hC.fr FL26))) ?_
            refine RlI (a87 (by omega) (hC.fr FL26) (q26_9) (rfl) (li_0) (by omega)) fun v Ma29 h29 => ?_
            obtain ⟨r28, rfl, g29, e29_k0, p29_0, p29_1⟩ := h29
            have f29 : Fr W_cp Mc Ma29 := Fr.t FL26 (Fr.m g29 (by decide))
            refine rsl (cI_e rfl) ?_
            refine rsl (if_neg (eqI_n (rfl) (li_3) (by omega))) ?_
            refine rsl (ltI_q (z := (k4 + 1)) (adI (hk4) (li_1))) ?_
            refine rsr (vC_e (rk_160 (hR.fr FR26))) ?_
            refine RrI (a196 (by omega) (hR.fr FR26) (w26_43) ((FR26.i _ _ (by decide)).trans h49) ((FR26.i _ _ (by decide)).trans h48) (li_11) (li_0) (by omega)) fun v Ma31 h31 => ?_
            obtain ⟨r30, rfl, g31, e31_k0, p31_0, p31_1⟩ := h31
            have f31 : Fr W_rx Mr Ma31 := Fr.t FR26 (Fr.m g31 (by decide))
            refine rsr (cI_e rfl) ?_
            exact hgo (m - i26 + 1).toNat _ _ (by omega) (Or.inl ⟨(k4 + 1), i26, rfl, by omega, ⟨(e26 + 1), u26, uc26, (pu G26 e26 [11, 0, -2, 0, ut, mu, 0]), U26, X26, f29, f31, ⟨(g29.i _ _ (by decide)).trans (q26_12), (g29.i _ _ (by decide)).trans (q26_13), (g29.i _ _ (by decide)).trans (q26_10), e29_k0, (g29.i _ _ (by decide)).trans (q26_16), (g29.i _ _ (by decide)).trans (q26_19)⟩, ⟨(g31.i _ _ (by decide)).trans (w26_36), (g31.i _ _ (by decide)).trans (w26_37), (g31.i _ _ (by decide)).trans (w26_38), (g31.i _ _ (by decide)).trans (w26_41), e31_k0, (g31.i _ _ (by decide)).trans (w26_51), (g31.i _ _ (by decide)).trans (w26_53), (g31.i _ _ (by decide)).trans (w26_50), (w26_n.fr g31 (by decide) (by decide))⟩, ⟨(CA1.em ca26 (by omega) p29_1 rfl), (RA1.em ra26 (by omega) p31_1 rfl), (lc26.fr g29 (by decide)), (lr26.fr g31 (by decide)), (cu26.fr g29 (by decide)), (ru26.fr g31 (by decide))⟩, ⟨by omega, by omega, by omega, by omega, by omega, by omega, by omega, by omega, by omega, by omega, by omega, by omega⟩, ⟨by omega, by omega, by omega, by omega, by omega, by omega⟩, (Ag.pu (Ag.t ag4 ag26 (by omega)) (by omega)), (Ag.t au4 au26 (by omega)), (AgL.t ax4 ax26 (by omega))⟩, by omega⟩)
          ·
            have FL26 : Fr W_cp Mc Mx26 := Fr.t (Fr.sI (by decide) (Fr.sI (by decide) FL4)) fl26
            have FR26 : Fr W_rp Mr Nx26 := Fr.t (Fr.m f25 W_rx_p) fr26
            obtain ⟨ti26, tz26, tn26, tu26, t1326, t1026, t1126, t1226, t926, t1626, t1926, tb26⟩ := tc26
            obtain ⟨re26, rn26, ru26, rm26, rt26, u4126, u4226, u4326, u5126, u5326, u4826, u4926, ub26⟩ := tr26
            refine rsl (cV_e rfl) ?_
            refine rsr (cV_e rfl) ?_
            refine rsl (vC_e (ck_65 (hC.fr FL26))) ?_
            refine RlI (y87 (by omega) (hC.fr FL26) (hTk.fr (WL := W_cp) FL26 (by decide)) (t1226) (t1326) (t1026) (t1126) (t926) (t1626) (t1926) (rfl) (li_0) (by omega)) fun v Ma33 h33 => ?_
            obtain ⟨rv32, sz32, sn32, uc32, rfl, g33, e33_sz32, e33_sn32, e33_uc32, e33_k0, e33_k1, e33_k2, e33_k3, p33_0, p33_1, p33_2, p33_3⟩ := h33
            have f33 : Fr W_cp Mc Ma33 := Fr.t FL26 (Fr.m g33 (by decide))
            refine rsl (cI_e rfl) ?_
            refine rsl (if_neg (eqI_n (rfl) (li_3) (by omega))) ?_
            refine rsl (ltI_q (z := (k4 + 1)) (adI (hk4) (li_1))) ?_
            refine rsr (vC_e (rk_160 (hR.fr FR26))) ?_
            refine RrI (x196_s (by omega) (hR.fr FR26) (u4126) (u4226) (u4326) (u5126) (u5326) (u4826) (u4926) (li_11) (li_0) (by omega)) fun v Ma35 h35 => ?_
            obtain ⟨rv34, em34, rfl, g35, e35_em34, e35_k0, e35_k1, e35_k2, e35_k3, e35_k4, p35_0, p35_1⟩ := h35
            have f35 : Fr W_rp Mr Ma35 := Fr.t FR26 (Fr.m g35 (by decide))
            refine rsr (cI_e rfl) ?_
            exact hgo 0 _ _ (by omega) (Or.inr ⟨(k4 + 1), F26, P26, rfl, by omega, f33, f35, ⟨ti26, sz32, sn32, uc32, e33_k0, e33_k1, e33_k2, e33_k3, e33_sz32, e33_sn32, e33_uc32, by omega⟩, ⟨em34, rn26, ru26, rm26, rt26, e35_k0, e35_k1, e35_em34, e35_k2, e35_k3, e35_k4, (g35.i _ _ (by decide)).trans (u4926), by omega⟩, rfl⟩)
        ·
          refine RlI (lv_4 (by omega) (rfl) (by omega)) fun v Ml36 hl36 => ?_
          obtain ⟨rl36, rfl, rfl, nl36, bl36⟩ := hl36
          refine rsl (cI_e rfl) ?_
          refine rsl (if_neg (eqI_n (rfl) (rfl) (by omega))) ?_
          refine rsl (jv_e) ?_
          refine rsr (gtI_q (w := iI 0) (rk_160 (hR.fr FR4)) (w4_41)) ?_
          refine rsr (if_pos (eqI_p (rfl) (li_0) (by omega))) ?_
          refine rsr (gtI_q (w := iI ((kr (kd i4)))) (rk_160 (hR.fr FR4)) (w4_36)) ?_
          refine rsr (jn_v) ?_
          refine rsr (if_neg (krI_n (k := 43) (rfl) (li_43) (hS.ok i4 (by omega) (by omega)) (by unfold KdOK sgk; omega) (by decide +kernel) (by omega) (by omega))) ?_
          refine rsr (gtI_q (w := iI ((kr (kd i4)))) (rk_160 (hR.fr FR4)) (w4_36)) ?_
          refine rsr (if_neg (krI_n (k := 45) (rfl) (li_45) (hS.ok i4 (by omega) (by omega)) (by unfold KdOK sgk; omega) (by decide +kernel) (by omega) (by omega))) ?_
          refine rsr (jv_e) ?_
          exact Rs.ok (Or.inl ⟨i4, e4, u4, uc4, G4, U4, X4, FL4, FR4, ⟨q4_12, q4_13, q4_10, q4_9, q4_16, q4_19⟩, ⟨w4_36, w4_37, w4_38, w4_41, w4_43, w4_51, w4_53, w4_50, w4_n⟩, ⟨ca4, ra4, lc4, lr4, cu4, ru4⟩, ⟨by omega, by omega, by omega, by omega, by omega, by omega, by omega, by omega, by omega, by omega, by omega, by omega⟩, ⟨by omega, by omega, by omega, by omega, by omega, by omega⟩, ag4, au4, ax4⟩)
    ·
      obtain ⟨k4, F4, P4, hk4, ⟨hka4, hkb4⟩, FL4, FR4, tc4, tr4, hm4⟩ := hq
      obtain ⟨ti4, tz4, tn4, tu4, t134, t104, t114, t124, t94, t164, t194, tb4⟩ := tc4
      obtain ⟨re4, rn4, ru4, rm4, rt4, u414, u424, u434, u514, u534, u484, u494, ub4⟩ := tr4
      unfold c99_61 c208_4
      refine rsl (if_neg (leI_n (li_3000) (hk4) (by omega))) ?_
      refine rsl (gtI_q (w := iI 2) (ck_65 (hC.fr FL4)) (t134)) ?_
      refine rsl (cI_e (y102 (by omega) (rfl))) ?_
      refine rsl (if_neg (eqI_n (rfl) (rfl) (by omega))) ?_
      refine rsl (jv_e) ?_
      refine rsr (gtI_q (w := iI F4) (rk_160 (hR.fr FR4)) (u414)) ?_
      refine rsr (if_neg (eqI_n (rfl) (li_0) (by omega))) ?_
      refine rsr (jv_e) ?_
      exact Rs.ok (Or.inr ⟨F4, P4, FL4, FR4, ⟨ti4, tz4, tn4, tu4, t134, t104, t114, t124, t94, t164, t194, by omega⟩, ⟨re4, rn4, ru4, rm4, rt4, u414, u424, u434, u514, u534, u484, u494, by omega⟩⟩)
  ·
    have FL2 : Fr W_cp Mc Mx2 := Fr.t Fr.r fl2
    have FR2 : Fr W_rp Mr Nx2 := Fr.t (Fr.m Fr.r W_rx_p) fr2
    obtain ⟨ti2, tz2, tn2, tu2, t132, t102, t112, t122, t92, t162, t192, tb2⟩ := tc2
    obtain ⟨re2, rn2, ru2, rm2, rt2, u412, u422, u432, u512, u532, u482, u492, ub2⟩ := tr2
    refine rsl (cV_e rfl) ?_
    refine rsr (cV_e rfl) ?_
    refine rsl (jn_v) ?_
    refine rsl (jn_v) ?_
    refine rsl (lp_e) ?_
    unfold c99_61
    refine rsl (if_neg (leI_n (li_3000) (li_0) (by omega))) ?_
    refine rsl (gtI_q (w := iI 2) (ck_65 (hC.fr FL2)) (t132)) ?_
    refine rsl (cI_e (y102 (by omega) (rfl))) ?_
    refine rsl (if_neg (eqI_n (rfl) (rfl) (by omega))) ?_
    refine rsl (jv_e) ?_
    refine rsr (jn_v) ?_
    refine rsr (lp_e) ?_
    unfold c208_4
    refine rsr (gtI_q (w := iI F2) (rk_160 (hR.fr FR2)) (u412)) ?_
    refine rsr (if_neg (eqI_n (rfl) (li_0) (by omega))) ?_
    refine rsr (jv_e) ?_
    exact Rs.ok (Or.inr ⟨F2, P2, FL2, FR2, ⟨ti2, tz2, tn2, tu2, t132, t102, t112, t122, t92, t162, t192, by omega⟩, ⟨re2, rn2, ru2, rm2, rt2, u412, u422, u432, u512, u532, u482, u492, by omega⟩⟩)
theorem p_1 {D : Nat} {dp : Int} (hD : 20 ≤ D) (hp : Pair D 99 [2] 209 16 dp) : Pair (D + 1) 99 [1] 210 15 dp := by
  intro d d2 hd hd2 T n m kd pl E tx ua ut mu Mc Mr G U Hl X i e s u uc vs hS hx hsc hsr hrw hbd hvs
  subst hvs
  obtain ⟨d, rfl⟩ : ∃ e, d = e + 1 := ⟨d - 1, by omega⟩
  obtain ⟨d2, rfl⟩ : ∃ e, d2 = e + 1 := ⟨d2 - 1, by omega⟩
  show Rs (runX (d + 1) 99 [va_rf (some 65), .int (iI 1), .int (iI dp)] Mc) (runX (d2 + 1) 210 [va_rf (some 160)] Mr) _
  rw [r99]; unfold b99; rw [aR_e, aI_e, aI_e, aZ_e]; unfold c99; rw [r210]; unfold b210; rw [aR_e, aZ_e]; unfold c210
  have hCx := hx
  obtain ⟨hC, hR, hTk, hT, hW, ⟨hu1, hu2, hu3, hu4⟩, h49, h48, ⟨hb1, hb2, hb3, hb4⟩⟩ := hx
  obtain ⟨bb_0, bb_1, bb_2, bb_3, bb_4, bb_5, bb_6, bb_7, bb_8, bb_9, bb_10, bb_11⟩ := hbd
  obtain ⟨qa_12, qa_13, qa_10, qa_9, qa_16, qa_19⟩ := hsc
  obtain ⟨wa_36, wa_37, wa_38, wa_41, wa_43, wa_51, wa_53, wa_50, wa_n⟩ := hsr
  obtain ⟨caa, raa, lca, lra, cua, rua⟩ := hrw
  have hk1 := (hS.ok i (by omega) (by omega)).r
  refine rsl (if_pos (leI_p (rfl) (li_5) (by omega))) ?_
  refine rsl (jn_v) ?_
  refine rsl (if_neg (eqI_n (rfl) (li_2) (by omega))) ?_
  refine rsl (jv_e) ?_
  refine rsl (vC_e (ck_65 hC)) ?_
  refine rsr (vC_e (rk_160 hR)) ?_
  refine Rb_VV (hp _ _ (by omega) (by omega) T n m kd pl E tx ua ut mu _ _ G U Hl X i e s u uc _ hS (hCx.fr Fr.r Fr.r) ⟨qa_12, qa_13, qa_10, qa_9, qa_16, qa_19⟩ ⟨wa_36, wa_37, wa_38, wa_41, wa_43, wa_51, wa_53, wa_50, wa_n⟩ ⟨caa, raa, lca, lra, cua, rua⟩ ⟨by omega, by omega, by omega, by omega, by omega, by omega, by omega, by omega, by omega, by omega, by omega, by omega⟩ (vs2 (adI (rfl) (li_1)) (rfl))) fun v Mx2 w Nx2 hx2 => ?_
  rcases hx2 with ⟨i2, e2, u2, uc2, G2, U2, X2, fl2, fr2, sc2, sr2, rw2, bd2, mv2, ag2, au2, ax2⟩ | ⟨F2, P2, fl2, fr2, tc2, tr2⟩
  ·
    have FL2 : Fr W_cp Mc Mx2 := Fr.t Fr.r fl2
    have FR2 : Fr W_rx Mr Nx2 := Fr.t Fr.r fr2
    obtain ⟨bb2_0, bb2_1, bb2_2, bb2_3, bb2_4, bb2_5, bb2_6, bb2_7, bb2_8, bb2_9, bb2_10, bb2_11⟩ := bd2
    obtain ⟨q2_12, q2_13, q2_10, q2_9, q2_16, q2_19⟩ := sc2
    obtain ⟨w2_36, w2_37, w2_38, w2_41, w2_43, w2_51, w2_53, w2_50, w2_n⟩ := sr2
    obtain ⟨ca2, ra2, lc2, lr2, cu2, ru2⟩ := rw2
    have hk3 := (hS.ok i2 (by omega) (by omega)).r
    refine rsl (cV_e rfl) ?_
    refine rsr (cV_e rfl) ?_
    refine rsl (jn_v) ?_
    refine rsl (jn_v) ?_
    refine rsr (jn_v) ?_
    refine Rb_lp (fun m2 q t => (∃ (k i2 : Int), q.1 = iI k ∧ (0 ≤ k ∧ k ≤ i2) ∧ PK m kd pl E tx Mc Mr G U Hl X i e s u uc dp q.2 t i2 ∧ (m2 : Int) = m - i2 + 1) ∨ ∃ (k F P : Int), q.1 = iI k ∧ (0 ≤ k ∧ k ≤ 1500) ∧ Fr W_cp Mc q.2 ∧ Fr W_rp Mr t ∧ FTc m F P q.2 ∧ FTr (2000 - 30 * dp - 15) F P t ∧ m2 = 0) (fun m2 q t gl gr hq hgo => ?_) (m - i2 + 1).toNat _ _ _ _ (by omega) (by omega) (Or.inl ⟨0, i2, li_0, by omega, ⟨e2, u2, uc2, G2, U2, X2, FL2, FR2, ⟨q2_12, q2_13, q2_10, q2_9, q2_16, q2_19⟩, ⟨w2_36, w2_37, w2_38, w2_41, w2_43, w2_51, w2_53, w2_50, w2_n⟩, ⟨ca2, ra2, lc2, lr2, cu2, ru2⟩, ⟨by omega, by omega, by omega, by omega, by omega, by omega, by omega, by omega, by omega, by omega, by omega, by omega⟩, ⟨by omega, by omega, by omega, by omega, by omega, by omega⟩, (Ag.t Ag.r ag2 (by omega)), (Ag.t Ag.r au2 (by omega)), (AgL.t AgL.r ax2 (by omega))⟩, by omega⟩)
    obtain ⟨qk4, qm4⟩ := q
    dsimp only at hq
    try dsimp only
    rcases hq with hq | hq
    ·
      obtain ⟨k4, i4, hk4, ⟨hka4, hkb4⟩, ⟨e4, u4, uc4, G4, U4, X4, FL4, FR4, sc4, sr4, rw4, bd4, ⟨mv4_0, mv4_1, mv4_2, mv4_3, mv4_4, mv4_5⟩, ag4, au4, ax4⟩, hm4⟩ := hq
      obtain ⟨bb4_0, bb4_1, bb4_2, bb4_3, bb4_4, bb4_5, bb4_6, bb4_7, bb4_8, bb4_9, bb4_10, bb4_11⟩ := bd4
      obtain ⟨q4_12, q4_13, q4_10, q4_9, q4_16, q4_19⟩ := sc4
      obtain ⟨w4_36, w4_37, w4_38, w4_41, w4_43, w4_51, w4_53, w4_50, w4_n⟩ := sr4
      obtain ⟨ca4, ra4, lc4, lr4, cu4, ru4⟩ := rw4
      have hk5 := (hS.ok i4 (by omega) (by omega)).r
      unfold c99_61 c210_4
      refine rsl (if_neg (leI_n (li_3000) (hk4) (by omega))) ?_
      refine rsl (gtI_q (w := iI ((kd i4))) (ck_65 (hC.fr FL4)) (q4_13)) ?_
      by_cases c6 : ((kd i4)) = 225
      ·
        refine rsl (cI_e (lk_225 (by omega) ((rfl).trans (congrArg iI (by omega))))) ?_
        refine rsl (if_pos (eqI_p (rfl) (rfl) (by omega))) ?_
        refine rsl (gtI_q (w := iI ((kd i4))) (ck_65 (hC.fr FL4)) (q4_13)) ?_
        refine rsl (cI_e (ok_225 (by omega) ((rfl).trans (congrArg iI (by omega))))) ?_
        refine rsl (vC_e (ck_65 (hC.fr FL4))) ?_
        have hm7 : i4 + 1 < m := hS.more i4 (by omega) (by omega) (by omega)
        refine rsl (cV_e (a63 (by omega) hS (hC.fr FL4) (hTk.fr (WL := W_cp) FL4 (by decide)) (q4_12) (q4_13) (q4_10) (by omega))) ?_
        have hk8 := (hS.ok (i4 + 1) (by omega) (by omega)).r
        refine rsl (vC_e (ck_65 (hC.fr FL4).sI.sI)) ?_
        refine rsr (gtI_q (w := iI 0) (rk_160 (hR.fr FR4)) (w4_41)) ?_
        refine rsr (if_pos (eqI_p (rfl) (li_0) (by omega))) ?_
        refine rsr (gtI_q (w := iI ((kr (kd i4)))) (rk_160 (hR.fr FR4)) (w4_36)) ?_
        refine rsr (if_pos (krI_p (k := 225) (rfl) (li_426) (by omega) (by decide +kernel))) ?_
        refine rsr (vC_e (rk_160 (hR.fr FR4))) ?_
        refine RrV (nx_ok (by omega) hS (hR.fr FR4) (hT.fr FR4 (by decide) (by decide)) (fun i a b => ((Fr.lc FR4 _ (by decide) _)).trans (hW i a b)) (i := i4) (w4_41) (w4_38) (by omega) (by omega)) fun v Ma10 h10 => ?_
        obtain ⟨g10, e10_k0, e10_k1, e10_k2, p10_0⟩ := h10
        have f10 : Fr W_rx Mr Ma10 := Fr.t FR4 (Fr.m g10 (by decide))
        refine rsr (cV_e rfl) ?_
        refine rsr (vC_e (rk_160 (hR.fr f10))) ?_
        refine Rb_VV (hp _ _ (by omega) (by omega) T n m kd pl E tx ua ut mu _ _ G4 U4 Hl X4 (i4 + 1) e4 s u4 uc4 _ hS (hCx.fr (Fr.sI (by decide) (Fr.sI (by decide) FL4)) f10) ⟨(sI_nej (by decide)).trans (sI_eq), sI_eq, (sI_nej (by decide)).trans ((sI_nej (by decide)).trans (q4_10)), (sI_nej (by decide)).trans ((sI_nej (by decide)).trans (q4_9)), (sI_nej (by decide)).trans ((sI_nej (by decide)).trans (q4_16)), (sI_nej (by decide)).trans ((sI_nej (by decide)).trans (q4_19))⟩ ⟨e10_k0, e10_k1, e10_k2, (g10.i _ _ (by decide)).trans (w4_41), (g10.i _ _ (by decide)).trans (w4_43), (g10.i _ _ (by decide)).trans (w4_51), (g10.i _ _ (by decide)).trans (w4_53), (g10.i _ _ (by decide)).trans (w4_50), p10_0⟩ ⟨(ca4.fr (W := W_c0) (Fr.sI (by decide) (Fr.sI (by decide) Fr.r)) (by decide)), (ra4.fr g10 (by decide)), (lc4.fr (W := W_c0) (Fr.sI (by decide) (Fr.sI (by decide) Fr.r)) (by decide)), (lr4.fr g10 (by decide)), (cu4.fr (W := W_c0) (Fr.sI (by decide) (Fr.sI (by decide) Fr.r)) (by decide)), (ru4.fr g10 (by decide))⟩ ⟨by omega, by omega, by omega, by omega, by omega, by omega, by omega, by omega, by omega, by omega, by omega, by omega⟩ (vs2 (adI (rfl) (li_1)) (rfl))) fun v Mx11 w Nx11 hx11 => ?_
        rcases hx11 with ⟨i11, e11, u11, uc11, G11, U11, X11, fl11, fr11, sc11, sr11, rw11, bd11, mv11, ag11, au11, ax11⟩ | ⟨F11, P11, fl11, fr11, tc11, tr11⟩
        ·
          have FL11 : Fr W_cp Mc Mx11 := Fr.t (Fr.sI (by decide) (Fr.sI (by decide) FL4)) fl11
          have FR11 : Fr W_rx Mr Nx11 := Fr.t f10 fr11
          obtain ⟨bb11_0, bb11_1, bb11_2, bb11_3, bb11_4, bb11_5, bb11_6, bb11_7, bb11_8, bb11_9, bb11_10, bb11_11⟩ := bd11
          obtain ⟨q11_12, q11_13, q11_10, q11_9, q11_16, q11_19⟩ := sc11
          obtain ⟨w11_36, w11_37, w11_38, w11_41, w11_43, w11_51, w11_53, w11_50, w11_n⟩ := sr11
          obtain ⟨ca11, ra11, lc11, lr11, cu11, ru11⟩ := rw11
          have hk12 := (hS.ok i11 (by omega) (by omega)).r
          refine rsl (cV_e rfl) ?_
          refine rsr (cV_e rfl) ?_
          refine rsl (vC_e (ck_65 (hC.fr FL11))) ?_
          refine RlI (a87 (by omega) (hC.fr FL11) (q11_9) (rfl) (li_0) (by omega)) fun v Ma14 h14 => ?_
          obtain ⟨r13, rfl, g14, e14_k0, p14_0, p14_1⟩ := h14
          have f14 : Fr W_cp Mc Ma14 := Fr.t FL11 (Fr.m g14 (by decide))
          refine rsl (cI_e rfl) ?_
          refine rsl (if_neg (eqI_n (rfl) (li_3) (by omega))) ?_
          refine rsl (ltI_q (z := (k4 + 1)) (adI (hk4) (li_1))) ?_
          refine rsr (vC_e (rk_160 (hR.fr FR11))) ?_
          refine RrI (a196 (by omega) (hR.fr FR11) (w11_43) ((FR11.i _ _ (by decide)).trans h49) ((FR11.i _ _ (by decide)).trans h48) (li_19) (li_0) (by omega)) fun v Ma16 h16 => ?_
          obtain ⟨r15, rfl, g16, e16_k0, p16_0, p16_1⟩ := h16
          have f16 : Fr W_rx Mr Ma16 := Fr.t FR11 (Fr.m g16 (by decide))
          refine rsr (cI_e rfl) ?_
          exact hgo (m - i11 + 1).toNat _ _ (by omega) (Or.inl ⟨(k4 + 1), i11, rfl, by omega, ⟨(e11 + 1), u11, uc11, (pu G11 e11 [19, 0, -2, 0, ut, mu, 0]), U11, X11, f14, f16, ⟨(g14.i _ _ (by decide)).trans (q11_12), (g14.i _ _ (by decide)).trans (q11_13), (g14.i _ _ (by decide)).trans (q11_10), e14_k0, (g14.i _ _ (by decide)).trans (q11_16), (g14.i _ _ (by decide)).trans (q11_19)⟩, ⟨(g16.i _ _ (by decide)).trans (w11_36), (g16.i _ _ (by decide)).trans (w11_37), (g16.i _ _ (by decide)).trans (w11_38), (g16.i _ _ (by decide)).trans (w11_41), e16_k0, (g16.i _ _ (by decide)).trans (w11_51), (g16.i _ _ (by decide)).trans (w11_53), (g16.i _ _ (by decide)).trans (w11_50), (w11_n.fr g16 (by decide) (by decide))⟩, ⟨(CA1.em ca11 (by omega) p14_1 rfl), (RA1.em ra11 (by omega) p16_1 rfl), (lc11.fr g14 (by decide)), (lr11.fr g16 (by decide)), (cu11.fr g14 (by decide)), (ru11.fr g16 (by decide))⟩, ⟨by omega, by omega, by omega, by omega, by omega, by omega, by omega, by omega, by omega, by omega, by omega, by omega⟩, ⟨by omega, by omega, by omega, by omega, by omega, by omega⟩, (Ag.pu (Ag.t ag4 ag11 (by omega)) (by omega)), (Ag.t au4 au11 (by omega)), (AgL.t ax4 ax11 (by omega))⟩, by omega⟩)
        ·
          have FL11 : Fr W_cp Mc Mx11 := Fr.t (Fr.sI (by decide) (Fr.sI (by decide) FL4)) fl11
          have FR11 : Fr W_rp Mr Nx11 := Fr.t (Fr.m f10 W_rx_p) fr11
          obtain ⟨ti11, tz11, tn11, tu11, t1311, t1011, t1111, t1211, t911, t1611, t1911, tb11⟩ := tc11
          obtain ⟨re11, rn11, ru11, rm11, rt11, u4111, u4211, u4311, u5111, u5311, u4811, u4911, ub11⟩ := tr11
          refine rsl (cV_e rfl) ?_
          refine rsr (cV_e rfl) ?_
          refine rsl (vC_e (ck_65 (hC.fr FL11))) ?_
          refine RlI (y87 (by omega) (hC.fr FL11) (hTk.fr (WL := W_cp) FL11 (by decide)) (t1211) (t1311) (t1011) (t1111) (t911) (t1611) (t1911) (rfl) (li_0) (by omega)) fun v Ma18 h18 => ?_
          obtain ⟨rv17, sz17, sn17, uc17, rfl, g18, e18_sz17, e18_sn17, e18_uc17, e18_k0, e18_k1, e18_k2, e18_k3, p18_0, p18_1, p18_2, p18_3⟩ := h18
          have f18 : Fr W_cp Mc Ma18 := Fr.t FL11 (Fr.m g18 (by decide))
          refine rsl (cI_e rfl) ?_
          refine rsl (if_neg (eqI_n (rfl) (li_3) (by omega))) ?_
          refine rsl (ltI_q (z := (k4 + 1)) (adI (hk4) (li_1))) ?_
          refine rsr (vC_e (rk_160 (hR.fr FR11))) ?_
          refine RrI (x196_s (by omega) (hR.fr FR11) (u4111) (u4211) (u4311) (u5111) (u5311) (u4811) (u4911) (li_19) (li_0) (by omega)) fun v Ma20 h20 => ?_
          obtain ⟨rv19, em19, rfl, g20, e20_em19, e20_k0, e20_k1, e20_k2, e20_k3, e20_k4, p20_0, p20_1⟩ := h20
          have f20 : Fr W_rp Mr Ma20 := Fr.t FR11 (Fr.m g20 (by decide))
          refine rsr (cI_e rfl) ?_
          exact hgo 0 _ _ (by omega) (Or.inr ⟨(k4 + 1), F11, P11, rfl, by omega, f18, f20, ⟨ti11, sz17, sn17, uc17, e18_k0, e18_k1, e18_k2, e18_k3, e18_sz17, e18_sn17, e18_uc17, by omega⟩, ⟨em19, rn11, ru11, rm11, rt11, e20_k0, e20_k1, e20_em19, e20_k2, e20_k3, e20_k4, (g20.i _ _ (by decide)).trans (u4911), by omega⟩, rfl⟩)
      ·
        refine RlI (lv_1 (by omega) (rfl) (by omega)) fun v Ml21 hl21 => ?_
        obtain ⟨rl21, rfl, rfl, nl21, bl21⟩ := hl21
        refine rsl (cI_e rfl) ?_
        refine rsl (if_neg (eqI_n (rfl) (rfl) (by omega))) ?_
        refine rsl (jv_e) ?_
        refine rsr (gtI_q (w := iI 0) (rk_160 (hR.fr FR4)) (w4_41)) ?_
        refine rsr (if_pos (eqI_p (rfl) (li_0) (by omega))) ?_
        refine rsr (gtI_q (w := iI ((kr (kd i4)))) (rk_160 (hR.fr FR4)) (w4_36)) ?_
        refine rsr (if_neg (krI_n (k := 225) (rfl) (li_426) (hS.ok i4 (by omega) (by omega)) (by unfold KdOK sgk; omega) (by decide +kernel) (by omega) (by omega))) ?_
        refine rsr (jv_e) ?_
        exact Rs.ok (Or.inl ⟨i4, e4, u4, uc4, G4, U4, X4, FL4, FR4, ⟨q4_12, q4_13, q4_10, q4_9, q4_16, q4_19⟩, ⟨w4_36, w4_37, w4_38, w4_41, w4_43, w4_51, w4_53, w4_50, w4_n⟩, ⟨ca4, ra4, lc4, lr4, cu4, ru4⟩, ⟨by omega, by omega, by omega, by omega, by omega, by omega, by omega, by omega, by omega, by omega, by omega, by omega⟩, ⟨by omega, by omega, by omega, by omega, by omega, by omega⟩, ag4, au4, ax4⟩)
    ·
      obtain ⟨k4, F4, P4, hk4, ⟨hka4, hkb4⟩, FL4, FR4, tc4, tr4, hm4⟩ := hq
      obtain ⟨ti4, tz4, tn4, tu4, t134, t104, t114, t124, t94, t164, t194, tb4⟩ := tc4
      obtain ⟨re4, rn4, ru4, rm4, rt4, u414, u424, u434, u514, u534, u484, u494, ub4⟩ := tr4
      unfold c99_61 c210_4
      refine rsl (if_neg (leI_n (li_3000) (hk4) (by omega))) ?_
      refine rsl (gtI_q (w := iI 2) (ck_65 (hC.fr FL4)) (t134)) ?_
      refine rsl (cI_e (y102 (by omega) (rfl))) ?_
      refine rsl (if_neg (eqI_n (rfl) (rfl) (by omega))) ?_
      refine rsl (jv_e) ?_
      refine rsr (gtI_q (w := iI F4) (rk_160 (hR.fr FR4)) (u414)) ?_
      refine rsr (if_neg (eqI_n (rfl) (li_0) (by omega))) ?_
      refine rsr (jv_e) ?_
      exact Rs.ok (Or.inr ⟨F4, P4, FL4, FR4, ⟨ti4, tz4, tn4, tu4, t134, t104, t114, t124, t94, t164, t194, by omega⟩, ⟨re4, rn4, ru4, rm4, rt4, u414, u424, u434, u514, u534, u484, u494, by omega⟩⟩)
  ·
    have FL2 : Fr W_cp Mc Mx2 := Fr.t Fr.r fl2
    have FR2 : Fr W_rp Mr Nx2 := Fr.t (Fr.m Fr.r W_rx_p) fr2
    obtain ⟨ti2, tz2, tn2, tu2, t132, t102, t112, t122, t92, t162, t192, tb2⟩ := tc2
    obtain ⟨re2, rn2, ru2, rm2, rt2, u412, u422, u432, u512, u532, u482, u492, ub2⟩ := tr2
    refine rsl (cV_e rfl) ?_
    refine rsr (cV_e rfl) ?_
    refine rsl (jn_v) ?_
    refine rsl (jn_v) ?_
    refine rsl (lp_e) ?_
    unfold c99_61
    refine rsl (if_neg (leI_n (li_3000) (li_0) (by omega))) ?_
    refine rsl (gtI_q (w := iI 2) (ck_65 (hC.fr FL2)) (t132)) ?_
    refine rsl (cI_e (y102 (by omega) (rfl))) ?_
    refine rsl (if_neg (eqI_n (rfl) (rfl) (by omega))) ?_
    refine rsl (jv_e) ?_
    refine rsr (jn_v) ?_
    refine rsr (lp_e) ?_
    unfold c210_4
    refine rsr (gtI_q (w := iI F2) (rk_160 (hR.fr FR2)) (u412)) ?_
    refine rsr (if_neg (eqI_n (rfl) (li_0) (by omega))) ?_
    refine rsr (jv_e) ?_
    exact Rs.ok (Or.inr ⟨F2, P2, FL2, FR2, ⟨ti2, tz2, tn2, tu2, t132, t102, t112, t122, t92, t162, t192, by omega⟩, ⟨re2, rn2, ru2, rm2, rt2, u412, u422, u432, u512, u532, u482, u492, by omega⟩⟩)
theorem p_0 {D : Nat} {dp : Int} (hD : 20 ≤ D) (hp : Pair D 99 [1] 210 15 dp) : Pair (D + 1) 99 [0] 211 14 dp := by
  intro d d2 hd hd2 T n m kd pl E tx ua ut mu Mc Mr G U Hl X i e s u uc vs hS hx hsc hsr hrw hbd hvs
  subst hvs
  obtain ⟨d, rfl⟩ : ∃ e, d = e + 1 := ⟨d - 1, by omega⟩
  obtain ⟨d2, rfl⟩ : ∃ e, d2 = e + 1 := ⟨d2 - 1, by omega⟩
  show Rs (runX (d + 1) 99 [va_rf (some 65), .int (iI 0), .int (iI dp)] Mc) (runX (d2 + 1) 211 [va_rf (some 160)] Mr) _
  rw [r99]; unfold b99; rw [aR_e, aI_e, aI_e, aZ_e]; unfold c99; rw [r211]; unfold b211; rw [aR_e, aZ_e]; unfold c211
  have hCx := hx
  obtain ⟨hC, hR, hTk, hT, hW, ⟨hu1, hu2, hu3, hu4⟩, h49, h48, ⟨hb1, hb2, hb3, hb4⟩⟩ := hx
  obtain ⟨bb_0, bb_1, bb_2, bb_3, bb_4, bb_5, bb_6, bb_7, bb_8, bb_9, bb_10, bb_11⟩ := hbd
  obtain ⟨qa_12, qa_13, qa_10, qa_9, qa_16, qa_19⟩ := hsc
  obtain ⟨wa_36, wa_37, wa_38, wa_41, wa_43, wa_51, wa_53, wa_50, wa_n⟩ := hsr
  obtain ⟨caa, raa, lca, lra, cua, rua⟩ := hrw
  have hk1 := (hS.ok i (by omega) (by omega)).r
  refine rsl (if_pos (leI_p (rfl) (li_5) (by omega))) ?_
  refine rsl (jn_v) ?_
  refine rsl (if_neg (eqI_n (rfl) (li_2) (by omega))) ?_
  refine rsl (jv_e) ?_
  refine rsl (vC_e (ck_65 hC)) ?_
  refine rsr (vC_e (rk_160 hR)) ?_
  refine Rb_VV (hp _ _ (by omega) (by omega) T n m kd pl E tx ua ut mu _ _ G U Hl X i e s u uc _ hS (hCx.fr Fr.r Fr.r) ⟨qa_12, qa_13, qa_10, qa_9, qa_16, qa_19⟩ ⟨wa_36, wa_37, wa_38, wa_41, wa_43, wa_51, wa_53, wa_50, wa_n⟩ ⟨caa, raa, lca, lra, cua, rua⟩ ⟨by omega, by omega, by omega, by omega, by omega, by omega, by omega, by omega, by omega, by omega, by omega, by omega⟩ (vs2 (adI (rfl) (li_1)) (rfl))) fun v Mx2 w Nx2 hx2 => ?_
  rcases hx2 with ⟨i2, e2, u2, uc2, G2, U2, X2, fl2, fr2, sc2, sr2, rw2, bd2, mv2, ag2, au2, ax2⟩ | ⟨F2, P2, fl2, fr2, tc2, tr2⟩
  ·
    have FL2 : Fr W_cp Mc Mx2 := Fr.t Fr.r fl2
    have FR2 : Fr W_rx Mr Nx2 := Fr.t Fr.r fr2
    obtain ⟨bb2_0, bb2_1, bb2_2, bb2_3, bb2_4, bb2_5, bb2_6, bb2_7, bb2_8, bb2_9, bb2_10, bb2_11⟩ := bd2
    obtain ⟨q2_12, q2_13, q2_10, q2_9, q2_16, q2_19⟩ := sc2
    obtain ⟨w2_36, w2_37, w2_38, w2_41, w2_43, w2_51, w2_53, w2_50, w2_n⟩ := sr2
    obtain ⟨ca2, ra2, lc2, lr2, cu2, ru2⟩ := rw2
    have hk3 := (hS.ok i2 (by omega) (by omega)).r
    refine rsl (cV_e rfl) ?_
    refine rsr (cV_e rfl) ?_
    refine rsl (jn_v) ?_
    refine rsl (jn_v) ?_
    refine rsr (jn_v) ?_
    refine Rb_lp (fun m2 q t => (∃ (k i2 : Int), q.1 = iI k ∧ (0 ≤ k ∧ k ≤ i2) ∧ PK m kd pl E tx Mc Mr G U Hl X i e s u uc dp q.2 t i2 ∧ (m2 : Int) = m - i2 + 1) ∨ ∃ (k F P : Int), q.1 = iI k ∧ (0 ≤ k ∧ k ≤ 1500) ∧ Fr W_cp Mc q.2 ∧ Fr W_rp Mr t ∧ FTc m F P q.2 ∧ FTr (2000 - 30 * dp - 14) F P t ∧ m2 = 0) (fun m2 q t gl gr hq hgo => ?_) (m - i2 + 1).toNat _ _ _ _ (by omega) (by omega) (Or.inl ⟨0, i2, li_0, by omega, ⟨e2, u2, uc2, G2, U2, X2, FL2, FR2, ⟨q2_12, q2_13, q2_10, q2_9, q2_16, q2_19⟩, ⟨w2_36, w2_37, w2_38, w2_41, w2_43, w2_51, w2_53, w2_50, w2_n⟩, ⟨ca2, ra2, lc2, lr2, cu2, ru2⟩, ⟨by omega, by omega, by omega, by omega, by omega, by omega, by omega, by omega, by omega, by omega, by omega, by omega⟩, ⟨by omega, by omega, by omega, by omega, by omega, by omega⟩, (Ag.t Ag.r ag2 (by omega)), (Ag.t Ag.r au2 (by omega)), (AgL.t AgL.r ax2 (by omega))⟩, by omega⟩)
    obtain ⟨qk4, qm4⟩ := q
    dsimp only at hq
    try dsimp only
    rcases hq with hq | hq
    ·
      obtain ⟨k4, i4, hk4, ⟨hka4, hkb4⟩, ⟨e4, u4, uc4, G4, U4, X4, FL4, FR4, sc4, sr4, rw4, bd4, ⟨mv4_0, mv4_1, mv4_2, mv4_3, mv4_4, mv4_5⟩, ag4, au4, ax4⟩, hm4⟩ := hq
      obtain ⟨bb4_0, bb4_1, bb4_2, bb4_3, bb4_4, bb4_5, bb4_6, bb4_7, bb4_8, bb4_9, bb4_10, bb4_11⟩ := bd4
      obtain ⟨q4_12, q4_13, q4_10, q4_9, q4_16, q4_19⟩ := sc4
      obtain ⟨w4_36, w4_37, w4_38, w4_41, w4_43, w4_51, w4_53, w4_50, w4_n⟩ := sr4
      obtain ⟨ca4, ra4, lc4, lr4, cu4, ru4⟩ := rw4
      have hk5 := (hS.ok i4 (by omega) (by omega)).r
      unfold c99_61 c211_4
      refine rsl (if_neg (leI_n (li_3000) (hk4) (by omega))) ?_
      refine rsl (gtI_q (w := iI ((kd i4))) (ck_65 (hC.fr FL4)) (q4_13)) ?_
      by_cases c6 : ((kd i4)) = 226
      ·
        refine rsl (cI_e (lk_226 (by omega) ((rfl).trans (congrArg iI (by omega))))) ?_
        refine rsl (if_pos (eqI_p (rfl) (rfl) (by omega))) ?_
        refine rsl (gtI_q (w := iI ((kd i4))) (ck_65 (hC.fr FL4)) (q4_13)) ?_
        refine rsl (cI_e (ok_226 (by omega) ((rfl).trans (congrArg iI (by omega))))) ?_
        refine rsl (vC_e (ck_65 (hC.fr FL4))) ?_
        have hm7 : i4 + 1 < m := hS.more i4 (by omega) (by omega) (by omega)
        refine rsl (cV_e (a63 (by omega) hS (hC.fr FL4) (hTk.fr (WL := W_cp) FL4 (by decide)) (q4_12) (q4_13) (q4_10) (by omega))) ?_
        have hk8 := (hS.ok (i4 + 1) (by omega) (by omega)).r
        refine rsl (vC_e (ck_65 (hC.fr FL4).sI.sI)) ?_
        refine rsr (gtI_q (w := iI 0) (rk_160 (hR.fr FR4)) (w4_41)) ?_
        refine rsr (if_pos (eqI_p (rfl) (li_0) (by omega))) ?_
        refine rsr (gtI_q (w := iI ((kr (kd i4)))) (rk_160 (hR.fr FR4)) (w4_36)) ?_
        refine rsr (if_pos (krI_p (k := 226) (rfl) (li_427) (by omega) (by decide +kernel))) ?_
        refine rsr (vC_e (rk_160 (hR.fr FR4))) ?_
        refine RrV (nx_ok (by omega) hS (hR.fr FR4) (hT.fr FR4 (by decide) (by decide)) (fun i a b => ((Fr.lc FR4 _ (by decide) _)).trans (hW i a b)) (i := i4) (w4_41) (w4_38) (by omega) (by omega)) fun v Ma10 h10 => ?_
        obtain ⟨g10, e10_k0, e10_k1, e10_k2, p10_0⟩ := h10
        have f10 : Fr W_rx Mr Ma10 := Fr.t FR4 (Fr.m g10 (by decide))
        refine rsr (cV_e rfl) ?_
        refine rsr (vC_e (rk_160 (hR.fr f10))) ?_
        refine Rb_VV (hp _ _ (by omega) (by omega) T n m kd pl E tx ua ut mu _ _ G4 U4 Hl X4 (i4 + 1) e4 s u4 uc4 _ hS (hCx.fr (Fr.sI (by decide) (Fr.sI (by decide) FL4)) f10) ⟨(sI_nej (by decide)).trans (sI_eq), sI_eq, (sI_nej (by decide)).trans ((sI_nej (by decide)).trans (q4_10)), (sI_nej (by decide)).trans ((sI_nej (by decide)).trans (q4_9)), (sI_nej (by decide)).trans ((sI_nej (by decide)).trans (q4_16)), (sI_nej (by decide)).trans ((sI_nej (by decide)).trans (q4_19))⟩ ⟨e10_k0, e10_k1, e10_k2, (g10.i _ _ (by decide)).trans (w4_41), (g10.i _ _ (by decide)).trans (w4_43), (g10.i _ _ (by decide)).trans (w4_51), (g10.i _ _ (by decide)).trans (w4_53), (g10.i _ _ (by decide)).trans (w4_50), p10_0⟩ ⟨(ca4.fr (W := W_c0) (Fr.sI (by decide) (Fr.sI (by decide) Fr.r)) (by decide)), (ra4.fr g10 (by decide)), (lc4.fr (W := W_c0) (Fr.sI (by decide) (Fr.sI (by decide) Fr.r)) (by decide)), (lr4.fr g10 (by decide)), (cu4.fr (W := W_c0) (Fr.sI (by decide) (Fr.sI (by decide) Fr.r)) (by decide)), (ru4.fr g10 (by decide))⟩ ⟨by omega, by omega, by omega, by omega, by omega, by omega, by omega, by omega, by omega, by omega, by omega, by omega⟩ (vs2 (adI (rfl) (li_1)) (rfl))) fun v Mx11 w Nx11 hx11 => ?_
        rcases hx11 with ⟨i11, e11, u11, uc11, G11, U11, X11, fl11, fr11, sc11, sr11, rw11, bd11, mv11, ag11, au11, ax11⟩ | ⟨F11, P11, fl11, fr11, tc11, tr11⟩
        ·
          have FL11 : Fr W_cp Mc Mx11 := Fr.t (Fr.sI (by decide) (Fr.sI (by decide) FL4)) fl11
          have FR11 : Fr W_rx Mr Nx11 := Fr.t f10 fr11
          obtain ⟨bb11_0, bb11_1, bb11_2, bb11_3, bb11_4, bb11_5, bb11_6, bb11_7, bb11_8, bb11_9, bb11_10, bb11_11⟩ := bd11
          obtain ⟨q11_12, q11_13, q11_10, q11_9, q11_16, q11_19⟩ := sc11
          obtain ⟨w11_36, w11_37, w11_38, w11_41, w11_43, w11_51, w11_53, w11_50, w11_n⟩ := sr11
          obtain ⟨ca11, ra11, lc11, lr11, cu11, ru11⟩ := rw11
          have hk12 := (hS.ok i11 (by omega) (by omega)).r
          refine rsl (cV_e rfl) ?_
          refine rsr (cV_e rfl) ?_
          refine rsl (vC_e (ck_65 (hC.fr FL11))) ?_
          refine RlI (a87 (by omega) (hC.fr FL11) (q11_9) (rfl) (li_0) (by omega)) fun v Ma14 h14 => ?_
          obtain ⟨r13, rfl, g14, e14_k0, p14_0, p14_1⟩ := h14
          have f14 : Fr W_cp Mc Ma14 := Fr.t FL11 (Fr.m g14 (by decide))
          refine rsl (cI_e rfl) ?_
          refine rsl (if_neg (eqI_n (rfl) (li_3) (by omega))) ?_
          refine rsl (ltI_q (z := (k4 + 1)) (adI (hk4) (li_1))) ?_
          refine rsr (vC_e (rk_160 (hR.fr FR11))) ?_
          refine RrI (a196 (by omega) (hR.fr FR11) (w11_43) ((FR11.i _ _ (by decide)).trans h49) ((FR11.i _ _ (by decide)).trans h48) (li_20) (li_0) (by omega)) fun v Ma16 h16 => ?_
          obtain ⟨r15, rfl, g16, e16_k0, p16_0, p16_1⟩ := h16
          have f16 : Fr W_rx Mr Ma16 := Fr.t FR11 (Fr.m g16 (by decide))
          refine rsr (cI_e rfl) ?_
          exact hgo (m - i11 + 1).toNat _ _ (by omega) (Or.inl ⟨(k4 + 1), i11, rfl, by omega, ⟨(e11 + 1), u11, uc11, (pu G11 e11 [20, 0, -2, 0, ut, mu, 0]), U11, X11, f14, f16, ⟨(g14.i _ _ (by decide)).trans (q11_12), (g14.i _ _ (by decide)).trans (q11_13), (g14.i _ _ (by decide)).trans (q11_10), e14_k0, (g14.i _ _ (by decide)).trans (q11_16), (g14.i _ _ (by decide)).trans (q11_19)⟩, ⟨(g16.i _ _ (by decide)).trans (w11_36), (g16.i _ _ (by decide)).trans (w11_37), (g16.i _ _ (by decide)).trans (w11_38), (g16.i _ _ (by decide)).trans (w11_41), e16_k0, (g16.i _ _ (by decide)).trans (w11_51), (g16.i _ _ (by decide)).trans (w11_53), (g16.i _ _ (by decide)).trans (w11_50), (w11_n.fr g16 (by decide) (by decide))⟩, ⟨(CA1.em ca11 (by omega) p14_1 rfl), (RA1.em ra11 (by omega) p16_1 rfl), (lc11.fr g14 (by decide)), (lr11.fr g16 (by decide)), (cu11.fr g14 (by decide)), (ru11.fr g16 (by decide))⟩, ⟨by omega, by omega, by omega, by omega, by omega, by omega, by omega, by omega, by omega, by omega, by omega, by omega⟩, ⟨by omega, by omega, by omega, by omega, by omega, by omega⟩, (Ag.pu (Ag.t ag4 ag11 (by omega)) (by omega)), (Ag.t au4 au11 (by omega)), (AgL.t ax4 ax11 (by omega))⟩, by omega⟩)
        ·
          have FL11 : Fr W_cp Mc Mx11 := Fr.t (Fr.sI (by decide) (Fr.sI (by decide) FL4)) fl11
          have FR11 : Fr W_rp Mr Nx11 := Fr.t (Fr.m f10 W_rx_p) fr11
          obtain ⟨ti11, tz11, tn11, tu11, t1311, t1011, t1111, t1211, t911, t1611, t1911, tb11⟩ := tc11
          obtain ⟨re11, rn11, ru11, rm11, rt11, u4111, u4211, u4311, u5111, u5311, u4811, u4911, ub11⟩ := tr11
          refine rsl (cV_e rfl) ?_
          refine rsr (cV_e rfl) ?_
          refine rsl (vC_e (ck_65 (hC.fr FL11))) ?_
          refine RlI (y87 (by omega) (hC.fr FL11) (hTk.fr (WL := W_cp) FL11 (by decide)) (t1211) (t1311) (t1011) (t1111) (t911) (t1611) (t1911) (rfl) (li_0) (by omega)) fun v Ma18 h18 => ?_
          obtain ⟨rv17, sz17, sn17, uc17, rfl, g18, e18_sz17, e18_sn17, e18_uc17, e18_k0, e18_k1, e18_k2, e18_k3, p18_0, p18_1, p18_2, p18_3⟩ := h18
          have f18 : Fr W_cp Mc Ma18 := Fr.t FL11 (Fr.m g18 (by decide))
          refine rsl (cI_e rfl) ?_
          refine rsl (if_neg (eqI_n (rfl) (li_3) (by omega))) ?_
          refine rsl (ltI_q (z := (k4 + 1)) (adI (hk4) (li_1))) ?_
          refine rsr (vC_e (rk_160 (hR.fr FR11))) ?_
          refine RrI (x196_s (by omega) (hR.fr FR11) (u4111) (u4211) (u4311) (u5111) (u5311) (u4811) (u4911) (li_20) (li_0) (by omega)) fun v Ma20 h20 => ?_
          obtain ⟨rv19, em19, rfl, g20, e20_em19, e20_k0, e20_k1, e20_k2, e20_k3, e20_k4, p20_0, p20_1⟩ := h20
          have f20 : Fr W_rp Mr Ma20 := Fr.t FR11 (Fr.m g20 (by decide))
          refine rsr (cI_e rfl) ?_
          exact hgo 0 _ _ (by omega) (Or.inr ⟨(k4 + 1), F11, P11, rfl, by omega, f18, f20, ⟨ti11, sz17, sn17, uc17, e18_k0, e18_k1, e18_k2, e18_k3, e18_sz17, e18_sn17, e18_uc17, by omega⟩, ⟨em19, rn11, ru11, rm11, rt11, e20_k0, e20_k1, e20_em19, e20_k2, e20_k3, e20_k4, (g20.i _ _ (by decide)).trans (u4911), by omega⟩, rfl⟩)
      ·
        refine RlI (lv_0 (by omega) (rfl) (by omega)) fun v Ml21 hl21 => ?_
        obtain ⟨rl21, rfl, rfl, nl21, bl21⟩ := hl21
        refine rsl (cI_e rfl) ?_
        refine rsl (if_neg (eqI_n (rfl) (rfl) (by omega))) ?_
        refine rsl (jv_e) ?_
        refine rsr (gtI_q (w := iI 0) (rk_160 (hR.fr FR4)) (w4_41)) ?_
        refine rsr (if_pos (eqI_p (rfl) (li_0) (by omega))) ?_
        refine rsr (gtI_q (w := iI ((kr (kd i4)))) (rk_160 (hR.fr FR4)) (w4_36)) ?_
        refine rsr (if_neg (krI_n (k := 226) (rfl) (li_427) (hS.ok i4 (by omega) (by omega)) (by unfold KdOK sgk; omega) (by decide +kernel) (by omega) (by omega))) ?_
        refine rsr (jv_e) ?_
        exact Rs.ok (Or.inl ⟨i4, e4, u4, uc4, G4, U4, X4, FL4, FR4, ⟨q4_12, q4_13, q4_10, q4_9, q4_16, q4_19⟩, ⟨w4_36, w4_37, w4_38, w4_41, w4_43, w4_51, w4_53, w4_50, w4_n⟩, ⟨ca4, ra4, lc4, lr4, cu4, ru4⟩, ⟨by omega, by omega, by omega, by omega, by omega, by omega, by omega, by omega, by omega, by omega, by omega, by omega⟩, ⟨by omega, by omega, by omega, by omega, by omega, by omega⟩, ag4, au4, ax4⟩)
    ·
      obtain ⟨k4, F4, P4, hk4, ⟨hka4, hkb4⟩, FL4, FR4, tc4, tr4, hm4⟩ := hq
      obtain ⟨ti4, tz4, tn4, tu4, t134, t104, t114, t124, t94, t164, t194, tb4⟩ := tc4
      obtain ⟨re4, rn4, ru4, rm4, rt4, u414, u424, u434, u514, u534, u484, u494, ub4⟩ := tr4
      unfold c99_61 c211_4
      refine rsl (if_neg (leI_n (li_3000) (hk4) (by omega))) ?_
      refine rsl (gtI_q (w := iI 2) (ck_65 (hC.fr FL4)) (t134)) ?_
      refine rsl (cI_e (y102 (by omega) (rfl))) ?_
      refine rsl (if_neg (eqI_n (rfl) (rfl) (by omega))) ?_
      refine rsl (jv_e) ?_
      refine rsr (gtI_q (w := iI F4) (rk_160 (hR.fr FR4)) (u414)) ?_
      refine rsr (if_neg (eqI_n (rfl) (li_0) (by omega))) ?_
      refine rsr (jv_e) ?_
      exact Rs.ok (Or.inr ⟨F4, P4, FL4, FR4, ⟨ti4, tz4, tn4, tu4, t134, t104, t114, t124, t94, t164, t194, by omega⟩, ⟨re4, rn4, ru4, rm4, rt4, u414, u424, u434, u514, u534, u484, u494, by omega⟩⟩)
  ·
    have FL2 : Fr W_cp Mc Mx2 := Fr.t Fr.r fl2
    have FR2 : Fr W_rp Mr Nx2 := Fr.t (Fr.m Fr.r W_rx_p) fr2
    obtain ⟨ti2, tz2, tn2, tu2, t132, t102, t112, t122, t92, t162, t192, tb2⟩ := tc2
    obtain ⟨re2, rn2, ru2, rm2, rt2, u412, u422, u432, u512, u532, u482, u492, ub2⟩ := tr2
    refine rsl (cV_e rfl) ?_
    refine rsr (cV_e rfl) ?_
    refine rsl (jn_v) ?_
    refine rsl (jn_v) ?_
    refine rsl (lp_e) ?_
    unfold c99_61
    refine rsl (if_neg (leI_n (li_3000) (li_0) (by omega))) ?_
    refine rsl (gtI_q (w := iI 2) (ck_65 (hC.fr FL2)) (t132)) ?_
    refine rsl (cI_e (y102 (by omega) (rfl))) ?_
    refine rsl (if_neg (eqI_n (rfl) (rfl) (by omega))) ?_
    refine rsl (jv_e) ?_
    refine rsr (jn_v) ?_
    refine rsr (lp_e) ?_
    unfold c211_4
    refine rsr (gtI_q (w := iI F2) (rk_160 (hR.fr FR2)) (u412)) ?_
    refine rsr (if_neg (eqI_n (rfl) (li_0) (by omega))) ?_
    refine rsr (jv_e) ?_
    exact Rs.ok (Or.inr ⟨F2, P2, FL2, FR2, ⟨ti2, tz2, tn2, tu2, t132, t102, t112, t122, t92, t162, t192, by omega⟩, ⟨re2, rn2, ru2, rm2, rt2, u412, u422, u432, u512, u532, u482, u492, by omega⟩⟩)
