theorem p_f {D : Nat} {dp : Int} (hD : 20 ≤ D) (hpN : PairK 3 D 101 [] 205 22 dp) (hF : dp < 20 → Pair D 100 [] 206 20 (dp + 1)) (hE : dp < 20 → Pair D 99 [0] 211 14 (dp + 1)) : Pair (D + 1) 100 [] 206 20 dp := by
  intro d d2 hd hd2 T n m kd pl E tx ua ut mu Mc Mr G U Hl X i e s u uc vs hS hx hsc hsr hrw hbd hvs
  subst hvs
  obtain ⟨d, rfl⟩ : ∃ e, d = e + 1 := ⟨d - 1, by omega⟩
  obtain ⟨d2, rfl⟩ : ∃ e, d2 = e + 1 := ⟨d2 - 1, by omega⟩
  show Rs (runX (d + 1) 100 [va_rf (some 65), .int (iI dp)] Mc) (runX (d2 + 1) 206 [va_rf (some 160)] Mr) _
  rw [r100]; unfold b100; rw [aR_e, aI_e, aZ_e]; unfold c100; rw [r206]; unfold b206; rw [aR_e, aZ_e]; unfold c206
  have hCx := hx
  obtain ⟨hC, hR, hTk, hT, hW, ⟨hu1, hu2, hu3, hu4⟩, h49, h48, ⟨hb1, hb2, hb3, hb4⟩⟩ := hx
  obtain ⟨bb_0, bb_1, bb_2, bb_3, bb_4, bb_5, bb_6, bb_7, bb_8, bb_9, bb_10, bb_11⟩ := hbd
  obtain ⟨qa_12, qa_13, qa_10, qa_9, qa_16, qa_19⟩ := hsc
  obtain ⟨wa_36, wa_37, wa_38, wa_41, wa_43, wa_51, wa_53, wa_50, wa_n⟩ := hsr
  obtain ⟨caa, raa, lca, lra, cua, rua⟩ := hrw
  have hk1 := (hS.ok i (by omega) (by omega)).r
  refine rsl (gtI_q (w := iI ((kd i))) (ck_65 hC) (qa_13)) ?_
  refine rsl (jn_v) ?_
  refine rsl (swI_c) ?_
  by_cases c2 : ((kd i)) = 3
  · refine rsl (if_pos (eqI_p (rfl) (li_3) (by omega))) ?_
    refine rsl (vC_e (ck_65 hC)) ?_
    refine rsr (gtI_q (w := iI 0) (rk_160 hR) (wa_41)) ?_
    refine rsr (jn_v) ?_
    refine rsr (if_pos (eqI_p (rfl) (li_0) (by omega))) ?_
    refine rsr (gtI_q (w := iI ((kr (kd i)))) (rk_160 hR) (wa_36)) ?_
    refine rsr (jn_v) ?_
    refine rsr (jn_v) ?_
    refine rsr (if_neg (krI_n (k := 4) (rfl) (li_2) (hS.ok i (by omega) (by omega)) (by unfold KdOK sgk; omega) (by decide +kernel) (by omega) (by omega))) ?_
    refine rsr (gtI_q (w := iI ((kr (kd i)))) (rk_160 hR) (wa_36)) ?_
    refine rsr (if_neg (krI_n (k := 45) (rfl) (li_45) (hS.ok i (by omega) (by omega)) (by unfold KdOK sgk; omega) (by decide +kernel) (by omega) (by omega))) ?_
    refine rsr (gtI_q (w := iI ((kr (kd i)))) (rk_160 hR) (wa_36)) ?_
    refine rsr (if_neg (krI_n (k := 224) (rfl) (li_425) (hS.ok i (by omega) (by omega)) (by unfold KdOK sgk; omega) (by decide +kernel) (by omega) (by omega))) ?_
    refine rsr (gtI_q (w := iI ((kr (kd i)))) (rk_160 hR) (wa_36)) ?_
    refine rsr (if_neg (krI_n (k := 40) (rfl) (li_40) (hS.ok i (by omega) (by omega)) (by unfold KdOK sgk; omega) (by decide +kernel) (by omega) (by omega))) ?_
    refine rsr (gtI_q (w := iI ((kr (kd i)))) (rk_160 hR) (wa_36)) ?_
    refine rsr (if_pos (krI_p (k := 3) (rfl) (li_1) (by omega) (by decide +kernel))) ?_
    refine rsr (jv_e) ?_
    refine rsr (jv_e) ?_
    refine rsr (vC_e (rk_160 hR)) ?_
    refine rsr (cI_e (ar193_p (by omega) hS hR (wa_36) (wa_37) (wa_41) (li_1) (by omega))) ?_
    refine rsr (if_neg (eqI_n (rfl) (li_0) (by omega))) ?_
    refine rsr (gtI_q (w := iI ((kr (kd i)))) (rk_160 hR) (wa_36)) ?_
    refine rsr (jn_v) ?_
    refine rsr (if_neg (krI_n (k := 4) (rfl) (li_2) (hS.ok i (by omega) (by omega)) (by unfold KdOK sgk; omega) (by decide +kernel) (by omega) (by omega))) ?_
    refine rsr (if_pos (krI_p (k := 3) (rfl) (li_1) (by omega) (by decide +kernel))) ?_
    refine rsr (vC_e (rk_160 hR)) ?_
    refine Rb_VV (hpN _ _ (by omega) (by omega) T n m kd pl E tx ua ut mu _ _ G U Hl X i e s u uc _ hS (hCx.fr Fr.r Fr.r) ⟨qa_12, qa_13, qa_10, qa_9, qa_16, qa_19⟩ ⟨wa_36, wa_37, wa_38, wa_41, wa_43, wa_51, wa_53, wa_50, wa_n⟩ ⟨caa, raa, lca, lra, cua, rua⟩ ⟨by omega, by omega, by omega, by omega, by omega, by omega, by omega, by omega, by omega, by omega, by omega, by omega⟩ (by omega) (vs1 (rfl))) fun v Mx3 w Nx3 hx3 => ?_
    rcases hx3 with ⟨i3, e3, u3, uc3, G3, U3, X3, fl3, fr3, sc3, sr3, rw3, bd3, mv3, ag3, au3, ax3⟩ | ⟨F3, P3, fl3, fr3, tc3, tr3⟩
    ·
      have FL3 : Fr W_cp Mc Mx3 := Fr.t Fr.r fl3
      have FR3 : Fr W_rx Mr Nx3 := Fr.t Fr.r fr3
      obtain ⟨bb3_0, bb3_1, bb3_2, bb3_3, bb3_4, bb3_5, bb3_6, bb3_7, bb3_8, bb3_9, bb3_10, bb3_11⟩ := bd3
      obtain ⟨q3_12, q3_13, q3_10, q3_9, q3_16, q3_19⟩ := sc3
      obtain ⟨w3_36, w3_37, w3_38, w3_41, w3_43, w3_51, w3_53, w3_50, w3_n⟩ := sr3
      obtain ⟨ca3, ra3, lc3, lr3, cu3, ru3⟩ := rw3
      have hk4 := (hS.ok i3 (by omega) (by omega)).r
      refine rsl (cV_e rfl) ?_
      refine rsr (cV_e rfl) ?_
      refine rsl (jv_e) ?_
      refine rsr (jv_e) ?_
      exact Rs.ok (Or.inl ⟨i3, e3, u3, uc3, G3, U3, X3, FL3, FR3, ⟨q3_12, q3_13, q3_10, q3_9, q3_16, q3_19⟩, ⟨w3_36, w3_37, w3_38, w3_41, w3_43, w3_51, w3_53, w3_50, w3_n⟩, ⟨ca3, ra3, lc3, lr3, cu3, ru3⟩, ⟨by omega, by omega, by omega, by omega, by omega, by omega, by omega, by omega, by omega, by omega, by omega, by omega⟩, ⟨by omega, by omega, by omega, by omega, by omega, by omega⟩, (Ag.t Ag.r ag3 (by omega)), (Ag.t Ag.r au3 (by omega)), (AgL.t AgL.r ax3 (by omega))⟩)
    ·
      have FL3 : Fr W_cp Mc Mx3 := Fr.t Fr.r fl3
      have FR3 : Fr W_rp Mr Nx3 := Fr.t (Fr.m Fr.r W_rx_p) fr3
      obtain ⟨ti3, tz3, tn3, tu3, t133, t103, t113, t123, t93, t163, t193, tb3⟩ := tc3
      obtain ⟨re3, rn3, ru3, rm3, rt3, u413, u423, u433, u513, u533, u483, u493, ub3⟩ := tr3
      refine rsl (cV_e rfl) ?_
      refine rsr (cV_e rfl) ?_
      refine rsl (jv_e) ?_
      refine rsr (jv_e) ?_
      exact Rs.ok (Or.inr ⟨F3, P3, FL3, FR3, ⟨ti3, tz3, tn3, tu3, t133, t103, t113, t123, t93, t163, t193, by omega⟩, ⟨re3, rn3, ru3, rm3, rt3, u413, u423, u433, u513, u533, u483, u493, by omega⟩⟩)
  refine rsl (if_neg (eqI_n (rfl) (li_3) (by omega))) ?_
  refine rsl (swI_c) ?_
  by_cases c5 : ((kd i)) = 4
  · refine rsl (if_pos (eqI_p (rfl) (li_4) (by omega))) ?_
    refine rsl (vC_e (ck_65 hC)) ?_
    refine rsl (cL_e (a65 (by omega) hS hC (hTk.fr (WL := W_cp) Fr.r (by decide)) (qa_12) (qa_13) (qa_10) (by omega))) ?_
    refine rsl (vC_e (ck_65 hC)) ?_
    obtain ⟨nz6, hz6, hza6, hzb6⟩ := hS.nr i (by omega) (by omega) (by omega)
    refine RlI (a87 (by omega) hC (qa_9) (li_0) (hz6) (by omega)) fun v Ma8 h8 => ?_
    obtain ⟨r7, rfl, g8, e8_k0, p8_0, p8_1⟩ := h8
    have f8 : Fr W_cp Mc Ma8 := Fr.t Fr.r (Fr.m g8 (by decide))
    refine rsl (cI_e rfl) ?_
    refine rsl (vC_e (ck_65 (hC.fr f8))) ?_
    have hm9 : i + 1 < m := hS.more i (by omega) (by omega) (by omega)
    refine rsl (cV_e (a63q (by omega) hS (hC.fr f8) (hTk.fr (WL := W_cp) f8 (by decide)) ((g8.i _ _ (by decide)).trans (qa_12)) ((g8.i _ _ (by decide)).trans (qa_13)) ((g8.i _ _ (by decide)).trans (qa_10)) (i2 := (i + 1)) (by omega) (by omega))) ?_
    have hk10 := (hS.ok (i + 1) (by omega) (by omega)).r
    refine rsl (jv_e) ?_
    refine rsr (gtI_q (w := iI 0) (rk_160 hR) (wa_41)) ?_
    refine rsr (jn_v) ?_
    refine rsr (if_pos (eqI_p (rfl) (li_0) (by omega))) ?_
    refine rsr (gtI_q (w := iI ((kr (kd i)))) (rk_160 hR) (wa_36)) ?_
    refine rsr (jn_v) ?_
    refine rsr (jn_v) ?_
    refine rsr (if_pos (krI_p (k := 4) (rfl) (li_2) (by omega) (by decide +kernel))) ?_
    refine rsr (jv_e) ?_
    refine rsr (jv_e) ?_
    refine rsr (vC_e (rk_160 hR)) ?_
    refine rsr (cI_e (ar193_p (by omega) hS hR (wa_36) (wa_37) (wa_41) (li_1) (by omega))) ?_
    refine rsr (if_neg (eqI_n (rfl) (li_0) (by omega))) ?_
    refine rsr (gtI_q (w := iI ((kr (kd i)))) (rk_160 hR) (wa_36)) ?_
    refine rsr (jn_v) ?_
    refine rsr (if_pos (krI_p (k := 4) (rfl) (li_2) (by omega) (by decide +kernel))) ?_
    refine rsr (gtI_q (w := iI nz6) (rk_160 hR) (((wa_n).2 (by omega)).trans hz6)) ?_
    refine rsr (vC_e (rk_160 hR)) ?_
    refine RrI (a196 (by omega) hR (wa_43) (h49) (h48) (li_0) (rfl) (by omega)) fun v Ma12 h12 => ?_
    obtain ⟨r11, rfl, g12, e12_k0, p12_0, p12_1⟩ := h12
    have f12 : Fr W_rx Mr Ma12 := Fr.t Fr.r (Fr.m g12 (by decide))
    refine rsr (cI_e rfl) ?_
    refine rsr (vC_e (rk_160 (hR.fr f12))) ?_
    refine RrV (nx_ok (by omega) hS (hR.fr f12) (hT.fr (W := W_rx) f12 (by decide) (by decide)) (fun i a b => (Fr.lc (W := W_rx) f12 _ (by decide) _).trans (hW i a b)) (i := i) ((g12.i _ _ (by decide)).trans (wa_41)) ((g12.i _ _ (by decide)).trans (wa_38)) (by omega) (by omega)) fun v Ma14 h14 => ?_
    obtain ⟨g14, e14_k0, e14_k1, e14_k2, p14_0⟩ := h14
    have f14 : Fr W_rx Mr Ma14 := Fr.t f12 (Fr.m g14 (by decide))
    refine rsr (cV_e rfl) ?_
    refine rsr (jv_e) ?_
    exact Rs.ok (Or.inl ⟨(i + 1), (e + 1), u, uc, (pu G e [0, nz6, -2, nz6, ut, mu, 0]), U, X, (Fr.sI (by decide) (Fr.sI (by decide) f8)), f14, ⟨(sI_nej (by decide)).trans (sI_eq), sI_eq, (sI_nej (by decide)).trans ((sI_nej (by decide)).trans ((g8.i _ _ (by decide)).trans (qa_10))), (sI_nej (by decide)).trans ((sI_nej (by decide)).trans (e8_k0)), (sI_nej (by decide)).trans ((sI_nej (by decide)).trans ((g8.i _ _ (by decide)).trans (qa_16))), (sI_nej (by decide)).trans ((sI_nej (by decide)).trans ((g8.i _ _ (by decide)).trans (qa_19)))⟩, ⟨e14_k0, e14_k1, e14_k2, (g14.i _ _ (by decide)).trans ((g12.i _ _ (by decide)).trans (wa_41)), (g14.i _ _ (by decide)).trans (e12_k0), (g14.i _ _ (by decide)).trans ((g12.i _ _ (by decide)).trans (wa_51)), (g14.i _ _ (by decide)).trans ((g12.i _ _ (by decide)).trans (wa_53)), (g14.i _ _ (by decide)).trans ((g12.i _ _ (by decide)).trans (wa_50)), p14_0⟩, ⟨((CA1.em caa (by omega) p8_1 rfl).fr (W := W_c0) (Fr.sI (by decide) (Fr.sI (by decide) Fr.r)) (by decide)), ((RA1.em raa (by omega) p12_1 rfl).fr g14 (by decide)), ((lca.fr g8 (by decide)).fr (W := W_c0) (Fr.sI (by decide) (Fr.sI (by decide) Fr.r)) (by decide)), ((lra.fr g12 (by decide)).fr g14 (by decide)), ((cua.fr g8 (by decide)).fr (W := W_c0) (Fr.sI (by decide) (Fr.sI (by decide) Fr.r)) (by decide)), ((rua.fr g12 (by decide)).fr g14 (by decide))⟩, ⟨by omega, by omega, by omega, by omega, by omega, by omega, by omega, by omega, by omega, by omega, by omega, by omega⟩, ⟨by omega, by omega, by omega, by omega, by omega, by omega⟩, (Ag.pu Ag.r (by omega)), Ag.r, AgL.r⟩)
  refine rsl (if_neg (eqI_n (rfl) (li_4) (by omega))) ?_
  refine rsl (swI_c) ?_
  by_cases c15 : ((kd i)) = 40
  · refine rsl (if_pos (eqI_p (rfl) (li_40) (by omega))) ?_
    refine rsl (vC_e (ck_65 hC)) ?_
    by_cases c16 : dp < 20
    ·
      have hm17 : i + 1 < m := hS.more i (by omega) (by omega) (by omega)
      refine rsl (cV_e (a69q (by omega) hS hC (hTk.fr (WL := W_cp) Fr.r (by decide)) (qa_12) (qa_13) (qa_10) (li_40) (rfl) (i2 := (i + 1)) (by omega) (by omega))) ?_
      have hk18 := (hS.ok (i + 1) (by omega) (by omega)).r
      refine rsl (vC_e (ck_65 hC.sI.sI)) ?_
      refine rsr (gtI_q (w := iI 0) (rk_160 hR) (wa_41)) ?_
      refine rsr (jn_v) ?_
      refine rsr (if_pos (eqI_p (rfl) (li_0) (by omega))) ?_
      refine rsr (gtI_q (w := iI ((kr (kd i)))) (rk_160 hR) (wa_36)) ?_
      refine rsr (jn_v) ?_
      refine rsr (jn_v) ?_
      refine rsr (if_neg (krI_n (k := 4) (rfl) (li_2) (hS.ok i (by omega) (by omega)) (by unfold KdOK sgk; omega) (by decide +kernel) (by omega) (by omega))) ?_
      refine rsr (gtI_q (w := iI ((kr (kd i)))) (rk_160 hR) (wa_36)) ?_
      refine rsr (if_neg (krI_n (k := 45) (rfl) (li_45) (hS.ok i (by omega) (by omega)) (by unfold KdOK sgk; omega) (by decide +kernel) (by omega) (by omega))) ?_
      refine rsr (gtI_q (w := iI ((kr (kd i)))) (rk_160 hR) (wa_36)) ?_
      refine rsr (if_neg (krI_n (k := 224) (rfl) (li_425) (hS.ok i (by omega) (by omega)) (by unfold KdOK sgk; omega) (by decide +kernel) (by omega) (by omega))) ?_
      refine rsr (gtI_q (w := iI ((kr (kd i)))) (rk_160 hR) (wa_36)) ?_
      refine rsr (if_pos (krI_p (k := 40) (rfl) (li_40) (by omega) (by decide +kernel))) ?_
      refine rsr (jv_e) ?_
      refine rsr (jv_e) ?_
      refine rsr (vC_e (rk_160 hR)) ?_
      refine rsr (cI_e (ar193_p (by omega) hS hR (wa_36) (wa_37) (wa_41) (li_1) (by omega))) ?_
      refine rsr (if_neg (eqI_n (rfl) (li_0) (by omega))) ?_
      refine rsr (gtI_q (w := iI ((kr (kd i)))) (rk_160 hR) (wa_36)) ?_
      refine rsr (jn_v) ?_
      refine rsr (if_neg (krI_n (k := 4) (rfl) (li_2) (hS.ok i (by omega) (by omega)) (by unfold KdOK sgk; omega) (by decide +kernel) (by omega) (by omega))) ?_
      refine rsr (if_neg (krI_n (k := 3) (rfl) (li_1) (hS.ok i (by omega) (by omega)) (by unfold KdOK sgk; omega) (by decide +kernel) (by omega) (by omega))) ?_
      refine rsr (vC_e (rk_160 hR)) ?_
      refine rsr (cI_e (ar200_p (by omega) hS hR (wa_36) (wa_37) (wa_41) (wa_50) (by omega))) ?_
      refine rsr (if_neg (eqI_n (rfl) (li_0) (by omega))) ?_
      refine rsr (vC_e (rk_160 hR.sI)) ?_
      refine RrV (nx_ok (by omega) hS hR.sI (hT.fr (W := W_rx) (Fr.sI (by decide) Fr.r) (by decide) (by decide)) (fun i a b => (Fr.lc (W := W_rx) (Fr.sI (by decide) Fr.r) _ (by decide) _).trans (hW i a b)) (i := i) ((sI_nej (by decide)).trans (wa_41)) ((sI_nej (by decide)).trans (wa_38)) (by omega) (by omega)) fun v Ma20 h20 => ?_
      obtain ⟨g20, e20_k0, e20_k1, e20_k2, p20_0⟩ := h20
      have f20 : Fr W_rx Mr Ma20 := Fr.t (Fr.sI (by decide) Fr.r) (Fr.m g20 (by decide))
      refine rsr (cV_e rfl) ?_
      refine rsr (if_pos (krI_p (k := 40) (rfl) (li_40) (by omega) (by decide +kernel))) ?_
      refine rsr (vC_e (rk_160 (hR.fr f20))) ?_
      refine Rb_VV ((hE (by omega)) _ _ (by omega) (by omega) T n m kd pl E tx ua ut mu _ _ G U Hl X (i + 1) e s u uc _ hS (hCx.fr (Fr.sI (by decide) (Fr.sI (by decide) Fr.r)) f20) ⟨(sI_nej (by decide)).trans (sI_eq), sI_eq, (sI_nej (by decide)).trans ((sI_nej (by decide)).trans (qa_10)), (sI_nej (by decide)).trans ((sI_nej (by decide)).trans (qa_9)), (sI_nej (by decide)).trans ((sI_nej (by decide)).trans (qa_16)), (sI_nej (by decide)).trans ((sI_nej (by decide)).trans (qa_19))⟩ ⟨e20_k0, e20_k1, e20_k2, (g20.i _ _ (by decide)).trans ((sI_nej (by decide)).trans (wa_41)), (g20.i _ _ (by decide)).trans ((sI_nej (by decide)).trans (wa_43)), (g20.i _ _ (by decide)).trans ((sI_nej (by decide)).trans (wa_51)), (g20.i _ _ (by decide)).trans ((sI_nej (by decide)).trans (wa_53)), (g20.i _ _ (by decide)).trans (sI_eq), p20_0⟩ ⟨(caa.fr (W := W_c0) (Fr.sI (by decide) (Fr.sI (by decide) Fr.r)) (by decide)), ((raa.fr (W := W_r0) (Fr.sI (by decide) Fr.r) (by decide)).fr g20 (by decide)), (lca.fr (W := W_c0) (Fr.sI (by decide) (Fr.sI (by decide) Fr.r)) (by decide)), ((lra.fr (W := W_r0) (Fr.sI (by decide) Fr.r) (by decide)).fr g20 (by decide)), (cua.fr (W := W_c0) (Fr.sI (by decide) (Fr.sI (by decide) Fr.r)) (by decide)), ((rua.fr (W := W_r0) (Fr.sI (by decide) Fr.r) (by decide)).fr g20 (by decide))⟩ ⟨by omega, by omega, by omega, by omega, by omega, by omega, by omega, by omega, by omega, by omega, by omega, by omega⟩ (vs2 (li_0) (adI (rfl) (li_1)))) fun v Mx21 w Nx21 hx21 => ?_
      rcases hx21 with ⟨i21, e21, u21, uc21, G21, U21, X21, fl21, fr21, sc21, sr21, rw21, bd21, mv21, ag21, au21, ax21⟩ | ⟨F21, P21, fl21, fr21, tc21, tr21⟩
      ·
        have FL21 : Fr W_cp Mc Mx21 := Fr.t (Fr.sI (by decide) (Fr.sI (by decide) Fr.r)) fl21
        have FR21 : Fr W_rx Mr Nx21 := Fr.t f20 fr21
        obtain ⟨bb21_0, bb21_1, bb21_2, bb21_3, bb21_4, bb21_5, bb21_6, bb21_7, bb21_8, bb21_9, bb21_10, bb21_11⟩ := bd21
        obtain ⟨q21_12, q21_13, q21_10, q21_9, q21_16, q21_19⟩ := sc21
        obtain ⟨w21_36, w21_37, w21_38, w21_41, w21_43, w21_51, w21_53, w21_50, w21_n⟩ := sr21
        obtain ⟨ca21, ra21, lc21, lr21, cu21, ru21⟩ := rw21
        have hk22 := (hS.ok i21 (by omega) (by omega)).r
        refine rsl (cV_e rfl) ?_
        refine rsr (cV_e rfl) ?_
        refine rsl (vC_e (ck_65 (hC.fr FL21))) ?_
        by_cases c23 : ((kd i21)) = 41
        ·
          have hm24 : i21 + 1 < m := hS.more i21 (by omega) (by omega) (by omega)
          refine rsl (cV_e (a64q (by omega) hS (hC.fr FL21) (hTk.fr (WL := W_cp) FL21 (by decide)) (q21_12) (q21_13) (q21_10) (li_41) (i2 := (i21 + 1)) (by omega) (by omega))) ?_
          have hk25 := (hS.ok (i21 + 1) (by omega) (by omega)).r
          refine rsl (jv_e) ?_
          refine rsr (gtI_q (w := iI 0) (rk_160 (hR.fr FR21)) (w21_41)) ?_
          refine rsr (if_pos (eqI_p (rfl) (li_0) (by omega))) ?_
          refine rsr (gtI_q (w := iI ((kr (kd i21)))) (rk_160 (hR.fr FR21)) (w21_36)) ?_
          refine rsr (jn_v) ?_
          refine rsr (if_pos (krI_p (k := 41) (rfl) (li_41) (by omega) (by decide +kernel))) ?_
          refine rsr (jv_e) ?_
          refine rsr (vC_e (rk_160 (hR.fr FR21))) ?_
          refine rsr (cI_e (ar193_p (by omega) hS (hR.fr FR21) (w21_36) (w21_37) (w21_41) (li_1) (by omega))) ?_
          refine rsr (if_neg (eqI_n (rfl) (li_0) (by omega))) ?_
          refine rsr (gtI_q (w := iI (dp + 1)) (rk_160 (hR.fr FR21)) (w21_50)) ?_
          refine rsr (ptI_q (z := dp) (rk_160 (hR.fr FR21)) (cvI (sbI (rfl) (li_1)) (by omega))) ?_
          refine rsr (vC_e (rk_160 (hR.fr FR21).sI)) ?_
          refine RrV (nx_ok (by omega) hS (hR.fr FR21).sI (hT.fr (W := W_rx) (Fr.sI (by decide) FR21) (by decide) (by decide)) (fun i a b => (Fr.lc (W := W_rx) (Fr.sI (by decide) FR21) _ (by decide) _).trans (hW i a b)) (i := i21) ((sI_nej (by decide)).trans (w21_41)) ((sI_nej (by decide)).trans (w21_38)) (by omega) (by omega)) fun v Ma27 h27 => ?_
          obtain ⟨g27, e27_k0, e27_k1, e27_k2, p27_0⟩ := h27
          have f27 : Fr W_rx Mr Ma27 := Fr.t (Fr.sI (by decide) FR21) (Fr.m g27 (by decide))
          refine rsr (cV_e rfl) ?_
          refine rsr (jv_e) ?_
          exact Rs.ok (Or.inl ⟨(i21 + 1), e21, u21, uc21, G21, U21, X21, (Fr.sI (by decide) (Fr.sI (by decide) FL21)), f27, ⟨(sI_nej (by decide)).trans (sI_eq), sI_eq, (sI_nej (by decide)).trans ((sI_nej (by decide)).trans (q21_10)), (sI_nej (by decide)).trans ((sI_nej (by decide)).trans (q21_9)), (sI_nej (by decide)).trans ((sI_nej (by decide)).trans (q21_16)), (sI_nej (by decide)).trans ((sI_nej (by decide)).trans (q21_19))⟩, ⟨e27_k0, e27_k1, e27_k2, (g27.i _ _ (by decide)).trans ((sI_nej (by decide)).trans (w21_41)), (g27.i _ _ (by decide)).trans ((sI_nej (by decide)).trans (w21_43)), (g27.i _ _ (by decide)).trans ((sI_nej (by decide)).trans (w21_51)), (g27.i _ _ (by decide)).trans ((sI_nej (by decide)).trans (w21_53)), (g27.i _ _ (by decide)).trans (sI_eq), p27_0⟩, ⟨(ca21.fr (W := W_c0) (Fr.sI (by decide) (Fr.sI (by decide) Fr.r)) (by decide)), ((ra21.fr (W := W_r0) (Fr.sI (by decide) Fr.r) (by decide)).fr g27 (by decide)), (lc21.fr (W := W_c0) (Fr.sI (by decide) (Fr.sI (by decide) Fr.r)) (by decide)), ((lr21.fr (W := W_r0) (Fr.sI (by decide) Fr.r) (by decide)).fr g27 (by decide)), (cu21.fr (W := W_c0) (Fr.sI (by decide) (Fr.sI (by decide) Fr.r)) (by decide)), ((ru21.fr (W := W_r0) (Fr.sI (by decide) Fr.r) (by decide)).fr g27 (by decide))⟩, ⟨by omega, by omega, by omega, by omega, by omega, by omega, by omega, by omega, by omega, by omega, by omega, by omega⟩, ⟨by omega, by omega, by omega, by omega, by omega, by omega⟩, (Ag.t Ag.r ag21 (by omega)), (Ag.t Ag.r au21 (by omega)), (AgL.t AgL.r ax21 (by omega))⟩)
        ·
          by_cases c28 : ((kd i21)) = 1
          ·
            refine rsl (cV_e (a64_1 (by omega) hS (hC.fr FL21) (hTk.fr (WL := W_cp) FL21 (by decide)) (q21_12) (q21_13) (q21_10) (li_41) (by omega))) ?_
            refine rsl (jv_e) ?_
            refine rsr (gtI_q (w := iI 0) (rk_160 (hR.fr FR21)) (w21_41)) ?_
            refine rsr (if_pos (eqI_p (rfl) (li_0) (by omega))) ?_
            refine rsr (gtI_q (w := iI ((kr (kd i21)))) (rk_160 (hR.fr FR21)) (w21_36)) ?_
            refine rsr (jn_v) ?_
            refine rsr (if_neg (krI_n (k := 41) (rfl) (li_41) (hS.ok i21 (by omega) (by omega)) (by unfold KdOK sgk; omega) (by decide +kernel) (by omega) (by omega))) ?_
            refine rsr (jv_e) ?_
            refine rsr (vC_e (rk_160 (hR.fr FR21))) ?_
            refine rsr (cI_e (ar193_1 (by omega) hS (hR.fr FR21) (w21_36) (w21_37) (w21_41) (li_0) (by omega))) ?_
            refine rsr (if_pos (eqI_p (rfl) (li_0) (by omega))) ?_
            refine rsr (jv_e) ?_
            exact Rs.ok (Or.inr ⟨1, ((pl i21)), (Fr.sI (by decide) (Fr.sI (by decide) (Fr.sI (by decide) FL21))), (Fr.sI (by decide) (Fr.sI (by decide) (Fr.m FR21 (by decide)))), ⟨i21, e21, s, uc21, sI_eq, (sI_nej (by decide)).trans ((sI_nej (by decide)).trans (sI_eq)), (sI_nej (by decide)).trans (sI_eq), (sI_nej (by decide)).trans ((sI_nej (by decide)).trans ((sI_nej (by decide)).trans (q21_12))), (sI_nej (by decide)).trans ((sI_nej (by decide)).trans ((sI_nej (by decide)).trans (q21_9))), (sI_nej (by decide)).trans ((sI_nej (by decide)).trans ((sI_nej (by decide)).trans (q21_16))), (sI_nej (by decide)).trans ((sI_nej (by decide)).trans ((sI_nej (by decide)).trans (q21_19))), by omega⟩, ⟨e21, s, u21, mu, ut, (sI_nej (by decide)).trans (sI_eq), sI_eq, (sI_nej (by decide)).trans ((sI_nej (by decide)).trans (w21_43)), (sI_nej (by decide)).trans ((sI_nej (by decide)).trans (w21_51)), (sI_nej (by decide)).trans ((sI_nej (by decide)).trans (w21_53)), (sI_nej (by decide)).trans ((sI_nej (by decide)).trans ((FR21.i _ _ (by decide)).trans h48)), (sI_nej (by decide)).trans ((sI_nej (by decide)).trans ((FR21.i _ _ (by decide)).trans h49)), by omega⟩⟩)
          ·
            refine rsl (cV_e (a64_2 (by omega) hS (hC.fr FL21) (hTk.fr (WL := W_cp) FL21 (by decide)) (q21_12) (q21_13) (q21_10) (li_41) (by omega))) ?_
            refine rsl (jv_e) ?_
            refine rsr (gtI_q (w := iI 0) (rk_160 (hR.fr FR21)) (w21_41)) ?_
            refine rsr (if_pos (eqI_p (rfl) (li_0) (by omega))) ?_
            refine rsr (gtI_q (w := iI ((kr (kd i21)))) (rk_160 (hR.fr FR21)) (w21_36)) ?_
            refine rsr (jn_v) ?_
            refine rsr (if_neg (krI_n (k := 41) (rfl) (li_41) (hS.ok i21 (by omega) (by omega)) (by unfold KdOK sgk; omega) (by decide +kernel) (by omega) (by omega))) ?_
            refine rsr (jv_e) ?_
            refine rsr (vC_e (rk_160 (hR.fr FR21))) ?_
            refine rsr (cI_e (ar193_2 (by omega) hS (hR.fr FR21) (w21_36) (w21_37) (w21_41) (li_0) (by omega))) ?_
            refine rsr (if_pos (eqI_p (rfl) (li_0) (by omega))) ?_
            refine rsr (jv_e) ?_
            exact Rs.ok (Or.inr ⟨2, ((pl i21)), (Fr.sI (by decide) (Fr.sI (by decide) (Fr.sI (by decide) FL21))), (Fr.sI (by decide) (Fr.sI (by decide) (Fr.m FR21 (by decide)))), ⟨i21, e21, s, uc21, sI_eq, (sI_nej (by decide)).trans ((sI_nej (by decide)).trans (sI_eq)), (sI_nej (by decide)).trans (sI_eq), (sI_nej (by decide)).trans ((sI_nej (by decide)).trans ((sI_nej (by decide)).trans (q21_12))), (sI_nej (by decide)).trans ((sI_nej (by decide)).trans ((sI_nej (by decide)).trans (q21_9))), (sI_nej (by decide)).trans ((sI_nej (by decide)).trans ((sI_nej (by decide)).trans (q21_16))), (sI_nej (by decide)).trans ((sI_nej (by decide)).trans ((sI_nej (by decide)).trans (q21_19))), by omega⟩, ⟨e21, s, u21, mu, ut, (sI_nej (by decide)).trans (sI_eq), sI_eq, (sI_nej (by decide)).trans ((sI_nej (by decide)).trans (w21_43)), (sI_nej (by decide)).trans ((sI_nej (by decide)).trans (w21_51)), (sI_nej (by decide)).trans ((sI_nej (by decide)).trans (w21_53)), (sI_nej (by decide)).trans ((sI_nej (by decide)).trans ((FR21.i _ _ (by decide)).trans h48)), (sI_nej (by decide)).trans ((sI_nej (by decide)).trans ((FR21.i _ _ (by decide)).trans h49)), by omega⟩⟩)
      ·
        have FL21 : Fr W_cp Mc Mx21 := Fr.t (Fr.sI (by decide) (Fr.sI (by decide) Fr.r)) fl21
        have FR21 : Fr W_rp Mr Nx21 := Fr.t (Fr.m f20 W_rx_p) fr21
        obtain ⟨ti21, tz21, tn21, tu21, t1321, t1021, t1121, t1221, t921, t1621, t1921, tb21⟩ := tc21
        obtain ⟨re21, rn21, ru21, rm21, rt21, u4121, u4221, u4321, u5121, u5321, u4821, u4921, ub21⟩ := tr21
        refine rsl (cV_e rfl) ?_
        refine rsr (cV_e rfl) ?_
        refine rsl (vC_e (ck_65 (hC.fr FL21))) ?_
        refine RlV (y64 (by omega) (hC.fr FL21) (hTk.fr (WL := W_cp) FL21 (by decide)) (t1221) (t1321) (t1021) (t1121) (t921) (t1621) (t1921) (li_41) (by omega)) fun v Ma30 h30 => ?_
        obtain ⟨sz29, sn29, uc29, g30, e30_sz29, e30_sn29, e30_uc29, e30_k0, e30_k1, e30_k2, e30_k3, p30_0, p30_1, p30_2⟩ := h30
        have f30 : Fr W_cp Mc Ma30 := Fr.t FL21 (Fr.m g30 (by decide))
        refine rsl (cV_e rfl) ?_
        refine rsl (jv_e) ?_
        refine rsr (gtI_q (w := iI F21) (rk_160 (hR.fr FR21)) (u4121)) ?_
        refine rsr (if_neg (eqI_n (rfl) (li_0) (by omega))) ?_
        refine rsr (jv_e) ?_
        exact Rs.ok (Or.inr ⟨F21, P21, f30, FR21, ⟨ti21, sz29, sn29, uc29, e30_k0, e30_k1, e30_k2, e30_k3, e30_sz29, e30_sn29, e30_uc29, by omega⟩, ⟨re21, rn21, ru21, rm21, rt21, u4121, u4221, u4321, u5121, u5321, u4821, u4921, by omega⟩⟩)
    ·
      refine rsl (cV_e (a69_6 (by omega) hS hC (hTk.fr (WL := W_cp) Fr.r (by decide)) (qa_12) (qa_13) (qa_10) (li_40) (rfl) (by omega))) ?_
      refine rsl (vC_e (ck_65 hC.sI.sI.sI)) ?_
      refine RlV (y99_0 (by omega) hC.sI.sI.sI (hTk.fr (WL := W_cp) (Fr.sI (by decide) (Fr.sI (by decide) (Fr.sI (by decide) Fr.r))) (by decide)) ((sI_nej (by decide)).trans ((sI_nej (by decide)).trans ((sI_nej (by decide)).trans (qa_12)))) (sI_eq) ((sI_nej (by decide)).trans ((sI_nej (by decide)).trans (sI_eq))) ((sI_nej (by decide)).trans (sI_eq)) ((sI_nej (by decide)).trans ((sI_nej (by decide)).trans ((sI_nej (by decide)).trans (qa_9)))) ((sI_nej (by decide)).trans ((sI_nej (by decide)).trans ((sI_nej (by decide)).trans (qa_16)))) ((sI_nej (by decide)).trans ((sI_nej (by decide)).trans ((sI_nej (by decide)).trans (qa_19)))) (li_0) (adI (rfl) (li_1)) (by omega)) fun v Ma32 h32 => ?_
      obtain ⟨sz31, sn31, uc31, g32, e32_sz31, e32_sn31, e32_uc31, e32_k0, e32_k1, e32_k2, e32_k3, p32_0, p32_1, p32_2⟩ := h32
      have f32 : Fr W_cp Mc Ma32 := Fr.t (Fr.sI (by decide) (Fr.sI (by decide) (Fr.sI (by decide) Fr.r))) (Fr.m g32 (by decide))
      refine rsl (cV_e rfl) ?_
      refine rsl (vC_e (ck_65 (hC.fr f32))) ?_
      refine RlV (y64 (by omega) (hC.fr f32) (hTk.fr (WL := W_cp) f32 (by decide)) (e32_k3) (e32_k0) (e32_k1) (e32_k2) (e32_sz31) (e32_sn31) (e32_uc31) (li_41) (by omega)) fun v Ma34 h34 => ?_
      obtain ⟨sz33, sn33, uc33, g34, e34_sz33, e34_sn33, e34_uc33, e34_k0, e34_k1, e34_k2, e34_k3, p34_0, p34_1, p34_2⟩ := h34
      have f34 : Fr W_cp Mc Ma34 := Fr.t f32 (Fr.m g34 (by decide))
      refine rsl (cV_e rfl) ?_
      refine rsl (jv_e) ?_
      refine rsr (gtI_q (w := iI 0) (rk_160 hR) (wa_41)) ?_
      refine rsr (jn_v) ?_
      refine rsr (if_pos (eqI_p (rfl) (li_0) (by omega))) ?_
      refine rsr (gtI_q (w := iI ((kr (kd i)))) (rk_160 hR) (wa_36)) ?_
      refine rsr (jn_v) ?_
      refine rsr (jn_v) ?_
      refine rsr (if_neg (krI_n (k := 4) (rfl) (li_2) (hS.ok i (by omega) (by omega)) (by unfold KdOK sgk; omega) (by decide +kernel) (by omega) (by omega))) ?_
      refine rsr (gtI_q (w := iI ((kr (kd i)))) (rk_160 hR) (wa_36)) ?_
      refine rsr (if_neg (krI_n (k := 45) (rfl) (li_45) (hS.ok i (by omega) (by omega)) (by unfold KdOK sgk; omega) (by decide +kernel) (by omega) (by omega))) ?_
      refine rsr (gtI_q (w := iI ((kr (kd i)))) (rk_160 hR) (wa_36)) ?_
      refine rsr (if_neg (krI_n (k := 224) (rfl) (li_425) (hS.ok i (by omega) (by omega)) (by unfold KdOK sgk; omega) (by decide +kernel) (by omega) (by omega))) ?_
      refine rsr (gtI_q (w := iI ((kr (kd i)))) (rk_160 hR) (wa_36)) ?_
      refine rsr (if_pos (krI_p (k := 40) (rfl) (li_40) (by omega) (by decide +kernel))) ?_
      refine rsr (jv_e) ?_
      refine rsr (jv_e) ?_
      refine rsr (vC_e (rk_160 hR)) ?_
      refine rsr (cI_e (ar193_p (by omega) hS hR (wa_36) (wa_37) (wa_41) (li_1) (by omega))) ?_
      refine rsr (if_neg (eqI_n (rfl) (li_0) (by omega))) ?_
      refine rsr (gtI_q (w := iI ((kr (kd i)))) (rk_160 hR) (wa_36)) ?_
      refine rsr (jn_v) ?_
      refine rsr (if_neg (krI_n (k := 4) (rfl) (li_2) (hS.ok i (by omega) (by omega)) (by unfold KdOK sgk; omega) (by decide +kernel) (by omega) (by omega))) ?_
      refine rsr (if_neg (krI_n (k := 3) (rfl) (li_1) (hS.ok i (by omega) (by omega)) (by unfold KdOK sgk; omega) (by decide +kernel) (by omega) (by omega))) ?_
      refine rsr (vC_e (rk_160 hR)) ?_
      refine rsr (cI_e (ar200_6 (by omega) hS hR (wa_36) (wa_37) (wa_41) (wa_50) (by omega))) ?_
      refine rsr (if_pos (eqI_p (rfl) (li_0) (by omega))) ?_
      refine rsr (jv_e) ?_
      exact Rs.ok (Or.inr ⟨6, ((pl i)), f34, (Fr.sI (by decide) (Fr.sI (by decide) (Fr.sI (by decide) Fr.r))), ⟨i, sz33, sn33, uc33, e34_k0, e34_k1, e34_k2, e34_k3, e34_sz33, e34_sn33, e34_uc33, by omega⟩, ⟨e, s, u, mu, ut, (sI_nej (by decide)).trans (sI_eq), sI_eq, (sI_nej (by decide)).trans ((sI_nej (by decide)).trans ((sI_nej (by decide)).trans (wa_43))), (sI_nej (by decide)).trans ((sI_nej (by decide)).trans ((sI_nej (by decide)).trans (wa_51))), (sI_nej (by decide)).trans ((sI_nej (by decide)).trans ((sI_nej (by decide)).trans (wa_53))), (sI_nej (by decide)).trans ((sI_nej (by decide)).trans ((sI_nej (by decide)).trans (h48))), (sI_nej (by decide)).trans ((sI_nej (by decide)).trans ((sI_nej (by decide)).trans (h49))), by omega⟩⟩)
  refine rsl (if_neg (eqI_n (rfl) (li_40) (by omega))) ?_
  refine rsl (swI_c) ?_
  by_cases c35 : ((kd i)) = 45
  · refine rsl (if_pos (eqI_p (rfl) (li_45) (by omega))) ?_
    refine rsl (vC_e (ck_65 hC)) ?_
    by_cases c36 : dp < 20
    ·
      have hm37 : i + 1 < m := hS.more i (by omega) (by omega) (by omega)
      refine rsl (cV_e (a69q (by omega) hS hC (hTk.fr (WL := W_cp) Fr.r (by decide)) (qa_12) (qa_13) (qa_10) (li_45) (rfl) (i2 := (i + 1)) (by omega) (by omega))) ?_
      have hk38 := (hS.ok (i + 1) (by omega) (by omega)).r
      refine rsl (vC_e (ck_65 hC.sI.sI)) ?_
      refine rsr (gtI_q (w := iI 0) (rk_160 hR) (wa_41)) ?_
      refine rsr (jn_v) ?_
      refine rsr (if_pos (eqI_p (rfl) (li_0) (by omega))) ?_
      refine rsr (gtI_q (w := iI ((kr (kd i)))) (rk_160 hR) (wa_36)) ?_
      refine rsr (jn_v) ?_
      refine rsr (jn_v) ?_
      refine rsr (if_neg (krI_n (k := 4) (rfl) (li_2) (hS.ok i (by omega) (by omega)) (by unfold KdOK sgk; omega) (by decide +kernel) (by omega) (by omega))) ?_
      refine rsr (gtI_q (w := iI ((kr (kd i)))) (rk_160 hR) (wa_36)) ?_
      refine rsr (if_pos (krI_p (k := 45) (rfl) (li_45) (by omega) (by decide +kernel))) ?_
      refine rsr (jv_e) ?_
      refine rsr (jv_e) ?_
      refine rsr (vC_e (rk_160 hR)) ?_
      refine rsr (cI_e (ar193_p (by omega) hS hR (wa_36) (wa_37) (wa_41) (li_1) (by omega))) ?_
      refine rsr (if_neg (eqI_n (rfl) (li_0) (by omega))) ?_
      refine rsr (gtI_q (w := iI ((kr (kd i)))) (rk_160 hR) (wa_36)) ?_
      refine rsr (jn_v) ?_
      refine rsr (if_neg (krI_n (k := 4) (rfl) (li_2) (hS.ok i (by omega) (by omega)) (by unfold KdOK sgk; omega) (by decide +kernel) (by omega) (by omega))) ?_
      refine rsr (if_neg (krI_n (k := 3) (rfl) (li_1) (hS.ok i (by omega) (by omega)) (by unfold KdOK sgk; omega) (by decide +kernel) (by omega) (by omega))) ?_
      refine rsr (vC_e (rk_160 hR)) ?_
      refine rsr (cI_e (ar200_p (by omega) hS hR (wa_36) (wa_37) (wa_41) (wa_50) (by omega))) ?_
      refine rsr (if_neg (eqI_n (rfl) (li_0) (by omega))) ?_
      refine rsr (vC_e (rk_160 hR.sI)) ?_
      refine RrV (nx_ok (by omega) hS hR.sI (hT.fr (W := W_rx) (Fr.sI (by decide) Fr.r) (by decide) (by decide)) (fun i a b => (Fr.lc (W := W_rx) (Fr.sI (by decide) Fr.r) _ (by decide) _).trans (hW i a b)) (i := i) ((sI_nej (by decide)).trans (wa_41)) ((sI_nej (by decide)).trans (wa_38)) (by omega) (by omega)) fun v Ma40 h40 => ?_
      obtain ⟨g40, e40_k0, e40_k1, e40_k2, p40_0⟩ := h40
      have f40 : Fr W_rx Mr Ma40 := Fr.t (Fr.sI (by decide) Fr.r) (Fr.m g40 (by decide))
      refine rsr (cV_e rfl) ?_
      refine rsr (if_neg (krI_n (k := 40) (rfl) (li_40) (hS.ok i (by omega) (by omega)) (by unfold KdOK sgk; omega) (by decide +kernel) (by omega) (by omega))) ?_
      refine rsr (vC_e (rk_160 (hR.fr f40))) ?_
      refine Rb_VV ((hF (by omega)) _ _ (by omega) (by omega) T n m kd pl E tx ua ut mu _ _ G U Hl X (i + 1) e s u uc _ hS (hCx.fr (Fr.sI (by decide) (Fr.sI (by decide) Fr.r)) f40) ⟨(sI_nej (by decide)).trans (sI_eq), sI_eq, (sI_nej (by decide)).trans ((sI_nej (by decide)).trans (qa_10)), (sI_nej (by decide)).trans ((sI_nej (by decide)).trans (qa_9)), (sI_nej (by decide)).trans ((sI_nej (by decide)).trans (qa_16)), (sI_nej (by decide)).trans ((sI_nej (by decide)).trans (qa_19))⟩ ⟨e40_k0, e40_k1, e40_k2, (g40.i _ _ (by decide)).trans ((sI_nej (by decide)).trans (wa_41)), (g40.i _ _ (by decide)).trans ((sI_nej (by decide)).trans (wa_43)), (g40.i _ _ (by decide)).trans ((sI_nej (by decide)).trans (wa_51)), (g40.i _ _ (by decide)).trans ((sI_nej (by decide)).trans (wa_53)), (g40.i _ _ (by decide)).trans (sI_eq), p40_0⟩ ⟨(caa.fr (W := W_c0) (Fr.sI (by decide) (Fr.sI (by decide) Fr.r)) (by decide)), ((raa.fr (W := W_r0) (Fr.sI (by decide) Fr.r) (by decide)).fr g40 (by decide)), (lca.fr (W := W_c0) (Fr.sI (by decide) (Fr.sI (by decide) Fr.r)) (by decide)), ((lra.fr (W := W_r0) (Fr.sI (by decide) Fr.r) (by decide)).fr g40 (by decide)), (cua.fr (W := W_c0) (Fr.sI (by decide) (Fr.sI (by decide) Fr.r)) (by decide)), ((rua.fr (W := W_r0) (Fr.sI (by decide) Fr.r) (by decide)).fr g40 (by decide))⟩ ⟨by omega, by omega, by omega, by omega, by omega, by omega, by omega, by omega, by omega, by omega, by omega, by omega⟩ (vs1 (adI (rfl) (li_1)))) fun v Mx41 w Nx41 hx41 => ?_
      rcases hx41 with ⟨i41, e41, u41, uc41, G41, U41, X41, fl41, fr41, sc41, sr41, rw41, bd41, mv41, ag41, au41, ax41⟩ | ⟨F41, P41, fl41, fr41, tc41, tr41⟩
      ·
        have FL41 : Fr W_cp Mc Mx41 := Fr.t (Fr.sI (by decide) (Fr.sI (by decide) Fr.r)) fl41
        have FR41 : Fr W_rx Mr Nx41 := Fr.t f40 fr41
        obtain ⟨bb41_0, bb41_1, bb41_2, bb41_3, bb41_4, bb41_5, bb41_6, bb41_7, bb41_8, bb41_9, bb41_10, bb41_11⟩ := bd41
        obtain ⟨q41_12, q41_13, q41_10, q41_9, q41_16, q41_19⟩ := sc41
        obtain ⟨w41_36, w41_37, w41_38, w41_41, w41_43, w41_51, w41_53, w41_50, w41_n⟩ := sr41
        obtain ⟨ca41, ra41, lc41, lr41, cu41, ru41⟩ := rw41
        have hk42 := (hS.ok i41 (by omega) (by omega)).r
        refine rsl (cV_e rfl) ?_
        refine rsr (cV_e rfl) ?_
        refine rsl (vC_e (ck_65 (hC.fr FL41))) ?_
        refine RlI (a87 (by omega) (hC.fr FL41) (q41_9) (li_22) (li_0) (by omega)) fun v Ma44 h44 => ?_
        obtain ⟨r43, rfl, g44, e44_k0, p44_0, p44_1⟩ := h44
        have f44 : Fr W_cp Mc Ma44 := Fr.t FL41 (Fr.m g44 (by decide))
        refine rsl (cI_e rfl) ?_
        refine rsl (jv_e) ?_
        refine rsr (gtI_q (w := iI (dp + 1)) (rk_160 (hR.fr FR41)) (w41_50)) ?_
        refine rsr (ptI_q (z := dp) (rk_160 (hR.fr FR41)) (cvI (sbI (rfl) (li_1)) (by omega))) ?_
        refine rsr (jn_v) ?_
        refine rsr (if_pos (krI_p (k := 45) (rfl) (li_45) (by omega) (by decide +kernel))) ?_
        refine rsr (jv_e) ?_
        refine rsr (vC_e (rk_160 (hR.fr FR41).sI)) ?_
        refine RrI (a196 (by omega) (hR.fr FR41).sI ((sI_nej (by decide)).trans (w41_43)) ((sI_nej (by decide)).trans ((FR41.i _ _ (by decide)).trans h49)) ((sI_nej (by decide)).trans ((FR41.i _ _ (by decide)).trans h48)) (li_22) (li_0) (by omega)) fun v Ma46 h46 => ?_
        obtain ⟨r45, rfl, g46, e46_k0, p46_0, p46_1⟩ := h46
        have f46 : Fr W_rx Mr Ma46 := Fr.t (Fr.sI (by decide) FR41) (Fr.m g46 (by decide))
        refine rsr (cI_e rfl) ?_
        refine rsr (jv_e) ?_
        exact Rs.ok (Or.inl ⟨i41, (e41 + 1), u41, uc41, (pu G41 e41 [22, 0, -2, 0, ut, mu, 0]), U41, X41, f44, f46, ⟨(g44.i _ _ (by decide)).trans (q41_12), (g44.i _ _ (by decide)).trans (q41_13), (g44.i _ _ (by decide)).trans (q41_10), e44_k0, (g44.i _ _ (by decide)).trans (q41_16), (g44.i _ _ (by decide)).trans (q41_19)⟩, ⟨(g46.i _ _ (by decide)).trans ((sI_nej (by decide)).trans (w41_36)), (g46.i _ _ (by decide)).trans ((sI_nej (by decide)).trans (w41_37)), (g46.i _ _ (by decide)).trans ((sI_nej (by decide)).trans (w41_38)), (g46.i _ _ (by decide)).trans ((sI_nej (by decide)).trans (w41_41)), e46_k0, (g46.i _ _ (by decide)).trans ((sI_nej (by decide)).trans (w41_51)), (g46.i _ _ (by decide)).trans ((sI_nej (by decide)).trans (w41_53)), (g46.i _ _ (by decide)).trans (sI_eq), ((w41_n.fr (W := W_r0) (Fr.sI (by decide) Fr.r) (by decide) (by decide)).fr g46 (by decide) (by decide))⟩, ⟨(CA1.em ca41 (by omega) p44_1 rfl), (RA1.em (ra41.fr (W := W_r0) (Fr.sI (by decide) Fr.r) (by decide)) (by omega) p46_1 rfl), (lc41.fr g44 (by decide)), ((lr41.fr (W := W_r0) (Fr.sI (by decide) Fr.r) (by decide)).fr g46 (by decide)), (cu41.fr g44 (by decide)), ((ru41.fr (W := W_r0) (Fr.sI (by decide) Fr.r) (by decide)).fr g46 (by decide))⟩, ⟨by omega, by omega, by omega, by omega, by omega, by omega, by omega, by omega, by omega, by omega, by omega, by omega⟩, ⟨by omega, by omega, by omega, by omega, by omega, by omega⟩, (Ag.pu (Ag.t Ag.r ag41 (by omega)) (by omega)), (Ag.t Ag.r au41 (by omega)), (AgL.t AgL.r ax41 (by omega))⟩)
      ·
        have FL41 : Fr W_cp Mc Mx41 := Fr.t (Fr.sI (by decide) (Fr.sI (by decide) Fr.r)) fl41
        have FR41 : Fr W_rp Mr Nx41 := Fr.t (Fr.m f40 W_rx_p) fr41
        obtain ⟨ti41, tz41, tn41, tu41, t1341, t1041, t1141, t1241, t941, t1641, t1941, tb41⟩ := tc41
        obtain ⟨re41, rn41, ru41, rm41, rt41, u4141, u4241, u4341, u5141, u5341, u4841, u4941, ub41⟩ := tr41
        refine rsl (cV_e rfl) ?_
        refine rsr (cV_e rfl) ?_
        refine rsl (vC_e (ck_65 (hC.fr FL41))) ?_
        refine RlI (y87 (by omega) (hC.fr FL41) (hTk.fr (WL := W_cp) FL41 (by decide)) (t1241) (t1341) (t1041) (t1141) (t941) (t1641) (t1941) (li_22) (li_0) (by omega)) fun v Ma48 h48 => ?_
        obtain ⟨rv47, sz47, sn47, uc47, rfl, g48, e48_sz47, e48_sn47, e48_uc47, e48_k0, e48_k1, e48_k2, e48_k3, p48_0, p48_1, p48_2, p48_3⟩ := h48
        have f48 : Fr W_cp Mc Ma48 := Fr.t FL41 (Fr.m g48 (by decide))
        refine rsl (cI_e rfl) ?_
        refine rsl (jv_e) ?_
        have b49 := V_r (M := Nx41) (a := 160) (j := 50)
        refine rsr (gtI_q (w := iI ((V Nx41 160 50))) (rk_160 (hR.fr FR41)) (eV)) ?_
        refine rsr (ptI_q (z := ((V Nx41 160 50) - 1)) (rk_160 (hR.fr FR41)) (cvI (sbI (rfl) (li_1)) (by omega))) ?_
        refine rsr (jn_v) ?_
        refine rsr (if_pos (krI_p (k := 45) (rfl) (li_45) (by omega) (by decide +kernel))) ?_
        refine rsr (jv_e) ?_
        refine rsr (vC_e (rk_160 (hR.fr FR41).sI)) ?_
        refine RrI (x196_s (by omega) (hR.fr FR41).sI ((sI_nej (by decide)).trans (u4141)) ((sI_nej (by decide)).trans (u4241)) ((sI_nej (by decide)).trans (u4341)) ((sI_nej (by decide)).trans (u5141)) ((sI_nej (by decide)).trans (u5341)) ((sI_nej (by decide)).trans (u4841)) ((sI_nej (by decide)).trans (u4941)) (li_22) (li_0) (by omega)) fun v Ma51 h51 => ?_
        obtain ⟨rv50, em50, rfl, g51, e51_em50, e51_k0, e51_k1, e51_k2, e51_k3, e51_k4, p51_0, p51_1⟩ := h51
        have f51 : Fr W_rp Mr Ma51 := Fr.t (Fr.sI (by decide) FR41) (Fr.m g51 (by decide))
        refine rsr (cI_e rfl) ?_
        refine rsr (jv_e) ?_
        exact Rs.ok (Or.inr ⟨F41, P41, f48, f51, ⟨ti41, sz47, sn47, uc47, e48_k0, e48_k1, e48_k2, e48_k3, e48_sz47, e48_sn47, e48_uc47, by omega⟩, ⟨em50, rn41, ru41, rm41, rt41, e51_k0, e51_k1, e51_em50, e51_k2, e51_k3, e51_k4, (g51.i _ _ (by decide)).trans ((sI_nej (by decide)).trans (u4941)), by omega⟩⟩)
    ·
      refine rsl (cV_e (a69_6 (by omega) hS hC (hTk.fr (WL := W_cp) Fr.r (by decide)) (qa_12) (qa_13) (qa_10) (li_45) (rfl) (by omega))) ?_
      refine rsl (vC_e (ck_65 hC.sI.sI.sI)) ?_
      refine RlV (y100 (by omega) hC.sI.sI.sI (hTk.fr (WL := W_cp) (Fr.sI (by decide) (Fr.sI (by decide) (Fr.sI (by decide) Fr.r))) (by decide)) ((sI_nej (by decide)).trans ((sI_nej (by decide)).trans ((sI_nej (by decide)).trans (qa_12)))) (sI_eq) ((sI_nej (by decide)).trans ((sI_nej (by decide)).trans (sI_eq))) ((sI_nej (by decide)).trans (sI_eq)) ((sI_nej (by decide)).trans ((sI_nej (by decide)).trans ((sI_nej (by decide)).trans (qa_9)))) ((sI_nej (by decide)).trans ((sI_nej (by decide)).trans ((sI_nej (by decide)).trans (qa_16)))) ((sI_nej (by decide)).trans ((sI_nej (by decide)).trans ((sI_nej (by decide)).trans (qa_19)))) (adI (rfl) (li_1)) (by omega)) fun v Ma53 h53 => ?_
      obtain ⟨sz52, sn52, uc52, g53, e53_sz52, e53_sn52, e53_uc52, e53_k0, e53_k1, e53_k2, e53_k3, p53_0, p53_1, p53_2⟩ := h53
      have f53 : Fr W_cp Mc Ma53 := Fr.t (Fr.sI (by decide) (Fr.sI (by decide) (Fr.sI (by decide) Fr.r))) (Fr.m g53 (by decide))
      refine rsl (cV_e rfl) ?_
      refine rsl (vC_e (ck_65 (hC.fr f53))) ?_
      refine RlI (y87 (by omega) (hC.fr f53) (hTk.fr (WL := W_cp) f53 (by decide)) (e53_k3) (e53_k0) (e53_k1) (e53_k2) (e53_sz52) (e53_sn52) (e53_uc52) (li_22) (li_0) (by omega)) fun v Ma55 h55 => ?_
      obtain ⟨rv54, sz54, sn54, uc54, rfl, g55, e55_sz54, e55_sn54, e55_uc54, e55_k0, e55_k1, e55_k2, e55_k3, p55_0, p55_1, p55_2, p55_3⟩ := h55
      have f55 : Fr W_cp Mc Ma55 := Fr.t f53 (Fr.m g55 (by decide))
      refine rsl (cI_e rfl) ?_
      refine rsl (jv_e) ?_
      refine rsr (gtI_q (w := iI 0) (rk_160 hR) (wa_41)) ?_
      refine rsr (jn_v) ?_
      refine rsr (if_pos (eqI_p (rfl) (li_0) (by omega))) ?_
      refine rsr (gtI_q (w := iI ((kr (kd i)))) (rk_160 hR) (wa_36)) ?_
      refine rsr (jn_v) ?_
      refine rsr (jn_v) ?_
      refine rsr (if_neg (krI_n (k := 4) (rfl) (li_2) (hS.ok i (by omega) (by omega)) (by unfold KdOK sgk; omega) (by decide +kernel) (by omega) (by omega))) ?_
      refine rsr (gtI_q (w := iI ((kr (kd i)))) (rk_160 hR) (wa_36)) ?_
      refine rsr (if_pos (krI_p (k := 45) (rfl) (li_45) (by omega) (by decide +kernel))) ?_
      refine rsr (jv_e) ?_
      refine rsr (jv_e) ?_
      refine rsr (vC_e (rk_160 hR)) ?_
      refine rsr (cI_e (ar193_p (by omega) hS hR (wa_36) (wa_37) (wa_41) (li_1) (by omega))) ?_
      refine rsr (if_neg (eqI_n (rfl) (li_0) (by omega))) ?_
      refine rsr (gtI_q (w := iI ((kr (kd i)))) (rk_160 hR) (wa_36)) ?_
      refine rsr (jn_v) ?_
      refine rsr (if_neg (krI_n (k := 4) (rfl) (li_2) (hS.ok i (by omega) (by omega)) (by unfold KdOK sgk; omega) (by decide +kernel) (by omega) (by omega))) ?_
      refine rsr (if_neg (krI_n (k := 3) (rfl) (li_1) (hS.ok i (by omega) (by omega)) (by unfold KdOK sgk; omega) (by decide +kernel) (by omega) (by omega))) ?_
      refine rsr (vC_e (rk_160 hR)) ?_
      refine rsr (cI_e (ar200_6 (by omega) hS hR (wa_36) (wa_37) (wa_41) (wa_50) (by omega))) ?_
      refine rsr (if_pos (eqI_p (rfl) (li_0) (by omega))) ?_
      refine rsr (jv_e) ?_
      exact Rs.ok (Or.inr ⟨6, ((pl i)), f55, (Fr.sI (by decide) (Fr.sI (by decide) (Fr.sI (by decide) Fr.r))), ⟨i, sz54, sn54, uc54, e55_k0, e55_k1, e55_k2, e55_k3, e55_sz54, e55_sn54, e55_uc54, by omega⟩, ⟨e, s, u, mu, ut, (sI_nej (by decide)).trans (sI_eq), sI_eq, (sI_nej (by decide)).trans ((sI_nej (by decide)).trans ((sI_nej (by decide)).trans (wa_43))), (sI_nej (by decide)).trans ((sI_nej (by decide)).trans ((sI_nej (by decide)).trans (wa_51))), (sI_nej (by decide)).trans ((sI_nej (by decide)).trans ((sI_nej (by decide)).trans (wa_53))), (sI_nej (by decide)).trans ((sI_nej (by decide)).trans ((sI_nej (by decide)).trans (h48))), (sI_nej (by decide)).trans ((sI_nej (by decide)).trans ((sI_nej (by decide)).trans (h49))), by omega⟩⟩)
  refine rsl (if_neg (eqI_n (rfl) (li_45) (by omega))) ?_
  refine rsl (swI_c) ?_
  by_cases c56 : ((kd i)) = 224
  · refine rsl (if_pos (eqI_p (rfl) (li_224) (by omega))) ?_
    refine rsl (vC_e (ck_65 hC)) ?_
    by_cases c57 : dp < 20
    ·
      have hm58 : i + 1 < m := hS.more i (by omega) (by omega) (by omega)
      refine rsl (cV_e (a69q (by omega) hS hC (hTk.fr (WL := W_cp) Fr.r (by decide)) (qa_12) (qa_13) (qa_10) (li_224) (rfl) (i2 := (i + 1)) (by omega) (by omega))) ?_
      have hk59 := (hS.ok (i + 1) (by omega) (by omega)).r
      refine rsl (vC_e (ck_65 hC.sI.sI)) ?_
      refine rsr (gtI_q (w := iI 0) (rk_160 hR) (wa_41)) ?_
      refine rsr (jn_v) ?_
      refine rsr (if_pos (eqI_p (rfl) (li_0) (by omega))) ?_
      refine rsr (gtI_q (w := iI ((kr (kd i)))) (rk_160 hR) (wa_36)) ?_
      refine rsr (jn_v) ?_
      refine rsr (jn_v) ?_
      refine rsr (if_neg (krI_n (k := 4) (rfl) (li_2) (hS.ok i (by omega) (by omega)) (by unfold KdOK sgk; omega) (by decide +kernel) (by omega) (by omega))) ?_
      refine rsr (gtI_q (w := iI ((kr (kd i)))) (rk_160 hR) (wa_36)) ?_
      refine rsr (if_neg (krI_n (k := 45) (rfl) (li_45) (hS.ok i (by omega) (by omega)) (by unfold KdOK sgk; omega) (by decide +kernel) (by omega) (by omega))) ?_
      refine rsr (gtI_q (w := iI ((kr (kd i)))) (rk_160 hR) (wa_36)) ?_
      refine rsr (if_pos (krI_p (k := 224) (rfl) (li_425) (by omega) (by decide +kernel))) ?_
      refine rsr (jv_e) ?_
      refine rsr (jv_e) ?_
      refine rsr (vC_e (rk_160 hR)) ?_
      refine rsr (cI_e (ar193_p (by omega) hS hR (wa_36) (wa_37) (wa_41) (li_1) (by omega))) ?_
      refine rsr (if_neg (eqI_n (rfl) (li_0) (by omega))) ?_
      refine rsr (gtI_q (w := iI ((kr (kd i)))) (rk_160 hR) (wa_36)) ?_
      refine rsr (jn_v) ?_
      refine rsr (if_neg (krI_n (k := 4) (rfl) (li_2) (hS.ok i (by omega) (by omega)) (by unfold KdOK sgk; omega) (by decide +kernel) (by omega) (by omega))) ?_
      refine rsr (if_neg (krI_n (k := 3) (rfl) (li_1) (hS.ok i (by omega) (by omega)) (by unfold KdOK sgk; omega) (by decide +kernel) (by omega) (by omega))) ?_
      refine rsr (vC_e (rk_160 hR)) ?_
      refine rsr (cI_e (ar200_p (by omega) hS hR (wa_36) (wa_37) (wa_41) (wa_50) (by omega))) ?_
      refine rsr (if_neg (eqI_n (rfl) (li_0) (by omega))) ?_
      refine rsr (vC_e (rk_160 hR.sI)) ?_
      refine RrV (nx_ok (by omega) hS hR.sI (hT.fr (W := W_rx) (Fr.sI (by decide) Fr.r) (by decide) (by decide)) (fun i a b => (Fr.lc (W := W_rx) (Fr.sI (by decide) Fr.r) _ (by decide) _).trans (hW i a b)) (i := i) ((sI_nej (by decide)).trans (wa_41)) ((sI_nej (by decide)).trans (wa_38)) (by omega) (by omega)) fun v Ma61 h61 => ?_
      obtain ⟨g61, e61_k0, e61_k1, e61_k2, p61_0⟩ := h61
      have f61 : Fr W_rx Mr Ma61 := Fr.t (Fr.sI (by decide) Fr.r) (Fr.m g61 (by decide))
      refine rsr (cV_e rfl) ?_
      refine rsr (if_neg (krI_n (k := 40) (rfl) (li_40) (hS.ok i (by omega) (by omega)) (by unfold KdOK sgk; omega) (by decide +kernel) (by omega) (by omega))) ?_
      refine rsr (vC_e (rk_160 (hR.fr f61))) ?_
      refine Rb_VV ((hF (by omega)) _ _ (by omega) (by omega) T n m kd pl E tx ua ut mu _ _ G U Hl X (i + 1) e s u uc _ hS (hCx.fr (Fr.sI (by decide) (Fr.sI (by decide) Fr.r)) f61) ⟨(sI_nej (by decide)).trans (sI_eq), sI_eq, (sI_nej (by decide)).trans ((sI_nej (by decide)).trans (qa_10)), (sI_nej (by decide)).trans ((sI_nej (by decide)).trans (qa_9)), (sI_nej (by decide)).trans ((sI_nej (by decide)).trans (qa_16)), (sI_nej (by decide)).trans ((sI_nej (by decide)).trans (qa_19))⟩ ⟨e61_k0, e61_k1, e61_k2, (g61.i _ _ (by decide)).trans ((sI_nej (by decide)).trans (wa_41)), (g61.i _ _ (by decide)).trans ((sI_nej (by decide)).trans (wa_43)), (g61.i _ _ (by decide)).trans ((sI_nej (by decide)).trans (wa_51)), (g61.i _ _ (by decide)).trans ((sI_nej (by decide)).trans (wa_53)), (g61.i _ _ (by decide)).trans (sI_eq), p61_0⟩ ⟨(caa.fr (W := W_c0) (Fr.sI (by decide) (Fr.sI (by decide) Fr.r)) (by decide)), ((raa.fr (W := W_r0) (Fr.sI (by decide) Fr.r) (by decide)).fr g61 (by decide)), (lca.fr (W := W_c0) (Fr.sI (by decide) (Fr.sI (by decide) Fr.r)) (by decide)), ((lra.fr (W := W_r0) (Fr.sI (by decide) Fr.r) (by decide)).fr g61 (by decide)), (cua.fr (W := W_c0) (Fr.sI (by decide) (Fr.sI (by decide) Fr.r)) (by decide)), ((rua.fr (W := W_r0) (Fr.sI (by decide) Fr.r) (by decide)).fr g61 (by decide))⟩ ⟨by omega, by omega, by omega, by omega, by omega, by omega, by omega, by omega, by omega, by omega, by omega, by omega⟩ (vs1 (adI (rfl) (li_1)))) fun v Mx62 w Nx62 hx62 => ?_
      rcases hx62 with ⟨i62, e62, u62, uc62, G62, U62, X62, fl62, fr62, sc62, sr62, rw62, bd62, mv62, ag62, au62, ax62⟩ | ⟨F62, P62, fl62, fr62, tc62, tr62⟩
      ·
        have FL62 : Fr W_cp Mc Mx62 := Fr.t (Fr.sI (by decide) (Fr.sI (by decide) Fr.r)) fl62
        have FR62 : Fr W_rx Mr Nx62 := Fr.t f61 fr62
        obtain ⟨bb62_0, bb62_1, bb62_2, bb62_3, bb62_4, bb62_5, bb62_6, bb62_7, bb62_8, bb62_9, bb62_10, bb62_11⟩ := bd62
        obtain ⟨q62_12, q62_13, q62_10, q62_9, q62_16, q62_19⟩ := sc62
        obtain ⟨w62_36, w62_37, w62_38, w62_41, w62_43, w62_51, w62_53, w62_50, w62_n⟩ := sr62
        obtain ⟨ca62, ra62, lc62, lr62, cu62, ru62⟩ := rw62
        have hk63 := (hS.ok i62 (by omega) (by omega)).r
        refine rsl (cV_e rfl) ?_
        refine rsr (cV_e rfl) ?_
        refine rsl (vC_e (ck_65 (hC.fr FL62))) ?_
        refine RlI (a87 (by omega) (hC.fr FL62) (q62_9) (li_23) (li_0) (by omega)) fun v Ma65 h65 => ?_
        obtain ⟨r64, rfl, g65, e65_k0, p65_0, p65_1⟩ := h65
        have f65 : Fr W_cp Mc Ma65 := Fr.t FL62 (Fr.m g65 (by decide))
        refine rsl (cI_e rfl) ?_
        refine rsl (jv_e) ?_
        refine rsr (gtI_q (w := iI (dp + 1)) (rk_160 (hR.fr FR62)) (w62_50)) ?_
        refine rsr (ptI_q (z := dp) (rk_160 (hR.fr FR62)) (cvI (sbI (rfl) (li_1)) (by omega))) ?_
        refine rsr (jn_v) ?_
        refine rsr (if_neg (krI_n (k := 45) (rfl) (li_45) (hS.ok i (by omega) (by omega)) (by unfold KdOK sgk; omega) (by decide +kernel) (by omega) (by omega))) ?_
        refine rsr (jv_e) ?_
        refine rsr (vC_e (rk_160 (hR.fr FR62).sI)) ?_
        refine RrI (a196 (by omega) (hR.fr FR62).sI ((sI_nej (by decide)).trans (w62_43)) ((sI_nej (by decide)).trans ((FR62.i _ _ (by decide)).trans h49)) ((sI_nej (by decide)).trans ((FR62.i _ _ (by decide)).trans h48)) (li_23) (li_0) (by omega)) fun v Ma67 h67 => ?_
        obtain ⟨r66, rfl, g67, e67_k0, p67_0, p67_1⟩ := h67
        have f67 : Fr W_rx Mr Ma67 := Fr.t (Fr.sI (by decide) FR62) (Fr.m g67 (by decide))
        refine rsr (cI_e rfl) ?_
        refine rsr (jv_e) ?_
        exact Rs.ok (Or.inl ⟨i62, (e62 + 1), u62, uc62, (pu G62 e62 [23, 0, -2, 0, ut, mu, 0]), U62, X62, f65, f67, ⟨(g65.i _ _ (by decide)).trans (q62_12), (g65.i _ _ (by decide)).trans (q62_13), (g65.i _ _ (by decide)).trans (q62_10), e65_k0, (g65.i _ _ (by decide)).trans (q62_16), (g65.i _ _ (by decide)).trans (q62_19)⟩, ⟨(g67.i _ _ (by decide)).trans ((sI_nej (by decide)).trans (w62_36)), (g67.i _ _ (by decide)).trans ((sI_nej (by decide)).trans (w62_37)), (g67.i _ _ (by decide)).trans ((sI_nej (by decide)).trans (w62_38)), (g67.i _ _ (by decide)).trans ((sI_nej (by decide)).trans (w62_41)), e67_k0, (g67.i _ _ (by decide)).trans ((sI_nej (by decide)).trans (w62_51)), (g67.i _ _ (by decide)).trans ((sI_nej (by decide)).trans (w62_53)), (g67.i _ _ (by decide)).trans (sI_eq), ((w62_n.fr (W := W_r0) (Fr.sI (by decide) Fr.r) (by decide) (by decide)).fr g67 (by decide) (by decide))⟩, ⟨(CA1.em ca62 (by omega) p65_1 rfl), (RA1.em (ra62.fr (W := W_r0) (Fr.sI (by decide) Fr.r) (by decide)) (by omega) p67_1 rfl), (lc62.fr g65 (by decide)), ((lr62.fr (W := W_r0) (Fr.sI (by decide) Fr.r) (by decide)).fr g67 (by decide)), (cu62.fr g65 (by decide)), ((ru62.fr (W := W_r0) (Fr.sI (by decide) Fr.r) (by decide)).fr g67 (by decide))⟩, ⟨by omega, by omega, by omega, by omega, by omega, by omega, by omega, by omega, by omega, by omega, by omega, by omega⟩, ⟨by omega, by omega, by omega, by omega, by omega, by omega⟩, (Ag.pu (Ag.t Ag.r ag62 (by omega)) (by omega)), (Ag.t Ag.r au62 (by omega)), (AgL.t AgL.r ax62 (by omega))⟩)
      ·
        have FL62 : Fr W_cp Mc Mx62 := Fr.t (Fr.sI (by decide) (Fr.sI (by decide) Fr.r)) fl62
        have FR62 : Fr W_rp Mr Nx62 := Fr.t (Fr.m f61 W_rx_p) fr62
        obtain ⟨ti62, tz62, tn62, tu62, t1362, t1062, t1162, t1262, t962, t1662, t1962, tb62⟩ := tc62
        obtain ⟨re62, rn62, ru62, rm62, rt62, u4162, u4262, u4362, u5162, u5362, u4862, u4962, ub62⟩ := tr62
        refine rsl (cV_e rfl) ?_
        refine rsr (cV_e rfl) ?_
        refine rsl (vC_e (ck_65 (hC.fr FL62))) ?_
        refine RlI (y87 (by omega) (hC.fr FL62) (hTk.fr (WL := W_cp) FL62 (by decide)) (t1262) (t1362) (t1062) (t1162) (t962) (t1662) (t1962) (li_23) (li_0) (by omega)) fun v Ma69 h69 => ?_
        obtain ⟨rv68, sz68, sn68, uc68, rfl, g69, e69_sz68, e69_sn68, e69_uc68, e69_k0, e69_k1, e69_k2, e69_k3, p69_0, p69_1, p69_2, p69_3⟩ := h69
        have f69 : Fr W_cp Mc Ma69 := Fr.t FL62 (Fr.m g69 (by decide))
        refine rsl (cI_e rfl) ?_
        refine rsl (jv_e) ?_
        have b70 := V_r (M := Nx62) (a := 160) (j := 50)
        refine rsr (gtI_q (w := iI ((V Nx62 160 50))) (rk_160 (hR.fr FR62)) (eV)) ?_
        refine rsr (ptI_q (z := ((V Nx62 160 50) - 1)) (rk_160 (hR.fr FR62)) (cvI (sbI (rfl) (li_1)) (by omega))) ?_
        refine rsr (jn_v) ?_
        refine rsr (if_neg (krI_n (k := 45) (rfl) (li_45) (hS.ok i (by omega) (by omega)) (by unfold KdOK sgk; omega) (by decide +kernel) (by omega) (by omega))) ?_
        refine rsr (jv_e) ?_
        refine rsr (vC_e (rk_160 (hR.fr FR62).sI)) ?_
        refine RrI (x196_s (by omega) (hR.fr FR62).sI ((sI_nej (by decide)).trans (u4162)) ((sI_nej (by decide)).trans (u4262)) ((sI_nej (by decide)).trans (u4362)) ((sI_nej (by decide)).trans (u5162)) ((sI_nej (by decide)).trans (u5362)) ((sI_nej (by decide)).trans (u4862)) ((sI_nej (by decide)).trans (u4962)) (li_23) (li_0) (by omega)) fun v Ma72 h72 => ?_
        obtain ⟨rv71, em71, rfl, g72, e72_em71, e72_k0, e72_k1, e72_k2, e72_k3, e72_k4, p72_0, p72_1⟩ := h72
        have f72 : Fr W_rp Mr Ma72 := Fr.t (Fr.sI (by decide) FR62) (Fr.m g72 (by decide))
        refine rsr (cI_e rfl) ?_
        refine rsr (jv_e) ?_
        exact Rs.ok (Or.inr ⟨F62, P62, f69, f72, ⟨ti62, sz68, sn68, uc68, e69_k0, e69_k1, e69_k2, e69_k3, e69_sz68, e69_sn68, e69_uc68, by omega⟩, ⟨em71, rn62, ru62, rm62, rt62, e72_k0, e72_k1, e72_em71, e72_k2, e72_k3, e72_k4, (g72.i _ _ (by decide)).trans ((sI_nej (by decide)).trans (u4962)), by omega⟩⟩)
    ·
      refine rsl (cV_e (a69_6 (by omega) hS hC (hTk.fr (WL := W_cp) Fr.r (by decide)) (qa_12) (qa_13) (qa_10) (li_224) (rfl) (by omega))) ?_
      refine rsl (vC_e (ck_65 hC.sI.sI.sI)) ?_
      refine RlV (y100 (by omega) hC.sI.sI.sI (hTk.fr (WL := W_cp) (Fr.sI (by decide) (Fr.sI (by decide) (Fr.sI (by decide) Fr.r))) (by decide)) ((sI_nej (by decide)).trans ((sI_nej (by decide)).trans ((sI_nej (by decide)).trans (qa_12)))) (sI_eq) ((sI_nej (by decide)).trans ((sI_nej (by decide)).trans (sI_eq))) ((sI_nej (by decide)).trans (sI_eq)) ((sI_nej (by decide)).trans ((sI_nej (by decide)).trans ((sI_nej (by decide)).trans (qa_9)))) ((sI_nej (by decide)).trans ((sI_nej (by decide)).trans ((sI_nej (by decide)).trans (qa_16)))) ((sI_nej (by decide)).trans ((sI_nej (by decide)).trans ((sI_nej (by decide)).trans (qa_19)))) (adI (rfl) (li_1)) (by omega)) fun v Ma74 h74 => ?_
      obtain ⟨sz73, sn73, uc73, g74, e74_sz73, e74_sn73, e74_uc73, e74_k0, e74_k1, e74_k2, e74_k3, p74_0, p74_1, p74_2⟩ := h74
      have f74 : Fr W_cp Mc Ma74 := Fr.t (Fr.sI (by decide) (Fr.sI (by decide) (Fr.sI (by decide) Fr.r))) (Fr.m g74 (by decide))
      refine rsl (cV_e rfl) ?_
      refine rsl (vC_e (ck_65 (hC.fr f74))) ?_
      refine RlI (y87 (by omega) (hC.fr f74) (hTk.fr (WL := W_cp) f74 (by decide)) (e74_k3) (e74_k0) (e74_k1) (e74_k2) (e74_sz73) (e74_sn73) (e74_uc73) (li_23) (li_0) (by omega)) fun v Ma76 h76 => ?_
      obtain ⟨rv75, sz75, sn75, uc75, rfl, g76, e76_sz75, e76_sn75, e76_uc75, e76_k0, e76_k1, e76_k2, e76_k3, p76_0, p76_1, p76_2, p76_3⟩ := h76
      have f76 : Fr W_cp Mc Ma76 := Fr.t f74 (Fr.m g76 (by decide))
      refine rsl (cI_e rfl) ?_
      refine rsl (jv_e) ?_
      refine rsr (gtI_q (w := iI 0) (rk_160 hR) (wa_41)) ?_
      refine rsr (jn_v) ?_
      refine rsr (if_pos (eqI_p (rfl) (li_0) (by omega))) ?_
      refine rsr (gtI_q (w := iI ((kr (kd i)))) (rk_160 hR) (wa_36)) ?_
      refine rsr (jn_v) ?_
      refine rsr (jn_v) ?_
      refine rsr (if_neg (krI_n (k := 4) (rfl) (li_2) (hS.ok i (by omega) (by omega)) (by unfold KdOK sgk; omega) (by decide +kernel) (by omega) (by omega))) ?_
      refine rsr (gtI_q (w := iI ((kr (kd i)))) (rk_160 hR) (wa_36)) ?_
      refine rsr (if_neg (krI_n (k := 45) (rfl) (li_45) (hS.ok i (by omega) (by omega)) (by unfold KdOK sgk; omega) (by decide +kernel) (by omega) (by omega))) ?_
      refine rsr (gtI_q (w := iI ((kr (kd i)))) (rk_160 hR) (wa_36)) ?_
      refine rsr (if_pos (krI_p (k := 224) (rfl) (li_425) (by omega) (by decide +kernel))) ?_
      refine rsr (jv_e) ?_
      refine rsr (jv_e) ?_
      refine rsr (vC_e (rk_160 hR)) ?_
      refine rsr (cI_e (ar193_p (by omega) hS hR (wa_36) (wa_37) (wa_41) (li_1) (by omega))) ?_
      refine rsr (if_neg (eqI_n (rfl) (li_0) (by omega))) ?_
      refine rsr (gtI_q (w := iI ((kr (kd i)))) (rk_160 hR) (wa_36)) ?_
      refine rsr (jn_v) ?_
      refine rsr (if_neg (krI_n (k := 4) (rfl) (li_2) (hS.ok i (by omega) (by omega)) (by unfold KdOK sgk; omega) (by decide +kernel) (by omega) (by omega))) ?_
      refine rsr (if_neg (krI_n (k := 3) (rfl) (li_1) (hS.ok i (by omega) (by omega)) (by unfold KdOK sgk; omega) (by decide +kernel) (by omega) (by omega))) ?_
      refine rsr (vC_e (rk_160 hR)) ?_
      refine rsr (cI_e (ar200_6 (by omega) hS hR (wa_36) (wa_37) (wa_41) (wa_50) (by omega))) ?_
      refine rsr (if_pos (eqI_p (rfl) (li_0) (by omega))) ?_
      refine rsr (jv_e) ?_
      exact Rs.ok (Or.inr ⟨6, ((pl i)), f76, (Fr.sI (by decide) (Fr.sI (by decide) (Fr.sI (by decide) Fr.r))), ⟨i, sz75, sn75, uc75, e76_k0, e76_k1, e76_k2, e76_k3, e76_sz75, e76_sn75, e76_uc75, by omega⟩, ⟨e, s, u, mu, ut, (sI_nej (by decide)).trans (sI_eq), sI_eq, (sI_nej (by decide)).trans ((sI_nej (by decide)).trans ((sI_nej (by decide)).trans (wa_43))), (sI_nej (by decide)).trans ((sI_nej (by decide)).trans ((sI_nej (by decide)).trans (wa_51))), (sI_nej (by decide)).trans ((sI_nej (by decide)).trans ((sI_nej (by decide)).trans (wa_53))), (sI_nej (by decide)).trans ((sI_nej (by decide)).trans ((sI_nej (by decide)).trans (h48))), (sI_nej (by decide)).trans ((sI_nej (by decide)).trans ((sI_nej (by decide)).trans (h49))), by omega⟩⟩)
  refine rsl (if_neg (eqI_n (rfl) (li_224) (by omega))) ?_
  refine rsl (swI_n) ?_
  refine rsl (vC_e (ck_65 hC)) ?_
  by_cases c77 : ((kd i)) = 1
  ·
    refine rsl (cV_e (a62_1 (by omega) hS hC (hTk.fr (WL := W_cp) Fr.r (by decide)) (qa_12) (qa_13) (qa_10) (li_2) (by omega))) ?_
    refine rsl (jv_e) ?_
    refine rsr (gtI_q (w := iI 0) (rk_160 hR) (wa_41)) ?_
    refine rsr (jn_v) ?_
    refine rsr (if_pos (eqI_p (rfl) (li_0) (by omega))) ?_
    refine rsr (gtI_q (w := iI ((kr (kd i)))) (rk_160 hR) (wa_36)) ?_
    refine rsr (jn_v) ?_
    refine rsr (jn_v) ?_
    refine rsr (if_neg (krI_n (k := 4) (rfl) (li_2) (hS.ok i (by omega) (by omega)) (by unfold KdOK sgk; omega) (by decide +kernel) (by omega) (by omega))) ?_
    refine rsr (gtI_q (w := iI ((kr (kd i)))) (rk_160 hR) (wa_36)) ?_
    refine rsr (if_neg (krI_n (k := 45) (rfl) (li_45) (hS.ok i (by omega) (by omega)) (by unfold KdOK sgk; omega) (by decide +kernel) (by omega) (by omega))) ?_
    refine rsr (gtI_q (w := iI ((kr (kd i)))) (rk_160 hR) (wa_36)) ?_
    refine rsr (if_neg (krI_n (k := 224) (rfl) (li_425) (hS.ok i (by omega) (by omega)) (by unfold KdOK sgk; omega) (by decide +kernel) (by omega) (by omega))) ?_
    refine rsr (gtI_q (w := iI ((kr (kd i)))) (rk_160 hR) (wa_36)) ?_
    refine rsr (if_neg (krI_n (k := 40) (rfl) (li_40) (hS.ok i (by omega) (by omega)) (by unfold KdOK sgk; omega) (by decide +kernel) (by omega) (by omega))) ?_
    refine rsr (gtI_q (w := iI ((kr (kd i)))) (rk_160 hR) (wa_36)) ?_
    refine rsr (if_neg (krI_n (k := 3) (rfl) (li_1) (hS.ok i (by omega) (by omega)) (by unfold KdOK sgk; omega) (by decide +kernel) (by omega) (by omega))) ?_
    refine rsr (jv_e) ?_
    refine rsr (vC_e (rk_160 hR)) ?_
    refine rsr (cI_e (ar193_1 (by omega) hS hR (wa_36) (wa_37) (wa_41) (li_0) (by omega))) ?_
    refine rsr (if_pos (eqI_p (rfl) (li_0) (by omega))) ?_
    refine rsr (jv_e) ?_
    exact Rs.ok (Or.inr ⟨1, ((pl i)), (Fr.sI (by decide) (Fr.sI (by decide) (Fr.sI (by decide) Fr.r))), (Fr.sI (by decide) (Fr.sI (by decide) Fr.r)), ⟨i, e, s, uc, sI_eq, (sI_nej (by decide)).trans ((sI_nej (by decide)).trans (sI_eq)), (sI_nej (by decide)).trans (sI_eq), (sI_nej (by decide)).trans ((sI_nej (by decide)).trans ((sI_nej (by decide)).trans (qa_12))), (sI_nej (by decide)).trans ((sI_nej (by decide)).trans ((sI_nej (by decide)).trans (qa_9))), (sI_nej (by decide)).trans ((sI_nej (by decide)).trans ((sI_nej (by decide)).trans (qa_16))), (sI_nej (by decide)).trans ((sI_nej (by decide)).trans ((sI_nej (by decide)).trans (qa_19))), by omega⟩, ⟨e, s, u, mu, ut, (sI_nej (by decide)).trans (sI_eq), sI_eq, (sI_nej (by decide)).trans ((sI_nej (by decide)).trans (wa_43)), (sI_nej (by decide)).trans ((sI_nej (by decide)).trans (wa_51)), (sI_nej (by decide)).trans ((sI_nej (by decide)).trans (wa_53)), (sI_nej (by decide)).trans ((sI_nej (by decide)).trans (h48)), (sI_nej (by decide)).trans ((sI_nej (by decide)).trans (h49)), by omega⟩⟩)
  ·
    refine rsl (cV_e (a62_2 (by omega) hS hC (hTk.fr (WL := W_cp) Fr.r (by decide)) (qa_12) (qa_13) (qa_10) (li_2) (by omega))) ?_
    refine rsl (jv_e) ?_
    refine rsr (gtI_q (w := iI 0) (rk_160 hR) (wa_41)) ?_
    refine rsr (jn_v) ?_
    refine rsr (if_pos (eqI_p (rfl) (li_0) (by omega))) ?_
    refine rsr (gtI_q (w := iI ((kr (kd i)))) (rk_160 hR) (wa_36)) ?_
    refine rsr (jn_v) ?_
    refine rsr (jn_v) ?_
    refine rsr (if_neg (krI_n (k := 4) (rfl) (li_2) (hS.ok i (by omega) (by omega)) (by unfold KdOK sgk; omega) (by decide +kernel) (by omega) (by omega))) ?_
    refine rsr (gtI_q (w := iI ((kr (kd i)))) (rk_160 hR) (wa_36)) ?_
    refine rsr (if_neg (krI_n (k := 45) (rfl) (li_45) (hS.ok i (by omega) (by omega)) (by unfold KdOK sgk; omega) (by decide +kernel) (by omega) (by omega))) ?_
    refine rsr (gtI_q (w := iI ((kr (kd i)))) (rk_160 hR) (wa_36)) ?_
    refine rsr (if_neg (krI_n (k := 224) (rfl) (li_425) (hS.ok i (by omega) (by omega)) (by unfold KdOK sgk; omega) (by decide +kernel) (by omega) (by omega))) ?_
    refine rsr (gtI_q (w := iI ((kr (kd i)))) (rk_160 hR) (wa_36)) ?_
    refine rsr (if_neg (krI_n (k := 40) (rfl) (li_40) (hS.ok i (by omega) (by omega)) (by unfold KdOK sgk; omega) (by decide +kernel) (by omega) (by omega))) ?_
    refine rsr (gtI_q (w := iI ((kr (kd i)))) (rk_160 hR) (wa_36)) ?_
    refine rsr (if_neg (krI_n (k := 3) (rfl) (li_1) (hS.ok i (by omega) (by omega)) (by unfold KdOK sgk; omega) (by decide +kernel) (by omega) (by omega))) ?_
    refine rsr (jv_e) ?_
    refine rsr (vC_e (rk_160 hR)) ?_
    refine rsr (cI_e (ar193_2 (by omega) hS hR (wa_36) (wa_37) (wa_41) (li_0) (by omega))) ?_
    refine rsr (if_pos (eqI_p (rfl) (li_0) (by omega))) ?_
    refine rsr (jv_e) ?_
    exact Rs.ok (Or.inr ⟨2, ((pl i)), (Fr.sI (by decide) (Fr.sI (by decide) (Fr.sI (by decide) Fr.r))), (Fr.sI (by decide) (Fr.sI (by decide) Fr.r)), ⟨i, e, s, uc, sI_eq, (sI_nej (by decide)).trans ((sI_nej (by decide)).trans (sI_eq)), (sI_nej (by decide)).trans (sI_eq), (sI_nej (by decide)).trans ((sI_nej (by decide)).trans ((sI_nej (by decide)).trans (qa_12))), (sI_nej (by decide)).trans ((sI_nej (by decide)).trans ((sI_nej (by decide)).trans (qa_9))), (sI_nej (by decide)).trans ((sI_nej (by decide)).trans ((sI_nej (by decide)).trans (qa_16))), (sI_nej (by decide)).trans ((sI_nej (by decide)).trans ((sI_nej (by decide)).trans (qa_19))), by omega⟩, ⟨e, s, u, mu, ut, (sI_nej (by decide)).trans (sI_eq), sI_eq, (sI_nej (by decide)).trans ((sI_nej (by decide)).trans (wa_43)), (sI_nej (by decide)).trans ((sI_nej (by decide)).trans (wa_51)), (sI_nej (by decide)).trans ((sI_nej (by decide)).trans (wa_53)), (sI_nej (by decide)).trans ((sI_nej (by decide)).trans (h48)), (sI_nej (by decide)).trans ((sI_nej (by decide)).trans (h49)), by omega⟩⟩)
