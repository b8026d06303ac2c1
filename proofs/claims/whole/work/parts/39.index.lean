theorem p_x {D : Nat} {dp : Int} (hD : 20 ≤ D) (hE : dp < 20 → Pair D 99 [0] 211 14 (dp + 1)) : PairK 91 (D + 3) 98 [] 203 24 dp := by
  intro d d2 hd hd2 T n m kd pl E tx ua ut mu Mc Mr G U Hl X i e s u uc vs hS hx hsc hsr hrw hbd hK hvs
  subst hvs
  obtain ⟨d, rfl⟩ : ∃ e, d = e + 1 := ⟨d - 1, by omega⟩
  obtain ⟨d2, rfl⟩ : ∃ e, d2 = e + 1 := ⟨d2 - 1, by omega⟩
  show Rs (runX (d + 1) 98 [va_rf (some 65), .int (iI dp)] Mc) (runX (d2 + 1) 203 [va_rf (some 160)] Mr) _
  rw [r98]; unfold b98; rw [aR_e, aI_e, aZ_e]; unfold c98; rw [r203]; unfold b203; rw [aR_e, aZ_e]; unfold c203
  have hCx := hx
  obtain ⟨hC, hR, hTk, hT, hW, ⟨hu1, hu2, hu3, hu4⟩, h49, h48, ⟨hb1, hb2, hb3, hb4⟩⟩ := hx
  obtain ⟨bb_0, bb_1, bb_2, bb_3, bb_4, bb_5, bb_6, bb_7, bb_8, bb_9, bb_10, bb_11⟩ := hbd
  obtain ⟨qa_12, qa_13, qa_10, qa_9, qa_16, qa_19⟩ := hsc
  obtain ⟨wa_36, wa_37, wa_38, wa_41, wa_43, wa_51, wa_53, wa_50, wa_n⟩ := hsr
  obtain ⟨caa, raa, lca, lra, cua, rua⟩ := hrw
  have hk1 := (hS.ok i (by omega) (by omega)).r
  refine rsl (vC_e (ck_65 hC)) ?_
  by_cases c2 : dp < 20
  ·
    have hm3 : i + 1 < m := hS.more i (by omega) (by omega) (by omega)
    refine rsl (cV_e (a69q (by omega) hS hC (hTk.fr (WL := W_cp) Fr.r (by decide)) (qa_12) (qa_13) (qa_10) (li_91) (rfl) (i2 := (i + 1)) (by omega) (by omega))) ?_
    have hk4 := (hS.ok (i + 1) (by omega) (by omega)).r
    refine rsl (vC_e (ck_65 hC.sI.sI)) ?_
    refine rsr (vC_e (rk_160 hR)) ?_
    refine rsr (cI_e (ar200_p (by omega) hS hR (wa_36) (wa_37) (wa_41) (wa_50) (by omega))) ?_
    refine rsr (jn_v) ?_
    refine rsr (if_neg (eqI_n (rfl) (li_0) (by omega))) ?_
    refine rsr (vC_e (rk_160 hR.sI)) ?_
    refine RrV (nx_ok (by omega) hS hR.sI (hT.fr (W := W_rx) (Fr.sI (by decide) Fr.r) (by decide) (by decide)) (fun i a b => (Fr.lc (W := W_rx) (Fr.sI (by decide) Fr.r) _ (by decide) _).trans (hW i a b)) (i := i) ((sI_nej (by decide)).trans (wa_41)) ((sI_nej (by decide)).trans (wa_38)) (by omega) (by omega)) fun v Ma6 h6 => ?_
    obtain ⟨g6, e6_k0, e6_k1, e6_k2, p6_0⟩ := h6
    have f6 : Fr W_rx Mr Ma6 := Fr.t (Fr.sI (by decide) Fr.r) (Fr.m g6 (by decide))
    refine rsr (cV_e rfl) ?_
    refine rsr (vC_e (rk_160 (hR.fr f6))) ?_
    refine Rb_VV ((hE (by omega)) _ _ (by omega) (by omega) T n m kd pl E tx ua ut mu _ _ G U Hl X (i + 1) e s u uc _ hS (hCx.fr (Fr.sI (by decide) (Fr.sI (by decide) Fr.r)) f6) ⟨(sI_nej (by decide)).trans (sI_eq), sI_eq, (sI_nej (by decide)).trans ((sI_nej (by decide)).trans (qa_10)), (sI_nej (by decide)).trans ((sI_nej (by decide)).trans (qa_9)), (sI_nej (by decide)).trans ((sI_nej (by decide)).trans (qa_16)), (sI_nej (by decide)).trans ((sI_nej (by decide)).trans (qa_19))⟩ ⟨e6_k0, e6_k1, e6_k2, (g6.i _ _ (by decide)).trans ((sI_nej (by decide)).trans (wa_41)), (g6.i _ _ (by decide)).trans ((sI_nej (by decide)).trans (wa_43)), (g6.i _ _ (by decide)).trans ((sI_nej (by decide)).trans (wa_51)), (g6.i _ _ (by decide)).trans ((sI_nej (by decide)).trans (wa_53)), (g6.i _ _ (by decide)).trans (sI_eq), p6_0⟩ ⟨(caa.fr (W := W_c0) (Fr.sI (by decide) (Fr.sI (by decide) Fr.r)) (by decide)), ((raa.fr (W := W_r0) (Fr.sI (by decide) Fr.r) (by decide)).fr g6 (by decide)), (lca.fr (W := W_c0) (Fr.sI (by decide) (Fr.sI (by decide) Fr.r)) (by decide)), ((lra.fr (W := W_r0) (Fr.sI (by decide) Fr.r) (by decide)).fr g6 (by decide)), (cua.fr (W := W_c0) (Fr.sI (by decide) (Fr.sI (by decide) Fr.r)) (by decide)), ((rua.fr (W := W_r0) (Fr.sI (by decide) Fr.r) (by decide)).fr g6 (by decide))⟩ ⟨by omega, by omega, by omega, by omega, by omega, by omega, by omega, by omega, by omega, by omega, by omega, by omega⟩ (vs2 (li_0) (adI (rfl) (li_1)))) fun v Mx7 w Nx7 hx7 => ?_
    rcases hx7 with ⟨i7, e7, u7, uc7, G7, U7, X7, fl7, fr7, sc7, sr7, rw7, bd7, mv7, ag7, au7, ax7⟩ | ⟨F7, P7, fl7, fr7, tc7, tr7⟩
    ·
      have FL7 : Fr W_cp Mc Mx7 := Fr.t (Fr.sI (by decide) (Fr.sI (by decide) Fr.r)) fl7
      have FR7 : Fr W_rx Mr Nx7 := Fr.t f6 fr7
      obtain ⟨bb7_0, bb7_1, bb7_2, bb7_3, bb7_4, bb7_5, bb7_6, bb7_7, bb7_8, bb7_9, bb7_10, bb7_11⟩ := bd7
      obtain ⟨q7_12, q7_13, q7_10, q7_9, q7_16, q7_19⟩ := sc7
      obtain ⟨w7_36, w7_37, w7_38, w7_41, w7_43, w7_51, w7_53, w7_50, w7_n⟩ := sr7
      obtain ⟨ca7, ra7, lc7, lr7, cu7, ru7⟩ := rw7
      have hk8 := (hS.ok i7 (by omega) (by omega)).r
      refine rsl (cV_e rfl) ?_
      refine rsr (cV_e rfl) ?_
      refine rsl (vC_e (ck_65 (hC.fr FL7))) ?_
      by_cases c9 : ((kd i7)) = 93
      ·
        have hm10 : i7 + 1 < m := hS.more i7 (by omega) (by omega) (by omega)
        refine rsl (cV_e (a64q (by omega) hS (hC.fr FL7) (hTk.fr (WL := W_cp) FL7 (by decide)) (q7_12) (q7_13) (q7_10) (li_93) (i2 := (i7 + 1)) (by omega) (by omega))) ?_
        have hk11 := (hS.ok (i7 + 1) (by omega) (by omega)).r
        refine rsr (gtI_q (w := iI 0) (rk_160 (hR.fr FR7)) (w7_41)) ?_
        refine rsr (if_pos (eqI_p (rfl) (li_0) (by omega))) ?_
        refine rsr (gtI_q (w := iI ((kr (kd i7)))) (rk_160 (hR.fr FR7)) (w7_36)) ?_
        refine rsr (jn_v) ?_
        refine rsr (if_pos (krI_p (k := 93) (rfl) (li_93) (by omega) (by decide +kernel))) ?_
        refine rsr (jv_e) ?_
        refine rsr (vC_e (rk_160 (hR.fr FR7))) ?_
        refine rsr (cI_e (ar193_p (by omega) hS (hR.fr FR7) (w7_36) (w7_37) (w7_41) (li_1) (by omega))) ?_
        refine rsr (if_neg (eqI_n (rfl) (li_0) (by omega))) ?_
        refine rsr (gtI_q (w := iI (dp + 1)) (rk_160 (hR.fr FR7)) (w7_50)) ?_
        refine rsr (ptI_q (z := dp) (rk_160 (hR.fr FR7)) (cvI (sbI (rfl) (li_1)) (by omega))) ?_
        refine rsr (vC_e (rk_160 (hR.fr FR7).sI)) ?_
        refine RrV (nx_ok (by omega) hS (hR.fr FR7).sI (hT.fr (W := W_rx) (Fr.sI (by decide) FR7) (by decide) (by decide)) (fun i a b => (Fr.lc (W := W_rx) (Fr.sI (by decide) FR7) _ (by decide) _).trans (hW i a b)) (i := i7) ((sI_nej (by decide)).trans (w7_41)) ((sI_nej (by decide)).trans (w7_38)) (by omega) (by omega)) fun v Ma13 h13 => ?_
        obtain ⟨g13, e13_k0, e13_k1, e13_k2, p13_0⟩ := h13
        have f13 : Fr W_rx Mr Ma13 := Fr.t (Fr.sI (by decide) FR7) (Fr.m g13 (by decide))
        refine rsr (cV_e rfl) ?_
        refine rsr (jv_e) ?_
        exact Rs.ok (Or.inl ⟨(i7 + 1), e7, u7, uc7, G7, U7, X7, (Fr.sI (by decide) (Fr.sI (by decide) FL7)), f13, ⟨(sI_nej (by decide)).trans (sI_eq), sI_eq, (sI_nej (by decide)).trans ((sI_nej (by decide)).trans (q7_10)), (sI_nej (by decide)).trans ((sI_nej (by decide)).trans (q7_9)), (sI_nej (by decide)).trans ((sI_nej (by decide)).trans (q7_16)), (sI_nej (by decide)).trans ((sI_nej (by decide)).trans (q7_19))⟩, ⟨e13_k0, e13_k1, e13_k2, (g13.i _ _ (by decide)).trans ((sI_nej (by decide)).trans (w7_41)), (g13.i _ _ (by decide)).trans ((sI_nej (by decide)).trans (w7_43)), (g13.i _ _ (by decide)).trans ((sI_nej (by decide)).trans (w7_51)), (g13.i _ _ (by decide)).trans ((sI_nej (by decide)).trans (w7_53)), (g13.i _ _ (by decide)).trans (sI_eq), p13_0⟩, ⟨(ca7.fr (W := W_c0) (Fr.sI (by decide) (Fr.sI (by decide) Fr.r)) (by decide)), ((ra7.fr (W := W_r0) (Fr.sI (by decide) Fr.r) (by decide)).fr g13 (by decide)), (lc7.fr (W := W_c0) (Fr.sI (by decide) (Fr.sI (by decide) Fr.r)) (by decide)), ((lr7.fr (W := W_r0) (Fr.sI (by decide) Fr.r) (by decide)).fr g13 (by decide)), (cu7.fr (W := W_c0) (Fr.sI (by decide) (Fr.sI (by decide) Fr.r)) (by decide)), ((ru7.fr (W := W_r0) (Fr.sI (by decide) Fr.r) (by decide)).fr g13 (by decide))⟩, ⟨by omega, by omega, by omega, by omega, by omega, by omega, by omega, by omega, by omega, by omega, by omega, by omega⟩, ⟨by omega, by omega, by omega, by omega, by omega, by omega⟩, (Ag.t Ag.r ag7 (by omega)), (Ag.t Ag.r au7 (by omega)), (AgL.t AgL.r ax7 (by omega))⟩)
      ·
        by_cases c14 : ((kd i7)) = 1
        ·
          refine rsl (cV_e (a64_1 (by omega) hS (hC.fr FL7) (hTk.fr (WL := W_cp) FL7 (by decide)) (q7_12) (q7_13) (q7_10) (li_93) (by omega))) ?_
          refine rsr (gtI_q (w := iI 0) (rk_160 (hR.fr FR7)) (w7_41)) ?_
          refine rsr (if_pos (eqI_p (rfl) (li_0) (by omega))) ?_
          refine rsr (gtI_q (w := iI ((kr (kd i7)))) (rk_160 (hR.fr FR7)) (w7_36)) ?_
          refine rsr (jn_v) ?_
          refine rsr (if_neg (krI_n (k := 93) (rfl) (li_93) (hS.ok i7 (by omega) (by omega)) (by unfold KdOK sgk; omega) (by decide +kernel) (by omega) (by omega))) ?_
          refine rsr (jv_e) ?_
          refine rsr (vC_e (rk_160 (hR.fr FR7))) ?_
          refine rsr (cI_e (ar193_1 (by omega) hS (hR.fr FR7) (w7_36) (w7_37) (w7_41) (li_0) (by omega))) ?_
          refine rsr (if_pos (eqI_p (rfl) (li_0) (by omega))) ?_
          refine rsr (jv_e) ?_
          exact Rs.ok (Or.inr ⟨1, ((pl i7)), (Fr.sI (by decide) (Fr.sI (by decide) (Fr.sI (by decide) FL7))), (Fr.sI (by decide) (Fr.sI (by decide) (Fr.m FR7 (by decide)))), ⟨i7, e7, s, uc7, sI_eq, (sI_nej (by decide)).trans ((sI_nej (by decide)).trans (sI_eq)), (sI_nej (by decide)).trans (sI_eq), (sI_nej (by decide)).trans ((sI_nej (by decide)).trans ((sI_nej (by decide)).trans (q7_12))), (sI_nej (by decide)).trans ((sI_nej (by decide)).trans ((sI_nej (by decide)).trans (q7_9))), (sI_nej (by decide)).trans ((sI_nej (by decide)).trans ((sI_nej (by decide)).trans (q7_16))), (sI_nej (by decide)).trans ((sI_nej (by decide)).trans ((sI_nej (by decide)).trans (q7_19))), by omega⟩, ⟨e7, s, u7, mu, ut, (sI_nej (by decide)).trans (sI_eq), sI_eq, (sI_nej (by decide)).trans ((sI_nej (by decide)).trans (w7_43)), (sI_nej (by decide)).trans ((sI_nej (by decide)).trans (w7_51)), (sI_nej (by decide)).trans ((sI_nej (by decide)).trans (w7_53)), (sI_nej (by decide)).trans ((sI_nej (by decide)).trans ((FR7.i _ _ (by decide)).trans h48)), (sI_nej (by decide)).trans ((sI_nej (by decide)).trans ((FR7.i _ _ (by decide)).trans h49)), by omega⟩⟩)
        ·
          refine rsl (cV_e (a64_2 (by omega) hS (hC.fr FL7) (hTk.fr (WL := W_cp) FL7 (by decide)) (q7_12) (q7_13) (q7_10) (li_93) (by omega))) ?_
          refine rsr (gtI_q (w := iI 0) (rk_160 (hR.fr FR7)) (w7_41)) ?_
          refine rsr (if_pos (eqI_p (rfl) (li_0) (by omega))) ?_
          refine rsr (gtI_q (w := iI ((kr (kd i7)))) (rk_160 (hR.fr FR7)) (w7_36)) ?_
          refine rsr (jn_v) ?_
          refine rsr (if_neg (krI_n (k := 93) (rfl) (li_93) (hS.ok i7 (by omega) (by omega)) (by unfold KdOK sgk; omega) (by decide +kernel) (by omega) (by omega))) ?_
          refine rsr (jv_e) ?_
          refine rsr (vC_e (rk_160 (hR.fr FR7))) ?_
          refine rsr (cI_e (ar193_2 (by omega) hS (hR.fr FR7) (w7_36) (w7_37) (w7_41) (li_0) (by omega))) ?_
          refine rsr (if_pos (eqI_p (rfl) (li_0) (by omega))) ?_
          refine rsr (jv_e) ?_
          exact Rs.ok (Or.inr ⟨2, ((pl i7)), (Fr.sI (by decide) (Fr.sI (by decide) (Fr.sI (by decide) FL7))), (Fr.sI (by decide) (Fr.sI (by decide) (Fr.m FR7 (by decide)))), ⟨i7, e7, s, uc7, sI_eq, (sI_nej (by decide)).trans ((sI_nej (by decide)).trans (sI_eq)), (sI_nej (by decide)).trans (sI_eq), (sI_nej (by decide)).trans ((sI_nej (by decide)).trans ((sI_nej (by decide)).trans (q7_12))), (sI_nej (by decide)).trans ((sI_nej (by decide)).trans ((sI_nej (by decide)).trans (q7_9))), (sI_nej (by decide)).trans ((sI_nej (by decide)).trans ((sI_nej (by decide)).trans (q7_16))), (sI_nej (by decide)).trans ((sI_nej (by decide)).trans ((sI_nej (by decide)).trans (q7_19))), by omega⟩, ⟨e7, s, u7, mu, ut, (sI_nej (by decide)).trans (sI_eq), sI_eq, (sI_nej (by decide)).trans ((sI_nej (by decide)).trans (w7_43)), (sI_nej (by decide)).trans ((sI_nej (by decide)).trans (w7_51)), (sI_nej (by decide)).trans ((sI_nej (by decide)).trans (w7_53)), (sI_nej (by decide)).trans ((sI_nej (by decide)).trans ((FR7.i _ _ (by decide)).trans h48)), (sI_nej (by decide)).trans ((sI_nej (by decide)).trans ((FR7.i _ _ (by decide)).trans h49)), by omega⟩⟩)
    ·
      have FL7 : Fr W_cp Mc Mx7 := Fr.t (Fr.sI (by decide) (Fr.sI (by decide) Fr.r)) fl7
      have FR7 : Fr W_rp Mr Nx7 := Fr.t (Fr.m f6 W_rx_p) fr7
      obtain ⟨ti7, tz7, tn7, tu7, t137, t107, t117, t127, t97, t167, t197, tb7⟩ := tc7
      obtain ⟨re7, rn7, ru7, rm7, rt7, u417, u427, u437, u517, u537, u487, u497, ub7⟩ := tr7
      refine rsl (cV_e rfl) ?_
      refine rsr (cV_e rfl) ?_
      refine rsl (vC_e (ck_65 (hC.fr FL7))) ?_
      refine RlV (y64 (by omega) (hC.fr FL7) (hTk.fr (WL := W_cp) FL7 (by decide)) (t127) (t137) (t107) (t117) (t97) (t167) (t197) (li_93) (by omega)) fun v Ma16 h16 => ?_
      obtain ⟨sz15, sn15, uc15, g16, e16_sz15, e16_sn15, e16_uc15, e16_k0, e16_k1, e16_k2, e16_k3, p16_0, p16_1, p16_2⟩ := h16
      have f16 : Fr W_cp Mc Ma16 := Fr.t FL7 (Fr.m g16 (by decide))
      refine rsl (cV_e rfl) ?_
      refine rsr (gtI_q (w := iI F7) (rk_160 (hR.fr FR7)) (u417)) ?_
      refine rsr (if_neg (eqI_n (rfl) (li_0) (by omega))) ?_
      refine rsr (jv_e) ?_
      exact Rs.ok (Or.inr ⟨F7, P7, f16, FR7, ⟨ti7, sz15, sn15, uc15, e16_k0, e16_k1, e16_k2, e16_k3, e16_sz15, e16_sn15, e16_uc15, by omega⟩, ⟨re7, rn7, ru7, rm7, rt7, u417, u427, u437, u517, u537, u487, u497, by omega⟩⟩)
  ·
    refine rsl (cV_e (a69_6 (by omega) hS hC (hTk.fr (WL := W_cp) Fr.r (by decide)) (qa_12) (qa_13) (qa_10) (li_91) (rfl) (by omega))) ?_
    refine rsl (vC_e (ck_65 hC.sI.sI.sI)) ?_
    refine RlV (y99_0 (by omega) hC.sI.sI.sI (hTk.fr (WL := W_cp) (Fr.sI (by decide) (Fr.sI (by decide) (Fr.sI (by decide) Fr.r))) (by decide)) ((sI_nej (by decide)).trans ((sI_nej (by decide)).trans ((sI_nej (by decide)).trans (qa_12)))) (sI_eq) ((sI_nej (by decide)).trans ((sI_nej (by decide)).trans (sI_eq))) ((sI_nej (by decide)).trans (sI_eq)) ((sI_nej (by decide)).trans ((sI_nej (by decide)).trans ((sI_nej (by decide)).trans (qa_9)))) ((sI_nej (by decide)).trans ((sI_nej (by decide)).trans ((sI_nej (by decide)).trans (qa_16)))) ((sI_nej (by decide)).trans ((sI_nej (by decide)).trans ((sI_nej (by decide)).trans (qa_19)))) (li_0) (adI (rfl) (li_1)) (by omega)) fun v Ma18 h18 => ?_
    obtain ⟨sz17, sn17, uc17, g18, e18_sz17, e18_sn17, e18_uc17, e18_k0, e18_k1, e18_k2, e18_k3, p18_0, p18_1, p18_2⟩ := h18
    have f18 : Fr W_cp Mc Ma18 := Fr.t (Fr.sI (by decide) (Fr.sI (by decide) (Fr.sI (by decide) Fr.r))) (Fr.m g18 (by decide))
    refine rsl (cV_e rfl) ?_
    refine rsl (vC_e (ck_65 (hC.fr f18))) ?_
    refine RlV (y64 (by omega) (hC.fr f18) (hTk.fr (WL := W_cp) f18 (by decide)) (e18_k3) (e18_k0) (e18_k1) (e18_k2) (e18_sz17) (e18_sn17) (e18_uc17) (li_93) (by omega)) fun v Ma20 h20 => ?_
    obtain ⟨sz19, sn19, uc19, g20, e20_sz19, e20_sn19, e20_uc19, e20_k0, e20_k1, e20_k2, e20_k3, p20_0, p20_1, p20_2⟩ := h20
    have f20 : Fr W_cp Mc Ma20 := Fr.t f18 (Fr.m g20 (by decide))
    refine rsl (cV_e rfl) ?_
    refine rsr (vC_e (rk_160 hR)) ?_
    refine rsr (cI_e (ar200_6 (by omega) hS hR (wa_36) (wa_37) (wa_41) (wa_50) (by omega))) ?_
    refine rsr (jn_v) ?_
    refine rsr (if_pos (eqI_p (rfl) (li_0) (by omega))) ?_
    refine rsr (jv_e) ?_
    exact Rs.ok (Or.inr ⟨6, ((pl i)), f20, (Fr.sI (by decide) (Fr.sI (by decide) (Fr.sI (by decide) Fr.r))), ⟨i, sz19, sn19, uc19, e20_k0, e20_k1, e20_k2, e20_k3, e20_sz19, e20_sn19, e20_uc19, by omega⟩, ⟨e, s, u, mu, ut, (sI_nej (by decide)).trans (sI_eq), sI_eq, (sI_nej (by decide)).trans ((sI_nej (by decide)).trans ((sI_nej (by decide)).trans (wa_43))), (sI_nej (by decide)).trans ((sI_nej (by decide)).trans ((sI_nej (by decide)).trans (wa_51))), (sI_nej (by decide)).trans ((sI_nej (by decide)).trans ((sI_nej (by decide)).trans (wa_53))), (sI_nej (by decide)).trans ((sI_nej (by decide)).trans ((sI_nej (by decide)).trans (h48))), (sI_nej (by decide)).trans ((sI_nej (by decide)).trans ((sI_nej (by decide)).trans (h49))), by omega⟩⟩)
