theorem p_x {D : Nat} {dp : Int} (hD : 20 ≤ D) (hE : dp < 20 → Pair D 99 [0] 211 14 (dp + 1)) : PairK 91 (D + 3) 98 [] 203 24 dp := by
  intro d d2 hd hd2 T n m kd pl E tx ua ut mu Mc Mr G U Hl X i e s u uc vs hS hx hsc hsr hrw hbd hK hvs
  subst hvs
  obtain ⟨d, rfl⟩ : ∃ e, d = e + 1 := ⟨d - 1, by omega⟩
  obtain ⟨d2, rfl⟩ : ∃ e, d2 = e + 1 := ⟨d2 - 1, by omega⟩
  show Rs (runX (d + 1) 98 [va_rf (some 65), .int (iI dp)] Mc) (runX (d2 + 1) 203 [va_rf (some 160)] Mr) _
  rw [r98]; unfold b98; rw [aR_e, aI_e, aZ_e]; unfold c98; rw [r203]; unfold b203; rw [aR_e, aZ_e]; unfold c203
  have hCx := hx
  obtain ⟨hC, hR, hTk, hT, hW, ⟨hu1, hu2, hu3, hu4⟩, h49, h48, ⟨hb1, hb2, hb3, hb4⟩⟩ := hx
  obtain ⟨bb_0, bb_1, bb_2, bb_3, bb_4, bb_5, bb_6, bb_7, bb_8, bb_9, bb_10, bb_11⟩ := hbd
  have kua : KU uc Mc Mc := KU.r
  obtain ⟨qa_12, qa_13, qa_10, qa_9, qa_16, qa_19⟩ := hsc
  obtain ⟨wa_36, wa_37, wa_38, wa_41, wa_43, wa_51, wa_53, wa_50, wa_n⟩ := hsr
  obtain ⟨caa, raa, lca, lra, cua, rua⟩ := hrw
  have hk1 := (hS.ok i (by omega) (by omega)).r
  have ty2 := (Tye.r (G := G) (a := e) (s := s))
  have du3 := (DU.r (ut := ut) (mu := mu) (c := uc) (G := G) (U := U) (X := X) (a := e) (u := u))
  refine rsl (vC_e (ck_65 hC)) ?_
  by_cases c4 : dp < 20
  ·
    have hm5 : i + 1 < m := hS.more i (by omega) (by omega) (by omega)
    refine rsl (cV_e (a69q (by omega) hS hC (hTk.fr (WL := W_cp) Fr.r (by decide)) (qa_12) (qa_13) (qa_10) (li_91) (rfl) (i2 := (i + 1)) (by omega) (by omega))) ?_
    have hk6 := (hS.ok (i + 1) (by omega) (by omega)).r
    refine rsl (vC_e (ck_65 hC.sI.sI)) ?_
    refine rsr (vC_e (rk_160 hR)) ?_
    refine rsr (cI_e (ar200_p (by omega) hS hR (wa_36) (wa_37) (wa_41) (wa_50) (by omega))) ?_
    refine rsr (jn_v) ?_
    refine rsr (if_neg (eqI_n (rfl) (li_0) (by omega))) ?_
    refine rsr (vC_e (rk_160 hR.sI)) ?_
    refine RrV (nx_ok (by omega) hS hR.sI (hT.fr (W := W_rx) (Fr.sI (by decide) Fr.r) (by decide) (by decide)) (fun i a b => (Fr.lc (W := W_rx) (Fr.sI (by decide) Fr.r) _ (by decide) _).trans (hW i a b)) (i := i) ((sI_nej (by decide)).trans (wa_41)) ((sI_nej (by decide)).trans (wa_38)) (by omega) (by omega)) fun v Ma8 h8 => ?_
    obtain ⟨g8, e8_k0, e8_k1, e8_k2, p8_0⟩ := h8
    have f8 : Fr W_rx Mr Ma8 := Fr.t (Fr.sI (by decide) Fr.r) (Fr.m g8 (by decide))
    refine rsr (cV_e rfl) ?_
    refine rsr (vC_e (rk_160 (hR.fr f8))) ?_
    refine Rb_VV ((hE (by omega)) _ _ (by omega) (by omega) T n m kd pl E tx ua ut mu _ _ G U Hl X (i + 1) e s u uc _ hS (hCx.fr (Fr.sI (by decide) (Fr.sI (by decide) Fr.r)) f8) ⟨(sI_nej (by decide)).trans (sI_eq), sI_eq, (sI_nej (by decide)).trans ((sI_nej (by decide)).trans (qa_10)), (sI_nej (by decide)).trans ((sI_nej (by decide)).trans (qa_9)), (sI_nej (by decide)).trans ((sI_nej (by decide)).trans (qa_16)), (sI_nej (by decide)).trans ((sI_nej (by decide)).trans (qa_19))⟩ ⟨e8_k0, e8_k1, e8_k2, (g8.i _ _ (by decide)).trans ((sI_nej (by decide)).trans (wa_41)), (g8.i _ _ (by decide)).trans ((sI_nej (by decide)).trans (wa_43)), (g8.i _ _ (by decide)).trans ((sI_nej (by decide)).trans (wa_51)), (g8.i _ _ (by decide)).trans ((sI_nej (by decide)).trans (wa_53)), (g8.i _ _ (by decide)).trans (sI_eq), p8_0⟩ ⟨(caa.fr (W := W_c0) (Fr.sI (by decide) (Fr.sI (by decide) Fr.r)) (by decide)), ((raa.fr (W := W_r0) (Fr.sI (by decide) Fr.r) (by decide)).fr g8 (by decide)), (lca.fr (W := W_c0) (Fr.sI (by decide) (Fr.sI (by decide) Fr.r)) (by decide)), ((lra.fr (W := W_r0) (Fr.sI (by decide) Fr.r) (by decide)).fr g8 (by decide)), (cua.fr (W := W_c0) (Fr.sI (by decide) (Fr.sI (by decide) Fr.r)) (by decide)), ((rua.fr (W := W_r0) (Fr.sI (by decide) Fr.r) (by decide)).fr g8 (by decide))⟩ ⟨by omega, by omega, by omega, by omega, by omega, by omega, by omega, by omega, by omega, by omega, by omega, by omega⟩ (vs2 (li_0) (adI (rfl) (li_1)))) fun v Mx9 w Nx9 hx9 => ?_
    rcases hx9 with ⟨i9, e9, u9, uc9, G9, U9, X9, fl9, fr9, sc9, sr9, rw9, bd9, mv9, ag9, au9, ax9, tp9, dp9, kv9⟩ | ⟨F9, P9, fl9, fr9, tc9, tr9⟩
    ·
      have FL9 : Fr W_cp Mc Mx9 := Fr.t (Fr.sI (by decide) (Fr.sI (by decide) Fr.r)) fl9
      have FR9 : Fr W_rx Mr Nx9 := Fr.t f8 fr9
      obtain ⟨bb9_0, bb9_1, bb9_2, bb9_3, bb9_4, bb9_5, bb9_6, bb9_7, bb9_8, bb9_9, bb9_10, bb9_11⟩ := bd9
      obtain ⟨q9_12, q9_13, q9_10, q9_9, q9_16, q9_19⟩ := sc9
      obtain ⟨w9_36, w9_37, w9_38, w9_41, w9_43, w9_51, w9_53, w9_50, w9_n⟩ := sr9
      obtain ⟨ca9, ra9, lc9, lr9, cu9, ru9⟩ := rw9
      have hk10 := (hS.ok i9 (by omega) (by omega)).r
      have ku9 := KU.t (kua.fr (W := W_c0) (Fr.sI (by decide) (Fr.sI (by decide) Fr.r)) (by decide)) kv9 (by omega)
      have ty11 := Tye.t (d3 := 1) ty2 ag9 tp9 (by omega)
      have du12 := DU.t du3 ag9 au9 ax9 dp9 (by omega)
      refine rsl (cV_e rfl) ?_
      refine rsr (cV_e rfl) ?_
      refine rsl (vC_e (ck_65 (hC.fr FL9))) ?_
      by_cases c13 : ((kd i9)) = 93
      ·
        have hm14 : i9 + 1 < m := hS.more i9 (by omega) (by omega) (by omega)
        refine rsl (cV_e (a64q (by omega) hS (hC.fr FL9) (hTk.fr (WL := W_cp) FL9 (by decide)) (q9_12) (q9_13) (q9_10) (li_93) (i2 := (i9 + 1)) (by omega) (by omega))) ?_
        have hk15 := (hS.ok (i9 + 1) (by omega) (by omega)).r
        refine rsr (gtI_q (w := iI 0) (rk_160 (hR.fr FR9)) (w9_41)) ?_
        refine rsr (if_pos (eqI_p (rfl) (li_0) (by omega))) ?_
        refine rsr (gtI_q (w := iI ((kr (kd i9)))) (rk_160 (hR.fr FR9)) (w9_36)) ?_
        refine rsr (jn_v) ?_
        refine rsr (if_pos (krI_p (k := 93) (rfl) (li_93) (by omega) (by decide +kernel))) ?_
        refine rsr (jv_e) ?_
        refine rsr (vC_e (rk_160 (hR.fr FR9))) ?_
        refine rsr (cI_e (ar193_p (by omega) hS (hR.fr FR9) (w9_36) (w9_37) (w9_41) (li_1) (by omega))) ?_
        refine rsr (if_neg (eqI_n (rfl) (li_0) (by omega))) ?_
        refine rsr (gtI_q (w := iI (dp + 1)) (rk_160 (hR.fr FR9)) (w9_50)) ?_
        refine rsr (ptI_q (z := dp) (rk_160 (hR.fr FR9)) (cvI (sbI (rfl) (li_1)) (by omega))) ?_
        refine rsr (vC_e (rk_160 (hR.fr FR9).sI)) ?_
        refine RrV (nx_ok (by omega) hS (hR.fr FR9).sI (hT.fr (W := W_rx) (Fr.sI (by decide) FR9) (by decide) (by decide)) (fun i a b => (Fr.lc (W := W_rx) (Fr.sI (by decide) FR9) _ (by decide) _).trans (hW i a b)) (i := i9) ((sI_nej (by decide)).trans (w9_41)) ((sI_nej (by decide)).trans (w9_38)) (by omega) (by omega)) fun v Ma17 h17 => ?_
        obtain ⟨g17, e17_k0, e17_k1, e17_k2, p17_0⟩ := h17
        have f17 : Fr W_rx Mr Ma17 := Fr.t (Fr.sI (by decide) FR9) (Fr.m g17 (by decide))
        refine rsr (cV_e rfl) ?_
        refine rsr (jv_e) ?_
        exact Rs.ok (Or.inl ⟨(i9 + 1), e9, u9, uc9, G9, U9, X9, (Fr.sI (by decide) (Fr.sI (by decide) FL9)), f17, ⟨(sI_nej (by decide)).trans (sI_eq), sI_eq, (sI_nej (by decide)).trans ((sI_nej (by decide)).trans (q9_10)), (sI_nej (by decide)).trans ((sI_nej (by decide)).trans (q9_9)), (sI_nej (by decide)).trans ((sI_nej (by decide)).trans (q9_16)), (sI_nej (by decide)).trans ((sI_nej (by decide)).trans (q9_19))⟩, ⟨e17_k0, e17_k1, e17_k2, (g17.i _ _ (by decide)).trans ((sI_nej (by decide)).trans (w9_41)), (g17.i _ _ (by decide)).trans ((sI_nej (by decide)).trans (w9_43)), (g17.i _ _ (by decide)).trans ((sI_nej (by decide)).trans (w9_51)), (g17.i _ _ (by decide)).trans ((sI_nej (by decide)).trans (w9_53)), (g17.i _ _ (by decide)).trans (sI_eq), p17_0⟩, ⟨(ca9.fr (W := W_c0) (Fr.sI (by decide) (Fr.sI (by decide) Fr.r)) (by decide)), ((ra9.fr (W := W_r0) (Fr.sI (by decide) Fr.r) (by decide)).fr g17 (by decide)), (lc9.fr (W := W_c0) (Fr.sI (by decide) (Fr.sI (by decide) Fr.r)) (by decide)), ((lr9.fr (W := W_r0) (Fr.sI (by decide) Fr.r) (by decide)).fr g17 (by decide)), (cu9.fr (W := W_c0) (Fr.sI (by decide) (Fr.sI (by decide) Fr.r)) (by decide)), ((ru9.fr (W := W_r0) (Fr.sI (by decide) Fr.r) (by decide)).fr g17 (by decide))⟩, ⟨by omega, by omega, by omega, by omega, by omega, by omega, by omega, by omega, by omega, by omega, by omega, by omega⟩, ⟨by omega, by omega, by omega, by omega, by omega, by omega⟩, (Ag.t Ag.r ag9 (by omega)), (Ag.t Ag.r au9 (by omega)), (AgL.t AgL.r ax9 (by omega)), ty11, du12, (ku9.fr (W := W_c0) (Fr.sI (by decide) (Fr.sI (by decide) Fr.r)) (by decide))⟩)
      ·
        by_cases c18 : ((kd i9)) = 1
        ·
          refine rsl (cV_e (a64_1 (by omega) hS (hC.fr FL9) (hTk.fr (WL := W_cp) FL9 (by decide)) (q9_12) (q9_13) (q9_10) (li_93) (by omega))) ?_
          refine rsr (gtI_q (w := iI 0) (rk_160 (hR.fr FR9)) (w9_41)) ?_
          refine rsr (if_pos (eqI_p (rfl) (li_0) (by omega))) ?_
          refine rsr (gtI_q (w := iI ((kr (kd i9)))) (rk_160 (hR.fr FR9)) (w9_36)) ?_
          refine rsr (jn_v) ?_
          refine rsr (if_neg (krI_n (k := 93) (rfl) (li_93) (hS.ok i9 (by omega) (by omega)) (by unfold KdOK sgk; omega) (by decide +kernel) (by omega) (by omega))) ?_
          refine rsr (jv_e) ?_
          refine rsr (vC_e (rk_160 (hR.fr FR9))) ?_
          refine rsr (cI_e (ar193_1 (by omega) hS (hR.fr FR9) (w9_36) (w9_37) (w9_41) (li_0) (by omega))) ?_
          refine rsr (if_pos (eqI_p (rfl) (li_0) (by omega))) ?_
          refine rsr (jv_e) ?_
          exact Rs.ok (Or.inr ⟨1, ((pl i9)), (Fr.sI (by decide) (Fr.sI (by decide) (Fr.sI (by decide) FL9))), (Fr.sI (by decide) (Fr.sI (by decide) (Fr.m FR9 (by decide)))), ⟨i9, e9, s, uc9, sI_eq, (sI_nej (by decide)).trans ((sI_nej (by decide)).trans (sI_eq)), (sI_nej (by decide)).trans (sI_eq), (sI_nej (by decide)).trans ((sI_nej (by decide)).trans ((sI_nej (by decide)).trans (q9_12))), (sI_nej (by decide)).trans ((sI_nej (by decide)).trans ((sI_nej (by decide)).trans (q9_9))), (sI_nej (by decide)).trans ((sI_nej (by decide)).trans ((sI_nej (by decide)).trans (q9_16))), (sI_nej (by decide)).trans ((sI_nej (by decide)).trans ((sI_nej (by decide)).trans (q9_19))), by omega⟩, ⟨e9, s, u9, mu, ut, (sI_nej (by decide)).trans (sI_eq), sI_eq, (sI_nej (by decide)).trans ((sI_nej (by decide)).trans (w9_43)), (sI_nej (by decide)).trans ((sI_nej (by decide)).trans (w9_51)), (sI_nej (by decide)).trans ((sI_nej (by decide)).trans (w9_53)), (sI_nej (by decide)).trans ((sI_nej (by decide)).trans ((FR9.i _ _ (by decide)).trans h48)), (sI_nej (by decide)).trans ((sI_nej (by decide)).trans ((FR9.i _ _ (by decide)).trans h49)), by omega⟩⟩)
        ·
          refine rsl (cV_e (a64_2 (by omega) hS (hC.fr FL9) (hTk.fr (WL := W_cp) FL9 (by decide)) (q9_12) (q9_13) (q9_10) (li_93) (by omega))) ?_
          refine rsr (gtI_q (w := iI 0) (rk_160 (hR.fr FR9)) (w9_41)) ?_
          refine rsr (if_pos (eqI_p (rfl) (li_0) (by omega))) ?_
          refine rsr (gtI_q (w := iI ((kr (kd i9)))) (rk_160 (hR.fr FR9)) (w9_36)) ?_
          refine rsr (jn_v) ?_
          refine rsr (if_neg (krI_n (k := 93) (rfl) (li_93) (hS.ok i9 (by omega) (by omega)) (by unfold KdOK sgk; omega) (by decide +kernel) (by omega) (by omega))) ?_
          refine rsr (jv_e) ?_
          refine rsr (vC_e (rk_160 (hR.fr FR9))) ?_
          refine rsr (cI_e (ar193_2 (by omega) hS (hR.fr FR9) (w9_36) (w9_37) (w9_41) (li_0) (by omega))) ?_
          refine rsr (if_pos (eqI_p (rfl) (li_0) (by omega))) ?_
          refine rsr (jv_e) ?_
          exact Rs.ok (Or.inr ⟨2, ((pl i9)), (Fr.sI (by decide) (Fr.sI (by decide) (Fr.sI (by decide) FL9))), (Fr.sI (by decide) (Fr.sI (by decide) (Fr.m FR9 (by decide)))), ⟨i9, e9, s, uc9, sI_eq, (sI_nej (by decide)).trans ((sI_nej (by decide)).trans (sI_eq)), (sI_nej (by decide)).trans (sI_eq), (sI_nej (by decide)).trans ((sI_nej (by decide)).trans ((sI_nej (by decide)).trans (q9_12))), (sI_nej (by decide)).trans ((sI_nej (by decide)).trans ((sI_nej (by decide)).trans (q9_9))), (sI_nej (by decide)).trans ((sI_nej (by decide)).trans ((sI_nej (by decide)).trans (q9_16))), (sI_nej (by decide)).trans ((sI_nej (by decide)).trans ((sI_nej (by decide)).trans (q9_19))), by omega⟩, ⟨e9, s, u9, mu, ut, (sI_nej (by decide)).trans (sI_eq), sI_eq, (sI_nej (by decide)).trans ((sI_nej (by decide)).trans (w9_43)), (sI_nej (by decide)).trans ((sI_nej (by decide)).trans (w9_51)), (sI_nej (by decide)).trans ((sI_nej (by decide)).trans (w9_53)), (sI_nej (by decide)).trans ((sI_nej (by decide)).trans ((FR9.i _ _ (by decide)).trans h48)), (sI_nej (by decide)).trans ((sI_nej (by decide)).trans ((FR9.i _ _ (by decide)).trans h49)), by omega⟩⟩)
    ·
      have FL9 : Fr W_cp Mc Mx9 := Fr.t (Fr.sI (by decide) (Fr.sI (by decide) Fr.r)) fl9
      have FR9 : Fr W_rp Mr Nx9 := Fr.t (Fr.m f8 W_rx_p) fr9
      obtain ⟨ti9, tz9, tn9, tu9, t139, t109, t119, t129, t99, t169, t199, tb9⟩ := tc9
      obtain ⟨re9, rn9, ru9, rm9, rt9, u419, u429, u439, u519, u539, u489, u499, ub9⟩ := tr9
      refine rsl (cV_e rfl) ?_
      refine rsr (cV_e rfl) ?_
      refine rsl (vC_e (ck_65 (hC.fr FL9))) ?_
      refine RlV (y64 (by omega) (hC.fr FL9) (hTk.fr (WL := W_cp) FL9 (by decide)) (t129) (t139) (t109) (t119) (t99) (t169) (t199) (li_93) (by omega)) fun v Ma20 h20 => ?_
      obtain ⟨sz19, sn19, uc19, g20, e20_sz19, e20_sn19, e20_uc19, e20_k0, e20_k1, e20_k2, e20_k3, p20_0, p20_1, p20_2⟩ := h20
      have f20 : Fr W_cp Mc Ma20 := Fr.t FL9 (Fr.m g20 (by decide))
      refine rsl (cV_e rfl) ?_
      refine rsr (gtI_q (w := iI F9) (rk_160 (hR.fr FR9)) (u419)) ?_
      refine rsr (if_neg (eqI_n (rfl) (li_0) (by omega))) ?_
      refine rsr (jv_e) ?_
      exact Rs.ok (Or.inr ⟨F9, P9, f20, FR9, ⟨ti9, sz19, sn19, uc19, e20_k0, e20_k1, e20_k2, e20_k3, e20_sz19, e20_sn19, e20_uc19, by omega⟩, ⟨re9, rn9, ru9, rm9, rt9, u419, u429, u439, u519, u539, u489, u499, by omega⟩⟩)
  ·
    refine rsl (cV_e (a69_6 (by omega) hS hC (hTk.fr (WL := W_cp) Fr.r (by decide)) (qa_12) (qa_13) (qa_10) (li_91) (rfl) (by omega))) ?_
    refine rsl (vC_e (ck_65 hC.sI.sI.sI)) ?_
    refine RlV (y99_0 (by omega) hC.sI.sI.sI (hTk.fr (WL := W_cp) (Fr.sI (by decide) (Fr.sI (by decide) (Fr.sI (by decide) Fr.r))) (by decide)) ((sI_nej (by decide)).trans ((sI_nej (by decide)).trans ((sI_nej (by decide)).trans (qa_12)))) (sI_eq) ((sI_nej (by decide)).trans ((sI_nej (by decide)).trans (sI_eq))) ((sI_nej (by decide)).trans (sI_eq)) ((sI_nej (by decide)).trans ((sI_nej (by decide)).trans ((sI_nej (by decide)).trans (qa_9)))) ((sI_nej (by decide)).trans ((sI_nej (by decide)).trans ((sI_nej (by decide)).trans (qa_16)))) ((sI_nej (by decide)).trans ((sI_nej (by decide)).trans ((sI_nej (by decide)).trans (qa_19)))) (li_0) (adI (rfl) (li_1)) (by omega)) fun v Ma22 h22 => ?_
    obtain ⟨sz21, sn21, uc21, g22, e22_sz21, e22_sn21, e22_uc21, e22_k0, e22_k1, e22_k2, e22_k3, p22_0, p22_1, p22_2⟩ := h22
    have f22 : Fr W_cp Mc Ma22 := Fr.t (Fr.sI (by decide) (Fr.sI (by decide) (Fr.sI (by decide) Fr.r))) (Fr.m g22 (by decide))
    refine rsl (cV_e rfl) ?_
    refine rsl (vC_e (ck_65 (hC.fr f22))) ?_
    refine RlV (y64 (by omega) (hC.fr f22) (hTk.fr (WL := W_cp) f22 (by decide)) (e22_k3) (e22_k0) (e22_k1) (e22_k2) (e22_sz21) (e22_sn21) (e22_uc21) (li_93) (by omega)) fun v Ma24 h24 => ?_
    obtain ⟨sz23, sn23, uc23, g24, e24_sz23, e24_sn23, e24_uc23, e24_k0, e24_k1, e24_k2, e24_k3, p24_0, p24_1, p24_2⟩ := h24
    have f24 : Fr W_cp Mc Ma24 := Fr.t f22 (Fr.m g24 (by decide))
    refine rsl (cV_e rfl) ?_
    refine rsr (vC_e (rk_160 hR)) ?_
    refine rsr (cI_e (ar200_6 (by omega) hS hR (wa_36) (wa_37) (wa_41) (wa_50) (by omega))) ?_
    refine rsr (jn_v) ?_
    refine rsr (if_pos (eqI_p (rfl) (li_0) (by omega))) ?_
    refine rsr (jv_e) ?_
    exact Rs.ok (Or.inr ⟨6, ((pl i)), f24, (Fr.sI (by decide) (Fr.sI (by decide) (Fr.sI (by decide) Fr.r))), ⟨i, sz23, sn23, uc23, e24_k0, e24_k1, e24_k2, e24_k3, e24_sz23, e24_sn23, e24_uc23, by omega⟩, ⟨e, s, u, mu, ut, (sI_nej (by decide)).trans (sI_eq), sI_eq, (sI_nej (by decide)).trans ((sI_nej (by decide)).trans ((sI_nej (by decide)).trans (wa_43))), (sI_nej (by decide)).trans ((sI_nej (by decide)).trans ((sI_nej (by decide)).trans (wa_51))), (sI_nej (by decide)).trans ((sI_nej (by decide)).trans ((sI_nej (by decide)).trans (wa_53))), (sI_nej (by decide)).trans ((sI_nej (by decide)).trans ((sI_nej (by decide)).trans (h48))), (sI_nej (by decide)).trans ((sI_nej (by decide)).trans ((sI_nej (by decide)).trans (h49))), by omega⟩⟩)
