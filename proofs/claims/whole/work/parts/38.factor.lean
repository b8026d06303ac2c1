theorem p_f {D : Nat} {dp : Int} (hD : 20 ≤ D) (hpN : PairK 3 D 101 [] 205 22 dp) (hF : dp < 20 → Pair D 100 [] 206 20 (dp + 1)) (hE : dp < 20 → Pair D 99 [0] 211 14 (dp + 1)) : Pair (D + 1) 100 [] 206 20 dp := by
  intro d d2 hd hd2 T n m kd pl E tx ua ut mu Mc Mr G U Hl X i e s u uc vs hS hx hsc hsr hrw hbd hvs
  subst hvs
  obtain ⟨d, rfl⟩ : ∃ e, d = e + 1 := ⟨d - 1, by omega⟩
  obtain ⟨d2, rfl⟩ : ∃ e, d2 = e + 1 := ⟨d2 - 1, by omega⟩
  show Rs (runX (d + 1) 100 [va_rf (some 65), .int (iI dp)] Mc) (runX (d2 + 1) 206 [va_rf (some 160)] Mr) _
  rw [r100]; unfold b100; rw [aR_e, aI_e, aZ_e]; unfold c100; rw [r206]; unfold b206; rw [aR_e, aZ_e]; unfold c206
  have hCx := hx
  obtain ⟨hC, hR, hTk, hT, hW, ⟨hu1, hu2, hu3, hu4⟩, h49, h48, ⟨hb1, hb2, hb3, hb4⟩⟩ := hx
  obtain ⟨bb_0, bb_1, bb_2, bb_3, bb_4, bb_5, bb_6, bb_7, bb_8, bb_9, bb_10, bb_11⟩ := hbd
  have kua : KU uc Mc Mc := KU.r
  obtain ⟨qa_12, qa_13, qa_10, qa_9, qa_16, qa_19⟩ := hsc
  obtain ⟨wa_36, wa_37, wa_38, wa_41, wa_43, wa_51, wa_53, wa_50, wa_n⟩ := hsr
  obtain ⟨caa, raa, lca, lra, cua, rua⟩ := hrw
  have hk1 := (hS.ok i (by omega) (by omega)).r
  have ty2 := (Tye.r (G := G) (a := e) (s := s))
  have du3 := (DU.r (ut := ut) (mu := mu) (c := uc) (G := G) (U := U) (X := X) (a := e) (u := u))
  refine rsl (gtI_q (w := iI ((kd i))) (ck_65 hC) (qa_13)) ?_
  refine rsl (jn_v) ?_
  refine rsl (swI_c) ?_
  by_cases c4 : ((kd i)) = 3
  · refine rsl (if_pos (eqI_p (rfl) (li_3) (by omega))) ?_
    refine rsl (vC_e (ck_65 hC)) ?_
    refine rsr (gtI_q (w := iI 0) (rk_160 hR) (wa_41)) ?_
    refine rsr (jn_v) ?_
    refine rsr (if_pos (eqI_p (rfl) (li_0) (by omega))) ?_
    refine rsr (gtI_q (w := iI ((kr (kd i)))) (rk_160 hR) (wa_36)) ?_
    refine rsr (jn_v) ?_
    refine rsr (jn_v) ?_
    refine rsr (if_neg (krI_n (k := 4) (rfl) (li_2) (hS.ok i (by omega) (by omega)) (by unfold KdOK sgk; omega) (by decide +kernel) (by omega) (by omega))) ?_
    refine rsr (gtI_q (w := iI ((kr (kd i)))) (rk_160 hR) (wa_36)) ?_
    refine rsr (if_neg (krI_n (k := 45) (rfl) (li_45) (hS.ok i (by omega) (by omega)) (by unfold KdOK sgk; omega) (by decide +kernel) (by omega) (by omega))) ?_
    refine rsr (gtI_q (w := iI ((kr (kd i)))) (rk_160 hR) (wa_36)) ?_
    refine rsr (if_neg (krI_n (k := 224) (rfl) (li_425) (hS.ok i (by omega) (by omega)) (by unfold KdOK sgk; omega) (by decide +kernel) (by omega) (by omega))) ?_
    refine rsr (gtI_q (w := iI ((kr (kd i)))) (rk_160 hR) (wa_36)) ?_
    refine rsr (if_neg (krI_n (k := 40) (rfl) (li_40) (hS.ok i (by omega) (by omega)) (by unfold KdOK sgk; omega) (by decide +kernel) (by omega) (by omega))) ?_
    refine rsr (gtI_q (w := iI ((kr (kd i)))) (rk_160 hR) (wa_36)) ?_
    refine rsr (if_pos (krI_p (k := 3) (rfl) (li_1) (by omega) (by decide +kernel))) ?_
    refine rsr (jv_e) ?_
    refine rsr (jv_e) ?_
    refine rsr (vC_e (rk_160 hR)) ?_
    refine rsr (cI_e (ar193_p (by omega) hS hR (wa_36) (wa_37) (wa_41) (li_1) (by omega))) ?_
    refine rsr (if_neg (eqI_n (rfl) (li_0) (by omega))) ?_
    refine rsr (gtI_q (w := iI ((kr (kd i)))) (rk_160 hR) (wa_36)) ?_
    refine rsr (jn_v) ?_
    refine rsr (if_neg (krI_n (k := 4) (rfl) (li_2) (hS.ok i (by omega) (by omega)) (by unfold KdOK sgk; omega) (by decide +kernel) (by omega) (by omega))) ?_
    refine rsr (if_pos (krI_p (k := 3) (rfl) (li_1) (by omega) (by decide +kernel))) ?_
    refine rsr (vC_e (rk_160 hR)) ?_
    refine Rb_VV (hpN _ _ (by omega) (by omega) T n m kd pl E tx ua ut mu _ _ G U Hl X i e s u uc _ hS (hCx.fr Fr.r Fr.r) ⟨qa_12, qa_13, qa_10, qa_9, qa_16, qa_19⟩ ⟨wa_36, wa_37, wa_38, wa_41, wa_43, wa_51, wa_53, wa_50, wa_n⟩ ⟨caa, raa, lca, lra, cua, rua⟩ ⟨by omega, by omega, by omega, by omega, by omega, by omega, by omega, by omega, by omega, by omega, by omega, by omega⟩ (by omega) (vs1 (rfl))) fun v Mx5 w Nx5 hx5 => ?_
    rcases hx5 with ⟨i5, e5, u5, uc5, G5, U5, X5, fl5, fr5, sc5, sr5, rw5, bd5, mv5, ag5, au5, ax5, tp5, dp5, kv5⟩ | ⟨F5, P5, fl5, fr5, tc5, tr5⟩
    ·
      have FL5 : Fr W_cp Mc Mx5 := Fr.t Fr.r fl5
      have FR5 : Fr W_rx Mr Nx5 := Fr.t Fr.r fr5
      obtain ⟨bb5_0, bb5_1, bb5_2, bb5_3, bb5_4, bb5_5, bb5_6, bb5_7, bb5_8, bb5_9, bb5_10, bb5_11⟩ := bd5
      obtain ⟨q5_12, q5_13, q5_10, q5_9, q5_16, q5_19⟩ := sc5
      obtain ⟨w5_36, w5_37, w5_38, w5_41, w5_43, w5_51, w5_53, w5_50, w5_n⟩ := sr5
      obtain ⟨ca5, ra5, lc5, lr5, cu5, ru5⟩ := rw5
      have hk6 := (hS.ok i5 (by omega) (by omega)).r
      have ku5 := KU.t kua kv5 (by omega)
      have ty7 := Tye.t (d3 := 1) ty2 ag5 tp5 (by omega)
      have du8 := DU.t du3 ag5 au5 ax5 dp5 (by omega)
      refine rsl (cV_e rfl) ?_
      refine rsr (cV_e rfl) ?_
      refine rsl (jv_e) ?_
      refine rsr (jv_e) ?_
      exact Rs.ok (Or.inl ⟨i5, e5, u5, uc5, G5, U5, X5, FL5, FR5, ⟨q5_12, q5_13, q5_10, q5_9, q5_16, q5_19⟩, ⟨w5_36, w5_37, w5_38, w5_41, w5_43, w5_51, w5_53, w5_50, w5_n⟩, ⟨ca5, ra5, lc5, lr5, cu5, ru5⟩, ⟨by omega, by omega, by omega, by omega, by omega, by omega, by omega, by omega, by omega, by omega, by omega, by omega⟩, ⟨by omega, by omega, by omega, by omega, by omega, by omega⟩, (Ag.t Ag.r ag5 (by omega)), (Ag.t Ag.r au5 (by omega)), (AgL.t AgL.r ax5 (by omega)), ty7, du8, ku5⟩)
    ·
      have FL5 : Fr W_cp Mc Mx5 := Fr.t Fr.r fl5
      have FR5 : Fr W_rp Mr Nx5 := Fr.t (Fr.m Fr.r W_rx_p) fr5
      obtain ⟨ti5, tz5, tn5, tu5, t135, t105, t115, t125, t95, t165, t195, tb5⟩ := tc5
      obtain ⟨re5, rn5, ru5, rm5, rt5, u415, u425, u435, u515, u535, u485, u495, ub5⟩ := tr5
      refine rsl (cV_e rfl) ?_
      refine rsr (cV_e rfl) ?_
      refine rsl (jv_e) ?_
      refine rsr (jv_e) ?_
      exact Rs.ok (Or.inr ⟨F5, P5, FL5, FR5, ⟨ti5, tz5, tn5, tu5, t135, t105, t115, t125, t95, t165, t195, by omega⟩, ⟨re5, rn5, ru5, rm5, rt5, u415, u425, u435, u515, u535, u485, u495, by omega⟩⟩)
  refine rsl (if_neg (eqI_n (rfl) (li_3) (by omega))) ?_
  refine rsl (swI_c) ?_
  by_cases c9 : ((kd i)) = 4
  · refine rsl (if_pos (eqI_p (rfl) (li_4) (by omega))) ?_
    refine rsl (vC_e (ck_65 hC)) ?_
    refine rsl (cL_e (a65 (by omega) hS hC (hTk.fr (WL := W_cp) Fr.r (by decide)) (qa_12) (qa_13) (qa_10) (by omega))) ?_
    refine rsl (vC_e (ck_65 hC)) ?_
    obtain ⟨nz10, hz10, hza10, hzb10⟩ := hS.nr i (by omega) (by omega) (by omega)
    have ty12 := Tye.em (d := 0) (d' := 1) (q := (e + 1)) (n1 := nz10) (ut := ut) (mu := mu) (l := []) ty2 (Or.inl (by omega) : Eff 0 nz10 0 0 s 1 s) (by omega) ⟨by omega, by omega⟩ (by omega)
    have du13 := DU.em (q := (e + 1)) (o := 0) (n := nz10) (p := -2) (l := [0]) du3 (by omega) (by omega)
    refine RlI (a87 (by omega) hC (qa_9) (li_0) (hz10) (by omega)) fun v Ma14 h14 => ?_
    obtain ⟨r11, rfl, g14, e14_k0, p14_0, p14_1⟩ := h14
    have f14 : Fr W_cp Mc Ma14 := Fr.t Fr.r (Fr.m g14 (by decide))
    refine rsl (cI_e rfl) ?_
    refine rsl (vC_e (ck_65 (hC.fr f14))) ?_
    have hm15 : i + 1 < m := hS.more i (by omega) (by omega) (by omega)
    refine rsl (cV_e (a63q (by omega) hS (hC.fr f14) (hTk.fr (WL := W_cp) f14 (by decide)) ((g14.i _ _ (by decide)).trans (qa_12)) ((g14.i _ _ (by decide)).trans (qa_13)) ((g14.i _ _ (by decide)).trans (qa_10)) (i2 := (i + 1)) (by omega) (by omega))) ?_
    have hk16 := (hS.ok (i + 1) (by omega) (by omega)).r
    refine rsl (jv_e) ?_
    refine rsr (gtI_q (w := iI 0) (rk_160 hR) (wa_41)) ?_
    refine rsr (jn_v) ?_
    refine rsr (if_pos (eqI_p (rfl) (li_0) (by omega))) ?_
    refine rsr (gtI_q (w := iI ((kr (kd i)))) (rk_160 hR) (wa_36)) ?_
    refine rsr (jn_v) ?_
    refine rsr (jn_v) ?_
    refine rsr (if_pos (krI_p (k := 4) (rfl) (li_2) (by omega) (by decide +kernel))) ?_
    refine rsr (jv_e) ?_
    refine rsr (jv_e) ?_
    refine rsr (vC_e (rk_160 hR)) ?_
    refine rsr (cI_e (ar193_p (by omega) hS hR (wa_36) (wa_37) (wa_41) (li_1) (by omega))) ?_
    refine rsr (if_neg (eqI_n (rfl) (li_0) (by omega))) ?_
    refine rsr (gtI_q (w := iI ((kr (kd i)))) (rk_160 hR) (wa_36)) ?_
    refine rsr (jn_v) ?_
    refine rsr (if_pos (krI_p (k := 4) (rfl) (li_2) (by omega) (by decide +kernel))) ?_
    refine rsr (gtI_q (w := iI nz10) (rk_160 hR) (((wa_n).2 (by omega)).trans hz10)) ?_
    refine rsr (vC_e (rk_160 hR)) ?_
    refine RrI (a196 (by omega) hR (wa_43) (h49) (h48) (li_0) (rfl) (by omega)) fun v Ma18 h18 => ?_
    obtain ⟨r17, rfl, g18, e18_k0, p18_0, p18_1⟩ := h18
    have f18 : Fr W_rx Mr Ma18 := Fr.t Fr.r (Fr.m g18 (by decide))
    refine rsr (cI_e rfl) ?_
    refine rsr (vC_e (rk_160 (hR.fr f18))) ?_
    refine RrV (nx_ok (by omega) hS (hR.fr f18) (hT.fr (W := W_rx) f18 (by decide) (by decide)) (fun i a b => (Fr.lc (W := W_rx) f18 _ (by decide) _).trans (hW i a b)) (i := i) ((g18.i _ _ (by decide)).trans (wa_41)) ((g18.i _ _ (by decide)).trans (wa_38)) (by omega) (by omega)) fun v Ma20 h20 => ?_
    obtain ⟨g20, e20_k0, e20_k1, e20_k2, p20_0⟩ := h20
    have f20 : Fr W_rx Mr Ma20 := Fr.t f18 (Fr.m g20 (by decide))
    refine rsr (cV_e rfl) ?_
    refine rsr (jv_e) ?_
    exact Rs.ok (Or.inl ⟨(i + 1), (e + 1), u, uc, (pu G e [0, nz10, -2, nz10, ut, mu, 0]), U, X, (Fr.sI (by decide) (Fr.sI (by decide) f14)), f20, ⟨(sI_nej (by decide)).trans (sI_eq), sI_eq, (sI_nej (by decide)).trans ((sI_nej (by decide)).trans ((g14.i _ _ (by decide)).trans (qa_10))), (sI_nej (by decide)).trans ((sI_nej (by decide)).trans (e14_k0)), (sI_nej (by decide)).trans ((sI_nej (by decide)).trans ((g14.i _ _ (by decide)).trans (qa_16))), (sI_nej (by decide)).trans ((sI_nej (by decide)).trans ((g14.i _ _ (by decide)).trans (qa_19)))⟩, ⟨e20_k0, e20_k1, e20_k2, (g20.i _ _ (by decide)).trans ((g18.i _ _ (by decide)).trans (wa_41)), (g20.i _ _ (by decide)).trans (e18_k0), (g20.i _ _ (by decide)).trans ((g18.i _ _ (by decide)).trans (wa_51)), (g20.i _ _ (by decide)).trans ((g18.i _ _ (by decide)).trans (wa_53)), (g20.i _ _ (by decide)).trans ((g18.i _ _ (by decide)).trans (wa_50)), p20_0⟩, ⟨((CA1.em caa (by omega) p14_1 rfl).fr (W := W_c0) (Fr.sI (by decide) (Fr.sI (by decide) Fr.r)) (by decide)), ((RA1.em raa (by omega) p18_1 rfl).fr g20 (by decide)), ((lca.fr g14 (by decide)).fr (W := W_c0) (Fr.sI (by decide) (Fr.sI (by decide) Fr.r)) (by decide)), ((lra.fr g18 (by decide)).fr g20 (by decide)), ((cua.fr g14 (by decide)).fr (W := W_c0) (Fr.sI (by decide) (Fr.sI (by decide) Fr.r)) (by decide)), ((rua.fr g18 (by decide)).fr g20 (by decide))⟩, ⟨by omega, by omega, by omega, by omega, by omega, by omega, by omega, by omega, by omega, by omega, by omega, by omega⟩, ⟨by omega, by omega, by omega, by omega, by omega, by omega⟩, (Ag.pu Ag.r (by omega)), Ag.r, AgL.r, ty12, du13, ((kua.fr g14 (by decide)).fr (W := W_c0) (Fr.sI (by decide) (Fr.sI (by decide) Fr.r)) (by decide))⟩)
  refine rsl (if_neg (eqI_n (rfl) (li_4) (by omega))) ?_
  refine rsl (swI_c) ?_
  by_cases c21 : ((kd i)) = 40
  · refine rsl (if_pos (eqI_p (rfl) (li_40) (by omega))) ?_
    refine rsl (vC_e (ck_65 hC)) ?_
    by_cases c22 : dp < 20
    ·
      have hm23 : i + 1 < m := hS.more i (by omega) (by omega) (by omega)
      refine rsl (cV_e (a69q (by omega) hS hC (hTk.fr (WL := W_cp) Fr.r (by decide)) (qa_12) (qa_13) (qa_10) (li_40) (rfl) (i2 := (i + 1)) (by omega) (by omega))) ?_
      have hk24 := (hS.ok (i + 1) (by omega) (by omega)).r
      refine rsl (vC_e (ck_65 hC.sI.sI)) ?_
      refine rsr (gtI_q (w := iI 0) (rk_160 hR) (wa_41)) ?_
      refine rsr (jn_v) ?_
      refine rsr (if_pos (eqI_p (rfl) (li_0) (by omega))) ?_
      refine rsr (gtI_q (w := iI ((kr (kd i)))) (rk_160 hR) (wa_36)) ?_
      refine rsr (jn_v) ?_
      refine rsr (jn_v) ?_
      refine rsr (if_neg (krI_n (k := 4) (rfl) (li_2) (hS.ok i (by omega) (by omega)) (by unfold KdOK sgk; omega) (by decide +kernel) (by omega) (by omega))) ?_
      refine rsr (gtI_q (w := iI ((kr (kd i)))) (rk_160 hR) (wa_36)) ?_
      refine rsr (if_neg (krI_n (k := 45) (rfl) (li_45) (hS.ok i (by omega) (by omega)) (by unfold KdOK sgk; omega) (by decide +kernel) (by omega) (by omega))) ?_
      refine rsr (gtI_q (w := iI ((kr (kd i)))) (rk_160 hR) (wa_36)) ?_
      refine rsr (if_neg (krI_n (k := 224) (rfl) (li_425) (hS.ok i (by omega) (by omega)) (by unfold KdOK sgk; omega) (by decide +kernel) (by omega) (by omega))) ?_
      refine rsr (gtI_q (w := iI ((kr (kd i)))) (rk_160 hR) (wa_36)) ?_
      refine rsr (if_pos (krI_p (k := 40) (rfl) (li_40) (by omega) (by decide +kernel))) ?_
      refine rsr (jv_e) ?_
      refine rsr (jv_e) ?_
      refine rsr (vC_e (rk_160 hR)) ?_
      refine rsr (cI_e (ar193_p (by omega) hS hR (wa_36) (wa_37) (wa_41) (li_1) (by omega))) ?_
      refine rsr (if_neg (eqI_n (rfl) (li_0) (by omega))) ?_
      refine rsr (gtI_q (w := iI ((kr (kd i)))) (rk_160 hR) (wa_36)) ?_
      refine rsr (jn_v) ?_
      refine rsr (if_neg (krI_n (k := 4) (rfl) (li_2) (hS.ok i (by omega) (by omega)) (by unfold KdOK sgk; omega) (by decide +kernel) (by omega) (by omega))) ?_
      refine rsr (if_neg (krI_n (k := 3) (rfl) (li_1) (hS.ok i (by omega) (by omega)) (by unfold KdOK sgk; omega) (by decide +kernel) (by omega) (by omega))) ?_
      refine rsr (vC_e (rk_160 hR)) ?_
      refine rsr (cI_e (ar200_p (by omega) hS hR (wa_36) (wa_37) (wa_41) (wa_50) (by omega))) ?_
      refine rsr (if_neg (eqI_n (rfl) (li_0) (by omega))) ?_
      refine rsr (vC_e (rk_160 hR.sI)) ?_
      refine RrV (nx_ok (by omega) hS hR.sI (hT.fr (W := W_rx) (Fr.sI (by decide) Fr.r) (by decide) (by decide)) (fun i a b => (Fr.lc (W := W_rx) (Fr.sI (by decide) Fr.r) _ (by decide) _).trans (hW i a b)) (i := i) ((sI_nej (by decide)).trans (wa_41)) ((sI_nej (by decide)).trans (wa_38)) (by omega) (by omega)) fun v Ma26 h26 => ?_
      obtain ⟨g26, e26_k0, e26_k1, e26_k2, p26_0⟩ := h26
      have f26 : Fr W_rx Mr Ma26 := Fr.t (Fr.sI (by decide) Fr.r) (Fr.m g26 (by decide))
      refine rsr (cV_e rfl) ?_
      refine rsr (if_pos (krI_p (k := 40) (rfl) (li_40) (by omega) (by decide +kernel))) ?_
      refine rsr (vC_e (rk_160 (hR.fr f26))) ?_
      refine Rb_VV ((hE (by omega)) _ _ (by omega) (by omega) T n m kd pl E tx ua ut mu _ _ G U Hl X (i + 1) e s u uc _ hS (hCx.fr (Fr.sI (by decide) (Fr.sI (by decide) Fr.r)) f26) ⟨(sI_nej (by decide)).trans (sI_eq), sI_eq, (sI_nej (by decide)).trans ((sI_nej (by decide)).trans (qa_10)), (sI_nej (by decide)).trans ((sI_nej (by decide)).trans (qa_9)), (sI_nej (by decide)).trans ((sI_nej (by decide)).trans (qa_16)), (sI_nej (by decide)).trans ((sI_nej (by decide)).trans (qa_19))⟩ ⟨e26_k0, e26_k1, e26_k2, (g26.i _ _ (by decide)).trans ((sI_nej (by decide)).trans (wa_41)), (g26.i _ _ (by decide)).trans ((sI_nej (by decide)).trans (wa_43)), (g26.i _ _ (by decide)).trans ((sI_nej (by decide)).trans (wa_51)), (g26.i _ _ (by decide)).trans ((sI_nej (by decide)).trans (wa_53)), (g26.i _ _ (by decide)).trans (sI_eq), p26_0⟩ ⟨(caa.fr (W := W_c0) (Fr.sI (by decide) (Fr.sI (by decide) Fr.r)) (by decide)), ((raa.fr (W := W_r0) (Fr.sI (by decide) Fr.r) (by decide)).fr g26 (by decide)), (lca.fr (W := W_c0) (Fr.sI (by decide) (Fr.sI (by decide) Fr.r)) (by decide)), ((lra.fr (W := W_r0) (Fr.sI (by decide) Fr.r) (by decide)).fr g26 (by decide)), (cua.fr (W := W_c0) (Fr.sI (by decide) (Fr.sI (by decide) Fr.r)) (by decide)), ((rua.fr (W := W_r0) (Fr.sI (by decide) Fr.r) (by decide)).fr g26 (by decide))⟩ ⟨by omega, by omega, by omega, by omega, by omega, by omega, by omega, by omega, by omega, by omega, by omega, by omega⟩ (vs2 (li_0) (adI (rfl) (li_1)))) fun v Mx27 w Nx27 hx27 => ?_
      rcases hx27 with ⟨i27, e27, u27, uc27, G27, U27, X27, fl27, fr27, sc27, sr27, rw27, bd27, mv27, ag27, au27, ax27, tp27, dp27, kv27⟩ | ⟨F27, P27, fl27, fr27, tc27, tr27⟩
      ·
        have FL27 : Fr W_cp Mc Mx27 := Fr.t (Fr.sI (by decide) (Fr.sI (by decide) Fr.r)) fl27
        have FR27 : Fr W_rx Mr Nx27 := Fr.t f26 fr27
        obtain ⟨bb27_0, bb27_1, bb27_2, bb27_3, bb27_4, bb27_5, bb27_6, bb27_7, bb27_8, bb27_9, bb27_10, bb27_11⟩ := bd27
        obtain ⟨q27_12, q27_13, q27_10, q27_9, q27_16, q27_19⟩ := sc27
        obtain ⟨w27_36, w27_37, w27_38, w27_41, w27_43, w27_51, w27_53, w27_50, w27_n⟩ := sr27
        obtain ⟨ca27, ra27, lc27, lr27, cu27, ru27⟩ := rw27
        have hk28 := (hS.ok i27 (by omega) (by omega)).r
        have ku27 := KU.t (kua.fr (W := W_c0) (Fr.sI (by decide) (Fr.sI (by decide) Fr.r)) (by decide)) kv27 (by omega)
        have ty29 := Tye.t (d3 := 1) ty2 ag27 tp27 (by omega)
        have du30 := DU.t du3 ag27 au27 ax27 dp27 (by omega)
        refine rsl (cV_e rfl) ?_
        refine rsr (cV_e rfl) ?_
        refine rsl (vC_e (ck_65 (hC.fr FL27))) ?_
        by_cases c31 : ((kd i27)) = 41
        ·
          have hm32 : i27 + 1 < m := hS.more i27 (by omega) (by omega) (by omega)
          refine rsl (cV_e (a64q (by omega) hS (hC.fr FL27) (hTk.fr (WL := W_cp) FL27 (by decide)) (q27_12) (q27_13) (q27_10) (li_41) (i2 := (i27 + 1)) (by omega) (by omega))) ?_
          have hk33 := (hS.ok (i27 + 1) (by omega) (by omega)).r
          refine rsl (jv_e) ?_
          refine rsr (gtI_q (w := iI 0) (rk_160 (hR.fr FR27)) (w27_41)) ?_
          refine rsr (if_pos (eqI_p (rfl) (li_0) (by omega))) ?_
          refine rsr (gtI_q (w := iI ((kr (kd i27)))) (rk_160 (hR.fr FR27)) (w27_36)) ?_
          refine rsr (jn_v) ?_
          refine rsr (if_pos (krI_p (k := 41) (rfl) (li_41) (by omega) (by decide +kernel))) ?_
          refine rsr (jv_e) ?_
          refine rsr (vC_e (rk_160 (hR.fr FR27))) ?_
          refine rsr (cI_e (ar193_p (by omega) hS (hR.fr FR27) (w27_36) (w27_37) (w27_41) (li_1) (by omega))) ?_
          refine rsr (if_neg (eqI_n (rfl) (li_0) (by omega))) ?_
          refine rsr (gtI_q (w := iI (dp + 1)) (rk_160 (hR.fr FR27)) (w27_50)) ?_
          refine rsr (ptI_q (z := dp) (rk_160 (hR.fr FR27)) (cvI (sbI (rfl) (li_1)) (by omega))) ?_
          refine rsr (vC_e (rk_160 (hR.fr FR27).sI)) ?_
          refine RrV (nx_ok (by omega) hS (hR.fr FR27).sI (hT.fr (W := W_rx) (Fr.sI (by decide) FR27) (by decide) (by decide)) (fun i a b => (Fr.lc (W := W_rx) (Fr.sI (by decide) FR27) _ (by decide) _).trans (hW i a b)) (i := i27) ((sI_nej (by decide)).trans (w27_41)) ((sI_nej (by decide)).trans (w27_38)) (by omega) (by omega)) fun v Ma35 h35 => ?_
          obtain ⟨g35, e35_k0, e35_k1, e35_k2, p35_0⟩ := h35
          have f35 : Fr W_rx Mr Ma35 := Fr.t (Fr.sI (by decide) FR27) (Fr.m g35 (by decide))
          refine rsr (cV_e rfl) ?_
          refine rsr (jv_e) ?_
          exact Rs.ok (Or.inl ⟨(i27 + 1), e27, u27, uc27, G27, U27, X27, (Fr.sI (by decide) (Fr.sI (by decide) FL27)), f35, ⟨(sI_nej (by decide)).trans (sI_eq), sI_eq, (sI_nej (by decide)).trans ((sI_nej (by decide)).trans (q27_10)), (sI_nej (by decide)).trans ((sI_nej (by decide)).trans (q27_9)), (sI_nej (by decide)).trans ((sI_nej (by decide)).trans (q27_16)), (sI_nej (by decide)).trans ((sI_nej (by decide)).trans (q27_19))⟩, ⟨e35_k0, e35_k1, e35_k2, (g35.i _ _ (by decide)).trans ((sI_nej (by decide)).trans (w27_41)), (g35.i _ _ (by decide)).trans ((sI_nej (by decide)).trans (w27_43)), (g35.i _ _ (by decide)).trans ((sI_nej (by decide)).trans (w27_51)), (g35.i _ _ (by decide)).trans ((sI_nej (by decide)).trans (w27_53)), (g35.i _ _ (by decide)).trans (sI_eq), p35_0⟩, ⟨(ca27.fr (W := W_c0) (Fr.sI (by decide) (Fr.sI (by decide) Fr.r)) (by decide)), ((ra27.fr (W := W_r0) (Fr.sI (by decide) Fr.r) (by decide)).fr g35 (by decide)), (lc27.fr (W := W_c0) (Fr.sI (by decide) (Fr.sI (by decide) Fr.r)) (by decide)), ((lr27.fr (W := W_r0) (Fr.sI (by decide) Fr.r) (by decide)).fr g35 (by decide)), (cu27.fr (W := W_c0) (Fr.sI (by decide) (Fr.sI (by decide) Fr.r)) (by decide)), ((ru27.fr (W := W_r0) (Fr.sI (by decide) Fr.r) (by decide)).fr g35 (by decide))⟩, ⟨by omega, by omega, by omega, by omega, by omega, by omega, by omega, by omega, by omega, by omega, by omega, by omega⟩, ⟨by omega, by omega, by omega, by omega, by omega, by omega⟩, (Ag.t Ag.r ag27 (by omega)), (Ag.t Ag.r au27 (by omega)), (AgL.t AgL.r ax27 (by omega)), ty29, du30, (ku27.fr (W := W_c0) (Fr.sI (by decide) (Fr.sI (by decide) Fr.r)) (by decide))⟩)
        ·
          by_cases c36 : ((kd i27)) = 1
          ·
            refine rsl (cV_e (a64_1 (by omega) hS (hC.fr FL27) (hTk.fr (WL := W_cp) FL27 (by decide)) (q27_12) (q27_13) (q27_10) (li_41) (by omega))) ?_
            refine rsl (jv_e) ?_
            refine rsr (gtI_q (w := iI 0) (rk_160 (hR.fr FR27)) (w27_41)) ?_
            refine rsr (if_pos (eqI_p (rfl) (li_0) (by omega))) ?_
            refine rsr (gtI_q (w := iI ((kr (kd i27)))) (rk_160 (hR.fr FR27)) (w27_36)) ?_
            refine rsr (jn_v) ?_
            refine rsr (if_neg (krI_n (k := 41) (rfl) (li_41) (hS.ok i27 (by omega) (by omega)) (by unfold KdOK sgk; omega) (by decide +kernel) (by omega) (by omega))) ?_
            refine rsr (jv_e) ?_
            refine rsr (vC_e (rk_160 (hR.fr FR27))) ?_
            refine rsr (cI_e (ar193_1 (by omega) hS (hR.fr FR27) (w27_36) (w27_37) (w27_41) (li_0) (by omega))) ?_
            refine rsr (if_pos (eqI_p (rfl) (li_0) (by omega))) ?_
            refine rsr (jv_e) ?_
            exact Rs.ok (Or.inr ⟨1, ((pl i27)), (Fr.sI (by decide) (Fr.sI (by decide) (Fr.sI (by decide) FL27))), (Fr.sI (by decide) (Fr.sI (by decide) (Fr.m FR27 (by decide)))), ⟨i27, e27, s, uc27, sI_eq, (sI_nej (by decide)).trans ((sI_nej (by decide)).trans (sI_eq)), (sI_nej (by decide)).trans (sI_eq), (sI_nej (by decide)).trans ((sI_nej (by decide)).trans ((sI_nej (by decide)).trans (q27_12))), (sI_nej (by decide)).trans ((sI_nej (by decide)).trans ((sI_nej (by decide)).trans (q27_9))), (sI_nej (by decide)).trans ((sI_nej (by decide)).trans ((sI_nej (by decide)).trans (q27_16))), (sI_nej (by decide)).trans ((sI_nej (by decide)).trans ((sI_nej (by decide)).trans (q27_19))), by omega⟩, ⟨e27, s, u27, mu, ut, (sI_nej (by decide)).trans (sI_eq), sI_eq, (sI_nej (by decide)).trans ((sI_nej (by decide)).trans (w27_43)), (sI_nej (by decide)).trans ((sI_nej (by decide)).trans (w27_51)), (sI_nej (by decide)).trans ((sI_nej (by decide)).trans (w27_53)), (sI_nej (by decide)).trans ((sI_nej (by decide)).trans ((FR27.i _ _ (by decide)).trans h48)), (sI_nej (by decide)).trans ((sI_nej (by decide)).trans ((FR27.i _ _ (by decide)).trans h49)), by omega⟩⟩)
          ·
            refine rsl (cV_e (a64_2 (by omega) hS (hC.fr FL27) (hTk.fr (WL := W_cp) FL27 (by decide)) (q27_12) (q27_13) (q27_10) (li_41) (by omega))) ?_
            refine rsl (jv_e) ?_
            refine rsr (gtI_q (w := iI 0) (rk_160 (hR.fr FR27)) (w27_41)) ?_
            refine rsr (if_pos (eqI_p (rfl) (li_0) (by omega))) ?_
            refine rsr (gtI_q (w := iI ((kr (kd i27)))) (rk_160 (hR.fr FR27)) (w27_36)) ?_
            refine rsr (jn_v) ?_
            refine rsr (if_neg (krI_n (k := 41) (rfl) (li_41) (hS.ok i27 (by omega) (by omega)) (by unfold KdOK sgk; omega) (by decide +kernel) (by omega) (by omega))) ?_
            refine rsr (jv_e) ?_
            refine rsr (vC_e (rk_160 (hR.fr FR27))) ?_
            refine rsr (cI_e (ar193_2 (by omega) hS (hR.fr FR27) (w27_36) (w27_37) (w27_41) (li_0) (by omega))) ?_
            refine rsr (if_pos (eqI_p (rfl) (li_0) (by omega))) ?_
            refine rsr (jv_e) ?_
            exact Rs.ok (Or.inr ⟨2, ((pl i27)), (Fr.sI (by decide) (Fr.sI (by decide) (Fr.sI (by decide) FL27))), (Fr.sI (by decide) (Fr.sI (by decide) (Fr.m FR27 (by decide)))), ⟨i27, e27, s, uc27, sI_eq, (sI_nej (by decide)).trans ((sI_nej (by decide)).trans (sI_eq)), (sI_nej (by decide)).trans (sI_eq), (sI_nej (by decide)).trans ((sI_nej (by decide)).trans ((sI_nej (by decide)).trans (q27_12))), (sI_nej (by decide)).trans ((sI_nej (by decide)).trans ((sI_nej (by decide)).trans (q27_9))), (sI_nej (by decide)).trans ((sI_nej (by decide)).trans ((sI_nej (by decide)).trans (q27_16))), (sI_nej (by decide)).trans ((sI_nej (by decide)).trans ((sI_nej (by decide)).trans (q27_19))), by omega⟩, ⟨e27, s, u27, mu, ut, (sI_nej (by decide)).trans (sI_eq), sI_eq, (sI_nej (by decide)).trans ((sI_nej (by decide)).trans (w27_43)), (sI_nej (by decide)).trans ((sI_nej (by decide)).trans (w27_51)), (sI_nej (by decide)).trans ((sI_nej (by decide)).trans (w27_53)), (sI_nej (by decide)).trans ((sI_nej (by decide)).trans ((FR27.i _ _ (by decide)).trans h48)), (sI_nej (by decide)).trans ((sI_nej (by decide)).trans ((FR27.i _ _ (by decide)).trans h49)), by omega⟩⟩)
      ·
        have FL27 : Fr W_cp Mc Mx27 := Fr.t (Fr.sI (by decide) (Fr.sI (by decide) Fr.r)) fl27
        have FR27 : Fr W_rp Mr Nx27 := Fr.t (Fr.m f26 W_rx_p) fr27
        obtain ⟨ti27, tz27, tn27, tu27, t1327, t1027, t1127, t1227, t927, t1627, t1927, tb27⟩ := tc27
        obtain ⟨re27, rn27, ru27, rm27, rt27, u4127, u4227, u4327, u5127, u5327, u4827, u4927, ub27⟩ := tr27
        refine rsl (cV_e rfl) ?_
        refine rsr (cV_e rfl) ?_
        refine rsl (vC_e (ck_65 (hC.fr FL27))) ?_
        refine RlV (y64 (by omega) (hC.fr FL27) (hTk.fr (WL := W_cp) FL27 (by decide)) (t1227) (t1327) (t1027) (t1127) (t927) (t1627) (t1927) (li_41) (by omega)) fun v Ma38 h38 => ?_
        obtain ⟨sz37, sn37, uc37, g38, e38_sz37, e38_sn37, e38_uc37, e38_k0, e38_k1, e38_k2, e38_k3, p38_0, p38_1, p38_2⟩ := h38
        have f38 : Fr W_cp Mc Ma38 := Fr.t FL27 (Fr.m g38 (by decide))
        refine rsl (cV_e rfl) ?_
        refine rsl (jv_e) ?_
        refine rsr (gtI_q (w := iI F27) (rk_160 (hR.fr FR27)) (u4127)) ?_
        refine rsr (if_neg (eqI_n (rfl) (li_0) (by omega))) ?_
        refine rsr (jv_e) ?_
        exact Rs.ok (Or.inr ⟨F27, P27, f38, FR27, ⟨ti27, sz37, sn37, uc37, e38_k0, e38_k1, e38_k2, e38_k3, e38_sz37, e38_sn37, e38_uc37, by omega⟩, ⟨re27, rn27, ru27, rm27, rt27, u4127, u4227, u4327, u5127, u5327, u4827, u4927, by omega⟩⟩)
    ·
      refine rsl (cV_e (a69_6 (by omega) hS hC (hTk.fr (WL := W_cp) Fr.r (by decide)) (qa_12) (qa_13) (qa_10) (li_40) (rfl) (by omega))) ?_
      refine rsl (vC_e (ck_65 hC.sI.sI.sI)) ?_
      refine RlV (y99_0 (by omega) hC.sI.sI.sI (hTk.fr (WL := W_cp) (Fr.sI (by decide) (Fr.sI (by decide) (Fr.sI (by decide) Fr.r))) (by decide)) ((sI_nej (by decide)).trans ((sI_nej (by decide)).trans ((sI_nej (by decide)).trans (qa_12)))) (sI_eq) ((sI_nej (by decide)).trans ((sI_nej (by decide)).trans (sI_eq))) ((sI_nej (by decide)).trans (sI_eq)) ((sI_nej (by decide)).trans ((sI_nej (by decide)).trans ((sI_nej (by decide)).trans (qa_9)))) ((sI_nej (by decide)).trans ((sI_nej (by decide)).trans ((sI_nej (by decide)).trans (qa_16)))) ((sI_nej (by decide)).trans ((sI_nej (by decide)).trans ((sI_nej (by decide)).trans (qa_19)))) (li_0) (adI (rfl) (li_1)) (by omega)) fun v Ma40 h40 => ?_
      obtain ⟨sz39, sn39, uc39, g40, e40_sz39, e40_sn39, e40_uc39, e40_k0, e40_k1, e40_k2, e40_k3, p40_0, p40_1, p40_2⟩ := h40
      have f40 : Fr W_cp Mc Ma40 := Fr.t (Fr.sI (by decide) (Fr.sI (by decide) (Fr.sI (by decide) Fr.r))) (Fr.m g40 (by decide))
      refine rsl (cV_e rfl) ?_
      refine rsl (vC_e (ck_65 (hC.fr f40))) ?_
      refine RlV (y64 (by omega) (hC.fr f40) (hTk.fr (WL := W_cp) f40 (by decide)) (e40_k3) (e40_k0) (e40_k1) (e40_k2) (e40_sz39) (e40_sn39) (e40_uc39) (li_41) (by omega)) fun v Ma42 h42 => ?_
      obtain ⟨sz41, sn41, uc41, g42, e42_sz41, e42_sn41, e42_uc41, e42_k0, e42_k1, e42_k2, e42_k3, p42_0, p42_1, p42_2⟩ := h42
      have f42 : Fr W_cp Mc Ma42 := Fr.t f40 (Fr.m g42 (by decide))
      refine rsl (cV_e rfl) ?_
      refine rsl (jv_e) ?_
      refine rsr (gtI_q (w := iI 0) (rk_160 hR) (wa_41)) ?_
      refine rsr (jn_v) ?_
      refine rsr (if_pos (eqI_p (rfl) (li_0) (by omega))) ?_
      refine rsr (gtI_q (w := iI ((kr (kd i)))) (rk_160 hR) (wa_36)) ?_
      refine rsr (jn_v) ?_
      refine rsr (jn_v) ?_
      refine rsr (if_neg (krI_n (k := 4) (rfl) (li_2) (hS.ok i (by omega) (by omega)) (by unfold KdOK sgk; omega) (by decide +kernel) (by omega) (by omega))) ?_
      refine rsr (gtI_q (w := iI ((kr (kd i)))) (rk_160 hR) (wa_36)) ?_
      refine rsr (if_neg (krI_n (k := 45) (rfl) (li_45) (hS.ok i (by omega) (by omega)) (by unfold KdOK sgk; omega) (by decide +kernel) (by omega) (by omega))) ?_
      refine rsr (gtI_q (w := iI ((kr (kd i)))) (rk_160 hR) (wa_36)) ?_
      refine rsr (if_neg (krI_n (k := 224) (rfl) (li_425) (hS.ok i (by omega) (by omega)) (by unfold KdOK sgk; omega) (by decide +kernel) (by omega) (by omega))) ?_
      refine rsr (gtI_q (w := iI ((kr (kd i)))) (rk_160 hR) (wa_36)) ?_
      refine rsr (if_pos (krI_p (k := 40) (rfl) (li_40) (by omega) (by decide +kernel))) ?_
      refine rsr (jv_e) ?_
      refine rsr (jv_e) ?_
      refine rsr (vC_e (rk_160 hR)) ?_
      refine rsr (cI_e (ar193_p (by omega) hS hR (wa_36) (wa_37) (wa_41) (li_1) (by omega))) ?_
      refine rsr (if_neg (eqI_n (rfl) (li_0) (by omega))) ?_
      refine rsr (gtI_q (w := iI ((kr (kd i)))) (rk_160 hR) (wa_36)) ?_
      refine rsr (jn_v) ?_
      refine rsr (if_neg (krI_n (k := 4) (rfl) (li_2) (hS.ok i (by omega) (by omega)) (by unfold KdOK sgk; omega) (by decide +kernel) (by omega) (by omega))) ?_
      refine rsr (if_neg (krI_n (k := 3) (rfl) (li_1) (hS.ok i (by omega) (by omega)) (by unfold KdOK sgk; omega) (by decide +kernel) (by omega) (by omega))) ?_
      refine rsr (vC_e (rk_160 hR)) ?_
      refine rsr (cI_e (ar200_6 (by omega) hS hR (wa_36) (wa_37) (wa_41) (wa_50) (by omega))) ?_
      refine rsr (if_pos (eqI_p (rfl) (li_0) (by omega))) ?_
      refine rsr (jv_e) ?_
      exact Rs.ok (Or.inr ⟨6, ((pl i)), f42, (Fr.sI (by decide) (Fr.sI (by decide) (Fr.sI (by decide) Fr.r))), ⟨i, sz41, sn41, uc41, e42_k0, e42_k1, e42_k2, e42_k3, e42_sz41, e42_sn41, e42_uc41, by omega⟩, ⟨e, s, u, mu, ut, (sI_nej (by decide)).trans (sI_eq), sI_eq, (sI_nej (by decide)).trans ((sI_nej (by decide)).trans ((sI_nej (by decide)).trans (wa_43))), (sI_nej (by decide)).trans ((sI_nej (by decide)).trans ((sI_nej (by decide)).trans (wa_51))), (sI_nej (by decide)).trans ((sI_nej (by decide)).trans ((sI_nej (by decide)).trans (wa_53))), (sI_nej (by decide)).trans ((sI_nej (by decide)).trans ((sI_nej (by decide)).trans (h48))), (sI_nej (by decide)).trans ((sI_nej (by decide)).trans ((sI_nej (by decide)).trans (h49))), by omega⟩⟩)
  refine rsl (if_neg (eqI_n (rfl) (li_40) (by omega))) ?_
  refine rsl (swI_c) ?_
  by_cases c43 : ((kd i)) = 45
  · refine rsl (if_pos (eqI_p (rfl) (li_45) (by omega))) ?_
    refine rsl (vC_e (ck_65 hC)) ?_
    by_cases c44 : dp < 20
    ·
      have hm45 : i + 1 < m := hS.more i (by omega) (by omega) (by omega)
      refine rsl (cV_e (a69q (by omega) hS hC (hTk.fr (WL := W_cp) Fr.r (by decide)) (qa_12) (qa_13) (qa_10) (li_45) (rfl) (i2 := (i + 1)) (by omega) (by omega))) ?_
      have hk46 := (hS.ok (i + 1) (by omega) (by omega)).r
      refine rsl (vC_e (ck_65 hC.sI.sI)) ?_
      refine rsr (gtI_q (w := iI 0) (rk_160 hR) (wa_41)) ?_
      refine rsr (jn_v) ?_
      refine rsr (if_pos (eqI_p (rfl) (li_0) (by omega))) ?_
      refine rsr (gtI_q (w := iI ((kr (kd i)))) (rk_160 hR) (wa_36)) ?_
      refine rsr (jn_v) ?_
      refine rsr (jn_v) ?_
      refine rsr (if_neg (krI_n (k := 4) (rfl) (li_2) (hS.ok i (by omega) (by omega)) (by unfold KdOK sgk; omega) (by decide +kernel) (by omega) (by omega))) ?_
      refine rsr (gtI_q (w := iI ((kr (kd i)))) (rk_160 hR) (wa_36)) ?_
      refine rsr (if_pos (krI_p (k := 45) (rfl) (li_45) (by omega) (by decide +kernel))) ?_
      refine rsr (jv_e) ?_
      refine rsr (jv_e) ?_
      refine rsr (vC_e (rk_160 hR)) ?_
      refine rsr (cI_e (ar193_p (by omega) hS hR (wa_36) (wa_37) (wa_41) (li_1) (by omega))) ?_
      refine rsr (if_neg (eqI_n (rfl) (li_0) (by omega))) ?_
      refine rsr (gtI_q (w := iI ((kr (kd i)))) (rk_160 hR) (wa_36)) ?_
      refine rsr (jn_v) ?_
      refine rsr (if_neg (krI_n (k := 4) (rfl) (li_2) (hS.ok i (by omega) (by omega)) (by unfold KdOK sgk; omega) (by decide +kernel) (by omega) (by omega))) ?_
      refine rsr (if_neg (krI_n (k := 3) (rfl) (li_1) (hS.ok i (by omega) (by omega)) (by unfold KdOK sgk; omega) (by decide +kernel) (by omega) (by omega))) ?_
      refine rsr (vC_e (rk_160 hR)) ?_
      refine rsr (cI_e (ar200_p (by omega) hS hR (wa_36) (wa_37) (wa_41) (wa_50) (by omega))) ?_
      refine rsr (if_neg (eqI_n (rfl) (li_0) (by omega))) ?_
      refine rsr (vC_e (rk_160 hR.sI)) ?_
      refine RrV (nx_ok (by omega) hS hR.sI (hT.fr (W := W_rx) (Fr.sI (by decide) Fr.r) (by decide) (by decide)) (fun i a b => (Fr.lc (W := W_rx) (Fr.sI (by decide) Fr.r) _ (by decide) _).trans (hW i a b)) (i := i) ((sI_nej (by decide)).trans (wa_41)) ((sI_nej (by decide)).trans (wa_38)) (by omega) (by omega)) fun v Ma48 h48 => ?_
      obtain ⟨g48, e48_k0, e48_k1, e48_k2, p48_0⟩ := h48
      have f48 : Fr W_rx Mr Ma48 := Fr.t (Fr.sI (by decide) Fr.r) (Fr.m g48 (by decide))
      refine rsr (cV_e rfl) ?_
      refine rsr (if_neg (krI_n (k := 40) (rfl) (li_40) (hS.ok i (by omega) (by omega)) (by unfold KdOK sgk; omega) (by decide +kernel) (by omega) (by omega))) ?_
      refine rsr (vC_e (rk_160 (hR.fr f48))) ?_
      refine Rb_VV ((hF (by omega)) _ _ (by omega) (by omega) T n m kd pl E tx ua ut mu _ _ G U Hl X (i + 1) e s u uc _ hS (hCx.fr (Fr.sI (by decide) (Fr.sI (by decide) Fr.r)) f48) ⟨(sI_nej (by decide)).trans (sI_eq), sI_eq, (sI_nej (by decide)).trans ((sI_nej (by decide)).trans (qa_10)), (sI_nej (by decide)).trans ((sI_nej (by decide)).trans (qa_9)), (sI_nej (by decide)).trans ((sI_nej (by decide)).trans (qa_16)), (sI_nej (by decide)).trans ((sI_nej (by decide)).trans (qa_19))⟩ ⟨e48_k0, e48_k1, e48_k2, (g48.i _ _ (by decide)).trans ((sI_nej (by decide)).trans (wa_41)), (g48.i _ _ (by decide)).trans ((sI_nej (by decide)).trans (wa_43)), (g48.i _ _ (by decide)).trans ((sI_nej (by decide)).trans (wa_51)), (g48.i _ _ (by decide)).trans ((sI_nej (by decide)).trans (wa_53)), (g48.i _ _ (by decide)).trans (sI_eq), p48_0⟩ ⟨(caa.fr (W := W_c0) (Fr.sI (by decide) (Fr.sI (by decide) Fr.r)) (by decide)), ((raa.fr (W := W_r0) (Fr.sI (by decide) Fr.r) (by decide)).fr g48 (by decide)), (lca.fr (W := W_c0) (Fr.sI (by decide) (Fr.sI (by decide) Fr.r)) (by decide)), ((lra.fr (W := W_r0) (Fr.sI (by decide) Fr.r) (by decide)).fr g48 (by decide)), (cua.fr (W := W_c0) (Fr.sI (by decide) (Fr.sI (by decide) Fr.r)) (by decide)), ((rua.fr (W := W_r0) (Fr.sI (by decide) Fr.r) (by decide)).fr g48 (by decide))⟩ ⟨by omega, by omega, by omega, by omega, by omega, by omega, by omega, by omega, by omega, by omega, by omega, by omega⟩ (vs1 (adI (rfl) (li_1)))) fun v Mx49 w Nx49 hx49 => ?_
      rcases hx49 with ⟨i49, e49, u49, uc49, G49, U49, X49, fl49, fr49, sc49, sr49, rw49, bd49, mv49, ag49, au49, ax49, tp49, dp49, kv49⟩ | ⟨F49, P49, fl49, fr49, tc49, tr49⟩
      ·
        have FL49 : Fr W_cp Mc Mx49 := Fr.t (Fr.sI (by decide) (Fr.sI (by decide) Fr.r)) fl49
        have FR49 : Fr W_rx Mr Nx49 := Fr.t f48 fr49
        obtain ⟨bb49_0, bb49_1, bb49_2, bb49_3, bb49_4, bb49_5, bb49_6, bb49_7, bb49_8, bb49_9, bb49_10, bb49_11⟩ := bd49
        obtain ⟨q49_12, q49_13, q49_10, q49_9, q49_16, q49_19⟩ := sc49
        obtain ⟨w49_36, w49_37, w49_38, w49_41, w49_43, w49_51, w49_53, w49_50, w49_n⟩ := sr49
        obtain ⟨ca49, ra49, lc49, lr49, cu49, ru49⟩ := rw49
        have hk50 := (hS.ok i49 (by omega) (by omega)).r
        have ku49 := KU.t (kua.fr (W := W_c0) (Fr.sI (by decide) (Fr.sI (by decide) Fr.r)) (by decide)) kv49 (by omega)
        have ty51 := Tye.t (d3 := 1) ty2 ag49 tp49 (by omega)
        have du52 := DU.t du3 ag49 au49 ax49 dp49 (by omega)
        refine rsl (cV_e rfl) ?_
        refine rsr (cV_e rfl) ?_
        refine rsl (vC_e (ck_65 (hC.fr FL49))) ?_
        have ty54 := Tye.em (d := 1) (d' := 1) (q := (e49 + 1)) (n1 := 0) (ut := ut) (mu := mu) (l := []) ty51 (Or.inr (Or.inr (Or.inr (Or.inr (Or.inl (by omega))))) : Eff 22 0 0 1 s 1 s) (by omega) ⟨by omega, by omega⟩ (by omega)
        have du55 := DU.em (q := (e49 + 1)) (o := 22) (n := 0) (p := -2) (l := [0]) du52 (by omega) (by omega)
        refine RlI (a87 (by omega) (hC.fr FL49) (q49_9) (li_22) (li_0) (by omega)) fun v Ma56 h56 => ?_
        obtain ⟨r53, rfl, g56, e56_k0, p56_0, p56_1⟩ := h56
        have f56 : Fr W_cp Mc Ma56 := Fr.t FL49 (Fr.m g56 (by decide))
        refine rsl (cI_e rfl) ?_
        refine rsl (jv_e) ?_
        refine rsr (gtI_q (w := iI (dp + 1)) (rk_160 (hR.fr FR49)) (w49_50)) ?_
        refine rsr (ptI_q (z := dp) (rk_160 (hR.fr FR49)) (cvI (sbI (rfl) (li_1)) (by omega))) ?_
        refine rsr (jn_v) ?_
        refine rsr (if_pos (krI_p (k := 45) (rfl) (li_45) (by omega) (by decide +kernel))) ?_
        refine rsr (jv_e) ?_
        refine rsr (vC_e (rk_160 (hR.fr FR49).sI)) ?_
        refine RrI (a196 (by omega) (hR.fr FR49).sI ((sI_nej (by decide)).trans (w49_43)) ((sI_nej (by decide)).trans ((FR49.i _ _ (by decide)).trans h49)) ((sI_nej (by decide)).trans ((FR49.i _ _ (by decide)).trans h48)) (li_22) (li_0) (by omega)) fun v Ma58 h58 => ?_
        obtain ⟨r57, rfl, g58, e58_k0, p58_0, p58_1⟩ := h58
        have f58 : Fr W_rx Mr Ma58 := Fr.t (Fr.sI (by decide) FR49) (Fr.m g58 (by decide))
        refine rsr (cI_e rfl) ?_
        refine rsr (jv_e) ?_
        exact Rs.ok (Or.inl ⟨i49, (e49 + 1), u49, uc49, (pu G49 e49 [22, 0, -2, 0, ut, mu, 0]), U49, X49, f56, f58, ⟨(g56.i _ _ (by decide)).trans (q49_12), (g56.i _ _ (by decide)).trans (q49_13), (g56.i _ _ (by decide)).trans (q49_10), e56_k0, (g56.i _ _ (by decide)).trans (q49_16), (g56.i _ _ (by decide)).trans (q49_19)⟩, ⟨(g58.i _ _ (by decide)).trans ((sI_nej (by decide)).trans (w49_36)), (g58.i _ _ (by decide)).trans ((sI_nej (by decide)).trans (w49_37)), (g58.i _ _ (by decide)).trans ((sI_nej (by decide)).trans (w49_38)), (g58.i _ _ (by decide)).trans ((sI_nej (by decide)).trans (w49_41)), e58_k0, (g58.i _ _ (by decide)).trans ((sI_nej (by decide)).trans (w49_51)), (g58.i _ _ (by decide)).trans ((sI_nej (by decide)).trans (w49_53)), (g58.i _ _ (by decide)).trans (sI_eq), ((w49_n.fr (W := W_r0) (Fr.sI (by decide) Fr.r) (by decide) (by decide)).fr g58 (by decide) (by decide))⟩, ⟨(CA1.em ca49 (by omega) p56_1 rfl), (RA1.em (ra49.fr (W := W_r0) (Fr.sI (by decide) Fr.r) (by decide)) (by omega) p58_1 rfl), (lc49.fr g56 (by decide)), ((lr49.fr (W := W_r0) (Fr.sI (by decide) Fr.r) (by decide)).fr g58 (by decide)), (cu49.fr g56 (by decide)), ((ru49.fr (W := W_r0) (Fr.sI (by decide) Fr.r) (by decide)).fr g58 (by decide))⟩, ⟨by omega, by omega, by omega, by omega, by omega, by omega, by omega, by omega, by omega, by omega, by omega, by omega⟩, ⟨by omega, by omega, by omega, by omega, by omega, by omega⟩, (Ag.pu (Ag.t Ag.r ag49 (by omega)) (by omega)), (Ag.t Ag.r au49 (by omega)), (AgL.t AgL.r ax49 (by omega)), ty54, du55, (ku49.fr g56 (by decide))⟩)
      ·
        have FL49 : Fr W_cp Mc Mx49 := Fr.t (Fr.sI (by decide) (Fr.sI (by decide) Fr.r)) fl49
        have FR49 : Fr W_rp Mr Nx49 := Fr.t (Fr.m f48 W_rx_p) fr49
        obtain ⟨ti49, tz49, tn49, tu49, t1349, t1049, t1149, t1249, t949, t1649, t1949, tb49⟩ := tc49
        obtain ⟨re49, rn49, ru49, rm49, rt49, u4149, u4249, u4349, u5149, u5349, u4849, u4949, ub49⟩ := tr49
        refine rsl (cV_e rfl) ?_
        refine rsr (cV_e rfl) ?_
        refine rsl (vC_e (ck_65 (hC.fr FL49))) ?_
        refine RlI (y87 (by omega) (hC.fr FL49) (hTk.fr (WL := W_cp) FL49 (by decide)) (t1249) (t1349) (t1049) (t1149) (t949) (t1649) (t1949) (li_22) (li_0) (by omega)) fun v Ma60 h60 => ?_
        obtain ⟨rv59, sz59, sn59, uc59, rfl, g60, e60_sz59, e60_sn59, e60_uc59, e60_k0, e60_k1, e60_k2, e60_k3, p60_0, p60_1, p60_2, p60_3⟩ := h60
        have f60 : Fr W_cp Mc Ma60 := Fr.t FL49 (Fr.m g60 (by decide))
        refine rsl (cI_e rfl) ?_
        refine rsl (jv_e) ?_
        have b61 := V_r (M := Nx49) (a := 160) (j := 50)
        refine rsr (gtI_q (w := iI ((V Nx49 160 50))) (rk_160 (hR.fr FR49)) (eV)) ?_
        refine rsr (ptI_q (z := ((V Nx49 160 50) - 1)) (rk_160 (hR.fr FR49)) (cvI (sbI (rfl) (li_1)) (by omega))) ?_
        refine rsr (jn_v) ?_
        refine rsr (if_pos (krI_p (k := 45) (rfl) (li_45) (by omega) (by decide +kernel))) ?_
        refine rsr (jv_e) ?_
        refine rsr (vC_e (rk_160 (hR.fr FR49).sI)) ?_
        refine RrI (x196_s (by omega) (hR.fr FR49).sI ((sI_nej (by decide)).trans (u4149)) ((sI_nej (by decide)).trans (u4249)) ((sI_nej (by decide)).trans (u4349)) ((sI_nej (by decide)).trans (u5149)) ((sI_nej (by decide)).trans (u5349)) ((sI_nej (by decide)).trans (u4849)) ((sI_nej (by decide)).trans (u4949)) (li_22) (li_0) (by omega)) fun v Ma63 h63 => ?_
        obtain ⟨rv62, em62, rfl, g63, e63_em62, e63_k0, e63_k1, e63_k2, e63_k3, e63_k4, p63_0, p63_1⟩ := h63
        have f63 : Fr W_rp Mr Ma63 := Fr.t (Fr.sI (by decide) FR49) (Fr.m g63 (by decide))
        refine rsr (cI_e rfl) ?_
        refine rsr (jv_e) ?_
        exact Rs.ok (Or.inr ⟨F49, P49, f60, f63, ⟨ti49, sz59, sn59, uc59, e60_k0, e60_k1, e60_k2, e60_k3, e60_sz59, e60_sn59, e60_uc59, by omega⟩, ⟨em62, rn49, ru49, rm49, rt49, e63_k0, e63_k1, e63_em62, e63_k2, e63_k3, e63_k4, (g63.i _ _ (by decide)).trans ((sI_nej (by decide)).trans (u4949)), by omega⟩⟩)
    ·
      refine rsl (cV_e (a69_6 (by omega) hS hC (hTk.fr (WL := W_cp) Fr.r (by decide)) (qa_12) (qa_13) (qa_10) (li_45) (rfl) (by omega))) ?_
      refine rsl (vC_e (ck_65 hC.sI.sI.sI)) ?_
      refine RlV (y100 (by omega) hC.sI.sI.sI (hTk.fr (WL := W_cp) (Fr.sI (by decide) (Fr.sI (by decide) (Fr.sI (by decide) Fr.r))) (by decide)) ((sI_nej (by decide)).trans ((sI_nej (by decide)).trans ((sI_nej (by decide)).trans (qa_12)))) (sI_eq) ((sI_nej (by decide)).trans ((sI_nej (by decide)).trans (sI_eq))) ((sI_nej (by decide)).trans (sI_eq)) ((sI_nej (by decide)).trans ((sI_nej (by decide)).trans ((sI_nej (by decide)).trans (qa_9)))) ((sI_nej (by decide)).trans ((sI_nej (by decide)).trans ((sI_nej (by decide)).trans (qa_16)))) ((sI_nej (by decide)).trans ((sI_nej (by decide)).trans ((sI_nej (by decide)).trans (qa_19)))) (adI (rfl) (li_1)) (by omega)) fun v Ma65 h65 => ?_
      obtain ⟨sz64, sn64, uc64, g65, e65_sz64, e65_sn64, e65_uc64, e65_k0, e65_k1, e65_k2, e65_k3, p65_0, p65_1, p65_2⟩ := h65
      have f65 : Fr W_cp Mc Ma65 := Fr.t (Fr.sI (by decide) (Fr.sI (by decide) (Fr.sI (by decide) Fr.r))) (Fr.m g65 (by decide))
      refine rsl (cV_e rfl) ?_
      refine rsl (vC_e (ck_65 (hC.fr f65))) ?_
      refine RlI (y87 (by omega) (hC.fr f65) (hTk.fr (WL := W_cp) f65 (by decide)) (e65_k3) (e65_k0) (e65_k1) (e65_k2) (e65_sz64) (e65_sn64) (e65_uc64) (li_22) (li_0) (by omega)) fun v Ma67 h67 => ?_
      obtain ⟨rv66, sz66, sn66, uc66, rfl, g67, e67_sz66, e67_sn66, e67_uc66, e67_k0, e67_k1, e67_k2, e67_k3, p67_0, p67_1, p67_2, p67_3⟩ := h67
      have f67 : Fr W_cp Mc Ma67 := Fr.t f65 (Fr.m g67 (by decide))
      refine rsl (cI_e rfl) ?_
      refine rsl (jv_e) ?_
      refine rsr (gtI_q (w := iI 0) (rk_160 hR) (wa_41)) ?_
      refine rsr (jn_v) ?_
      refine rsr (if_pos (eqI_p (rfl) (li_0) (by omega))) ?_
      refine rsr (gtI_q (w := iI ((kr (kd i)))) (rk_160 hR) (wa_36)) ?_
      refine rsr (jn_v) ?_
      refine rsr (jn_v) ?_
      refine rsr (if_neg (krI_n (k := 4) (rfl) (li_2) (hS.ok i (by omega) (by omega)) (by unfold KdOK sgk; omega) (by decide +kernel) (by omega) (by omega))) ?_
      refine rsr (gtI_q (w := iI ((kr (kd i)))) (rk_160 hR) (wa_36)) ?_
      refine rsr (if_pos (krI_p (k := 45) (rfl) (li_45) (by omega) (by decide +kernel))) ?_
      refine rsr (jv_e) ?_
      refine rsr (jv_e) ?_
      refine rsr (vC_e (rk_160 hR)) ?_
      refine rsr (cI_e (ar193_p (by omega) hS hR (wa_36) (wa_37) (wa_41) (li_1) (by omega))) ?_
      refine rsr (if_neg (eqI_n (rfl) (li_0) (by omega))) ?_
      refine rsr (gtI_q (w := iI ((kr (kd i)))) (rk_160 hR) (wa_36)) ?_
      refine rsr (jn_v) ?_
      refine rsr (if_neg (krI_n (k := 4) (rfl) (li_2) (hS.ok i (by omega) (by omega)) (by unfold KdOK sgk; omega) (by decide +kernel) (by omega) (by omega))) ?_
      refine rsr (if_neg (krI_n (k := 3) (rfl) (li_1) (hS.ok i (by omega) (by omega)) (by unfold KdOK sgk; omega) (by decide +kernel) (by omega) (by omega))) ?_
      refine rsr (vC_e (rk_160 hR)) ?_
      refine rsr (cI_e (ar200_6 (by omega) hS hR (wa_36) (wa_37) (wa_41) (wa_50) (by omega))) ?_
      refine rsr (if_pos (eqI_p (rfl) (li_0) (by omega))) ?_
      refine rsr (jv_e) ?_
      exact Rs.ok (Or.inr ⟨6, ((pl i)), f67, (Fr.sI (by decide) (Fr.sI (by decide) (Fr.sI (by decide) Fr.r))), ⟨i, sz66, sn66, uc66, e67_k0, e67_k1, e67_k2, e67_k3, e67_sz66, e67_sn66, e67_uc66, by omega⟩, ⟨e, s, u, mu, ut, (sI_nej (by decide)).trans (sI_eq), sI_eq, (sI_nej (by decide)).trans ((sI_nej (by decide)).trans ((sI_nej (by decide)).trans (wa_43))), (sI_nej (by decide)).trans ((sI_nej (by decide)).trans ((sI_nej (by decide)).trans (wa_51))), (sI_nej (by decide)).trans ((sI_nej (by decide)).trans ((sI_nej (by decide)).trans (wa_53))), (sI_nej (by decide)).trans ((sI_nej (by decide)).trans ((sI_nej (by decide)).trans (h48))), (sI_nej (by decide)).trans ((sI_nej (by decide)).trans ((sI_nej (by decide)).trans (h49))), by omega⟩⟩)
  refine rsl (if_neg (eqI_n (rfl) (li_45) (by omega))) ?_
  refine rsl (swI_c) ?_
  by_cases c68 : ((kd i)) = 224
  · refine rsl (if_pos (eqI_p (rfl) (li_224) (by omega))) ?_
    refine rsl (vC_e (ck_65 hC)) ?_
    by_cases c69 : dp < 20
    ·
      have hm70 : i + 1 < m := hS.more i (by omega) (by omega) (by omega)
      refine rsl (cV_e (a69q (by omega) hS hC (hTk.fr (WL := W_cp) Fr.r (by decide)) (qa_12) (qa_13) (qa_10) (li_224) (rfl) (i2 := (i + 1)) (by omega) (by omega))) ?_
      have hk71 := (hS.ok (i + 1) (by omega) (by omega)).r
      refine rsl (vC_e (ck_65 hC.sI.sI)) ?_
      refine rsr (gtI_q (w := iI 0) (rk_160 hR) (wa_41)) ?_
      refine rsr (jn_v) ?_
      refine rsr (if_pos (eqI_p (rfl) (li_0) (by omega))) ?_
      refine rsr (gtI_q (w := iI ((kr (kd i)))) (rk_160 hR) (wa_36)) ?_
      refine rsr (jn_v) ?_
      refine rsr (jn_v) ?_
      refine rsr (if_neg (krI_n (k := 4) (rfl) (li_2) (hS.ok i (by omega) (by omega)) (by unfold KdOK sgk; omega) (by decide +kernel) (by omega) (by omega))) ?_
      refine rsr (gtI_q (w := iI ((kr (kd i)))) (rk_160 hR) (wa_36)) ?_
      refine rsr (if_neg (krI_n (k := 45) (rfl) (li_45) (hS.ok i (by omega) (by omega)) (by unfold KdOK sgk; omega) (by decide +kernel) (by omega) (by omega))) ?_
      refine rsr (gtI_q (w := iI ((kr (kd i)))) (rk_160 hR) (wa_36)) ?_
      refine rsr (if_pos (krI_p (k := 224) (rfl) (li_425) (by omega) (by decide +kernel))) ?_
      refine rsr (jv_e) ?_
      refine rsr (jv_e) ?_
      refine rsr (vC_e (rk_160 hR)) ?_
      refine rsr (cI_e (ar193_p (by omega) hS hR (wa_36) (wa_37) (wa_41) (li_1) (by omega))) ?_
      refine rsr (if_neg (eqI_n (rfl) (li_0) (by omega))) ?_
      refine rsr (gtI_q (w := iI ((kr (kd i)))) (rk_160 hR) (wa_36)) ?_
      refine rsr (jn_v) ?_
      refine rsr (if_neg (krI_n (k := 4) (rfl) (li_2) (hS.ok i (by omega) (by omega)) (by unfold KdOK sgk; omega) (by decide +kernel) (by omega) (by omega))) ?_
      refine rsr (if_neg (krI_n (k := 3) (rfl) (li_1) (hS.ok i (by omega) (by omega)) (by unfold KdOK sgk; omega) (by decide +kernel) (by omega) (by omega))) ?_
      refine rsr (vC_e (rk_160 hR)) ?_
      refine rsr (cI_e (ar200_p (by omega) hS hR (wa_36) (wa_37) (wa_41) (wa_50) (by omega))) ?_
      refine rsr (if_neg (eqI_n (rfl) (li_0) (by omega))) ?_
      refine rsr (vC_e (rk_160 hR.sI)) ?_
      refine RrV (nx_ok (by omega) hS hR.sI (hT.fr (W := W_rx) (Fr.sI (by decide) Fr.r) (by decide) (by decide)) (fun i a b => (Fr.lc (W := W_rx) (Fr.sI (by decide) Fr.r) _ (by decide) _).trans (hW i a b)) (i := i) ((sI_nej (by decide)).trans (wa_41)) ((sI_nej (by decide)).trans (wa_38)) (by omega) (by omega)) fun v Ma73 h73 => ?_
      obtain ⟨g73, e73_k0, e73_k1, e73_k2, p73_0⟩ := h73
      have f73 : Fr W_rx Mr Ma73 := Fr.t (Fr.sI (by decide) Fr.r) (Fr.m g73 (by decide))
      refine rsr (cV_e rfl) ?_
      refine rsr (if_neg (krI_n (k := 40) (rfl) (li_40) (hS.ok i (by omega) (by omega)) (by unfold KdOK sgk; omega) (by decide +kernel) (by omega) (by omega))) ?_
      refine rsr (vC_e (rk_160 (hR.fr f73))) ?_
      refine Rb_VV ((hF (by omega)) _ _ (by omega) (by omega) T n m kd pl E tx ua ut mu _ _ G U Hl X (i + 1) e s u uc _ hS (hCx.fr (Fr.sI (by decide) (Fr.sI (by decide) Fr.r)) f73) ⟨(sI_nej (by decide)).trans (sI_eq), sI_eq, (sI_nej (by decide)).trans ((sI_nej (by decide)).trans (qa_10)), (sI_nej (by decide)).trans ((sI_nej (by decide)).trans (qa_9)), (sI_nej (by decide)).trans ((sI_nej (by decide)).trans (qa_16)), (sI_nej (by decide)).trans ((sI_nej (by decide)).trans (qa_19))⟩ ⟨e73_k0, e73_k1, e73_k2, (g73.i _ _ (by decide)).trans ((sI_nej (by decide)).trans (wa_41)), (g73.i _ _ (by decide)).trans ((sI_nej (by decide)).trans (wa_43)), (g73.i _ _ (by decide)).trans ((sI_nej (by decide)).trans (wa_51)), (g73.i _ _ (by decide)).trans ((sI_nej (by decide)).trans (wa_53)), (g73.i _ _ (by decide)).trans (sI_eq), p73_0⟩ ⟨(caa.fr (W := W_c0) (Fr.sI (by decide) (Fr.sI (by decide) Fr.r)) (by decide)), ((raa.fr (W := W_r0) (Fr.sI (by decide) Fr.r) (by decide)).fr g73 (by decide)), (lca.fr (W := W_c0) (Fr.sI (by decide) (Fr.sI (by decide) Fr.r)) (by decide)), ((lra.fr (W := W_r0) (Fr.sI (by decide) Fr.r) (by decide)).fr g73 (by decide)), (cua.fr (W := W_c0) (Fr.sI (by decide) (Fr.sI (by decide) Fr.r)) (by decide)), ((rua.fr (W := W_r0) (Fr.sI (by decide) Fr.r) (by decide)).fr g73 (by decide))⟩ ⟨by omega, by omega, by omega, by omega, by omega, by omega, by omega, by omega, by omega, by omega, by omega, by omega⟩ (vs1 (adI (rfl) (li_1)))) fun v Mx74 w Nx74 hx74 => ?_
      rcases hx74 with ⟨i74, e74, u74, uc74, G74, U74, X74, fl74, fr74, sc74, sr74, rw74, bd74, mv74, ag74, au74, ax74, tp74, dp74, kv74⟩ | ⟨F74, P74, fl74, fr74, tc74, tr74⟩
      ·
        have FL74 : Fr W_cp Mc Mx74 := Fr.t (Fr.sI (by decide) (Fr.sI (by decide) Fr.r)) fl74
        have FR74 : Fr W_rx Mr Nx74 := Fr.t f73 fr74
        obtain ⟨bb74_0, bb74_1, bb74_2, bb74_3, bb74_4, bb74_5, bb74_6, bb74_7, bb74_8, bb74_9, bb74_10, bb74_11⟩ := bd74
        obtain ⟨q74_12, q74_13, q74_10, q74_9, q74_16, q74_19⟩ := sc74
        obtain ⟨w74_36, w74_37, w74_38, w74_41, w74_43, w74_51, w74_53, w74_50, w74_n⟩ := sr74
        obtain ⟨ca74, ra74, lc74, lr74, cu74, ru74⟩ := rw74
        have hk75 := (hS.ok i74 (by omega) (by omega)).r
        have ku74 := KU.t (kua.fr (W := W_c0) (Fr.sI (by decide) (Fr.sI (by decide) Fr.r)) (by decide)) kv74 (by omega)
        have ty76 := Tye.t (d3 := 1) ty2 ag74 tp74 (by omega)
        have du77 := DU.t du3 ag74 au74 ax74 dp74 (by omega)
        refine rsl (cV_e rfl) ?_
        refine rsr (cV_e rfl) ?_
        refine rsl (vC_e (ck_65 (hC.fr FL74))) ?_
        have ty79 := Tye.em (d := 1) (d' := 1) (q := (e74 + 1)) (n1 := 0) (ut := ut) (mu := mu) (l := []) ty76 (Or.inr (Or.inr (Or.inr (Or.inr (Or.inl (by omega))))) : Eff 23 0 0 1 s 1 s) (by omega) ⟨by omega, by omega⟩ (by omega)
        have du80 := DU.em (q := (e74 + 1)) (o := 23) (n := 0) (p := -2) (l := [0]) du77 (by omega) (by omega)
        refine RlI (a87 (by omega) (hC.fr FL74) (q74_9) (li_23) (li_0) (by omega)) fun v Ma81 h81 => ?_
        obtain ⟨r78, rfl, g81, e81_k0, p81_0, p81_1⟩ := h81
        have f81 : Fr W_cp Mc Ma81 := Fr.t FL74 (Fr.m g81 (by decide))
        refine rsl (cI_e rfl) ?_
        refine rsl (jv_e) ?_
        refine rsr (gtI_q (w := iI (dp + 1)) (rk_160 (hR.fr FR74)) (w74_50)) ?_
        refine rsr (ptI_q (z := dp) (rk_160 (hR.fr FR74)) (cvI (sbI (rfl) (li_1)) (by omega))) ?_
        refine rsr (jn_v) ?_
        refine rsr (if_neg (krI_n (k := 45) (rfl) (li_45) (hS.ok i (by omega) (by omega)) (by unfold KdOK sgk; omega) (by decide +kernel) (by omega) (by omega))) ?_
        refine rsr (jv_e) ?_
        refine rsr (vC_e (rk_160 (hR.fr FR74).sI)) ?_
        refine RrI (a196 (by omega) (hR.fr FR74).sI ((sI_nej (by decide)).trans (w74_43)) ((sI_nej (by decide)).trans ((FR74.i _ _ (by decide)).trans h49)) ((sI_nej (by decide)).trans ((FR74.i _ _ (by decide)).trans h48)) (li_23) (li_0) (by omega)) fun v Ma83 h83 => ?_
        obtain ⟨r82, rfl, g83, e83_k0, p83_0, p83_1⟩ := h83
        have f83 : Fr W_rx Mr Ma83 := Fr.t (Fr.sI (by decide) FR74) (Fr.m g83 (by decide))
        refine rsr (cI_e rfl) ?_
        refine rsr (jv_e) ?_
        exact Rs.ok (Or.inl ⟨i74, (e74 + 1), u74, uc74, (pu G74 e74 [23, 0, -2, 0, ut, mu, 0]), U74, X74, f81, f83, ⟨(g81.i _ _ (by decide)).trans (q74_12), (g81.i _ _ (by decide)).trans (q74_13), (g81.i _ _ (by decide)).trans (q74_10), e81_k0, (g81.i _ _ (by decide)).trans (q74_16), (g81.i _ _ (by decide)).trans (q74_19)⟩, ⟨(g83.i _ _ (by decide)).trans ((sI_nej (by decide)).trans (w74_36)), (g83.i _ _ (by decide)).trans ((sI_nej (by decide)).trans (w74_37)), (g83.i _ _ (by decide)).trans ((sI_nej (by decide)).trans (w74_38)), (g83.i _ _ (by decide)).trans ((sI_nej (by decide)).trans (w74_41)), e83_k0, (g83.i _ _ (by decide)).trans ((sI_nej (by decide)).trans (w74_51)), (g83.i _ _ (by decide)).trans ((sI_nej (by decide)).trans (w74_53)), (g83.i _ _ (by decide)).trans (sI_eq), ((w74_n.fr (W := W_r0) (Fr.sI (by decide) Fr.r) (by decide) (by decide)).fr g83 (by decide) (by decide))⟩, ⟨(CA1.em ca74 (by omega) p81_1 rfl), (RA1.em (ra74.fr (W := W_r0) (Fr.sI (by decide) Fr.r) (by decide)) (by omega) p83_1 rfl), (lc74.fr g81 (by decide)), ((lr74.fr (W := W_r0) (Fr.sI (by decide) Fr.r) (by decide)).fr g83 (by decide)), (cu74.fr g81 (by decide)), ((ru74.fr (W := W_r0) (Fr.sI (by decide) Fr.r) (by decide)).fr g83 (by decide))⟩, ⟨by omega, by omega, by omega, by omega, by omega, by omega, by omega, by omega, by omega, by omega, by omega, by omega⟩, ⟨by omega, by omega, by omega, by omega, by omega, by omega⟩, (Ag.pu (Ag.t Ag.r ag74 (by omega)) (by omega)), (Ag.t Ag.r au74 (by omega)), (AgL.t AgL.r ax74 (by omega)), ty79, du80, (ku74.fr g81 (by decide))⟩)
      ·
        have FL74 : Fr W_cp Mc Mx74 := Fr.t (Fr.sI (by decide) (Fr.sI (by decide) Fr.r)) fl74
        have FR74 : Fr W_rp Mr Nx74 := Fr.t (Fr.m f73 W_rx_p) fr74
        obtain ⟨ti74, tz74, tn74, tu74, t1374, t1074, t1174, t1274, t974, t1674, t1974, tb74⟩ := tc74
        obtain ⟨re74, rn74, ru74, rm74, rt74, u4174, u4274, u4374, u5174, u5374, u4874, u4974, ub74⟩ := tr74
        refine rsl (cV_e rfl) ?_
        refine rsr (cV_e rfl) ?_
        refine rsl (vC_e (ck_65 (hC.fr FL74))) ?_
        refine RlI (y87 (by omega) (hC.fr FL74) (hTk.fr (WL := W_cp) FL74 (by decide)) (t1274) (t1374) (t1074) (t1174) (t974) (t1674) (t1974) (li_23) (li_0) (by omega)) fun v Ma85 h85 => ?_
        obtain ⟨rv84, sz84, sn84, uc84, rfl, g85, e85_sz84, e85_sn84, e85_uc84, e85_k0, e85_k1, e85_k2, e85_k3, p85_0, p85_1, p85_2, p85_3⟩ := h85
        have f85 : Fr W_cp Mc Ma85 := Fr.t FL74 (Fr.m g85 (by decide))
        refine rsl (cI_e rfl) ?_
        refine rsl (jv_e) ?_
        have b86 := V_r (M := Nx74) (a := 160) (j := 50)
        refine rsr (gtI_q (w := iI ((V Nx74 160 50))) (rk_160 (hR.fr FR74)) (eV)) ?_
        refine rsr (ptI_q (z := ((V Nx74 160 50) - 1)) (rk_160 (hR.fr FR74)) (cvI (sbI (rfl) (li_1)) (by omega))) ?_
        refine rsr (jn_v) ?_
        refine rsr (if_neg (krI_n (k := 45) (rfl) (li_45) (hS.ok i (by omega) (by omega)) (by unfold KdOK sgk; omega) (by decide +kernel) (by omega) (by omega))) ?_
        refine rsr (jv_e) ?_
        refine rsr (vC_e (rk_160 (hR.fr FR74).sI)) ?_
        refine RrI (x196_s (by omega) (hR.fr FR74).sI ((sI_nej (by decide)).trans (u4174)) ((sI_nej (by decide)).trans (u4274)) ((sI_nej (by decide)).trans (u4374)) ((sI_nej (by decide)).trans (u5174)) ((sI_nej (by decide)).trans (u5374)) ((sI_nej (by decide)).trans (u4874)) ((sI_nej (by decide)).trans (u4974)) (li_23) (li_0) (by omega)) fun v Ma88 h88 => ?_
        obtain ⟨rv87, em87, rfl, g88, e88_em87, e88_k0, e88_k1, e88_k2, e88_k3, e88_k4, p88_0, p88_1⟩ := h88
        have f88 : Fr W_rp Mr Ma88 := Fr.t (Fr.sI (by decide) FR74) (Fr.m g88 (by decide))
        refine rsr (cI_e rfl) ?_
        refine rsr (jv_e) ?_
        exact Rs.ok (Or.inr ⟨F74, P74, f85, f88, ⟨ti74, sz84, sn84, uc84, e85_k0, e85_k1, e85_k2, e85_k3, e85_sz84, e85_sn84, e85_uc84, by omega⟩, ⟨em87, rn74, ru74, rm74, rt74, e88_k0, e88_k1, e88_em87, e88_k2, e88_k3, e88_k4, (g88.i _ _ (by decide)).trans ((sI_nej (by decide)).trans (u4974)), by omega⟩⟩)
    ·
      refine rsl (cV_e (a69_6 (by omega) hS hC (hTk.fr (WL := W_cp) Fr.r (by decide)) (qa_12) (qa_13) (qa_10) (li_224) (rfl) (by omega))) ?_
      refine rsl (vC_e (ck_65 hC.sI.sI.sI)) ?_
      refine RlV (y100 (by omega) hC.sI.sI.sI (hTk.fr (WL := W_cp) (Fr.sI (by decide) (Fr.sI (by decide) (Fr.sI (by decide) Fr.r))) (by decide)) ((sI_nej (by decide)).trans ((sI_nej (by decide)).trans ((sI_nej (by decide)).trans (qa_12)))) (sI_eq) ((sI_nej (by decide)).trans ((sI_nej (by decide)).trans (sI_eq))) ((sI_nej (by decide)).trans (sI_eq)) ((sI_nej (by decide)).trans ((sI_nej (by decide)).trans ((sI_nej (by decide)).trans (qa_9)))) ((sI_nej (by decide)).trans ((sI_nej (by decide)).trans ((sI_nej (by decide)).trans (qa_16)))) ((sI_nej (by decide)).trans ((sI_nej (by decide)).trans ((sI_nej (by decide)).trans (qa_19)))) (adI (rfl) (li_1)) (by omega)) fun v Ma90 h90 => ?_
      obtain ⟨sz89, sn89, uc89, g90, e90_sz89, e90_sn89, e90_uc89, e90_k0, e90_k1, e90_k2, e90_k3, p90_0, p90_1, p90_2⟩ := h90
      have f90 : Fr W_cp Mc Ma90 := Fr.t (Fr.sI (by decide) (Fr.sI (by decide) (Fr.sI (by decide) Fr.r))) (Fr.m g90 (by decide))
      refine rsl (cV_e rfl) ?_
      refine rsl (vC_e (ck_65 (hC.fr f90))) ?_
      refine RlI (y87 (by omega) (hC.fr f90) (hTk.fr (WL := W_cp) f90 (by decide)) (e90_k3) (e90_k0) (e90_k1) (e90_k2) (e90_sz89) (e90_sn89) (e90_uc89) (li_23) (li_0) (by omega)) fun v Ma92 h92 => ?_
      obtain ⟨rv91, sz91, sn91, uc91, rfl, g92, e92_sz91, e92_sn91, e92_uc91, e92_k0, e92_k1, e92_k2, e92_k3, p92_0, p92_1, p92_2, p92_3⟩ := h92
      have f92 : Fr W_cp Mc Ma92 := Fr.t f90 (Fr.m g92 (by decide))
      refine rsl (cI_e rfl) ?_
      refine rsl (jv_e) ?_
      refine rsr (gtI_q (w := iI 0) (rk_160 hR) (wa_41)) ?_
      refine rsr (jn_v) ?_
      refine rsr (if_pos (eqI_p (rfl) (li_0) (by omega))) ?_
      refine rsr (gtI_q (w := iI ((kr (kd i)))) (rk_160 hR) (wa_36)) ?_
      refine rsr (jn_v) ?_
      refine rsr (jn_v) ?_
      refine rsr (if_neg (krI_n (k := 4) (rfl) (li_2) (hS.ok i (by omega) (by omega)) (by unfold KdOK sgk; omega) (by decide +kernel) (by omega) (by omega))) ?_
      refine rsr (gtI_q (w := iI ((kr (kd i)))) (rk_160 hR) (wa_36)) ?_
      refine rsr (if_neg (krI_n (k := 45) (rfl) (li_45) (hS.ok i (by omega) (by omega)) (by unfold KdOK sgk; omega) (by decide +kernel) (by omega) (by omega))) ?_
      refine rsr (gtI_q (w := iI ((kr (kd i)))) (rk_160 hR) (wa_36)) ?_
      refine rsr (if_pos (krI_p (k := 224) (rfl) (li_425) (by omega) (by decide +kernel))) ?_
      refine rsr (jv_e) ?_
      refine rsr (jv_e) ?_
      refine rsr (vC_e (rk_160 hR)) ?_
      refine rsr (cI_e (ar193_p (by omega) hS hR (wa_36) (wa_37) (wa_41) (li_1) (by omega))) ?_
      refine rsr (if_neg (eqI_n (rfl) (li_0) (by omega))) ?_
      refine rsr (gtI_q (w := iI ((kr (kd i)))) (rk_160 hR) (wa_36)) ?_
      refine rsr (jn_v) ?_
      refine rsr (if_neg (krI_n (k := 4) (rfl) (li_2) (hS.ok i (by omega) (by omega)) (by unfold KdOK sgk; omega) (by decide +kernel) (by omega) (by omega))) ?_
      refine rsr (if_neg (krI_n (k := 3) (rfl) (li_1) (hS.ok i (by omega) (by omega)) (by unfold KdOK sgk; omega) (by decide +kernel) (by omega) (by omega))) ?_
      refine rsr (vC_e (rk_160 hR)) ?_
      refine rsr (cI_e (ar200_6 (by omega) hS hR (wa_36) (wa_37) (wa_41) (wa_50) (by omega))) ?_
      refine rsr (if_pos (eqI_p (rfl) (li_0) (by omega))) ?_
      refine rsr (jv_e) ?_
      exact Rs.ok (Or.inr ⟨6, ((pl i)), f92, (Fr.sI (by decide) (Fr.sI (by decide) (Fr.sI (by decide) Fr.r))), ⟨i, sz91, sn91, uc91, e92_k0, e92_k1, e92_k2, e92_k3, e92_sz91, e92_sn91, e92_uc91, by omega⟩, ⟨e, s, u, mu, ut, (sI_nej (by decide)).trans (sI_eq), sI_eq, (sI_nej (by decide)).trans ((sI_nej (by decide)).trans ((sI_nej (by decide)).trans (wa_43))), (sI_nej (by decide)).trans ((sI_nej (by decide)).trans ((sI_nej (by decide)).trans (wa_51))), (sI_nej (by decide)).trans ((sI_nej (by decide)).trans ((sI_nej (by decide)).trans (wa_53))), (sI_nej (by decide)).trans ((sI_nej (by decide)).trans ((sI_nej (by decide)).trans (h48))), (sI_nej (by decide)).trans ((sI_nej (by decide)).trans ((sI_nej (by decide)).trans (h49))), by omega⟩⟩)
  refine rsl (if_neg (eqI_n (rfl) (li_224) (by omega))) ?_
  refine rsl (swI_n) ?_
  refine rsl (vC_e (ck_65 hC)) ?_
  by_cases c93 : ((kd i)) = 1
  ·
    refine rsl (cV_e (a62_1 (by omega) hS hC (hTk.fr (WL := W_cp) Fr.r (by decide)) (qa_12) (qa_13) (qa_10) (li_2) (by omega))) ?_
    refine rsl (jv_e) ?_
    refine rsr (gtI_q (w := iI 0) (rk_160 hR) (wa_41)) ?_
    refine rsr (jn_v) ?_
    refine rsr (if_pos (eqI_p (rfl) (li_0) (by omega))) ?_
    refine rsr (gtI_q (w := iI ((kr (kd i)))) (rk_160 hR) (wa_36)) ?_
    refine rsr (jn_v) ?_
    refine rsr (jn_v) ?_
    refine rsr (if_neg (krI_n (k := 4) (rfl) (li_2) (hS.ok i (by omega) (by omega)) (by unfold KdOK sgk; omega) (by decide +kernel) (by omega) (by omega))) ?_
    refine rsr (gtI_q (w := iI ((kr (kd i)))) (rk_160 hR) (wa_36)) ?_
    refine rsr (if_neg (krI_n (k := 45) (rfl) (li_45) (hS.ok i (by omega) (by omega)) (by unfold KdOK sgk; omega) (by decide +kernel) (by omega) (by omega))) ?_
    refine rsr (gtI_q (w := iI ((kr (kd i)))) (rk_160 hR) (wa_36)) ?_
    refine rsr (if_neg (krI_n (k := 224) (rfl) (li_425) (hS.ok i (by omega) (by omega)) (by unfold KdOK sgk; omega) (by decide +kernel) (by omega) (by omega))) ?_
    refine rsr (gtI_q (w := iI ((kr (kd i)))) (rk_160 hR) (wa_36)) ?_
    refine rsr (if_neg (krI_n (k := 40) (rfl) (li_40) (hS.ok i (by omega) (by omega)) (by unfold KdOK sgk; omega) (by decide +kernel) (by omega) (by omega))) ?_
    refine rsr (gtI_q (w := iI ((kr (kd i)))) (rk_160 hR) (wa_36)) ?_
    refine rsr (if_neg (krI_n (k := 3) (rfl) (li_1) (hS.ok i (by omega) (by omega)) (by unfold KdOK sgk; omega) (by decide +kernel) (by omega) (by omega))) ?_
    refine rsr (jv_e) ?_
    refine rsr (vC_e (rk_160 hR)) ?_
    refine rsr (cI_e (ar193_1 (by omega) hS hR (wa_36) (wa_37) (wa_41) (li_0) (by omega))) ?_
    refine rsr (if_pos (eqI_p (rfl) (li_0) (by omega))) ?_
    refine rsr (jv_e) ?_
    exact Rs.ok (Or.inr ⟨1, ((pl i)), (Fr.sI (by decide) (Fr.sI (by decide) (Fr.sI (by decide) Fr.r))), (Fr.sI (by decide) (Fr.sI (by decide) Fr.r)), ⟨i, e, s, uc, sI_eq, (sI_nej (by decide)).trans ((sI_nej (by decide)).trans (sI_eq)), (sI_nej (by decide)).trans (sI_eq), (sI_nej (by decide)).trans ((sI_nej (by decide)).trans ((sI_nej (by decide)).trans (qa_12))), (sI_nej (by decide)).trans ((sI_nej (by decide)).trans ((sI_nej (by decide)).trans (qa_9))), (sI_nej (by decide)).trans ((sI_nej (by decide)).trans ((sI_nej (by decide)).trans (qa_16))), (sI_nej (by decide)).trans ((sI_nej (by decide)).trans ((sI_nej (by decide)).trans (qa_19))), by omega⟩, ⟨e, s, u, mu, ut, (sI_nej (by decide)).trans (sI_eq), sI_eq, (sI_nej (by decide)).trans ((sI_nej (by decide)).trans (wa_43)), (sI_nej (by decide)).trans ((sI_nej (by decide)).trans (wa_51)), (sI_nej (by decide)).trans ((sI_nej (by decide)).trans (wa_53)), (sI_nej (by decide)).trans ((sI_nej (by decide)).trans (h48)), (sI_nej (by decide)).trans ((sI_nej (by decide)).trans (h49)), by omega⟩⟩)
  ·
    refine rsl (cV_e (a62_2 (by omega) hS hC (hTk.fr (WL := W_cp) Fr.r (by decide)) (qa_12) (qa_13) (qa_10) (li_2) (by omega))) ?_
    refine rsl (jv_e) ?_
    refine rsr (gtI_q (w := iI 0) (rk_160 hR) (wa_41)) ?_
    refine rsr (jn_v) ?_
    refine rsr (if_pos (eqI_p (rfl) (li_0) (by omega))) ?_
    refine rsr (gtI_q (w := iI ((kr (kd i)))) (rk_160 hR) (wa_36)) ?_
    refine rsr (jn_v) ?_
    refine rsr (jn_v) ?_
    refine rsr (if_neg (krI_n (k := 4) (rfl) (li_2) (hS.ok i (by omega) (by omega)) (by unfold KdOK sgk; omega) (by decide +kernel) (by omega) (by omega))) ?_
    refine rsr (gtI_q (w := iI ((kr (kd i)))) (rk_160 hR) (wa_36)) ?_
    refine rsr (if_neg (krI_n (k := 45) (rfl) (li_45) (hS.ok i (by omega) (by omega)) (by unfold KdOK sgk; omega) (by decide +kernel) (by omega) (by omega))) ?_
    refine rsr (gtI_q (w := iI ((kr (kd i)))) (rk_160 hR) (wa_36)) ?_
    refine rsr (if_neg (krI_n (k := 224) (rfl) (li_425) (hS.ok i (by omega) (by omega)) (by unfold KdOK sgk; omega) (by decide +kernel) (by omega) (by omega))) ?_
    refine rsr (gtI_q (w := iI ((kr (kd i)))) (rk_160 hR) (wa_36)) ?_
    refine rsr (if_neg (krI_n (k := 40) (rfl) (li_40) (hS.ok i (by omega) (by omega)) (by unfold KdOK sgk; omega) (by decide +kernel) (by omega) (by omega))) ?_
    refine rsr (gtI_q (w := iI ((kr (kd i)))) (rk_160 hR) (wa_36)) ?_
    refine rsr (if_neg (krI_n (k := 3) (rfl) (li_1) (hS.ok i (by omega) (by omega)) (by unfold KdOK sgk; omega) (by decide +kernel) (by omega) (by omega))) ?_
    refine rsr (jv_e) ?_
    refine rsr (vC_e (rk_160 hR)) ?_
    refine rsr (cI_e (ar193_2 (by omega) hS hR (wa_36) (wa_37) (wa_41) (li_0) (by omega))) ?_
    refine rsr (if_pos (eqI_p (rfl) (li_0) (by omega))) ?_
    refine rsr (jv_e) ?_
    exact Rs.ok (Or.inr ⟨2, ((pl i)), (Fr.sI (by decide) (Fr.sI (by decide) (Fr.sI (by decide) Fr.r))), (Fr.sI (by decide) (Fr.sI (by decide) Fr.r)), ⟨i, e, s, uc, sI_eq, (sI_nej (by decide)).trans ((sI_nej (by decide)).trans (sI_eq)), (sI_nej (by decide)).trans (sI_eq), (sI_nej (by decide)).trans ((sI_nej (by decide)).trans ((sI_nej (by decide)).trans (qa_12))), (sI_nej (by decide)).trans ((sI_nej (by decide)).trans ((sI_nej (by decide)).trans (qa_9))), (sI_nej (by decide)).trans ((sI_nej (by decide)).trans ((sI_nej (by decide)).trans (qa_16))), (sI_nej (by decide)).trans ((sI_nej (by decide)).trans ((sI_nej (by decide)).trans (qa_19))), by omega⟩, ⟨e, s, u, mu, ut, (sI_nej (by decide)).trans (sI_eq), sI_eq, (sI_nej (by decide)).trans ((sI_nej (by decide)).trans (wa_43)), (sI_nej (by decide)).trans ((sI_nej (by decide)).trans (wa_51)), (sI_nej (by decide)).trans ((sI_nej (by decide)).trans (wa_53)), (sI_nej (by decide)).trans ((sI_nej (by decide)).trans (h48)), (sI_nej (by decide)).trans ((sI_nej (by decide)).trans (h49)), by omega⟩⟩)
