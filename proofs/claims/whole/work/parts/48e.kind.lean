theorem p_st222 {D : Nat} {dp : Int} (hD : 20 ≤ D) (hB : PairB D dp) : PairT 222 95 [] (D + 10) dp := by
  intro d d2 hd hd2 T n m kd pl E tx ua ut mu Mc Mr G U Hl X i e s u uc v0 hS hx hsc hsr hrw hbd hK hv0
  obtain ⟨d, rfl⟩ : ∃ e, d = e + 1 := ⟨d - 1, by omega⟩
  obtain ⟨d2, rfl⟩ : ∃ e, d2 = e + 1 := ⟨d2 - 1, by omega⟩
  show Rs (runX (d + 1) 95 [va_rf (some 65), .int v0] Mc) (runX (d2 + 1) 214 [va_rf (some 160)] Mr) _
  rw [r95]; unfold b95; rw [aR_e, aI_e, aZ_e]; unfold c95; rw [r214]; unfold b214; rw [aR_e, aZ_e]; unfold c214
  have hCx := hx
  obtain ⟨hC, hR, hTk, hT, hW, ⟨hu1, hu2, hu3, hu4⟩, h49, h48, ⟨hb1, hb2, hb3, hb4⟩⟩ := hx
  obtain ⟨bb_0, bb_1, bb_2, bb_3, bb_4, bb_5, bb_6, bb_7, bb_8, bb_9, bb_10, bb_11⟩ := hbd
  have kua : KU uc Mc Mc := KU.r
  obtain ⟨qa_12, qa_13, qa_10, qa_9, qa_16, qa_19⟩ := hsc
  obtain ⟨wa_36, wa_37, wa_38, wa_41, wa_43, wa_51, wa_53, wa_50, wa_n⟩ := hsr
  obtain ⟨caa, raa, lca, lra, cua, rua⟩ := hrw
  have hk1 := (hS.ok i (by omega) (by omega)).r
  have ty2 := (Tye.r (G := G) (a := e) (s := s))
  have du3 := (DU.r (ut := ut) (mu := mu) (c := uc) (G := G) (U := U) (X := X) (a := e) (u := u))
  refine rsl (vC_e (ck_65 hC)) ?_
  have hm4 : i + 1 < m := hS.more i (by omega) (by omega) (by omega)
  refine rsl (cV_e (a63q (by omega) hS hC (hTk.fr (WL := W_cp) Fr.r (by decide)) (qa_12) (qa_13) (qa_10) (i2 := (i + 1)) (by omega) (by omega))) ?_
  have hk5 := (hS.ok (i + 1) (by omega) (by omega)).r
  refine rsl (vC_e (ck_65 hC.sI.sI)) ?_
  have du7 := DU.em (q := (e + 1)) (o := 26) (n := 0) (p := -2) (l := [0]) du3 (by omega) (by omega)
  refine RlI (a87q (by omega) hC.sI.sI ((sI_nej (by decide)).trans ((sI_nej (by decide)).trans (qa_9))) (li_26) (li_0) (q := (e + 1)) (by omega) (by omega)) fun v Ma8 h8 => ?_
  obtain ⟨r6, rfl, g8, e8_k0, p8_0, p8_1⟩ := h8
  have f8 : Fr W_cp Mc Ma8 := Fr.t (Fr.sI (by decide) (Fr.sI (by decide) Fr.r)) (Fr.m g8 (by decide))
  refine rsl (cI_e rfl) ?_
  refine rsl (vC_e (ck_65 (hC.fr f8))) ?_
  refine rsr (gtI_q (w := iI ((kr (kd i)))) (rk_160 hR) (wa_36)) ?_
  refine rsr (jn_v) ?_
  refine rsr (swI_c) ?_
  refine rsr (if_neg (krI_n (k := 215) (rfl) (li_416) (hS.ok i (by omega) (by omega)) (by unfold KdOK sgk; omega) (by decide +kernel) (by omega) (by omega))) ?_
  refine rsr (swI_c) ?_
  refine rsr (if_neg (krI_n (k := 216) (rfl) (li_417) (hS.ok i (by omega) (by omega)) (by unfold KdOK sgk; omega) (by decide +kernel) (by omega) (by omega))) ?_
  refine rsr (swI_c) ?_
  refine rsr (if_neg (krI_n (k := 217) (rfl) (li_418) (hS.ok i (by omega) (by omega)) (by unfold KdOK sgk; omega) (by decide +kernel) (by omega) (by omega))) ?_
  refine rsr (swI_c) ?_
  refine rsr (if_neg (krI_n (k := 218) (rfl) (li_419) (hS.ok i (by omega) (by omega)) (by unfold KdOK sgk; omega) (by decide +kernel) (by omega) (by omega))) ?_
  refine rsr (swI_c) ?_
  refine rsr (if_neg (krI_n (k := 219) (rfl) (li_420) (hS.ok i (by omega) (by omega)) (by unfold KdOK sgk; omega) (by decide +kernel) (by omega) (by omega))) ?_
  refine rsr (swI_c) ?_
  refine rsr (if_neg (krI_n (k := 220) (rfl) (li_421) (hS.ok i (by omega) (by omega)) (by unfold KdOK sgk; omega) (by decide +kernel) (by omega) (by omega))) ?_
  refine rsr (swI_c) ?_
  refine rsr (if_neg (krI_n (k := 221) (rfl) (li_422) (hS.ok i (by omega) (by omega)) (by unfold KdOK sgk; omega) (by decide +kernel) (by omega) (by omega))) ?_
  refine rsr (swI_c) ?_
  refine rsr (if_pos (krI_p (k := 222) (rfl) (li_423) (by omega) (by decide +kernel))) ?_
  refine rsr (vC_e (rk_160 hR)) ?_
  refine Rs_cVr ?_ (fun v M w N h => rs1 jv_e (Rt.ok h))
  obtain ⟨d2, rfl⟩ : ∃ e, d2 = e + 1 := ⟨d2 - 1, by omega⟩
  rw [r216]; unfold b216; rw [aR_e, aZ_e]; unfold c216
  refine rsr (vC_e (rk_160 hR)) ?_
  refine RrI (a196q (by omega) hR (wa_43) (h49) (h48) (li_26) (li_0) (q := (e + 1)) (by omega) (by omega)) fun v Ma10 h10 => ?_
  obtain ⟨r9, rfl, g10, e10_k0, p10_0, p10_1⟩ := h10
  have f10 : Fr W_rx Mr Ma10 := Fr.t Fr.r (Fr.m g10 (by decide))
  refine rsr (cI_e rfl) ?_
  refine rsr (vC_e (rk_160 (hR.fr f10))) ?_
  refine RrV (nx_q (by omega) hS (hR.fr f10) (hT.fr (W := W_rx) f10 (by decide) (by decide)) (fun i a b => (Fr.lc (W := W_rx) f10 _ (by decide) _).trans (hW i a b)) (i := i) (i2 := (i + 1)) ((g10.i _ _ (by decide)).trans (wa_41)) ((g10.i _ _ (by decide)).trans (wa_38)) (by omega) (by omega) (by omega)) fun v Ma11 h11 => ?_
  obtain ⟨g11, e11_k0, e11_k1, e11_k2, p11_0⟩ := h11
  have f11 : Fr W_rx Mr Ma11 := Fr.t f10 (Fr.m g11 (by decide))
  refine rsr (cV_e rfl) ?_
  refine rsr (vC_e (rk_160 (hR.fr f11))) ?_
  refine Rb_VV (hB _ _ (by omega) (by omega) T n m kd pl E tx ua ut mu _ _ (pu G e [26, 0, -2, 0, ut, mu, 0]) U Hl X (i + 1) (e + 1) s u uc _ hS (hCx.fr f8 f11) ⟨(g8.i _ _ (by decide)).trans ((sI_nej (by decide)).trans (sI_eq)), (g8.i _ _ (by decide)).trans (sI_eq), (g8.i _ _ (by decide)).trans ((sI_nej (by decide)).trans ((sI_nej (by decide)).trans (qa_10))), e8_k0, (g8.i _ _ (by decide)).trans ((sI_nej (by decide)).trans ((sI_nej (by decide)).trans (qa_16))), (g8.i _ _ (by decide)).trans ((sI_nej (by decide)).trans ((sI_nej (by decide)).trans (qa_19)))⟩ ⟨e11_k0, e11_k1, e11_k2, (g11.i _ _ (by decide)).trans ((g10.i _ _ (by decide)).trans (wa_41)), (g11.i _ _ (by decide)).trans (e10_k0), (g11.i _ _ (by decide)).trans ((g10.i _ _ (by decide)).trans (wa_51)), (g11.i _ _ (by decide)).trans ((g10.i _ _ (by decide)).trans (wa_53)), (g11.i _ _ (by decide)).trans ((g10.i _ _ (by decide)).trans (wa_50)), p11_0⟩ ⟨(CA1.em (q := (e + 1)) (caa.fr (W := W_c0) (Fr.sI (by decide) (Fr.sI (by decide) Fr.r)) (by decide)) (by omega) p8_1 (by omega)), ((RA1.em (q := (e + 1)) raa (by omega) p10_1 (by omega)).fr g11 (by decide)), ((lca.fr (W := W_c0) (Fr.sI (by decide) (Fr.sI (by decide) Fr.r)) (by decide)).fr g8 (by decide)), ((lra.fr g10 (by decide)).fr g11 (by decide)), ((cua.fr (W := W_c0) (Fr.sI (by decide) (Fr.sI (by decide) Fr.r)) (by decide)).fr g8 (by decide)), ((rua.fr g10 (by decide)).fr g11 (by decide))⟩ ⟨by omega, by omega, by omega, by omega, by omega, by omega, by omega, by omega, by omega, by omega, by omega, by omega⟩ (hv0)) fun v Mx12 w Nx12 hx12 => ?_
  rcases hx12 with ⟨i12, lt12, e12, u12, uc12, G12, U12, X12, fl12, fr12, sc12, sr12, rw12, bd12, mv12, ag12, au12, ax12, tp12, dp12, kv12, ⟨sl12, sh12⟩⟩ | ⟨F12, P12, fl12, fr12, tc12, tr12⟩
  ·
    have FL12 : Fr W_cp Mc Mx12 := Fr.t f8 fl12
    have FR12 : Fr W_rx Mr Nx12 := Fr.t f11 fr12
    obtain ⟨bb12_0, bb12_1, bb12_2, bb12_3, bb12_4, bb12_5, bb12_6, bb12_7, bb12_8, bb12_9, bb12_10, bb12_11⟩ := bd12
    obtain ⟨q12_12, q12_13, q12_10, q12_9, q12_16, q12_19⟩ := sc12
    obtain ⟨w12_36, w12_37, w12_38, w12_41, w12_43, w12_51, w12_53, w12_50, w12_n⟩ := sr12
    obtain ⟨ca12, ra12, lc12, lr12, cu12, ru12⟩ := rw12
    have hk13 := (hS.ok i12 (by omega) (by omega)).r
    have ku12 := KU.t ((kua.fr (W := W_c0) (Fr.sI (by decide) (Fr.sI (by decide) Fr.r)) (by decide)).fr g8 (by decide)) kv12 (by omega)
    have du14 := DU.t du7 ag12 au12 ax12 dp12 (by omega)
    refine rsl (cV_e rfl) ?_
    refine rsr (cV_e rfl) ?_
    refine rsl (vC_e (ck_65 (hC.fr FL12))) ?_
    have du16 := DU.em (q := (e12 + 1)) (o := 27) (n := 0) (p := -2) (l := [0]) du14 (by omega) (by omega)
    refine RlI (a87q (by omega) (hC.fr FL12) (q12_9) (li_27) (li_0) (q := (e12 + 1)) (by omega) (by omega)) fun v Ma17 h17 => ?_
    obtain ⟨r15, rfl, g17, e17_k0, p17_0, p17_1⟩ := h17
    have f17 : Fr W_cp Mc Ma17 := Fr.t FL12 (Fr.m g17 (by decide))
    refine rsl (cI_e rfl) ?_
    refine rsl (vC_e (ck_65 (hC.fr f17))) ?_
    have du19 := DU.em (q := (e12 + 2)) (o := 25) (n := 0) (p := -2) (l := [0]) du16 (by omega) (by omega)
    refine RlI (a87q (by omega) (hC.fr f17) (e17_k0) (li_25) (li_0) (q := (e12 + 2)) (by omega) (by omega)) fun v Ma20 h20 => ?_
    obtain ⟨r18, rfl, g20, e20_k0, p20_0, p20_1⟩ := h20
    have f20 : Fr W_cp Mc Ma20 := Fr.t f17 (Fr.m g20 (by decide))
    refine rsl (cI_e rfl) ?_
    refine rsl (gtP_q (w := some 73) (ck_65 (hC.fr f20)) (cf_65_6 (hC.fr f20))) ?_
    refine rsl (gtI_q (w := iI (e12 + 2)) (ck_65 (hC.fr f20)) (e20_k0)) ?_
    refine rsl (asI_q (n := 4096) (z := e) (y := (e12 + 2)) (ck_73 (hC.fr f20)) (congrArg iI p8_0) (by omega) (rfl)) ?_
    have du21 := (DU.pj (j := e) (v2 := (e12 + 2)) du19)
    refine rsl (ltI_q (z := (e + 1)) (adI (congrArg iI p8_0) (li_1))) ?_
    refine rsl (jn_v) ?_
    refine lp95 (G := (pj (pu (pu G12 e12 [27, 0, -2, 0, ut, mu, 0]) (e12 + 1) [25, 0, -2, 0, ut, mu, 0]) e (e12 + 2))) (hC.fr f20).sI ((sI_ne (by decide)).trans (e20_k0)) (CA1.pt (v := (e12 + 2)) (CA1.em (q := (e12 + 2)) (CA1.em (q := (e12 + 1)) ca12 (by omega) p17_1 (by omega)) (by omega) p20_1 (by omega)) (by omega)) (congrArg iI p17_0) (rfl) (by omega) fun Mq22 f22 cq22 => ?_
    have du23 := (DU.pc (a2 := (e + 1)) (b2 := e12) (v2 := (e12 + 2)) du21)
    have ff22 : Fr W_cp Mc Mq22 := Fr.t (Fr.sI (inW_c (by decide) _) f20) (Fr.m f22 (by decide))
    refine rsl (vC_e (ck_65 (hC.fr ff22))) ?_
    by_cases c24 : ((kd i12)) = 223
    ·
      have hm25 : i12 + 1 < m := hS.more i12 (by omega) (by omega) (by omega)
      refine rsl (cV_e (a64q (by omega) hS (hC.fr ff22) (hTk.fr (WL := W_cp) ff22 (by decide)) ((f22.i _ _ (by decide)).trans ((sI_ne (by decide)).trans ((g20.i _ _ (by decide)).trans ((g17.i _ _ (by decide)).trans (q12_12))))) ((f22.i _ _ (by decide)).trans ((sI_ne (by decide)).trans ((g20.i _ _ (by decide)).trans ((g17.i _ _ (by decide)).trans (q12_13))))) ((f22.i _ _ (by decide)).trans ((sI_ne (by decide)).trans ((g20.i _ _ (by decide)).trans ((g17.i _ _ (by decide)).trans (q12_10))))) (li_223) (i2 := (i12 + 1)) (by omega) (by omega))) ?_
      have hk26 := (hS.ok (i12 + 1) (by omega) (by omega)).r
      refine rsl (gtI_q (w := iI s) (ck_65 (hC.fr ff22).sI.sI) ((sI_nej (by decide)).trans ((sI_nej (by decide)).trans ((f22.i _ _ (by decide)).trans ((sI_ne (by decide)).trans ((g20.i _ _ (by decide)).trans ((g17.i _ _ (by decide)).trans (q12_16)))))))) ?_
      refine rsl (vC_e (ck_65 (hC.fr ff22).sI.sI)) ?_
      refine rsl (cL_e (a65 (by omega) hS (hC.fr ff22).sI.sI (hTk.fr (WL := W_cp) (Fr.sI (by decide) (Fr.sI (by decide) ff22)) (by decide)) ((sI_nej (by decide)).trans (sI_eq)) (sI_eq) ((sI_nej (by decide)).trans ((sI_nej (by decide)).trans ((f22.i _ _ (by decide)).trans ((sI_ne (by decide)).trans ((g20.i _ _ (by decide)).trans ((g17.i _ _ (by decide)).trans (q12_10))))))) (by omega))) ?_
      refine rsl (vC_e (ck_65 (hC.fr ff22).sI.sI)) ?_
      by_cases c27 : ((kd (i12 + 1))) = 3
      ·
        refine RlI (a74 (by omega) (hC.fr ff22).sI.sI ((sI_nej (by decide)).trans ((sI_nej (by decide)).trans ((f22.i _ _ (by decide)).trans ((sI_ne (by decide)).trans ((g20.i _ _ (by decide)).trans ((g17.i _ _ (by decide)).trans (q12_16))))))) (((((lc12.fr g17 (by decide)).fr g20 (by decide)).fr (W := W_c2) (Fr.sI (inW_c (by decide) _) Fr.r) (by decide)).fr f22 (by decide)).fr (W := W_c0) (Fr.sI (by decide) (Fr.sI (by decide) Fr.r)) (by decide)) (x := (tx (i12 + 1))) (by omega)) fun v Ml hl => ?_
        obtain ⟨rl28, rfl, hMl28, hlc28⟩ := hl
        rw [hMl28]
        refine rsl (cI_e rfl) ?_
        have brl28 := hlc28.bd
        by_cases crl28 : rl28 = -1
        ·
          refine rsl (jn_v) ?_
          refine rsl (if_pos (lsI_p (congrArg iI (if_pos crl28)) (li_0) (by omega))) ?_
          refine rsl (jv_e) ?_
          refine rsl (gtI_q (w := iI s) (ck_65 (hC.fr ff22).sI.sI) ((sI_nej (by decide)).trans ((sI_nej (by decide)).trans ((f22.i _ _ (by decide)).trans ((sI_ne (by decide)).trans ((g20.i _ _ (by decide)).trans ((g17.i _ _ (by decide)).trans (q12_16)))))))) ?_
          refine rsl (jn_v) ?_
          by_cases c29 : s < 10
          · refine rsl (if_pos (lsI_p (rfl) (li_10) (by omega))) ?_
            refine rsl (jv_e) ?_
            refine rsl (vC_e (ck_65 (hC.fr ff22).sI.sI)) ?_
            have hm30 : (i12 + 1) + 1 < m := hS.more (i12 + 1) (by omega) (by omega) (by omega)
            refine rsl (cL_e (a66q (by omega) hS (hC.fr ff22).sI.sI (hTk.fr (WL := W_cp) (Fr.sI (by decide) (Fr.sI (by decide) ff22)) (by decide)) ((sI_nej (by decide)).trans (sI_eq)) (sI_eq) ((sI_nej (by decide)).trans ((sI_nej (by decide)).trans ((f22.i _ _ (by decide)).trans ((sI_ne (by decide)).trans ((g20.i _ _ (by decide)).trans ((g17.i _ _ (by decide)).trans (q12_10))))))) (li_0) (li_0) (i2 := (i12 + 2)) (by omega) (by omega))) ?_
            have hk31 := (hS.ok (i12 + 2) (by omega) (by omega)).r
            refine rsl (gtI_q (w := iI s) (ck_65 (hC.fr ff22).sI.sI.sI.sI) ((sI_nej (by decide)).trans ((sI_nej (by decide)).trans ((sI_nej (by decide)).trans ((sI_nej (by decide)).trans ((f22.i _ _ (by decide)).trans ((sI_ne (by decide)).trans ((g20.i _ _ (by decide)).trans ((g17.i _ _ (by decide)).trans (q12_16)))))))))) ?_
            refine rsl (vC_e (ck_65 (hC.fr ff22).sI.sI.sI.sI)) ?_
            have du33 := DU.em (q := (e12 + 3)) (o := 2) (n := s) (p := -2) (l := [0]) du23 (by omega) (by omega)
            refine RlI (a87q (by omega) (hC.fr ff22).sI.sI.sI.sI ((sI_nej (by decide)).trans ((sI_nej (by decide)).trans ((sI_nej (by decide)).trans ((sI_nej (by decide)).trans ((f22.i _ _ (by decide)).trans ((sI_ne (by decide)).trans (e20_k0))))))) (li_2) (rfl) (q := (e12 + 3)) (by omega) (by omega)) fun v Ma34 h34 => ?_
            obtain ⟨r32, rfl, g34, e34_k0, p34_0, p34_1⟩ := h34
            have f34 : Fr W_cp Mc Ma34 := Fr.t (Fr.sI (by decide) (Fr.sI (by decide) (Fr.sI (by decide) (Fr.sI (by decide) ff22)))) (Fr.m g34 (by decide))
            refine rsl (cI_e rfl) ?_
            refine rsl (vC_e (ck_65 (hC.fr f34))) ?_
            refine RlV (a75 (by omega) (hC.fr f34) ((g34.i _ _ (by decide)).trans ((sI_nej (by decide)).trans ((sI_nej (by decide)).trans ((sI_nej (by decide)).trans ((sI_nej (by decide)).trans ((f22.i _ _ (by decide)).trans ((sI_ne (by decide)).trans ((g20.i _ _ (by decide)).trans ((g17.i _ _ (by decide)).trans (q12_16)))))))))) (x := (tx (i12 + 1))) (by omega)) fun v Ma35 h35 => ?_
            obtain ⟨g35, e35_k0, p35_0, p35_1⟩ := h35
            have f35 : Fr W_cp Mc Ma35 := Fr.t f34 (Fr.m g35 (by decide))
            refine rsl (cV_e rfl) ?_
            refine rsl (vC_e (ck_65 (hC.fr f35))) ?_
            refine rsr (vC_e (rk_160 (hR.fr FR12))) ?_
            refine RrI (a196q (by omega) (hR.fr FR12) (w12_43) ((FR12.i _ _ (by decide)).trans h49) ((FR12.i _ _ (by decide)).trans h48) (li_27) (li_0) (q := (e12 + 1)) (by omega) (by omega)) fun v Ma37 h37 => ?_
            obtain ⟨r36, rfl, g37, e37_k0, p37_0, p37_1⟩ := h37
            have f37 : Fr W_rx Mr Ma37 := Fr.t FR12 (Fr.m g37 (by decide))
            refine rsr (cI_e rfl) ?_
            refine rsr (vC_e (rk_160 (hR.fr f37))) ?_
            refine RrI (a196q (by omega) (hR.fr f37) (e37_k0) ((g37.i _ _ (by decide)).trans ((FR12.i _ _ (by decide)).trans h49)) ((g37.i _ _ (by decide)).trans ((FR12.i _ _ (by decide)).trans h48)) (li_25) (li_0) (q := (e12 + 2)) (by omega) (by omega)) fun v Ma39 h39 => ?_
            obtain ⟨r38, rfl, g39, e39_k0, p39_0, p39_1⟩ := h39
            have f39 : Fr W_rx Mr Ma39 := Fr.t f37 (Fr.m g39 (by decide))
            refine rsr (cI_e rfl) ?_
            refine rsr (gtP_q (w := some 196) (rk_160 (hR.fr f39)) (rf_45 (hR.fr f39))) ?_
            refine rsr (gtI_q (w := iI (e12 + 2)) (rk_160 (hR.fr f39)) (e39_k0)) ?_
            refine rsr (asI_q (n := 4000) (z := e) (y := (e12 + 2)) (rk_196 (hR.fr f39)) (congrArg iI p10_0) (by omega) (rfl)) ?_
            refine rsr (vC_e (rk_160 (hR.fr f39).sI)) ?_
            refine RrI (a195_424 (by omega) hS (hR.fr f39).sI (hT.fr (W := W_rx) (Fr.sI (inW_c (by decide) _) f39) (by decide) (by decide)) (fun i a b => (Fr.lc (W := W_rx) (Fr.sI (inW_c (by decide) _) f39) _ (by decide) _).trans (hW i a b)) ((sI_ne (by decide)).trans ((g39.i _ _ (by decide)).trans ((g37.i _ _ (by decide)).trans (w12_36)))) ((sI_ne (by decide)).trans ((g39.i _ _ (by decide)).trans ((g37.i _ _ (by decide)).trans (w12_37)))) ((sI_ne (by decide)).trans ((g39.i _ _ (by decide)).trans ((g37.i _ _ (by decide)).trans (w12_38)))) ((sI_ne (by decide)).trans ((g39.i _ _ (by decide)).trans ((g37.i _ _ (by decide)).trans (w12_41)))) (li_424) (i2 := (i12 + 1)) (by omega) (by omega)) fun v Ma41 h41 => ?_
            obtain ⟨r40, rfl, g41, e41_k0, e41_k1, e41_k2, p41_0, p41_1⟩ := h41
            have f41 : Fr W_rx Mr Ma41 := Fr.t (Fr.sI (inW_c (by decide) _) f39) (Fr.m g41 (by decide))
            refine rsr (cI_e rfl) ?_
            refine rsr (vC_e (rk_160 (hR.fr f41))) ?_
            refine rsr (cI_e (a198_p (by omega) hS (hR.fr f41) (e41_k0) (e41_k1) ((g41.i _ _ (by decide)).trans ((sI_ne (by decide)).trans ((g39.i _ _ (by decide)).trans ((g37.i _ _ (by decide)).trans (w12_41))))) p41_1 ((g41.i _ _ (by decide)).trans ((sI_ne (by decide)).trans ((g39.i _ _ (by decide)).trans ((g37.i _ _ (by decide)).trans (w12_51))))) ((((lr12.fr g37 (by decide)).fr g39 (by decide)).fr (W := W_r2) (Fr.sI (inW_c (by decide) _) Fr.r) (by decide)).fr g41 (by decide)) hlc28 (by omega))) ?_
            refine rsr (jn_v) ?_
            refine rsr (if_neg (eqI_n (rfl) (li_0) (by omega))) ?_
            refine rsr (gtI_q (w := iI s) (rk_160 (hR.fr f41)) ((g41.i _ _ (by decide)).trans ((sI_ne (by decide)).trans ((g39.i _ _ (by decide)).trans ((g37.i _ _ (by decide)).trans (w12_51)))))) ?_
            refine rsr (vC_e (rk_160 (hR.fr f41))) ?_
            refine RrI (a196q (by omega) (hR.fr f41) ((g41.i _ _ (by decide)).trans ((sI_ne (by decide)).trans (e39_k0))) ((g41.i _ _ (by decide)).trans ((sI_ne (by decide)).trans ((g39.i _ _ (by decide)).trans ((g37.i _ _ (by decide)).trans ((FR12.i _ _ (by decide)).trans h49))))) ((g41.i _ _ (by decide)).trans ((sI_ne (by decide)).trans ((g39.i _ _ (by decide)).trans ((g37.i _ _ (by decide)).trans ((FR12.i _ _ (by decide)).trans h48))))) (li_2) (rfl) (q := (e12 + 3)) (by omega) (by omega)) fun v Ma43 h43 => ?_
            obtain ⟨r42, rfl, g43, e43_k0, p43_0, p43_1⟩ := h43
            have f43 : Fr W_rx Mr Ma43 := Fr.t f41 (Fr.m g43 (by decide))
            refine rsr (cI_e rfl) ?_
            refine rsr (gtL_q (w := (tx (i12 + 1))) (rk_160 (hR.fr f43)) ((p41_1.fr g43 (by decide) (by decide)).1 (by omega))) ?_
            refine rsr (vC_e (rk_160 (hR.fr f43))) ?_
            refine RrV (a199 (by omega) (hR.fr f43) ((g43.i _ _ (by decide)).trans ((g41.i _ _ (by decide)).trans ((sI_ne (by decide)).trans ((g39.i _ _ (by decide)).trans ((g37.i _ _ (by decide)).trans (w12_51)))))) ((g43.i _ _ (by decide)).trans ((g41.i _ _ (by decide)).trans ((sI_ne (by decide)).trans ((g39.i _ _ (by decide)).trans ((g37.i _ _ (by decide)).trans (w12_41)))))) (x := (tx (i12 + 1))) (by omega)) fun v Ma44 h44 => ?_
            obtain ⟨g44, e44_k0, p44_0, p44_1⟩ := h44
            have f44 : Fr W_rx Mr Ma44 := Fr.t f43 (Fr.m g44 (by decide))
            refine rsr (cV_e rfl) ?_
            refine rsr (vC_e (rk_160 (hR.fr f44))) ?_
            refine RrV (nx_q (by omega) hS (hR.fr f44) (hT.fr (W := W_rx) f44 (by decide) (by decide)) (fun i a b => (Fr.lc (W := W_rx) f44 _ (by decide) _).trans (hW i a b)) (i := (i12 + 1)) (i2 := (i12 + 2)) ((g44.i _ _ (by decide)).trans ((g43.i _ _ (by decide)).trans ((g41.i _ _ (by decide)).trans ((sI_ne (by decide)).trans ((g39.i _ _ (by decide)).trans ((g37.i _ _ (by decide)).trans (w12_41))))))) ((g44.i _ _ (by decide)).trans ((g43.i _ _ (by decide)).trans (e41_k2))) (by omega) (by omega) (by omega)) fun v Ma45 h45 => ?_
            obtain ⟨g45, e45_k0, e45_k1, e45_k2, p45_0⟩ := h45
            have f45 : Fr W_rx Mr Ma45 := Fr.t f44 (Fr.m g45 (by decide))
            refine rsr (cV_e rfl) ?_
            refine rsr (vC_e (rk_160 (hR.fr f45))) ?_
            refine Rb_VV (hB _ _ (by omega) (by omega) T n m kd pl E tx ua ut mu _ _ (pu (pc (pj (pu (pu G12 e12 [27, 0, -2, 0, ut, mu, 0]) (e12 + 1) [25, 0, -2, 0, ut, mu, 0]) e (e12 + 2)) (e + 1) e12 (e12 + 2)) (e12 + 2) [2, s, -2, s, ut, mu, 0]) U12 (up1 Hl s (tx (i12 + 1))) X12 (i12 + 2) (e12 + 3) (s + 1) u12 uc12 _ hS (hCx.fr f35 f45) ⟨(g35.i _ _ (by decide)).trans ((g34.i _ _ (by decide)).trans ((sI_nej (by decide)).trans (sI_eq))), (g35.i _ _ (by decide)).trans ((g34.i _ _ (by decide)).trans (sI_eq)), (g35.i _ _ (by decide)).trans ((g34.i _ _ (by decide)).trans ((sI_nej (by decide)).trans ((sI_nej (by decide)).trans ((sI_nej (by decide)).trans ((sI_nej (by decide)).trans ((f22.i _ _ (by decide)).trans ((sI_ne (by decide)).trans ((g20.i _ _ (by decide)).trans ((g17.i _ _ (by decide)).trans (q12_10)))))))))), (g35.i _ _ (by decide)).trans (e34_k0), e35_k0, (g35.i _ _ (by decide)).trans ((g34.i _ _ (by decide)).trans ((sI_nej (by decide)).trans ((sI_nej (by decide)).trans ((sI_nej (by decide)).trans ((sI_nej (by decide)).trans ((f22.i _ _ (by decide)).trans ((sI_ne (by decide)).trans ((g20.i _ _ (by decide)).trans ((g17.i _ _ (by decide)).trans (q12_19))))))))))⟩ ⟨e45_k0, e45_k1, e45_k2, (g45.i _ _ (by decide)).trans ((g44.i _ _ (by decide)).trans ((g43.i _ _ (by decide)).trans ((g41.i _ _ (by decide)).trans ((sI_ne (by decide)).trans ((g39.i _ _ (by decide)).trans ((g37.i _ _ (by decide)).trans (w12_41))))))), (g45.i _ _ (by decide)).trans ((g44.i _ _ (by decide)).trans (e43_k0)), (g45.i _ _ (by decide)).trans (e44_k0), (g45.i _ _ (by decide)).trans ((g44.i _ _ (by decide)).trans ((g43.i _ _ (by decide)).trans ((g41.i _ _ (by decide)).trans ((sI_ne (by decide)).trans ((g39.i _ _ (by decide)).trans ((g37.i _ _ (by decide)).trans (w12_53))))))), (g45.i _ _ (by decide)).trans ((g44.i _ _ (by decide)).trans ((g43.i _ _ (by decide)).trans ((g41.i _ _ (by decide)).trans ((sI_ne (by decide)).trans ((g39.i _ _ (by decide)).trans ((g37.i _ _ (by decide)).trans (w12_50))))))), p45_0⟩ ⟨((CA1.em (q := (e12 + 3)) (cq22.fr (W := W_c0) (Fr.sI (by decide) (Fr.sI (by decide) (Fr.sI (by decide) (Fr.sI (by decide) Fr.r)))) (by decide)) (by omega) p34_1 (by omega)).fr g35 (by decide)), (((RA1.em (q := (e12 + 3)) ((RA1.pc (a := (e + 1)) (b := e12) (v := (e12 + 2)) (RA1.pt (v := (e12 + 2)) (RA1.em (q := (e12 + 2)) (RA1.em (q := (e12 + 1)) ra12 (by omega) p37_1 (by omega)) (by omega) p39_1 (by omega)) (by omega))).fr g41 (by decide)) (by omega) p43_1 (by omega)).fr g44 (by decide)).fr g45 (by decide)), (LA.add ((((((lc12.fr g17 (by decide)).fr g20 (by decide)).fr (W := W_c2) (Fr.sI (inW_c (by decide) _) Fr.r) (by decide)).fr f22 (by decide)).fr (W := W_c0) (Fr.sI (by decide) (Fr.sI (by decide) (Fr.sI (by decide) (Fr.sI (by decide) Fr.r)))) (by decide)).fr g34 (by decide)) (by omega) p35_0 p35_1 (by omega)), ((LA.add (((((lr12.fr g37 (by decide)).fr g39 (by decide)).fr (W := W_r2) (Fr.sI (inW_c (by decide) _) Fr.r) (by decide)).fr g41 (by decide)).fr g43 (by decide)) (by omega) p44_0 p44_1 (by omega)).fr g45 (by decide)), (((((((cu12.fr g17 (by decide)).fr g20 (by decide)).fr (W := W_c2) (Fr.sI (inW_c (by decide) _) Fr.r) (by decide)).fr f22 (by decide)).fr (W := W_c0) (Fr.sI (by decide) (Fr.sI (by decide) (Fr.sI (by decide) (Fr.sI (by decide) Fr.r)))) (by decide)).fr g34 (by decide)).fr g35 (by decide)), (((((((ru12.fr g37 (by decide)).fr g39 (by decide)).fr (W := W_r2) (Fr.sI (inW_c (by decide) _) Fr.r) (by decide)).fr g41 (by decide)).fr g43 (by decide)).fr g44 (by decide)).fr g45 (by decide))⟩ ⟨by omega, by omega, by omega, by omega, by omega, by omega, by omega, by omega, by omega, by omega, by omega, by omega⟩ (hv0)) fun v Mx46 w Nx46 hx46 => ?_
            rcases hx46 with ⟨i46, lt46, e46, u46, uc46, G46, U46, X46, fl46, fr46, sc46, sr46, rw46, bd46, mv46, ag46, au46, ax46, tp46, dp46, kv46, ⟨sl46, sh46⟩⟩ | ⟨F46, P46, fl46, fr46, tc46, tr46⟩
            ·
              have FL46 : Fr W_cp Mc Mx46 := Fr.t f35 fl46
              have FR46 : Fr W_rx Mr Nx46 := Fr.t f45 fr46
              obtain ⟨bb46_0, bb46_1, bb46_2, bb46_3, bb46_4, bb46_5, bb46_6, bb46_7, bb46_8, bb46_9, bb46_10, bb46_11⟩ := bd46
              obtain ⟨q46_12, q46_13, q46_10, q46_9, q46_16, q46_19⟩ := sc46
              obtain ⟨w46_36, w46_37, w46_38, w46_41, w46_43, w46_51, w46_53, w46_50, w46_n⟩ := sr46
              obtain ⟨ca46, ra46, lc46, lr46, cu46, ru46⟩ := rw46
              have hk47 := (hS.ok i46 (by omega) (by omega)).r
              have ku46 := KU.t (((((((ku12.fr g17 (by decide)).fr g20 (by decide)).fr (W := W_c2) (Fr.sI (inW_c (by decide) _) Fr.r) (by decide)).fr f22 (by decide)).fr (W := W_c0) (Fr.sI (by decide) (Fr.sI (by decide) (Fr.sI (by decide) (Fr.sI (by decide) Fr.r)))) (by decide)).fr g34 (by decide)).fr g35 (by decide)) kv46 (by omega)
              have du48 := DU.t du33 ag46 au46 ax46 dp46 (by omega)
              refine rsl (cV_e rfl) ?_
              refine rsr (cV_e rfl) ?_
              refine rsl (ptI_q (z := s) (ck_65 (hC.fr FL46)) (rfl)) ?_
              refine rsl (gtP_q (w := some 73) (ck_65 (hC.fr FL46).sI) (cf_65_6 (hC.fr FL46).sI)) ?_
              refine rsl (gtI_q (w := iI e46) (ck_65 (hC.fr FL46).sI) ((sI_nej (by decide)).trans (q46_9))) ?_
              refine rsl (asI_q (n := 4096) (z := (e12 + 1)) (y := e46) (ck_73 (hC.fr FL46).sI) (congrArg iI p20_0) (by omega) (rfl)) ?_
              have du49 := (DU.pj (j := (e12 + 1)) (v2 := e46) du48)
              refine rsr (gtI_q (w := iI (s + 1)) (rk_160 (hR.fr FR46)) (w46_51)) ?_
              refine rsr (ptI_q (z := s) (rk_160 (hR.fr FR46)) (cvI (sbI (rfl) (li_1)) (by omega))) ?_
              refine rsr (gtP_q (w := some 196) (rk_160 (hR.fr FR46).sI) (rf_45 (hR.fr FR46).sI)) ?_
              refine rsr (gtI_q (w := iI e46) (rk_160 (hR.fr FR46).sI) ((sI_nej (by decide)).trans (w46_43))) ?_
              refine rsr (asI_q (n := 4000) (z := (e12 + 1)) (y := e46) (rk_196 (hR.fr FR46).sI) (congrArg iI p39_0) (by omega) (rfl)) ?_
              refine rsr (jv_e) ?_
              have xa50 := (fun t p z => (pj_t (by omega)).trans ((pu_n (by omega)).trans ((pu_n (by omega)))) : ∀ t, e < t → t < e12 → (pj (pu (pu G12 e12 [27, 0, -2, 0, ut, mu, 0]) (e12 + 1) [25, 0, -2, 0, ut, mu, 0]) e (e12 + 2)) 2 t = G12 2 t)
              have xb51 := (fun t p z => (pj_t (by omega)).trans ((ag46 _ _ (by omega)).trans ((pu_n (by omega)))) : ∀ t, e < t → t < e12 → (pj G46 (e12 + 1) e46) 2 t = pc (pj (pu (pu G12 e12 [27, 0, -2, 0, ut, mu, 0]) (e12 + 1) [25, 0, -2, 0, ut, mu, 0]) e (e12 + 2)) (e + 1) e12 (e12 + 2) 2 t)
              have xc52 := (((pj_t (by omega)).trans ((ag46 _ _ (by omega)).trans ((pu_n (by omega)).trans ((pc_t (by omega)))))).trans (pj_3) : (pj G46 (e12 + 1) e46) 3 e = e12 + 2)
              have tb53 := (Tyb.tr (dp := dp) (j := e) (p := e12) (b := e46) (s := s) (G := (pj G46 (e12 + 1) e46)) (G0 := G12) (Tyb.ca tp12 (by omega) (by omega)) ((Tyb.ca (tp46.ag (fun k t p z => (pj_t (by omega)))) (by omega) (by omega)).lo (Int.le_refl _) (by omega)) (fun k t hk p z => (pj_t (by omega)).trans ((ag46 _ _ (by omega)).trans ((pu_n (by omega)).trans ((pc_k hk).trans ((pj_t (by omega)).trans ((pu_n (by omega)).trans ((pu_n (by omega))))))))) (fun t p z => ⟨fun q => ((xb51 t p z).trans (pc_y ⟨by omega, by omega⟩ ((xa50 t p z).trans q))).trans xc52.symm, fun q => (xb51 t p z).trans ((pc_x (by rw [xa50 t p z]; omega)).trans (xa50 t p z))⟩) ⟨((pj_t (by omega)).trans ((ag46 _ _ (by omega)).trans ((pu_n (by omega)).trans ((pc_t (by omega)).trans ((pj_k (by decide)).trans ((pu_n (by omega)).trans ((pu_n (by omega)).trans ((ag12 _ _ (by omega)))))))))).trans (pu_e (by omega)), ((pj_t (by omega)).trans ((ag46 _ _ (by omega)).trans ((pu_n (by omega)).trans ((pc_t (by omega)).trans ((pj_k (by decide)).trans ((pu_n (by omega)).trans ((pu_n (by omega)).trans ((ag12 _ _ (by omega)))))))))).trans (pu_e (by omega)), xc52⟩ ⟨((pj_t (by omega)).trans ((ag46 _ _ (by omega)).trans ((pu_n (by omega)).trans ((pc_t (by omega)).trans ((pj_t (by omega)).trans ((pu_n (by omega)))))))).trans (pu_e (by omega)), ((pj_t (by omega)).trans ((ag46 _ _ (by omega)).trans ((pu_n (by omega)).trans ((pc_t (by omega)).trans ((pj_t (by omega)).trans ((pu_n (by omega)))))))).trans (pu_e (by omega))⟩ ⟨((pj_k (by decide)).trans ((ag46 _ _ (by omega)).trans ((pu_n (by omega)).trans ((pc_t (by omega)).trans ((pj_t (by omega))))))).trans (pu_e (by omega)), ((pj_k (by decide)).trans ((ag46 _ _ (by omega)).trans ((pu_n (by omega)).trans ((pc_t (by omega)).trans ((pj_t (by omega))))))).trans (pu_e (by omega)), pj_3⟩ ⟨((pj_t (by omega)).trans ((ag46 _ _ (by omega)))).trans (pu_e (by omega)), ((pj_t (by omega)).trans ((ag46 _ _ (by omega)))).trans (pu_e (by omega)), ((pj_t (by omega)).trans ((ag46 _ _ (by omega)))).trans (pu_e (by omega))⟩ (by omega) ⟨by omega, by omega⟩)
              exact Rs.ok (Or.inl ⟨i46, s, Hl, ⟨e46, u46, uc46, (pj G46 (e12 + 1) e46), U46, X46, (Fr.sI (inW_c (by decide) _) (Fr.sI (by decide) FL46)), (Fr.sI (inW_c (by decide) _) (Fr.sI (by decide) FR46)), ⟨(sI_ne (by decide)).trans ((sI_nej (by decide)).trans (q46_12)), (sI_ne (by decide)).trans ((sI_nej (by decide)).trans (q46_13)), (sI_ne (by decide)).trans ((sI_nej (by decide)).trans (q46_10)), (sI_ne (by decide)).trans ((sI_nej (by decide)).trans (q46_9)), (sI_ne (by decide)).trans (sI_eq), (sI_ne (by decide)).trans ((sI_nej (by decide)).trans (q46_19))⟩, ⟨(sI_ne (by decide)).trans ((sI_nej (by decide)).trans (w46_36)), (sI_ne (by decide)).trans ((sI_nej (by decide)).trans (w46_37)), (sI_ne (by decide)).trans ((sI_nej (by decide)).trans (w46_38)), (sI_ne (by decide)).trans ((sI_nej (by decide)).trans (w46_41)), (sI_ne (by decide)).trans ((sI_nej (by decide)).trans (w46_43)), (sI_ne (by decide)).trans (sI_eq), (sI_ne (by decide)).trans ((sI_nej (by decide)).trans (w46_53)), (sI_ne (by decide)).trans ((sI_nej (by decide)).trans (w46_50)), (w46_n.fr (W := W_r2) (Fr.sI (inW_c (by decide) _) (Fr.sI (by decide) Fr.r)) (by decide) (by decide))⟩, ⟨(CA1.pt (v := e46) (ca46.fr (W := W_c0) (Fr.sI (by decide) Fr.r) (by decide)) (by omega)), (RA1.pt (v := e46) (ra46.fr (W := W_r0) (Fr.sI (by decide) Fr.r) (by decide)) (by omega)), ((LA.bk lc46 (by omega) (fun j p q => up1_n (by omega))).fr (W := W_c2) (Fr.sI (inW_c (by decide) _) (Fr.sI (by decide) Fr.r)) (by decide)), ((LA.bk lr46 (by omega) (fun j p q => up1_n (by omega))).fr (W := W_r2) (Fr.sI (inW_c (by decide) _) (Fr.sI (by decide) Fr.r)) (by decide)), (cu46.fr (W := W_c2) (Fr.sI (inW_c (by decide) _) (Fr.sI (by decide) Fr.r)) (by decide)), (ru46.fr (W := W_r2) (Fr.sI (inW_c (by decide) _) (Fr.sI (by decide) Fr.r)) (by decide))⟩, ⟨by omega, by omega, by omega, by omega, by omega, by omega, by omega, by omega, by omega, by omega, by omega, by omega⟩, ⟨by omega, by omega, by omega, by omega, by omega, by omega⟩, (Ag.pj (Ag.t (Ag.pu (Ag.pc (Ag.pj (Ag.pu (Ag.pu (Ag.t (Ag.pu Ag.r (by omega)) ag12 (by omega)) (by omega)) (by omega)) (by omega)) (by omega)) (by omega)) ag46 (by omega)) (by omega)), (Ag.t (Ag.t Ag.r au12 (by omega)) au46 (by omega)), (AgL.t (AgL.t AgL.r ax12 (by omega)) ax46 (by omega)), tb53, du49, (ku46.fr (W := W_c2) (Fr.sI (inW_c (by decide) _) (Fr.sI (by decide) Fr.r)) (by decide)), ⟨by omega, fun _ _ _ => rfl⟩⟩⟩)
            ·
              have FL46 : Fr W_cp Mc Mx46 := Fr.t f35 fl46
              have FR46 : Fr W_rp Mr Nx46 := Fr.t (Fr.m f45 W_rx_p) fr46
              obtain ⟨ti46, tz46, tn46, tu46, t1346, t1046, t1146, t1246, t946, t1646, t1946, tb46⟩ := tc46
              obtain ⟨re46, rn46, ru46, rm46, rt46, u4146, u4246, u4346, u5146, u5346, u4846, u4946, ub46⟩ := tr46
              refine rsl (cV_e rfl) ?_
              refine rsr (cV_e rfl) ?_
              refine rsl (ptI_q (z := s) (ck_65 (hC.fr FL46)) (rfl)) ?_
              refine rsl (gtP_q (w := some 73) (ck_65 (hC.fr FL46).sI) (cf_65_6 (hC.fr FL46).sI)) ?_
              refine rsl (gtI_q (w := iI tz46) (ck_65 (hC.fr FL46).sI) ((sI_nej (by decide)).trans (t946))) ?_
              refine rsl (asI_q (n := 4096) (z := (e12 + 1)) (y := tz46) (ck_73 (hC.fr FL46).sI) (congrArg iI p20_0) (by omega) (rfl)) ?_
              refine rsr (gtI_q (w := iI rn46) (rk_160 (hR.fr FR46)) (u5146)) ?_
              refine rsr (ptI_q (z := (rn46 - 1)) (rk_160 (hR.fr FR46)) (sbI (rfl) (li_1))) ?_
              refine rsr (gtP_q (w := some 196) (rk_160 (hR.fr FR46).sI) (rf_45 (hR.fr FR46).sI)) ?_
              refine rsr (gtI_q (w := iI re46) (rk_160 (hR.fr FR46).sI) ((sI_nej (by decide)).trans (u4346))) ?_
              refine rsr (asI_q (n := 4000) (z := (e12 + 1)) (y := re46) (rk_196 (hR.fr FR46).sI) (congrArg iI p39_0) (by omega) (rfl)) ?_
              refine rsr (jv_e) ?_
              exact Rs.ok (Or.inr ⟨F46, P46, (Fr.sI (inW_c (by decide) _) (Fr.sI (by decide) FL46)), (Fr.sI (inW_c (by decide) _) (Fr.sI (by decide) FR46)), ⟨ti46, tz46, s, tu46, (sI_ne (by decide)).trans ((sI_nej (by decide)).trans (t1346)), (sI_ne (by decide)).trans ((sI_nej (by decide)).trans (t1046)), (sI_ne (by decide)).trans ((sI_nej (by decide)).trans (t1146)), (sI_ne (by decide)).trans ((sI_nej (by decide)).trans (t1246)), (sI_ne (by decide)).trans ((sI_nej (by decide)).trans (t946)), (sI_ne (by decide)).trans (sI_eq), (sI_ne (by decide)).trans ((sI_nej (by decide)).trans (t1946)), by omega⟩, ⟨re46, (rn46 - 1), ru46, rm46, rt46, (sI_ne (by decide)).trans ((sI_nej (by decide)).trans (u4146)), (sI_ne (by decide)).trans ((sI_nej (by decide)).trans (u4246)), (sI_ne (by decide)).trans ((sI_nej (by decide)).trans (u4346)), (sI_ne (by decide)).trans (sI_eq), (sI_ne (by decide)).trans ((sI_nej (by decide)).trans (u5346)), (sI_ne (by decide)).trans ((sI_nej (by decide)).trans (u4846)), (sI_ne (by decide)).trans ((sI_nej (by decide)).trans (u4946)), by omega⟩⟩)
          · refine rsl (if_neg (lsI_n (rfl) (li_10) (by omega))) ?_
            refine rsl (jv_e) ?_
            refine rsl (vC_e (ck_65 (hC.fr ff22).sI.sI)) ?_
            refine rsl (cL_e (a66_6 (by omega) hS (hC.fr ff22).sI.sI (hTk.fr (WL := W_cp) (Fr.sI (by decide) (Fr.sI (by decide) ff22)) (by decide)) ((sI_nej (by decide)).trans (sI_eq)) (sI_eq) ((sI_nej (by decide)).trans ((sI_nej (by decide)).trans ((f22.i _ _ (by decide)).trans ((sI_ne (by decide)).trans ((g20.i _ _ (by decide)).trans ((g17.i _ _ (by decide)).trans (q12_10))))))) (li_0) (li_1) (by omega))) ?_
            refine rsl (gtI_q (w := iI s) (ck_65 (hC.fr ff22).sI.sI.sI.sI.sI) ((sI_nej (by decide)).trans ((sI_nej (by decide)).trans ((sI_nej (by decide)).trans ((sI_nej (by decide)).trans ((sI_nej (by decide)).trans ((f22.i _ _ (by decide)).trans ((sI_ne (by decide)).trans ((g20.i _ _ (by decide)).trans ((g17.i _ _ (by decide)).trans (q12_16))))))))))) ?_
            refine rsl (vC_e (ck_65 (hC.fr ff22).sI.sI.sI.sI.sI)) ?_
            refine RlI (y87 (by omega) (hC.fr ff22).sI.sI.sI.sI.sI (hTk.fr (WL := W_cp) (Fr.sI (by decide) (Fr.sI (by decide) (Fr.sI (by decide) (Fr.sI (by decide) (Fr.sI (by decide) ff22))))) (by decide)) ((sI_nej (by decide)).trans ((sI_nej (by decide)).trans ((sI_nej (by decide)).trans ((sI_nej (by decide)).trans (sI_eq))))) (sI_eq) ((sI_nej (by decide)).trans ((sI_nej (by decide)).trans (sI_eq))) ((sI_nej (by decide)).trans (sI_eq)) ((sI_nej (by decide)).trans ((sI_nej (by decide)).trans ((sI_nej (by decide)).trans ((sI_nej (by decide)).trans ((sI_nej (by decide)).trans ((f22.i _ _ (by decide)).trans ((sI_ne (by decide)).trans (e20_k0)))))))) ((sI_nej (by decide)).trans ((sI_nej (by decide)).trans ((sI_nej (by decide)).trans ((sI_nej (by decide)).trans ((sI_nej (by decide)).trans ((f22.i _ _ (by decide)).trans ((sI_ne (by decide)).trans ((g20.i _ _ (by decide)).trans ((g17.i _ _ (by decide)).trans (q12_16)))))))))) ((sI_nej (by decide)).trans ((sI_nej (by decide)).trans ((sI_nej (by decide)).trans ((sI_nej (by decide)).trans ((sI_nej (by decide)).trans ((f22.i _ _ (by decide)).trans ((sI_ne (by decide)).trans ((g20.i _ _ (by decide)).trans ((g17.i _ _ (by decide)).trans (q12_19)))))))))) (li_2) (rfl) (by omega)) fun v Ma55 h55 => ?_
            obtain ⟨rv54, sz54, sn54, uc54, rfl, g55, e55_sz54, e55_sn54, e55_uc54, e55_k0, e55_k1, e55_k2, e55_k3, p55_0, p55_1, p55_2, p55_3⟩ := h55
            have f55 : Fr W_cp Mc Ma55 := Fr.t (Fr.sI (by decide) (Fr.sI (by decide) (Fr.sI (by decide) (Fr.sI (by decide) (Fr.sI (by decide) ff22))))) (Fr.m g55 (by decide))
            refine rsl (cI_e rfl) ?_
            refine rsl (vC_e (ck_65 (hC.fr f55))) ?_
            refine RlV (y75 (by omega) (hC.fr f55) (hTk.fr (WL := W_cp) f55 (by decide)) (e55_k3) (e55_k0) (e55_k1) (e55_k2) (e55_sz54) (e55_sn54) (e55_uc54)  (by omega)) fun v Ma57 h57 => ?_
            obtain ⟨sz56, sn56, uc56, g57, e57_sz56, e57_sn56, e57_uc56, e57_k0, e57_k1, e57_k2, e57_k3, p57_0, p57_1, p57_2⟩ := h57
            have f57 : Fr W_cp Mc Ma57 := Fr.t f55 (Fr.m g57 (by decide))
            refine rsl (cV_e rfl) ?_
            refine rsl (vC_e (ck_65 (hC.fr f57))) ?_
            refine RlV (y89 (by omega) (hC.fr f57) (hTk.fr (WL := W_cp) f57 (by decide)) (e57_k3) (e57_k0) (e57_k1) (e57_k2) (e57_sz56) (e57_sn56) (e57_uc56) (hv0) (by omega)) fun v Ma59 h59 => ?_
            obtain ⟨sz58, sn58, uc58, g59, e59_sz58, e59_sn58, e59_uc58, e59_k0, e59_k1, e59_k2, e59_k3, p59_0, p59_1, p59_2⟩ := h59
            have f59 : Fr W_cp Mc Ma59 := Fr.t f57 (Fr.m g59 (by decide))
            refine rsl (cV_e rfl) ?_
            refine rsl (ptI_q (z := s) (ck_65 (hC.fr f59)) (rfl)) ?_
            refine rsl (gtP_q (w := some 73) (ck_65 (hC.fr f59).sI) (cf_65_6 (hC.fr f59).sI)) ?_
            refine rsl (gtI_q (w := iI sz58) (ck_65 (hC.fr f59).sI) ((sI_nej (by decide)).trans (e59_sz58))) ?_
            refine rsl (asI_q (n := 4096) (z := (e12 + 1)) (y := sz58) (ck_73 (hC.fr f59).sI) (congrArg iI p20_0) (by omega) (rfl)) ?_
            refine rsr (vC_e (rk_160 (hR.fr FR12))) ?_
            refine RrI (a196q (by omega) (hR.fr FR12) (w12_43) ((FR12.i _ _ (by decide)).trans h49) ((FR12.i _ _ (by decide)).trans h48) (li_27) (li_0) (q := (e12 + 1)) (by omega) (by omega)) fun v Ma61 h61 => ?_
            obtain ⟨r60, rfl, g61, e61_k0, p61_0, p61_1⟩ := h61
            have f61 : Fr W_rx Mr Ma61 := Fr.t FR12 (Fr.m g61 (by decide))
            refine rsr (cI_e rfl) ?_
            refine rsr (vC_e (rk_160 (hR.fr f61))) ?_
            refine RrI (a196q (by omega) (hR.fr f61) (e61_k0) ((g61.i _ _ (by decide)).trans ((FR12.i _ _ (by decide)).trans h49)) ((g61.i _ _ (by decide)).trans ((FR12.i _ _ (by decide)).trans h48)) (li_25) (li_0) (q := (e12 + 2)) (by omega) (by omega)) fun v Ma63 h63 => ?_
            obtain ⟨r62, rfl, g63, e63_k0, p63_0, p63_1⟩ := h63
            have f63 : Fr W_rx Mr Ma63 := Fr.t f61 (Fr.m g63 (by decide))
            refine rsr (cI_e rfl) ?_
            refine rsr (gtP_q (w := some 196) (rk_160 (hR.fr f63)) (rf_45 (hR.fr f63))) ?_
            refine rsr (gtI_q (w := iI (e12 + 2)) (rk_160 (hR.fr f63)) (e63_k0)) ?_
            refine rsr (asI_q (n := 4000) (z := e) (y := (e12 + 2)) (rk_196 (hR.fr f63)) (congrArg iI p10_0) (by omega) (rfl)) ?_
            refine rsr (vC_e (rk_160 (hR.fr f63).sI)) ?_
            refine RrI (a195_424 (by omega) hS (hR.fr f63).sI (hT.fr (W := W_rx) (Fr.sI (inW_c (by decide) _) f63) (by decide) (by decide)) (fun i a b => (Fr.lc (W := W_rx) (Fr.sI (inW_c (by decide) _) f63) _ (by decide) _).trans (hW i a b)) ((sI_ne (by decide)).trans ((g63.i _ _ (by decide)).trans ((g61.i _ _ (by decide)).trans (w12_36)))) ((sI_ne (by decide)).trans ((g63.i _ _ (by decide)).trans ((g61.i _ _ (by decide)).trans (w12_37)))) ((sI_ne (by decide)).trans ((g63.i _ _ (by decide)).trans ((g61.i _ _ (by decide)).trans (w12_38)))) ((sI_ne (by decide)).trans ((g63.i _ _ (by decide)).trans ((g61.i _ _ (by decide)).trans (w12_41)))) (li_424) (i2 := (i12 + 1)) (by omega) (by omega)) fun v Ma65 h65 => ?_
            obtain ⟨r64, rfl, g65, e65_k0, e65_k1, e65_k2, p65_0, p65_1⟩ := h65
            have f65 : Fr W_rx Mr Ma65 := Fr.t (Fr.sI (inW_c (by decide) _) f63) (Fr.m g65 (by decide))
            refine rsr (cI_e rfl) ?_
            refine rsr (vC_e (rk_160 (hR.fr f65))) ?_
            refine rsr (cI_e (a198_6 (by omega) hS (hR.fr f65) (e65_k0) (e65_k1) ((g65.i _ _ (by decide)).trans ((sI_ne (by decide)).trans ((g63.i _ _ (by decide)).trans ((g61.i _ _ (by decide)).trans (w12_41))))) p65_1 ((g65.i _ _ (by decide)).trans ((sI_ne (by decide)).trans ((g63.i _ _ (by decide)).trans ((g61.i _ _ (by decide)).trans (w12_51))))) ((((lr12.fr g61 (by decide)).fr g63 (by decide)).fr (W := W_r2) (Fr.sI (inW_c (by decide) _) Fr.r) (by decide)).fr g65 (by decide)) hlc28 (by omega))) ?_
            refine rsr (jn_v) ?_
            refine rsr (if_pos (eqI_p (rfl) (li_0) (by omega))) ?_
            refine rsr (jv_e) ?_
            exact Rs.ok (Or.inr ⟨6, ((pl (i12 + 1))), (Fr.sI (inW_c (by decide) _) (Fr.sI (by decide) f59)), (Fr.sI (by decide) (Fr.sI (by decide) (Fr.m f65 (by decide)))), ⟨(i12 + 1), sz58, s, uc58, (sI_ne (by decide)).trans ((sI_nej (by decide)).trans (e59_k0)), (sI_ne (by decide)).trans ((sI_nej (by decide)).trans (e59_k1)), (sI_ne (by decide)).trans ((sI_nej (by decide)).trans (e59_k2)), (sI_ne (by decide)).trans ((sI_nej (by decide)).trans (e59_k3)), (sI_ne (by decide)).trans ((sI_nej (by decide)).trans (e59_sz58)), (sI_ne (by decide)).trans (sI_eq), (sI_ne (by decide)).trans ((sI_nej (by decide)).trans (e59_uc58)), by omega⟩, ⟨(e12 + 2), s, u12, mu, ut, (sI_nej (by decide)).trans (sI_eq), sI_eq, (sI_nej (by decide)).trans ((sI_nej (by decide)).trans ((g65.i _ _ (by decide)).trans ((sI_ne (by decide)).trans (e63_k0)))), (sI_nej (by decide)).trans ((sI_nej (by decide)).trans ((g65.i _ _ (by decide)).trans ((sI_ne (by decide)).trans ((g63.i _ _ (by decide)).trans ((g61.i _ _ (by decide)).trans (w12_51)))))), (sI_nej (by decide)).trans ((sI_nej (by decide)).trans ((g65.i _ _ (by decide)).trans ((sI_ne (by decide)).trans ((g63.i _ _ (by decide)).trans ((g61.i _ _ (by decide)).trans (w12_53)))))), (sI_nej (by decide)).trans ((sI_nej (by decide)).trans ((g65.i _ _ (by decide)).trans ((sI_ne (by decide)).trans ((g63.i _ _ (by decide)).trans ((g61.i _ _ (by decide)).trans ((FR12.i _ _ (by decide)).trans h48)))))), (sI_nej (by decide)).trans ((sI_nej (by decide)).trans ((g65.i _ _ (by decide)).trans ((sI_ne (by decide)).trans ((g63.i _ _ (by decide)).trans ((g61.i _ _ (by decide)).trans ((FR12.i _ _ (by decide)).trans h49)))))), by omega⟩⟩)
        ·
          refine rsl (jn_v) ?_
          refine rsl (if_neg (lsI_n (congrArg iI (if_neg crl28)) (li_0) (by omega))) ?_
          refine rsl (jv_e) ?_
          refine rsl (gtI_q (w := iI s) (ck_65 (hC.fr ff22).sI.sI) ((sI_nej (by decide)).trans ((sI_nej (by decide)).trans ((f22.i _ _ (by decide)).trans ((sI_ne (by decide)).trans ((g20.i _ _ (by decide)).trans ((g17.i _ _ (by decide)).trans (q12_16)))))))) ?_
          refine rsl (jn_v) ?_
          by_cases c66 : s < 10
          · refine rsl (if_pos (lsI_p (rfl) (li_10) (by omega))) ?_
            refine rsl (jv_e) ?_
            refine rsl (vC_e (ck_65 (hC.fr ff22).sI.sI)) ?_
            refine rsl (cL_e (a66_3 (by omega) hS (hC.fr ff22).sI.sI (hTk.fr (WL := W_cp) (Fr.sI (by decide) (Fr.sI (by decide) ff22)) (by decide)) ((sI_nej (by decide)).trans (sI_eq)) (sI_eq) ((sI_nej (by decide)).trans ((sI_nej (by decide)).trans ((f22.i _ _ (by decide)).trans ((sI_ne (by decide)).trans ((g20.i _ _ (by decide)).trans ((g17.i _ _ (by decide)).trans (q12_10))))))) (li_1) (li_0) (by omega))) ?_
            refine rsl (gtI_q (w := iI s) (ck_65 (hC.fr ff22).sI.sI.sI.sI.sI) ((sI_nej (by decide)).trans ((sI_nej (by decide)).trans ((sI_nej (by decide)).trans ((sI_nej (by decide)).trans ((sI_nej (by decide)).trans ((f22.i _ _ (by decide)).trans ((sI_ne (by decide)).trans ((g20.i _ _ (by decide)).trans ((g17.i _ _ (by decide)).trans (q12_16))))))))))) ?_
            refine rsl (vC_e (ck_65 (hC.fr ff22).sI.sI.sI.sI.sI)) ?_
            refine RlI (y87 (by omega) (hC.fr ff22).sI.sI.sI.sI.sI (hTk.fr (WL := W_cp) (Fr.sI (by decide) (Fr.sI (by decide) (Fr.sI (by decide) (Fr.sI (by decide) (Fr.sI (by decide) ff22))))) (by decide)) ((sI_nej (by decide)).trans ((sI_nej (by decide)).trans ((sI_nej (by decide)).trans ((sI_nej (by decide)).trans (sI_eq))))) (sI_eq) ((sI_nej (by decide)).trans ((sI_nej (by decide)).trans (sI_eq))) ((sI_nej (by decide)).trans (sI_eq)) ((sI_nej (by decide)).trans ((sI_nej (by decide)).trans ((sI_nej (by decide)).trans ((sI_nej (by decide)).trans ((sI_nej (by decide)).trans ((f22.i _ _ (by decide)).trans ((sI_ne (by decide)).trans (e20_k0)))))))) ((sI_nej (by decide)).trans ((sI_nej (by decide)).trans ((sI_nej (by decide)).trans ((sI_nej (by decide)).trans ((sI_nej (by decide)).trans ((f22.i _ _ (by decide)).trans ((sI_ne (by decide)).trans ((g20.i _ _ (by decide)).trans ((g17.i _ _ (by decide)).trans (q12_16)))))))))) ((sI_nej (by decide)).trans ((sI_nej (by decide)).trans ((sI_nej (by decide)).trans ((sI_nej (by decide)).trans ((sI_nej (by decide)).trans ((f22.i _ _ (by decide)).trans ((sI_ne (by decide)).trans ((g20.i _ _ (by decide)).trans ((g17.i _ _ (by decide)).trans (q12_19)))))))))) (li_2) (rfl) (by omega)) fun v Ma68 h68 => ?_
            obtain ⟨rv67, sz67, sn67, uc67, rfl, g68, e68_sz67, e68_sn67, e68_uc67, e68_k0, e68_k1, e68_k2, e68_k3, p68_0, p68_1, p68_2, p68_3⟩ := h68
            have f68 : Fr W_cp Mc Ma68 := Fr.t (Fr.sI (by decide) (Fr.sI (by decide) (Fr.sI (by decide) (Fr.sI (by decide) (Fr.sI (by decide) ff22))))) (Fr.m g68 (by decide))
            refine rsl (cI_e rfl) ?_
            refine rsl (vC_e (ck_65 (hC.fr f68))) ?_
            refine RlV (y75 (by omega) (hC.fr f68) (hTk.fr (WL := W_cp) f68 (by decide)) (e68_k3) (e68_k0) (e68_k1) (e68_k2) (e68_sz67) (e68_sn67) (e68_uc67)  (by omega)) fun v Ma70 h70 => ?_
            obtain ⟨sz69, sn69, uc69, g70, e70_sz69, e70_sn69, e70_uc69, e70_k0, e70_k1, e70_k2, e70_k3, p70_0, p70_1, p70_2⟩ := h70
            have f70 : Fr W_cp Mc Ma70 := Fr.t f68 (Fr.m g70 (by decide))
            refine rsl (cV_e rfl) ?_
            refine rsl (vC_e (ck_65 (hC.fr f70))) ?_
            refine RlV (y89 (by omega) (hC.fr f70) (hTk.fr (WL := W_cp) f70 (by decide)) (e70_k3) (e70_k0) (e70_k1) (e70_k2) (e70_sz69) (e70_sn69) (e70_uc69) (hv0) (by omega)) fun v Ma72 h72 => ?_
            obtain ⟨sz71, sn71, uc71, g72, e72_sz71, e72_sn71, e72_uc71, e72_k0, e72_k1, e72_k2, e72_k3, p72_0, p72_1, p72_2⟩ := h72
            have f72 : Fr W_cp Mc Ma72 := Fr.t f70 (Fr.m g72 (by decide))
            refine rsl (cV_e rfl) ?_
            refine rsl (ptI_q (z := s) (ck_65 (hC.fr f72)) (rfl)) ?_
            refine rsl (gtP_q (w := some 73) (ck_65 (hC.fr f72).sI) (cf_65_6 (hC.fr f72).sI)) ?_
            refine rsl (gtI_q (w := iI sz71) (ck_65 (hC.fr f72).sI) ((sI_nej (by decide)).trans (e72_sz71))) ?_
            refine rsl (asI_q (n := 4096) (z := (e12 + 1)) (y := sz71) (ck_73 (hC.fr f72).sI) (congrArg iI p20_0) (by omega) (rfl)) ?_
            refine rsr (vC_e (rk_160 (hR.fr FR12))) ?_
            refine RrI (a196q (by omega) (hR.fr FR12) (w12_43) ((FR12.i _ _ (by decide)).trans h49) ((FR12.i _ _ (by decide)).trans h48) (li_27) (li_0) (q := (e12 + 1)) (by omega) (by omega)) fun v Ma74 h74 => ?_
            obtain ⟨r73, rfl, g74, e74_k0, p74_0, p74_1⟩ := h74
            have f74 : Fr W_rx Mr Ma74 := Fr.t FR12 (Fr.m g74 (by decide))
            refine rsr (cI_e rfl) ?_
            refine rsr (vC_e (rk_160 (hR.fr f74))) ?_
            refine RrI (a196q (by omega) (hR.fr f74) (e74_k0) ((g74.i _ _ (by decide)).trans ((FR12.i _ _ (by decide)).trans h49)) ((g74.i _ _ (by decide)).trans ((FR12.i _ _ (by decide)).trans h48)) (li_25) (li_0) (q := (e12 + 2)) (by omega) (by omega)) fun v Ma76 h76 => ?_
            obtain ⟨r75, rfl, g76, e76_k0, p76_0, p76_1⟩ := h76
            have f76 : Fr W_rx Mr Ma76 := Fr.t f74 (Fr.m g76 (by decide))
            refine rsr (cI_e rfl) ?_
            refine rsr (gtP_q (w := some 196) (rk_160 (hR.fr f76)) (rf_45 (hR.fr f76))) ?_
            refine rsr (gtI_q (w := iI (e12 + 2)) (rk_160 (hR.fr f76)) (e76_k0)) ?_
            refine rsr (asI_q (n := 4000) (z := e) (y := (e12 + 2)) (rk_196 (hR.fr f76)) (congrArg iI p10_0) (by omega) (rfl)) ?_
            refine rsr (vC_e (rk_160 (hR.fr f76).sI)) ?_
            refine RrI (a195_424 (by omega) hS (hR.fr f76).sI (hT.fr (W := W_rx) (Fr.sI (inW_c (by decide) _) f76) (by decide) (by decide)) (fun i a b => (Fr.lc (W := W_rx) (Fr.sI (inW_c (by decide) _) f76) _ (by decide) _).trans (hW i a b)) ((sI_ne (by decide)).trans ((g76.i _ _ (by decide)).trans ((g74.i _ _ (by decide)).trans (w12_36)))) ((sI_ne (by decide)).trans ((g76.i _ _ (by decide)).trans ((g74.i _ _ (by decide)).trans (w12_37)))) ((sI_ne (by decide)).trans ((g76.i _ _ (by decide)).trans ((g74.i _ _ (by decide)).trans (w12_38)))) ((sI_ne (by decide)).trans ((g76.i _ _ (by decide)).trans ((g74.i _ _ (by decide)).trans (w12_41)))) (li_424) (i2 := (i12 + 1)) (by omega) (by omega)) fun v Ma78 h78 => ?_
            obtain ⟨r77, rfl, g78, e78_k0, e78_k1, e78_k2, p78_0, p78_1⟩ := h78
            have f78 : Fr W_rx Mr Ma78 := Fr.t (Fr.sI (inW_c (by decide) _) f76) (Fr.m g78 (by decide))
            refine rsr (cI_e rfl) ?_
            refine rsr (vC_e (rk_160 (hR.fr f78))) ?_
            refine rsr (cI_e (a198_3 (by omega) hS (hR.fr f78) (e78_k0) (e78_k1) ((g78.i _ _ (by decide)).trans ((sI_ne (by decide)).trans ((g76.i _ _ (by decide)).trans ((g74.i _ _ (by decide)).trans (w12_41))))) p78_1 ((g78.i _ _ (by decide)).trans ((sI_ne (by decide)).trans ((g76.i _ _ (by decide)).trans ((g74.i _ _ (by decide)).trans (w12_51))))) ((((lr12.fr g74 (by decide)).fr g76 (by decide)).fr (W := W_r2) (Fr.sI (inW_c (by decide) _) Fr.r) (by decide)).fr g78 (by decide)) hlc28 (by omega))) ?_
            refine rsr (jn_v) ?_
            refine rsr (if_pos (eqI_p (rfl) (li_0) (by omega))) ?_
            refine rsr (jv_e) ?_
            exact Rs.ok (Or.inr ⟨3, ((pl (i12 + 1))), (Fr.sI (inW_c (by decide) _) (Fr.sI (by decide) f72)), (Fr.sI (by decide) (Fr.sI (by decide) (Fr.m f78 (by decide)))), ⟨(i12 + 1), sz71, s, uc71, (sI_ne (by decide)).trans ((sI_nej (by decide)).trans (e72_k0)), (sI_ne (by decide)).trans ((sI_nej (by decide)).trans (e72_k1)), (sI_ne (by decide)).trans ((sI_nej (by decide)).trans (e72_k2)), (sI_ne (by decide)).trans ((sI_nej (by decide)).trans (e72_k3)), (sI_ne (by decide)).trans ((sI_nej (by decide)).trans (e72_sz71)), (sI_ne (by decide)).trans (sI_eq), (sI_ne (by decide)).trans ((sI_nej (by decide)).trans (e72_uc71)), by omega⟩, ⟨(e12 + 2), s, u12, mu, ut, (sI_nej (by decide)).trans (sI_eq), sI_eq, (sI_nej (by decide)).trans ((sI_nej (by decide)).trans ((g78.i _ _ (by decide)).trans ((sI_ne (by decide)).trans (e76_k0)))), (sI_nej (by decide)).trans ((sI_nej (by decide)).trans ((g78.i _ _ (by decide)).trans ((sI_ne (by decide)).trans ((g76.i _ _ (by decide)).trans ((g74.i _ _ (by decide)).trans (w12_51)))))), (sI_nej (by decide)).trans ((sI_nej (by decide)).trans ((g78.i _ _ (by decide)).trans ((sI_ne (by decide)).trans ((g76.i _ _ (by decide)).trans ((g74.i _ _ (by decide)).trans (w12_53)))))), (sI_nej (by decide)).trans ((sI_nej (by decide)).trans ((g78.i _ _ (by decide)).trans ((sI_ne (by decide)).trans ((g76.i _ _ (by decide)).trans ((g74.i _ _ (by decide)).trans ((FR12.i _ _ (by decide)).trans h48)))))), (sI_nej (by decide)).trans ((sI_nej (by decide)).trans ((g78.i _ _ (by decide)).trans ((sI_ne (by decide)).trans ((g76.i _ _ (by decide)).trans ((g74.i _ _ (by decide)).trans ((FR12.i _ _ (by decide)).trans h49)))))), by omega⟩⟩)
          · refine rsl (if_neg (lsI_n (rfl) (li_10) (by omega))) ?_
            refine rsl (jv_e) ?_
            refine rsl (vC_e (ck_65 (hC.fr ff22).sI.sI)) ?_
            refine rsl (cL_e (a66_3 (by omega) hS (hC.fr ff22).sI.sI (hTk.fr (WL := W_cp) (Fr.sI (by decide) (Fr.sI (by decide) ff22)) (by decide)) ((sI_nej (by decide)).trans (sI_eq)) (sI_eq) ((sI_nej (by decide)).trans ((sI_nej (by decide)).trans ((f22.i _ _ (by decide)).trans ((sI_ne (by decide)).trans ((g20.i _ _ (by decide)).trans ((g17.i _ _ (by decide)).trans (q12_10))))))) (li_1) (li_1) (by omega))) ?_
            refine rsl (gtI_q (w := iI s) (ck_65 (hC.fr ff22).sI.sI.sI.sI.sI) ((sI_nej (by decide)).trans ((sI_nej (by decide)).trans ((sI_nej (by decide)).trans ((sI_nej (by decide)).trans ((sI_nej (by decide)).trans ((f22.i _ _ (by decide)).trans ((sI_ne (by decide)).trans ((g20.i _ _ (by decide)).trans ((g17.i _ _ (by decide)).trans (q12_16))))))))))) ?_
            refine rsl (vC_e (ck_65 (hC.fr ff22).sI.sI.sI.sI.sI)) ?_
            refine RlI (y87 (by omega) (hC.fr ff22).sI.sI.sI.sI.sI (hTk.fr (WL := W_cp) (Fr.sI (by decide) (Fr.sI (by decide) (Fr.sI (by decide) (Fr.sI (by decide) (Fr.sI (by decide) ff22))))) (by decide)) ((sI_nej (by decide)).trans ((sI_nej (by decide)).trans ((sI_nej (by decide)).trans ((sI_nej (by decide)).trans (sI_eq))))) (sI_eq) ((sI_nej (by decide)).trans ((sI_nej (by decide)).trans (sI_eq))) ((sI_nej (by decide)).trans (sI_eq)) ((sI_nej (by decide)).trans ((sI_nej (by decide)).trans ((sI_nej (by decide)).trans ((sI_nej (by decide)).trans ((sI_nej (by decide)).trans ((f22.i _ _ (by decide)).trans ((sI_ne (by decide)).trans (e20_k0)))))))) ((sI_nej (by decide)).trans ((sI_nej (by decide)).trans ((sI_nej (by decide)).trans ((sI_nej (by decide)).trans ((sI_nej (by decide)).trans ((f22.i _ _ (by decide)).trans ((sI_ne (by decide)).trans ((g20.i _ _ (by decide)).trans ((g17.i _ _ (by decide)).trans (q12_16)))))))))) ((sI_nej (by decide)).trans ((sI_nej (by decide)).trans ((sI_nej (by decide)).trans ((sI_nej (by decide)).trans ((sI_nej (by decide)).trans ((f22.i _ _ (by decide)).trans ((sI_ne (by decide)).trans ((g20.i _ _ (by decide)).trans ((g17.i _ _ (by decide)).trans (q12_19)))))))))) (li_2) (rfl) (by omega)) fun v Ma80 h80 => ?_
            obtain ⟨rv79, sz79, sn79, uc79, rfl, g80, e80_sz79, e80_sn79, e80_uc79, e80_k0, e80_k1, e80_k2, e80_k3, p80_0, p80_1, p80_2, p80_3⟩ := h80
            have f80 : Fr W_cp Mc Ma80 := Fr.t (Fr.sI (by decide) (Fr.sI (by decide) (Fr.sI (by decide) (Fr.sI (by decide) (Fr.sI (by decide) ff22))))) (Fr.m g80 (by decide))
            refine rsl (cI_e rfl) ?_
            refine rsl (vC_e (ck_65 (hC.fr f80))) ?_
            refine RlV (y75 (by omega) (hC.fr f80) (hTk.fr (WL := W_cp) f80 (by decide)) (e80_k3) (e80_k0) (e80_k1) (e80_k2) (e80_sz79) (e80_sn79) (e80_uc79)  (by omega)) fun v Ma82 h82 => ?_
            obtain ⟨sz81, sn81, uc81, g82, e82_sz81, e82_sn81, e82_uc81, e82_k0, e82_k1, e82_k2, e82_k3, p82_0, p82_1, p82_2⟩ := h82
            have f82 : Fr W_cp Mc Ma82 := Fr.t f80 (Fr.m g82 (by decide))
            refine rsl (cV_e rfl) ?_
            refine rsl (vC_e (ck_65 (hC.fr f82))) ?_
            refine RlV (y89 (by omega) (hC.fr f82) (hTk.fr (WL := W_cp) f82 (by decide)) (e82_k3) (e82_k0) (e82_k1) (e82_k2) (e82_sz81) (e82_sn81) (e82_uc81) (hv0) (by omega)) fun v Ma84 h84 => ?_
            obtain ⟨sz83, sn83, uc83, g84, e84_sz83, e84_sn83, e84_uc83, e84_k0, e84_k1, e84_k2, e84_k3, p84_0, p84_1, p84_2⟩ := h84
            have f84 : Fr W_cp Mc Ma84 := Fr.t f82 (Fr.m g84 (by decide))
            refine rsl (cV_e rfl) ?_
            refine rsl (ptI_q (z := s) (ck_65 (hC.fr f84)) (rfl)) ?_
            refine rsl (gtP_q (w := some 73) (ck_65 (hC.fr f84).sI) (cf_65_6 (hC.fr f84).sI)) ?_
            refine rsl (gtI_q (w := iI sz83) (ck_65 (hC.fr f84).sI) ((sI_nej (by decide)).trans (e84_sz83))) ?_
            refine rsl (asI_q (n := 4096) (z := (e12 + 1)) (y := sz83) (ck_73 (hC.fr f84).sI) (congrArg iI p20_0) (by omega) (rfl)) ?_
            refine rsr (vC_e (rk_160 (hR.fr FR12))) ?_
            refine RrI (a196q (by omega) (hR.fr FR12) (w12_43) ((FR12.i _ _ (by decide)).trans h49) ((FR12.i _ _ (by decide)).trans h48) (li_27) (li_0) (q := (e12 + 1)) (by omega) (by omega)) fun v Ma86 h86 => ?_
            obtain ⟨r85, rfl, g86, e86_k0, p86_0, p86_1⟩ := h86
            have f86 : Fr W_rx Mr Ma86 := Fr.t FR12 (Fr.m g86 (by decide))
            refine rsr (cI_e rfl) ?_
            refine rsr (vC_e (rk_160 (hR.fr f86))) ?_
            refine RrI (a196q (by omega) (hR.fr f86) (e86_k0) ((g86.i _ _ (by decide)).trans ((FR12.i _ _ (by decide)).trans h49)) ((g86.i _ _ (by decide)).trans ((FR12.i _ _ (by decide)).trans h48)) (li_25) (li_0) (q := (e12 + 2)) (by omega) (by omega)) fun v Ma88 h88 => ?_
            obtain ⟨r87, rfl, g88, e88_k0, p88_0, p88_1⟩ := h88
            have f88 : Fr W_rx Mr Ma88 := Fr.t f86 (Fr.m g88 (by decide))
            refine rsr (cI_e rfl) ?_
            refine rsr (gtP_q (w := some 196) (rk_160 (hR.fr f88)) (rf_45 (hR.fr f88))) ?_
            refine rsr (gtI_q (w := iI (e12 + 2)) (rk_160 (hR.fr f88)) (e88_k0)) ?_
            refine rsr (asI_q (n := 4000) (z := e) (y := (e12 + 2)) (rk_196 (hR.fr f88)) (congrArg iI p10_0) (by omega) (rfl)) ?_
            refine rsr (vC_e (rk_160 (hR.fr f88).sI)) ?_
            refine RrI (a195_424 (by omega) hS (hR.fr f88).sI (hT.fr (W := W_rx) (Fr.sI (inW_c (by decide) _) f88) (by decide) (by decide)) (fun i a b => (Fr.lc (W := W_rx) (Fr.sI (inW_c (by decide) _) f88) _ (by decide) _).trans (hW i a b)) ((sI_ne (by decide)).trans ((g88.i _ _ (by decide)).trans ((g86.i _ _ (by decide)).trans (w12_36)))) ((sI_ne (by decide)).trans ((g88.i _ _ (by decide)).trans ((g86.i _ _ (by decide)).trans (w12_37)))) ((sI_ne (by decide)).trans ((g88.i _ _ (by decide)).trans ((g86.i _ _ (by decide)).trans (w12_38)))) ((sI_ne (by decide)).trans ((g88.i _ _ (by decide)).trans ((g86.i _ _ (by decide)).trans (w12_41)))) (li_424) (i2 := (i12 + 1)) (by omega) (by omega)) fun v Ma90 h90 => ?_
            obtain ⟨r89, rfl, g90, e90_k0, e90_k1, e90_k2, p90_0, p90_1⟩ := h90
            have f90 : Fr W_rx Mr Ma90 := Fr.t (Fr.sI (inW_c (by decide) _) f88) (Fr.m g90 (by decide))
            refine rsr (cI_e rfl) ?_
            refine rsr (vC_e (rk_160 (hR.fr f90))) ?_
            refine rsr (cI_e (a198_3 (by omega) hS (hR.fr f90) (e90_k0) (e90_k1) ((g90.i _ _ (by decide)).trans ((sI_ne (by decide)).trans ((g88.i _ _ (by decide)).trans ((g86.i _ _ (by decide)).trans (w12_41))))) p90_1 ((g90.i _ _ (by decide)).trans ((sI_ne (by decide)).trans ((g88.i _ _ (by decide)).trans ((g86.i _ _ (by decide)).trans (w12_51))))) ((((lr12.fr g86 (by decide)).fr g88 (by decide)).fr (W := W_r2) (Fr.sI (inW_c (by decide) _) Fr.r) (by decide)).fr g90 (by decide)) hlc28 (by omega))) ?_
            refine rsr (jn_v) ?_
            refine rsr (if_pos (eqI_p (rfl) (li_0) (by omega))) ?_
            refine rsr (jv_e) ?_
            exact Rs.ok (Or.inr ⟨3, ((pl (i12 + 1))), (Fr.sI (inW_c (by decide) _) (Fr.sI (by decide) f84)), (Fr.sI (by decide) (Fr.sI (by decide) (Fr.m f90 (by decide)))), ⟨(i12 + 1), sz83, s, uc83, (sI_ne (by decide)).trans ((sI_nej (by decide)).trans (e84_k0)), (sI_ne (by decide)).trans ((sI_nej (by decide)).trans (e84_k1)), (sI_ne (by decide)).trans ((sI_nej (by decide)).trans (e84_k2)), (sI_ne (by decide)).trans ((sI_nej (by decide)).trans (e84_k3)), (sI_ne (by decide)).trans ((sI_nej (by decide)).trans (e84_sz83)), (sI_ne (by decide)).trans (sI_eq), (sI_ne (by decide)).trans ((sI_nej (by decide)).trans (e84_uc83)), by omega⟩, ⟨(e12 + 2), s, u12, mu, ut, (sI_nej (by decide)).trans (sI_eq), sI_eq, (sI_nej (by decide)).trans ((sI_nej (by decide)).trans ((g90.i _ _ (by decide)).trans ((sI_ne (by decide)).trans (e88_k0)))), (sI_nej (by decide)).trans ((sI_nej (by decide)).trans ((g90.i _ _ (by decide)).trans ((sI_ne (by decide)).trans ((g88.i _ _ (by decide)).trans ((g86.i _ _ (by decide)).trans (w12_51)))))), (sI_nej (by decide)).trans ((sI_nej (by decide)).trans ((g90.i _ _ (by decide)).trans ((sI_ne (by decide)).trans ((g88.i _ _ (by decide)).trans ((g86.i _ _ (by decide)).trans (w12_53)))))), (sI_nej (by decide)).trans ((sI_nej (by decide)).trans ((g90.i _ _ (by decide)).trans ((sI_ne (by decide)).trans ((g88.i _ _ (by decide)).trans ((g86.i _ _ (by decide)).trans ((FR12.i _ _ (by decide)).trans h48)))))), (sI_nej (by decide)).trans ((sI_nej (by decide)).trans ((g90.i _ _ (by decide)).trans ((sI_ne (by decide)).trans ((g88.i _ _ (by decide)).trans ((g86.i _ _ (by decide)).trans ((FR12.i _ _ (by decide)).trans h49)))))), by omega⟩⟩)
      ·
        refine RlI (a74 (by omega) (hC.fr ff22).sI.sI ((sI_nej (by decide)).trans ((sI_nej (by decide)).trans ((f22.i _ _ (by decide)).trans ((sI_ne (by decide)).trans ((g20.i _ _ (by decide)).trans ((g17.i _ _ (by decide)).trans (q12_16))))))) (((((lc12.fr g17 (by decide)).fr g20 (by decide)).fr (W := W_c2) (Fr.sI (inW_c (by decide) _) Fr.r) (by decide)).fr f22 (by decide)).fr (W := W_c0) (Fr.sI (by decide) (Fr.sI (by decide) Fr.r)) (by decide)) (x := (tx (i12 + 1))) (by omega)) fun v Ml hl => ?_
        obtain ⟨rl91, rfl, hMl91, hlc91⟩ := hl
        rw [hMl91]
        refine rsl (cI_e rfl) ?_
        have brl91 := hlc91.bd
        by_cases crl91 : rl91 = -1
        ·
          refine rsl (jn_v) ?_
          refine rsl (if_pos (lsI_p (congrArg iI (if_pos crl91)) (li_0) (by omega))) ?_
          refine rsl (jv_e) ?_
          refine rsl (gtI_q (w := iI s) (ck_65 (hC.fr ff22).sI.sI) ((sI_nej (by decide)).trans ((sI_nej (by decide)).trans ((f22.i _ _ (by decide)).trans ((sI_ne (by decide)).trans ((g20.i _ _ (by decide)).trans ((g17.i _ _ (by decide)).trans (q12_16)))))))) ?_
          refine rsl (jn_v) ?_
          by_cases c92 : s < 10
          · refine rsl (if_pos (lsI_p (rfl) (li_10) (by omega))) ?_
            refine rsl (jv_e) ?_
            refine rsl (vC_e (ck_65 (hC.fr ff22).sI.sI)) ?_
            by_cases c93 : ((kd (i12 + 1))) = 1
            ·
              refine rsl (cL_e (a66_1 (by omega) hS (hC.fr ff22).sI.sI (hTk.fr (WL := W_cp) (Fr.sI (by decide) (Fr.sI (by decide) ff22)) (by decide)) ((sI_nej (by decide)).trans (sI_eq)) (sI_eq) ((sI_nej (by decide)).trans ((sI_nej (by decide)).trans ((f22.i _ _ (by decide)).trans ((sI_ne (by decide)).trans ((g20.i _ _ (by decide)).trans ((g17.i _ _ (by decide)).trans (q12_10))))))) (li_0) (li_0) (by omega))) ?_
              refine rsl (gtI_q (w := iI s) (ck_65 (hC.fr ff22).sI.sI.sI.sI.sI) ((sI_nej (by decide)).trans ((sI_nej (by decide)).trans ((sI_nej (by decide)).trans ((sI_nej (by decide)).trans ((sI_nej (by decide)).trans ((f22.i _ _ (by decide)).trans ((sI_ne (by decide)).trans ((g20.i _ _ (by decide)).trans ((g17.i _ _ (by decide)).trans (q12_16))))))))))) ?_
              refine rsl (vC_e (ck_65 (hC.fr ff22).sI.sI.sI.sI.sI)) ?_
              refine RlI (y87 (by omega) (hC.fr ff22).sI.sI.sI.sI.sI (hTk.fr (WL := W_cp) (Fr.sI (by decide) (Fr.sI (by decide) (Fr.sI (by decide) (Fr.sI (by decide) (Fr.sI (by decide) ff22))))) (by decide)) ((sI_nej (by decide)).trans ((sI_nej (by decide)).trans ((sI_nej (by decide)).trans ((sI_nej (by decide)).trans (sI_eq))))) (sI_eq) ((sI_nej (by decide)).trans ((sI_nej (by decide)).trans (sI_eq))) ((sI_nej (by decide)).trans (sI_eq)) ((sI_nej (by decide)).trans ((sI_nej (by decide)).trans ((sI_nej (by decide)).trans ((sI_nej (by decide)).trans ((sI_nej (by decide)).trans ((f22.i _ _ (by decide)).trans ((sI_ne (by decide)).trans (e20_k0)))))))) ((sI_nej (by decide)).trans ((sI_nej (by decide)).trans ((sI_nej (by decide)).trans ((sI_nej (by decide)).trans ((sI_nej (by decide)).trans ((f22.i _ _ (by decide)).trans ((sI_ne (by decide)).trans ((g20.i _ _ (by decide)).trans ((g17.i _ _ (by decide)).trans (q12_16)))))))))) ((sI_nej (by decide)).trans ((sI_nej (by decide)).trans ((sI_nej (by decide)).trans ((sI_nej (by decide)).trans ((sI_nej (by decide)).trans ((f22.i _ _ (by decide)).trans ((sI_ne (by decide)).trans ((g20.i _ _ (by decide)).trans ((g17.i _ _ (by decide)).trans (q12_19)))))))))) (li_2) (rfl) (by omega)) fun v Ma95 h95 => ?_
              obtain ⟨rv94, sz94, sn94, uc94, rfl, g95, e95_sz94, e95_sn94, e95_uc94, e95_k0, e95_k1, e95_k2, e95_k3, p95_0, p95_1, p95_2, p95_3⟩ := h95
              have f95 : Fr W_cp Mc Ma95 := Fr.t (Fr.sI (by decide) (Fr.sI (by decide) (Fr.sI (by decide) (Fr.sI (by decide) (Fr.sI (by decide) ff22))))) (Fr.m g95 (by decide))
              refine rsl (cI_e rfl) ?_
              refine rsl (vC_e (ck_65 (hC.fr f95))) ?_
              refine RlV (y75 (by omega) (hC.fr f95) (hTk.fr (WL := W_cp) f95 (by decide)) (e95_k3) (e95_k0) (e95_k1) (e95_k2) (e95_sz94) (e95_sn94) (e95_uc94)  (by omega)) fun v Ma97 h97 => ?_
              obtain ⟨sz96, sn96, uc96, g97, e97_sz96, e97_sn96, e97_uc96, e97_k0, e97_k1, e97_k2, e97_k3, p97_0, p97_1, p97_2⟩ := h97
              have f97 : Fr W_cp Mc Ma97 := Fr.t f95 (Fr.m g97 (by decide))
              refine rsl (cV_e rfl) ?_
              refine rsl (vC_e (ck_65 (hC.fr f97))) ?_
              refine RlV (y89 (by omega) (hC.fr f97) (hTk.fr (WL := W_cp) f97 (by decide)) (e97_k3) (e97_k0) (e97_k1) (e97_k2) (e97_sz96) (e97_sn96) (e97_uc96) (hv0) (by omega)) fun v Ma99 h99 => ?_
              obtain ⟨sz98, sn98, uc98, g99, e99_sz98, e99_sn98, e99_uc98, e99_k0, e99_k1, e99_k2, e99_k3, p99_0, p99_1, p99_2⟩ := h99
              have f99 : Fr W_cp Mc Ma99 := Fr.t f97 (Fr.m g99 (by decide))
              refine rsl (cV_e rfl) ?_
              refine rsl (ptI_q (z := s) (ck_65 (hC.fr f99)) (rfl)) ?_
              refine rsl (gtP_q (w := some 73) (ck_65 (hC.fr f99).sI) (cf_65_6 (hC.fr f99).sI)) ?_
              refine rsl (gtI_q (w := iI sz98) (ck_65 (hC.fr f99).sI) ((sI_nej (by decide)).trans (e99_sz98))) ?_
              refine rsl (asI_q (n := 4096) (z := (e12 + 1)) (y := sz98) (ck_73 (hC.fr f99).sI) (congrArg iI p20_0) (by omega) (rfl)) ?_
              refine rsr (vC_e (rk_160 (hR.fr FR12))) ?_
              refine RrI (a196q (by omega) (hR.fr FR12) (w12_43) ((FR12.i _ _ (by decide)).trans h49) ((FR12.i _ _ (by decide)).trans h48) (li_27) (li_0) (q := (e12 + 1)) (by omega) (by omega)) fun v Ma101 h101 => ?_
              obtain ⟨r100, rfl, g101, e101_k0, p101_0, p101_1⟩ := h101
              have f101 : Fr W_rx Mr Ma101 := Fr.t FR12 (Fr.m g101 (by decide))
              refine rsr (cI_e rfl) ?_
              refine rsr (vC_e (rk_160 (hR.fr f101))) ?_
              refine RrI (a196q (by omega) (hR.fr f101) (e101_k0) ((g101.i _ _ (by decide)).trans ((FR12.i _ _ (by decide)).trans h49)) ((g101.i _ _ (by decide)).trans ((FR12.i _ _ (by decide)).trans h48)) (li_25) (li_0) (q := (e12 + 2)) (by omega) (by omega)) fun v Ma103 h103 => ?_
              obtain ⟨r102, rfl, g103, e103_k0, p103_0, p103_1⟩ := h103
              have f103 : Fr W_rx Mr Ma103 := Fr.t f101 (Fr.m g103 (by decide))
              refine rsr (cI_e rfl) ?_
              refine rsr (gtP_q (w := some 196) (rk_160 (hR.fr f103)) (rf_45 (hR.fr f103))) ?_
              refine rsr (gtI_q (w := iI (e12 + 2)) (rk_160 (hR.fr f103)) (e103_k0)) ?_
              refine rsr (asI_q (n := 4000) (z := e) (y := (e12 + 2)) (rk_196 (hR.fr f103)) (congrArg iI p10_0) (by omega) (rfl)) ?_
              refine rsr (vC_e (rk_160 (hR.fr f103).sI)) ?_
              refine RrI (a195_424 (by omega) hS (hR.fr f103).sI (hT.fr (W := W_rx) (Fr.sI (inW_c (by decide) _) f103) (by decide) (by decide)) (fun i a b => (Fr.lc (W := W_rx) (Fr.sI (inW_c (by decide) _) f103) _ (by decide) _).trans (hW i a b)) ((sI_ne (by decide)).trans ((g103.i _ _ (by decide)).trans ((g101.i _ _ (by decide)).trans (w12_36)))) ((sI_ne (by decide)).trans ((g103.i _ _ (by decide)).trans ((g101.i _ _ (by decide)).trans (w12_37)))) ((sI_ne (by decide)).trans ((g103.i _ _ (by decide)).trans ((g101.i _ _ (by decide)).trans (w12_38)))) ((sI_ne (by decide)).trans ((g103.i _ _ (by decide)).trans ((g101.i _ _ (by decide)).trans (w12_41)))) (li_424) (i2 := (i12 + 1)) (by omega) (by omega)) fun v Ma105 h105 => ?_
              obtain ⟨r104, rfl, g105, e105_k0, e105_k1, e105_k2, p105_0, p105_1⟩ := h105
              have f105 : Fr W_rx Mr Ma105 := Fr.t (Fr.sI (inW_c (by decide) _) f103) (Fr.m g105 (by decide))
              refine rsr (cI_e rfl) ?_
              refine rsr (vC_e (rk_160 (hR.fr f105))) ?_
              refine rsr (cI_e (a198_1 (r := 0) (by omega) hS (hR.fr f105) (e105_k0) (e105_k1) ((g105.i _ _ (by decide)).trans ((sI_ne (by decide)).trans ((g103.i _ _ (by decide)).trans ((g101.i _ _ (by decide)).trans (w12_41))))) p105_1 ((g105.i _ _ (by decide)).trans ((sI_ne (by decide)).trans ((g103.i _ _ (by decide)).trans ((g101.i _ _ (by decide)).trans (w12_51))))) ((((lr12.fr g101 (by decide)).fr g103 (by decide)).fr (W := W_r2) (Fr.sI (inW_c (by decide) _) Fr.r) (by decide)).fr g105 (by decide)) (by omega))) ?_
              refine rsr (jn_v) ?_
              refine rsr (if_pos (eqI_p (rfl) (li_0) (by omega))) ?_
              refine rsr (jv_e) ?_
              exact Rs.ok (Or.inr ⟨1, ((pl (i12 + 1))), (Fr.sI (inW_c (by decide) _) (Fr.sI (by decide) f99)), (Fr.sI (by decide) (Fr.sI (by decide) (Fr.m f105 (by decide)))), ⟨(i12 + 1), sz98, s, uc98, (sI_ne (by decide)).trans ((sI_nej (by decide)).trans (e99_k0)), (sI_ne (by decide)).trans ((sI_nej (by decide)).trans (e99_k1)), (sI_ne (by decide)).trans ((sI_nej (by decide)).trans (e99_k2)), (sI_ne (by decide)).trans ((sI_nej (by decide)).trans (e99_k3)), (sI_ne (by decide)).trans ((sI_nej (by decide)).trans (e99_sz98)), (sI_ne (by decide)).trans (sI_eq), (sI_ne (by decide)).trans ((sI_nej (by decide)).trans (e99_uc98)), by omega⟩, ⟨(e12 + 2), s, u12, mu, ut, (sI_nej (by decide)).trans (sI_eq), sI_eq, (sI_nej (by decide)).trans ((sI_nej (by decide)).trans ((g105.i _ _ (by decide)).trans ((sI_ne (by decide)).trans (e103_k0)))), (sI_nej (by decide)).trans ((sI_nej (by decide)).trans ((g105.i _ _ (by decide)).trans ((sI_ne (by decide)).trans ((g103.i _ _ (by decide)).trans ((g101.i _ _ (by decide)).trans (w12_51)))))), (sI_nej (by decide)).trans ((sI_nej (by decide)).trans ((g105.i _ _ (by decide)).trans ((sI_ne (by decide)).trans ((g103.i _ _ (by decide)).trans ((g101.i _ _ (by decide)).trans (w12_53)))))), (sI_nej (by decide)).trans ((sI_nej (by decide)).trans ((g105.i _ _ (by decide)).trans ((sI_ne (by decide)).trans ((g103.i _ _ (by decide)).trans ((g101.i _ _ (by decide)).trans ((FR12.i _ _ (by decide)).trans h48)))))), (sI_nej (by decide)).trans ((sI_nej (by decide)).trans ((g105.i _ _ (by decide)).trans ((sI_ne (by decide)).trans ((g103.i _ _ (by decide)).trans ((g101.i _ _ (by decide)).trans ((FR12.i _ _ (by decide)).trans h49)))))), by omega⟩⟩)
            ·
              refine rsl (cL_e (a66_2 (by omega) hS (hC.fr ff22).sI.sI (hTk.fr (WL := W_cp) (Fr.sI (by decide) (Fr.sI (by decide) ff22)) (by decide)) ((sI_nej (by decide)).trans (sI_eq)) (sI_eq) ((sI_nej (by decide)).trans ((sI_nej (by decide)).trans ((f22.i _ _ (by decide)).trans ((sI_ne (by decide)).trans ((g20.i _ _ (by decide)).trans ((g17.i _ _ (by decide)).trans (q12_10))))))) (li_0) (li_0) (by omega))) ?_
              refine rsl (gtI_q (w := iI s) (ck_65 (hC.fr ff22).sI.sI.sI.sI.sI) ((sI_nej (by decide)).trans ((sI_nej (by decide)).trans ((sI_nej (by decide)).trans ((sI_nej (by decide)).trans ((sI_nej (by decide)).trans ((f22.i _ _ (by decide)).trans ((sI_ne (by decide)).trans ((g20.i _ _ (by decide)).trans ((g17.i _ _ (by decide)).trans (q12_16))))))))))) ?_
              refine rsl (vC_e (ck_65 (hC.fr ff22).sI.sI.sI.sI.sI)) ?_
              refine RlI (y87 (by omega) (hC.fr ff22).sI.sI.sI.sI.sI (hTk.fr (WL := W_cp) (Fr.sI (by decide) (Fr.sI (by decide) (Fr.sI (by decide) (Fr.sI (by decide) (Fr.sI (by decide) ff22))))) (by decide)) ((sI_nej (by decide)).trans ((sI_nej (by decide)).trans ((sI_nej (by decide)).trans ((sI_nej (by decide)).trans (sI_eq))))) (sI_eq) ((sI_nej (by decide)).trans ((sI_nej (by decide)).trans (sI_eq))) ((sI_nej (by decide)).trans (sI_eq)) ((sI_nej (by decide)).trans ((sI_nej (by decide)).trans ((sI_nej (by decide)).trans ((sI_nej (by decide)).trans ((sI_nej (by decide)).trans ((f22.i _ _ (by decide)).trans ((sI_ne (by decide)).trans (e20_k0)))))))) ((sI_nej (by decide)).trans ((sI_nej (by decide)).trans ((sI_nej (by decide)).trans ((sI_nej (by decide)).trans ((sI_nej (by decide)).trans ((f22.i _ _ (by decide)).trans ((sI_ne (by decide)).trans ((g20.i _ _ (by decide)).trans ((g17.i _ _ (by decide)).trans (q12_16)))))))))) ((sI_nej (by decide)).trans ((sI_nej (by decide)).trans ((sI_nej (by decide)).trans ((sI_nej (by decide)).trans ((sI_nej (by decide)).trans ((f22.i _ _ (by decide)).trans ((sI_ne (by decide)).trans ((g20.i _ _ (by decide)).trans ((g17.i _ _ (by decide)).trans (q12_19)))))))))) (li_2) (rfl) (by omega)) fun v Ma107 h107 => ?_
              obtain ⟨rv106, sz106, sn106, uc106, rfl, g107, e107_sz106, e107_sn106, e107_uc106, e107_k0, e107_k1, e107_k2, e107_k3, p107_0, p107_1, p107_2, p107_3⟩ := h107
              have f107 : Fr W_cp Mc Ma107 := Fr.t (Fr.sI (by decide) (Fr.sI (by decide) (Fr.sI (by decide) (Fr.sI (by decide) (Fr.sI (by decide) ff22))))) (Fr.m g107 (by decide))
              refine rsl (cI_e rfl) ?_
              refine rsl (vC_e (ck_65 (hC.fr f107))) ?_
              refine RlV (y75 (by omega) (hC.fr f107) (hTk.fr (WL := W_cp) f107 (by decide)) (e107_k3) (e107_k0) (e107_k1) (e107_k2) (e107_sz106) (e107_sn106) (e107_uc106)  (by omega)) fun v Ma109 h109 => ?_
              obtain ⟨sz108, sn108, uc108, g109, e109_sz108, e109_sn108, e109_uc108, e109_k0, e109_k1, e109_k2, e109_k3, p109_0, p109_1, p109_2⟩ := h109
              have f109 : Fr W_cp Mc Ma109 := Fr.t f107 (Fr.m g109 (by decide))
              refine rsl (cV_e rfl) ?_
              refine rsl (vC_e (ck_65 (hC.fr f109))) ?_
              refine RlV (y89 (by omega) (hC.fr f109) (hTk.fr (WL := W_cp) f109 (by decide)) (e109_k3) (e109_k0) (e109_k1) (e109_k2) (e109_sz108) (e109_sn108) (e109_uc108) (hv0) (by omega)) fun v Ma111 h111 => ?_
              obtain ⟨sz110, sn110, uc110, g111, e111_sz110, e111_sn110, e111_uc110, e111_k0, e111_k1, e111_k2, e111_k3, p111_0, p111_1, p111_2⟩ := h111
              have f111 : Fr W_cp Mc Ma111 := Fr.t f109 (Fr.m g111 (by decide))
              refine rsl (cV_e rfl) ?_
              refine rsl (ptI_q (z := s) (ck_65 (hC.fr f111)) (rfl)) ?_
              refine rsl (gtP_q (w := some 73) (ck_65 (hC.fr f111).sI) (cf_65_6 (hC.fr f111).sI)) ?_
              refine rsl (gtI_q (w := iI sz110) (ck_65 (hC.fr f111).sI) ((sI_nej (by decide)).trans (e111_sz110))) ?_
              refine rsl (asI_q (n := 4096) (z := (e12 + 1)) (y := sz110) (ck_73 (hC.fr f111).sI) (congrArg iI p20_0) (by omega) (rfl)) ?_
              refine rsr (vC_e (rk_160 (hR.fr FR12))) ?_
              refine RrI (a196q (by omega) (hR.fr FR12) (w12_43) ((FR12.i _ _ (by decide)).trans h49) ((FR12.i _ _ (by decide)).trans h48) (li_27) (li_0) (q := (e12 + 1)) (by omega) (by omega)) fun v Ma113 h113 => ?_
              obtain ⟨r112, rfl, g113, e113_k0, p113_0, p113_1⟩ := h113
              have f113 : Fr W_rx Mr Ma113 := Fr.t FR12 (Fr.m g113 (by decide))
              refine rsr (cI_e rfl) ?_
              refine rsr (vC_e (rk_160 (hR.fr f113))) ?_
              refine RrI (a196q (by omega) (hR.fr f113) (e113_k0) ((g113.i _ _ (by decide)).trans ((FR12.i _ _ (by decide)).trans h49)) ((g113.i _ _ (by decide)).trans ((FR12.i _ _ (by decide)).trans h48)) (li_25) (li_0) (q := (e12 + 2)) (by omega) (by omega)) fun v Ma115 h115 => ?_
              obtain ⟨r114, rfl, g115, e115_k0, p115_0, p115_1⟩ := h115
              have f115 : Fr W_rx Mr Ma115 := Fr.t f113 (Fr.m g115 (by decide))
              refine rsr (cI_e rfl) ?_
              refine rsr (gtP_q (w := some 196) (rk_160 (hR.fr f115)) (rf_45 (hR.fr f115))) ?_
              refine rsr (gtI_q (w := iI (e12 + 2)) (rk_160 (hR.fr f115)) (e115_k0)) ?_
              refine rsr (asI_q (n := 4000) (z := e) (y := (e12 + 2)) (rk_196 (hR.fr f115)) (congrArg iI p10_0) (by omega) (rfl)) ?_
              refine rsr (vC_e (rk_160 (hR.fr f115).sI)) ?_
              refine RrI (a195_424 (by omega) hS (hR.fr f115).sI (hT.fr (W := W_rx) (Fr.sI (inW_c (by decide) _) f115) (by decide) (by decide)) (fun i a b => (Fr.lc (W := W_rx) (Fr.sI (inW_c (by decide) _) f115) _ (by decide) _).trans (hW i a b)) ((sI_ne (by decide)).trans ((g115.i _ _ (by decide)).trans ((g113.i _ _ (by decide)).trans (w12_36)))) ((sI_ne (by decide)).trans ((g115.i _ _ (by decide)).trans ((g113.i _ _ (by decide)).trans (w12_37)))) ((sI_ne (by decide)).trans ((g115.i _ _ (by decide)).trans ((g113.i _ _ (by decide)).trans (w12_38)))) ((sI_ne (by decide)).trans ((g115.i _ _ (by decide)).trans ((g113.i _ _ (by decide)).trans (w12_41)))) (li_424) (i2 := (i12 + 1)) (by omega) (by omega)) fun v Ma117 h117 => ?_
              obtain ⟨r116, rfl, g117, e117_k0, e117_k1, e117_k2, p117_0, p117_1⟩ := h117
              have f117 : Fr W_rx Mr Ma117 := Fr.t (Fr.sI (inW_c (by decide) _) f115) (Fr.m g117 (by decide))
              refine rsr (cI_e rfl) ?_
              refine rsr (vC_e (rk_160 (hR.fr f117))) ?_
              refine rsr (cI_e (a198_2 (r := 0) (by omega) hS (hR.fr f117) (e117_k0) (e117_k1) ((g117.i _ _ (by decide)).trans ((sI_ne (by decide)).trans ((g115.i _ _ (by decide)).trans ((g113.i _ _ (by decide)).trans (w12_41))))) p117_1 ((g117.i _ _ (by decide)).trans ((sI_ne (by decide)).trans ((g115.i _ _ (by decide)).trans ((g113.i _ _ (by decide)).trans (w12_51))))) ((((lr12.fr g113 (by decide)).fr g115 (by decide)).fr (W := W_r2) (Fr.sI (inW_c (by decide) _) Fr.r) (by decide)).fr g117 (by decide)) (by omega))) ?_
              refine rsr (jn_v) ?_
              refine rsr (if_pos (eqI_p (rfl) (li_0) (by omega))) ?_
              refine rsr (jv_e) ?_
              exact Rs.ok (Or.inr ⟨2, ((pl (i12 + 1))), (Fr.sI (inW_c (by decide) _) (Fr.sI (by decide) f111)), (Fr.sI (by decide) (Fr.sI (by decide) (Fr.m f117 (by decide)))), ⟨(i12 + 1), sz110, s, uc110, (sI_ne (by decide)).trans ((sI_nej (by decide)).trans (e111_k0)), (sI_ne (by decide)).trans ((sI_nej (by decide)).trans (e111_k1)), (sI_ne (by decide)).trans ((sI_nej (by decide)).trans (e111_k2)), (sI_ne (by decide)).trans ((sI_nej (by decide)).trans (e111_k3)), (sI_ne (by decide)).trans ((sI_nej (by decide)).trans (e111_sz110)), (sI_ne (by decide)).trans (sI_eq), (sI_ne (by decide)).trans ((sI_nej (by decide)).trans (e111_uc110)), by omega⟩, ⟨(e12 + 2), s, u12, mu, ut, (sI_nej (by decide)).trans (sI_eq), sI_eq, (sI_nej (by decide)).trans ((sI_nej (by decide)).trans ((g117.i _ _ (by decide)).trans ((sI_ne (by decide)).trans (e115_k0)))), (sI_nej (by decide)).trans ((sI_nej (by decide)).trans ((g117.i _ _ (by decide)).trans ((sI_ne (by decide)).trans ((g115.i _ _ (by decide)).trans ((g113.i _ _ (by decide)).trans (w12_51)))))), (sI_nej (by decide)).trans ((sI_nej (by decide)).trans ((g117.i _ _ (by decide)).trans ((sI_ne (by decide)).trans ((g115.i _ _ (by decide)).trans ((g113.i _ _ (by decide)).trans (w12_53)))))), (sI_nej (by decide)).trans ((sI_nej (by decide)).trans ((g117.i _ _ (by decide)).trans ((sI_ne (by decide)).trans ((g115.i _ _ (by decide)).trans ((g113.i _ _ (by decide)).trans ((FR12.i _ _ (by decide)).trans h48)))))), (sI_nej (by decide)).trans ((sI_nej (by decide)).trans ((g117.i _ _ (by decide)).trans ((sI_ne (by decide)).trans ((g115.i _ _ (by decide)).trans ((g113.i _ _ (by decide)).trans ((FR12.i _ _ (by decide)).trans h49)))))), by omega⟩⟩)
          · refine rsl (if_neg (lsI_n (rfl) (li_10) (by omega))) ?_
            refine rsl (jv_e) ?_
            refine rsl (vC_e (ck_65 (hC.fr ff22).sI.sI)) ?_
            by_cases c118 : ((kd (i12 + 1))) = 1
            ·
              refine rsl (cL_e (a66_1 (by omega) hS (hC.fr ff22).sI.sI (hTk.fr (WL := W_cp) (Fr.sI (by decide) (Fr.sI (by decide) ff22)) (by decide)) ((sI_nej (by decide)).trans (sI_eq)) (sI_eq) ((sI_nej (by decide)).trans ((sI_nej (by decide)).trans ((f22.i _ _ (by decide)).trans ((sI_ne (by decide)).trans ((g20.i _ _ (by decide)).trans ((g17.i _ _ (by decide)).trans (q12_10))))))) (li_0) (li_1) (by omega))) ?_
              refine rsl (gtI_q (w := iI s) (ck_65 (hC.fr ff22).sI.sI.sI.sI.sI) ((sI_nej (by decide)).trans ((sI_nej (by decide)).trans ((sI_nej (by decide)).trans ((sI_nej (by decide)).trans ((sI_nej (by decide)).trans ((f22.i _ _ (by decide)).trans ((sI_ne (by decide)).trans ((g20.i _ _ (by decide)).trans ((g17.i _ _ (by decide)).trans (q12_16))))))))))) ?_
              refine rsl (vC_e (ck_65 (hC.fr ff22).sI.sI.sI.sI.sI)) ?_
              refine RlI (y87 (by omega) (hC.fr ff22).sI.sI.sI.sI.sI (hTk.fr (WL := W_cp) (Fr.sI (by decide) (Fr.sI (by decide) (Fr.sI (by decide) (Fr.sI (by decide) (Fr.sI (by decide) ff22))))) (by decide)) ((sI_nej (by decide)).trans ((sI_nej (by decide)).trans ((sI_nej (by decide)).trans ((sI_nej (by decide)).trans (sI_eq))))) (sI_eq) ((sI_nej (by decide)).trans ((sI_nej (by decide)).trans (sI_eq))) ((sI_nej (by decide)).trans (sI_eq)) ((sI_nej (by decide)).trans ((sI_nej (by decide)).trans ((sI_nej (by decide)).trans ((sI_nej (by decide)).trans ((sI_nej (by decide)).trans ((f22.i _ _ (by decide)).trans ((sI_ne (by decide)).trans (e20_k0)))))))) ((sI_nej (by decide)).trans ((sI_nej (by decide)).trans ((sI_nej (by decide)).trans ((sI_nej (by decide)).trans ((sI_nej (by decide)).trans ((f22.i _ _ (by decide)).trans ((sI_ne (by decide)).trans ((g20.i _ _ (by decide)).trans ((g17.i _ _ (by decide)).trans (q12_16)))))))))) ((sI_nej (by decide)).trans ((sI_nej (by decide)).trans ((sI_nej (by decide)).trans ((sI_nej (by decide)).trans ((sI_nej (by decide)).trans ((f22.i _ _ (by decide)).trans ((sI_ne (by decide)).trans ((g20.i _ _ (by decide)).trans ((g17.i _ _ (by decide)).trans (q12_19)))))))))) (li_2) (rfl) (by omega)) fun v Ma120 h120 => ?_
              obtain ⟨rv119, sz119, sn119, uc119, rfl, g120, e120_sz119, e120_sn119, e120_uc119, e120_k0, e120_k1, e120_k2, e120_k3, p120_0, p120_1, p120_2, p120_3⟩ := h120
              have f120 : Fr W_cp Mc Ma120 := Fr.t (Fr.sI (by decide) (Fr.sI (by decide) (Fr.sI (by decide) (Fr.sI (by decide) (Fr.sI (by decide) ff22))))) (Fr.m g120 (by decide))
              refine rsl (cI_e rfl) ?_
              refine rsl (vC_e (ck_65 (hC.fr f120))) ?_
              refine RlV (y75 (by omega) (hC.fr f120) (hTk.fr (WL := W_cp) f120 (by decide)) (e120_k3) (e120_k0) (e120_k1) (e120_k2) (e120_sz119) (e120_sn119) (e120_uc119)  (by omega)) fun v Ma122 h122 => ?_
              obtain ⟨sz121, sn121, uc121, g122, e122_sz121, e122_sn121, e122_uc121, e122_k0, e122_k1, e122_k2, e122_k3, p122_0, p122_1, p122_2⟩ := h122
              have f122 : Fr W_cp Mc Ma122 := Fr.t f120 (Fr.m g122 (by decide))
              refine rsl (cV_e rfl) ?_
              refine rsl (vC_e (ck_65 (hC.fr f122))) ?_
              refine RlV (y89 (by omega) (hC.fr f122) (hTk.fr (WL := W_cp) f122 (by decide)) (e122_k3) (e122_k0) (e122_k1) (e122_k2) (e122_sz121) (e122_sn121) (e122_uc121) (hv0) (by omega)) fun v Ma124 h124 => ?_
              obtain ⟨sz123, sn123, uc123, g124, e124_sz123, e124_sn123, e124_uc123, e124_k0, e124_k1, e124_k2, e124_k3, p124_0, p124_1, p124_2⟩ := h124
              have f124 : Fr W_cp Mc Ma124 := Fr.t f122 (Fr.m g124 (by decide))
              refine rsl (cV_e rfl) ?_
              refine rsl (ptI_q (z := s) (ck_65 (hC.fr f124)) (rfl)) ?_
              refine rsl (gtP_q (w := some 73) (ck_65 (hC.fr f124).sI) (cf_65_6 (hC.fr f124).sI)) ?_
              refine rsl (gtI_q (w := iI sz123) (ck_65 (hC.fr f124).sI) ((sI_nej (by decide)).trans (e124_sz123))) ?_
              refine rsl (asI_q (n := 4096) (z := (e12 + 1)) (y := sz123) (ck_73 (hC.fr f124).sI) (congrArg iI p20_0) (by omega) (rfl)) ?_
              refine rsr (vC_e (rk_160 (hR.fr FR12))) ?_
              refine RrI (a196q (by omega) (hR.fr FR12) (w12_43) ((FR12.i _ _ (by decide)).trans h49) ((FR12.i _ _ (by decide)).trans h48) (li_27) (li_0) (q := (e12 + 1)) (by omega) (by omega)) fun v Ma126 h126 => ?_
              obtain ⟨r125, rfl, g126, e126_k0, p126_0, p126_1⟩ := h126
              have f126 : Fr W_rx Mr Ma126 := Fr.t FR12 (Fr.m g126 (by decide))
              refine rsr (cI_e rfl) ?_
              refine rsr (vC_e (rk_160 (hR.fr f126))) ?_
              refine RrI (a196q (by omega) (hR.fr f126) (e126_k0) ((g126.i _ _ (by decide)).trans ((FR12.i _ _ (by decide)).trans h49)) ((g126.i _ _ (by decide)).trans ((FR12.i _ _ (by decide)).trans h48)) (li_25) (li_0) (q := (e12 + 2)) (by omega) (by omega)) fun v Ma128 h128 => ?_
              obtain ⟨r127, rfl, g128, e128_k0, p128_0, p128_1⟩ := h128
              have f128 : Fr W_rx Mr Ma128 := Fr.t f126 (Fr.m g128 (by decide))
              refine rsr (cI_e rfl) ?_
              refine rsr (gtP_q (w := some 196) (rk_160 (hR.fr f128)) (rf_45 (hR.fr f128))) ?_
              refine rsr (gtI_q (w := iI (e12 + 2)) (rk_160 (hR.fr f128)) (e128_k0)) ?_
              refine rsr (asI_q (n := 4000) (z := e) (y := (e12 + 2)) (rk_196 (hR.fr f128)) (congrArg iI p10_0) (by omega) (rfl)) ?_
              refine rsr (vC_e (rk_160 (hR.fr f128).sI)) ?_
              refine RrI (a195_424 (by omega) hS (hR.fr f128).sI (hT.fr (W := W_rx) (Fr.sI (inW_c (by decide) _) f128) (by decide) (by decide)) (fun i a b => (Fr.lc (W := W_rx) (Fr.sI (inW_c (by decide) _) f128) _ (by decide) _).trans (hW i a b)) ((sI_ne (by decide)).trans ((g128.i _ _ (by decide)).trans ((g126.i _ _ (by decide)).trans (w12_36)))) ((sI_ne (by decide)).trans ((g128.i _ _ (by decide)).trans ((g126.i _ _ (by decide)).trans (w12_37)))) ((sI_ne (by decide)).trans ((g128.i _ _ (by decide)).trans ((g126.i _ _ (by decide)).trans (w12_38)))) ((sI_ne (by decide)).trans ((g128.i _ _ (by decide)).trans ((g126.i _ _ (by decide)).trans (w12_41)))) (li_424) (i2 := (i12 + 1)) (by omega) (by omega)) fun v Ma130 h130 => ?_
              obtain ⟨r129, rfl, g130, e130_k0, e130_k1, e130_k2, p130_0, p130_1⟩ := h130
              have f130 : Fr W_rx Mr Ma130 := Fr.t (Fr.sI (inW_c (by decide) _) f128) (Fr.m g130 (by decide))
              refine rsr (cI_e rfl) ?_
              refine rsr (vC_e (rk_160 (hR.fr f130))) ?_
              refine rsr (cI_e (a198_1 (r := 0) (by omega) hS (hR.fr f130) (e130_k0) (e130_k1) ((g130.i _ _ (by decide)).trans ((sI_ne (by decide)).trans ((g128.i _ _ (by decide)).trans ((g126.i _ _ (by decide)).trans (w12_41))))) p130_1 ((g130.i _ _ (by decide)).trans ((sI_ne (by decide)).trans ((g128.i _ _ (by decide)).trans ((g126.i _ _ (by decide)).trans (w12_51))))) ((((lr12.fr g126 (by decide)).fr g128 (by decide)).fr (W := W_r2) (Fr.sI (inW_c (by decide) _) Fr.r) (by decide)).fr g130 (by decide)) (by omega))) ?_
              refine rsr (jn_v) ?_
              refine rsr (if_pos (eqI_p (rfl) (li_0) (by omega))) ?_
              refine rsr (jv_e) ?_
              exact Rs.ok (Or.inr ⟨1, ((pl (i12 + 1))), (Fr.sI (inW_c (by decide) _) (Fr.sI (by decide) f124)), (Fr.sI (by decide) (Fr.sI (by decide) (Fr.m f130 (by decide)))), ⟨(i12 + 1), sz123, s, uc123, (sI_ne (by decide)).trans ((sI_nej (by decide)).trans (e124_k0)), (sI_ne (by decide)).trans ((sI_nej (by decide)).trans (e124_k1)), (sI_ne (by decide)).trans ((sI_nej (by decide)).trans (e124_k2)), (sI_ne (by decide)).trans ((sI_nej (by decide)).trans (e124_k3)), (sI_ne (by decide)).trans ((sI_nej (by decide)).trans (e124_sz123)), (sI_ne (by decide)).trans (sI_eq), (sI_ne (by decide)).trans ((sI_nej (by decide)).trans (e124_uc123)), by omega⟩, ⟨(e12 + 2), s, u12, mu, ut, (sI_nej (by decide)).trans (sI_eq), sI_eq, (sI_nej (by decide)).trans ((sI_nej (by decide)).trans ((g130.i _ _ (by decide)).trans ((sI_ne (by decide)).trans (e128_k0)))), (sI_nej (by decide)).trans ((sI_nej (by decide)).trans ((g130.i _ _ (by decide)).trans ((sI_ne (by decide)).trans ((g128.i _ _ (by decide)).trans ((g126.i _ _ (by decide)).trans (w12_51)))))), (sI_nej (by decide)).trans ((sI_nej (by decide)).trans ((g130.i _ _ (by decide)).trans ((sI_ne (by decide)).trans ((g128.i _ _ (by decide)).trans ((g126.i _ _ (by decide)).trans (w12_53)))))), (sI_nej (by decide)).trans ((sI_nej (by decide)).trans ((g130.i _ _ (by decide)).trans ((sI_ne (by decide)).trans ((g128.i _ _ (by decide)).trans ((g126.i _ _ (by decide)).trans ((FR12.i _ _ (by decide)).trans h48)))))), (sI_nej (by decide)).trans ((sI_nej (by decide)).trans ((g130.i _ _ (by decide)).trans ((sI_ne (by decide)).trans ((g128.i _ _ (by decide)).trans ((g126.i _ _ (by decide)).trans ((FR12.i _ _ (by decide)).trans h49)))))), by omega⟩⟩)
            ·
              refine rsl (cL_e (a66_2 (by omega) hS (hC.fr ff22).sI.sI (hTk.fr (WL := W_cp) (Fr.sI (by decide) (Fr.sI (by decide) ff22)) (by decide)) ((sI_nej (by decide)).trans (sI_eq)) (sI_eq) ((sI_nej (by decide)).trans ((sI_nej (by decide)).trans ((f22.i _ _ (by decide)).trans ((sI_ne (by decide)).trans ((g20.i _ _ (by decide)).trans ((g17.i _ _ (by decide)).trans (q12_10))))))) (li_0) (li_1) (by omega))) ?_
              refine rsl (gtI_q (w := iI s) (ck_65 (hC.fr ff22).sI.sI.sI.sI.sI) ((sI_nej (by decide)).trans ((sI_nej (by decide)).trans ((sI_nej (by decide)).trans ((sI_nej (by decide)).trans ((sI_nej (by decide)).trans ((f22.i _ _ (by decide)).trans ((sI_ne (by decide)).trans ((g20.i _ _ (by decide)).trans ((g17.i _ _ (by decide)).trans (q12_16))))))))))) ?_
              refine rsl (vC_e (ck_65 (hC.fr ff22).sI.sI.sI.sI.sI)) ?_
              refine RlI (y87 (by omega) (hC.fr ff22).sI.sI.sI.sI.sI (hTk.fr (WL := W_cp) (Fr.sI (by decide) (Fr.sI (by decide) (Fr.sI (by decide) (Fr.sI (by decide) (Fr.sI (by decide) ff22))))) (by decide)) ((sI_nej (by decide)).trans ((sI_nej (by decide)).trans ((sI_nej (by decide)).trans ((sI_nej (by decide)).trans (sI_eq))))) (sI_eq) ((sI_nej (by decide)).trans ((sI_nej (by decide)).trans (sI_eq))) ((sI_nej (by decide)).trans (sI_eq)) ((sI_nej (by decide)).trans ((sI_nej (by decide)).trans ((sI_nej (by decide)).trans ((sI_nej (by decide)).trans ((sI_nej (by decide)).trans ((f22.i _ _ (by decide)).trans ((sI_ne (by decide)).trans (e20_k0)))))))) ((sI_nej (by decide)).trans ((sI_nej (by decide)).trans ((sI_nej (by decide)).trans ((sI_nej (by decide)).trans ((sI_nej (by decide)).trans ((f22.i _ _ (by decide)).trans ((sI_ne (by decide)).trans ((g20.i _ _ (by decide)).trans ((g17.i _ _ (by decide)).trans (q12_16)))))))))) ((sI_nej (by decide)).trans ((sI_nej (by decide)).trans ((sI_nej (by decide)).trans ((sI_nej (by decide)).trans ((sI_nej (by decide)).trans ((f22.i _ _ (by decide)).trans ((sI_ne (by decide)).trans ((g20.i _ _ (by decide)).trans ((g17.i _ _ (by decide)).trans (q12_19)))))))))) (li_2) (rfl) (by omega)) fun v Ma132 h132 => ?_
              obtain ⟨rv131, sz131, sn131, uc131, rfl, g132, e132_sz131, e132_sn131, e132_uc131, e132_k0, e132_k1, e132_k2, e132_k3, p132_0, p132_1, p132_2, p132_3⟩ := h132
              have f132 : Fr W_cp Mc Ma132 := Fr.t (Fr.sI (by decide) (Fr.sI (by decide) (Fr.sI (by decide) (Fr.sI (by decide) (Fr.sI (by decide) ff22))))) (Fr.m g132 (by decide))
              refine rsl (cI_e rfl) ?_
              refine rsl (vC_e (ck_65 (hC.fr f132))) ?_
              refine RlV (y75 (by omega) (hC.fr f132) (hTk.fr (WL := W_cp) f132 (by decide)) (e132_k3) (e132_k0) (e132_k1) (e132_k2) (e132_sz131) (e132_sn131) (e132_uc131)  (by omega)) fun v Ma134 h134 => ?_
              obtain ⟨sz133, sn133, uc133, g134, e134_sz133, e134_sn133, e134_uc133, e134_k0, e134_k1, e134_k2, e134_k3, p134_0, p134_1, p134_2⟩ := h134
              have f134 : Fr W_cp Mc Ma134 := Fr.t f132 (Fr.m g134 (by decide))
              refine rsl (cV_e rfl) ?_
              refine rsl (vC_e (ck_65 (hC.fr f134))) ?_
              refine RlV (y89 (by omega) (hC.fr f134) (hTk.fr (WL := W_cp) f134 (by decide)) (e134_k3) (e134_k0) (e134_k1) (e134_k2) (e134_sz133) (e134_sn133) (e134_uc133) (hv0) (by omega)) fun v Ma136 h136 => ?_
              obtain ⟨sz135, sn135, uc135, g136, e136_sz135, e136_sn135, e136_uc135, e136_k0, e136_k1, e136_k2, e136_k3, p136_0, p136_1, p136_2⟩ := h136
              have f136 : Fr W_cp Mc Ma136 := Fr.t f134 (Fr.m g136 (by decide))
              refine rsl (cV_e rfl) ?_
              refine rsl (ptI_q (z := s) (ck_65 (hC.fr f136)) (rfl)) ?_
              refine rsl (gtP_q (w := some 73) (ck_65 (hC.fr f136).sI) (cf_65_6 (hC.fr f136).sI)) ?_
              refine rsl (gtI_q (w := iI sz135) (ck_65 (hC.fr f136).sI) ((sI_nej (by decide)).trans (e136_sz135))) ?_
              refine rsl (asI_q (n := 4096) (z := (e12 + 1)) (y := sz135) (ck_73 (hC.fr f136).sI) (congrArg iI p20_0) (by omega) (rfl)) ?_
              refine rsr (vC_e (rk_160 (hR.fr FR12))) ?_
              refine RrI (a196q (by omega) (hR.fr FR12) (w12_43) ((FR12.i _ _ (by decide)).trans h49) ((FR12.i _ _ (by decide)).trans h48) (li_27) (li_0) (q := (e12 + 1)) (by omega) (by omega)) fun v Ma138 h138 => ?_
              obtain ⟨r137, rfl, g138, e138_k0, p138_0, p138_1⟩ := h138
              have f138 : Fr W_rx Mr Ma138 := Fr.t FR12 (Fr.m g138 (by decide))
              refine rsr (cI_e rfl) ?_
              refine rsr (vC_e (rk_160 (hR.fr f138))) ?_
              refine RrI (a196q (by omega) (hR.fr f138) (e138_k0) ((g138.i _ _ (by decide)).trans ((FR12.i _ _ (by decide)).trans h49)) ((g138.i _ _ (by decide)).trans ((FR12.i _ _ (by decide)).trans h48)) (li_25) (li_0) (q := (e12 + 2)) (by omega) (by omega)) fun v Ma140 h140 => ?_
              obtain ⟨r139, rfl, g140, e140_k0, p140_0, p140_1⟩ := h140
              have f140 : Fr W_rx Mr Ma140 := Fr.t f138 (Fr.m g140 (by decide))
              refine rsr (cI_e rfl) ?_
              refine rsr (gtP_q (w := some 196) (rk_160 (hR.fr f140)) (rf_45 (hR.fr f140))) ?_
              refine rsr (gtI_q (w := iI (e12 + 2)) (rk_160 (hR.fr f140)) (e140_k0)) ?_
              refine rsr (asI_q (n := 4000) (z := e) (y := (e12 + 2)) (rk_196 (hR.fr f140)) (congrArg iI p10_0) (by omega) (rfl)) ?_
              refine rsr (vC_e (rk_160 (hR.fr f140).sI)) ?_
              refine RrI (a195_424 (by omega) hS (hR.fr f140).sI (hT.fr (W := W_rx) (Fr.sI (inW_c (by decide) _) f140) (by decide) (by decide)) (fun i a b => (Fr.lc (W := W_rx) (Fr.sI (inW_c (by decide) _) f140) _ (by decide) _).trans (hW i a b)) ((sI_ne (by decide)).trans ((g140.i _ _ (by decide)).trans ((g138.i _ _ (by decide)).trans (w12_36)))) ((sI_ne (by decide)).trans ((g140.i _ _ (by decide)).trans ((g138.i _ _ (by decide)).trans (w12_37)))) ((sI_ne (by decide)).trans ((g140.i _ _ (by decide)).trans ((g138.i _ _ (by decide)).trans (w12_38)))) ((sI_ne (by decide)).trans ((g140.i _ _ (by decide)).trans ((g138.i _ _ (by decide)).trans (w12_41)))) (li_424) (i2 := (i12 + 1)) (by omega) (by omega)) fun v Ma142 h142 => ?_
              obtain ⟨r141, rfl, g142, e142_k0, e142_k1, e142_k2, p142_0, p142_1⟩ := h142
              have f142 : Fr W_rx Mr Ma142 := Fr.t (Fr.sI (inW_c (by decide) _) f140) (Fr.m g142 (by decide))
              refine rsr (cI_e rfl) ?_
              refine rsr (vC_e (rk_160 (hR.fr f142))) ?_
              refine rsr (cI_e (a198_2 (r := 0) (by omega) hS (hR.fr f142) (e142_k0) (e142_k1) ((g142.i _ _ (by decide)).trans ((sI_ne (by decide)).trans ((g140.i _ _ (by decide)).trans ((g138.i _ _ (by decide)).trans (w12_41))))) p142_1 ((g142.i _ _ (by decide)).trans ((sI_ne (by decide)).trans ((g140.i _ _ (by decide)).trans ((g138.i _ _ (by decide)).trans (w12_51))))) ((((lr12.fr g138 (by decide)).fr g140 (by decide)).fr (W := W_r2) (Fr.sI (inW_c (by decide) _) Fr.r) (by decide)).fr g142 (by decide)) (by omega))) ?_
              refine rsr (jn_v) ?_
              refine rsr (if_pos (eqI_p (rfl) (li_0) (by omega))) ?_
              refine rsr (jv_e) ?_
              exact Rs.ok (Or.inr ⟨2, ((pl (i12 + 1))), (Fr.sI (inW_c (by decide) _) (Fr.sI (by decide) f136)), (Fr.sI (by decide) (Fr.sI (by decide) (Fr.m f142 (by decide)))), ⟨(i12 + 1), sz135, s, uc135, (sI_ne (by decide)).trans ((sI_nej (by decide)).trans (e136_k0)), (sI_ne (by decide)).trans ((sI_nej (by decide)).trans (e136_k1)), (sI_ne (by decide)).trans ((sI_nej (by decide)).trans (e136_k2)), (sI_ne (by decide)).trans ((sI_nej (by decide)).trans (e136_k3)), (sI_ne (by decide)).trans ((sI_nej (by decide)).trans (e136_sz135)), (sI_ne (by decide)).trans (sI_eq), (sI_ne (by decide)).trans ((sI_nej (by decide)).trans (e136_uc135)), by omega⟩, ⟨(e12 + 2), s, u12, mu, ut, (sI_nej (by decide)).trans (sI_eq), sI_eq, (sI_nej (by decide)).trans ((sI_nej (by decide)).trans ((g142.i _ _ (by decide)).trans ((sI_ne (by decide)).trans (e140_k0)))), (sI_nej (by decide)).trans ((sI_nej (by decide)).trans ((g142.i _ _ (by decide)).trans ((sI_ne (by decide)).trans ((g140.i _ _ (by decide)).trans ((g138.i _ _ (by decide)).trans (w12_51)))))), (sI_nej (by decide)).trans ((sI_nej (by decide)).trans ((g142.i _ _ (by decide)).trans ((sI_ne (by decide)).trans ((g140.i _ _ (by decide)).trans ((g138.i _ _ (by decide)).trans (w12_53)))))), (sI_nej (by decide)).trans ((sI_nej (by decide)).trans ((g142.i _ _ (by decide)).trans ((sI_ne (by decide)).trans ((g140.i _ _ (by decide)).trans ((g138.i _ _ (by decide)).trans ((FR12.i _ _ (by decide)).trans h48)))))), (sI_nej (by decide)).trans ((sI_nej (by decide)).trans ((g142.i _ _ (by decide)).trans ((sI_ne (by decide)).trans ((g140.i _ _ (by decide)).trans ((g138.i _ _ (by decide)).trans ((FR12.i _ _ (by decide)).trans h49)))))), by omega⟩⟩)
        ·
          refine rsl (jn_v) ?_
          refine rsl (if_neg (lsI_n (congrArg iI (if_neg crl91)) (li_0) (by omega))) ?_
          refine rsl (jv_e) ?_
          refine rsl (gtI_q (w := iI s) (ck_65 (hC.fr ff22).sI.sI) ((sI_nej (by decide)).trans ((sI_nej (by decide)).trans ((f22.i _ _ (by decide)).trans ((sI_ne (by decide)).trans ((g20.i _ _ (by decide)).trans ((g17.i _ _ (by decide)).trans (q12_16)))))))) ?_
          refine rsl (jn_v) ?_
          by_cases c143 : s < 10
          · refine rsl (if_pos (lsI_p (rfl) (li_10) (by omega))) ?_
            refine rsl (jv_e) ?_
            refine rsl (vC_e (ck_65 (hC.fr ff22).sI.sI)) ?_
            by_cases c144 : ((kd (i12 + 1))) = 1
            ·
              refine rsl (cL_e (a66_1 (by omega) hS (hC.fr ff22).sI.sI (hTk.fr (WL := W_cp) (Fr.sI (by decide) (Fr.sI (by decide) ff22)) (by decide)) ((sI_nej (by decide)).trans (sI_eq)) (sI_eq) ((sI_nej (by decide)).trans ((sI_nej (by decide)).trans ((f22.i _ _ (by decide)).trans ((sI_ne (by decide)).trans ((g20.i _ _ (by decide)).trans ((g17.i _ _ (by decide)).trans (q12_10))))))) (li_1) (li_0) (by omega))) ?_
              refine rsl (gtI_q (w := iI s) (ck_65 (hC.fr ff22).sI.sI.sI.sI.sI) ((sI_nej (by decide)).trans ((sI_nej (by decide)).trans ((sI_nej (by decide)).trans ((sI_nej (by decide)).trans ((sI_nej (by decide)).trans ((f22.i _ _ (by decide)).trans ((sI_ne (by decide)).trans ((g20.i _ _ (by decide)).trans ((g17.i _ _ (by decide)).trans (q12_16))))))))))) ?_
              refine rsl (vC_e (ck_65 (hC.fr ff22).sI.sI.sI.sI.sI)) ?_
              refine RlI (y87 (by omega) (hC.fr ff22).sI.sI.sI.sI.sI (hTk.fr (WL := W_cp) (Fr.sI (by decide) (Fr.sI (by decide) (Fr.sI (by decide) (Fr.sI (by decide) (Fr.sI (by decide) ff22))))) (by decide)) ((sI_nej (by decide)).trans ((sI_nej (by decide)).trans ((sI_nej (by decide)).trans ((sI_nej (by decide)).trans (sI_eq))))) (sI_eq) ((sI_nej (by decide)).trans ((sI_nej (by decide)).trans (sI_eq))) ((sI_nej (by decide)).trans (sI_eq)) ((sI_nej (by decide)).trans ((sI_nej (by decide)).trans ((sI_nej (by decide)).trans ((sI_nej (by decide)).trans ((sI_nej (by decide)).trans ((f22.i _ _ (by decide)).trans ((sI_ne (by decide)).trans (e20_k0)))))))) ((sI_nej (by decide)).trans ((sI_nej (by decide)).trans ((sI_nej (by decide)).trans ((sI_nej (by decide)).trans ((sI_nej (by decide)).trans ((f22.i _ _ (by decide)).trans ((sI_ne (by decide)).trans ((g20.i _ _ (by decide)).trans ((g17.i _ _ (by decide)).trans (q12_16)))))))))) ((sI_nej (by decide)).trans ((sI_nej (by decide)).trans ((sI_nej (by decide)).trans ((sI_nej (by decide)).trans ((sI_nej (by decide)).trans ((f22.i _ _ (by decide)).trans ((sI_ne (by decide)).trans ((g20.i _ _ (by decide)).trans ((g17.i _ _ (by decide)).trans (q12_19)))))))))) (li_2) (rfl) (by omega)) fun v Ma146 h146 => ?_
              obtain ⟨rv145, sz145, sn145, uc145, rfl, g146, e146_sz145, e146_sn145, e146_uc145, e146_k0, e146_k1, e146_k2, e146_k3, p146_0, p146_1, p146_2, p146_3⟩ := h146
              have f146 : Fr W_cp Mc Ma146 := Fr.t (Fr.sI (by decide) (Fr.sI (by decide) (Fr.sI (by decide) (Fr.sI (by decide) (Fr.sI (by decide) ff22))))) (Fr.m g146 (by decide))
              refine rsl (cI_e rfl) ?_
              refine rsl (vC_e (ck_65 (hC.fr f146))) ?_
              refine RlV (y75 (by omega) (hC.fr f146) (hTk.fr (WL := W_cp) f146 (by decide)) (e146_k3) (e146_k0) (e146_k1) (e146_k2) (e146_sz145) (e146_sn145) (e146_uc145)  (by omega)) fun v Ma148 h148 => ?_
              obtain ⟨sz147, sn147, uc147, g148, e148_sz147, e148_sn147, e148_uc147, e148_k0, e148_k1, e148_k2, e148_k3, p148_0, p148_1, p148_2⟩ := h148
              have f148 : Fr W_cp Mc Ma148 := Fr.t f146 (Fr.m g148 (by decide))
              refine rsl (cV_e rfl) ?_
              refine rsl (vC_e (ck_65 (hC.fr f148))) ?_
              refine RlV (y89 (by omega) (hC.fr f148) (hTk.fr (WL := W_cp) f148 (by decide)) (e148_k3) (e148_k0) (e148_k1) (e148_k2) (e148_sz147) (e148_sn147) (e148_uc147) (hv0) (by omega)) fun v Ma150 h150 => ?_
              obtain ⟨sz149, sn149, uc149, g150, e150_sz149, e150_sn149, e150_uc149, e150_k0, e150_k1, e150_k2, e150_k3, p150_0, p150_1, p150_2⟩ := h150
              have f150 : Fr W_cp Mc Ma150 := Fr.t f148 (Fr.m g150 (by decide))
              refine rsl (cV_e rfl) ?_
              refine rsl (ptI_q (z := s) (ck_65 (hC.fr f150)) (rfl)) ?_
              refine rsl (gtP_q (w := some 73) (ck_65 (hC.fr f150).sI) (cf_65_6 (hC.fr f150).sI)) ?_
              refine rsl (gtI_q (w := iI sz149) (ck_65 (hC.fr f150).sI) ((sI_nej (by decide)).trans (e150_sz149))) ?_
              refine rsl (asI_q (n := 4096) (z := (e12 + 1)) (y := sz149) (ck_73 (hC.fr f150).sI) (congrArg iI p20_0) (by omega) (rfl)) ?_
              refine rsr (vC_e (rk_160 (hR.fr FR12))) ?_
              refine RrI (a196q (by omega) (hR.fr FR12) (w12_43) ((FR12.i _ _ (by decide)).trans h49) ((FR12.i _ _ (by decide)).trans h48) (li_27) (li_0) (q := (e12 + 1)) (by omega) (by omega)) fun v Ma152 h152 => ?_
              obtain ⟨r151, rfl, g152, e152_k0, p152_0, p152_1⟩ := h152
              have f152 : Fr W_rx Mr Ma152 := Fr.t FR12 (Fr.m g152 (by decide))
              refine rsr (cI_e rfl) ?_
              refine rsr (vC_e (rk_160 (hR.fr f152))) ?_
              refine RrI (a196q (by omega) (hR.fr f152) (e152_k0) ((g152.i _ _ (by decide)).trans ((FR12.i _ _ (by decide)).trans h49)) ((g152.i _ _ (by decide)).trans ((FR12.i _ _ (by decide)).trans h48)) (li_25) (li_0) (q := (e12 + 2)) (by omega) (by omega)) fun v Ma154 h154 => ?_
              obtain ⟨r153, rfl, g154, e154_k0, p154_0, p154_1⟩ := h154
              have f154 : Fr W_rx Mr Ma154 := Fr.t f152 (Fr.m g154 (by decide))
              refine rsr (cI_e rfl) ?_
              refine rsr (gtP_q (w := some 196) (rk_160 (hR.fr f154)) (rf_45 (hR.fr f154))) ?_
              refine rsr (gtI_q (w := iI (e12 + 2)) (rk_160 (hR.fr f154)) (e154_k0)) ?_
              refine rsr (asI_q (n := 4000) (z := e) (y := (e12 + 2)) (rk_196 (hR.fr f154)) (congrArg iI p10_0) (by omega) (rfl)) ?_
              refine rsr (vC_e (rk_160 (hR.fr f154).sI)) ?_
              refine RrI (a195_424 (by omega) hS (hR.fr f154).sI (hT.fr (W := W_rx) (Fr.sI (inW_c (by decide) _) f154) (by decide) (by decide)) (fun i a b => (Fr.lc (W := W_rx) (Fr.sI (inW_c (by decide) _) f154) _ (by decide) _).trans (hW i a b)) ((sI_ne (by decide)).trans ((g154.i _ _ (by decide)).trans ((g152.i _ _ (by decide)).trans (w12_36)))) ((sI_ne (by decide)).trans ((g154.i _ _ (by decide)).trans ((g152.i _ _ (by decide)).trans (w12_37)))) ((sI_ne (by decide)).trans ((g154.i _ _ (by decide)).trans ((g152.i _ _ (by decide)).trans (w12_38)))) ((sI_ne (by decide)).trans ((g154.i _ _ (by decide)).trans ((g152.i _ _ (by decide)).trans (w12_41)))) (li_424) (i2 := (i12 + 1)) (by omega) (by omega)) fun v Ma156 h156 => ?_
              obtain ⟨r155, rfl, g156, e156_k0, e156_k1, e156_k2, p156_0, p156_1⟩ := h156
              have f156 : Fr W_rx Mr Ma156 := Fr.t (Fr.sI (inW_c (by decide) _) f154) (Fr.m g156 (by decide))
              refine rsr (cI_e rfl) ?_
              refine rsr (vC_e (rk_160 (hR.fr f156))) ?_
              refine rsr (cI_e (a198_1 (r := 0) (by omega) hS (hR.fr f156) (e156_k0) (e156_k1) ((g156.i _ _ (by decide)).trans ((sI_ne (by decide)).trans ((g154.i _ _ (by decide)).trans ((g152.i _ _ (by decide)).trans (w12_41))))) p156_1 ((g156.i _ _ (by decide)).trans ((sI_ne (by decide)).trans ((g154.i _ _ (by decide)).trans ((g152.i _ _ (by decide)).trans (w12_51))))) ((((lr12.fr g152 (by decide)).fr g154 (by decide)).fr (W := W_r2) (Fr.sI (inW_c (by decide) _) Fr.r) (by decide)).fr g156 (by decide)) (by omega))) ?_
              refine rsr (jn_v) ?_
              refine rsr (if_pos (eqI_p (rfl) (li_0) (by omega))) ?_
              refine rsr (jv_e) ?_
              exact Rs.ok (Or.inr ⟨1, ((pl (i12 + 1))), (Fr.sI (inW_c (by decide) _) (Fr.sI (by decide) f150)), (Fr.sI (by decide) (Fr.sI (by decide) (Fr.m f156 (by decide)))), ⟨(i12 + 1), sz149, s, uc149, (sI_ne (by decide)).trans ((sI_nej (by decide)).trans (e150_k0)), (sI_ne (by decide)).trans ((sI_nej (by decide)).trans (e150_k1)), (sI_ne (by decide)).trans ((sI_nej (by decide)).trans (e150_k2)), (sI_ne (by decide)).trans ((sI_nej (by decide)).trans (e150_k3)), (sI_ne (by decide)).trans ((sI_nej (by decide)).trans (e150_sz149)), (sI_ne (by decide)).trans (sI_eq), (sI_ne (by decide)).trans ((sI_nej (by decide)).trans (e150_uc149)), by omega⟩, ⟨(e12 + 2), s, u12, mu, ut, (sI_nej (by decide)).trans (sI_eq), sI_eq, (sI_nej (by decide)).trans ((sI_nej (by decide)).trans ((g156.i _ _ (by decide)).trans ((sI_ne (by decide)).trans (e154_k0)))), (sI_nej (by decide)).trans ((sI_nej (by decide)).trans ((g156.i _ _ (by decide)).trans ((sI_ne (by decide)).trans ((g154.i _ _ (by decide)).trans ((g152.i _ _ (by decide)).trans (w12_51)))))), (sI_nej (by decide)).trans ((sI_nej (by decide)).trans ((g156.i _ _ (by decide)).trans ((sI_ne (by decide)).trans ((g154.i _ _ (by decide)).trans ((g152.i _ _ (by decide)).trans (w12_53)))))), (sI_nej (by decide)).trans ((sI_nej (by decide)).trans ((g156.i _ _ (by decide)).trans ((sI_ne (by decide)).trans ((g154.i _ _ (by decide)).trans ((g152.i _ _ (by decide)).trans ((FR12.i _ _ (by decide)).trans h48)))))), (sI_nej (by decide)).trans ((sI_nej (by decide)).trans ((g156.i _ _ (by decide)).trans ((sI_ne (by decide)).trans ((g154.i _ _ (by decide)).trans ((g152.i _ _ (by decide)).trans ((FR12.i _ _ (by decide)).trans h49)))))), by omega⟩⟩)
            ·
              refine rsl (cL_e (a66_2 (by omega) hS (hC.fr ff22).sI.sI (hTk.fr (WL := W_cp) (Fr.sI (by decide) (Fr.sI (by decide) ff22)) (by decide)) ((sI_nej (by decide)).trans (sI_eq)) (sI_eq) ((sI_nej (by decide)).trans ((sI_nej (by decide)).trans ((f22.i _ _ (by decide)).trans ((sI_ne (by decide)).trans ((g20.i _ _ (by decide)).trans ((g17.i _ _ (by decide)).trans (q12_10))))))) (li_1) (li_0) (by omega))) ?_
              refine rsl (gtI_q (w := iI s) (ck_65 (hC.fr ff22).sI.sI.sI.sI.sI) ((sI_nej (by decide)).trans ((sI_nej (by decide)).trans ((sI_nej (by decide)).trans ((sI_nej (by decide)).trans ((sI_nej (by decide)).trans ((f22.i _ _ (by decide)).trans ((sI_ne (by decide)).trans ((g20.i _ _ (by decide)).trans ((g17.i _ _ (by decide)).trans (q12_16))))))))))) ?_
              refine rsl (vC_e (ck_65 (hC.fr ff22).sI.sI.sI.sI.sI)) ?_
              refine RlI (y87 (by omega) (hC.fr ff22).sI.sI.sI.sI.sI (hTk.fr (WL := W_cp) (Fr.sI (by decide) (Fr.sI (by decide) (Fr.sI (by decide) (Fr.sI (by decide) (Fr.sI (by decide) ff22))))) (by decide)) ((sI_nej (by decide)).trans ((sI_nej (by decide)).trans ((sI_nej (by decide)).trans ((sI_nej (by decide)).trans (sI_eq))))) (sI_eq) ((sI_nej (by decide)).trans ((sI_nej (by decide)).trans (sI_eq))) ((sI_nej (by decide)).trans (sI_eq)) ((sI_nej (by decide)).trans ((sI_nej (by decide)).trans ((sI_nej (by decide)).trans ((sI_nej (by decide)).trans ((sI_nej (by decide)).trans ((f22.i _ _ (by decide)).trans ((sI_ne (by decide)).trans (e20_k0)))))))) ((sI_nej (by decide)).trans ((sI_nej (by decide)).trans ((sI_nej (by decide)).trans ((sI_nej (by decide)).trans ((sI_nej (by decide)).trans ((f22.i _ _ (by decide)).trans ((sI_ne (by decide)).trans ((g20.i _ _ (by decide)).trans ((g17.i _ _ (by decide)).trans (q12_16)))))))))) ((sI_nej (by decide)).trans ((sI_nej (by decide)).trans ((sI_nej (by decide)).trans ((sI_nej (by decide)).trans ((sI_nej (by decide)).trans ((f22.i _ _ (by decide)).trans ((sI_ne (by decide)).trans ((g20.i _ _ (by decide)).trans ((g17.i _ _ (by decide)).trans (q12_19)))))))))) (li_2) (rfl) (by omega)) fun v Ma158 h158 => ?_
              obtain ⟨rv157, sz157, sn157, uc157, rfl, g158, e158_sz157, e158_sn157, e158_uc157, e158_k0, e158_k1, e158_k2, e158_k3, p158_0, p158_1, p158_2, p158_3⟩ := h158
              have f158 : Fr W_cp Mc Ma158 := Fr.t (Fr.sI (by decide) (Fr.sI (by decide) (Fr.sI (by decide) (Fr.sI (by decide) (Fr.sI (by decide) ff22))))) (Fr.m g158 (by decide))
              refine rsl (cI_e rfl) ?_
              refine rsl (vC_e (ck_65 (hC.fr f158))) ?_
              refine RlV (y75 (by omega) (hC.fr f158) (hTk.fr (WL := W_cp) f158 (by decide)) (e158_k3) (e158_k0) (e158_k1) (e158_k2) (e158_sz157) (e158_sn157) (e158_uc157)  (by omega)) fun v Ma160 h160 => ?_
              obtain ⟨sz159, sn159, uc159, g160, e160_sz159, e160_sn159, e160_uc159, e160_k0, e160_k1, e160_k2, e160_k3, p160_0, p160_1, p160_2⟩ := h160
              have f160 : Fr W_cp Mc Ma160 := Fr.t f158 (Fr.m g160 (by decide))
              refine rsl (cV_e rfl) ?_
              refine rsl (vC_e (ck_65 (hC.fr f160))) ?_
              refine RlV (y89 (by omega) (hC.fr f160) (hTk.fr (WL := W_cp) f160 (by decide)) (e160_k3) (e160_k0) (e160_k1) (e160_k2) (e160_sz159) (e160_sn159) (e160_uc159) (hv0) (by omega)) fun v Ma162 h162 => ?_
              obtain ⟨sz161, sn161, uc161, g162, e162_sz161, e162_sn161, e162_uc161, e162_k0, e162_k1, e162_k2, e162_k3, p162_0, p162_1, p162_2⟩ := h162
              have f162 : Fr W_cp Mc Ma162 := Fr.t f160 (Fr.m g162 (by decide))
              refine rsl (cV_e rfl) ?_
              refine rsl (ptI_q (z := s) (ck_65 (hC.fr f162)) (rfl)) ?_
              refine rsl (gtP_q (w := some 73) (ck_65 (hC.fr f162).sI) (cf_65_6 (hC.fr f162).sI)) ?_
              refine rsl (gtI_q (w := iI sz161) (ck_65 (hC.fr f162).sI) ((sI_nej (by decide)).trans (e162_sz161))) ?_
              refine rsl (asI_q (n := 4096) (z := (e12 + 1)) (y := sz161) (ck_73 (hC.fr f162).sI) (congrArg iI p20_0) (by omega) (rfl)) ?_
              refine rsr (vC_e (rk_160 (hR.fr FR12))) ?_
              refine RrI (a196q (by omega) (hR.fr FR12) (w12_43) ((FR12.i _ _ (by decide)).trans h49) ((FR12.i _ _ (by decide)).trans h48) (li_27) (li_0) (q := (e12 + 1)) (by omega) (by omega)) fun v Ma164 h164 => ?_
              obtain ⟨r163, rfl, g164, e164_k0, p164_0, p164_1⟩ := h164
              have f164 : Fr W_rx Mr Ma164 := Fr.t FR12 (Fr.m g164 (by decide))
              refine rsr (cI_e rfl) ?_
              refine rsr (vC_e (rk_160 (hR.fr f164))) ?_
              refine RrI (a196q (by omega) (hR.fr f164) (e164_k0) ((g164.i _ _ (by decide)).trans ((FR12.i _ _ (by decide)).trans h49)) ((g164.i _ _ (by decide)).trans ((FR12.i _ _ (by decide)).trans h48)) (li_25) (li_0) (q := (e12 + 2)) (by omega) (by omega)) fun v Ma166 h166 => ?_
              obtain ⟨r165, rfl, g166, e166_k0, p166_0, p166_1⟩ := h166
              have f166 : Fr W_rx Mr Ma166 := Fr.t f164 (Fr.m g166 (by decide))
              refine rsr (cI_e rfl) ?_
              refine rsr (gtP_q (w := some 196) (rk_160 (hR.fr f166)) (rf_45 (hR.fr f166))) ?_
              refine rsr (gtI_q (w := iI (e12 + 2)) (rk_160 (hR.fr f166)) (e166_k0)) ?_
              refine rsr (asI_q (n := 4000) (z := e) (y := (e12 + 2)) (rk_196 (hR.fr f166)) (congrArg iI p10_0) (by omega) (rfl)) ?_
              refine rsr (vC_e (rk_160 (hR.fr f166).sI)) ?_
              refine RrI (a195_424 (by omega) hS (hR.fr f166).sI (hT.fr (W := W_rx) (Fr.sI (inW_c (by decide) _) f166) (by decide) (by decide)) (fun i a b => (Fr.lc (W := W_rx) (Fr.sI (inW_c (by decide) _) f166) _ (by decide) _).trans (hW i a b)) ((sI_ne (by decide)).trans ((g166.i _ _ (by decide)).trans ((g164.i _ _ (by decide)).trans (w12_36)))) ((sI_ne (by decide)).trans ((g166.i _ _ (by decide)).trans ((g164.i _ _ (by decide)).trans (w12_37)))) ((sI_ne (by decide)).trans ((g166.i _ _ (by decide)).trans ((g164.i _ _ (by decide)).trans (w12_38)))) ((sI_ne (by decide)).trans ((g166.i _ _ (by decide)).trans ((g164.i _ _ (by decide)).trans (w12_41)))) (li_424) (i2 := (i12 + 1)) (by omega) (by omega)) fun v Ma168 h168 => ?_
              obtain ⟨r167, rfl, g168, e168_k0, e168_k1, e168_k2, p168_0, p168_1⟩ := h168
              have f168 : Fr W_rx Mr Ma168 := Fr.t (Fr.sI (inW_c (by decide) _) f166) (Fr.m g168 (by decide))
              refine rsr (cI_e rfl) ?_
              refine rsr (vC_e (rk_160 (hR.fr f168))) ?_
              refine rsr (cI_e (a198_2 (r := 0) (by omega) hS (hR.fr f168) (e168_k0) (e168_k1) ((g168.i _ _ (by decide)).trans ((sI_ne (by decide)).trans ((g166.i _ _ (by decide)).trans ((g164.i _ _ (by decide)).trans (w12_41))))) p168_1 ((g168.i _ _ (by decide)).trans ((sI_ne (by decide)).trans ((g166.i _ _ (by decide)).trans ((g164.i _ _ (by decide)).trans (w12_51))))) ((((lr12.fr g164 (by decide)).fr g166 (by decide)).fr (W := W_r2) (Fr.sI (inW_c (by decide) _) Fr.r) (by decide)).fr g168 (by decide)) (by omega))) ?_
              refine rsr (jn_v) ?_
              refine rsr (if_pos (eqI_p (rfl) (li_0) (by omega))) ?_
              refine rsr (jv_e) ?_
              exact Rs.ok (Or.inr ⟨2, ((pl (i12 + 1))), (Fr.sI (inW_c (by decide) _) (Fr.sI (by decide) f162)), (Fr.sI (by decide) (Fr.sI (by decide) (Fr.m f168 (by decide)))), ⟨(i12 + 1), sz161, s, uc161, (sI_ne (by decide)).trans ((sI_nej (by decide)).trans (e162_k0)), (sI_ne (by decide)).trans ((sI_nej (by decide)).trans (e162_k1)), (sI_ne (by decide)).trans ((sI_nej (by decide)).trans (e162_k2)), (sI_ne (by decide)).trans ((sI_nej (by decide)).trans (e162_k3)), (sI_ne (by decide)).trans ((sI_nej (by decide)).trans (e162_sz161)), (sI_ne (by decide)).trans (sI_eq), (sI_ne (by decide)).trans ((sI_nej (by decide)).trans (e162_uc161)), by omega⟩, ⟨(e12 + 2), s, u12, mu, ut, (sI_nej (by decide)).trans (sI_eq), sI_eq, (sI_nej (by decide)).trans ((sI_nej (by decide)).trans ((g168.i _ _ (by decide)).trans ((sI_ne (by decide)).trans (e166_k0)))), (sI_nej (by decide)).trans ((sI_nej (by decide)).trans ((g168.i _ _ (by decide)).trans ((sI_ne (by decide)).trans ((g166.i _ _ (by decide)).trans ((g164.i _ _ (by decide)).trans (w12_51)))))), (sI_nej (by decide)).trans ((sI_nej (by decide)).trans ((g168.i _ _ (by decide)).trans ((sI_ne (by decide)).trans ((g166.i _ _ (by decide)).trans ((g164.i _ _ (by decide)).trans (w12_53)))))), (sI_nej (by decide)).trans ((sI_nej (by decide)).trans ((g168.i _ _ (by decide)).trans ((sI_ne (by decide)).trans ((g166.i _ _ (by decide)).trans ((g164.i _ _ (by decide)).trans ((FR12.i _ _ (by decide)).trans h48)))))), (sI_nej (by decide)).trans ((sI_nej (by decide)).trans ((g168.i _ _ (by decide)).trans ((sI_ne (by decide)).trans ((g166.i _ _ (by decide)).trans ((g164.i _ _ (by decide)).trans ((FR12.i _ _ (by decide)).trans h49)))))), by omega⟩⟩)
          · refine rsl (if_neg (lsI_n (rfl) (li_10) (by omega))) ?_
            refine rsl (jv_e) ?_
            refine rsl (vC_e (ck_65 (hC.fr ff22).sI.sI)) ?_
            by_cases c169 : ((kd (i12 + 1))) = 1
            ·
              refine rsl (cL_e (a66_1 (by omega) hS (hC.fr ff22).sI.sI (hTk.fr (WL := W_cp) (Fr.sI (by decide) (Fr.sI (by decide) ff22)) (by decide)) ((sI_nej (by decide)).trans (sI_eq)) (sI_eq) ((sI_nej (by decide)).trans ((sI_nej (by decide)).trans ((f22.i _ _ (by decide)).trans ((sI_ne (by decide)).trans ((g20.i _ _ (by decide)).trans ((g17.i _ _ (by decide)).trans (q12_10))))))) (li_1) (li_1) (by omega))) ?_
              refine rsl (gtI_q (w := iI s) (ck_65 (hC.fr ff22).sI.sI.sI.sI.sI) ((sI_nej (by decide)).trans ((sI_nej (by decide)).trans ((sI_nej (by decide)).trans ((sI_nej (by decide)).trans ((sI_nej (by decide)).trans ((f22.i _ _ (by decide)).trans ((sI_ne (by decide)).trans ((g20.i _ _ (by decide)).trans ((g17.i _ _ (by decide)).trans (q12_16))))))))))) ?_
              refine rsl (vC_e (ck_65 (hC.fr ff22).sI.sI.sI.sI.sI)) ?_
              refine RlI (y87 (by omega) (hC.fr ff22).sI.sI.sI.sI.sI (hTk.fr (WL := W_cp) (Fr.sI (by decide) (Fr.sI (by decide) (Fr.sI (by decide) (Fr.sI (by decide) (Fr.sI (by decide) ff22))))) (by decide)) ((sI_nej (by decide)).trans ((sI_nej (by decide)).trans ((sI_nej (by decide)).trans ((sI_nej (by decide)).trans (sI_eq))))) (sI_eq) ((sI_nej (by decide)).trans ((sI_nej (by decide)).trans (sI_eq))) ((sI_nej (by decide)).trans (sI_eq)) ((sI_nej (by decide)).trans ((sI_nej (by decide)).trans ((sI_nej (by decide)).trans ((sI_nej (by decide)).trans ((sI_nej (by decide)).trans ((f22.i _ _ (by decide)).trans ((sI_ne (by decide)).trans (e20_k0)))))))) ((sI_nej (by decide)).trans ((sI_nej (by decide)).trans ((sI_nej (by decide)).trans ((sI_nej (by decide)).trans ((sI_nej (by decide)).trans ((f22.i _ _ (by decide)).trans ((sI_ne (by decide)).trans ((g20.i _ _ (by decide)).trans ((g17.i _ _ (by decide)).trans (q12_16)))))))))) ((sI_nej (by decide)).trans ((sI_nej (by decide)).trans ((sI_nej (by decide)).trans ((sI_nej (by decide)).trans ((sI_nej (by decide)).trans ((f22.i _ _ (by decide)).trans ((sI_ne (by decide)).trans ((g20.i _ _ (by decide)).trans ((g17.i _ _ (by decide)).trans (q12_19)))))))))) (li_2) (rfl) (by omega)) fun v Ma171 h171 => ?_
              obtain ⟨rv170, sz170, sn170, uc170, rfl, g171, e171_sz170, e171_sn170, e171_uc170, e171_k0, e171_k1, e171_k2, e171_k3, p171_0, p171_1, p171_2, p171_3⟩ := h171
              have f171 : Fr W_cp Mc Ma171 := Fr.t (Fr.sI (by decide) (Fr.sI (by decide) (Fr.sI (by decide) (Fr.sI (by decide) (Fr.sI (by decide) ff22))))) (Fr.m g171 (by decide))
              refine rsl (cI_e rfl) ?_
              refine rsl (vC_e (ck_65 (hC.fr f171))) ?_
              refine RlV (y75 (by omega) (hC.fr f171) (hTk.fr (WL := W_cp) f171 (by decide)) (e171_k3) (e171_k0) (e171_k1) (e171_k2) (e171_sz170) (e171_sn170) (e171_uc170)  (by omega)) fun v Ma173 h173 => ?_
              obtain ⟨sz172, sn172, uc172, g173, e173_sz172, e173_sn172, e173_uc172, e173_k0, e173_k1, e173_k2, e173_k3, p173_0, p173_1, p173_2⟩ := h173
              have f173 : Fr W_cp Mc Ma173 := Fr.t f171 (Fr.m g173 (by decide))
              refine rsl (cV_e rfl) ?_
              refine rsl (vC_e (ck_65 (hC.fr f173))) ?_
              refine RlV (y89 (by omega) (hC.fr f173) (hTk.fr (WL := W_cp) f173 (by decide)) (e173_k3) (e173_k0) (e173_k1) (e173_k2) (e173_sz172) (e173_sn172) (e173_uc172) (hv0) (by omega)) fun v Ma175 h175 => ?_
              obtain ⟨sz174, sn174, uc174, g175, e175_sz174, e175_sn174, e175_uc174, e175_k0, e175_k1, e175_k2, e175_k3, p175_0, p175_1, p175_2⟩ := h175
              have f175 : Fr W_cp Mc Ma175 := Fr.t f173 (Fr.m g175 (by decide))
              refine rsl (cV_e rfl) ?_
              refine rsl (ptI_q (z := s) (ck_65 (hC.fr f175)) (rfl)) ?_
              refine rsl (gtP_q (w := some 73) (ck_65 (hC.fr f175).sI) (cf_65_6 (hC.fr f175).sI)) ?_
              refine rsl (gtI_q (w := iI sz174) (ck_65 (hC.fr f175).sI) ((sI_nej (by decide)).trans (e175_sz174))) ?_
              refine rsl (asI_q (n := 4096) (z := (e12 + 1)) (y := sz174) (ck_73 (hC.fr f175).sI) (congrArg iI p20_0) (by omega) (rfl)) ?_
              refine rsr (vC_e (rk_160 (hR.fr FR12))) ?_
              refine RrI (a196q (by omega) (hR.fr FR12) (w12_43) ((FR12.i _ _ (by decide)).trans h49) ((FR12.i _ _ (by decide)).trans h48) (li_27) (li_0) (q := (e12 + 1)) (by omega) (by omega)) fun v Ma177 h177 => ?_
              obtain ⟨r176, rfl, g177, e177_k0, p177_0, p177_1⟩ := h177
              have f177 : Fr W_rx Mr Ma177 := Fr.t FR12 (Fr.m g177 (by decide))
              refine rsr (cI_e rfl) ?_
              refine rsr (vC_e (rk_160 (hR.fr f177))) ?_
              refine RrI (a196q (by omega) (hR.fr f177) (e177_k0) ((g177.i _ _ (by decide)).trans ((FR12.i _ _ (by decide)).trans h49)) ((g177.i _ _ (by decide)).trans ((FR12.i _ _ (by decide)).trans h48)) (li_25) (li_0) (q := (e12 + 2)) (by omega) (by omega)) fun v Ma179 h179 => ?_
              obtain ⟨r178, rfl, g179, e179_k0, p179_0, p179_1⟩ := h179
              have f179 : Fr W_rx Mr Ma179 := Fr.t f177 (Fr.m g179 (by decide))
              refine rsr (cI_e rfl) ?_
              refine rsr (gtP_q (w := some 196) (rk_160 (hR.fr f179)) (rf_45 (hR.fr f179))) ?_
              refine rsr (gtI_q (w := iI (e12 + 2)) (rk_160 (hR.fr f179)) (e179_k0)) ?_
              refine rsr (asI_q (n := 4000) (z := e) (y := (e12 + 2)) (rk_196 (hR.fr f179)) (congrArg iI p10_0) (by omega) (rfl)) ?_
              refine rsr (vC_e (rk_160 (hR.fr f179).sI)) ?_
              refine RrI (a195_424 (by omega) hS (hR.fr f179).sI (hT.fr (W := W_rx) (Fr.sI (inW_c (by decide) _) f179) (by decide) (by decide)) (fun i a b => (Fr.lc (W := W_rx) (Fr.sI (inW_c (by decide) _) f179) _ (by decide) _).trans (hW i a b)) ((sI_ne (by decide)).trans ((g179.i _ _ (by decide)).trans ((g177.i _ _ (by decide)).trans (w12_36)))) ((sI_ne (by decide)).trans ((g179.i _ _ (by decide)).trans ((g177.i _ _ (by decide)).trans (w12_37)))) ((sI_ne (by decide)).trans ((g179.i _ _ (by decide)).trans ((g177.i _ _ (by decide)).trans (w12_38)))) ((sI_ne (by decide)).trans ((g179.i _ _ (by decide)).trans ((g177.i _ _ (by decide)).trans (w12_41)))) (li_424) (i2 := (i12 + 1)) (by omega) (by omega)) fun v Ma181 h181 => ?_
              obtain ⟨r180, rfl, g181, e181_k0, e181_k1, e181_k2, p181_0, p181_1⟩ := h181
              have f181 : Fr W_rx Mr Ma181 := Fr.t (Fr.sI (inW_c (by decide) _) f179) (Fr.m g181 (by decide))
              refine rsr (cI_e rfl) ?_
              refine rsr (vC_e (rk_160 (hR.fr f181))) ?_
              refine rsr (cI_e (a198_1 (r := 0) (by omega) hS (hR.fr f181) (e181_k0) (e181_k1) ((g181.i _ _ (by decide)).trans ((sI_ne (by decide)).trans ((g179.i _ _ (by decide)).trans ((g177.i _ _ (by decide)).trans (w12_41))))) p181_1 ((g181.i _ _ (by decide)).trans ((sI_ne (by decide)).trans ((g179.i _ _ (by decide)).trans ((g177.i _ _ (by decide)).trans (w12_51))))) ((((lr12.fr g177 (by decide)).fr g179 (by decide)).fr (W := W_r2) (Fr.sI (inW_c (by decide) _) Fr.r) (by decide)).fr g181 (by decide)) (by omega))) ?_
              refine rsr (jn_v) ?_
              refine rsr (if_pos (eqI_p (rfl) (li_0) (by omega))) ?_
              refine rsr (jv_e) ?_
              exact Rs.ok (Or.inr ⟨1, ((pl (i12 + 1))), (Fr.sI (inW_c (by decide) _) (Fr.sI (by decide) f175)), (Fr.sI (by decide) (Fr.sI (by decide) (Fr.m f181 (by decide)))), ⟨(i12 + 1), sz174, s, uc174, (sI_ne (by decide)).trans ((sI_nej (by decide)).trans (e175_k0)), (sI_ne (by decide)).trans ((sI_nej (by decide)).trans (e175_k1)), (sI_ne (by decide)).trans ((sI_nej (by decide)).trans (e175_k2)), (sI_ne (by decide)).trans ((sI_nej (by decide)).trans (e175_k3)), (sI_ne (by decide)).trans ((sI_nej (by decide)).trans (e175_sz174)), (sI_ne (by decide)).trans (sI_eq), (sI_ne (by decide)).trans ((sI_nej (by decide)).trans (e175_uc174)), by omega⟩, ⟨(e12 + 2), s, u12, mu, ut, (sI_nej (by decide)).trans (sI_eq), sI_eq, (sI_nej (by decide)).trans ((sI_nej (by decide)).trans ((g181.i _ _ (by decide)).trans ((sI_ne (by decide)).trans (e179_k0)))), (sI_nej (by decide)).trans ((sI_nej (by decide)).trans ((g181.i _ _ (by decide)).trans ((sI_ne (by decide)).trans ((g179.i _ _ (by decide)).trans ((g177.i _ _ (by decide)).trans (w12_51)))))), (sI_nej (by decide)).trans ((sI_nej (by decide)).trans ((g181.i _ _ (by decide)).trans ((sI_ne (by decide)).trans ((g179.i _ _ (by decide)).trans ((g177.i _ _ (by decide)).trans (w12_53)))))), (sI_nej (by decide)).trans ((sI_nej (by decide)).trans ((g181.i _ _ (by decide)).trans ((sI_ne (by decide)).trans ((g179.i _ _ (by decide)).trans ((g177.i _ _ (by decide)).trans ((FR12.i _ _ (by decide)).trans h48)))))), (sI_nej (by decide)).trans ((sI_nej (by decide)).trans ((g181.i _ _ (by decide)).trans ((sI_ne (by decide)).trans ((g179.i _ _ (by decide)).trans ((g177.i _ _ (by decide)).trans ((FR12.i _ _ (by decide)).trans h49)))))), by omega⟩⟩)
            ·
              refine rsl (cL_e (a66_2 (by omega) hS (hC.fr ff22).sI.sI (hTk.fr (WL := W_cp) (Fr.sI (by decide) (Fr.sI (by decide) ff22)) (by decide)) ((sI_nej (by decide)).trans (sI_eq)) (sI_eq) ((sI_nej (by decide)).trans ((sI_nej (by decide)).trans ((f22.i _ _ (by decide)).trans ((sI_ne (by decide)).trans ((g20.i _ _ (by decide)).trans ((g17.i _ _ (by decide)).trans (q12_10))))))) (li_1) (li_1) (by omega))) ?_
              refine rsl (gtI_q (w := iI s) (ck_65 (hC.fr ff22).sI.sI.sI.sI.sI) ((sI_nej (by decide)).trans ((sI_nej (by decide)).trans ((sI_nej (by decide)).trans ((sI_nej (by decide)).trans ((sI_nej (by decide)).trans ((f22.i _ _ (by decide)).trans ((sI_ne (by decide)).trans ((g20.i _ _ (by decide)).trans ((g17.i _ _ (by decide)).trans (q12_16))))))))))) ?_
              refine rsl (vC_e (ck_65 (hC.fr ff22).sI.sI.sI.sI.sI)) ?_
              refine RlI (y87 (by omega) (hC.fr ff22).sI.sI.sI.sI.sI (hTk.fr (WL := W_cp) (Fr.sI (by decide) (Fr.sI (by decide) (Fr.sI (by decide) (Fr.sI (by decide) (Fr.sI (by decide) ff22))))) (by decide)) ((sI_nej (by decide)).trans ((sI_nej (by decide)).trans ((sI_nej (by decide)).trans ((sI_nej (by decide)).trans (sI_eq))))) (sI_eq) ((sI_nej (by decide)).trans ((sI_nej (by decide)).trans (sI_eq))) ((sI_nej (by decide)).trans (sI_eq)) ((sI_nej (by decide)).trans ((sI_nej (by decide)).trans ((sI_nej (by decide)).trans ((sI_nej (by decide)).trans ((sI_nej (by decide)).trans ((f22.i _ _ (by decide)).trans ((sI_ne (by decide)).trans (e20_k0)))))))) ((sI_nej (by decide)).trans ((sI_nej (by decide)).trans ((sI_nej (by decide)).trans ((sI_nej (by decide)).trans ((sI_nej (by decide)).trans ((f22.i _ _ (by decide)).trans ((sI_ne (by decide)).trans ((g20.i _ _ (by decide)).trans ((g17.i _ _ (by decide)).trans (q12_16)))))))))) ((sI_nej (by decide)).trans ((sI_nej (by decide)).trans ((sI_nej (by decide)).trans ((sI_nej (by decide)).trans ((sI_nej (by decide)).trans ((f22.i _ _ (by decide)).trans ((sI_ne (by decide)).trans ((g20.i _ _ (by decide)).trans ((g17.i _ _ (by decide)).trans (q12_19)))))))))) (li_2) (rfl) (by omega)) fun v Ma183 h183 => ?_
              obtain ⟨rv182, sz182, sn182, uc182, rfl, g183, e183_sz182, e183_sn182, e183_uc182, e183_k0, e183_k1, e183_k2, e183_k3, p183_0, p183_1, p183_2, p183_3⟩ := h183
              have f183 : Fr W_cp Mc Ma183 := Fr.t (Fr.sI (by decide) (Fr.sI (by decide) (Fr.sI (by decide) (Fr.sI (by decide) (Fr.sI (by decide) ff22))))) (Fr.m g183 (by decide))
              refine rsl (cI_e rfl) ?_
              refine rsl (vC_e (ck_65 (hC.fr f183))) ?_
              refine RlV (y75 (by omega) (hC.fr f183) (hTk.fr (WL := W_cp) f183 (by decide)) (e183_k3) (e183_k0) (e183_k1) (e183_k2) (e183_sz182) (e183_sn182) (e183_uc182)  (by omega)) fun v Ma185 h185 => ?_
              obtain ⟨sz184, sn184, uc184, g185, e185_sz184, e185_sn184, e185_uc184, e185_k0, e185_k1, e185_k2, e185_k3, p185_0, p185_1, p185_2⟩ := h185
              have f185 : Fr W_cp Mc Ma185 := Fr.t f183 (Fr.m g185 (by decide))
              refine rsl (cV_e rfl) ?_
              refine rsl (vC_e (ck_65 (hC.fr f185))) ?_
              refine RlV (y89 (by omega) (hC.fr f185) (hTk.fr (WL := W_cp) f185 (by decide)) (e185_k3) (e185_k0) (e185_k1) (e185_k2) (e185_sz184) (e185_sn184) (e185_uc184) (hv0) (by omega)) fun v Ma187 h187 => ?_
              obtain ⟨sz186, sn186, uc186, g187, e187_sz186, e187_sn186, e187_uc186, e187_k0, e187_k1, e187_k2, e187_k3, p187_0, p187_1, p187_2⟩ := h187
              have f187 : Fr W_cp Mc Ma187 := Fr.t f185 (Fr.m g187 (by decide))
              refine rsl (cV_e rfl) ?_
              refine rsl (ptI_q (z := s) (ck_65 (hC.fr f187)) (rfl)) ?_
              refine rsl (gtP_q (w := some 73) (ck_65 (hC.fr f187).sI) (cf_65_6 (hC.fr f187).sI)) ?_
              refine rsl (gtI_q (w := iI sz186) (ck_65 (hC.fr f187).sI) ((sI_nej (by decide)).trans (e187_sz186))) ?_
              refine rsl (asI_q (n := 4096) (z := (e12 + 1)) (y := sz186) (ck_73 (hC.fr f187).sI) (congrArg iI p20_0) (by omega) (rfl)) ?_
              refine rsr (vC_e (rk_160 (hR.fr FR12))) ?_
              refine RrI (a196q (by omega) (hR.fr FR12) (w12_43) ((FR12.i _ _ (by decide)).trans h49) ((FR12.i _ _ (by decide)).trans h48) (li_27) (li_0) (q := (e12 + 1)) (by omega) (by omega)) fun v Ma189 h189 => ?_
              obtain ⟨r188, rfl, g189, e189_k0, p189_0, p189_1⟩ := h189
              have f189 : Fr W_rx Mr Ma189 := Fr.t FR12 (Fr.m g189 (by decide))
              refine rsr (cI_e rfl) ?_
              refine rsr (vC_e (rk_160 (hR.fr f189))) ?_
              refine RrI (a196q (by omega) (hR.fr f189) (e189_k0) ((g189.i _ _ (by decide)).trans ((FR12.i _ _ (by decide)).trans h49)) ((g189.i _ _ (by decide)).trans ((FR12.i _ _ (by decide)).trans h48)) (li_25) (li_0) (q := (e12 + 2)) (by omega) (by omega)) fun v Ma191 h191 => ?_
              obtain ⟨r190, rfl, g191, e191_k0, p191_0, p191_1⟩ := h191
              have f191 : Fr W_rx Mr Ma191 := Fr.t f189 (Fr.m g191 (by decide))
              refine rsr (cI_e rfl) ?_
              refine rsr (gtP_q (w := some 196) (rk_160 (hR.fr f191)) (rf_45 (hR.fr f191))) ?_
              refine rsr (gtI_q (w := iI (e12 + 2)) (rk_160 (hR.fr f191)) (e191_k0)) ?_
              refine rsr (asI_q (n := 4000) (z := e) (y := (e12 + 2)) (rk_196 (hR.fr f191)) (congrArg iI p10_0) (by omega) (rfl)) ?_
              refine rsr (vC_e (rk_160 (hR.fr f191).sI)) ?_
              refine RrI (a195_424 (by omega) hS (hR.fr f191).sI (hT.fr (W := W_rx) (Fr.sI (inW_c (by decide) _) f191) (by decide) (by decide)) (fun i a b => (Fr.lc (W := W_rx) (Fr.sI (inW_c (by decide) _) f191) _ (by decide) _).trans (hW i a b)) ((sI_ne (by decide)).trans ((g191.i _ _ (by decide)).trans ((g189.i _ _ (by decide)).trans (w12_36)))) ((sI_ne (by decide)).trans ((g191.i _ _ (by decide)).trans ((g189.i _ _ (by decide)).trans (w12_37)))) ((sI_ne (by decide)).trans ((g191.i _ _ (by decide)).trans ((g189.i _ _ (by decide)).trans (w12_38)))) ((sI_ne (by decide)).trans ((g191.i _ _ (by decide)).trans ((g189.i _ _ (by decide)).trans (w12_41)))) (li_424) (i2 := (i12 + 1)) (by omega) (by omega)) fun v Ma193 h193 => ?_
              obtain ⟨r192, rfl, g193, e193_k0, e193_k1, e193_k2, p193_0, p193_1⟩ := h193
              have f193 : Fr W_rx Mr Ma193 := Fr.t (Fr.sI (inW_c (by decide) _) f191) (Fr.m g193 (by decide))
              refine rsr (cI_e rfl) ?_
              refine rsr (vC_e (rk_160 (hR.fr f193))) ?_
              refine rsr (cI_e (a198_2 (r := 0) (by omega) hS (hR.fr f193) (e193_k0) (e193_k1) ((g193.i _ _ (by decide)).trans ((sI_ne (by decide)).trans ((g191.i _ _ (by decide)).trans ((g189.i _ _ (by decide)).trans (w12_41))))) p193_1 ((g193.i _ _ (by decide)).trans ((sI_ne (by decide)).trans ((g191.i _ _ (by decide)).trans ((g189.i _ _ (by decide)).trans (w12_51))))) ((((lr12.fr g189 (by decide)).fr g191 (by decide)).fr (W := W_r2) (Fr.sI (inW_c (by decide) _) Fr.r) (by decide)).fr g193 (by decide)) (by omega))) ?_
              refine rsr (jn_v) ?_
              refine rsr (if_pos (eqI_p (rfl) (li_0) (by omega))) ?_
              refine rsr (jv_e) ?_
              exact Rs.ok (Or.inr ⟨2, ((pl (i12 + 1))), (Fr.sI (inW_c (by decide) _) (Fr.sI (by decide) f187)), (Fr.sI (by decide) (Fr.sI (by decide) (Fr.m f193 (by decide)))), ⟨(i12 + 1), sz186, s, uc186, (sI_ne (by decide)).trans ((sI_nej (by decide)).trans (e187_k0)), (sI_ne (by decide)).trans ((sI_nej (by decide)).trans (e187_k1)), (sI_ne (by decide)).trans ((sI_nej (by decide)).trans (e187_k2)), (sI_ne (by decide)).trans ((sI_nej (by decide)).trans (e187_k3)), (sI_ne (by decide)).trans ((sI_nej (by decide)).trans (e187_sz186)), (sI_ne (by decide)).trans (sI_eq), (sI_ne (by decide)).trans ((sI_nej (by decide)).trans (e187_uc186)), by omega⟩, ⟨(e12 + 2), s, u12, mu, ut, (sI_nej (by decide)).trans (sI_eq), sI_eq, (sI_nej (by decide)).trans ((sI_nej (by decide)).trans ((g193.i _ _ (by decide)).trans ((sI_ne (by decide)).trans (e191_k0)))), (sI_nej (by decide)).trans ((sI_nej (by decide)).trans ((g193.i _ _ (by decide)).trans ((sI_ne (by decide)).trans ((g191.i _ _ (by decide)).trans ((g189.i _ _ (by decide)).trans (w12_51)))))), (sI_nej (by decide)).trans ((sI_nej (by decide)).trans ((g193.i _ _ (by decide)).trans ((sI_ne (by decide)).trans ((g191.i _ _ (by decide)).trans ((g189.i _ _ (by decide)).trans (w12_53)))))), (sI_nej (by decide)).trans ((sI_nej (by decide)).trans ((g193.i _ _ (by decide)).trans ((sI_ne (by decide)).trans ((g191.i _ _ (by decide)).trans ((g189.i _ _ (by decide)).trans ((FR12.i _ _ (by decide)).trans h48)))))), (sI_nej (by decide)).trans ((sI_nej (by decide)).trans ((g193.i _ _ (by decide)).trans ((sI_ne (by decide)).trans ((g191.i _ _ (by decide)).trans ((g189.i _ _ (by decide)).trans ((FR12.i _ _ (by decide)).trans h49)))))), by omega⟩⟩)
    ·
      by_cases c194 : ((kd i12)) = 1
      ·
        refine rsl (cV_e (a64_1 (by omega) hS (hC.fr ff22) (hTk.fr (WL := W_cp) ff22 (by decide)) ((f22.i _ _ (by decide)).trans ((sI_ne (by decide)).trans ((g20.i _ _ (by decide)).trans ((g17.i _ _ (by decide)).trans (q12_12))))) ((f22.i _ _ (by decide)).trans ((sI_ne (by decide)).trans ((g20.i _ _ (by decide)).trans ((g17.i _ _ (by decide)).trans (q12_13))))) ((f22.i _ _ (by decide)).trans ((sI_ne (by decide)).trans ((g20.i _ _ (by decide)).trans ((g17.i _ _ (by decide)).trans (q12_10))))) (li_223) (by omega))) ?_
        refine rsl (gtI_q (w := iI s) (ck_65 (hC.fr ff22).sI.sI.sI) ((sI_nej (by decide)).trans ((sI_nej (by decide)).trans ((sI_nej (by decide)).trans ((f22.i _ _ (by decide)).trans ((sI_ne (by decide)).trans ((g20.i _ _ (by decide)).trans ((g17.i _ _ (by decide)).trans (q12_16))))))))) ?_
        refine rsl (vC_e (ck_65 (hC.fr ff22).sI.sI.sI)) ?_
        refine RlL (y65 (by omega) (hC.fr ff22).sI.sI.sI (hTk.fr (WL := W_cp) (Fr.sI (by decide) (Fr.sI (by decide) (Fr.sI (by decide) ff22))) (by decide)) ((sI_nej (by decide)).trans ((sI_nej (by decide)).trans ((sI_nej (by decide)).trans ((f22.i _ _ (by decide)).trans ((sI_ne (by decide)).trans ((g20.i _ _ (by decide)).trans ((g17.i _ _ (by decide)).trans (q12_12)))))))) (sI_eq) ((sI_nej (by decide)).trans ((sI_nej (by decide)).trans (sI_eq))) ((sI_nej (by decide)).trans (sI_eq)) ((sI_nej (by decide)).trans ((sI_nej (by decide)).trans ((sI_nej (by decide)).trans ((f22.i _ _ (by decide)).trans ((sI_ne (by decide)).trans (e20_k0)))))) ((sI_nej (by decide)).trans ((sI_nej (by decide)).trans ((sI_nej (by decide)).trans ((f22.i _ _ (by decide)).trans ((sI_ne (by decide)).trans ((g20.i _ _ (by decide)).trans ((g17.i _ _ (by decide)).trans (q12_16)))))))) ((sI_nej (by decide)).trans ((sI_nej (by decide)).trans ((sI_nej (by decide)).trans ((f22.i _ _ (by decide)).trans ((sI_ne (by decide)).trans ((g20.i _ _ (by decide)).trans ((g17.i _ _ (by decide)).trans (q12_19))))))))  (by omega)) fun v Ma196 h196 => ?_
        obtain ⟨rv195, sz195, sn195, uc195, rfl, g196, e196_sz195, e196_sn195, e196_uc195, e196_k0, e196_k1, e196_k2, e196_k3, p196_0, p196_1, p196_2⟩ := h196
        have f196 : Fr W_cp Mc Ma196 := Fr.t (Fr.sI (by decide) (Fr.sI (by decide) (Fr.sI (by decide) ff22))) (Fr.m g196 (by decide))
        refine rsl (cL_e rfl) ?_
        refine rsl (vC_e (ck_65 (hC.fr f196))) ?_
        refine RlI (y74 (by omega) (hC.fr f196) (hTk.fr (WL := W_cp) f196 (by decide)) (e196_k3) (e196_k0) (e196_k1) (e196_k2) (e196_sz195) (e196_sn195) (e196_uc195)  (by omega)) fun v Ma198 h198 => ?_
        obtain ⟨rv197, sz197, sn197, uc197, rfl, g198, e198_sz197, e198_sn197, e198_uc197, e198_k0, e198_k1, e198_k2, e198_k3, p198_0, p198_1, p198_2, p198_3⟩ := h198
        have f198 : Fr W_cp Mc Ma198 := Fr.t f196 (Fr.m g198 (by decide))
        refine rsl (cI_e rfl) ?_
        refine rsl (jn_v) ?_
        by_cases c199 : rv197 < 0
        · refine rsl (if_pos (lsI_p (rfl) (li_0) (by omega))) ?_
          refine rsl (jv_e) ?_
          refine rsl (gtI_q (w := iI sn197) (ck_65 (hC.fr f198)) (e198_sn197)) ?_
          refine rsl (jn_v) ?_
          by_cases c200 : sn197 < 10
          · refine rsl (if_pos (lsI_p (rfl) (li_10) (by omega))) ?_
            refine rsl (jv_e) ?_
            refine rsl (vC_e (ck_65 (hC.fr f198))) ?_
            refine RlL (y66 (by omega) (hC.fr f198) (hTk.fr (WL := W_cp) f198 (by decide)) (e198_k3) (e198_k0) (e198_k1) (e198_k2) (e198_sz197) (e198_sn197) (e198_uc197) (li_0) (li_0) (by omega)) fun v Ma202 h202 => ?_
            obtain ⟨rv201, sz201, sn201, uc201, rfl, g202, e202_sz201, e202_sn201, e202_uc201, e202_k0, e202_k1, e202_k2, e202_k3, p202_0, p202_1, p202_2⟩ := h202
            have f202 : Fr W_cp Mc Ma202 := Fr.t f198 (Fr.m g202 (by decide))
            refine rsl (cL_e rfl) ?_
            refine rsl (gtI_q (w := iI sn201) (ck_65 (hC.fr f202)) (e202_sn201)) ?_
            refine rsl (vC_e (ck_65 (hC.fr f202))) ?_
            refine RlI (y87 (by omega) (hC.fr f202) (hTk.fr (WL := W_cp) f202 (by decide)) (e202_k3) (e202_k0) (e202_k1) (e202_k2) (e202_sz201) (e202_sn201) (e202_uc201) (li_2) (rfl) (by omega)) fun v Ma204 h204 => ?_
            obtain ⟨rv203, sz203, sn203, uc203, rfl, g204, e204_sz203, e204_sn203, e204_uc203, e204_k0, e204_k1, e204_k2, e204_k3, p204_0, p204_1, p204_2, p204_3⟩ := h204
            have f204 : Fr W_cp Mc Ma204 := Fr.t f202 (Fr.m g204 (by decide))
            refine rsl (cI_e rfl) ?_
            refine rsl (vC_e (ck_65 (hC.fr f204))) ?_
            refine RlV (y75 (by omega) (hC.fr f204) (hTk.fr (WL := W_cp) f204 (by decide)) (e204_k3) (e204_k0) (e204_k1) (e204_k2) (e204_sz203) (e204_sn203) (e204_uc203)  (by omega)) fun v Ma206 h206 => ?_
            obtain ⟨sz205, sn205, uc205, g206, e206_sz205, e206_sn205, e206_uc205, e206_k0, e206_k1, e206_k2, e206_k3, p206_0, p206_1, p206_2⟩ := h206
            have f206 : Fr W_cp Mc Ma206 := Fr.t f204 (Fr.m g206 (by decide))
            refine rsl (cV_e rfl) ?_
            refine rsl (vC_e (ck_65 (hC.fr f206))) ?_
            refine RlV (y89 (by omega) (hC.fr f206) (hTk.fr (WL := W_cp) f206 (by decide)) (e206_k3) (e206_k0) (e206_k1) (e206_k2) (e206_sz205) (e206_sn205) (e206_uc205) (hv0) (by omega)) fun v Ma208 h208 => ?_
            obtain ⟨sz207, sn207, uc207, g208, e208_sz207, e208_sn207, e208_uc207, e208_k0, e208_k1, e208_k2, e208_k3, p208_0, p208_1, p208_2⟩ := h208
            have f208 : Fr W_cp Mc Ma208 := Fr.t f206 (Fr.m g208 (by decide))
            refine rsl (cV_e rfl) ?_
            refine rsl (ptI_q (z := s) (ck_65 (hC.fr f208)) (rfl)) ?_
            refine rsl (gtP_q (w := some 73) (ck_65 (hC.fr f208).sI) (cf_65_6 (hC.fr f208).sI)) ?_
            refine rsl (gtI_q (w := iI sz207) (ck_65 (hC.fr f208).sI) ((sI_nej (by decide)).trans (e208_sz207))) ?_
            refine rsl (asI_q (n := 4096) (z := (e12 + 1)) (y := sz207) (ck_73 (hC.fr f208).sI) (congrArg iI p20_0) (by omega) (rfl)) ?_
            refine rsr (vC_e (rk_160 (hR.fr FR12))) ?_
            refine RrI (a196q (by omega) (hR.fr FR12) (w12_43) ((FR12.i _ _ (by decide)).trans h49) ((FR12.i _ _ (by decide)).trans h48) (li_27) (li_0) (q := (e12 + 1)) (by omega) (by omega)) fun v Ma210 h210 => ?_
            obtain ⟨r209, rfl, g210, e210_k0, p210_0, p210_1⟩ := h210
            have f210 : Fr W_rx Mr Ma210 := Fr.t FR12 (Fr.m g210 (by decide))
            refine rsr (cI_e rfl) ?_
            refine rsr (vC_e (rk_160 (hR.fr f210))) ?_
            refine RrI (a196q (by omega) (hR.fr f210) (e210_k0) ((g210.i _ _ (by decide)).trans ((FR12.i _ _ (by decide)).trans h49)) ((g210.i _ _ (by decide)).trans ((FR12.i _ _ (by decide)).trans h48)) (li_25) (li_0) (q := (e12 + 2)) (by omega) (by omega)) fun v Ma212 h212 => ?_
            obtain ⟨r211, rfl, g212, e212_k0, p212_0, p212_1⟩ := h212
            have f212 : Fr W_rx Mr Ma212 := Fr.t f210 (Fr.m g212 (by decide))
            refine rsr (cI_e rfl) ?_
            refine rsr (gtP_q (w := some 196) (rk_160 (hR.fr f212)) (rf_45 (hR.fr f212))) ?_
            refine rsr (gtI_q (w := iI (e12 + 2)) (rk_160 (hR.fr f212)) (e212_k0)) ?_
            refine rsr (asI_q (n := 4000) (z := e) (y := (e12 + 2)) (rk_196 (hR.fr f212)) (congrArg iI p10_0) (by omega) (rfl)) ?_
            refine rsr (vC_e (rk_160 (hR.fr f212).sI)) ?_
            refine rsr (cI_e (a195_424_1 (by omega) hS (hR.fr f212).sI ((sI_ne (by decide)).trans ((g212.i _ _ (by decide)).trans ((g210.i _ _ (by decide)).trans (w12_36)))) ((sI_ne (by decide)).trans ((g212.i _ _ (by decide)).trans ((g210.i _ _ (by decide)).trans (w12_37)))) ((sI_ne (by decide)).trans ((g212.i _ _ (by decide)).trans ((g210.i _ _ (by decide)).trans (w12_41)))) (li_424) (by omega))) ?_
            refine rsr (vC_e (rk_160 (hR.fr f212).sI.sI.sI)) ?_
            refine RrI (x198_s (by omega) (hR.fr f212).sI.sI.sI ((sI_nej (by decide)).trans (sI_eq)) (sI_eq) ((sI_nej (by decide)).trans ((sI_nej (by decide)).trans ((sI_ne (by decide)).trans (e212_k0)))) ((sI_nej (by decide)).trans ((sI_nej (by decide)).trans ((sI_ne (by decide)).trans ((g212.i _ _ (by decide)).trans ((g210.i _ _ (by decide)).trans (w12_51)))))) ((sI_nej (by decide)).trans ((sI_nej (by decide)).trans ((sI_ne (by decide)).trans ((g212.i _ _ (by decide)).trans ((g210.i _ _ (by decide)).trans (w12_53)))))) ((sI_nej (by decide)).trans ((sI_nej (by decide)).trans ((sI_ne (by decide)).trans ((g212.i _ _ (by decide)).trans ((g210.i _ _ (by decide)).trans ((FR12.i _ _ (by decide)).trans h48)))))) ((sI_nej (by decide)).trans ((sI_nej (by decide)).trans ((sI_ne (by decide)).trans ((g212.i _ _ (by decide)).trans ((g210.i _ _ (by decide)).trans ((FR12.i _ _ (by decide)).trans h49))))))  (by omega)) fun v Ma214 h214 => ?_
            obtain ⟨rv213, em213, rfl, g214, e214_em213, e214_k0, e214_k1, e214_k2, e214_k3, e214_k4, p214_0, p214_1⟩ := h214
            have f214 : Fr W_rp Mr Ma214 := Fr.t (Fr.sI (by decide) (Fr.sI (by decide) (Fr.sI (inW_c (by decide) _) (Fr.m f212 (by decide))))) (Fr.m g214 (by decide))
            refine rsr (cI_e rfl) ?_
            refine rsr (jn_v) ?_
            refine rsr (if_pos (eqI_p (rfl) (li_0) (by omega))) ?_
            refine rsr (jv_e) ?_
            exact Rs.ok (Or.inr ⟨1, ((pl i12)), (Fr.sI (inW_c (by decide) _) (Fr.sI (by decide) f208)), f214, ⟨i12, sz207, s, uc207, (sI_ne (by decide)).trans ((sI_nej (by decide)).trans (e208_k0)), (sI_ne (by decide)).trans ((sI_nej (by decide)).trans (e208_k1)), (sI_ne (by decide)).trans ((sI_nej (by decide)).trans (e208_k2)), (sI_ne (by decide)).trans ((sI_nej (by decide)).trans (e208_k3)), (sI_ne (by decide)).trans ((sI_nej (by decide)).trans (e208_sz207)), (sI_ne (by decide)).trans (sI_eq), (sI_ne (by decide)).trans ((sI_nej (by decide)).trans (e208_uc207)), by omega⟩, ⟨em213, s, u12, mu, ut, e214_k0, e214_k1, e214_em213, e214_k2, e214_k3, e214_k4, (g214.i _ _ (by decide)).trans ((sI_nej (by decide)).trans ((sI_nej (by decide)).trans ((sI_ne (by decide)).trans ((g212.i _ _ (by decide)).trans ((g210.i _ _ (by decide)).trans ((FR12.i _ _ (by decide)).trans h49)))))), by omega⟩⟩)
          · refine rsl (if_neg (lsI_n (rfl) (li_10) (by omega))) ?_
            refine rsl (jv_e) ?_
            refine rsl (vC_e (ck_65 (hC.fr f198))) ?_
            refine RlL (y66 (by omega) (hC.fr f198) (hTk.fr (WL := W_cp) f198 (by decide)) (e198_k3) (e198_k0) (e198_k1) (e198_k2) (e198_sz197) (e198_sn197) (e198_uc197) (li_0) (li_1) (by omega)) fun v Ma216 h216 => ?_
            obtain ⟨rv215, sz215, sn215, uc215, rfl, g216, e216_sz215, e216_sn215, e216_uc215, e216_k0, e216_k1, e216_k2, e216_k3, p216_0, p216_1, p216_2⟩ := h216
            have f216 : Fr W_cp Mc Ma216 := Fr.t f198 (Fr.m g216 (by decide))
            refine rsl (cL_e rfl) ?_
            refine rsl (gtI_q (w := iI sn215) (ck_65 (hC.fr f216)) (e216_sn215)) ?_
            refine rsl (vC_e (ck_65 (hC.fr f216))) ?_
            refine RlI (y87 (by omega) (hC.fr f216) (hTk.fr (WL := W_cp) f216 (by decide)) (e216_k3) (e216_k0) (e216_k1) (e216_k2) (e216_sz215) (e216_sn215) (e216_uc215) (li_2) (rfl) (by omega)) fun v Ma218 h218 => ?_
            obtain ⟨rv217, sz217, sn217, uc217, rfl, g218, e218_sz217, e218_sn217, e218_uc217, e218_k0, e218_k1, e218_k2, e218_k3, p218_0, p218_1, p218_2, p218_3⟩ := h218
            have f218 : Fr W_cp Mc Ma218 := Fr.t f216 (Fr.m g218 (by decide))
            refine rsl (cI_e rfl) ?_
            refine rsl (vC_e (ck_65 (hC.fr f218))) ?_
            refine RlV (y75 (by omega) (hC.fr f218) (hTk.fr (WL := W_cp) f218 (by decide)) (e218_k3) (e218_k0) (e218_k1) (e218_k2) (e218_sz217) (e218_sn217) (e218_uc217)  (by omega)) fun v Ma220 h220 => ?_
            obtain ⟨sz219, sn219, uc219, g220, e220_sz219, e220_sn219, e220_uc219, e220_k0, e220_k1, e220_k2, e220_k3, p220_0, p220_1, p220_2⟩ := h220
            have f220 : Fr W_cp Mc Ma220 := Fr.t f218 (Fr.m g220 (by decide))
            refine rsl (cV_e rfl) ?_
            refine rsl (vC_e (ck_65 (hC.fr f220))) ?_
            refine RlV (y89 (by omega) (hC.fr f220) (hTk.fr (WL := W_cp) f220 (by decide)) (e220_k3) (e220_k0) (e220_k1) (e220_k2) (e220_sz219) (e220_sn219) (e220_uc219) (hv0) (by omega)) fun v Ma222 h222 => ?_
            obtain ⟨sz221, sn221, uc221, g222, e222_sz221, e222_sn221, e222_uc221, e222_k0, e222_k1, e222_k2, e222_k3, p222_0, p222_1, p222_2⟩ := h222
            have f222 : Fr W_cp Mc Ma222 := Fr.t f220 (Fr.m g222 (by decide))
            refine rsl (cV_e rfl) ?_
            refine rsl (ptI_q (z := s) (ck_65 (hC.fr f222)) (rfl)) ?_
            refine rsl (gtP_q (w := some 73) (ck_65 (hC.fr f222).sI) (cf_65_6 (hC.fr f222).sI)) ?_
            refine rsl (gtI_q (w := iI sz221) (ck_65 (hC.fr f222).sI) ((sI_nej (by decide)).trans (e222_sz221))) ?_
            refine rsl (asI_q (n := 4096) (z := (e12 + 1)) (y := sz221) (ck_73 (hC.fr f222).sI) (congrArg iI p20_0) (by omega) (rfl)) ?_
            refine rsr (vC_e (rk_160 (hR.fr FR12))) ?_
            refine RrI (a196q (by omega) (hR.fr FR12) (w12_43) ((FR12.i _ _ (by decide)).trans h49) ((FR12.i _ _ (by decide)).trans h48) (li_27) (li_0) (q := (e12 + 1)) (by omega) (by omega)) fun v Ma224 h224 => ?_
            obtain ⟨r223, rfl, g224, e224_k0, p224_0, p224_1⟩ := h224
            have f224 : Fr W_rx Mr Ma224 := Fr.t FR12 (Fr.m g224 (by decide))
            refine rsr (cI_e rfl) ?_
            refine rsr (vC_e (rk_160 (hR.fr f224))) ?_
            refine RrI (a196q (by omega) (hR.fr f224) (e224_k0) ((g224.i _ _ (by decide)).trans ((FR12.i _ _ (by decide)).trans h49)) ((g224.i _ _ (by decide)).trans ((FR12.i _ _ (by decide)).trans h48)) (li_25) (li_0) (q := (e12 + 2)) (by omega) (by omega)) fun v Ma226 h226 => ?_
            obtain ⟨r225, rfl, g226, e226_k0, p226_0, p226_1⟩ := h226
            have f226 : Fr W_rx Mr Ma226 := Fr.t f224 (Fr.m g226 (by decide))
            refine rsr (cI_e rfl) ?_
            refine rsr (gtP_q (w := some 196) (rk_160 (hR.fr f226)) (rf_45 (hR.fr f226))) ?_
            refine rsr (gtI_q (w := iI (e12 + 2)) (rk_160 (hR.fr f226)) (e226_k0)) ?_
            refine rsr (asI_q (n := 4000) (z := e) (y := (e12 + 2)) (rk_196 (hR.fr f226)) (congrArg iI p10_0) (by omega) (rfl)) ?_
            refine rsr (vC_e (rk_160 (hR.fr f226).sI)) ?_
            refine rsr (cI_e (a195_424_1 (by omega) hS (hR.fr f226).sI ((sI_ne (by decide)).trans ((g226.i _ _ (by decide)).trans ((g224.i _ _ (by decide)).trans (w12_36)))) ((sI_ne (by decide)).trans ((g226.i _ _ (by decide)).trans ((g224.i _ _ (by decide)).trans (w12_37)))) ((sI_ne (by decide)).trans ((g226.i _ _ (by decide)).trans ((g224.i _ _ (by decide)).trans (w12_41)))) (li_424) (by omega))) ?_
            refine rsr (vC_e (rk_160 (hR.fr f226).sI.sI.sI)) ?_
            refine RrI (x198_s (by omega) (hR.fr f226).sI.sI.sI ((sI_nej (by decide)).trans (sI_eq)) (sI_eq) ((sI_nej (by decide)).trans ((sI_nej (by decide)).trans ((sI_ne (by decide)).trans (e226_k0)))) ((sI_nej (by decide)).trans ((sI_nej (by decide)).trans ((sI_ne (by decide)).trans ((g226.i _ _ (by decide)).trans ((g224.i _ _ (by decide)).trans (w12_51)))))) ((sI_nej (by decide)).trans ((sI_nej (by decide)).trans ((sI_ne (by decide)).trans ((g226.i _ _ (by decide)).trans ((g224.i _ _ (by decide)).trans (w12_53)))))) ((sI_nej (by decide)).trans ((sI_nej (by decide)).trans ((sI_ne (by decide)).trans ((g226.i _ _ (by decide)).trans ((g224.i _ _ (by decide)).trans ((FR12.i _ _ (by decide)).trans h48)))))) ((sI_nej (by decide)).trans ((sI_nej (by decide)).trans ((sI_ne (by decide)).trans ((g226.i _ _ (by decide)).trans ((g224.i _ _ (by decide)).trans ((FR12.i _ _ (by decide)).trans h49))))))  (by omega)) fun v Ma228 h228 => ?_
            obtain ⟨rv227, em227, rfl, g228, e228_em227, e228_k0, e228_k1, e228_k2, e228_k3, e228_k4, p228_0, p228_1⟩ := h228
            have f228 : Fr W_rp Mr Ma228 := Fr.t (Fr.sI (by decide) (Fr.sI (by decide) (Fr.sI (inW_c (by decide) _) (Fr.m f226 (by decide))))) (Fr.m g228 (by decide))
            refine rsr (cI_e rfl) ?_
            refine rsr (jn_v) ?_
            refine rsr (if_pos (eqI_p (rfl) (li_0) (by omega))) ?_
            refine rsr (jv_e) ?_
            exact Rs.ok (Or.inr ⟨1, ((pl i12)), (Fr.sI (inW_c (by decide) _) (Fr.sI (by decide) f222)), f228, ⟨i12, sz221, s, uc221, (sI_ne (by decide)).trans ((sI_nej (by decide)).trans (e222_k0)), (sI_ne (by decide)).trans ((sI_nej (by decide)).trans (e222_k1)), (sI_ne (by decide)).trans ((sI_nej (by decide)).trans (e222_k2)), (sI_ne (by decide)).trans ((sI_nej (by decide)).trans (e222_k3)), (sI_ne (by decide)).trans ((sI_nej (by decide)).trans (e222_sz221)), (sI_ne (by decide)).trans (sI_eq), (sI_ne (by decide)).trans ((sI_nej (by decide)).trans (e222_uc221)), by omega⟩, ⟨em227, s, u12, mu, ut, e228_k0, e228_k1, e228_em227, e228_k2, e228_k3, e228_k4, (g228.i _ _ (by decide)).trans ((sI_nej (by decide)).trans ((sI_nej (by decide)).trans ((sI_ne (by decide)).trans ((g226.i _ _ (by decide)).trans ((g224.i _ _ (by decide)).trans ((FR12.i _ _ (by decide)).trans h49)))))), by omega⟩⟩)
        · refine rsl (if_neg (lsI_n (rfl) (li_0) (by omega))) ?_
          refine rsl (jv_e) ?_
          refine rsl (gtI_q (w := iI sn197) (ck_65 (hC.fr f198)) (e198_sn197)) ?_
          refine rsl (jn_v) ?_
          by_cases c229 : sn197 < 10
          · refine rsl (if_pos (lsI_p (rfl) (li_10) (by omega))) ?_
            refine rsl (jv_e) ?_
            refine rsl (vC_e (ck_65 (hC.fr f198))) ?_
            refine RlL (y66 (by omega) (hC.fr f198) (hTk.fr (WL := W_cp) f198 (by decide)) (e198_k3) (e198_k0) (e198_k1) (e198_k2) (e198_sz197) (e198_sn197) (e198_uc197) (li_1) (li_0) (by omega)) fun v Ma231 h231 => ?_
            obtain ⟨rv230, sz230, sn230, uc230, rfl, g231, e231_sz230, e231_sn230, e231_uc230, e231_k0, e231_k1, e231_k2, e231_k3, p231_0, p231_1, p231_2⟩ := h231
            have f231 : Fr W_cp Mc Ma231 := Fr.t f198 (Fr.m g231 (by decide))
            refine rsl (cL_e rfl) ?_
            refine rsl (gtI_q (w := iI sn230) (ck_65 (hC.fr f231)) (e231_sn230)) ?_
            refine rsl (vC_e (ck_65 (hC.fr f231))) ?_
            refine RlI (y87 (by omega) (hC.fr f231) (hTk.fr (WL := W_cp) f231 (by decide)) (e231_k3) (e231_k0) (e231_k1) (e231_k2) (e231_sz230) (e231_sn230) (e231_uc230) (li_2) (rfl) (by omega)) fun v Ma233 h233 => ?_
            obtain ⟨rv232, sz232, sn232, uc232, rfl, g233, e233_sz232, e233_sn232, e233_uc232, e233_k0, e233_k1, e233_k2, e233_k3, p233_0, p233_1, p233_2, p233_3⟩ := h233
            have f233 : Fr W_cp Mc Ma233 := Fr.t f231 (Fr.m g233 (by decide))
            refine rsl (cI_e rfl) ?_
            refine rsl (vC_e (ck_65 (hC.fr f233))) ?_
            refine RlV (y75 (by omega) (hC.fr f233) (hTk.fr (WL := W_cp) f233 (by decide)) (e233_k3) (e233_k0) (e233_k1) (e233_k2) (e233_sz232) (e233_sn232) (e233_uc232)  (by omega)) fun v Ma235 h235 => ?_
            obtain ⟨sz234, sn234, uc234, g235, e235_sz234, e235_sn234, e235_uc234, e235_k0, e235_k1, e235_k2, e235_k3, p235_0, p235_1, p235_2⟩ := h235
            have f235 : Fr W_cp Mc Ma235 := Fr.t f233 (Fr.m g235 (by decide))
            refine rsl (cV_e rfl) ?_
            refine rsl (vC_e (ck_65 (hC.fr f235))) ?_
            refine RlV (y89 (by omega) (hC.fr f235) (hTk.fr (WL := W_cp) f235 (by decide)) (e235_k3) (e235_k0) (e235_k1) (e235_k2) (e235_sz234) (e235_sn234) (e235_uc234) (hv0) (by omega)) fun v Ma237 h237 => ?_
            obtain ⟨sz236, sn236, uc236, g237, e237_sz236, e237_sn236, e237_uc236, e237_k0, e237_k1, e237_k2, e237_k3, p237_0, p237_1, p237_2⟩ := h237
            have f237 : Fr W_cp Mc Ma237 := Fr.t f235 (Fr.m g237 (by decide))
            refine rsl (cV_e rfl) ?_
            refine rsl (ptI_q (z := s) (ck_65 (hC.fr f237)) (rfl)) ?_
            refine rsl (gtP_q (w := some 73) (ck_65 (hC.fr f237).sI) (cf_65_6 (hC.fr f237).sI)) ?_
            refine rsl (gtI_q (w := iI sz236) (ck_65 (hC.fr f237).sI) ((sI_nej (by decide)).trans (e237_sz236))) ?_
            refine rsl (asI_q (n := 4096) (z := (e12 + 1)) (y := sz236) (ck_73 (hC.fr f237).sI) (congrArg iI p20_0) (by omega) (rfl)) ?_
            refine rsr (vC_e (rk_160 (hR.fr FR12))) ?_
            refine RrI (a196q (by omega) (hR.fr FR12) (w12_43) ((FR12.i _ _ (by decide)).trans h49) ((FR12.i _ _ (by decide)).trans h48) (li_27) (li_0) (q := (e12 + 1)) (by omega) (by omega)) fun v Ma239 h239 => ?_
            obtain ⟨r238, rfl, g239, e239_k0, p239_0, p239_1⟩ := h239
            have f239 : Fr W_rx Mr Ma239 := Fr.t FR12 (Fr.m g239 (by decide))
            refine rsr (cI_e rfl) ?_
            refine rsr (vC_e (rk_160 (hR.fr f239))) ?_
            refine RrI (a196q (by omega) (hR.fr f239) (e239_k0) ((g239.i _ _ (by decide)).trans ((FR12.i _ _ (by decide)).trans h49)) ((g239.i _ _ (by decide)).trans ((FR12.i _ _ (by decide)).trans h48)) (li_25) (li_0) (q := (e12 + 2)) (by omega) (by omega)) fun v Ma241 h241 => ?_
            obtain ⟨r240, rfl, g241, e241_k0, p241_0, p241_1⟩ := h241
            have f241 : Fr W_rx Mr Ma241 := Fr.t f239 (Fr.m g241 (by decide))
            refine rsr (cI_e rfl) ?_
            refine rsr (gtP_q (w := some 196) (rk_160 (hR.fr f241)) (rf_45 (hR.fr f241))) ?_
            refine rsr (gtI_q (w := iI (e12 + 2)) (rk_160 (hR.fr f241)) (e241_k0)) ?_
            refine rsr (asI_q (n := 4000) (z := e) (y := (e12 + 2)) (rk_196 (hR.fr f241)) (congrArg iI p10_0) (by omega) (rfl)) ?_
            refine rsr (vC_e (rk_160 (hR.fr f241).sI)) ?_
            refine rsr (cI_e (a195_424_1 (by omega) hS (hR.fr f241).sI ((sI_ne (by decide)).trans ((g241.i _ _ (by decide)).trans ((g239.i _ _ (by decide)).trans (w12_36)))) ((sI_ne (by decide)).trans ((g241.i _ _ (by decide)).trans ((g239.i _ _ (by decide)).trans (w12_37)))) ((sI_ne (by decide)).trans ((g241.i _ _ (by decide)).trans ((g239.i _ _ (by decide)).trans (w12_41)))) (li_424) (by omega))) ?_
            refine rsr (vC_e (rk_160 (hR.fr f241).sI.sI.sI)) ?_
            refine RrI (x198_s (by omega) (hR.fr f241).sI.sI.sI ((sI_nej (by decide)).trans (sI_eq)) (sI_eq) ((sI_nej (by decide)).trans ((sI_nej (by decide)).trans ((sI_ne (by decide)).trans (e241_k0)))) ((sI_nej (by decide)).trans ((sI_nej (by decide)).trans ((sI_ne (by decide)).trans ((g241.i _ _ (by decide)).trans ((g239.i _ _ (by decide)).trans (w12_51)))))) ((sI_nej (by decide)).trans ((sI_nej (by decide)).trans ((sI_ne (by decide)).trans ((g241.i _ _ (by decide)).trans ((g239.i _ _ (by decide)).trans (w12_53)))))) ((sI_nej (by decide)).trans ((sI_nej (by decide)).trans ((sI_ne (by decide)).trans ((g241.i _ _ (by decide)).trans ((g239.i _ _ (by decide)).trans ((FR12.i _ _ (by decide)).trans h48)))))) ((sI_nej (by decide)).trans ((sI_nej (by decide)).trans ((sI_ne (by decide)).trans ((g241.i _ _ (by decide)).trans ((g239.i _ _ (by decide)).trans ((FR12.i _ _ (by decide)).trans h49))))))  (by omega)) fun v Ma243 h243 => ?_
            obtain ⟨rv242, em242, rfl, g243, e243_em242, e243_k0, e243_k1, e243_k2, e243_k3, e243_k4, p243_0, p243_1⟩ := h243
            have f243 : Fr W_rp Mr Ma243 := Fr.t (Fr.sI (by decide) (Fr.sI (by decide) (Fr.sI (inW_c (by decide) _) (Fr.m f241 (by decide))))) (Fr.m g243 (by decide))
            refine rsr (cI_e rfl) ?_
            refine rsr (jn_v) ?_
            refine rsr (if_pos (eqI_p (rfl) (li_0) (by omega))) ?_
            refine rsr (jv_e) ?_
            exact Rs.ok (Or.inr ⟨1, ((pl i12)), (Fr.sI (inW_c (by decide) _) (Fr.sI (by decide) f237)), f243, ⟨i12, sz236, s, uc236, (sI_ne (by decide)).trans ((sI_nej (by decide)).trans (e237_k0)), (sI_ne (by decide)).trans ((sI_nej (by decide)).trans (e237_k1)), (sI_ne (by decide)).trans ((sI_nej (by decide)).trans (e237_k2)), (sI_ne (by decide)).trans ((sI_nej (by decide)).trans (e237_k3)), (sI_ne (by decide)).trans ((sI_nej (by decide)).trans (e237_sz236)), (sI_ne (by decide)).trans (sI_eq), (sI_ne (by decide)).trans ((sI_nej (by decide)).trans (e237_uc236)), by omega⟩, ⟨em242, s, u12, mu, ut, e243_k0, e243_k1, e243_em242, e243_k2, e243_k3, e243_k4, (g243.i _ _ (by decide)).trans ((sI_nej (by decide)).trans ((sI_nej (by decide)).trans ((sI_ne (by decide)).trans ((g241.i _ _ (by decide)).trans ((g239.i _ _ (by decide)).trans ((FR12.i _ _ (by decide)).trans h49)))))), by omega⟩⟩)
          · refine rsl (if_neg (lsI_n (rfl) (li_10) (by omega))) ?_
            refine rsl (jv_e) ?_
            refine rsl (vC_e (ck_65 (hC.fr f198))) ?_
            refine RlL (y66 (by omega) (hC.fr f198) (hTk.fr (WL := W_cp) f198 (by decide)) (e198_k3) (e198_k0) (e198_k1) (e198_k2) (e198_sz197) (e198_sn197) (e198_uc197) (li_1) (li_1) (by omega)) fun v Ma245 h245 => ?_
            obtain ⟨rv244, sz244, sn244, uc244, rfl, g245, e245_sz244, e245_sn244, e245_uc244, e245_k0, e245_k1, e245_k2, e245_k3, p245_0, p245_1, p245_2⟩ := h245
            have f245 : Fr W_cp Mc Ma245 := Fr.t f198 (Fr.m g245 (by decide))
            refine rsl (cL_e rfl) ?_
            refine rsl (gtI_q (w := iI sn244) (ck_65 (hC.fr f245)) (e245_sn244)) ?_
            refine rsl (vC_e (ck_65 (hC.fr f245))) ?_
            refine RlI (y87 (by omega) (hC.fr f245) (hTk.fr (WL := W_cp) f245 (by decide)) (e245_k3) (e245_k0) (e245_k1) (e245_k2) (e245_sz244) (e245_sn244) (e245_uc244) (li_2) (rfl) (by omega)) fun v Ma247 h247 => ?_
            obtain ⟨rv246, sz246, sn246, uc246, rfl, g247, e247_sz246, e247_sn246, e247_uc246, e247_k0, e247_k1, e247_k2, e247_k3, p247_0, p247_1, p247_2, p247_3⟩ := h247
            have f247 : Fr W_cp Mc Ma247 := Fr.t f245 (Fr.m g247 (by decide))
            refine rsl (cI_e rfl) ?_
            refine rsl (vC_e (ck_65 (hC.fr f247))) ?_
            refine RlV (y75 (by omega) (hC.fr f247) (hTk.fr (WL := W_cp) f247 (by decide)) (e247_k3) (e247_k0) (e247_k1) (e247_k2) (e247_sz246) (e247_sn246) (e247_uc246)  (by omega)) fun v Ma249 h249 => ?_
            obtain ⟨sz248, sn248, uc248, g249, e249_sz248, e249_sn248, e249_uc248, e249_k0, e249_k1, e249_k2, e249_k3, p249_0, p249_1, p249_2⟩ := h249
            have f249 : Fr W_cp Mc Ma249 := Fr.t f247 (Fr.m g249 (by decide))
            refine rsl (cV_e rfl) ?_
            refine rsl (vC_e (ck_65 (hC.fr f249))) ?_
            refine RlV (y89 (by omega) (hC.fr f249) (hTk.fr (WL := W_cp) f249 (by decide)) (e249_k3) (e249_k0) (e249_k1) (e249_k2) (e249_sz248) (e249_sn248) (e249_uc248) (hv0) (by omega)) fun v Ma251 h251 => ?_
            obtain ⟨sz250, sn250, uc250, g251, e251_sz250, e251_sn250, e251_uc250, e251_k0, e251_k1, e251_k2, e251_k3, p251_0, p251_1, p251_2⟩ := h251
            have f251 : Fr W_cp Mc Ma251 := Fr.t f249 (Fr.m g251 (by decide))
            refine rsl (cV_e rfl) ?_
            refine rsl (ptI_q (z := s) (ck_65 (hC.fr f251)) (rfl)) ?_
            refine rsl (gtP_q (w := some 73) (ck_65 (hC.fr f251).sI) (cf_65_6 (hC.fr f251).sI)) ?_
            refine rsl (gtI_q (w := iI sz250) (ck_65 (hC.fr f251).sI) ((sI_nej (by decide)).trans (e251_sz250))) ?_
            refine rsl (asI_q (n := 4096) (z := (e12 + 1)) (y := sz250) (ck_73 (hC.fr f251).sI) (congrArg iI p20_0) (by omega) (rfl)) ?_
            refine rsr (vC_e (rk_160 (hR.fr FR12))) ?_
            refine RrI (a196q (by omega) (hR.fr FR12) (w12_43) ((FR12.i _ _ (by decide)).trans h49) ((FR12.i _ _ (by decide)).trans h48) (li_27) (li_0) (q := (e12 + 1)) (by omega) (by omega)) fun v Ma253 h253 => ?_
            obtain ⟨r252, rfl, g253, e253_k0, p253_0, p253_1⟩ := h253
            have f253 : Fr W_rx Mr Ma253 := Fr.t FR12 (Fr.m g253 (by decide))
            refine rsr (cI_e rfl) ?_
            refine rsr (vC_e (rk_160 (hR.fr f253))) ?_
            refine RrI (a196q (by omega) (hR.fr f253) (e253_k0) ((g253.i _ _ (by decide)).trans ((FR12.i _ _ (by decide)).trans h49)) ((g253.i _ _ (by decide)).trans ((FR12.i _ _ (by decide)).trans h48)) (li_25) (li_0) (q := (e12 + 2)) (by omega) (by omega)) fun v Ma255 h255 => ?_
            obtain ⟨r254, rfl, g255, e255_k0, p255_0, p255_1⟩ := h255
            have f255 : Fr W_rx Mr Ma255 := Fr.t f253 (Fr.m g255 (by decide))
            refine rsr (cI_e rfl) ?_
            refine rsr (gtP_q (w := some 196) (rk_160 (hR.fr f255)) (rf_45 (hR.fr f255))) ?_
            refine rsr (gtI_q (w := iI (e12 + 2)) (rk_160 (hR.fr f255)) (e255_k0)) ?_
            refine rsr (asI_q (n := 4000) (z := e) (y := (e12 + 2)) (rk_196 (hR.fr f255)) (congrArg iI p10_0) (by omega) (rfl)) ?_
            refine rsr (vC_e (rk_160 (hR.fr f255).sI)) ?_
            refine rsr (cI_e (a195_424_1 (by omega) hS (hR.fr f255).sI ((sI_ne (by decide)).trans ((g255.i _ _ (by decide)).trans ((g253.i _ _ (by decide)).trans (w12_36)))) ((sI_ne (by decide)).trans ((g255.i _ _ (by decide)).trans ((g253.i _ _ (by decide)).trans (w12_37)))) ((sI_ne (by decide)).trans ((g255.i _ _ (by decide)).trans ((g253.i _ _ (by decide)).trans (w12_41)))) (li_424) (by omega))) ?_
            refine rsr (vC_e (rk_160 (hR.fr f255).sI.sI.sI)) ?_
            refine RrI (x198_s (by omega) (hR.fr f255).sI.sI.sI ((sI_nej (by decide)).trans (sI_eq)) (sI_eq) ((sI_nej (by decide)).trans ((sI_nej (by decide)).trans ((sI_ne (by decide)).trans (e255_k0)))) ((sI_nej (by decide)).trans ((sI_nej (by decide)).trans ((sI_ne (by decide)).trans ((g255.i _ _ (by decide)).trans ((g253.i _ _ (by decide)).trans (w12_51)))))) ((sI_nej (by decide)).trans ((sI_nej (by decide)).trans ((sI_ne (by decide)).trans ((g255.i _ _ (by decide)).trans ((g253.i _ _ (by decide)).trans (w12_53)))))) ((sI_nej (by decide)).trans ((sI_nej (by decide)).trans ((sI_ne (by decide)).trans ((g255.i _ _ (by decide)).trans ((g253.i _ _ (by decide)).trans ((FR12.i _ _ (by decide)).trans h48)))))) ((sI_nej (by decide)).trans ((sI_nej (by decide)).trans ((sI_ne (by decide)).trans ((g255.i _ _ (by decide)).trans ((g253.i _ _ (by decide)).trans ((FR12.i _ _ (by decide)).trans h49))))))  (by omega)) fun v Ma257 h257 => ?_
            obtain ⟨rv256, em256, rfl, g257, e257_em256, e257_k0, e257_k1, e257_k2, e257_k3, e257_k4, p257_0, p257_1⟩ := h257
            have f257 : Fr W_rp Mr Ma257 := Fr.t (Fr.sI (by decide) (Fr.sI (by decide) (Fr.sI (inW_c (by decide) _) (Fr.m f255 (by decide))))) (Fr.m g257 (by decide))
            refine rsr (cI_e rfl) ?_
            refine rsr (jn_v) ?_
            refine rsr (if_pos (eqI_p (rfl) (li_0) (by omega))) ?_
            refine rsr (jv_e) ?_
            exact Rs.ok (Or.inr ⟨1, ((pl i12)), (Fr.sI (inW_c (by decide) _) (Fr.sI (by decide) f251)), f257, ⟨i12, sz250, s, uc250, (sI_ne (by decide)).trans ((sI_nej (by decide)).trans (e251_k0)), (sI_ne (by decide)).trans ((sI_nej (by decide)).trans (e251_k1)), (sI_ne (by decide)).trans ((sI_nej (by decide)).trans (e251_k2)), (sI_ne (by decide)).trans ((sI_nej (by decide)).trans (e251_k3)), (sI_ne (by decide)).trans ((sI_nej (by decide)).trans (e251_sz250)), (sI_ne (by decide)).trans (sI_eq), (sI_ne (by decide)).trans ((sI_nej (by decide)).trans (e251_uc250)), by omega⟩, ⟨em256, s, u12, mu, ut, e257_k0, e257_k1, e257_em256, e257_k2, e257_k3, e257_k4, (g257.i _ _ (by decide)).trans ((sI_nej (by decide)).trans ((sI_nej (by decide)).trans ((sI_ne (by decide)).trans ((g255.i _ _ (by decide)).trans ((g253.i _ _ (by decide)).trans ((FR12.i _ _ (by decide)).trans h49)))))), by omega⟩⟩)
      ·
        refine rsl (cV_e (a64_2 (by omega) hS (hC.fr ff22) (hTk.fr (WL := W_cp) ff22 (by decide)) ((f22.i _ _ (by decide)).trans ((sI_ne (by decide)).trans ((g20.i _ _ (by decide)).trans ((g17.i _ _ (by decide)).trans (q12_12))))) ((f22.i _ _ (by decide)).trans ((sI_ne (by decide)).trans ((g20.i _ _ (by decide)).trans ((g17.i _ _ (by decide)).trans (q12_13))))) ((f22.i _ _ (by decide)).trans ((sI_ne (by decide)).trans ((g20.i _ _ (by decide)).trans ((g17.i _ _ (by decide)).trans (q12_10))))) (li_223) (by omega))) ?_
        refine rsl (gtI_q (w := iI s) (ck_65 (hC.fr ff22).sI.sI.sI) ((sI_nej (by decide)).trans ((sI_nej (by decide)).trans ((sI_nej (by decide)).trans ((f22.i _ _ (by decide)).trans ((sI_ne (by decide)).trans ((g20.i _ _ (by decide)).trans ((g17.i _ _ (by decide)).trans (q12_16))))))))) ?_
        refine rsl (vC_e (ck_65 (hC.fr ff22).sI.sI.sI)) ?_
        refine RlL (y65 (by omega) (hC.fr ff22).sI.sI.sI (hTk.fr (WL := W_cp) (Fr.sI (by decide) (Fr.sI (by decide) (Fr.sI (by decide) ff22))) (by decide)) ((sI_nej (by decide)).trans ((sI_nej (by decide)).trans ((sI_nej (by decide)).trans ((f22.i _ _ (by decide)).trans ((sI_ne (by decide)).trans ((g20.i _ _ (by decide)).trans ((g17.i _ _ (by decide)).trans (q12_12)))))))) (sI_eq) ((sI_nej (by decide)).trans ((sI_nej (by decide)).trans (sI_eq))) ((sI_nej (by decide)).trans (sI_eq)) ((sI_nej (by decide)).trans ((sI_nej (by decide)).trans ((sI_nej (by decide)).trans ((f22.i _ _ (by decide)).trans ((sI_ne (by decide)).trans (e20_k0)))))) ((sI_nej (by decide)).trans ((sI_nej (by decide)).trans ((sI_nej (by decide)).trans ((f22.i _ _ (by decide)).trans ((sI_ne (by decide)).trans ((g20.i _ _ (by decide)).trans ((g17.i _ _ (by decide)).trans (q12_16)))))))) ((sI_nej (by decide)).trans ((sI_nej (by decide)).trans ((sI_nej (by decide)).trans ((f22.i _ _ (by decide)).trans ((sI_ne (by decide)).trans ((g20.i _ _ (by decide)).trans ((g17.i _ _ (by decide)).trans (q12_19))))))))  (by omega)) fun v Ma259 h259 => ?_
        obtain ⟨rv258, sz258, sn258, uc258, rfl, g259, e259_sz258, e259_sn258, e259_uc258, e259_k0, e259_k1, e259_k2, e259_k3, p259_0, p259_1, p259_2⟩ := h259
        have f259 : Fr W_cp Mc Ma259 := Fr.t (Fr.sI (by decide) (Fr.sI (by decide) (Fr.sI (by decide) ff22))) (Fr.m g259 (by decide))
        refine rsl (cL_e rfl) ?_
        refine rsl (vC_e (ck_65 (hC.fr f259))) ?_
        refine RlI (y74 (by omega) (hC.fr f259) (hTk.fr (WL := W_cp) f259 (by decide)) (e259_k3) (e259_k0) (e259_k1) (e259_k2) (e259_sz258) (e259_sn258) (e259_uc258)  (by omega)) fun v Ma261 h261 => ?_
        obtain ⟨rv260, sz260, sn260, uc260, rfl, g261, e261_sz260, e261_sn260, e261_uc260, e261_k0, e261_k1, e261_k2, e261_k3, p261_0, p261_1, p261_2, p261_3⟩ := h261
        have f261 : Fr W_cp Mc Ma261 := Fr.t f259 (Fr.m g261 (by decide))
        refine rsl (cI_e rfl) ?_
        refine rsl (jn_v) ?_
        by_cases c262 : rv260 < 0
        · refine rsl (if_pos (lsI_p (rfl) (li_0) (by omega))) ?_
          refine rsl (jv_e) ?_
          refine rsl (gtI_q (w := iI sn260) (ck_65 (hC.fr f261)) (e261_sn260)) ?_
          refine rsl (jn_v) ?_
          by_cases c263 : sn260 < 10
          · refine rsl (if_pos (lsI_p (rfl) (li_10) (by omega))) ?_
            refine rsl (jv_e) ?_
            refine rsl (vC_e (ck_65 (hC.fr f261))) ?_
            refine RlL (y66 (by omega) (hC.fr f261) (hTk.fr (WL := W_cp) f261 (by decide)) (e261_k3) (e261_k0) (e261_k1) (e261_k2) (e261_sz260) (e261_sn260) (e261_uc260) (li_0) (li_0) (by omega)) fun v Ma265 h265 => ?_
            obtain ⟨rv264, sz264, sn264, uc264, rfl, g265, e265_sz264, e265_sn264, e265_uc264, e265_k0, e265_k1, e265_k2, e265_k3, p265_0, p265_1, p265_2⟩ := h265
            have f265 : Fr W_cp Mc Ma265 := Fr.t f261 (Fr.m g265 (by decide))
            refine rsl (cL_e rfl) ?_
            refine rsl (gtI_q (w := iI sn264) (ck_65 (hC.fr f265)) (e265_sn264)) ?_
            refine rsl (vC_e (ck_65 (hC.fr f265))) ?_
            refine RlI (y87 (by omega) (hC.fr f265) (hTk.fr (WL := W_cp) f265 (by decide)) (e265_k3) (e265_k0) (e265_k1) (e265_k2) (e265_sz264) (e265_sn264) (e265_uc264) (li_2) (rfl) (by omega)) fun v Ma267 h267 => ?_
            obtain ⟨rv266, sz266, sn266, uc266, rfl, g267, e267_sz266, e267_sn266, e267_uc266, e267_k0, e267_k1, e267_k2, e267_k3, p267_0, p267_1, p267_2, p267_3⟩ := h267
            have f267 : Fr W_cp Mc Ma267 := Fr.t f265 (Fr.m g267 (by decide))
            refine rsl (cI_e rfl) ?_
            refine rsl (vC_e (ck_65 (hC.fr f267))) ?_
            refine RlV (y75 (by omega) (hC.fr f267) (hTk.fr (WL := W_cp) f267 (by decide)) (e267_k3) (e267_k0) (e267_k1) (e267_k2) (e267_sz266) (e267_sn266) (e267_uc266)  (by omega)) fun v Ma269 h269 => ?_
            obtain ⟨sz268, sn268, uc268, g269, e269_sz268, e269_sn268, e269_uc268, e269_k0, e269_k1, e269_k2, e269_k3, p269_0, p269_1, p269_2⟩ := h269
            have f269 : Fr W_cp Mc Ma269 := Fr.t f267 (Fr.m g269 (by decide))
            refine rsl (cV_e rfl) ?_
            refine rsl (vC_e (ck_65 (hC.fr f269))) ?_
            refine RlV (y89 (by omega) (hC.fr f269) (hTk.fr (WL := W_cp) f269 (by decide)) (e269_k3) (e269_k0) (e269_k1) (e269_k2) (e269_sz268) (e269_sn268) (e269_uc268) (hv0) (by omega)) fun v Ma271 h271 => ?_
            obtain ⟨sz270, sn270, uc270, g271, e271_sz270, e271_sn270, e271_uc270, e271_k0, e271_k1, e271_k2, e271_k3, p271_0, p271_1, p271_2⟩ := h271
            have f271 : Fr W_cp Mc Ma271 := Fr.t f269 (Fr.m g271 (by decide))
            refine rsl (cV_e rfl) ?_
            refine rsl (ptI_q (z := s) (ck_65 (hC.fr f271)) (rfl)) ?_
            refine rsl (gtP_q (w := some 73) (ck_65 (hC.fr f271).sI) (cf_65_6 (hC.fr f271).sI)) ?_
            refine rsl (gtI_q (w := iI sz270) (ck_65 (hC.fr f271).sI) ((sI_nej (by decide)).trans (e271_sz270))) ?_
            refine rsl (asI_q (n := 4096) (z := (e12 + 1)) (y := sz270) (ck_73 (hC.fr f271).sI) (congrArg iI p20_0) (by omega) (rfl)) ?_
            refine rsr (vC_e (rk_160 (hR.fr FR12))) ?_
            refine RrI (a196q (by omega) (hR.fr FR12) (w12_43) ((FR12.i _ _ (by decide)).trans h49) ((FR12.i _ _ (by decide)).trans h48) (li_27) (li_0) (q := (e12 + 1)) (by omega) (by omega)) fun v Ma273 h273 => ?_
            obtain ⟨r272, rfl, g273, e273_k0, p273_0, p273_1⟩ := h273
            have f273 : Fr W_rx Mr Ma273 := Fr.t FR12 (Fr.m g273 (by decide))
            refine rsr (cI_e rfl) ?_
            refine rsr (vC_e (rk_160 (hR.fr f273))) ?_
            refine RrI (a196q (by omega) (hR.fr f273) (e273_k0) ((g273.i _ _ (by decide)).trans ((FR12.i _ _ (by decide)).trans h49)) ((g273.i _ _ (by decide)).trans ((FR12.i _ _ (by decide)).trans h48)) (li_25) (li_0) (q := (e12 + 2)) (by omega) (by omega)) fun v Ma275 h275 => ?_
            obtain ⟨r274, rfl, g275, e275_k0, p275_0, p275_1⟩ := h275
            have f275 : Fr W_rx Mr Ma275 := Fr.t f273 (Fr.m g275 (by decide))
            refine rsr (cI_e rfl) ?_
            refine rsr (gtP_q (w := some 196) (rk_160 (hR.fr f275)) (rf_45 (hR.fr f275))) ?_
            refine rsr (gtI_q (w := iI (e12 + 2)) (rk_160 (hR.fr f275)) (e275_k0)) ?_
            refine rsr (asI_q (n := 4000) (z := e) (y := (e12 + 2)) (rk_196 (hR.fr f275)) (congrArg iI p10_0) (by omega) (rfl)) ?_
            refine rsr (vC_e (rk_160 (hR.fr f275).sI)) ?_
            refine rsr (cI_e (a195_424_2 (by omega) hS (hR.fr f275).sI ((sI_ne (by decide)).trans ((g275.i _ _ (by decide)).trans ((g273.i _ _ (by decide)).trans (w12_36)))) ((sI_ne (by decide)).trans ((g275.i _ _ (by decide)).trans ((g273.i _ _ (by decide)).trans (w12_37)))) ((sI_ne (by decide)).trans ((g275.i _ _ (by decide)).trans ((g273.i _ _ (by decide)).trans (w12_41)))) (li_424) (by omega))) ?_
            refine rsr (vC_e (rk_160 (hR.fr f275).sI.sI.sI)) ?_
            refine RrI (x198_s (by omega) (hR.fr f275).sI.sI.sI ((sI_nej (by decide)).trans (sI_eq)) (sI_eq) ((sI_nej (by decide)).trans ((sI_nej (by decide)).trans ((sI_ne (by decide)).trans (e275_k0)))) ((sI_nej (by decide)).trans ((sI_nej (by decide)).trans ((sI_ne (by decide)).trans ((g275.i _ _ (by decide)).trans ((g273.i _ _ (by decide)).trans (w12_51)))))) ((sI_nej (by decide)).trans ((sI_nej (by decide)).trans ((sI_ne (by decide)).trans ((g275.i _ _ (by decide)).trans ((g273.i _ _ (by decide)).trans (w12_53)))))) ((sI_nej (by decide)).trans ((sI_nej (by decide)).trans ((sI_ne (by decide)).trans ((g275.i _ _ (by decide)).trans ((g273.i _ _ (by decide)).trans ((FR12.i _ _ (by decide)).trans h48)))))) ((sI_nej (by decide)).trans ((sI_nej (by decide)).trans ((sI_ne (by decide)).trans ((g275.i _ _ (by decide)).trans ((g273.i _ _ (by decide)).trans ((FR12.i _ _ (by decide)).trans h49))))))  (by omega)) fun v Ma277 h277 => ?_
            obtain ⟨rv276, em276, rfl, g277, e277_em276, e277_k0, e277_k1, e277_k2, e277_k3, e277_k4, p277_0, p277_1⟩ := h277
            have f277 : Fr W_rp Mr Ma277 := Fr.t (Fr.sI (by decide) (Fr.sI (by decide) (Fr.sI (inW_c (by decide) _) (Fr.m f275 (by decide))))) (Fr.m g277 (by decide))
            refine rsr (cI_e rfl) ?_
            refine rsr (jn_v) ?_
            refine rsr (if_pos (eqI_p (rfl) (li_0) (by omega))) ?_
            refine rsr (jv_e) ?_
            exact Rs.ok (Or.inr ⟨2, ((pl i12)), (Fr.sI (inW_c (by decide) _) (Fr.sI (by decide) f271)), f277, ⟨i12, sz270, s, uc270, (sI_ne (by decide)).trans ((sI_nej (by decide)).trans (e271_k0)), (sI_ne (by decide)).trans ((sI_nej (by decide)).trans (e271_k1)), (sI_ne (by decide)).trans ((sI_nej (by decide)).trans (e271_k2)), (sI_ne (by decide)).trans ((sI_nej (by decide)).trans (e271_k3)), (sI_ne (by decide)).trans ((sI_nej (by decide)).trans (e271_sz270)), (sI_ne (by decide)).trans (sI_eq), (sI_ne (by decide)).trans ((sI_nej (by decide)).trans (e271_uc270)), by omega⟩, ⟨em276, s, u12, mu, ut, e277_k0, e277_k1, e277_em276, e277_k2, e277_k3, e277_k4, (g277.i _ _ (by decide)).trans ((sI_nej (by decide)).trans ((sI_nej (by decide)).trans ((sI_ne (by decide)).trans ((g275.i _ _ (by decide)).trans ((g273.i _ _ (by decide)).trans ((FR12.i _ _ (by decide)).trans h49)))))), by omega⟩⟩)
          · refine rsl (if_neg (lsI_n (rfl) (li_10) (by omega))) ?_
            refine rsl (jv_e) ?_
            refine rsl (vC_e (ck_65 (hC.fr f261))) ?_
            refine RlL (y66 (by omega) (hC.fr f261) (hTk.fr (WL := W_cp) f261 (by decide)) (e261_k3) (e261_k0) (e261_k1) (e261_k2) (e261_sz260) (e261_sn260) (e261_uc260) (li_0) (li_1) (by omega)) fun v Ma279 h279 => ?_
            obtain ⟨rv278, sz278, sn278, uc278, rfl, g279, e279_sz278, e279_sn278, e279_uc278, e279_k0, e279_k1, e279_k2, e279_k3, p279_0, p279_1, p279_2⟩ := h279
            have f279 : Fr W_cp Mc Ma279 := Fr.t f261 (Fr.m g279 (by decide))
            refine rsl (cL_e rfl) ?_
            refine rsl (gtI_q (w := iI sn278) (ck_65 (hC.fr f279)) (e279_sn278)) ?_
            refine rsl (vC_e (ck_65 (hC.fr f279))) ?_
            refine RlI (y87 (by omega) (hC.fr f279) (hTk.fr (WL := W_cp) f279 (by decide)) (e279_k3) (e279_k0) (e279_k1) (e279_k2) (e279_sz278) (e279_sn278) (e279_uc278) (li_2) (rfl) (by omega)) fun v Ma281 h281 => ?_
            obtain ⟨rv280, sz280, sn280, uc280, rfl, g281, e281_sz280, e281_sn280, e281_uc280, e281_k0, e281_k1, e281_k2, e281_k3, p281_0, p281_1, p281_2, p281_3⟩ := h281
            have f281 : Fr W_cp Mc Ma281 := Fr.t f279 (Fr.m g281 (by decide))
            refine rsl (cI_e rfl) ?_
            refine rsl (vC_e (ck_65 (hC.fr f281))) ?_
            refine RlV (y75 (by omega) (hC.fr f281) (hTk.fr (WL := W_cp) f281 (by decide)) (e281_k3) (e281_k0) (e281_k1) (e281_k2) (e281_sz280) (e281_sn280) (e281_uc280)  (by omega)) fun v Ma283 h283 => ?_
            obtain ⟨sz282, sn282, uc282, g283, e283_sz282, e283_sn282, e283_uc282, e283_k0, e283_k1, e283_k2, e283_k3, p283_0, p283_1, p283_2⟩ := h283
            have f283 : Fr W_cp Mc Ma283 := Fr.t f281 (Fr.m g283 (by decide))
            refine rsl (cV_e rfl) ?_
            refine rsl (vC_e (ck_65 (hC.fr f283))) ?_
            refine RlV (y89 (by omega) (hC.fr f283) (hTk.fr (WL := W_cp) f283 (by decide)) (e283_k3) (e283_k0) (e283_k1) (e283_k2) (e283_sz282) (e283_sn282) (e283_uc282) (hv0) (by omega)) fun v Ma285 h285 => ?_
            obtain ⟨sz284, sn284, uc284, g285, e285_sz284, e285_sn284, e285_uc284, e285_k0, e285_k1, e285_k2, e285_k3, p285_0, p285_1, p285_2⟩ := h285
            have f285 : Fr W_cp Mc Ma285 := Fr.t f283 (Fr.m g285 (by decide))
            refine rsl (cV_e rfl) ?_
            refine rsl (ptI_q (z := s) (ck_65 (hC.fr f285)) (rfl)) ?_
            refine rsl (gtP_q (w := some 73) (ck_65 (hC.fr f285).sI) (cf_65_6 (hC.fr f285).sI)) ?_
            refine rsl (gtI_q (w := iI sz284) (ck_65 (hC.fr f285).sI) ((sI_nej (by decide)).trans (e285_sz284))) ?_
            refine rsl (asI_q (n := 4096) (z := (e12 + 1)) (y := sz284) (ck_73 (hC.fr f285).sI) (congrArg iI p20_0) (by omega) (rfl)) ?_
            refine rsr (vC_e (rk_160 (hR.fr FR12))) ?_
            refine RrI (a196q (by omega) (hR.fr FR12) (w12_43) ((FR12.i _ _ (by decide)).trans h49) ((FR12.i _ _ (by decide)).trans h48) (li_27) (li_0) (q := (e12 + 1)) (by omega) (by omega)) fun v Ma287 h287 => ?_
            obtain ⟨r286, rfl, g287, e287_k0, p287_0, p287_1⟩ := h287
            have f287 : Fr W_rx Mr Ma287 := Fr.t FR12 (Fr.m g287 (by decide))
            refine rsr (cI_e rfl) ?_
            refine rsr (vC_e (rk_160 (hR.fr f287))) ?_
            refine RrI (a196q (by omega) (hR.fr f287) (e287_k0) ((g287.i _ _ (by decide)).trans ((FR12.i _ _ (by decide)).trans h49)) ((g287.i _ _ (by decide)).trans ((FR12.i _ _ (by decide)).trans h48)) (li_25) (li_0) (q := (e12 + 2)) (by omega) (by omega)) fun v Ma289 h289 => ?_
            obtain ⟨r288, rfl, g289, e289_k0, p289_0, p289_1⟩ := h289
            have f289 : Fr W_rx Mr Ma289 := Fr.t f287 (Fr.m g289 (by decide))
            refine rsr (cI_e rfl) ?_
            refine rsr (gtP_q (w := some 196) (rk_160 (hR.fr f289)) (rf_45 (hR.fr f289))) ?_
            refine rsr (gtI_q (w := iI (e12 + 2)) (rk_160 (hR.fr f289)) (e289_k0)) ?_
            refine rsr (asI_q (n := 4000) (z := e) (y := (e12 + 2)) (rk_196 (hR.fr f289)) (congrArg iI p10_0) (by omega) (rfl)) ?_
            refine rsr (vC_e (rk_160 (hR.fr f289).sI)) ?_
            refine rsr (cI_e (a195_424_2 (by omega) hS (hR.fr f289).sI ((sI_ne (by decide)).trans ((g289.i _ _ (by decide)).trans ((g287.i _ _ (by decide)).trans (w12_36)))) ((sI_ne (by decide)).trans ((g289.i _ _ (by decide)).trans ((g287.i _ _ (by decide)).trans (w12_37)))) ((sI_ne (by decide)).trans ((g289.i _ _ (by decide)).trans ((g287.i _ _ (by decide)).trans (w12_41)))) (li_424) (by omega))) ?_
            refine rsr (vC_e (rk_160 (hR.fr f289).sI.sI.sI)) ?_
            refine RrI (x198_s (by omega) (hR.fr f289).sI.sI.sI ((sI_nej (by decide)).trans (sI_eq)) (sI_eq) ((sI_nej (by decide)).trans ((sI_nej (by decide)).trans ((sI_ne (by decide)).trans (e289_k0)))) ((sI_nej (by decide)).trans ((sI_nej (by decide)).trans ((sI_ne (by decide)).trans ((g289.i _ _ (by decide)).trans ((g287.i _ _ (by decide)).trans (w12_51)))))) ((sI_nej (by decide)).trans ((sI_nej (by decide)).trans ((sI_ne (by decide)).trans ((g289.i _ _ (by decide)).trans ((g287.i _ _ (by decide)).trans (w12_53)))))) ((sI_nej (by decide)).trans ((sI_nej (by decide)).trans ((sI_ne (by decide)).trans ((g289.i _ _ (by decide)).trans ((g287.i _ _ (by decide)).trans ((FR12.i _ _ (by decide)).trans h48)))))) ((sI_nej (by decide)).trans ((sI_nej (by decide)).trans ((sI_ne (by decide)).trans ((g289.i _ _ (by decide)).trans ((g287.i _ _ (by decide)).trans ((FR12.i _ _ (by decide)).trans h49))))))  (by omega)) fun v Ma291 h291 => ?_
            obtain ⟨rv290, em290, rfl, g291, e291_em290, e291_k0, e291_k1, e291_k2, e291_k3, e291_k4, p291_0, p291_1⟩ := h291
            have f291 : Fr W_rp Mr Ma291 := Fr.t (Fr.sI (by decide) (Fr.sI (by decide) (Fr.sI (inW_c (by decide) _) (Fr.m f289 (by decide))))) (Fr.m g291 (by decide))
            refine rsr (cI_e rfl) ?_
            refine rsr (jn_v) ?_
            refine rsr (if_pos (eqI_p (rfl) (li_0) (by omega))) ?_
            refine rsr (jv_e) ?_
            exact Rs.ok (Or.inr ⟨2, ((pl i12)), (Fr.sI (inW_c (by decide) _) (Fr.sI (by decide) f285)), f291, ⟨i12, sz284, s, uc284, (sI_ne (by decide)).trans ((sI_nej (by decide)).trans (e285_k0)), (sI_ne (by decide)).trans ((sI_nej (by decide)).trans (e285_k1)), (sI_ne (by decide)).trans ((sI_nej (by decide)).trans (e285_k2)), (sI_ne (by decide)).trans ((sI_nej (by decide)).trans (e285_k3)), (sI_ne (by decide)).trans ((sI_nej (by decide)).trans (e285_sz284)), (sI_ne (by decide)).trans (sI_eq), (sI_ne (by decide)).trans ((sI_nej (by decide)).trans (e285_uc284)), by omega⟩, ⟨em290, s, u12, mu, ut, e291_k0, e291_k1, e291_em290, e291_k2, e291_k3, e291_k4, (g291.i _ _ (by decide)).trans ((sI_nej (by decide)).trans ((sI_nej (by decide)).trans ((sI_ne (by decide)).trans ((g289.i _ _ (by decide)).trans ((g287.i _ _ (by decide)).trans ((FR12.i _ _ (by decide)).trans h49)))))), by omega⟩⟩)
        · refine rsl (if_neg (lsI_n (rfl) (li_0) (by omega))) ?_
          refine rsl (jv_e) ?_
          refine rsl (gtI_q (w := iI sn260) (ck_65 (hC.fr f261)) (e261_sn260)) ?_
          refine rsl (jn_v) ?_
          by_cases c292 : sn260 < 10
          · refine rsl (if_pos (lsI_p (rfl) (li_10) (by omega))) ?_
            refine rsl (jv_e) ?_
            refine rsl (vC_e (ck_65 (hC.fr f261))) ?_
            refine RlL (y66 (by omega) (hC.fr f261) (hTk.fr (WL := W_cp) f261 (by decide)) (e261_k3) (e261_k0) (e261_k1) (e261_k2) (e261_sz260) (e261_sn260) (e261_uc260) (li_1) (li_0) (by omega)) fun v Ma294 h294 => ?_
            obtain ⟨rv293, sz293, sn293, uc293, rfl, g294, e294_sz293, e294_sn293, e294_uc293, e294_k0, e294_k1, e294_k2, e294_k3, p294_0, p294_1, p294_2⟩ := h294
            have f294 : Fr W_cp Mc Ma294 := Fr.t f261 (Fr.m g294 (by decide))
            refine rsl (cL_e rfl) ?_
            refine rsl (gtI_q (w := iI sn293) (ck_65 (hC.fr f294)) (e294_sn293)) ?_
            refine rsl (vC_e (ck_65 (hC.fr f294))) ?_
            refine RlI (y87 (by omega) (hC.fr f294) (hTk.fr (WL := W_cp) f294 (by decide)) (e294_k3) (e294_k0) (e294_k1) (e294_k2) (e294_sz293) (e294_sn293) (e294_uc293) (li_2) (rfl) (by omega)) fun v Ma296 h296 => ?_
            obtain ⟨rv295, sz295, sn295, uc295, rfl, g296, e296_sz295, e296_sn295, e296_uc295, e296_k0, e296_k1, e296_k2, e296_k3, p296_0, p296_1, p296_2, p296_3⟩ := h296
            have f296 : Fr W_cp Mc Ma296 := Fr.t f294 (Fr.m g296 (by decide))
            refine rsl (cI_e rfl) ?_
            refine rsl (vC_e (ck_65 (hC.fr f296))) ?_
            refine RlV (y75 (by omega) (hC.fr f296) (hTk.fr (WL := W_cp) f296 (by decide)) (e296_k3) (e296_k0) (e296_k1) (e296_k2) (e296_sz295) (e296_sn295) (e296_uc295)  (by omega)) fun v Ma298 h298 => ?_
            obtain ⟨sz297, sn297, uc297, g298, e298_sz297, e298_sn297, e298_uc297, e298_k0, e298_k1, e298_k2, e298_k3, p298_0, p298_1, p298_2⟩ := h298
            have f298 : Fr W_cp Mc Ma298 := Fr.t f296 (Fr.m g298 (by decide))
            refine rsl (cV_e rfl) ?_
            refine rsl (vC_e (ck_65 (hC.fr f298))) ?_
            refine RlV (y89 (by omega) (hC.fr f298) (hTk.fr (WL := W_cp) f298 (by decide)) (e298_k3) (e298_k0) (e298_k1) (e298_k2) (e298_sz297) (e298_sn297) (e298_uc297) (hv0) (by omega)) fun v Ma300 h300 => ?_
            obtain ⟨sz299, sn299, uc299, g300, e300_sz299, e300_sn299, e300_uc299, e300_k0, e300_k1, e300_k2, e300_k3, p300_0, p300_1, p300_2⟩ := h300
            have f300 : Fr W_cp Mc Ma300 := Fr.t f298 (Fr.m g300 (by decide))
            refine rsl (cV_e rfl) ?_
            refine rsl (ptI_q (z := s) (ck_65 (hC.fr f300)) (rfl)) ?_
            refine rsl (gtP_q (w := some 73) (ck_65 (hC.fr f300).sI) (cf_65_6 (hC.fr f300).sI)) ?_
            refine rsl (gtI_q (w := iI sz299) (ck_65 (hC.fr f300).sI) ((sI_nej (by decide)).trans (e300_sz299))) ?_
            refine rsl (asI_q (n := 4096) (z := (e12 + 1)) (y := sz299) (ck_73 (hC.fr f300).sI) (congrArg iI p20_0) (by omega) (rfl)) ?_
            refine rsr (vC_e (rk_160 (hR.fr FR12))) ?_
            refine RrI (a196q (by omega) (hR.fr FR12) (w12_43) ((FR12.i _ _ (by decide)).trans h49) ((FR12.i _ _ (by decide)).trans h48) (li_27) (li_0) (q := (e12 + 1)) (by omega) (by omega)) fun v Ma302 h302 => ?_
            obtain ⟨r301, rfl, g302, e302_k0, p302_0, p302_1⟩ := h302
            have f302 : Fr W_rx Mr Ma302 := Fr.t FR12 (Fr.m g302 (by decide))
            refine rsr (cI_e rfl) ?_
            refine rsr (vC_e (rk_160 (hR.fr f302))) ?_
            refine RrI (a196q (by omega) (hR.fr f302) (e302_k0) ((g302.i _ _ (by decide)).trans ((FR12.i _ _ (by decide)).trans h49)) ((g302.i _ _ (by decide)).trans ((FR12.i _ _ (by decide)).trans h48)) (li_25) (li_0) (q := (e12 + 2)) (by omega) (by omega)) fun v Ma304 h304 => ?_
            obtain ⟨r303, rfl, g304, e304_k0, p304_0, p304_1⟩ := h304
            have f304 : Fr W_rx Mr Ma304 := Fr.t f302 (Fr.m g304 (by decide))
            refine rsr (cI_e rfl) ?_
            refine rsr (gtP_q (w := some 196) (rk_160 (hR.fr f304)) (rf_45 (hR.fr f304))) ?_
            refine rsr (gtI_q (w := iI (e12 + 2)) (rk_160 (hR.fr f304)) (e304_k0)) ?_
            refine rsr (asI_q (n := 4000) (z := e) (y := (e12 + 2)) (rk_196 (hR.fr f304)) (congrArg iI p10_0) (by omega) (rfl)) ?_
            refine rsr (vC_e (rk_160 (hR.fr f304).sI)) ?_
            refine rsr (cI_e (a195_424_2 (by omega) hS (hR.fr f304).sI ((sI_ne (by decide)).trans ((g304.i _ _ (by decide)).trans ((g302.i _ _ (by decide)).trans (w12_36)))) ((sI_ne (by decide)).trans ((g304.i _ _ (by decide)).trans ((g302.i _ _ (by decide)).trans (w12_37)))) ((sI_ne (by decide)).trans ((g304.i _ _ (by decide)).trans ((g302.i _ _ (by decide)).trans (w12_41)))) (li_424) (by omega))) ?_
            refine rsr (vC_e (rk_160 (hR.fr f304).sI.sI.sI)) ?_
            refine RrI (x198_s (by omega) (hR.fr f304).sI.sI.sI ((sI_nej (by decide)).trans (sI_eq)) (sI_eq) ((sI_nej (by decide)).trans ((sI_nej (by decide)).trans ((sI_ne (by decide)).trans (e304_k0)))) ((sI_nej (by decide)).trans ((sI_nej (by decide)).trans ((sI_ne (by decide)).trans ((g304.i _ _ (by decide)).trans ((g302.i _ _ (by decide)).trans (w12_51)))))) ((sI_nej (by decide)).trans ((sI_nej (by decide)).trans ((sI_ne (by decide)).trans ((g304.i _ _ (by decide)).trans ((g302.i _ _ (by decide)).trans (w12_53)))))) ((sI_nej (by decide)).trans ((sI_nej (by decide)).trans ((sI_ne (by decide)).trans ((g304.i _ _ (by decide)).trans ((g302.i _ _ (by decide)).trans ((FR12.i _ _ (by decide)).trans h48)))))) ((sI_nej (by decide)).trans ((sI_nej (by decide)).trans ((sI_ne (by decide)).trans ((g304.i _ _ (by decide)).trans ((g302.i _ _ (by decide)).trans ((FR12.i _ _ (by decide)).trans h49))))))  (by omega)) fun v Ma306 h306 => ?_
            obtain ⟨rv305, em305, rfl, g306, e306_em305, e306_k0, e306_k1, e306_k2, e306_k3, e306_k4, p306_0, p306_1⟩ := h306
            have f306 : Fr W_rp Mr Ma306 := Fr.t (Fr.sI (by decide) (Fr.sI (by decide) (Fr.sI (inW_c (by decide) _) (Fr.m f304 (by decide))))) (Fr.m g306 (by decide))
            refine rsr (cI_e rfl) ?_
            refine rsr (jn_v) ?_
            refine rsr (if_pos (eqI_p (rfl) (li_0) (by omega))) ?_
            refine rsr (jv_e) ?_
            exact Rs.ok (Or.inr ⟨2, ((pl i12)), (Fr.sI (inW_c (by decide) _) (Fr.sI (by decide) f300)), f306, ⟨i12, sz299, s, uc299, (sI_ne (by decide)).trans ((sI_nej (by decide)).trans (e300_k0)), (sI_ne (by decide)).trans ((sI_nej (by decide)).trans (e300_k1)), (sI_ne (by decide)).trans ((sI_nej (by decide)).trans (e300_k2)), (sI_ne (by decide)).trans ((sI_nej (by decide)).trans (e300_k3)), (sI_ne (by decide)).trans ((sI_nej (by decide)).trans (e300_sz299)), (sI_ne (by decide)).trans (sI_eq), (sI_ne (by decide)).trans ((sI_nej (by decide)).trans (e300_uc299)), by omega⟩, ⟨em305, s, u12, mu, ut, e306_k0, e306_k1, e306_em305, e306_k2, e306_k3, e306_k4, (g306.i _ _ (by decide)).trans ((sI_nej (by decide)).trans ((sI_nej (by decide)).trans ((sI_ne (by decide)).trans ((g304.i _ _ (by decide)).trans ((g302.i _ _ (by decide)).trans ((FR12.i _ _ (by decide)).trans h49)))))), by omega⟩⟩)
          · refine rsl (if_neg (lsI_n (rfl) (li_10) (by omega))) ?_
            refine rsl (jv_e) ?_
            refine rsl (vC_e (ck_65 (hC.fr f261))) ?_
            refine RlL (y66 (by omega) (hC.fr f261) (hTk.fr (WL := W_cp) f261 (by decide)) (e261_k3) (e261_k0) (e261_k1) (e261_k2) (e261_sz260) (e261_sn260) (e261_uc260) (li_1) (li_1) (by omega)) fun v Ma308 h308 => ?_
            obtain ⟨rv307, sz307, sn307, uc307, rfl, g308, e308_sz307, e308_sn307, e308_uc307, e308_k0, e308_k1, e308_k2, e308_k3, p308_0, p308_1, p308_2⟩ := h308
            have f308 : Fr W_cp Mc Ma308 := Fr.t f261 (Fr.m g308 (by decide))
            refine rsl (cL_e rfl) ?_
            refine rsl (gtI_q (w := iI sn307) (ck_65 (hC.fr f308)) (e308_sn307)) ?_
            refine rsl (vC_e (ck_65 (hC.fr f308))) ?_
            refine RlI (y87 (by omega) (hC.fr f308) (hTk.fr (WL := W_cp) f308 (by decide)) (e308_k3) (e308_k0) (e308_k1) (e308_k2) (e308_sz307) (e308_sn307) (e308_uc307) (li_2) (rfl) (by omega)) fun v Ma310 h310 => ?_
            obtain ⟨rv309, sz309, sn309, uc309, rfl, g310, e310_sz309, e310_sn309, e310_uc309, e310_k0, e310_k1, e310_k2, e310_k3, p310_0, p310_1, p310_2, p310_3⟩ := h310
            have f310 : Fr W_cp Mc Ma310 := Fr.t f308 (Fr.m g310 (by decide))
            refine rsl (cI_e rfl) ?_
            refine rsl (vC_e (ck_65 (hC.fr f310))) ?_
            refine RlV (y75 (by omega) (hC.fr f310) (hTk.fr (WL := W_cp) f310 (by decide)) (e310_k3) (e310_k0) (e310_k1) (e310_k2) (e310_sz309) (e310_sn309) (e310_uc309)  (by omega)) fun v Ma312 h312 => ?_
            obtain ⟨sz311, sn311, uc311, g312, e312_sz311, e312_sn311, e312_uc311, e312_k0, e312_k1, e312_k2, e312_k3, p312_0, p312_1, p312_2⟩ := h312
            have f312 : Fr W_cp Mc Ma312 := Fr.t f310 (Fr.m g312 (by decide))
            refine rsl (cV_e rfl) ?_
            refine rsl (vC_e (ck_65 (hC.fr f312))) ?_
            refine RlV (y89 (by omega) (hC.fr f312) (hTk.fr (WL := W_cp) f312 (by decide)) (e312_k3) (e312_k0) (e312_k1) (e312_k2) (e312_sz311) (e312_sn311) (e312_uc311) (hv0) (by omega)) fun v Ma314 h314 => ?_
            obtain ⟨sz313, sn313, uc313, g314, e314_sz313, e314_sn313, e314_uc313, e314_k0, e314_k1, e314_k2, e314_k3, p314_0, p314_1, p314_2⟩ := h314
            have f314 : Fr W_cp Mc Ma314 := Fr.t f312 (Fr.m g314 (by decide))
            refine rsl (cV_e rfl) ?_
            refine rsl (ptI_q (z := s) (ck_65 (hC.fr f314)) (rfl)) ?_
            refine rsl (gtP_q (w := some 73) (ck_65 (hC.fr f314).sI) (cf_65_6 (hC.fr f314).sI)) ?_
            refine rsl (gtI_q (w := iI sz313) (ck_65 (hC.fr f314).sI) ((sI_nej (by decide)).trans (e314_sz313))) ?_
            refine rsl (asI_q (n := 4096) (z := (e12 + 1)) (y := sz313) (ck_73 (hC.fr f314).sI) (congrArg iI p20_0) (by omega) (rfl)) ?_
            refine rsr (vC_e (rk_160 (hR.fr FR12))) ?_
            refine RrI (a196q (by omega) (hR.fr FR12) (w12_43) ((FR12.i _ _ (by decide)).trans h49) ((FR12.i _ _ (by decide)).trans h48) (li_27) (li_0) (q := (e12 + 1)) (by omega) (by omega)) fun v Ma316 h316 => ?_
            obtain ⟨r315, rfl, g316, e316_k0, p316_0, p316_1⟩ := h316
            have f316 : Fr W_rx Mr Ma316 := Fr.t FR12 (Fr.m g316 (by decide))
            refine rsr (cI_e rfl) ?_
            refine rsr (vC_e (rk_160 (hR.fr f316))) ?_
            refine RrI (a196q (by omega) (hR.fr f316) (e316_k0) ((g316.i _ _ (by decide)).trans ((FR12.i _ _ (by decide)).trans h49)) ((g316.i _ _ (by decide)).trans ((FR12.i _ _ (by decide)).trans h48)) (li_25) (li_0) (q := (e12 + 2)) (by omega) (by omega)) fun v Ma318 h318 => ?_
            obtain ⟨r317, rfl, g318, e318_k0, p318_0, p318_1⟩ := h318
            have f318 : Fr W_rx Mr Ma318 := Fr.t f316 (Fr.m g318 (by decide))
            refine rsr (cI_e rfl) ?_
            refine rsr (gtP_q (w := some 196) (rk_160 (hR.fr f318)) (rf_45 (hR.fr f318))) ?_
            refine rsr (gtI_q (w := iI (e12 + 2)) (rk_160 (hR.fr f318)) (e318_k0)) ?_
            refine rsr (asI_q (n := 4000) (z := e) (y := (e12 + 2)) (rk_196 (hR.fr f318)) (congrArg iI p10_0) (by omega) (rfl)) ?_
            refine rsr (vC_e (rk_160 (hR.fr f318).sI)) ?_
            refine rsr (cI_e (a195_424_2 (by omega) hS (hR.fr f318).sI ((sI_ne (by decide)).trans ((g318.i _ _ (by decide)).trans ((g316.i _ _ (by decide)).trans (w12_36)))) ((sI_ne (by decide)).trans ((g318.i _ _ (by decide)).trans ((g316.i _ _ (by decide)).trans (w12_37)))) ((sI_ne (by decide)).trans ((g318.i _ _ (by decide)).trans ((g316.i _ _ (by decide)).trans (w12_41)))) (li_424) (by omega))) ?_
            refine rsr (vC_e (rk_160 (hR.fr f318).sI.sI.sI)) ?_
            refine RrI (x198_s (by omega) (hR.fr f318).sI.sI.sI ((sI_nej (by decide)).trans (sI_eq)) (sI_eq) ((sI_nej (by decide)).trans ((sI_nej (by decide)).trans ((sI_ne (by decide)).trans (e318_k0)))) ((sI_nej (by decide)).trans ((sI_nej (by decide)).trans ((sI_ne (by decide)).trans ((g318.i _ _ (by decide)).trans ((g316.i _ _ (by decide)).trans (w12_51)))))) ((sI_nej (by decide)).trans ((sI_nej (by decide)).trans ((sI_ne (by decide)).trans ((g318.i _ _ (by decide)).trans ((g316.i _ _ (by decide)).trans (w12_53)))))) ((sI_nej (by decide)).trans ((sI_nej (by decide)).trans ((sI_ne (by decide)).trans ((g318.i _ _ (by decide)).trans ((g316.i _ _ (by decide)).trans ((FR12.i _ _ (by decide)).trans h48)))))) ((sI_nej (by decide)).trans ((sI_nej (by decide)).trans ((sI_ne (by decide)).trans ((g318.i _ _ (by decide)).trans ((g316.i _ _ (by decide)).trans ((FR12.i _ _ (by decide)).trans h49))))))  (by omega)) fun v Ma320 h320 => ?_
            obtain ⟨rv319, em319, rfl, g320, e320_em319, e320_k0, e320_k1, e320_k2, e320_k3, e320_k4, p320_0, p320_1⟩ := h320
            have f320 : Fr W_rp Mr Ma320 := Fr.t (Fr.sI (by decide) (Fr.sI (by decide) (Fr.sI (inW_c (by decide) _) (Fr.m f318 (by decide))))) (Fr.m g320 (by decide))
            refine rsr (cI_e rfl) ?_
            refine rsr (jn_v) ?_
            refine rsr (if_pos (eqI_p (rfl) (li_0) (by omega))) ?_
            refine rsr (jv_e) ?_
            exact Rs.ok (Or.inr ⟨2, ((pl i12)), (Fr.sI (inW_c (by decide) _) (Fr.sI (by decide) f314)), f320, ⟨i12, sz313, s, uc313, (sI_ne (by decide)).trans ((sI_nej (by decide)).trans (e314_k0)), (sI_ne (by decide)).trans ((sI_nej (by decide)).trans (e314_k1)), (sI_ne (by decide)).trans ((sI_nej (by decide)).trans (e314_k2)), (sI_ne (by decide)).trans ((sI_nej (by decide)).trans (e314_k3)), (sI_ne (by decide)).trans ((sI_nej (by decide)).trans (e314_sz313)), (sI_ne (by decide)).trans (sI_eq), (sI_ne (by decide)).trans ((sI_nej (by decide)).trans (e314_uc313)), by omega⟩, ⟨em319, s, u12, mu, ut, e320_k0, e320_k1, e320_em319, e320_k2, e320_k3, e320_k4, (g320.i _ _ (by decide)).trans ((sI_nej (by decide)).trans ((sI_nej (by decide)).trans ((sI_ne (by decide)).trans ((g318.i _ _ (by decide)).trans ((g316.i _ _ (by decide)).trans ((FR12.i _ _ (by decide)).trans h49)))))), by omega⟩⟩)
  ·
    have FL12 : Fr W_cp Mc Mx12 := Fr.t f8 fl12
    have FR12 : Fr W_rp Mr Nx12 := Fr.t (Fr.m f11 W_rx_p) fr12
    obtain ⟨ti12, tz12, tn12, tu12, t1312, t1012, t1112, t1212, t912, t1612, t1912, tb12⟩ := tc12
    obtain ⟨re12, rn12, ru12, rm12, rt12, u4112, u4212, u4312, u5112, u5312, u4812, u4912, ub12⟩ := tr12
    refine rsl (cV_e rfl) ?_
    refine rsr (cV_e rfl) ?_
    refine rsl (vC_e (ck_65 (hC.fr FL12))) ?_
    refine RlI (y87 (by omega) (hC.fr FL12) (hTk.fr (WL := W_cp) FL12 (by decide)) (t1212) (t1312) (t1012) (t1112) (t912) (t1612) (t1912) (li_27) (li_0) (by omega)) fun v Ma322 h322 => ?_
    obtain ⟨rv321, sz321, sn321, uc321, rfl, g322, e322_sz321, e322_sn321, e322_uc321, e322_k0, e322_k1, e322_k2, e322_k3, p322_0, p322_1, p322_2, p322_3⟩ := h322
    have f322 : Fr W_cp Mc Ma322 := Fr.t FL12 (Fr.m g322 (by decide))
    refine rsl (cI_e rfl) ?_
    refine rsl (vC_e (ck_65 (hC.fr f322))) ?_
    refine RlI (y87 (by omega) (hC.fr f322) (hTk.fr (WL := W_cp) f322 (by decide)) (e322_k3) (e322_k0) (e322_k1) (e322_k2) (e322_sz321) (e322_sn321) (e322_uc321) (li_25) (li_0) (by omega)) fun v Ma324 h324 => ?_
    obtain ⟨rv323, sz323, sn323, uc323, rfl, g324, e324_sz323, e324_sn323, e324_uc323, e324_k0, e324_k1, e324_k2, e324_k3, p324_0, p324_1, p324_2, p324_3⟩ := h324
    have f324 : Fr W_cp Mc Ma324 := Fr.t f322 (Fr.m g324 (by decide))
    refine rsl (cI_e rfl) ?_
    refine rsl (gtP_q (w := some 73) (ck_65 (hC.fr f324)) (cf_65_6 (hC.fr f324))) ?_
    refine rsl (gtI_q (w := iI sz323) (ck_65 (hC.fr f324)) (e324_sz323)) ?_
    refine rsl (asI_q (n := 4096) (z := e) (y := sz323) (ck_73 (hC.fr f324)) (congrArg iI p8_0) (by omega) (rfl)) ?_
    refine rsl (ltI_q (z := (e + 1)) (adI (congrArg iI p8_0) (li_1))) ?_
    refine rsl (jn_v) ?_
    refine lp95F (hC.fr f324).sI ((sI_ne (by decide)).trans (e324_sz323)) (rfl) (rfl) (by omega) fun Mq325 f325 => ?_
    have ff325 : Fr W_cp Mc Mq325 := Fr.t (Fr.sI (inW_c (by decide) _) f324) (Fr.m f325 (by decide))
    refine rsl (vC_e (ck_65 (hC.fr ff325))) ?_
    refine RlV (y64 (by omega) (hC.fr ff325) (hTk.fr (WL := W_cp) ff325 (by decide)) ((f325.i _ _ (by decide)).trans ((sI_ne (by decide)).trans (e324_k3))) ((f325.i _ _ (by decide)).trans ((sI_ne (by decide)).trans (e324_k0))) ((f325.i _ _ (by decide)).trans ((sI_ne (by decide)).trans (e324_k1))) ((f325.i _ _ (by decide)).trans ((sI_ne (by decide)).trans (e324_k2))) ((f325.i _ _ (by decide)).trans ((sI_ne (by decide)).trans (e324_sz323))) ((f325.i _ _ (by decide)).trans ((sI_ne (by decide)).trans (e324_sn323))) ((f325.i _ _ (by decide)).trans ((sI_ne (by decide)).trans (e324_uc323))) (li_223) (by omega)) fun v Ma327 h327 => ?_
    obtain ⟨sz326, sn326, uc326, g327, e327_sz326, e327_sn326, e327_uc326, e327_k0, e327_k1, e327_k2, e327_k3, p327_0, p327_1, p327_2⟩ := h327
    have f327 : Fr W_cp Mc Ma327 := Fr.t ff325 (Fr.m g327 (by decide))
    refine rsl (cV_e rfl) ?_
    refine rsl (gtI_q (w := iI sn326) (ck_65 (hC.fr f327)) (e327_sn326)) ?_
    refine rsl (vC_e (ck_65 (hC.fr f327))) ?_
    refine RlL (y65 (by omega) (hC.fr f327) (hTk.fr (WL := W_cp) f327 (by decide)) (e327_k3) (e327_k0) (e327_k1) (e327_k2) (e327_sz326) (e327_sn326) (e327_uc326)  (by omega)) fun v Ma329 h329 => ?_
    obtain ⟨rv328, sz328, sn328, uc328, rfl, g329, e329_sz328, e329_sn328, e329_uc328, e329_k0, e329_k1, e329_k2, e329_k3, p329_0, p329_1, p329_2⟩ := h329
    have f329 : Fr W_cp Mc Ma329 := Fr.t f327 (Fr.m g329 (by decide))
    refine rsl (cL_e rfl) ?_
    refine rsl (vC_e (ck_65 (hC.fr f329))) ?_
    refine RlI (y74 (by omega) (hC.fr f329) (hTk.fr (WL := W_cp) f329 (by decide)) (e329_k3) (e329_k0) (e329_k1) (e329_k2) (e329_sz328) (e329_sn328) (e329_uc328)  (by omega)) fun v Ma331 h331 => ?_
    obtain ⟨rv330, sz330, sn330, uc330, rfl, g331, e331_sz330, e331_sn330, e331_uc330, e331_k0, e331_k1, e331_k2, e331_k3, p331_0, p331_1, p331_2, p331_3⟩ := h331
    have f331 : Fr W_cp Mc Ma331 := Fr.t f329 (Fr.m g331 (by decide))
    refine rsl (cI_e rfl) ?_
    refine rsl (jn_v) ?_
    by_cases c332 : rv330 < 0
    · refine rsl (if_pos (lsI_p (rfl) (li_0) (by omega))) ?_
      refine rsl (jv_e) ?_
      refine rsl (gtI_q (w := iI sn330) (ck_65 (hC.fr f331)) (e331_sn330)) ?_
      refine rsl (jn_v) ?_
      by_cases c333 : sn330 < 10
      · refine rsl (if_pos (lsI_p (rfl) (li_10) (by omega))) ?_
        refine rsl (jv_e) ?_
        refine rsl (vC_e (ck_65 (hC.fr f331))) ?_
        refine RlL (y66 (by omega) (hC.fr f331) (hTk.fr (WL := W_cp) f331 (by decide)) (e331_k3) (e331_k0) (e331_k1) (e331_k2) (e331_sz330) (e331_sn330) (e331_uc330) (li_0) (li_0) (by omega)) fun v Ma335 h335 => ?_
        obtain ⟨rv334, sz334, sn334, uc334, rfl, g335, e335_sz334, e335_sn334, e335_uc334, e335_k0, e335_k1, e335_k2, e335_k3, p335_0, p335_1, p335_2⟩ := h335
        have f335 : Fr W_cp Mc Ma335 := Fr.t f331 (Fr.m g335 (by decide))
        refine rsl (cL_e rfl) ?_
        refine rsl (gtI_q (w := iI sn334) (ck_65 (hC.fr f335)) (e335_sn334)) ?_
        refine rsl (vC_e (ck_65 (hC.fr f335))) ?_
        refine RlI (y87 (by omega) (hC.fr f335) (hTk.fr (WL := W_cp) f335 (by decide)) (e335_k3) (e335_k0) (e335_k1) (e335_k2) (e335_sz334) (e335_sn334) (e335_uc334) (li_2) (rfl) (by omega)) fun v Ma337 h337 => ?_
        obtain ⟨rv336, sz336, sn336, uc336, rfl, g337, e337_sz336, e337_sn336, e337_uc336, e337_k0, e337_k1, e337_k2, e337_k3, p337_0, p337_1, p337_2, p337_3⟩ := h337
        have f337 : Fr W_cp Mc Ma337 := Fr.t f335 (Fr.m g337 (by decide))
        refine rsl (cI_e rfl) ?_
        refine rsl (vC_e (ck_65 (hC.fr f337))) ?_
        refine RlV (y75 (by omega) (hC.fr f337) (hTk.fr (WL := W_cp) f337 (by decide)) (e337_k3) (e337_k0) (e337_k1) (e337_k2) (e337_sz336) (e337_sn336) (e337_uc336)  (by omega)) fun v Ma339 h339 => ?_
        obtain ⟨sz338, sn338, uc338, g339, e339_sz338, e339_sn338, e339_uc338, e339_k0, e339_k1, e339_k2, e339_k3, p339_0, p339_1, p339_2⟩ := h339
        have f339 : Fr W_cp Mc Ma339 := Fr.t f337 (Fr.m g339 (by decide))
        refine rsl (cV_e rfl) ?_
        refine rsl (vC_e (ck_65 (hC.fr f339))) ?_
        refine RlV (y89 (by omega) (hC.fr f339) (hTk.fr (WL := W_cp) f339 (by decide)) (e339_k3) (e339_k0) (e339_k1) (e339_k2) (e339_sz338) (e339_sn338) (e339_uc338) (hv0) (by omega)) fun v Ma341 h341 => ?_
        obtain ⟨sz340, sn340, uc340, g341, e341_sz340, e341_sn340, e341_uc340, e341_k0, e341_k1, e341_k2, e341_k3, p341_0, p341_1, p341_2⟩ := h341
        have f341 : Fr W_cp Mc Ma341 := Fr.t f339 (Fr.m g341 (by decide))
        refine rsl (cV_e rfl) ?_
        refine rsl (ptI_q (z := sn326) (ck_65 (hC.fr f341)) (rfl)) ?_
        refine rsl (gtP_q (w := some 73) (ck_65 (hC.fr f341).sI) (cf_65_6 (hC.fr f341).sI)) ?_
        refine rsl (gtI_q (w := iI sz340) (ck_65 (hC.fr f341).sI) ((sI_nej (by decide)).trans (e341_sz340))) ?_
        refine rsl (asI_q (n := 4096) (z := rv323) (y := sz340) (ck_73 (hC.fr f341).sI) (rfl) (by omega) (rfl)) ?_
        refine rsr (vC_e (rk_160 (hR.fr FR12))) ?_
        refine RrI (x196_s (by omega) (hR.fr FR12) (u4112) (u4212) (u4312) (u5112) (u5312) (u4812) (u4912) (li_27) (li_0) (by omega)) fun v Ma343 h343 => ?_
        obtain ⟨rv342, em342, rfl, g343, e343_em342, e343_k0, e343_k1, e343_k2, e343_k3, e343_k4, p343_0, p343_1⟩ := h343
        have f343 : Fr W_rp Mr Ma343 := Fr.t FR12 (Fr.m g343 (by decide))
        refine rsr (cI_e rfl) ?_
        refine rsr (vC_e (rk_160 (hR.fr f343))) ?_
        refine RrI (x196_s (by omega) (hR.fr f343) (e343_k0) (e343_k1) (e343_em342) (e343_k2) (e343_k3) (e343_k4) ((g343.i _ _ (by decide)).trans (u4912)) (li_25) (li_0) (by omega)) fun v Ma345 h345 => ?_
        obtain ⟨rv344, em344, rfl, g345, e345_em344, e345_k0, e345_k1, e345_k2, e345_k3, e345_k4, p345_0, p345_1⟩ := h345
        have f345 : Fr W_rp Mr Ma345 := Fr.t f343 (Fr.m g345 (by decide))
        refine rsr (cI_e rfl) ?_
        refine rsr (gtP_q (w := some 196) (rk_160 (hR.fr f345)) (rf_45 (hR.fr f345))) ?_
        refine rsr (gtI_q (w := iI em344) (rk_160 (hR.fr f345)) (e345_em344)) ?_
        refine rsr (asI_q (n := 4000) (z := e) (y := em344) (rk_196 (hR.fr f345)) (congrArg iI p10_0) (by omega) (rfl)) ?_
        refine rsr (vC_e (rk_160 (hR.fr f345).sI)) ?_
        refine RrI (x195_s (by omega) (hR.fr f345).sI ((sI_ne (by decide)).trans (e345_k0)) ((sI_ne (by decide)).trans (e345_k1)) ((sI_ne (by decide)).trans (e345_em344)) ((sI_ne (by decide)).trans (e345_k2)) ((sI_ne (by decide)).trans (e345_k3)) ((sI_ne (by decide)).trans (e345_k4)) ((sI_ne (by decide)).trans ((g345.i _ _ (by decide)).trans ((g343.i _ _ (by decide)).trans (u4912)))) (li_424) (by omega)) fun v Ma347 h347 => ?_
        obtain ⟨rv346, em346, rfl, g347, e347_em346, e347_k0, e347_k1, e347_k2, e347_k3, e347_k4, p347_0, p347_1⟩ := h347
        have f347 : Fr W_rp Mr Ma347 := Fr.t (Fr.sI (inW_c (by decide) _) f345) (Fr.m g347 (by decide))
        refine rsr (cI_e rfl) ?_
        refine rsr (vC_e (rk_160 (hR.fr f347))) ?_
        refine RrI (x198_s (by omega) (hR.fr f347) (e347_k0) (e347_k1) (e347_em346) (e347_k2) (e347_k3) (e347_k4) ((g347.i _ _ (by decide)).trans ((sI_ne (by decide)).trans ((g345.i _ _ (by decide)).trans ((g343.i _ _ (by decide)).trans (u4912)))))  (by omega)) fun v Ma349 h349 => ?_
        obtain ⟨rv348, em348, rfl, g349, e349_em348, e349_k0, e349_k1, e349_k2, e349_k3, e349_k4, p349_0, p349_1⟩ := h349
        have f349 : Fr W_rp Mr Ma349 := Fr.t f347 (Fr.m g349 (by decide))
        refine rsr (cI_e rfl) ?_
        refine rsr (jn_v) ?_
        refine rsr (if_pos (eqI_p (rfl) (li_0) (by omega))) ?_
        refine rsr (jv_e) ?_
        exact Rs.ok (Or.inr ⟨F12, P12, (Fr.sI (inW_c (by decide) _) (Fr.sI (by decide) f341)), f349, ⟨ti12, sz340, sn326, uc340, (sI_ne (by decide)).trans ((sI_nej (by decide)).trans (e341_k0)), (sI_ne (by decide)).trans ((sI_nej (by decide)).trans (e341_k1)), (sI_ne (by decide)).trans ((sI_nej (by decide)).trans (e341_k2)), (sI_ne (by decide)).trans ((sI_nej (by decide)).trans (e341_k3)), (sI_ne (by decide)).trans ((sI_nej (by decide)).trans (e341_sz340)), (sI_ne (by decide)).trans (sI_eq), (sI_ne (by decide)).trans ((sI_nej (by decide)).trans (e341_uc340)), by omega⟩, ⟨em348, rn12, ru12, rm12, rt12, e349_k0, e349_k1, e349_em348, e349_k2, e349_k3, e349_k4, (g349.i _ _ (by decide)).trans ((g347.i _ _ (by decide)).trans ((sI_ne (by decide)).trans ((g345.i _ _ (by decide)).trans ((g343.i _ _ (by decide)).trans (u4912))))), by omega⟩⟩)
      · refine rsl (if_neg (lsI_n (rfl) (li_10) (by omega))) ?_
        refine rsl (jv_e) ?_
        refine rsl (vC_e (ck_65 (hC.fr f331))) ?_
        refine RlL (y66 (by omega) (hC.fr f331) (hTk.fr (WL := W_cp) f331 (by decide)) (e331_k3) (e331_k0) (e331_k1) (e331_k2) (e331_sz330) (e331_sn330) (e331_uc330) (li_0) (li_1) (by omega)) fun v Ma351 h351 => ?_
        obtain ⟨rv350, sz350, sn350, uc350, rfl, g351, e351_sz350, e351_sn350, e351_uc350, e351_k0, e351_k1, e351_k2, e351_k3, p351_0, p351_1, p351_2⟩ := h351
        have f351 : Fr W_cp Mc Ma351 := Fr.t f331 (Fr.m g351 (by decide))
        refine rsl (cL_e rfl) ?_
        refine rsl (gtI_q (w := iI sn350) (ck_65 (hC.fr f351)) (e351_sn350)) ?_
        refine rsl (vC_e (ck_65 (hC.fr f351))) ?_
        refine RlI (y87 (by omega) (hC.fr f351) (hTk.fr (WL := W_cp) f351 (by decide)) (e351_k3) (e351_k0) (e351_k1) (e351_k2) (e351_sz350) (e351_sn350) (e351_uc350) (li_2) (rfl) (by omega)) fun v Ma353 h353 => ?_
        obtain ⟨rv352, sz352, sn352, uc352, rfl, g353, e353_sz352, e353_sn352, e353_uc352, e353_k0, e353_k1, e353_k2, e353_k3, p353_0, p353_1, p353_2, p353_3⟩ := h353
        have f353 : Fr W_cp Mc Ma353 := Fr.t f351 (Fr.m g353 (by decide))
        refine rsl (cI_e rfl) ?_
        refine rsl (vC_e (ck_65 (hC.fr f353))) ?_
        refine RlV (y75 (by omega) (hC.fr f353) (hTk.fr (WL := W_cp) f353 (by decide)) (e353_k3) (e353_k0) (e353_k1) (e353_k2) (e353_sz352) (e353_sn352) (e353_uc352)  (by omega)) fun v Ma355 h355 => ?_
        obtain ⟨sz354, sn354, uc354, g355, e355_sz354, e355_sn354, e355_uc354, e355_k0, e355_k1, e355_k2, e355_k3, p355_0, p355_1, p355_2⟩ := h355
        have f355 : Fr W_cp Mc Ma355 := Fr.t f353 (Fr.m g355 (by decide))
        refine rsl (cV_e rfl) ?_
        refine rsl (vC_e (ck_65 (hC.fr f355))) ?_
        refine RlV (y89 (by omega) (hC.fr f355) (hTk.fr (WL := W_cp) f355 (by decide)) (e355_k3) (e355_k0) (e355_k1) (e355_k2) (e355_sz354) (e355_sn354) (e355_uc354) (hv0) (by omega)) fun v Ma357 h357 => ?_
        obtain ⟨sz356, sn356, uc356, g357, e357_sz356, e357_sn356, e357_uc356, e357_k0, e357_k1, e357_k2, e357_k3, p357_0, p357_1, p357_2⟩ := h357
        have f357 : Fr W_cp Mc Ma357 := Fr.t f355 (Fr.m g357 (by decide))
        refine rsl (cV_e rfl) ?_
        refine rsl (ptI_q (z := sn326) (ck_65 (hC.fr f357)) (rfl)) ?_
        refine rsl (gtP_q (w := some 73) (ck_65 (hC.fr f357).sI) (cf_65_6 (hC.fr f357).sI)) ?_
        refine rsl (gtI_q (w := iI sz356) (ck_65 (hC.fr f357).sI) ((sI_nej (by decide)).trans (e357_sz356))) ?_
        refine rsl (asI_q (n := 4096) (z := rv323) (y := sz356) (ck_73 (hC.fr f357).sI) (rfl) (by omega) (rfl)) ?_
        refine rsr (vC_e (rk_160 (hR.fr FR12))) ?_
        refine RrI (x196_s (by omega) (hR.fr FR12) (u4112) (u4212) (u4312) (u5112) (u5312) (u4812) (u4912) (li_27) (li_0) (by omega)) fun v Ma359 h359 => ?_
        obtain ⟨rv358, em358, rfl, g359, e359_em358, e359_k0, e359_k1, e359_k2, e359_k3, e359_k4, p359_0, p359_1⟩ := h359
        have f359 : Fr W_rp Mr Ma359 := Fr.t FR12 (Fr.m g359 (by decide))
        refine rsr (cI_e rfl) ?_
        refine rsr (vC_e (rk_160 (hR.fr f359))) ?_
        refine RrI (x196_s (by omega) (hR.fr f359) (e359_k0) (e359_k1) (e359_em358) (e359_k2) (e359_k3) (e359_k4) ((g359.i _ _ (by decide)).trans (u4912)) (li_25) (li_0) (by omega)) fun v Ma361 h361 => ?_
        obtain ⟨rv360, em360, rfl, g361, e361_em360, e361_k0, e361_k1, e361_k2, e361_k3, e361_k4, p361_0, p361_1⟩ := h361
        have f361 : Fr W_rp Mr Ma361 := Fr.t f359 (Fr.m g361 (by decide))
        refine rsr (cI_e rfl) ?_
        refine rsr (gtP_q (w := some 196) (rk_160 (hR.fr f361)) (rf_45 (hR.fr f361))) ?_
        refine rsr (gtI_q (w := iI em360) (rk_160 (hR.fr f361)) (e361_em360)) ?_
        refine rsr (asI_q (n := 4000) (z := e) (y := em360) (rk_196 (hR.fr f361)) (congrArg iI p10_0) (by omega) (rfl)) ?_
        refine rsr (vC_e (rk_160 (hR.fr f361).sI)) ?_
        refine RrI (x195_s (by omega) (hR.fr f361).sI ((sI_ne (by decide)).trans (e361_k0)) ((sI_ne (by decide)).trans (e361_k1)) ((sI_ne (by decide)).trans (e361_em360)) ((sI_ne (by decide)).trans (e361_k2)) ((sI_ne (by decide)).trans (e361_k3)) ((sI_ne (by decide)).trans (e361_k4)) ((sI_ne (by decide)).trans ((g361.i _ _ (by decide)).trans ((g359.i _ _ (by decide)).trans (u4912)))) (li_424) (by omega)) fun v Ma363 h363 => ?_
        obtain ⟨rv362, em362, rfl, g363, e363_em362, e363_k0, e363_k1, e363_k2, e363_k3, e363_k4, p363_0, p363_1⟩ := h363
        have f363 : Fr W_rp Mr Ma363 := Fr.t (Fr.sI (inW_c (by decide) _) f361) (Fr.m g363 (by decide))
        refine rsr (cI_e rfl) ?_
        refine rsr (vC_e (rk_160 (hR.fr f363))) ?_
        refine RrI (x198_s (by omega) (hR.fr f363) (e363_k0) (e363_k1) (e363_em362) (e363_k2) (e363_k3) (e363_k4) ((g363.i _ _ (by decide)).trans ((sI_ne (by decide)).trans ((g361.i _ _ (by decide)).trans ((g359.i _ _ (by decide)).trans (u4912)))))  (by omega)) fun v Ma365 h365 => ?_
        obtain ⟨rv364, em364, rfl, g365, e365_em364, e365_k0, e365_k1, e365_k2, e365_k3, e365_k4, p365_0, p365_1⟩ := h365
        have f365 : Fr W_rp Mr Ma365 := Fr.t f363 (Fr.m g365 (by decide))
        refine rsr (cI_e rfl) ?_
        refine rsr (jn_v) ?_
        refine rsr (if_pos (eqI_p (rfl) (li_0) (by omega))) ?_
        refine rsr (jv_e) ?_
        exact Rs.ok (Or.inr ⟨F12, P12, (Fr.sI (inW_c (by decide) _) (Fr.sI (by decide) f357)), f365, ⟨ti12, sz356, sn326, uc356, (sI_ne (by decide)).trans ((sI_nej (by decide)).trans (e357_k0)), (sI_ne (by decide)).trans ((sI_nej (by decide)).trans (e357_k1)), (sI_ne (by decide)).trans ((sI_nej (by decide)).trans (e357_k2)), (sI_ne (by decide)).trans ((sI_nej (by decide)).trans (e357_k3)), (sI_ne (by decide)).trans ((sI_nej (by decide)).trans (e357_sz356)), (sI_ne (by decide)).trans (sI_eq), (sI_ne (by decide)).trans ((sI_nej (by decide)).trans (e357_uc356)), by omega⟩, ⟨em364, rn12, ru12, rm12, rt12, e365_k0, e365_k1, e365_em364, e365_k2, e365_k3, e365_k4, (g365.i _ _ (by decide)).trans ((g363.i _ _ (by decide)).trans ((sI_ne (by decide)).trans ((g361.i _ _ (by decide)).trans ((g359.i _ _ (by decide)).trans (u4912))))), by omega⟩⟩)
    · refine rsl (if_neg (lsI_n (rfl) (li_0) (by omega))) ?_
      refine rsl (jv_e) ?_
      refine rsl (gtI_q (w := iI sn330) (ck_65 (hC.fr f331)) (e331_sn330)) ?_
      refine rsl (jn_v) ?_
      by_cases c366 : sn330 < 10
      · refine rsl (if_pos (lsI_p (rfl) (li_10) (by omega))) ?_
        refine rsl (jv_e) ?_
        refine rsl (vC_e (ck_65 (hC.fr f331))) ?_
        refine RlL (y66 (by omega) (hC.fr f331) (hTk.fr (WL := W_cp) f331 (by decide)) (e331_k3) (e331_k0) (e331_k1) (e331_k2) (e331_sz330) (e331_sn330) (e331_uc330) (li_1) (li_0) (by omega)) fun v Ma368 h368 => ?_
        obtain ⟨rv367, sz367, sn367, uc367, rfl, g368, e368_sz367, e368_sn367, e368_uc367, e368_k0, e368_k1, e368_k2, e368_k3, p368_0, p368_1, p368_2⟩ := h368
        have f368 : Fr W_cp Mc Ma368 := Fr.t f331 (Fr.m g368 (by decide))
        refine rsl (cL_e rfl) ?_
        refine rsl (gtI_q (w := iI sn367) (ck_65 (hC.fr f368)) (e368_sn367)) ?_
        refine rsl (vC_e (ck_65 (hC.fr f368))) ?_
        refine RlI (y87 (by omega) (hC.fr f368) (hTk.fr (WL := W_cp) f368 (by decide)) (e368_k3) (e368_k0) (e368_k1) (e368_k2) (e368_sz367) (e368_sn367) (e368_uc367) (li_2) (rfl) (by omega)) fun v Ma370 h370 => ?_
        obtain ⟨rv369, sz369, sn369, uc369, rfl, g370, e370_sz369, e370_sn369, e370_uc369, e370_k0, e370_k1, e370_k2, e370_k3, p370_0, p370_1, p370_2, p370_3⟩ := h370
        have f370 : Fr W_cp Mc Ma370 := Fr.t f368 (Fr.m g370 (by decide))
        refine rsl (cI_e rfl) ?_
        refine rsl (vC_e (ck_65 (hC.fr f370))) ?_
        refine RlV (y75 (by omega) (hC.fr f370) (hTk.fr (WL := W_cp) f370 (by decide)) (e370_k3) (e370_k0) (e370_k1) (e370_k2) (e370_sz369) (e370_sn369) (e370_uc369)  (by omega)) fun v Ma372 h372 => ?_
        obtain ⟨sz371, sn371, uc371, g372, e372_sz371, e372_sn371, e372_uc371, e372_k0, e372_k1, e372_k2, e372_k3, p372_0, p372_1, p372_2⟩ := h372
        have f372 : Fr W_cp Mc Ma372 := Fr.t f370 (Fr.m g372 (by decide))
        refine rsl (cV_e rfl) ?_
        refine rsl (vC_e (ck_65 (hC.fr f372))) ?_
        refine RlV (y89 (by omega) (hC.fr f372) (hTk.fr (WL := W_cp) f372 (by decide)) (e372_k3) (e372_k0) (e372_k1) (e372_k2) (e372_sz371) (e372_sn371) (e372_uc371) (hv0) (by omega)) fun v Ma374 h374 => ?_
        obtain ⟨sz373, sn373, uc373, g374, e374_sz373, e374_sn373, e374_uc373, e374_k0, e374_k1, e374_k2, e374_k3, p374_0, p374_1, p374_2⟩ := h374
        have f374 : Fr W_cp Mc Ma374 := Fr.t f372 (Fr.m g374 (by decide))
        refine rsl (cV_e rfl) ?_
        refine rsl (ptI_q (z := sn326) (ck_65 (hC.fr f374)) (rfl)) ?_
        refine rsl (gtP_q (w := some 73) (ck_65 (hC.fr f374).sI) (cf_65_6 (hC.fr f374).sI)) ?_
        refine rsl (gtI_q (w := iI sz373) (ck_65 (hC.fr f374).sI) ((sI_nej (by decide)).trans (e374_sz373))) ?_
        refine rsl (asI_q (n := 4096) (z := rv323) (y := sz373) (ck_73 (hC.fr f374).sI) (rfl) (by omega) (rfl)) ?_
        refine rsr (vC_e (rk_160 (hR.fr FR12))) ?_
        refine RrI (x196_s (by omega) (hR.fr FR12) (u4112) (u4212) (u4312) (u5112) (u5312) (u4812) (u4912) (li_27) (li_0) (by omega)) fun v Ma376 h376 => ?_
        obtain ⟨rv375, em375, rfl, g376, e376_em375, e376_k0, e376_k1, e376_k2, e376_k3, e376_k4, p376_0, p376_1⟩ := h376
        have f376 : Fr W_rp Mr Ma376 := Fr.t FR12 (Fr.m g376 (by decide))
        refine rsr (cI_e rfl) ?_
        refine rsr (vC_e (rk_160 (hR.fr f376))) ?_
        refine RrI (x196_s (by omega) (hR.fr f376) (e376_k0) (e376_k1) (e376_em375) (e376_k2) (e376_k3) (e376_k4) ((g376.i _ _ (by decide)).trans (u4912)) (li_25) (li_0) (by omega)) fun v Ma378 h378 => ?_
        obtain ⟨rv377, em377, rfl, g378, e378_em377, e378_k0, e378_k1, e378_k2, e378_k3, e378_k4, p378_0, p378_1⟩ := h378
        have f378 : Fr W_rp Mr Ma378 := Fr.t f376 (Fr.m g378 (by decide))
        refine rsr (cI_e rfl) ?_
        refine rsr (gtP_q (w := some 196) (rk_160 (hR.fr f378)) (rf_45 (hR.fr f378))) ?_
        refine rsr (gtI_q (w := iI em377) (rk_160 (hR.fr f378)) (e378_em377)) ?_
        refine rsr (asI_q (n := 4000) (z := e) (y := em377) (rk_196 (hR.fr f378)) (congrArg iI p10_0) (by omega) (rfl)) ?_
        refine rsr (vC_e (rk_160 (hR.fr f378).sI)) ?_
        refine RrI (x195_s (by omega) (hR.fr f378).sI ((sI_ne (by decide)).trans (e378_k0)) ((sI_ne (by decide)).trans (e378_k1)) ((sI_ne (by decide)).trans (e378_em377)) ((sI_ne (by decide)).trans (e378_k2)) ((sI_ne (by decide)).trans (e378_k3)) ((sI_ne (by decide)).trans (e378_k4)) ((sI_ne (by decide)).trans ((g378.i _ _ (by decide)).trans ((g376.i _ _ (by decide)).trans (u4912)))) (li_424) (by omega)) fun v Ma380 h380 => ?_
        obtain ⟨rv379, em379, rfl, g380, e380_em379, e380_k0, e380_k1, e380_k2, e380_k3, e380_k4, p380_0, p380_1⟩ := h380
        have f380 : Fr W_rp Mr Ma380 := Fr.t (Fr.sI (inW_c (by decide) _) f378) (Fr.m g380 (by decide))
        refine rsr (cI_e rfl) ?_
        refine rsr (vC_e (rk_160 (hR.fr f380))) ?_
        refine RrI (x198_s (by omega) (hR.fr f380) (e380_k0) (e380_k1) (e380_em379) (e380_k2) (e380_k3) (e380_k4) ((g380.i _ _ (by decide)).trans ((sI_ne (by decide)).trans ((g378.i _ _ (by decide)).trans ((g376.i _ _ (by decide)).trans (u4912)))))  (by omega)) fun v Ma382 h382 => ?_
        obtain ⟨rv381, em381, rfl, g382, e382_em381, e382_k0, e382_k1, e382_k2, e382_k3, e382_k4, p382_0, p382_1⟩ := h382
        have f382 : Fr W_rp Mr Ma382 := Fr.t f380 (Fr.m g382 (by decide))
        refine rsr (cI_e rfl) ?_
        refine rsr (jn_v) ?_
        refine rsr (if_pos (eqI_p (rfl) (li_0) (by omega))) ?_
        refine rsr (jv_e) ?_
        exact Rs.ok (Or.inr ⟨F12, P12, (Fr.sI (inW_c (by decide) _) (Fr.sI (by decide) f374)), f382, ⟨ti12, sz373, sn326, uc373, (sI_ne (by decide)).trans ((sI_nej (by decide)).trans (e374_k0)), (sI_ne (by decide)).trans ((sI_nej (by decide)).trans (e374_k1)), (sI_ne (by decide)).trans ((sI_nej (by decide)).trans (e374_k2)), (sI_ne (by decide)).trans ((sI_nej (by decide)).trans (e374_k3)), (sI_ne (by decide)).trans ((sI_nej (by decide)).trans (e374_sz373)), (sI_ne (by decide)).trans (sI_eq), (sI_ne (by decide)).trans ((sI_nej (by decide)).trans (e374_uc373)), by omega⟩, ⟨em381, rn12, ru12, rm12, rt12, e382_k0, e382_k1, e382_em381, e382_k2, e382_k3, e382_k4, (g382.i _ _ (by decide)).trans ((g380.i _ _ (by decide)).trans ((sI_ne (by decide)).trans ((g378.i _ _ (by decide)).trans ((g376.i _ _ (by decide)).trans (u4912))))), by omega⟩⟩)
      · refine rsl (if_neg (lsI_n (rfl) (li_10) (by omega))) ?_
        refine rsl (jv_e) ?_
        refine rsl (vC_e (ck_65 (hC.fr f331))) ?_
        refine RlL (y66 (by omega) (hC.fr f331) (hTk.fr (WL := W_cp) f331 (by decide)) (e331_k3) (e331_k0) (e331_k1) (e331_k2) (e331_sz330) (e331_sn330) (e331_uc330) (li_1) (li_1) (by omega)) fun v Ma384 h384 => ?_
        obtain ⟨rv383, sz383, sn383, uc383, rfl, g384, e384_sz383, e384_sn383, e384_uc383, e384_k0, e384_k1, e384_k2, e384_k3, p384_0, p384_1, p384_2⟩ := h384
        have f384 : Fr W_cp Mc Ma384 := Fr.t f331 (Fr.m g384 (by decide))
        refine rsl (cL_e rfl) ?_
        refine rsl (gtI_q (w := iI sn383) (ck_65 (hC.fr f384)) (e384_sn383)) ?_
        refine rsl (vC_e (ck_65 (hC.fr f384))) ?_
        refine RlI (y87 (by omega) (hC.fr f384) (hTk.fr (WL := W_cp) f384 (by decide)) (e384_k3) (e384_k0) (e384_k1) (e384_k2) (e384_sz383) (e384_sn383) (e384_uc383) (li_2) (rfl) (by omega)) fun v Ma386 h386 => ?_
        obtain ⟨rv385, sz385, sn385, uc385, rfl, g386, e386_sz385, e386_sn385, e386_uc385, e386_k0, e386_k1, e386_k2, e386_k3, p386_0, p386_1, p386_2, p386_3⟩ := h386
        have f386 : Fr W_cp Mc Ma386 := Fr.t f384 (Fr.m g386 (by decide))
        refine rsl (cI_e rfl) ?_
        refine rsl (vC_e (ck_65 (hC.fr f386))) ?_
        refine RlV (y75 (by omega) (hC.fr f386) (hTk.fr (WL := W_cp) f386 (by decide)) (e386_k3) (e386_k0) (e386_k1) (e386_k2) (e386_sz385) (e386_sn385) (e386_uc385)  (by omega)) fun v Ma388 h388 => ?_
        obtain ⟨sz387, sn387, uc387, g388, e388_sz387, e388_sn387, e388_uc387, e388_k0, e388_k1, e388_k2, e388_k3, p388_0, p388_1, p388_2⟩ := h388
        have f388 : Fr W_cp Mc Ma388 := Fr.t f386 (Fr.m g388 (by decide))
        refine rsl (cV_e rfl) ?_
        refine rsl (vC_e (ck_65 (hC.fr f388))) ?_
        refine RlV (y89 (by omega) (hC.fr f388) (hTk.fr (WL := W_cp) f388 (by decide)) (e388_k3) (e388_k0) (e388_k1) (e388_k2) (e388_sz387) (e388_sn387) (e388_uc387) (hv0) (by omega)) fun v Ma390 h390 => ?_
        obtain ⟨sz389, sn389, uc389, g390, e390_sz389, e390_sn389, e390_uc389, e390_k0, e390_k1, e390_k2, e390_k3, p390_0, p390_1, p390_2⟩ := h390
        have f390 : Fr W_cp Mc Ma390 := Fr.t f388 (Fr.m g390 (by decide))
        refine rsl (cV_e rfl) ?_
        refine rsl (ptI_q (z := sn326) (ck_65 (hC.fr f390)) (rfl)) ?_
        refine rsl (gtP_q (w := some 73) (ck_65 (hC.fr f390).sI) (cf_65_6 (hC.fr f390).sI)) ?_
        refine rsl (gtI_q (w := iI sz389) (ck_65 (hC.fr f390).sI) ((sI_nej (by decide)).trans (e390_sz389))) ?_
        refine rsl (asI_q (n := 4096) (z := rv323) (y := sz389) (ck_73 (hC.fr f390).sI) (rfl) (by omega) (rfl)) ?_
        refine rsr (vC_e (rk_160 (hR.fr FR12))) ?_
        refine RrI (x196_s (by omega) (hR.fr FR12) (u4112) (u4212) (u4312) (u5112) (u5312) (u4812) (u4912) (li_27) (li_0) (by omega)) fun v Ma392 h392 => ?_
        obtain ⟨rv391, em391, rfl, g392, e392_em391, e392_k0, e392_k1, e392_k2, e392_k3, e392_k4, p392_0, p392_1⟩ := h392
        have f392 : Fr W_rp Mr Ma392 := Fr.t FR12 (Fr.m g392 (by decide))
        refine rsr (cI_e rfl) ?_
        refine rsr (vC_e (rk_160 (hR.fr f392))) ?_
        refine RrI (x196_s (by omega) (hR.fr f392) (e392_k0) (e392_k1) (e392_em391) (e392_k2) (e392_k3) (e392_k4) ((g392.i _ _ (by decide)).trans (u4912)) (li_25) (li_0) (by omega)) fun v Ma394 h394 => ?_
        obtain ⟨rv393, em393, rfl, g394, e394_em393, e394_k0, e394_k1, e394_k2, e394_k3, e394_k4, p394_0, p394_1⟩ := h394
        have f394 : Fr W_rp Mr Ma394 := Fr.t f392 (Fr.m g394 (by decide))
        refine rsr (cI_e rfl) ?_
        refine rsr (gtP_q (w := some 196) (rk_160 (hR.fr f394)) (rf_45 (hR.fr f394))) ?_
        refine rsr (gtI_q (w := iI em393) (rk_160 (hR.fr f394)) (e394_em393)) ?_
        refine rsr (asI_q (n := 4000) (z := e) (y := em393) (rk_196 (hR.fr f394)) (congrArg iI p10_0) (by omega) (rfl)) ?_
        refine rsr (vC_e (rk_160 (hR.fr f394).sI)) ?_
        refine RrI (x195_s (by omega) (hR.fr f394).sI ((sI_ne (by decide)).trans (e394_k0)) ((sI_ne (by decide)).trans (e394_k1)) ((sI_ne (by decide)).trans (e394_em393)) ((sI_ne (by decide)).trans (e394_k2)) ((sI_ne (by decide)).trans (e394_k3)) ((sI_ne (by decide)).trans (e394_k4)) ((sI_ne (by decide)).trans ((g394.i _ _ (by decide)).trans ((g392.i _ _ (by decide)).trans (u4912)))) (li_424) (by omega)) fun v Ma396 h396 => ?_
        obtain ⟨rv395, em395, rfl, g396, e396_em395, e396_k0, e396_k1, e396_k2, e396_k3, e396_k4, p396_0, p396_1⟩ := h396
        have f396 : Fr W_rp Mr Ma396 := Fr.t (Fr.sI (inW_c (by decide) _) f394) (Fr.m g396 (by decide))
        refine rsr (cI_e rfl) ?_
        refine rsr (vC_e (rk_160 (hR.fr f396))) ?_
        refine RrI (x198_s (by omega) (hR.fr f396) (e396_k0) (e396_k1) (e396_em395) (e396_k2) (e396_k3) (e396_k4) ((g396.i _ _ (by decide)).trans ((sI_ne (by decide)).trans ((g394.i _ _ (by decide)).trans ((g392.i _ _ (by decide)).trans (u4912)))))  (by omega)) fun v Ma398 h398 => ?_
        obtain ⟨rv397, em397, rfl, g398, e398_em397, e398_k0, e398_k1, e398_k2, e398_k3, e398_k4, p398_0, p398_1⟩ := h398
        have f398 : Fr W_rp Mr Ma398 := Fr.t f396 (Fr.m g398 (by decide))
        refine rsr (cI_e rfl) ?_
        refine rsr (jn_v) ?_
        refine rsr (if_pos (eqI_p (rfl) (li_0) (by omega))) ?_
        refine rsr (jv_e) ?_
        exact Rs.ok (Or.inr ⟨F12, P12, (Fr.sI (inW_c (by decide) _) (Fr.sI (by decide) f390)), f398, ⟨ti12, sz389, sn326, uc389, (sI_ne (by decide)).trans ((sI_nej (by decide)).trans (e390_k0)), (sI_ne (by decide)).trans ((sI_nej (by decide)).trans (e390_k1)), (sI_ne (by decide)).trans ((sI_nej (by decide)).trans (e390_k2)), (sI_ne (by decide)).trans ((sI_nej (by decide)).trans (e390_k3)), (sI_ne (by decide)).trans ((sI_nej (by decide)).trans (e390_sz389)), (sI_ne (by decide)).trans (sI_eq), (sI_ne (by decide)).trans ((sI_nej (by decide)).trans (e390_uc389)), by omega⟩, ⟨em397, rn12, ru12, rm12, rt12, e398_k0, e398_k1, e398_em397, e398_k2, e398_k3, e398_k4, (g398.i _ _ (by decide)).trans ((g396.i _ _ (by decide)).trans ((sI_ne (by decide)).trans ((g394.i _ _ (by decide)).trans ((g392.i _ _ (by decide)).trans (u4912))))), by omega⟩⟩)
