theorem p_st222 {D : Nat} {dp : Int} (hD : 20 ≤ D) (hB : PairB D dp) : PairT 222 95 [] (D + 10) dp := by
  intro d d2 hd hd2 T n m kd pl E tx ua ut mu Mc Mr G U Hl X i e s u uc v0 hS hx hsc hsr hrw hbd hK hv0
  obtain ⟨d, rfl⟩ : ∃ e, d = e + 1 := ⟨d - 1, by omega⟩
  obtain ⟨d2, rfl⟩ : ∃ e, d2 = e + 1 := ⟨d2 - 1, by omega⟩
  show Rs (runX (d + 1) 95 [va_rf (some 65), .int v0] Mc) (runX (d2 + 1) 214 [va_rf (some 160)] Mr) _
  rw [r95]; unfold b95; rw [aR_e, aI_e, aZ_e]; unfold c95; rw [r214]; unfold b214; rw [aR_e, aZ_e]; unfold c214
  have hCx := hx
  obtain ⟨hC, hR, hTk, hT, hW, ⟨hu1, hu2, hu3, hu4⟩, h49, h48, ⟨hb1, hb2, hb3, hb4⟩⟩ := hx
  obtain ⟨bb_0, bb_1, bb_2, bb_3, bb_4, bb_5, bb_6, bb_7, bb_8, bb_9, bb_10, bb_11⟩ := hbd
  have kua : KU uc Mc Mc := KU.r
  obtain ⟨qa_12, qa_13, qa_10, qa_9, qa_16, qa_19⟩ := hsc
  obtain ⟨wa_36, wa_37, wa_38, wa_41, wa_43, wa_51, wa_53, wa_50, wa_n⟩ := hsr
  obtain ⟨caa, raa, lca, lra, cua, rua⟩ := hrw
  have hk1 := (hS.ok i (by omega) (by omega)).r
  have ty2 := (Tye.r (G := G) (a := e) (s := s))
  have du3 := (DU.r (ut := ut) (mu := mu) (c := uc) (G := G) (U := U) (X := X) (a := e) (u := u))
  refine rsl (vC_e (ck_65 hC)) ?_
  have hm4 : i + 1 < m := hS.more i (by omega) (by omega) (by omega)
  refine rsl (cV_e (a63q (by omega) hS hC (hTk.fr (WL := W_cp) Fr.r (by decide)) (qa_12) (qa_13) (qa_10) (i2 := (i + 1)) (by omega) (by omega))) ?_
  have hk5 := (hS.ok (i + 1) (by omega) (by omega)).r
  refine rsl (vC_e (ck_65 hC.sI.sI)) ?_
  have du7 := DU.em (q := (e + 1)) (o := 26) (n := 0) (p := -2) (l := [0]) du3 (by omega) (by omega)
  refine RlI (a87 (by omega) hC.sI.sI ((sI_nej (by decide)).trans ((sI_nej (by decide)).trans (qa_9))) (li_26) (li_0) (by omega)) fun v Ma8 h8 => ?_
  obtain ⟨r6, rfl, g8, e8_k0, p8_0, p8_1⟩ := h8
  have f8 : Fr W_cp Mc Ma8 := Fr.t (Fr.sI (by decide) (Fr.sI (by decide) Fr.r)) (Fr.m g8 (by decide))
  refine rsl (cI_e rfl) ?_
  refine rsl (vC_e (ck_65 (hC.fr f8))) ?_
  refine rsr (gtI_q (w := iI ((kr (kd i)))) (rk_160 hR) (wa_36)) ?_
  refine rsr (jn_v) ?_
  refine rsr (swI_c) ?_
  refine rsr (if_neg (krI_n (k := 215) (rfl) (li_416) (hS.ok i (by omega) (by omega)) (by unfold KdOK sgk; omega) (by decide +kernel) (by omega) (by omega))) ?_
  refine rsr (swI_c) ?_
  refine rsr (if_neg (krI_n (k := 216) (rfl) (li_417) (hS.ok i (by omega) (by omega)) (by unfold KdOK sgk; omega) (by decide +kernel) (by omega) (by omega))) ?_
  refine rsr (swI_c) ?_
  refine rsr (if_neg (krI_n (k := 217) (rfl) (li_418) (hS.ok i (by omega) (by omega)) (by unfold KdOK sgk; omega) (by decide +kernel) (by omega) (by omega))) ?_
  refine rsr (swI_c) ?_
  refine rsr (if_neg (krI_n (k := 218) (rfl) (li_419) (hS.ok i (by omega) (by omega)) (by unfold KdOK sgk; omega) (by decide +kernel) (by omega) (by omega))) ?_
  refine rsr (swI_c) ?_
  refine rsr (if_neg (krI_n (k := 219) (rfl) (li_420) (hS.ok i (by omega) (by omega)) (by unfold KdOK sgk; omega) (by decide +kernel) (by omega) (by omega))) ?_
  refine rsr (swI_c) ?_
  refine rsr (if_neg (krI_n (k := 220) (rfl) (li_421) (hS.ok i (by omega) (by omega)) (by unfold KdOK sgk; omega) (by decide +kernel) (by omega) (by omega))) ?_
  refine rsr (swI_c) ?_
  refine rsr (if_neg (krI_n (k := 221) (rfl) (li_422) (hS.ok i (by omega) (by omega)) (by unfold KdOK sgk; omega) (by decide +kernel) (by omega) (by omega))) ?_
  refine rsr (swI_c) ?_
  refine rsr (if_pos (krI_p (k := 222) (rfl) (li_423) (by omega) (by decide +kernel))) ?_
  refine rsr (vC_e (rk_160 hR)) ?_
  refine Rs_cVr ?_ (fun v M w N h => rs1 jv_e (Rt.ok h))
  obtain ⟨d2, rfl⟩ : ∃ e, d2 = e + 1 := ⟨d2 - 1, by omega⟩
  rw [r216]; unfold b216; rw [aR_e, aZ_e]; unfold c216
  refine rsr (vC_e (rk_160 hR)) ?_
  refine RrI (a196 (by omega) hR (wa_43) (h49) (h48) (li_26) (li_0) (by omega)) fun v Ma10 h10 => ?_
  obtain ⟨r9, rfl, g10, e10_k0, p10_0, p10_1⟩ := h10
  have f10 : Fr W_rx Mr Ma10 := Fr.t Fr.r (Fr.m g10 (by decide))
  refine rsr (cI_e rfl) ?_
  refine rsr (vC_e (rk_160 (hR.fr f10))) ?_
  refine RrV (nx_ok (by omega) hS (hR.fr f10) (hT.fr (W := W_rx) f10 (by decide) (by decide)) (fun i a b => (Fr.lc (W := W_rx) f10 _ (by decide) _).trans (hW i a b)) (i := i) ((g10.i _ _ (by decide)).trans (wa_41)) ((g10.i _ _ (by decide)).trans (wa_38)) (by omega) (by omega)) fun v Ma12 h12 => ?_
  obtain ⟨g12, e12_k0, e12_k1, e12_k2, p12_0⟩ := h12
  have f12 : Fr W_rx Mr Ma12 := Fr.t f10 (Fr.m g12 (by decide))
  refine rsr (cV_e rfl) ?_
  refine rsr (vC_e (rk_160 (hR.fr f12))) ?_
  refine Rb_VV (hB _ _ (by omega) (by omega) T n m kd pl E tx ua ut mu _ _ (pu G e [26, 0, -2, 0, ut, mu, 0]) U Hl X (i + 1) (e + 1) s u uc _ hS (hCx.fr f8 f12) ⟨(g8.i _ _ (by decide)).trans ((sI_nej (by decide)).trans (sI_eq)), (g8.i _ _ (by decide)).trans (sI_eq), (g8.i _ _ (by decide)).trans ((sI_nej (by decide)).trans ((sI_nej (by decide)).trans (qa_10))), e8_k0, (g8.i _ _ (by decide)).trans ((sI_nej (by decide)).trans ((sI_nej (by decide)).trans (qa_16))), (g8.i _ _ (by decide)).trans ((sI_nej (by decide)).trans ((sI_nej (by decide)).trans (qa_19)))⟩ ⟨e12_k0, e12_k1, e12_k2, (g12.i _ _ (by decide)).trans ((g10.i _ _ (by decide)).trans (wa_41)), (g12.i _ _ (by decide)).trans (e10_k0), (g12.i _ _ (by decide)).trans ((g10.i _ _ (by decide)).trans (wa_51)), (g12.i _ _ (by decide)).trans ((g10.i _ _ (by decide)).trans (wa_53)), (g12.i _ _ (by decide)).trans ((g10.i _ _ (by decide)).trans (wa_50)), p12_0⟩ ⟨(CA1.em (caa.fr (W := W_c0) (Fr.sI (by decide) (Fr.sI (by decide) Fr.r)) (by decide)) (by omega) p8_1 rfl), ((RA1.em raa (by omega) p10_1 rfl).fr g12 (by decide)), ((lca.fr (W := W_c0) (Fr.sI (by decide) (Fr.sI (by decide) Fr.r)) (by decide)).fr g8 (by decide)), ((lra.fr g10 (by decide)).fr g12 (by decide)), ((cua.fr (W := W_c0) (Fr.sI (by decide) (Fr.sI (by decide) Fr.r)) (by decide)).fr g8 (by decide)), ((rua.fr g10 (by decide)).fr g12 (by decide))⟩ ⟨by omega, by omega, by omega, by omega, by omega, by omega, by omega, by omega, by omega, by omega, by omega, by omega⟩ (hv0)) fun v Mx13 w Nx13 hx13 => ?_
  rcases hx13 with ⟨i13, e13, u13, uc13, G13, U13, X13, fl13, fr13, sc13, sr13, rw13, bd13, mv13, ag13, au13, ax13, tp13, dp13, kv13, ⟨sl13, sh13⟩⟩ | ⟨F13, P13, fl13, fr13, tc13, tr13⟩
  ·
    have FL13 : Fr W_cp Mc Mx13 := Fr.t f8 fl13
    have FR13 : Fr W_rx Mr Nx13 := Fr.t f12 fr13
    obtain ⟨bb13_0, bb13_1, bb13_2, bb13_3, bb13_4, bb13_5, bb13_6, bb13_7, bb13_8, bb13_9, bb13_10, bb13_11⟩ := bd13
    obtain ⟨q13_12, q13_13, q13_10, q13_9, q13_16, q13_19⟩ := sc13
    obtain ⟨w13_36, w13_37, w13_38, w13_41, w13_43, w13_51, w13_53, w13_50, w13_n⟩ := sr13
    obtain ⟨ca13, ra13, lc13, lr13, cu13, ru13⟩ := rw13
    have hk14 := (hS.ok i13 (by omega) (by omega)).r
    have ku13 := KU.t ((kua.fr (W := W_c0) (Fr.sI (by decide) (Fr.sI (by decide) Fr.r)) (by decide)).fr g8 (by decide)) kv13 (by omega)
    have du15 := DU.t du7 ag13 au13 ax13 dp13 (by omega)
    refine rsl (cV_e rfl) ?_
    refine rsr (cV_e rfl) ?_
    refine rsl (vC_e (ck_65 (hC.fr FL13))) ?_
    have du17 := DU.em (q := (e13 + 1)) (o := 27) (n := 0) (p := -2) (l := [0]) du15 (by omega) (by omega)
    refine RlI (a87 (by omega) (hC.fr FL13) (q13_9) (li_27) (li_0) (by omega)) fun v Ma18 h18 => ?_
    obtain ⟨r16, rfl, g18, e18_k0, p18_0, p18_1⟩ := h18
    have f18 : Fr W_cp Mc Ma18 := Fr.t FL13 (Fr.m g18 (by decide))
    refine rsl (cI_e rfl) ?_
    refine rsl (vC_e (ck_65 (hC.fr f18))) ?_
    have du20 := DU.em (q := (e13 + 2)) (o := 25) (n := 0) (p := -2) (l := [0]) du17 (by omega) (by omega)
    refine RlI (a87 (by omega) (hC.fr f18) (e18_k0) (li_25) (li_0) (by omega)) fun v Ma21 h21 => ?_
    obtain ⟨r19, rfl, g21, e21_k0, p21_0, p21_1⟩ := h21
    have f21 : Fr W_cp Mc Ma21 := Fr.t f18 (Fr.m g21 (by decide))
    refine rsl (cI_e rfl) ?_
    refine rsl (gtP_q (w := some 73) (ck_65 (hC.fr f21)) (cf_65_6 (hC.fr f21))) ?_
    refine rsl (gtI_q (w := iI (e13 + 2)) (ck_65 (hC.fr f21)) (e21_k0)) ?_
    refine rsl (asI_q (n := 4096) (z := e) (y := (e13 + 2)) (ck_73 (hC.fr f21)) (congrArg iI p8_0) (by omega) (rfl)) ?_
    have du22 := (DU.pj (j := e) (v2 := (e13 + 2)) du20)
    refine rsl (ltI_q (z := (e + 1)) (adI (congrArg iI p8_0) (li_1))) ?_
    refine rsl (jn_v) ?_
    refine lp95 (hC.fr f21).sI ((sI_ne (by decide)).trans (e21_k0)) (CA1.pt (v := (e13 + 2)) (CA1.em (CA1.em ca13 (by omega) p18_1 rfl) (by omega) p21_1 rfl) (by omega)) (congrArg iI p18_0) (rfl) (by omega) fun Mq23 f23 cq23 => ?_
    have du24 := (DU.pc (a2 := (e + 1)) (b2 := e13) (v2 := (e13 + 2)) du22)
    have ff23 : Fr W_cp Mc Mq23 := Fr.t (Fr.sI (inW_c (by decide) _) f21) (Fr.m f23 (by decide))
    refine rsl (vC_e (ck_65 (hC.fr ff23))) ?_
    by_cases c25 : ((kd i13)) = 223
    ·
      have hm26 : i13 + 1 < m := hS.more i13 (by omega) (by omega) (by omega)
      refine rsl (cV_e (a64q (by omega) hS (hC.fr ff23) (hTk.fr (WL := W_cp) ff23 (by decide)) ((f23.i _ _ (by decide)).trans ((sI_ne (by decide)).trans ((g21.i _ _ (by decide)).trans ((g18.i _ _ (by decide)).trans (q13_12))))) ((f23.i _ _ (by decide)).trans ((sI_ne (by decide)).trans ((g21.i _ _ (by decide)).trans ((g18.i _ _ (by decide)).trans (q13_13))))) ((f23.i _ _ (by decide)).trans ((sI_ne (by decide)).trans ((g21.i _ _ (by decide)).trans ((g18.i _ _ (by decide)).trans (q13_10))))) (li_223) (i2 := (i13 + 1)) (by omega) (by omega))) ?_
      have hk27 := (hS.ok (i13 + 1) (by omega) (by omega)).r
      refine rsl (gtI_q (w := iI s) (ck_65 (hC.fr ff23).sI.sI) ((sI_nej (by decide)).trans ((sI_nej (by decide)).trans ((f23.i _ _ (by decide)).trans ((sI_ne (by decide)).trans ((g21.i _ _ (by decide)).trans ((g18.i _ _ (by decide)).trans (q13_16)))))))) ?_
      refine rsl (vC_e (ck_65 (hC.fr ff23).sI.sI)) ?_
      refine rsl (cL_e (a65 (by omega) hS (hC.fr ff23).sI.sI (hTk.fr (WL := W_cp) (Fr.sI (by decide) (Fr.sI (by decide) ff23)) (by decide)) ((sI_nej (by decide)).trans (sI_eq)) (sI_eq) ((sI_nej (by decide)).trans ((sI_nej (by decide)).trans ((f23.i _ _ (by decide)).trans ((sI_ne (by decide)).trans ((g21.i _ _ (by decide)).trans ((g18.i _ _ (by decide)).trans (q13_10))))))) (by omega))) ?_
      refine rsl (vC_e (ck_65 (hC.fr ff23).sI.sI)) ?_
      by_cases c28 : ((kd (i13 + 1))) = 3
      ·
        refine RlI (a74 (by omega) (hC.fr ff23).sI.sI ((sI_nej (by decide)).trans ((sI_nej (by decide)).trans ((f23.i _ _ (by decide)).trans ((sI_ne (by decide)).trans ((g21.i _ _ (by decide)).trans ((g18.i _ _ (by decide)).trans (q13_16))))))) (((((lc13.fr g18 (by decide)).fr g21 (by decide)).fr (W := W_c2) (Fr.sI (inW_c (by decide) _) Fr.r) (by decide)).fr f23 (by decide)).fr (W := W_c0) (Fr.sI (by decide) (Fr.sI (by decide) Fr.r)) (by decide)) (x := (tx (i13 + 1))) (by omega)) fun v Ml hl => ?_
        obtain ⟨rl29, rfl, hMl29, hlc29⟩ := hl
        rw [hMl29]
        refine rsl (cI_e rfl) ?_
        have brl29 := hlc29.bd
        by_cases crl29 : rl29 = -1
        ·
          refine rsl (jn_v) ?_
          refine rsl (if_pos (lsI_p (congrArg iI (if_pos crl29)) (li_0) (by omega))) ?_
          refine rsl (jv_e) ?_
          refine rsl (gtI_q (w := iI s) (ck_65 (hC.fr ff23).sI.sI) ((sI_nej (by decide)).trans ((sI_nej (by decide)).trans ((f23.i _ _ (by decide)).trans ((sI_ne (by decide)).trans ((g21.i _ _ (by decide)).trans ((g18.i _ _ (by decide)).trans (q13_16)))))))) ?_
          refine rsl (jn_v) ?_
          by_cases c30 : s < 10
          · refine rsl (if_pos (lsI_p (rfl) (li_10) (by omega))) ?_
            refine rsl (jv_e) ?_
            refine rsl (vC_e (ck_65 (hC.fr ff23).sI.sI)) ?_
            have hm31 : (i13 + 1) + 1 < m := hS.more (i13 + 1) (by omega) (by omega) (by omega)
            refine rsl (cL_e (a66q (by omega) hS (hC.fr ff23).sI.sI (hTk.fr (WL := W_cp) (Fr.sI (by decide) (Fr.sI (by decide) ff23)) (by decide)) ((sI_nej (by decide)).trans (sI_eq)) (sI_eq) ((sI_nej (by decide)).trans ((sI_nej (by decide)).trans ((f23.i _ _ (by decide)).trans ((sI_ne (by decide)).trans ((g21.i _ _ (by decide)).trans ((g18.i _ _ (by decide)).trans (q13_10))))))) (li_0) (li_0) (i2 := (i13 + 2)) (by omega) (by omega))) ?_
            have hk32 := (hS.ok (i13 + 2) (by omega) (by omega)).r
            refine rsl (gtI_q (w := iI s) (ck_65 (hC.fr ff23).sI.sI.sI.sI) ((sI_nej (by decide)).trans ((sI_nej (by decide)).trans ((sI_nej (by decide)).trans ((sI_nej (by decide)).trans ((f23.i _ _ (by decide)).trans ((sI_ne (by decide)).trans ((g21.i _ _ (by decide)).trans ((g18.i _ _ (by decide)).trans (q13_16)))))))))) ?_
            refine rsl (vC_e (ck_65 (hC.fr ff23).sI.sI.sI.sI)) ?_
            have du34 := DU.em (q := (e13 + 3)) (o := 2) (n := s) (p := -2) (l := [0]) du24 (by omega) (by omega)
            refine RlI (a87 (by omega) (hC.fr ff23).sI.sI.sI.sI ((sI_nej (by decide)).trans ((sI_nej (by decide)).trans ((sI_nej (by decide)).trans ((sI_nej (by decide)).trans ((f23.i _ _ (by decide)).trans ((sI_ne (by decide)).trans (e21_k0))))))) (li_2) (rfl) (by omega)) fun v Ma35 h35 => ?_
            obtain ⟨r33, rfl, g35, e35_k0, p35_0, p35_1⟩ := h35
            have f35 : Fr W_cp Mc Ma35 := Fr.t (Fr.sI (by decide) (Fr.sI (by decide) (Fr.sI (by decide) (Fr.sI (by decide) ff23)))) (Fr.m g35 (by decide))
            refine rsl (cI_e rfl) ?_
            refine rsl (vC_e (ck_65 (hC.fr f35))) ?_
            refine RlV (a75 (by omega) (hC.fr f35) ((g35.i _ _ (by decide)).trans ((sI_nej (by decide)).trans ((sI_nej (by decide)).trans ((sI_nej (by decide)).trans ((sI_nej (by decide)).trans ((f23.i _ _ (by decide)).trans ((sI_ne (by decide)).trans ((g21.i _ _ (by decide)).trans ((g18.i _ _ (by decide)).trans (q13_16)))))))))) (x := (tx (i13 + 1))) (by omega)) fun v Ma36 h36 => ?_
            obtain ⟨g36, e36_k0, p36_0, p36_1⟩ := h36
            have f36 : Fr W_cp Mc Ma36 := Fr.t f35 (Fr.m g36 (by decide))
            refine rsl (cV_e rfl) ?_
            refine rsl (vC_e (ck_65 (hC.fr f36))) ?_
            refine rsr (vC_e (rk_160 (hR.fr FR13))) ?_
            refine RrI (a196 (by omega) (hR.fr FR13) (w13_43) ((FR13.i _ _ (by decide)).trans h49) ((FR13.i _ _ (by decide)).trans h48) (li_27) (li_0) (by omega)) fun v Ma38 h38 => ?_
            obtain ⟨r37, rfl, g38, e38_k0, p38_0, p38_1⟩ := h38
            have f38 : Fr W_rx Mr Ma38 := Fr.t FR13 (Fr.m g38 (by decide))
            refine rsr (cI_e rfl) ?_
            refine rsr (vC_e (rk_160 (hR.fr f38))) ?_
            refine RrI (a196 (by omega) (hR.fr f38) (e38_k0) ((g38.i _ _ (by decide)).trans ((FR13.i _ _ (by decide)).trans h49)) ((g38.i _ _ (by decide)).trans ((FR13.i _ _ (by decide)).trans h48)) (li_25) (li_0) (by omega)) fun v Ma40 h40 => ?_
            obtain ⟨r39, rfl, g40, e40_k0, p40_0, p40_1⟩ := h40
            have f40 : Fr W_rx Mr Ma40 := Fr.t f38 (Fr.m g40 (by decide))
            refine rsr (cI_e rfl) ?_
            refine rsr (gtP_q (w := some 196) (rk_160 (hR.fr f40)) (rf_45 (hR.fr f40))) ?_
            refine rsr (gtI_q (w := iI (e13 + 2)) (rk_160 (hR.fr f40)) (e40_k0)) ?_
            refine rsr (asI_q (n := 4000) (z := e) (y := (e13 + 2)) (rk_196 (hR.fr f40)) (congrArg iI p10_0) (by omega) (rfl)) ?_
            refine rsr (vC_e (rk_160 (hR.fr f40).sI)) ?_
            refine RrI (a195_424 (by omega) hS (hR.fr f40).sI (hT.fr (W := W_rx) (Fr.sI (inW_c (by decide) _) f40) (by decide) (by decide)) (fun i a b => (Fr.lc (W := W_rx) (Fr.sI (inW_c (by decide) _) f40) _ (by decide) _).trans (hW i a b)) ((sI_ne (by decide)).trans ((g40.i _ _ (by decide)).trans ((g38.i _ _ (by decide)).trans (w13_36)))) ((sI_ne (by decide)).trans ((g40.i _ _ (by decide)).trans ((g38.i _ _ (by decide)).trans (w13_37)))) ((sI_ne (by decide)).trans ((g40.i _ _ (by decide)).trans ((g38.i _ _ (by decide)).trans (w13_38)))) ((sI_ne (by decide)).trans ((g40.i _ _ (by decide)).trans ((g38.i _ _ (by decide)).trans (w13_41)))) (li_424) (i2 := (i13 + 1)) (by omega) (by omega)) fun v Ma42 h42 => ?_
            obtain ⟨r41, rfl, g42, e42_k0, e42_k1, e42_k2, p42_0, p42_1⟩ := h42
            have f42 : Fr W_rx Mr Ma42 := Fr.t (Fr.sI (inW_c (by decide) _) f40) (Fr.m g42 (by decide))
            refine rsr (cI_e rfl) ?_
            refine rsr (vC_e (rk_160 (hR.fr f42))) ?_
            refine rsr (cI_e (a198_p (by omega) hS (hR.fr f42) (e42_k0) (e42_k1) ((g42.i _ _ (by decide)).trans ((sI_ne (by decide)).trans ((g40.i _ _ (by decide)).trans ((g38.i _ _ (by decide)).trans (w13_41))))) p42_1 ((g42.i _ _ (by decide)).trans ((sI_ne (by decide)).trans ((g40.i _ _ (by decide)).trans ((g38.i _ _ (by decide)).trans (w13_51))))) ((((lr13.fr g38 (by decide)).fr g40 (by decide)).fr (W := W_r2) (Fr.sI (inW_c (by decide) _) Fr.r) (by decide)).fr g42 (by decide)) hlc29 (by omega))) ?_
            refine rsr (jn_v) ?_
            refine rsr (if_neg (eqI_n (rfl) (li_0) (by omega))) ?_
            refine rsr (gtI_q (w := iI s) (rk_160 (hR.fr f42)) ((g42.i _ _ (by decide)).trans ((sI_ne (by decide)).trans ((g40.i _ _ (by decide)).trans ((g38.i _ _ (by decide)).trans (w13_51)))))) ?_
            refine rsr (vC_e (rk_160 (hR.fr f42))) ?_
            refine RrI (a196 (by omega) (hR.fr f42) ((g42.i _ _ (by decide)).trans ((sI_ne (by decide)).trans (e40_k0))) ((g42.i _ _ (by decide)).trans ((sI_ne (by decide)).trans ((g40.i _ _ (by decide)).trans ((g38.i _ _ (by decide)).trans ((FR13.i _ _ (by decide)).trans h49))))) ((g42.i _ _ (by decide)).trans ((sI_ne (by decide)).trans ((g40.i _ _ (by decide)).trans ((g38.i _ _ (by decide)).trans ((FR13.i _ _ (by decide)).trans h48))))) (li_2) (rfl) (by omega)) fun v Ma44 h44 => ?_
            obtain ⟨r43, rfl, g44, e44_k0, p44_0, p44_1⟩ := h44
            have f44 : Fr W_rx Mr Ma44 := Fr.t f42 (Fr.m g44 (by decide))
            refine rsr (cI_e rfl) ?_
            refine rsr (gtL_q (w := (tx (i13 + 1))) (rk_160 (hR.fr f44)) ((p42_1.fr g44 (by decide) (by decide)).1 (by omega))) ?_
            refine rsr (vC_e (rk_160 (hR.fr f44))) ?_
            refine RrV (a199 (by omega) (hR.fr f44) ((g44.i _ _ (by decide)).trans ((g42.i _ _ (by decide)).trans ((sI_ne (by decide)).trans ((g40.i _ _ (by decide)).trans ((g38.i _ _ (by decide)).trans (w13_51)))))) ((g44.i _ _ (by decide)).trans ((g42.i _ _ (by decide)).trans ((sI_ne (by decide)).trans ((g40.i _ _ (by decide)).trans ((g38.i _ _ (by decide)).trans (w13_41)))))) (x := (tx (i13 + 1))) (by omega)) fun v Ma45 h45 => ?_
            obtain ⟨g45, e45_k0, p45_0, p45_1⟩ := h45
            have f45 : Fr W_rx Mr Ma45 := Fr.t f44 (Fr.m g45 (by decide))
            refine rsr (cV_e rfl) ?_
            refine rsr (vC_e (rk_160 (hR.fr f45))) ?_
            refine RrV (nx_ok (by omega) hS (hR.fr f45) (hT.fr (W := W_rx) f45 (by decide) (by decide)) (fun i a b => (Fr.lc (W := W_rx) f45 _ (by decide) _).trans (hW i a b)) (i := (i13 + 1)) ((g45.i _ _ (by decide)).trans ((g44.i _ _ (by decide)).trans ((g42.i _ _ (by decide)).trans ((sI_ne (by decide)).trans ((g40.i _ _ (by decide)).trans ((g38.i _ _ (by decide)).trans (w13_41))))))) ((g45.i _ _ (by decide)).trans ((g44.i _ _ (by decide)).trans (e42_k2))) (by omega) (by omega)) fun v Ma47 h47 => ?_
            obtain ⟨g47, e47_k0, e47_k1, e47_k2, p47_0⟩ := h47
            have f47 : Fr W_rx Mr Ma47 := Fr.t f45 (Fr.m g47 (by decide))
            refine rsr (cV_e rfl) ?_
            refine rsr (vC_e (rk_160 (hR.fr f47))) ?_
            refine Rb_VV (hB _ _ (by omega) (by omega) T n m kd pl E tx ua ut mu _ _ (pu (pc (pj (pu (pu G13 e13 [27, 0, -2, 0, ut, mu, 0]) (e13 + 1) [25, 0, -2, 0, ut, mu, 0]) e (e13 + 2)) (e + 1) e13 (e13 + 2)) (e13 + 2) [2, s, -2, s, ut, mu, 0]) U13 (up1 Hl s (tx (i13 + 1))) X13 (i13 + 2) (e13 + 3) (s + 1) u13 uc13 _ hS (hCx.fr f36 f47) ⟨(g36.i _ _ (by decide)).trans ((g35.i _ _ (by decide)).trans ((sI_nej (by decide)).trans (sI_eq))), (g36.i _ _ (by decide)).trans ((g35.i _ _ (by decide)).trans (sI_eq)), (g36.i _ _ (by decide)).trans ((g35.i _ _ (by decide)).trans ((sI_nej (by decide)).trans ((sI_nej (by decide)).trans ((sI_nej (by decide)).trans ((sI_nej (by decide)).trans ((f23.i _ _ (by decide)).trans ((sI_ne (by decide)).trans ((g21.i _ _ (by decide)).trans ((g18.i _ _ (by decide)).trans (q13_10)))))))))), (g36.i _ _ (by decide)).trans (e35_k0), e36_k0, (g36.i _ _ (by decide)).trans ((g35.i _ _ (by decide)).trans ((sI_nej (by decide)).trans ((sI_nej (by decide)).trans ((sI_nej (by decide)).trans ((sI_nej (by decide)).trans ((f23.i _ _ (by decide)).trans ((sI_ne (by decide)).trans ((g21.i _ _ (by decide)).trans ((g18.i _ _ (by decide)).trans (q13_19))))))))))⟩ ⟨e47_k0, e47_k1, e47_k2, (g47.i _ _ (by decide)).trans ((g45.i _ _ (by decide)).trans ((g44.i _ _ (by decide)).trans ((g42.i _ _ (by decide)).trans ((sI_ne (by decide)).trans ((g40.i _ _ (by decide)).trans ((g38.i _ _ (by decide)).trans (w13_41))))))), (g47.i _ _ (by decide)).trans ((g45.i _ _ (by decide)).trans (e44_k0)), (g47.i _ _ (by decide)).trans (e45_k0), (g47.i _ _ (by decide)).trans ((g45.i _ _ (by decide)).trans ((g44.i _ _ (by decide)).trans ((g42.i _ _ (by decide)).trans ((sI_ne (by decide)).trans ((g40.i _ _ (by decide)).trans ((g38.i _ _ (by decide)).trans (w13_53))))))), (g47.i _ _ (by decide)).trans ((g45.i _ _ (by decide)).trans ((g44.i _ _ (by decide)).trans ((g42.i _ _ (by decide)).trans ((sI_ne (by decide)).trans ((g40.i _ _ (by decide)).trans ((g38.i _ _ (by decide)).trans (w13_50))))))), p47_0⟩ ⟨((CA1.em (cq23.fr (W := W_c0) (Fr.sI (by decide) (Fr.sI (by decide) (Fr.sI (by decide) (Fr.sI (by decide) Fr.r)))) (by decide)) (by omega) p35_1 rfl).fr g36 (by decide)), (((RA1.em ((RA1.pc (a := (e + 1)) (b := e13) (v := (e13 + 2)) (RA1.pt (v := (e13 + 2)) (RA1.em (RA1.em ra13 (by omega) p38_1 rfl) (by omega) p40_1 rfl) (by omega))).fr g42 (by decide)) (by omega) p44_1 rfl).fr g45 (by decide)).fr g47 (by decide)), (LA.add ((((((lc13.fr g18 (by decide)).fr g21 (by decide)).fr (W := W_c2) (Fr.sI (inW_c (by decide) _) Fr.r) (by decide)).fr f23 (by decide)).fr (W := W_c0) (Fr.sI (by decide) (Fr.sI (by decide) (Fr.sI (by decide) (Fr.sI (by decide) Fr.r)))) (by decide)).fr g35 (by decide)) (by omega) p36_0 p36_1 (by omega)), ((LA.add (((((lr13.fr g38 (by decide)).fr g40 (by decide)).fr (W := W_r2) (Fr.sI (inW_c (by decide) _) Fr.r) (by decide)).fr g42 (by decide)).fr g44 (by decide)) (by omega) p45_0 p45_1 (by omega)).fr g47 (by decide)), (((((((cu13.fr g18 (by decide)).fr g21 (by decide)).fr (W := W_c2) (Fr.sI (inW_c (by decide) _) Fr.r) (by decide)).fr f23 (by decide)).fr (W := W_c0) (Fr.sI (by decide) (Fr.sI (by decide) (Fr.sI (by decide) (Fr.sI (by decide) Fr.r)))) (by decide)).fr g35 (by decide)).fr g36 (by decide)), (((((((ru13.fr g38 (by decide)).fr g40 (by decide)).fr (W := W_r2) (Fr.sI (inW_c (by decide) _) Fr.r) (by decide)).fr g42 (by decide)).fr g44 (by decide)).fr g45 (by decide)).fr g47 (by decide))⟩ ⟨by omega, by omega, by omega, by omega, by omega, by omega, by omega, by omega, by omega, by omega, by omega, by omega⟩ (hv0)) fun v Mx48 w Nx48 hx48 => ?_
            rcases hx48 with ⟨i48, e48, u48, uc48, G48, U48, X48, fl48, fr48, sc48, sr48, rw48, bd48, mv48, ag48, au48, ax48, tp48, dp48, kv48, ⟨sl48, sh48⟩⟩ | ⟨F48, P48, fl48, fr48, tc48, tr48⟩
            ·
              have FL48 : Fr W_cp Mc Mx48 := Fr.t f36 fl48
              have FR48 : Fr W_rx Mr Nx48 := Fr.t f47 fr48
              obtain ⟨bb48_0, bb48_1, bb48_2, bb48_3, bb48_4, bb48_5, bb48_6, bb48_7, bb48_8, bb48_9, bb48_10, bb48_11⟩ := bd48
              obtain ⟨q48_12, q48_13, q48_10, q48_9, q48_16, q48_19⟩ := sc48
              obtain ⟨w48_36, w48_37, w48_38, w48_41, w48_43, w48_51, w48_53, w48_50, w48_n⟩ := sr48
              obtain ⟨ca48, ra48, lc48, lr48, cu48, ru48⟩ := rw48
              have hk49 := (hS.ok i48 (by omega) (by omega)).r
              have ku48 := KU.t (((((((ku13.fr g18 (by decide)).fr g21 (by decide)).fr (W := W_c2) (Fr.sI (inW_c (by decide) _) Fr.r) (by decide)).fr f23 (by decide)).fr (W := W_c0) (Fr.sI (by decide) (Fr.sI (by decide) (Fr.sI (by decide) (Fr.sI (by decide) Fr.r)))) (by decide)).fr g35 (by decide)).fr g36 (by decide)) kv48 (by omega)
              have du50 := DU.t du34 ag48 au48 ax48 dp48 (by omega)
              refine rsl (cV_e rfl) ?_
              refine rsr (cV_e rfl) ?_
              refine rsl (ptI_q (z := s) (ck_65 (hC.fr FL48)) (rfl)) ?_
              refine rsl (gtP_q (w := some 73) (ck_65 (hC.fr FL48).sI) (cf_65_6 (hC.fr FL48).sI)) ?_
              refine rsl (gtI_q (w := iI e48) (ck_65 (hC.fr FL48).sI) ((sI_nej (by decide)).trans (q48_9))) ?_
              refine rsl (asI_q (n := 4096) (z := (e13 + 1)) (y := e48) (ck_73 (hC.fr FL48).sI) (congrArg iI p21_0) (by omega) (rfl)) ?_
              have du51 := (DU.pj (j := (e13 + 1)) (v2 := e48) du50)
              refine rsr (gtI_q (w := iI (s + 1)) (rk_160 (hR.fr FR48)) (w48_51)) ?_
              refine rsr (ptI_q (z := s) (rk_160 (hR.fr FR48)) (cvI (sbI (rfl) (li_1)) (by omega))) ?_
              refine rsr (gtP_q (w := some 196) (rk_160 (hR.fr FR48).sI) (rf_45 (hR.fr FR48).sI)) ?_
              refine rsr (gtI_q (w := iI e48) (rk_160 (hR.fr FR48).sI) ((sI_nej (by decide)).trans (w48_43))) ?_
              refine rsr (asI_q (n := 4000) (z := (e13 + 1)) (y := e48) (rk_196 (hR.fr FR48).sI) (congrArg iI p40_0) (by omega) (rfl)) ?_
              refine rsr (jv_e) ?_
              have xa52 := (fun t p z => (pj_t (by omega)).trans ((pu_n (by omega)).trans ((pu_n (by omega)))) : ∀ t, e < t → t < e13 → (pj (pu (pu G13 e13 [27, 0, -2, 0, ut, mu, 0]) (e13 + 1) [25, 0, -2, 0, ut, mu, 0]) e (e13 + 2)) 2 t = G13 2 t)
              have xb53 := (fun t p z => (pj_t (by omega)).trans ((ag48 _ _ (by omega)).trans ((pu_n (by omega)))) : ∀ t, e < t → t < e13 → (pj G48 (e13 + 1) e48) 2 t = pc (pj (pu (pu G13 e13 [27, 0, -2, 0, ut, mu, 0]) (e13 + 1) [25, 0, -2, 0, ut, mu, 0]) e (e13 + 2)) (e + 1) e13 (e13 + 2) 2 t)
              have xc54 := (((pj_t (by omega)).trans ((ag48 _ _ (by omega)).trans ((pu_n (by omega)).trans ((pc_t (by omega)))))).trans (pj_3) : (pj G48 (e13 + 1) e48) 3 e = e13 + 2)
              have tb55 := (Tyb.tr (dp := dp) (j := e) (p := e13) (b := e48) (s := s) (G := (pj G48 (e13 + 1) e48)) (G0 := G13) (Tyb.ca tp13 (by omega) (by omega)) ((Tyb.ca (tp48.ag (fun k t p z => (pj_t (by omega)))) (by omega) (by omega)).lo (Int.le_refl _) (by omega)) (fun k t hk p z => (pj_t (by omega)).trans ((ag48 _ _ (by omega)).trans ((pu_n (by omega)).trans ((pc_k hk).trans ((pj_t (by omega)).trans ((pu_n (by omega)).trans ((pu_n (by omega))))))))) (fun t p z => ⟨fun q => ((xb53 t p z).trans (pc_y ⟨by omega, by omega⟩ ((xa52 t p z).trans q))).trans xc54.symm, fun q => (xb53 t p z).trans ((pc_x (by rw [xa52 t p z]; omega)).trans (xa52 t p z))⟩) ⟨((pj_t (by omega)).trans ((ag48 _ _ (by omega)).trans ((pu_n (by omega)).trans ((pc_t (by omega)).trans ((pj_k (by decide)).trans ((pu_n (by omega)).trans ((pu_n (by omega)).trans ((ag13 _ _ (by omega)))))))))).trans (pu_e (by omega)), ((pj_t (by omega)).trans ((ag48 _ _ (by omega)).trans ((pu_n (by omega)).trans ((pc_t (by omega)).trans ((pj_k (by decide)).trans ((pu_n (by omega)).trans ((pu_n (by omega)).trans ((ag13 _ _ (by omega)))))))))).trans (pu_e (by omega)), xc54⟩ (((pj_t (by omega)).trans ((ag48 _ _ (by omega)).trans ((pu_n (by omega)).trans ((pc_t (by omega)).trans ((pj_t (by omega)).trans ((pu_n (by omega)))))))).trans (pu_e (by omega))) ⟨((pj_k (by decide)).trans ((ag48 _ _ (by omega)).trans ((pu_n (by omega)).trans ((pc_t (by omega)).trans ((pj_t (by omega))))))).trans (pu_e (by omega)), ((pj_k (by decide)).trans ((ag48 _ _ (by omega)).trans ((pu_n (by omega)).trans ((pc_t (by omega)).trans ((pj_t (by omega))))))).trans (pu_e (by omega)), pj_3⟩ ⟨((pj_t (by omega)).trans ((ag48 _ _ (by omega)))).trans (pu_e (by omega)), ((pj_t (by omega)).trans ((ag48 _ _ (by omega)))).trans (pu_e (by omega)), ((pj_t (by omega)).trans ((ag48 _ _ (by omega)))).trans (pu_e (by omega))⟩ (by omega) ⟨by omega, by omega⟩)
              exact Rs.ok (Or.inl ⟨i48, s, Hl, ⟨e48, u48, uc48, (pj G48 (e13 + 1) e48), U48, X48, (Fr.sI (inW_c (by decide) _) (Fr.sI (by decide) FL48)), (Fr.sI (inW_c (by decide) _) (Fr.sI (by decide) FR48)), ⟨(sI_ne (by decide)).trans ((sI_nej (by decide)).trans (q48_12)), (sI_ne (by decide)).trans ((sI_nej (by decide)).trans (q48_13)), (sI_ne (by decide)).trans ((sI_nej (by decide)).trans (q48_10)), (sI_ne (by decide)).trans ((sI_nej (by decide)).trans (q48_9)), (sI_ne (by decide)).trans (sI_eq), (sI_ne (by decide)).trans ((sI_nej (by decide)).trans (q48_19))⟩, ⟨(sI_ne (by decide)).trans ((sI_nej (by decide)).trans (w48_36)), (sI_ne (by decide)).trans ((sI_nej (by decide)).trans (w48_37)), (sI_ne (by decide)).trans ((sI_nej (by decide)).trans (w48_38)), (sI_ne (by decide)).trans ((sI_nej (by decide)).trans (w48_41)), (sI_ne (by decide)).trans ((sI_nej (by decide)).trans (w48_43)), (sI_ne (by decide)).trans (sI_eq), (sI_ne (by decide)).trans ((sI_nej (by decide)).trans (w48_53)), (sI_ne (by decide)).trans ((sI_nej (by decide)).trans (w48_50)), (w48_n.fr (W := W_r2) (Fr.sI (inW_c (by decide) _) (Fr.sI (by decide) Fr.r)) (by decide) (by decide))⟩, ⟨(CA1.pt (v := e48) (ca48.fr (W := W_c0) (Fr.sI (by decide) Fr.r) (by decide)) (by omega)), (RA1.pt (v := e48) (ra48.fr (W := W_r0) (Fr.sI (by decide) Fr.r) (by decide)) (by omega)), ((LA.bk lc48 (by omega) (fun j p q => up1_n (by omega))).fr (W := W_c2) (Fr.sI (inW_c (by decide) _) (Fr.sI (by decide) Fr.r)) (by decide)), ((LA.bk lr48 (by omega) (fun j p q => up1_n (by omega))).fr (W := W_r2) (Fr.sI (inW_c (by decide) _) (Fr.sI (by decide) Fr.r)) (by decide)), (cu48.fr (W := W_c2) (Fr.sI (inW_c (by decide) _) (Fr.sI (by decide) Fr.r)) (by decide)), (ru48.fr (W := W_r2) (Fr.sI (inW_c (by decide) _) (Fr.sI (by decide) Fr.r)) (by decide))⟩, ⟨by omega, by omega, by omega, by omega, by omega, by omega, by omega, by omega, by omega, by omega, by omega, by omega⟩, ⟨by omega, by omega, by omega, by omega, by omega, by omega⟩, (Ag.pj (Ag.t (Ag.pu (Ag.pc (Ag.pj (Ag.pu (Ag.pu (Ag.t (Ag.pu Ag.r (by omega)) ag13 (by omega)) (by omega)) (by omega)) (by omega)) (by omega)) (by omega)) ag48 (by omega)) (by omega)), (Ag.t (Ag.t Ag.r au13 (by omega)) au48 (by omega)), (AgL.t (AgL.t AgL.r ax13 (by omega)) ax48 (by omega)), tb55, du51, (ku48.fr (W := W_c2) (Fr.sI (inW_c (by decide) _) (Fr.sI (by decide) Fr.r)) (by decide)), ⟨by omega, fun _ _ _ => rfl⟩⟩⟩)
            ·
              have FL48 : Fr W_cp Mc Mx48 := Fr.t f36 fl48
              have FR48 : Fr W_rp Mr Nx48 := Fr.t (Fr.m f47 W_rx_p) fr48
              obtain ⟨ti48, tz48, tn48, tu48, t1348, t1048, t1148, t1248, t948, t1648, t1948, tb48⟩ := tc48
              obtain ⟨re48, rn48, ru48, rm48, rt48, u4148, u4248, u4348, u5148, u5348, u4848, u4948, ub48⟩ := tr48
              refine rsl (cV_e rfl) ?_
              refine rsr (cV_e rfl) ?_
              refine rsl (ptI_q (z := s) (ck_65 (hC.fr FL48)) (rfl)) ?_
              refine rsl (gtP_q (w := some 73) (ck_65 (hC.fr FL48).sI) (cf_65_6 (hC.fr FL48).sI)) ?_
              refine rsl (gtI_q (w := iI tz48) (ck_65 (hC.fr FL48).sI) ((sI_nej (by decide)).trans (t948))) ?_
              refine rsl (asI_q (n := 4096) (z := (e13 + 1)) (y := tz48) (ck_73 (hC.fr FL48).sI) (congrArg iI p21_0) (by omega) (rfl)) ?_
              refine rsr (gtI_q (w := iI rn48) (rk_160 (hR.fr FR48)) (u5148)) ?_
              refine rsr (ptI_q (z := (rn48 - 1)) (rk_160 (hR.fr FR48)) (sbI (rfl) (li_1))) ?_
              refine rsr (gtP_q (w := some 196) (rk_160 (hR.fr FR48).sI) (rf_45 (hR.fr FR48).sI)) ?_
              refine rsr (gtI_q (w := iI re48) (rk_160 (hR.fr FR48).sI) ((sI_nej (by decide)).trans (u4348))) ?_
              refine rsr (asI_q (n := 4000) (z := (e13 + 1)) (y := re48) (rk_196 (hR.fr FR48).sI) (congrArg iI p40_0) (by omega) (rfl)) ?_
              refine rsr (jv_e) ?_
              exact Rs.ok (Or.inr ⟨F48, P48, (Fr.sI (inW_c (by decide) _) (Fr.sI (by decide) FL48)), (Fr.sI (inW_c (by decide) _) (Fr.sI (by decide) FR48)), ⟨ti48, tz48, s, tu48, (sI_ne (by decide)).trans ((sI_nej (by decide)).trans (t1348)), (sI_ne (by decide)).trans ((sI_nej (by decide)).trans (t1048)), (sI_ne (by decide)).trans ((sI_nej (by decide)).trans (t1148)), (sI_ne (by decide)).trans ((sI_nej (by decide)).trans (t1248)), (sI_ne (by decide)).trans ((sI_nej (by decide)).trans (t948)), (sI_ne (by decide)).trans (sI_eq), (sI_ne (by decide)).trans ((sI_nej (by decide)).trans (t1948)), by omega⟩, ⟨re48, (rn48 - 1), ru48, rm48, rt48, (sI_ne (by decide)).trans ((sI_nej (by decide)).trans (u4148)), (sI_ne (by decide)).trans ((sI_nej (by decide)).trans (u4248)), (sI_ne (by decide)).trans ((sI_nej (by decide)).trans (u4348)), (sI_ne (by decide)).trans (sI_eq), (sI_ne (by decide)).trans ((sI_nej (by decide)).trans (u5348)), (sI_ne (by decide)).trans ((sI_nej (by decide)).trans (u4848)), (sI_ne (by decide)).trans ((sI_nej (by decide)).trans (u4948)), by omega⟩⟩)
          · refine rsl (if_neg (lsI_n (rfl) (li_10) (by omega))) ?_
            refine rsl (jv_e) ?_
            refine rsl (vC_e (ck_65 (hC.fr ff23).sI.sI)) ?_
            refine rsl (cL_e (a66_6 (by omega) hS (hC.fr ff23).sI.sI (hTk.fr (WL := W_cp) (Fr.sI (by decide) (Fr.sI (by decide) ff23)) (by decide)) ((sI_nej (by decide)).trans (sI_eq)) (sI_eq) ((sI_nej (by decide)).trans ((sI_nej (by decide)).trans ((f23.i _ _ (by decide)).trans ((sI_ne (by decide)).trans ((g21.i _ _ (by decide)).trans ((g18.i _ _ (by decide)).trans (q13_10))))))) (li_0) (li_1) (by omega))) ?_
            refine rsl (gtI_q (w := iI s) (ck_65 (hC.fr ff23).sI.sI.sI.sI.sI) ((sI_nej (by decide)).trans ((sI_nej (by decide)).trans ((sI_nej (by decide)).trans ((sI_nej (by decide)).trans ((sI_nej (by decide)).trans ((f23.i _ _ (by decide)).trans ((sI_ne (by decide)).trans ((g21.i _ _ (by decide)).trans ((g18.i _ _ (by decide)).trans (q13_16))))))))))) ?_
            refine rsl (vC_e (ck_65 (hC.fr ff23).sI.sI.sI.sI.sI)) ?_
            refine RlI (y87 (by omega) (hC.fr ff23).sI.sI.sI.sI.sI (hTk.fr (WL := W_cp) (Fr.sI (by decide) (Fr.sI (by decide) (Fr.sI (by decide) (Fr.sI (by decide) (Fr.sI (by decide) ff23))))) (by decide)) ((sI_nej (by decide)).trans ((sI_nej (by decide)).trans ((sI_nej (by decide)).trans ((sI_nej (by decide)).trans (sI_eq))))) (sI_eq) ((sI_nej (by decide)).trans ((sI_nej (by decide)).trans (sI_eq))) ((sI_nej (by decide)).trans (sI_eq)) ((sI_nej (by decide)).trans ((sI_nej (by decide)).trans ((sI_nej (by decide)).trans ((sI_nej (by decide)).trans ((sI_nej (by decide)).trans ((f23.i _ _ (by decide)).trans ((sI_ne (by decide)).trans (e21_k0)))))))) ((sI_nej (by decide)).trans ((sI_nej (by decide)).trans ((sI_nej (by decide)).trans ((sI_nej (by decide)).trans ((sI_nej (by decide)).trans ((f23.i _ _ (by decide)).trans ((sI_ne (by decide)).trans ((g21.i _ _ (by decide)).trans ((g18.i _ _ (by decide)).trans (q13_16)))))))))) ((sI_nej (by decide)).trans ((sI_nej (by decide)).trans ((sI_nej (by decide)).trans ((sI_nej (by decide)).trans ((sI_nej (by decide)).trans ((f23.i _ _ (by decide)).trans ((sI_ne (by decide)).trans ((g21.i _ _ (by decide)).trans ((g18.i _ _ (by decide)).trans (q13_19)))))))))) (li_2) (rfl) (by omega)) fun v Ma57 h57 => ?_
            obtain ⟨rv56, sz56, sn56, uc56, rfl, g57, e57_sz56, e57_sn56, e57_uc56, e57_k0, e57_k1, e57_k2, e57_k3, p57_0, p57_1, p57_2, p57_3⟩ := h57
            have f57 : Fr W_cp Mc Ma57 := Fr.t (Fr.sI (by decide) (Fr.sI (by decide) (Fr.sI (by decide) (Fr.sI (by decide) (Fr.sI (by decide) ff23))))) (Fr.m g57 (by decide))
            refine rsl (cI_e rfl) ?_
            refine rsl (vC_e (ck_65 (hC.fr f57))) ?_
            refine RlV (y75 (by omega) (hC.fr f57) (hTk.fr (WL := W_cp) f57 (by decide)) (e57_k3) (e57_k0) (e57_k1) (e57_k2) (e57_sz56) (e57_sn56) (e57_uc56)  (by omega)) fun v Ma59 h59 => ?_
            obtain ⟨sz58, sn58, uc58, g59, e59_sz58, e59_sn58, e59_uc58, e59_k0, e59_k1, e59_k2, e59_k3, p59_0, p59_1, p59_2⟩ := h59
            have f59 : Fr W_cp Mc Ma59 := Fr.t f57 (Fr.m g59 (by decide))
            refine rsl (cV_e rfl) ?_
            refine rsl (vC_e (ck_65 (hC.fr f59))) ?_
            refine RlV (y89 (by omega) (hC.fr f59) (hTk.fr (WL := W_cp) f59 (by decide)) (e59_k3) (e59_k0) (e59_k1) (e59_k2) (e59_sz58) (e59_sn58) (e59_uc58) (hv0) (by omega)) fun v Ma61 h61 => ?_
            obtain ⟨sz60, sn60, uc60, g61, e61_sz60, e61_sn60, e61_uc60, e61_k0, e61_k1, e61_k2, e61_k3, p61_0, p61_1, p61_2⟩ := h61
            have f61 : Fr W_cp Mc Ma61 := Fr.t f59 (Fr.m g61 (by decide))
            refine rsl (cV_e rfl) ?_
            refine rsl (ptI_q (z := s) (ck_65 (hC.fr f61)) (rfl)) ?_
            refine rsl (gtP_q (w := some 73) (ck_65 (hC.fr f61).sI) (cf_65_6 (hC.fr f61).sI)) ?_
            refine rsl (gtI_q (w := iI sz60) (ck_65 (hC.fr f61).sI) ((sI_nej (by decide)).trans (e61_sz60))) ?_
            refine rsl (asI_q (n := 4096) (z := (e13 + 1)) (y := sz60) (ck_73 (hC.fr f61).sI) (congrArg iI p21_0) (by omega) (rfl)) ?_
            refine rsr (vC_e (rk_160 (hR.fr FR13))) ?_
            refine RrI (a196 (by omega) (hR.fr FR13) (w13_43) ((FR13.i _ _ (by decide)).trans h49) ((FR13.i _ _ (by decide)).trans h48) (li_27) (li_0) (by omega)) fun v Ma63 h63 => ?_
            obtain ⟨r62, rfl, g63, e63_k0, p63_0, p63_1⟩ := h63
            have f63 : Fr W_rx Mr Ma63 := Fr.t FR13 (Fr.m g63 (by decide))
            refine rsr (cI_e rfl) ?_
            refine rsr (vC_e (rk_160 (hR.fr f63))) ?_
            refine RrI (a196 (by omega) (hR.fr f63) (e63_k0) ((g63.i _ _ (by decide)).trans ((FR13.i _ _ (by decide)).trans h49)) ((g63.i _ _ (by decide)).trans ((FR13.i _ _ (by decide)).trans h48)) (li_25) (li_0) (by omega)) fun v Ma65 h65 => ?_
            obtain ⟨r64, rfl, g65, e65_k0, p65_0, p65_1⟩ := h65
            have f65 : Fr W_rx Mr Ma65 := Fr.t f63 (Fr.m g65 (by decide))
            refine rsr (cI_e rfl) ?_
            refine rsr (gtP_q (w := some 196) (rk_160 (hR.fr f65)) (rf_45 (hR.fr f65))) ?_
            refine rsr (gtI_q (w := iI (e13 + 2)) (rk_160 (hR.fr f65)) (e65_k0)) ?_
            refine rsr (asI_q (n := 4000) (z := e) (y := (e13 + 2)) (rk_196 (hR.fr f65)) (congrArg iI p10_0) (by omega) (rfl)) ?_
            refine rsr (vC_e (rk_160 (hR.fr f65).sI)) ?_
            refine RrI (a195_424 (by omega) hS (hR.fr f65).sI (hT.fr (W := W_rx) (Fr.sI (inW_c (by decide) _) f65) (by decide) (by decide)) (fun i a b => (Fr.lc (W := W_rx) (Fr.sI (inW_c (by decide) _) f65) _ (by decide) _).trans (hW i a b)) ((sI_ne (by decide)).trans ((g65.i _ _ (by decide)).trans ((g63.i _ _ (by decide)).trans (w13_36)))) ((sI_ne (by decide)).trans ((g65.i _ _ (by decide)).trans ((g63.i _ _ (by decide)).trans (w13_37)))) ((sI_ne (by decide)).trans ((g65.i _ _ (by decide)).trans ((g63.i _ _ (by decide)).trans (w13_38)))) ((sI_ne (by decide)).trans ((g65.i _ _ (by decide)).trans ((g63.i _ _ (by decide)).trans (w13_41)))) (li_424) (i2 := (i13 + 1)) (by omega) (by omega)) fun v Ma67 h67 => ?_
            obtain ⟨r66, rfl, g67, e67_k0, e67_k1, e67_k2, p67_0, p67_1⟩ := h67
            have f67 : Fr W_rx Mr Ma67 := Fr.t (Fr.sI (inW_c (by decide) _) f65) (Fr.m g67 (by decide))
            refine rsr (cI_e rfl) ?_
            refine rsr (vC_e (rk_160 (hR.fr f67))) ?_
            refine rsr (cI_e (a198_6 (by omega) hS (hR.fr f67) (e67_k0) (e67_k1) ((g67.i _ _ (by decide)).trans ((sI_ne (by decide)).trans ((g65.i _ _ (by decide)).trans ((g63.i _ _ (by decide)).trans (w13_41))))) p67_1 ((g67.i _ _ (by decide)).trans ((sI_ne (by decide)).trans ((g65.i _ _ (by decide)).trans ((g63.i _ _ (by decide)).trans (w13_51))))) ((((lr13.fr g63 (by decide)).fr g65 (by decide)).fr (W := W_r2) (Fr.sI (inW_c (by decide) _) Fr.r) (by decide)).fr g67 (by decide)) hlc29 (by omega))) ?_
            refine rsr (jn_v) ?_
            refine rsr (if_pos (eqI_p (rfl) (li_0) (by omega))) ?_
            refine rsr (jv_e) ?_
            exact Rs.ok (Or.inr ⟨6, ((pl (i13 + 1))), (Fr.sI (inW_c (by decide) _) (Fr.sI (by decide) f61)), (Fr.sI (by decide) (Fr.sI (by decide) (Fr.m f67 (by decide)))), ⟨(i13 + 1), sz60, s, uc60, (sI_ne (by decide)).trans ((sI_nej (by decide)).trans (e61_k0)), (sI_ne (by decide)).trans ((sI_nej (by decide)).trans (e61_k1)), (sI_ne (by decide)).trans ((sI_nej (by decide)).trans (e61_k2)), (sI_ne (by decide)).trans ((sI_nej (by decide)).trans (e61_k3)), (sI_ne (by decide)).trans ((sI_nej (by decide)).trans (e61_sz60)), (sI_ne (by decide)).trans (sI_eq), (sI_ne (by decide)).trans ((sI_nej (by decide)).trans (e61_uc60)), by omega⟩, ⟨(e13 + 2), s, u13, mu, ut, (sI_nej (by decide)).trans (sI_eq), sI_eq, (sI_nej (by decide)).trans ((sI_nej (by decide)).trans ((g67.i _ _ (by decide)).trans ((sI_ne (by decide)).trans (e65_k0)))), (sI_nej (by decide)).trans ((sI_nej (by decide)).trans ((g67.i _ _ (by decide)).trans ((sI_ne (by decide)).trans ((g65.i _ _ (by decide)).trans ((g63.i _ _ (by decide)).trans (w13_51)))))), (sI_nej (by decide)).trans ((sI_nej (by decide)).trans ((g67.i _ _ (by decide)).trans ((sI_ne (by decide)).trans ((g65.i _ _ (by decide)).trans ((g63.i _ _ (by decide)).trans (w13_53)))))), (sI_nej (by decide)).trans ((sI_nej (by decide)).trans ((g67.i _ _ (by decide)).trans ((sI_ne (by decide)).trans ((g65.i _ _ (by decide)).trans ((g63.i _ _ (by decide)).trans ((FR13.i _ _ (by decide)).trans h48)))))), (sI_nej (by decide)).trans ((sI_nej (by decide)).trans ((g67.i _ _ (by decide)).trans ((sI_ne (by decide)).trans ((g65.i _ _ (by decide)).trans ((g63.i _ _ (by decide)).trans ((FR13.i _ _ (by decide)).trans h49)))))), by omega⟩⟩)
        ·
          refine rsl (jn_v) ?_
          refine rsl (if_neg (lsI_n (congrArg iI (if_neg crl29)) (li_0) (by omega))) ?_
          refine rsl (jv_e) ?_
          refine rsl (gtI_q (w := iI s) (ck_65 (hC.fr ff23).sI.sI) ((sI_nej (by decide)).trans ((sI_nej (by decide)).trans ((f23.i _ _ (by decide)).trans ((sI_ne (by decide)).trans ((g21.i _ _ (by decide)).trans ((g18.i _ _ (by decide)).trans (q13_16)))))))) ?_
          refine rsl (jn_v) ?_
          by_cases c68 : s < 10
          · refine rsl (if_pos (lsI_p (rfl) (li_10) (by omega))) ?_
            refine rsl (jv_e) ?_
            refine rsl (vC_e (ck_65 (hC.fr ff23).sI.sI)) ?_
            refine rsl (cL_e (a66_3 (by omega) hS (hC.fr ff23).sI.sI (hTk.fr (WL := W_cp) (Fr.sI (by decide) (Fr.sI (by decide) ff23)) (by decide)) ((sI_nej (by decide)).trans (sI_eq)) (sI_eq) ((sI_nej (by decide)).trans ((sI_nej (by decide)).trans ((f23.i _ _ (by decide)).trans ((sI_ne (by decide)).trans ((g21.i _ _ (by decide)).trans ((g18.i _ _ (by decide)).trans (q13_10))))))) (li_1) (li_0) (by omega))) ?_
            refine rsl (gtI_q (w := iI s) (ck_65 (hC.fr ff23).sI.sI.sI.sI.sI) ((sI_nej (by decide)).trans ((sI_nej (by decide)).trans ((sI_nej (by decide)).trans ((sI_nej (by decide)).trans ((sI_nej (by decide)).trans ((f23.i _ _ (by decide)).trans ((sI_ne (by decide)).trans ((g21.i _ _ (by decide)).trans ((g18.i _ _ (by decide)).trans (q13_16))))))))))) ?_
            refine rsl (vC_e (ck_65 (hC.fr ff23).sI.sI.sI.sI.sI)) ?_
            refine RlI (y87 (by omega) (hC.fr ff23).sI.sI.sI.sI.sI (hTk.fr (WL := W_cp) (Fr.sI (by decide) (Fr.sI (by decide) (Fr.sI (by decide) (Fr.sI (by decide) (Fr.sI (by decide) ff23))))) (by decide)) ((sI_nej (by decide)).trans ((sI_nej (by decide)).trans ((sI_nej (by decide)).trans ((sI_nej (by decide)).trans (sI_eq))))) (sI_eq) ((sI_nej (by decide)).trans ((sI_nej (by decide)).trans (sI_eq))) ((sI_nej (by decide)).trans (sI_eq)) ((sI_nej (by decide)).trans ((sI_nej (by decide)).trans ((sI_nej (by decide)).trans ((sI_nej (by decide)).trans ((sI_nej (by decide)).trans ((f23.i _ _ (by decide)).trans ((sI_ne (by decide)).trans (e21_k0)))))))) ((sI_nej (by decide)).trans ((sI_nej (by decide)).trans ((sI_nej (by decide)).trans ((sI_nej (by decide)).trans ((sI_nej (by decide)).trans ((f23.i _ _ (by decide)).trans ((sI_ne (by decide)).trans ((g21.i _ _ (by decide)).trans ((g18.i _ _ (by decide)).trans (q13_16)))))))))) ((sI_nej (by decide)).trans ((sI_nej (by decide)).trans ((sI_nej (by decide)).trans ((sI_nej (by decide)).trans ((sI_nej (by decide)).trans ((f23.i _ _ (by decide)).trans ((sI_ne (by decide)).trans ((g21.i _ _ (by decide)).trans ((g18.i _ _ (by decide)).trans (q13_19)))))))))) (li_2) (rfl) (by omega)) fun v Ma70 h70 => ?_
            obtain ⟨rv69, sz69, sn69, uc69, rfl, g70, e70_sz69, e70_sn69, e70_uc69, e70_k0, e70_k1, e70_k2, e70_k3, p70_0, p70_1, p70_2, p70_3⟩ := h70
            have f70 : Fr W_cp Mc Ma70 := Fr.t (Fr.sI (by decide) (Fr.sI (by decide) (Fr.sI (by decide) (Fr.sI (by decide) (Fr.sI (by decide) ff23))))) (Fr.m g70 (by decide))
            refine rsl (cI_e rfl) ?_
            refine rsl (vC_e (ck_65 (hC.fr f70))) ?_
            refine RlV (y75 (by omega) (hC.fr f70) (hTk.fr (WL := W_cp) f70 (by decide)) (e70_k3) (e70_k0) (e70_k1) (e70_k2) (e70_sz69) (e70_sn69) (e70_uc69)  (by omega)) fun v Ma72 h72 => ?_
            obtain ⟨sz71, sn71, uc71, g72, e72_sz71, e72_sn71, e72_uc71, e72_k0, e72_k1, e72_k2, e72_k3, p72_0, p72_1, p72_2⟩ := h72
            have f72 : Fr W_cp Mc Ma72 := Fr.t f70 (Fr.m g72 (by decide))
            refine rsl (cV_e rfl) ?_
            refine rsl (vC_e (ck_65 (hC.fr f72))) ?_
            refine RlV (y89 (by omega) (hC.fr f72) (hTk.fr (WL := W_cp) f72 (by decide)) (e72_k3) (e72_k0) (e72_k1) (e72_k2) (e72_sz71) (e72_sn71) (e72_uc71) (hv0) (by omega)) fun v Ma74 h74 => ?_
            obtain ⟨sz73, sn73, uc73, g74, e74_sz73, e74_sn73, e74_uc73, e74_k0, e74_k1, e74_k2, e74_k3, p74_0, p74_1, p74_2⟩ := h74
            have f74 : Fr W_cp Mc Ma74 := Fr.t f72 (Fr.m g74 (by decide))
            refine rsl (cV_e rfl) ?_
            refine rsl (ptI_q (z := s) (ck_65 (hC.fr f74)) (rfl)) ?_
            refine rsl (gtP_q (w := some 73) (ck_65 (hC.fr f74).sI) (cf_65_6 (hC.fr f74).sI)) ?_
            refine rsl (gtI_q (w := iI sz73) (ck_65 (hC.fr f74).sI) ((sI_nej (by decide)).trans (e74_sz73))) ?_
            refine rsl (asI_q (n := 4096) (z := (e13 + 1)) (y := sz73) (ck_73 (hC.fr f74).sI) (congrArg iI p21_0) (by omega) (rfl)) ?_
            refine rsr (vC_e (rk_160 (hR.fr FR13))) ?_
            refine RrI (a196 (by omega) (hR.fr FR13) (w13_43) ((FR13.i _ _ (by decide)).trans h49) ((FR13.i _ _ (by decide)).trans h48) (li_27) (li_0) (by omega)) fun v Ma76 h76 => ?_
            obtain ⟨r75, rfl, g76, e76_k0, p76_0, p76_1⟩ := h76
            have f76 : Fr W_rx Mr Ma76 := Fr.t FR13 (Fr.m g76 (by decide))
            refine rsr (cI_e rfl) ?_
            refine rsr (vC_e (rk_160 (hR.fr f76))) ?_
            refine RrI (a196 (by omega) (hR.fr f76) (e76_k0) ((g76.i _ _ (by decide)).trans ((FR13.i _ _ (by decide)).trans h49)) ((g76.i _ _ (by decide)).trans ((FR13.i _ _ (by decide)).trans h48)) (li_25) (li_0) (by omega)) fun v Ma78 h78 => ?_
            obtain ⟨r77, rfl, g78, e78_k0, p78_0, p78_1⟩ := h78
            have f78 : Fr W_rx Mr Ma78 := Fr.t f76 (Fr.m g78 (by decide))
            refine rsr (cI_e rfl) ?_
            refine rsr (gtP_q (w := some 196) (rk_160 (hR.fr f78)) (rf_45 (hR.fr f78))) ?_
            refine rsr (gtI_q (w := iI (e13 + 2)) (rk_160 (hR.fr f78)) (e78_k0)) ?_
            refine rsr (asI_q (n := 4000) (z := e) (y := (e13 + 2)) (rk_196 (hR.fr f78)) (congrArg iI p10_0) (by omega) (rfl)) ?_
            refine rsr (vC_e (rk_160 (hR.fr f78).sI)) ?_
            refine RrI (a195_424 (by omega) hS (hR.fr f78).sI (hT.fr (W := W_rx) (Fr.sI (inW_c (by decide) _) f78) (by decide) (by decide)) (fun i a b => (Fr.lc (W := W_rx) (Fr.sI (inW_c (by decide) _) f78) _ (by decide) _).trans (hW i a b)) ((sI_ne (by decide)).trans ((g78.i _ _ (by decide)).trans ((g76.i _ _ (by decide)).trans (w13_36)))) ((sI_ne (by decide)).trans ((g78.i _ _ (by decide)).trans ((g76.i _ _ (by decide)).trans (w13_37)))) ((sI_ne (by decide)).trans ((g78.i _ _ (by decide)).trans ((g76.i _ _ (by decide)).trans (w13_38)))) ((sI_ne (by decide)).trans ((g78.i _ _ (by decide)).trans ((g76.i _ _ (by decide)).trans (w13_41)))) (li_424) (i2 := (i13 + 1)) (by omega) (by omega)) fun v Ma80 h80 => ?_
            obtain ⟨r79, rfl, g80, e80_k0, e80_k1, e80_k2, p80_0, p80_1⟩ := h80
            have f80 : Fr W_rx Mr Ma80 := Fr.t (Fr.sI (inW_c (by decide) _) f78) (Fr.m g80 (by decide))
            refine rsr (cI_e rfl) ?_
            refine rsr (vC_e (rk_160 (hR.fr f80))) ?_
            refine rsr (cI_e (a198_3 (by omega) hS (hR.fr f80) (e80_k0) (e80_k1) ((g80.i _ _ (by decide)).trans ((sI_ne (by decide)).trans ((g78.i _ _ (by decide)).trans ((g76.i _ _ (by decide)).trans (w13_41))))) p80_1 ((g80.i _ _ (by decide)).trans ((sI_ne (by decide)).trans ((g78.i _ _ (by decide)).trans ((g76.i _ _ (by decide)).trans (w13_51))))) ((((lr13.fr g76 (by decide)).fr g78 (by decide)).fr (W := W_r2) (Fr.sI (inW_c (by decide) _) Fr.r) (by decide)).fr g80 (by decide)) hlc29 (by omega))) ?_
            refine rsr (jn_v) ?_
            refine rsr (if_pos (eqI_p (rfl) (li_0) (by omega))) ?_
            refine rsr (jv_e) ?_
            exact Rs.ok (Or.inr ⟨3, ((pl (i13 + 1))), (Fr.sI (inW_c (by decide) _) (Fr.sI (by decide) f74)), (Fr.sI (by decide) (Fr.sI (by decide) (Fr.m f80 (by decide)))), ⟨(i13 + 1), sz73, s, uc73, (sI_ne (by decide)).trans ((sI_nej (by decide)).trans (e74_k0)), (sI_ne (by decide)).trans ((sI_nej (by decide)).trans (e74_k1)), (sI_ne (by decide)).trans ((sI_nej (by decide)).trans (e74_k2)), (sI_ne (by decide)).trans ((sI_nej (by decide)).trans (e74_k3)), (sI_ne (by decide)).trans ((sI_nej (by decide)).trans (e74_sz73)), (sI_ne (by decide)).trans (sI_eq), (sI_ne (by decide)).trans ((sI_nej (by decide)).trans (e74_uc73)), by omega⟩, ⟨(e13 + 2), s, u13, mu, ut, (sI_nej (by decide)).trans (sI_eq), sI_eq, (sI_nej (by decide)).trans ((sI_nej (by decide)).trans ((g80.i _ _ (by decide)).trans ((sI_ne (by decide)).trans (e78_k0)))), (sI_nej (by decide)).trans ((sI_nej (by decide)).trans ((g80.i _ _ (by decide)).trans ((sI_ne (by decide)).trans ((g78.i _ _ (by decide)).trans ((g76.i _ _ (by decide)).trans (w13_51)))))), (sI_nej (by decide)).trans ((sI_nej (by decide)).trans ((g80.i _ _ (by decide)).trans ((sI_ne (by decide)).trans ((g78.i _ _ (by decide)).trans ((g76.i _ _ (by decide)).trans (w13_53)))))), (sI_nej (by decide)).trans ((sI_nej (by decide)).trans ((g80.i _ _ (by decide)).trans ((sI_ne (by decide)).trans ((g78.i _ _ (by decide)).trans ((g76.i _ _ (by decide)).trans ((FR13.i _ _ (by decide)).trans h48)))))), (sI_nej (by decide)).trans ((sI_nej (by decide)).trans ((g80.i _ _ (by decide)).trans ((sI_ne (by decide)).trans ((g78.i _ _ (by decide)).trans ((g76.i _ _ (by decide)).trans ((FR13.i _ _ (by decide)).trans h49)))))), by omega⟩⟩)
          · refine rsl (if_neg (lsI_n (rfl) (li_10) (by omega))) ?_
            refine rsl (jv_e) ?_
            refine rsl (vC_e (ck_65 (hC.fr ff23).sI.sI)) ?_
            refine rsl (cL_e (a66_3 (by omega) hS (hC.fr ff23).sI.sI (hTk.fr (WL := W_cp) (Fr.sI (by decide) (Fr.sI (by decide) ff23)) (by decide)) ((sI_nej (by decide)).trans (sI_eq)) (sI_eq) ((sI_nej (by decide)).trans ((sI_nej (by decide)).trans ((f23.i _ _ (by decide)).trans ((sI_ne (by decide)).trans ((g21.i _ _ (by decide)).trans ((g18.i _ _ (by decide)).trans (q13_10))))))) (li_1) (li_1) (by omega))) ?_
            refine rsl (gtI_q (w := iI s) (ck_65 (hC.fr ff23).sI.sI.sI.sI.sI) ((sI_nej (by decide)).trans ((sI_nej (by decide)).trans ((sI_nej (by decide)).trans ((sI_nej (by decide)).trans ((sI_nej (by decide)).trans ((f23.i _ _ (by decide)).trans ((sI_ne (by decide)).trans ((g21.i _ _ (by decide)).trans ((g18.i _ _ (by decide)).trans (q13_16))))))))))) ?_
            refine rsl (vC_e (ck_65 (hC.fr ff23).sI.sI.sI.sI.sI)) ?_
            refine RlI (y87 (by omega) (hC.fr ff23).sI.sI.sI.sI.sI (hTk.fr (WL := W_cp) (Fr.sI (by decide) (Fr.sI (by decide) (Fr.sI (by decide) (Fr.sI (by decide) (Fr.sI (by decide) ff23))))) (by decide)) ((sI_nej (by decide)).trans ((sI_nej (by decide)).trans ((sI_nej (by decide)).trans ((sI_nej (by decide)).trans (sI_eq))))) (sI_eq) ((sI_nej (by decide)).trans ((sI_nej (by decide)).trans (sI_eq))) ((sI_nej (by decide)).trans (sI_eq)) ((sI_nej (by decide)).trans ((sI_nej (by decide)).trans ((sI_nej (by decide)).trans ((sI_nej (by decide)).trans ((sI_nej (by decide)).trans ((f23.i _ _ (by decide)).trans ((sI_ne (by decide)).trans (e21_k0)))))))) ((sI_nej (by decide)).trans ((sI_nej (by decide)).trans ((sI_nej (by decide)).trans ((sI_nej (by decide)).trans ((sI_nej (by decide)).trans ((f23.i _ _ (by decide)).trans ((sI_ne (by decide)).trans ((g21.i _ _ (by decide)).trans ((g18.i _ _ (by decide)).trans (q13_16)))))))))) ((sI_nej (by decide)).trans ((sI_nej (by decide)).trans ((sI_nej (by decide)).trans ((sI_nej (by decide)).trans ((sI_nej (by decide)).trans ((f23.i _ _ (by decide)).trans ((sI_ne (by decide)).trans ((g21.i _ _ (by decide)).trans ((g18.i _ _ (by decide)).trans (q13_19)))))))))) (li_2) (rfl) (by omega)) fun v Ma82 h82 => ?_
            obtain ⟨rv81, sz81, sn81, uc81, rfl, g82, e82_sz81, e82_sn81, e82_uc81, e82_k0, e82_k1, e82_k2, e82_k3, p82_0, p82_1, p82_2, p82_3⟩ := h82
            have f82 : Fr W_cp Mc Ma82 := Fr.t (Fr.sI (by decide) (Fr.sI (by decide) (Fr.sI (by decide) (Fr.sI (by decide) (Fr.sI (by decide) ff23))))) (Fr.m g82 (by decide))
            refine rsl (cI_e rfl) ?_
            refine rsl (vC_e (ck_65 (hC.fr f82))) ?_
            refine RlV (y75 (by omega) (hC.fr f82) (hTk.fr (WL := W_cp) f82 (by decide)) (e82_k3) (e82_k0) (e82_k1) (e82_k2) (e82_sz81) (e82_sn81) (e82_uc81)  (by omega)) fun v Ma84 h84 => ?_
            obtain ⟨sz83, sn83, uc83, g84, e84_sz83, e84_sn83, e84_uc83, e84_k0, e84_k1, e84_k2, e84_k3, p84_0, p84_1, p84_2⟩ := h84
            have f84 : Fr W_cp Mc Ma84 := Fr.t f82 (Fr.m g84 (by decide))
            refine rsl (cV_e rfl) ?_
            refine rsl (vC_e (ck_65 (hC.fr f84))) ?_
            refine RlV (y89 (by omega) (hC.fr f84) (hTk.fr (WL := W_cp) f84 (by decide)) (e84_k3) (e84_k0) (e84_k1) (e84_k2) (e84_sz83) (e84_sn83) (e84_uc83) (hv0) (by omega)) fun v Ma86 h86 => ?_
            obtain ⟨sz85, sn85, uc85, g86, e86_sz85, e86_sn85, e86_uc85, e86_k0, e86_k1, e86_k2, e86_k3, p86_0, p86_1, p86_2⟩ := h86
            have f86 : Fr W_cp Mc Ma86 := Fr.t f84 (Fr.m g86 (by decide))
            refine rsl (cV_e rfl) ?_
            refine rsl (ptI_q (z := s) (ck_65 (hC.fr f86)) (rfl)) ?_
            refine rsl (gtP_q (w := some 73) (ck_65 (hC.fr f86).sI) (cf_65_6 (hC.fr f86).sI)) ?_
            refine rsl (gtI_q (w := iI sz85) (ck_65 (hC.fr f86).sI) ((sI_nej (by decide)).trans (e86_sz85))) ?_
            refine rsl (asI_q (n := 4096) (z := (e13 + 1)) (y := sz85) (ck_73 (hC.fr f86).sI) (congrArg iI p21_0) (by omega) (rfl)) ?_
            refine rsr (vC_e (rk_160 (hR.fr FR13))) ?_
            refine RrI (a196 (by omega) (hR.fr FR13) (w13_43) ((FR13.i _ _ (by decide)).trans h49) ((FR13.i _ _ (by decide)).trans h48) (li_27) (li_0) (by omega)) fun v Ma88 h88 => ?_
            obtain ⟨r87, rfl, g88, e88_k0, p88_0, p88_1⟩ := h88
            have f88 : Fr W_rx Mr Ma88 := Fr.t FR13 (Fr.m g88 (by decide))
            refine rsr (cI_e rfl) ?_
            refine rsr (vC_e (rk_160 (hR.fr f88))) ?_
            refine RrI (a196 (by omega) (hR.fr f88) (e88_k0) ((g88.i _ _ (by decide)).trans ((FR13.i _ _ (by decide)).trans h49)) ((g88.i _ _ (by decide)).trans ((FR13.i _ _ (by decide)).trans h48)) (li_25) (li_0) (by omega)) fun v Ma90 h90 => ?_
            obtain ⟨r89, rfl, g90, e90_k0, p90_0, p90_1⟩ := h90
            have f90 : Fr W_rx Mr Ma90 := Fr.t f88 (Fr.m g90 (by decide))
            refine rsr (cI_e rfl) ?_
            refine rsr (gtP_q (w := some 196) (rk_160 (hR.fr f90)) (rf_45 (hR.fr f90))) ?_
            refine rsr (gtI_q (w := iI (e13 + 2)) (rk_160 (hR.fr f90)) (e90_k0)) ?_
            refine rsr (asI_q (n := 4000) (z := e) (y := (e13 + 2)) (rk_196 (hR.fr f90)) (congrArg iI p10_0) (by omega) (rfl)) ?_
            refine rsr (vC_e (rk_160 (hR.fr f90).sI)) ?_
            refine RrI (a195_424 (by omega) hS (hR.fr f90).sI (hT.fr (W := W_rx) (Fr.sI (inW_c (by decide) _) f90) (by decide) (by decide)) (fun i a b => (Fr.lc (W := W_rx) (Fr.sI (inW_c (by decide) _) f90) _ (by decide) _).trans (hW i a b)) ((sI_ne (by decide)).trans ((g90.i _ _ (by decide)).trans ((g88.i _ _ (by decide)).trans (w13_36)))) ((sI_ne (by decide)).trans ((g90.i _ _ (by decide)).trans ((g88.i _ _ (by decide)).trans (w13_37)))) ((sI_ne (by decide)).trans ((g90.i _ _ (by decide)).trans ((g88.i _ _ (by decide)).trans (w13_38)))) ((sI_ne (by decide)).trans ((g90.i _ _ (by decide)).trans ((g88.i _ _ (by decide)).trans (w13_41)))) (li_424) (i2 := (i13 + 1)) (by omega) (by omega)) fun v Ma92 h92 => ?_
            obtain ⟨r91, rfl, g92, e92_k0, e92_k1, e92_k2, p92_0, p92_1⟩ := h92
            have f92 : Fr W_rx Mr Ma92 := Fr.t (Fr.sI (inW_c (by decide) _) f90) (Fr.m g92 (by decide))
            refine rsr (cI_e rfl) ?_
            refine rsr (vC_e (rk_160 (hR.fr f92))) ?_
            refine rsr (cI_e (a198_3 (by omega) hS (hR.fr f92) (e92_k0) (e92_k1) ((g92.i _ _ (by decide)).trans ((sI_ne (by decide)).trans ((g90.i _ _ (by decide)).trans ((g88.i _ _ (by decide)).trans (w13_41))))) p92_1 ((g92.i _ _ (by decide)).trans ((sI_ne (by decide)).trans ((g90.i _ _ (by decide)).trans ((g88.i _ _ (by decide)).trans (w13_51))))) ((((lr13.fr g88 (by decide)).fr g90 (by decide)).fr (W := W_r2) (Fr.sI (inW_c (by decide) _) Fr.r) (by decide)).fr g92 (by decide)) hlc29 (by omega))) ?_
            refine rsr (jn_v) ?_
            refine rsr (if_pos (eqI_p (rfl) (li_0) (by omega))) ?_
            refine rsr (jv_e) ?_
            exact Rs.ok (Or.inr ⟨3, ((pl (i13 + 1))), (Fr.sI (inW_c (by decide) _) (Fr.sI (by decide) f86)), (Fr.sI (by decide) (Fr.sI (by decide) (Fr.m f92 (by decide)))), ⟨(i13 + 1), sz85, s, uc85, (sI_ne (by decide)).trans ((sI_nej (by decide)).trans (e86_k0)), (sI_ne (by decide)).trans ((sI_nej (by decide)).trans (e86_k1)), (sI_ne (by decide)).trans ((sI_nej (by decide)).trans (e86_k2)), (sI_ne (by decide)).trans ((sI_nej (by decide)).trans (e86_k3)), (sI_ne (by decide)).trans ((sI_nej (by decide)).trans (e86_sz85)), (sI_ne (by decide)).trans (sI_eq), (sI_ne (by decide)).trans ((sI_nej (by decide)).trans (e86_uc85)), by omega⟩, ⟨(e13 + 2), s, u13, mu, ut, (sI_nej (by decide)).trans (sI_eq), sI_eq, (sI_nej (by decide)).trans ((sI_nej (by decide)).trans ((g92.i _ _ (by decide)).trans ((sI_ne (by decide)).trans (e90_k0)))), (sI_nej (by decide)).trans ((sI_nej (by decide)).trans ((g92.i _ _ (by decide)).trans ((sI_ne (by decide)).trans ((g90.i _ _ (by decide)).trans ((g88.i _ _ (by decide)).trans (w13_51)))))), (sI_nej (by decide)).trans ((sI_nej (by decide)).trans ((g92.i _ _ (by decide)).trans ((sI_ne (by decide)).trans ((g90.i _ _ (by decide)).trans ((g88.i _ _ (by decide)).trans (w13_53)))))), (sI_nej (by decide)).trans ((sI_nej (by decide)).trans ((g92.i _ _ (by decide)).trans ((sI_ne (by decide)).trans ((g90.i _ _ (by decide)).trans ((g88.i _ _ (by decide)).trans ((FR13.i _ _ (by decide)).trans h48)))))), (sI_nej (by decide)).trans ((sI_nej (by decide)).trans ((g92.i _ _ (by decide)).trans ((sI_ne (by decide)).trans ((g90.i _ _ (by decide)).trans ((g88.i _ _ (by decide)).trans ((FR13.i _ _ (by decide)).trans h49)))))), by omega⟩⟩)
      ·
        refine RlI (a74 (by omega) (hC.fr ff23).sI.sI ((sI_nej (by decide)).trans ((sI_nej (by decide)).trans ((f23.i _ _ (by decide)).trans ((sI_ne (by decide)).trans ((g21.i _ _ (by decide)).trans ((g18.i _ _ (by decide)).trans (q13_16))))))) (((((lc13.fr g18 (by decide)).fr g21 (by decide)).fr (W := W_c2) (Fr.sI (inW_c (by decide) _) Fr.r) (by decide)).fr f23 (by decide)).fr (W := W_c0) (Fr.sI (by decide) (Fr.sI (by decide) Fr.r)) (by decide)) (x := (tx (i13 + 1))) (by omega)) fun v Ml hl => ?_
        obtain ⟨rl93, rfl, hMl93, hlc93⟩ := hl
        rw [hMl93]
        refine rsl (cI_e rfl) ?_
        have brl93 := hlc93.bd
        by_cases crl93 : rl93 = -1
        ·
          refine rsl (jn_v) ?_
          refine rsl (if_pos (lsI_p (congrArg iI (if_pos crl93)) (li_0) (by omega))) ?_
          refine rsl (jv_e) ?_
          refine rsl (gtI_q (w := iI s) (ck_65 (hC.fr ff23).sI.sI) ((sI_nej (by decide)).trans ((sI_nej (by decide)).trans ((f23.i _ _ (by decide)).trans ((sI_ne (by decide)).trans ((g21.i _ _ (by decide)).trans ((g18.i _ _ (by decide)).trans (q13_16)))))))) ?_
          refine rsl (jn_v) ?_
          by_cases c94 : s < 10
          · refine rsl (if_pos (lsI_p (rfl) (li_10) (by omega))) ?_
            refine rsl (jv_e) ?_
            refine rsl (vC_e (ck_65 (hC.fr ff23).sI.sI)) ?_
            by_cases c95 : ((kd (i13 + 1))) = 1
            ·
              refine rsl (cL_e (a66_1 (by omega) hS (hC.fr ff23).sI.sI (hTk.fr (WL := W_cp) (Fr.sI (by decide) (Fr.sI (by decide) ff23)) (by decide)) ((sI_nej (by decide)).trans (sI_eq)) (sI_eq) ((sI_nej (by decide)).trans ((sI_nej (by decide)).trans ((f23.i _ _ (by decide)).trans ((sI_ne (by decide)).trans ((g21.i _ _ (by decide)).trans ((g18.i _ _ (by decide)).trans (q13_10))))))) (li_0) (li_0) (by omega))) ?_
              refine rsl (gtI_q (w := iI s) (ck_65 (hC.fr ff23).sI.sI.sI.sI.sI) ((sI_nej (by decide)).trans ((sI_nej (by decide)).trans ((sI_nej (by decide)).trans ((sI_nej (by decide)).trans ((sI_nej (by decide)).trans ((f23.i _ _ (by decide)).trans ((sI_ne (by decide)).trans ((g21.i _ _ (by decide)).trans ((g18.i _ _ (by decide)).trans (q13_16))))))))))) ?_
              refine rsl (vC_e (ck_65 (hC.fr ff23).sI.sI.sI.sI.sI)) ?_
              refine RlI (y87 (by omega) (hC.fr ff23).sI.sI.sI.sI.sI (hTk.fr (WL := W_cp) (Fr.sI (by decide) (Fr.sI (by decide) (Fr.sI (by decide) (Fr.sI (by decide) (Fr.sI (by decide) ff23))))) (by decide)) ((sI_nej (by decide)).trans ((sI_nej (by decide)).trans ((sI_nej (by decide)).trans ((sI_nej (by decide)).trans (sI_eq))))) (sI_eq) ((sI_nej (by decide)).trans ((sI_nej (by decide)).trans (sI_eq))) ((sI_nej (by decide)).trans (sI_eq)) ((sI_nej (by decide)).trans ((sI_nej (by decide)).trans ((sI_nej (by decide)).trans ((sI_nej (by decide)).trans ((sI_nej (by decide)).trans ((f23.i _ _ (by decide)).trans ((sI_ne (by decide)).trans (e21_k0)))))))) ((sI_nej (by decide)).trans ((sI_nej (by decide)).trans ((sI_nej (by decide)).trans ((sI_nej (by decide)).trans ((sI_nej (by decide)).trans ((f23.i _ _ (by decide)).trans ((sI_ne (by decide)).trans ((g21.i _ _ (by decide)).trans ((g18.i _ _ (by decide)).trans (q13_16)))))))))) ((sI_nej (by decide)).trans ((sI_nej (by decide)).trans ((sI_nej (by decide)).trans ((sI_nej (by decide)).trans ((sI_nej (by decide)).trans ((f23.i _ _ (by decide)).trans ((sI_ne (by decide)).trans ((g21.i _ _ (by decide)).trans ((g18.i _ _ (by decide)).trans (q13_19)))))))))) (li_2) (rfl) (by omega)) fun v Ma97 h97 => ?_
              obtain ⟨rv96, sz96, sn96, uc96, rfl, g97, e97_sz96, e97_sn96, e97_uc96, e97_k0, e97_k1, e97_k2, e97_k3, p97_0, p97_1, p97_2, p97_3⟩ := h97
              have f97 : Fr W_cp Mc Ma97 := Fr.t (Fr.sI (by decide) (Fr.sI (by decide) (Fr.sI (by decide) (Fr.sI (by decide) (Fr.sI (by decide) ff23))))) (Fr.m g97 (by decide))
              refine rsl (cI_e rfl) ?_
              refine rsl (vC_e (ck_65 (hC.fr f97))) ?_
              refine RlV (y75 (by omega) (hC.fr f97) (hTk.fr (WL := W_cp) f97 (by decide)) (e97_k3) (e97_k0) (e97_k1) (e97_k2) (e97_sz96) (e97_sn96) (e97_uc96)  (by omega)) fun v Ma99 h99 => ?_
              obtain ⟨sz98, sn98, uc98, g99, e99_sz98, e99_sn98, e99_uc98, e99_k0, e99_k1, e99_k2, e99_k3, p99_0, p99_1, p99_2⟩ := h99
              have f99 : Fr W_cp Mc Ma99 := Fr.t f97 (Fr.m g99 (by decide))
              refine rsl (cV_e rfl) ?_
              refine rsl (vC_e (ck_65 (hC.fr f99))) ?_
              refine RlV (y89 (by omega) (hC.fr f99) (hTk.fr (WL := W_cp) f99 (by decide)) (e99_k3) (e99_k0) (e99_k1) (e99_k2) (e99_sz98) (e99_sn98) (e99_uc98) (hv0) (by omega)) fun v Ma101 h101 => ?_
              obtain ⟨sz100, sn100, uc100, g101, e101_sz100, e101_sn100, e101_uc100, e101_k0, e101_k1, e101_k2, e101_k3, p101_0, p101_1, p101_2⟩ := h101
              have f101 : Fr W_cp Mc Ma101 := Fr.t f99 (Fr.m g101 (by decide))
              refine rsl (cV_e rfl) ?_
              refine rsl (ptI_q (z := s) (ck_65 (hC.fr f101)) (rfl)) ?_
              refine rsl (gtP_q (w := some 73) (ck_65 (hC.fr f101).sI) (cf_65_6 (hC.fr f101).sI)) ?_
              refine rsl (gtI_q (w := iI sz100) (ck_65 (hC.fr f101).sI) ((sI_nej (by decide)).trans (e101_sz100))) ?_
              refine rsl (asI_q (n := 4096) (z := (e13 + 1)) (y := sz100) (ck_73 (hC.fr f101).sI) (congrArg iI p21_0) (by omega) (rfl)) ?_
              refine rsr (vC_e (rk_160 (hR.fr FR13))) ?_
              refine RrI (a196 (by omega) (hR.fr FR13) (w13_43) ((FR13.i _ _ (by decide)).trans h49) ((FR13.i _ _ (by decide)).trans h48) (li_27) (li_0) (by omega)) fun v Ma103 h103 => ?_
              obtain ⟨r102, rfl, g103, e103_k0, p103_0, p103_1⟩ := h103
              have f103 : Fr W_rx Mr Ma103 := Fr.t FR13 (Fr.m g103 (by decide))
              refine rsr (cI_e rfl) ?_
              refine rsr (vC_e (rk_160 (hR.fr f103))) ?_
              refine RrI (a196 (by omega) (hR.fr f103) (e103_k0) ((g103.i _ _ (by decide)).trans ((FR13.i _ _ (by decide)).trans h49)) ((g103.i _ _ (by decide)).trans ((FR13.i _ _ (by decide)).trans h48)) (li_25) (li_0) (by omega)) fun v Ma105 h105 => ?_
              obtain ⟨r104, rfl, g105, e105_k0, p105_0, p105_1⟩ := h105
              have f105 : Fr W_rx Mr Ma105 := Fr.t f103 (Fr.m g105 (by decide))
              refine rsr (cI_e rfl) ?_
              refine rsr (gtP_q (w := some 196) (rk_160 (hR.fr f105)) (rf_45 (hR.fr f105))) ?_
              refine rsr (gtI_q (w := iI (e13 + 2)) (rk_160 (hR.fr f105)) (e105_k0)) ?_
              refine rsr (asI_q (n := 4000) (z := e) (y := (e13 + 2)) (rk_196 (hR.fr f105)) (congrArg iI p10_0) (by omega) (rfl)) ?_
              refine rsr (vC_e (rk_160 (hR.fr f105).sI)) ?_
              refine RrI (a195_424 (by omega) hS (hR.fr f105).sI (hT.fr (W := W_rx) (Fr.sI (inW_c (by decide) _) f105) (by decide) (by decide)) (fun i a b => (Fr.lc (W := W_rx) (Fr.sI (inW_c (by decide) _) f105) _ (by decide) _).trans (hW i a b)) ((sI_ne (by decide)).trans ((g105.i _ _ (by decide)).trans ((g103.i _ _ (by decide)).trans (w13_36)))) ((sI_ne (by decide)).trans ((g105.i _ _ (by decide)).trans ((g103.i _ _ (by decide)).trans (w13_37)))) ((sI_ne (by decide)).trans ((g105.i _ _ (by decide)).trans ((g103.i _ _ (by decide)).trans (w13_38)))) ((sI_ne (by decide)).trans ((g105.i _ _ (by decide)).trans ((g103.i _ _ (by decide)).trans (w13_41)))) (li_424) (i2 := (i13 + 1)) (by omega) (by omega)) fun v Ma107 h107 => ?_
              obtain ⟨r106, rfl, g107, e107_k0, e107_k1, e107_k2, p107_0, p107_1⟩ := h107
              have f107 : Fr W_rx Mr Ma107 := Fr.t (Fr.sI (inW_c (by decide) _) f105) (Fr.m g107 (by decide))
              refine rsr (cI_e rfl) ?_
              refine rsr (vC_e (rk_160 (hR.fr f107))) ?_
              refine rsr (cI_e (a198_1 (by omega) hS (hR.fr f107) (e107_k0) (e107_k1) ((g107.i _ _ (by decide)).trans ((sI_ne (by decide)).trans ((g105.i _ _ (by decide)).trans ((g103.i _ _ (by decide)).trans (w13_41))))) p107_1 ((g107.i _ _ (by decide)).trans ((sI_ne (by decide)).trans ((g105.i _ _ (by decide)).trans ((g103.i _ _ (by decide)).trans (w13_51))))) ((((lr13.fr g103 (by decide)).fr g105 (by decide)).fr (W := W_r2) (Fr.sI (inW_c (by decide) _) Fr.r) (by decide)).fr g107 (by decide)) (by omega))) ?_
              refine rsr (jn_v) ?_
              refine rsr (if_pos (eqI_p (rfl) (li_0) (by omega))) ?_
              refine rsr (jv_e) ?_
              exact Rs.ok (Or.inr ⟨1, ((pl (i13 + 1))), (Fr.sI (inW_c (by decide) _) (Fr.sI (by decide) f101)), (Fr.sI (by decide) (Fr.sI (by decide) (Fr.m f107 (by decide)))), ⟨(i13 + 1), sz100, s, uc100, (sI_ne (by decide)).trans ((sI_nej (by decide)).trans (e101_k0)), (sI_ne (by decide)).trans ((sI_nej (by decide)).trans (e101_k1)), (sI_ne (by decide)).trans ((sI_nej (by decide)).trans (e101_k2)), (sI_ne (by decide)).trans ((sI_nej (by decide)).trans (e101_k3)), (sI_ne (by decide)).trans ((sI_nej (by decide)).trans (e101_sz100)), (sI_ne (by decide)).trans (sI_eq), (sI_ne (by decide)).trans ((sI_nej (by decide)).trans (e101_uc100)), by omega⟩, ⟨(e13 + 2), s, u13, mu, ut, (sI_nej (by decide)).trans (sI_eq), sI_eq, (sI_nej (by decide)).trans ((sI_nej (by decide)).trans ((g107.i _ _ (by decide)).trans ((sI_ne (by decide)).trans (e105_k0)))), (sI_nej (by decide)).trans ((sI_nej (by decide)).trans ((g107.i _ _ (by decide)).trans ((sI_ne (by decide)).trans ((g105.i _ _ (by decide)).trans ((g103.i _ _ (by decide)).trans (w13_51)))))), (sI_nej (by decide)).trans ((sI_nej (by decide)).trans ((g107.i _ _ (by decide)).trans ((sI_ne (by decide)).trans ((g105.i _ _ (by decide)).trans ((g103.i _ _ (by decide)).trans (w13_53)))))), (sI_nej (by decide)).trans ((sI_nej (by decide)).trans ((g107.i _ _ (by decide)).trans ((sI_ne (by decide)).trans ((g105.i _ _ (by decide)).trans ((g103.i _ _ (by decide)).trans ((FR13.i _ _ (by decide)).trans h48)))))), (sI_nej (by decide)).trans ((sI_nej (by decide)).trans ((g107.i _ _ (by decide)).trans ((sI_ne (by decide)).trans ((g105.i _ _ (by decide)).trans ((g103.i _ _ (by decide)).trans ((FR13.i _ _ (by decide)).trans h49)))))), by omega⟩⟩)
            ·
              refine rsl (cL_e (a66_2 (by omega) hS (hC.fr ff23).sI.sI (hTk.fr (WL := W_cp) (Fr.sI (by decide) (Fr.sI (by decide) ff23)) (by decide)) ((sI_nej (by decide)).trans (sI_eq)) (sI_eq) ((sI_nej (by decide)).trans ((sI_nej (by decide)).trans ((f23.i _ _ (by decide)).trans ((sI_ne (by decide)).trans ((g21.i _ _ (by decide)).trans ((g18.i _ _ (by decide)).trans (q13_10))))))) (li_0) (li_0) (by omega))) ?_
              refine rsl (gtI_q (w := iI s) (ck_65 (hC.fr ff23).sI.sI.sI.sI.sI) ((sI_nej (by decide)).trans ((sI_nej (by decide)).trans ((sI_nej (by decide)).trans ((sI_nej (by decide)).trans ((sI_nej (by decide)).trans ((f23.i _ _ (by decide)).trans ((sI_ne (by decide)).trans ((g21.i _ _ (by decide)).trans ((g18.i _ _ (by decide)).trans (q13_16))))))))))) ?_
              refine rsl (vC_e (ck_65 (hC.fr ff23).sI.sI.sI.sI.sI)) ?_
              refine RlI (y87 (by omega) (hC.fr ff23).sI.sI.sI.sI.sI (hTk.fr (WL := W_cp) (Fr.sI (by decide) (Fr.sI (by decide) (Fr.sI (by decide) (Fr.sI (by decide) (Fr.sI (by decide) ff23))))) (by decide)) ((sI_nej (by decide)).trans ((sI_nej (by decide)).trans ((sI_nej (by decide)).trans ((sI_nej (by decide)).trans (sI_eq))))) (sI_eq) ((sI_nej (by decide)).trans ((sI_nej (by decide)).trans (sI_eq))) ((sI_nej (by decide)).trans (sI_eq)) ((sI_nej (by decide)).trans ((sI_nej (by decide)).trans ((sI_nej (by decide)).trans ((sI_nej (by decide)).trans ((sI_nej (by decide)).trans ((f23.i _ _ (by decide)).trans ((sI_ne (by decide)).trans (e21_k0)))))))) ((sI_nej (by decide)).trans ((sI_nej (by decide)).trans ((sI_nej (by decide)).trans ((sI_nej (by decide)).trans ((sI_nej (by decide)).trans ((f23.i _ _ (by decide)).trans ((sI_ne (by decide)).trans ((g21.i _ _ (by decide)).trans ((g18.i _ _ (by decide)).trans (q13_16)))))))))) ((sI_nej (by decide)).trans ((sI_nej (by decide)).trans ((sI_nej (by decide)).trans ((sI_nej (by decide)).trans ((sI_nej (by decide)).trans ((f23.i _ _ (by decide)).trans ((sI_ne (by decide)).trans ((g21.i _ _ (by decide)).trans ((g18.i _ _ (by decide)).trans (q13_19)))))))))) (li_2) (rfl) (by omega)) fun v Ma109 h109 => ?_
              obtain ⟨rv108, sz108, sn108, uc108, rfl, g109, e109_sz108, e109_sn108, e109_uc108, e109_k0, e109_k1, e109_k2, e109_k3, p109_0, p109_1, p109_2, p109_3⟩ := h109
              have f109 : Fr W_cp Mc Ma109 := Fr.t (Fr.sI (by decide) (Fr.sI (by decide) (Fr.sI (by decide) (Fr.sI (by decide) (Fr.sI (by decide) ff23))))) (Fr.m g109 (by decide))
              refine rsl (cI_e rfl) ?_
              refine rsl (vC_e (ck_65 (hC.fr f109))) ?_
              refine RlV (y75 (by omega) (hC.fr f109) (hTk.fr (WL := W_cp) f109 (by decide)) (e109_k3) (e109_k0) (e109_k1) (e109_k2) (e109_sz108) (e109_sn108) (e109_uc108)  (by omega)) fun v Ma111 h111 => ?_
              obtain ⟨sz110, sn110, uc110, g111, e111_sz110, e111_sn110, e111_uc110, e111_k0, e111_k1, e111_k2, e111_k3, p111_0, p111_1, p111_2⟩ := h111
              have f111 : Fr W_cp Mc Ma111 := Fr.t f109 (Fr.m g111 (by decide))
              refine rsl (cV_e rfl) ?_
              refine rsl (vC_e (ck_65 (hC.fr f111))) ?_
              refine RlV (y89 (by omega) (hC.fr f111) (hTk.fr (WL := W_cp) f111 (by decide)) (e111_k3) (e111_k0) (e111_k1) (e111_k2) (e111_sz110) (e111_sn110) (e111_uc110) (hv0) (by omega)) fun v Ma113 h113 => ?_
              obtain ⟨sz112, sn112, uc112, g113, e113_sz112, e113_sn112, e113_uc112, e113_k0, e113_k1, e113_k2, e113_k3, p113_0, p113_1, p113_2⟩ := h113
              have f113 : Fr W_cp Mc Ma113 := Fr.t f111 (Fr.m g113 (by decide))
              refine rsl (cV_e rfl) ?_
              refine rsl (ptI_q (z := s) (ck_65 (hC.fr f113)) (rfl)) ?_
              refine rsl (gtP_q (w := some 73) (ck_65 (hC.fr f113).sI) (cf_65_6 (hC.fr f113).sI)) ?_
              refine rsl (gtI_q (w := iI sz112) (ck_65 (hC.fr f113).sI) ((sI_nej (by decide)).trans (e113_sz112))) ?_
              refine rsl (asI_q (n := 4096) (z := (e13 + 1)) (y := sz112) (ck_73 (hC.fr f113).sI) (congrArg iI p21_0) (by omega) (rfl)) ?_
              refine rsr (vC_e (rk_160 (hR.fr FR13))) ?_
              refine RrI (a196 (by omega) (hR.fr FR13) (w13_43) ((FR13.i _ _ (by decide)).trans h49) ((FR13.i _ _ (by decide)).trans h48) (li_27) (li_0) (by omega)) fun v Ma115 h115 => ?_
              obtain ⟨r114, rfl, g115, e115_k0, p115_0, p115_1⟩ := h115
              have f115 : Fr W_rx Mr Ma115 := Fr.t FR13 (Fr.m g115 (by decide))
              refine rsr (cI_e rfl) ?_
              refine rsr (vC_e (rk_160 (hR.fr f115))) ?_
              refine RrI (a196 (by omega) (hR.fr f115) (e115_k0) ((g115.i _ _ (by decide)).trans ((FR13.i _ _ (by decide)).trans h49)) ((g115.i _ _ (by decide)).trans ((FR13.i _ _ (by decide)).trans h48)) (li_25) (li_0) (by omega)) fun v Ma117 h117 => ?_
              obtain ⟨r116, rfl, g117, e117_k0, p117_0, p117_1⟩ := h117
              have f117 : Fr W_rx Mr Ma117 := Fr.t f115 (Fr.m g117 (by decide))
              refine rsr (cI_e rfl) ?_
              refine rsr (gtP_q (w := some 196) (rk_160 (hR.fr f117)) (rf_45 (hR.fr f117))) ?_
              refine rsr (gtI_q (w := iI (e13 + 2)) (rk_160 (hR.fr f117)) (e117_k0)) ?_
              refine rsr (asI_q (n := 4000) (z := e) (y := (e13 + 2)) (rk_196 (hR.fr f117)) (congrArg iI p10_0) (by omega) (rfl)) ?_
              refine rsr (vC_e (rk_160 (hR.fr f117).sI)) ?_
              refine RrI (a195_424 (by omega) hS (hR.fr f117).sI (hT.fr (W := W_rx) (Fr.sI (inW_c (by decide) _) f117) (by decide) (by decide)) (fun i a b => (Fr.lc (W := W_rx) (Fr.sI (inW_c (by decide) _) f117) _ (by decide) _).trans (hW i a b)) ((sI_ne (by decide)).trans ((g117.i _ _ (by decide)).trans ((g115.i _ _ (by decide)).trans (w13_36)))) ((sI_ne (by decide)).trans ((g117.i _ _ (by decide)).trans ((g115.i _ _ (by decide)).trans (w13_37)))) ((sI_ne (by decide)).trans ((g117.i _ _ (by decide)).trans ((g115.i _ _ (by decide)).trans (w13_38)))) ((sI_ne (by decide)).trans ((g117.i _ _ (by decide)).trans ((g115.i _ _ (by decide)).trans (w13_41)))) (li_424) (i2 := (i13 + 1)) (by omega) (by omega)) fun v Ma119 h119 => ?_
              obtain ⟨r118, rfl, g119, e119_k0, e119_k1, e119_k2, p119_0, p119_1⟩ := h119
              have f119 : Fr W_rx Mr Ma119 := Fr.t (Fr.sI (inW_c (by decide) _) f117) (Fr.m g119 (by decide))
              refine rsr (cI_e rfl) ?_
              refine rsr (vC_e (rk_160 (hR.fr f119))) ?_
              refine rsr (cI_e (a198_2 (by omega) hS (hR.fr f119) (e119_k0) (e119_k1) ((g119.i _ _ (by decide)).trans ((sI_ne (by decide)).trans ((g117.i _ _ (by decide)).trans ((g115.i _ _ (by decide)).trans (w13_41))))) p119_1 ((g119.i _ _ (by decide)).trans ((sI_ne (by decide)).trans ((g117.i _ _ (by decide)).trans ((g115.i _ _ (by decide)).trans (w13_51))))) ((((lr13.fr g115 (by decide)).fr g117 (by decide)).fr (W := W_r2) (Fr.sI (inW_c (by decide) _) Fr.r) (by decide)).fr g119 (by decide)) (by omega))) ?_
              refine rsr (jn_v) ?_
              refine rsr (if_pos (eqI_p (rfl) (li_0) (by omega))) ?_
              refine rsr (jv_e) ?_
              exact Rs.ok (Or.inr ⟨2, ((pl (i13 + 1))), (Fr.sI (inW_c (by decide) _) (Fr.sI (by decide) f113)), (Fr.sI (by decide) (Fr.sI (by decide) (Fr.m f119 (by decide)))), ⟨(i13 + 1), sz112, s, uc112, (sI_ne (by decide)).trans ((sI_nej (by decide)).trans (e113_k0)), (sI_ne (by decide)).trans ((sI_nej (by decide)).trans (e113_k1)), (sI_ne (by decide)).trans ((sI_nej (by decide)).trans (e113_k2)), (sI_ne (by decide)).trans ((sI_nej (by decide)).trans (e113_k3)), (sI_ne (by decide)).trans ((sI_nej (by decide)).trans (e113_sz112)), (sI_ne (by decide)).trans (sI_eq), (sI_ne (by decide)).trans ((sI_nej (by decide)).trans (e113_uc112)), by omega⟩, ⟨(e13 + 2), s, u13, mu, ut, (sI_nej (by decide)).trans (sI_eq), sI_eq, (sI_nej (by decide)).trans ((sI_nej (by decide)).trans ((g119.i _ _ (by decide)).trans ((sI_ne (by decide)).trans (e117_k0)))), (sI_nej (by decide)).trans ((sI_nej (by decide)).trans ((g119.i _ _ (by decide)).trans ((sI_ne (by decide)).trans ((g117.i _ _ (by decide)).trans ((g115.i _ _ (by decide)).trans (w13_51)))))), (sI_nej (by decide)).trans ((sI_nej (by decide)).trans ((g119.i _ _ (by decide)).trans ((sI_ne (by decide)).trans ((g117.i _ _ (by decide)).trans ((g115.i _ _ (by decide)).trans (w13_53)))))), (sI_nej (by decide)).trans ((sI_nej (by decide)).trans ((g119.i _ _ (by decide)).trans ((sI_ne (by decide)).trans ((g117.i _ _ (by decide)).trans ((g115.i _ _ (by decide)).trans ((FR13.i _ _ (by decide)).trans h48)))))), (sI_nej (by decide)).trans ((sI_nej (by decide)).trans ((g119.i _ _ (by decide)).trans ((sI_ne (by decide)).trans ((g117.i _ _ (by decide)).trans ((g115.i _ _ (by decide)).trans ((FR13.i _ _ (by decide)).trans h49)))))), by omega⟩⟩)
          · refine rsl (if_neg (lsI_n (rfl) (li_10) (by omega))) ?_
            refine rsl (jv_e) ?_
            refine rsl (vC_e (ck_65 (hC.fr ff23).sI.sI)) ?_
            by_cases c120 : ((kd (i13 + 1))) = 1
            ·
              refine rsl (cL_e (a66_1 (by omega) hS (hC.fr ff23).sI.sI (hTk.fr (WL := W_cp) (Fr.sI (by decide) (Fr.sI (by decide) ff23)) (by decide)) ((sI_nej (by decide)).trans (sI_eq)) (sI_eq) ((sI_nej (by decide)).trans ((sI_nej (by decide)).trans ((f23.i _ _ (by decide)).trans ((sI_ne (by decide)).trans ((g21.i _ _ (by decide)).trans ((g18.i _ _ (by decide)).trans (q13_10))))))) (li_0) (li_1) (by omega))) ?_
              refine rsl (gtI_q (w := iI s) (ck_65 (hC.fr ff23).sI.sI.sI.sI.sI) ((sI_nej (by decide)).trans ((sI_nej (by decide)).trans ((sI_nej (by decide)).trans ((sI_nej (by decide)).trans ((sI_nej (by decide)).trans ((f23.i _ _ (by decide)).trans ((sI_ne (by decide)).trans ((g21.i _ _ (by decide)).trans ((g18.i _ _ (by decide)).trans (q13_16))))))))))) ?_
              refine rsl (vC_e (ck_65 (hC.fr ff23).sI.sI.sI.sI.sI)) ?_
              refine RlI (y87 (by omega) (hC.fr ff23).sI.sI.sI.sI.sI (hTk.fr (WL := W_cp) (Fr.sI (by decide) (Fr.sI (by decide) (Fr.sI (by decide) (Fr.sI (by decide) (Fr.sI (by decide) ff23))))) (by decide)) ((sI_nej (by decide)).trans ((sI_nej (by decide)).trans ((sI_nej (by decide)).trans ((sI_nej (by decide)).trans (sI_eq))))) (sI_eq) ((sI_nej (by decide)).trans ((sI_nej (by decide)).trans (sI_eq))) ((sI_nej (by decide)).trans (sI_eq)) ((sI_nej (by decide)).trans ((sI_nej (by decide)).trans ((sI_nej (by decide)).trans ((sI_nej (by decide)).trans ((sI_nej (by decide)).trans ((f23.i _ _ (by decide)).trans ((sI_ne (by decide)).trans (e21_k0)))))))) ((sI_nej (by decide)).trans ((sI_nej (by decide)).trans ((sI_nej (by decide)).trans ((sI_nej (by decide)).trans ((sI_nej (by decide)).trans ((f23.i _ _ (by decide)).trans ((sI_ne (by decide)).trans ((g21.i _ _ (by decide)).trans ((g18.i _ _ (by decide)).trans (q13_16)))))))))) ((sI_nej (by decide)).trans ((sI_nej (by decide)).trans ((sI_nej (by decide)).trans ((sI_nej (by decide)).trans ((sI_nej (by decide)).trans ((f23.i _ _ (by decide)).trans ((sI_ne (by decide)).trans ((g21.i _ _ (by decide)).trans ((g18.i _ _ (by decide)).trans (q13_19)))))))))) (li_2) (rfl) (by omega)) fun v Ma122 h122 => ?_
              obtain ⟨rv121, sz121, sn121, uc121, rfl, g122, e122_sz121, e122_sn121, e122_uc121, e122_k0, e122_k1, e122_k2, e122_k3, p122_0, p122_1, p122_2, p122_3⟩ := h122
              have f122 : Fr W_cp Mc Ma122 := Fr.t (Fr.sI (by decide) (Fr.sI (by decide) (Fr.sI (by decide) (Fr.sI (by decide) (Fr.sI (by decide) ff23))))) (Fr.m g122 (by decide))
              refine rsl (cI_e rfl) ?_
              refine rsl (vC_e (ck_65 (hC.fr f122))) ?_
              refine RlV (y75 (by omega) (hC.fr f122) (hTk.fr (WL := W_cp) f122 (by decide)) (e122_k3) (e122_k0) (e122_k1) (e122_k2) (e122_sz121) (e122_sn121) (e122_uc121)  (by omega)) fun v Ma124 h124 => ?_
              obtain ⟨sz123, sn123, uc123, g124, e124_sz123, e124_sn123, e124_uc123, e124_k0, e124_k1, e124_k2, e124_k3, p124_0, p124_1, p124_2⟩ := h124
              have f124 : Fr W_cp Mc Ma124 := Fr.t f122 (Fr.m g124 (by decide))
              refine rsl (cV_e rfl) ?_
              refine rsl (vC_e (ck_65 (hC.fr f124))) ?_
              refine RlV (y89 (by omega) (hC.fr f124) (hTk.fr (WL := W_cp) f124 (by decide)) (e124_k3) (e124_k0) (e124_k1) (e124_k2) (e124_sz123) (e124_sn123) (e124_uc123) (hv0) (by omega)) fun v Ma126 h126 => ?_
              obtain ⟨sz125, sn125, uc125, g126, e126_sz125, e126_sn125, e126_uc125, e126_k0, e126_k1, e126_k2, e126_k3, p126_0, p126_1, p126_2⟩ := h126
              have f126 : Fr W_cp Mc Ma126 := Fr.t f124 (Fr.m g126 (by decide))
              refine rsl (cV_e rfl) ?_
              refine rsl (ptI_q (z := s) (ck_65 (hC.fr f126)) (rfl)) ?_
              refine rsl (gtP_q (w := some 73) (ck_65 (hC.fr f126).sI) (cf_65_6 (hC.fr f126).sI)) ?_
              refine rsl (gtI_q (w := iI sz125) (ck_65 (hC.fr f126).sI) ((sI_nej (by decide)).trans (e126_sz125))) ?_
              refine rsl (asI_q (n := 4096) (z := (e13 + 1)) (y := sz125) (ck_73 (hC.fr f126).sI) (congrArg iI p21_0) (by omega) (rfl)) ?_
              refine rsr (vC_e (rk_160 (hR.fr FR13))) ?_
              refine RrI (a196 (by omega) (hR.fr FR13) (w13_43) ((FR13.i _ _ (by decide)).trans h49) ((FR13.i _ _ (by decide)).trans h48) (li_27) (li_0) (by omega)) fun v Ma128 h128 => ?_
              obtain ⟨r127, rfl, g128, e128_k0, p128_0, p128_1⟩ := h128
              have f128 : Fr W_rx Mr Ma128 := Fr.t FR13 (Fr.m g128 (by decide))
              refine rsr (cI_e rfl) ?_
              refine rsr (vC_e (rk_160 (hR.fr f128))) ?_
              refine RrI (a196 (by omega) (hR.fr f128) (e128_k0) ((g128.i _ _ (by decide)).trans ((FR13.i _ _ (by decide)).trans h49)) ((g128.i _ _ (by decide)).trans ((FR13.i _ _ (by decide)).trans h48)) (li_25) (li_0) (by omega)) fun v Ma130 h130 => ?_
              obtain ⟨r129, rfl, g130, e130_k0, p130_0, p130_1⟩ := h130
              have f130 : Fr W_rx Mr Ma130 := Fr.t f128 (Fr.m g130 (by decide))
              refine rsr (cI_e rfl) ?_
              refine rsr (gtP_q (w := some 196) (rk_160 (hR.fr f130)) (rf_45 (hR.fr f130))) ?_
              refine rsr (gtI_q (w := iI (e13 + 2)) (rk_160 (hR.fr f130)) (e130_k0)) ?_
              refine rsr (asI_q (n := 4000) (z := e) (y := (e13 + 2)) (rk_196 (hR.fr f130)) (congrArg iI p10_0) (by omega) (rfl)) ?_
              refine rsr (vC_e (rk_160 (hR.fr f130).sI)) ?_
              refine RrI (a195_424 (by omega) hS (hR.fr f130).sI (hT.fr (W := W_rx) (Fr.sI (inW_c (by decide) _) f130) (by decide) (by decide)) (fun i a b => (Fr.lc (W := W_rx) (Fr.sI (inW_c (by decide) _) f130) _ (by decide) _).trans (hW i a b)) ((sI_ne (by decide)).trans ((g130.i _ _ (by decide)).trans ((g128.i _ _ (by decide)).trans (w13_36)))) ((sI_ne (by decide)).trans ((g130.i _ _ (by decide)).trans ((g128.i _ _ (by decide)).trans (w13_37)))) ((sI_ne (by decide)).trans ((g130.i _ _ (by decide)).trans ((g128.i _ _ (by decide)).trans (w13_38)))) ((sI_ne (by decide)).trans ((g130.i _ _ (by decide)).trans ((g128.i _ _ (by decide)).trans (w13_41)))) (li_424) (i2 := (i13 + 1)) (by omega) (by omega)) fun v Ma132 h132 => ?_
              obtain ⟨r131, rfl, g132, e132_k0, e132_k1, e132_k2, p132_0, p132_1⟩ := h132
              have f132 : Fr W_rx Mr Ma132 := Fr.t (Fr.sI (inW_c (by decide) _) f130) (Fr.m g132 (by decide))
              refine rsr (cI_e rfl) ?_
              refine rsr (vC_e (rk_160 (hR.fr f132))) ?_
              refine rsr (cI_e (a198_1 (by omega) hS (hR.fr f132) (e132_k0) (e132_k1) ((g132.i _ _ (by decide)).trans ((sI_ne (by decide)).trans ((g130.i _ _ (by decide)).trans ((g128.i _ _ (by decide)).trans (w13_41))))) p132_1 ((g132.i _ _ (by decide)).trans ((sI_ne (by decide)).trans ((g130.i _ _ (by decide)).trans ((g128.i _ _ (by decide)).trans (w13_51))))) ((((lr13.fr g128 (by decide)).fr g130 (by decide)).fr (W := W_r2) (Fr.sI (inW_c (by decide) _) Fr.r) (by decide)).fr g132 (by decide)) (by omega))) ?_
              refine rsr (jn_v) ?_
              refine rsr (if_pos (eqI_p (rfl) (li_0) (by omega))) ?_
              refine rsr (jv_e) ?_
              exact Rs.ok (Or.inr ⟨1, ((pl (i13 + 1))), (Fr.sI (inW_c (by decide) _) (Fr.sI (by decide) f126)), (Fr.sI (by decide) (Fr.sI (by decide) (Fr.m f132 (by decide)))), ⟨(i13 + 1), sz125, s, uc125, (sI_ne (by decide)).trans ((sI_nej (by decide)).trans (e126_k0)), (sI_ne (by decide)).trans ((sI_nej (by decide)).trans (e126_k1)), (sI_ne (by decide)).trans ((sI_nej (by decide)).trans (e126_k2)), (sI_ne (by decide)).trans ((sI_nej (by decide)).trans (e126_k3)), (sI_ne (by decide)).trans ((sI_nej (by decide)).trans (e126_sz125)), (sI_ne (by decide)).trans (sI_eq), (sI_ne (by decide)).trans ((sI_nej (by decide)).trans (e126_uc125)), by omega⟩, ⟨(e13 + 2), s, u13, mu, ut, (sI_nej (by decide)).trans (sI_eq), sI_eq, (sI_nej (by decide)).trans ((sI_nej (by decide)).trans ((g132.i _ _ (by decide)).trans ((sI_ne (by decide)).trans (e130_k0)))), (sI_nej (by decide)).trans ((sI_nej (by decide)).trans ((g132.i _ _ (by decide)).trans ((sI_ne (by decide)).trans ((g130.i _ _ (by decide)).trans ((g128.i _ _ (by decide)).trans (w13_51)))))), (sI_nej (by decide)).trans ((sI_nej (by decide)).trans ((g132.i _ _ (by decide)).trans ((sI_ne (by decide)).trans ((g130.i _ _ (by decide)).trans ((g128.i _ _ (by decide)).trans (w13_53)))))), (sI_nej (by decide)).trans ((sI_nej (by decide)).trans ((g132.i _ _ (by decide)).trans ((sI_ne (by decide)).trans ((g130.i _ _ (by decide)).trans ((g128.i _ _ (by decide)).trans ((FR13.i _ _ (by decide)).trans h48)))))), (sI_nej (by decide)).trans ((sI_nej (by decide)).trans ((g132.i _ _ (by decide)).trans ((sI_ne (by decide)).trans ((g130.i _ _ (by decide)).trans ((g128.i _ _ (by decide)).trans ((FR13.i _ _ (by decide)).trans h49)))))), by omega⟩⟩)
            ·
              refine rsl (cL_e (a66_2 (by omega) hS (hC.fr ff23).sI.sI (hTk.fr (WL := W_cp) (Fr.sI (by decide) (Fr.sI (by decide) ff23)) (by decide)) ((sI_nej (by decide)).trans (sI_eq)) (sI_eq) ((sI_nej (by decide)).trans ((sI_nej (by decide)).trans ((f23.i _ _ (by decide)).trans ((sI_ne (by decide)).trans ((g21.i _ _ (by decide)).trans ((g18.i _ _ (by decide)).trans (q13_10))))))) (li_0) (li_1) (by omega))) ?_
              refine rsl (gtI_q (w := iI s) (ck_65 (hC.fr ff23).sI.sI.sI.sI.sI) ((sI_nej (by decide)).trans ((sI_nej (by decide)).trans ((sI_nej (by decide)).trans ((sI_nej (by decide)).trans ((sI_nej (by decide)).trans ((f23.i _ _ (by decide)).trans ((sI_ne (by decide)).trans ((g21.i _ _ (by decide)).trans ((g18.i _ _ (by decide)).trans (q13_16))))))))))) ?_
              refine rsl (vC_e (ck_65 (hC.fr ff23).sI.sI.sI.sI.sI)) ?_
              refine RlI (y87 (by omega) (hC.fr ff23).sI.sI.sI.sI.sI (hTk.fr (WL := W_cp) (Fr.sI (by decide) (Fr.sI (by decide) (Fr.sI (by decide) (Fr.sI (by decide) (Fr.sI (by decide) ff23))))) (by decide)) ((sI_nej (by decide)).trans ((sI_nej (by decide)).trans ((sI_nej (by decide)).trans ((sI_nej (by decide)).trans (sI_eq))))) (sI_eq) ((sI_nej (by decide)).trans ((sI_nej (by decide)).trans (sI_eq))) ((sI_nej (by decide)).trans (sI_eq)) ((sI_nej (by decide)).trans ((sI_nej (by decide)).trans ((sI_nej (by decide)).trans ((sI_nej (by decide)).trans ((sI_nej (by decide)).trans ((f23.i _ _ (by decide)).trans ((sI_ne (by decide)).trans (e21_k0)))))))) ((sI_nej (by decide)).trans ((sI_nej (by decide)).trans ((sI_nej (by decide)).trans ((sI_nej (by decide)).trans ((sI_nej (by decide)).trans ((f23.i _ _ (by decide)).trans ((sI_ne (by decide)).trans ((g21.i _ _ (by decide)).trans ((g18.i _ _ (by decide)).trans (q13_16)))))))))) ((sI_nej (by decide)).trans ((sI_nej (by decide)).trans ((sI_nej (by decide)).trans ((sI_nej (by decide)).trans ((sI_nej (by decide)).trans ((f23.i _ _ (by decide)).trans ((sI_ne (by decide)).trans ((g21.i _ _ (by decide)).trans ((g18.i _ _ (by decide)).trans (q13_19)))))))))) (li_2) (rfl) (by omega)) fun v Ma134 h134 => ?_
              obtain ⟨rv133, sz133, sn133, uc133, rfl, g134, e134_sz133, e134_sn133, e134_uc133, e134_k0, e134_k1, e134_k2, e134_k3, p134_0, p134_1, p134_2, p134_3⟩ := h134
              have f134 : Fr W_cp Mc Ma134 := Fr.t (Fr.sI (by decide) (Fr.sI (by decide) (Fr.sI (by decide) (Fr.sI (by decide) (Fr.sI (by decide) ff23))))) (Fr.m g134 (by decide))
              refine rsl (cI_e rfl) ?_
              refine rsl (vC_e (ck_65 (hC.fr f134))) ?_
              refine RlV (y75 (by omega) (hC.fr f134) (hTk.fr (WL := W_cp) f134 (by decide)) (e134_k3) (e134_k0) (e134_k1) (e134_k2) (e134_sz133) (e134_sn133) (e134_uc133)  (by omega)) fun v Ma136 h136 => ?_
              obtain ⟨sz135, sn135, uc135, g136, e136_sz135, e136_sn135, e136_uc135, e136_k0, e136_k1, e136_k2, e136_k3, p136_0, p136_1, p136_2⟩ := h136
              have f136 : Fr W_cp Mc Ma136 := Fr.t f134 (Fr.m g136 (by decide))
              refine rsl (cV_e rfl) ?_
              refine rsl (vC_e (ck_65 (hC.fr f136))) ?_
              refine RlV (y89 (by omega) (hC.fr f136) (hTk.fr (WL := W_cp) f136 (by decide)) (e136_k3) (e136_k0) (e136_k1) (e136_k2) (e136_sz135) (e136_sn135) (e136_uc135) (hv0) (by omega)) fun v Ma138 h138 => ?_
              obtain ⟨sz137, sn137, uc137, g138, e138_sz137, e138_sn137, e138_uc137, e138_k0, e138_k1, e138_k2, e138_k3, p138_0, p138_1, p138_2⟩ := h138
              have f138 : Fr W_cp Mc Ma138 := Fr.t f136 (Fr.m g138 (by decide))
              refine rsl (cV_e rfl) ?_
              refine rsl (ptI_q (z := s) (ck_65 (hC.fr f138)) (rfl)) ?_
              refine rsl (gtP_q (w := some 73) (ck_65 (hC.fr f138).sI) (cf_65_6 (hC.fr f138).sI)) ?_
              refine rsl (gtI_q (w := iI sz137) (ck_65 (hC.fr f138).sI) ((sI_nej (by decide)).trans (e138_sz137))) ?_
              refine rsl (asI_q (n := 4096) (z := (e13 + 1)) (y := sz137) (ck_73 (hC.fr f138).sI) (congrArg iI p21_0) (by omega) (rfl)) ?_
              refine rsr (vC_e (rk_160 (hR.fr FR13))) ?_
              refine RrI (a196 (by omega) (hR.fr FR13) (w13_43) ((FR13.i _ _ (by decide)).trans h49) ((FR13.i _ _ (by decide)).trans h48) (li_27) (li_0) (by omega)) fun v Ma140 h140 => ?_
              obtain ⟨r139, rfl, g140, e140_k0, p140_0, p140_1⟩ := h140
              have f140 : Fr W_rx Mr Ma140 := Fr.t FR13 (Fr.m g140 (by decide))
              refine rsr (cI_e rfl) ?_
              refine rsr (vC_e (rk_160 (hR.fr f140))) ?_
              refine RrI (a196 (by omega) (hR.fr f140) (e140_k0) ((g140.i _ _ (by decide)).trans ((FR13.i _ _ (by decide)).trans h49)) ((g140.i _ _ (by decide)).trans ((FR13.i _ _ (by decide)).trans h48)) (li_25) (li_0) (by omega)) fun v Ma142 h142 => ?_
              obtain ⟨r141, rfl, g142, e142_k0, p142_0, p142_1⟩ := h142
              have f142 : Fr W_rx Mr Ma142 := Fr.t f140 (Fr.m g142 (by decide))
              refine rsr (cI_e rfl) ?_
              refine rsr (gtP_q (w := some 196) (rk_160 (hR.fr f142)) (rf_45 (hR.fr f142))) ?_
              refine rsr (gtI_q (w := iI (e13 + 2)) (rk_160 (hR.fr f142)) (e142_k0)) ?_
              refine rsr (asI_q (n := 4000) (z := e) (y := (e13 + 2)) (rk_196 (hR.fr f142)) (congrArg iI p10_0) (by omega) (rfl)) ?_
              refine rsr (vC_e (rk_160 (hR.fr f142).sI)) ?_
              refine RrI (a195_424 (by omega) hS (hR.fr f142).sI (hT.fr (W := W_rx) (Fr.sI (inW_c (by decide) _) f142) (by decide) (by decide)) (fun i a b => (Fr.lc (W := W_rx) (Fr.sI (inW_c (by decide) _) f142) _ (by decide) _).trans (hW i a b)) ((sI_ne (by decide)).trans ((g142.i _ _ (by decide)).trans ((g140.i _ _ (by decide)).trans (w13_36)))) ((sI_ne (by decide)).trans ((g142.i _ _ (by decide)).trans ((g140.i _ _ (by decide)).trans (w13_37)))) ((sI_ne (by decide)).trans ((g142.i _ _ (by decide)).trans ((g140.i _ _ (by decide)).trans (w13_38)))) ((sI_ne (by decide)).trans ((g142.i _ _ (by decide)).trans ((g140.i _ _ (by decide)).trans (w13_41)))) (li_424) (i2 := (i13 + 1)) (by omega) (by omega)) fun v Ma144 h144 => ?_
              obtain ⟨r143, rfl, g144, e144_k0, e144_k1, e144_k2, p144_0, p144_1⟩ := h144
              have f144 : Fr W_rx Mr Ma144 := Fr.t (Fr.sI (inW_c (by decide) _) f142) (Fr.m g144 (by decide))
              refine rsr (cI_e rfl) ?_
              refine rsr (vC_e (rk_160 (hR.fr f144))) ?_
              refine rsr (cI_e (a198_2 (by omega) hS (hR.fr f144) (e144_k0) (e144_k1) ((g144.i _ _ (by decide)).trans ((sI_ne (by decide)).trans ((g142.i _ _ (by decide)).trans ((g140.i _ _ (by decide)).trans (w13_41))))) p144_1 ((g144.i _ _ (by decide)).trans ((sI_ne (by decide)).trans ((g142.i _ _ (by decide)).trans ((g140.i _ _ (by decide)).trans (w13_51))))) ((((lr13.fr g140 (by decide)).fr g142 (by decide)).fr (W := W_r2) (Fr.sI (inW_c (by decide) _) Fr.r) (by decide)).fr g144 (by decide)) (by omega))) ?_
              refine rsr (jn_v) ?_
              refine rsr (if_pos (eqI_p (rfl) (li_0) (by omega))) ?_
              refine rsr (jv_e) ?_
              exact Rs.ok (Or.inr ⟨2, ((pl (i13 + 1))), (Fr.sI (inW_c (by decide) _) (Fr.sI (by decide) f138)), (Fr.sI (by decide) (Fr.sI (by decide) (Fr.m f144 (by decide)))), ⟨(i13 + 1), sz137, s, uc137, (sI_ne (by decide)).trans ((sI_nej (by decide)).trans (e138_k0)), (sI_ne (by decide)).trans ((sI_nej (by decide)).trans (e138_k1)), (sI_ne (by decide)).trans ((sI_nej (by decide)).trans (e138_k2)), (sI_ne (by decide)).trans ((sI_nej (by decide)).trans (e138_k3)), (sI_ne (by decide)).trans ((sI_nej (by decide)).trans (e138_sz137)), (sI_ne (by decide)).trans (sI_eq), (sI_ne (by decide)).trans ((sI_nej (by decide)).trans (e138_uc137)), by omega⟩, ⟨(e13 + 2), s, u13, mu, ut, (sI_nej (by decide)).trans (sI_eq), sI_eq, (sI_nej (by decide)).trans ((sI_nej (by decide)).trans ((g144.i _ _ (by decide)).trans ((sI_ne (by decide)).trans (e142_k0)))), (sI_nej (by decide)).trans ((sI_nej (by decide)).trans ((g144.i _ _ (by decide)).trans ((sI_ne (by decide)).trans ((g142.i _ _ (by decide)).trans ((g140.i _ _ (by decide)).trans (w13_51)))))), (sI_nej (by decide)).trans ((sI_nej (by decide)).trans ((g144.i _ _ (by decide)).trans ((sI_ne (by decide)).trans ((g142.i _ _ (by decide)).trans ((g140.i _ _ (by decide)).trans (w13_53)))))), (sI_nej (by decide)).trans ((sI_nej (by decide)).trans ((g144.i _ _ (by decide)).trans ((sI_ne (by decide)).trans ((g142.i _ _ (by decide)).trans ((g140.i _ _ (by decide)).trans ((FR13.i _ _ (by decide)).trans h48)))))), (sI_nej (by decide)).trans ((sI_nej (by decide)).trans ((g144.i _ _ (by decide)).trans ((sI_ne (by decide)).trans ((g142.i _ _ (by decide)).trans ((g140.i _ _ (by decide)).trans ((FR13.i _ _ (by decide)).trans h49)))))), by omega⟩⟩)
        ·
          refine rsl (jn_v) ?_
          refine rsl (if_neg (lsI_n (congrArg iI (if_neg crl93)) (li_0) (by omega))) ?_
          refine rsl (jv_e) ?_
          refine rsl (gtI_q (w := iI s) (ck_65 (hC.fr ff23).sI.sI) ((sI_nej (by decide)).trans ((sI_nej (by decide)).trans ((f23.i _ _ (by decide)).trans ((sI_ne (by decide)).trans ((g21.i _ _ (by decide)).trans ((g18.i _ _ (by decide)).trans (q13_16)))))))) ?_
          refine rsl (jn_v) ?_
          by_cases c145 : s < 10
          · refine rsl (if_pos (lsI_p (rfl) (li_10) (by omega))) ?_
            refine rsl (jv_e) ?_
            refine rsl (vC_e (ck_65 (hC.fr ff23).sI.sI)) ?_
            by_cases c146 : ((kd (i13 + 1))) = 1
            ·
              refine rsl (cL_e (a66_1 (by omega) hS (hC.fr ff23).sI.sI (hTk.fr (WL := W_cp) (Fr.sI (by decide) (Fr.sI (by decide) ff23)) (by decide)) ((sI_nej (by decide)).trans (sI_eq)) (sI_eq) ((sI_nej (by decide)).trans ((sI_nej (by decide)).trans ((f23.i _ _ (by decide)).trans ((sI_ne (by decide)).trans ((g21.i _ _ (by decide)).trans ((g18.i _ _ (by decide)).trans (q13_10))))))) (li_1) (li_0) (by omega))) ?_
              refine rsl (gtI_q (w := iI s) (ck_65 (hC.fr ff23).sI.sI.sI.sI.sI) ((sI_nej (by decide)).trans ((sI_nej (by decide)).trans ((sI_nej (by decide)).trans ((sI_nej (by decide)).trans ((sI_nej (by decide)).trans ((f23.i _ _ (by decide)).trans ((sI_ne (by decide)).trans ((g21.i _ _ (by decide)).trans ((g18.i _ _ (by decide)).trans (q13_16))))))))))) ?_
              refine rsl (vC_e (ck_65 (hC.fr ff23).sI.sI.sI.sI.sI)) ?_
              refine RlI (y87 (by omega) (hC.fr ff23).sI.sI.sI.sI.sI (hTk.fr (WL := W_cp) (Fr.sI (by decide) (Fr.sI (by decide) (Fr.sI (by decide) (Fr.sI (by decide) (Fr.sI (by decide) ff23))))) (by decide)) ((sI_nej (by decide)).trans ((sI_nej (by decide)).trans ((sI_nej (by decide)).trans ((sI_nej (by decide)).trans (sI_eq))))) (sI_eq) ((sI_nej (by decide)).trans ((sI_nej (by decide)).trans (sI_eq))) ((sI_nej (by decide)).trans (sI_eq)) ((sI_nej (by decide)).trans ((sI_nej (by decide)).trans ((sI_nej (by decide)).trans ((sI_nej (by decide)).trans ((sI_nej (by decide)).trans ((f23.i _ _ (by decide)).trans ((sI_ne (by decide)).trans (e21_k0)))))))) ((sI_nej (by decide)).trans ((sI_nej (by decide)).trans ((sI_nej (by decide)).trans ((sI_nej (by decide)).trans ((sI_nej (by decide)).trans ((f23.i _ _ (by decide)).trans ((sI_ne (by decide)).trans ((g21.i _ _ (by decide)).trans ((g18.i _ _ (by decide)).trans (q13_16)))))))))) ((sI_nej (by decide)).trans ((sI_nej (by decide)).trans ((sI_nej (by decide)).trans ((sI_nej (by decide)).trans ((sI_nej (by decide)).trans ((f23.i _ _ (by decide)).trans ((sI_ne (by decide)).trans ((g21.i _ _ (by decide)).trans ((g18.i _ _ (by decide)).trans (q13_19)))))))))) (li_2) (rfl) (by omega)) fun v Ma148 h148 => ?_
              obtain ⟨rv147, sz147, sn147, uc147, rfl, g148, e148_sz147, e148_sn147, e148_uc147, e148_k0, e148_k1, e148_k2, e148_k3, p148_0, p148_1, p148_2, p148_3⟩ := h148
              have f148 : Fr W_cp Mc Ma148 := Fr.t (Fr.sI (by decide) (Fr.sI (by decide) (Fr.sI (by decide) (Fr.sI (by decide) (Fr.sI (by decide) ff23))))) (Fr.m g148 (by decide))
              refine rsl (cI_e rfl) ?_
              refine rsl (vC_e (ck_65 (hC.fr f148))) ?_
              refine RlV (y75 (by omega) (hC.fr f148) (hTk.fr (WL := W_cp) f148 (by decide)) (e148_k3) (e148_k0) (e148_k1) (e148_k2) (e148_sz147) (e148_sn147) (e148_uc147)  (by omega)) fun v Ma150 h150 => ?_
              obtain ⟨sz149, sn149, uc149, g150, e150_sz149, e150_sn149, e150_uc149, e150_k0, e150_k1, e150_k2, e150_k3, p150_0, p150_1, p150_2⟩ := h150
              have f150 : Fr W_cp Mc Ma150 := Fr.t f148 (Fr.m g150 (by decide))
              refine rsl (cV_e rfl) ?_
              refine rsl (vC_e (ck_65 (hC.fr f150))) ?_
              refine RlV (y89 (by omega) (hC.fr f150) (hTk.fr (WL := W_cp) f150 (by decide)) (e150_k3) (e150_k0) (e150_k1) (e150_k2) (e150_sz149) (e150_sn149) (e150_uc149) (hv0) (by omega)) fun v Ma152 h152 => ?_
              obtain ⟨sz151, sn151, uc151, g152, e152_sz151, e152_sn151, e152_uc151, e152_k0, e152_k1, e152_k2, e152_k3, p152_0, p152_1, p152_2⟩ := h152
              have f152 : Fr W_cp Mc Ma152 := Fr.t f150 (Fr.m g152 (by decide))
              refine rsl (cV_e rfl) ?_
              refine rsl (ptI_q (z := s) (ck_65 (hC.fr f152)) (rfl)) ?_
              refine rsl (gtP_q (w := some 73) (ck_65 (hC.fr f152).sI) (cf_65_6 (hC.fr f152).sI)) ?_
              refine rsl (gtI_q (w := iI sz151) (ck_65 (hC.fr f152).sI) ((sI_nej (by decide)).trans (e152_sz151))) ?_
              refine rsl (asI_q (n := 4096) (z := (e13 + 1)) (y := sz151) (ck_73 (hC.fr f152).sI) (congrArg iI p21_0) (by omega) (rfl)) ?_
              refine rsr (vC_e (rk_160 (hR.fr FR13))) ?_
              refine RrI (a196 (by omega) (hR.fr FR13) (w13_43) ((FR13.i _ _ (by decide)).trans h49) ((FR13.i _ _ (by decide)).trans h48) (li_27) (li_0) (by omega)) fun v Ma154 h154 => ?_
              obtain ⟨r153, rfl, g154, e154_k0, p154_0, p154_1⟩ := h154
              have f154 : Fr W_rx Mr Ma154 := Fr.t FR13 (Fr.m g154 (by decide))
              refine rsr (cI_e rfl) ?_
              refine rsr (vC_e (rk_160 (hR.fr f154))) ?_
              refine RrI (a196 (by omega) (hR.fr f154) (e154_k0) ((g154.i _ _ (by decide)).trans ((FR13.i _ _ (by decide)).trans h49)) ((g154.i _ _ (by decide)).trans ((FR13.i _ _ (by decide)).trans h48)) (li_25) (li_0) (by omega)) fun v Ma156 h156 => ?_
              obtain ⟨r155, rfl, g156, e156_k0, p156_0, p156_1⟩ := h156
              have f156 : Fr W_rx Mr Ma156 := Fr.t f154 (Fr.m g156 (by decide))
              refine rsr (cI_e rfl) ?_
              refine rsr (gtP_q (w := some 196) (rk_160 (hR.fr f156)) (rf_45 (hR.fr f156))) ?_
              refine rsr (gtI_q (w := iI (e13 + 2)) (rk_160 (hR.fr f156)) (e156_k0)) ?_
              refine rsr (asI_q (n := 4000) (z := e) (y := (e13 + 2)) (rk_196 (hR.fr f156)) (congrArg iI p10_0) (by omega) (rfl)) ?_
              refine rsr (vC_e (rk_160 (hR.fr f156).sI)) ?_
              refine RrI (a195_424 (by omega) hS (hR.fr f156).sI (hT.fr (W := W_rx) (Fr.sI (inW_c (by decide) _) f156) (by decide) (by decide)) (fun i a b => (Fr.lc (W := W_rx) (Fr.sI (inW_c (by decide) _) f156) _ (by decide) _).trans (hW i a b)) ((sI_ne (by decide)).trans ((g156.i _ _ (by decide)).trans ((g154.i _ _ (by decide)).trans (w13_36)))) ((sI_ne (by decide)).trans ((g156.i _ _ (by decide)).trans ((g154.i _ _ (by decide)).trans (w13_37)))) ((sI_ne (by decide)).trans ((g156.i _ _ (by decide)).trans ((g154.i _ _ (by decide)).trans (w13_38)))) ((sI_ne (by decide)).trans ((g156.i _ _ (by decide)).trans ((g154.i _ _ (by decide)).trans (w13_41)))) (li_424) (i2 := (i13 + 1)) (by omega) (by omega)) fun v Ma158 h158 => ?_
              obtain ⟨r157, rfl, g158, e158_k0, e158_k1, e158_k2, p158_0, p158_1⟩ := h158
              have f158 : Fr W_rx Mr Ma158 := Fr.t (Fr.sI (inW_c (by decide) _) f156) (Fr.m g158 (by decide))
              refine rsr (cI_e rfl) ?_
              refine rsr (vC_e (rk_160 (hR.fr f158))) ?_
              refine rsr (cI_e (a198_1 (by omega) hS (hR.fr f158) (e158_k0) (e158_k1) ((g158.i _ _ (by decide)).trans ((sI_ne (by decide)).trans ((g156.i _ _ (by decide)).trans ((g154.i _ _ (by decide)).trans (w13_41))))) p158_1 ((g158.i _ _ (by decide)).trans ((sI_ne (by decide)).trans ((g156.i _ _ (by decide)).trans ((g154.i _ _ (by decide)).trans (w13_51))))) ((((lr13.fr g154 (by decide)).fr g156 (by decide)).fr (W := W_r2) (Fr.sI (inW_c (by decide) _) Fr.r) (by decide)).fr g158 (by decide)) (by omega))) ?_
              refine rsr (jn_v) ?_
              refine rsr (if_pos (eqI_p (rfl) (li_0) (by omega))) ?_
              refine rsr (jv_e) ?_
              exact Rs.ok (Or.inr ⟨1, ((pl (i13 + 1))), (Fr.sI (inW_c (by decide) _) (Fr.sI (by decide) f152)), (Fr.sI (by decide) (Fr.sI (by decide) (Fr.m f158 (by decide)))), ⟨(i13 + 1), sz151, s, uc151, (sI_ne (by decide)).trans ((sI_nej (by decide)).trans (e152_k0)), (sI_ne (by decide)).trans ((sI_nej (by decide)).trans (e152_k1)), (sI_ne (by decide)).trans ((sI_nej (by decide)).trans (e152_k2)), (sI_ne (by decide)).trans ((sI_nej (by decide)).trans (e152_k3)), (sI_ne (by decide)).trans ((sI_nej (by decide)).trans (e152_sz151)), (sI_ne (by decide)).trans (sI_eq), (sI_ne (by decide)).trans ((sI_nej (by decide)).trans (e152_uc151)), by omega⟩, ⟨(e13 + 2), s, u13, mu, ut, (sI_nej (by decide)).trans (sI_eq), sI_eq, (sI_nej (by decide)).trans ((sI_nej (by decide)).trans ((g158.i _ _ (by decide)).trans ((sI_ne (by decide)).trans (e156_k0)))), (sI_nej (by decide)).trans ((sI_nej (by decide)).trans ((g158.i _ _ (by decide)).trans ((sI_ne (by decide)).trans ((g156.i _ _ (by decide)).trans ((g154.i _ _ (by decide)).trans (w13_51)))))), (sI_nej (by decide)).trans ((sI_nej (by decide)).trans ((g158.i _ _ (by decide)).trans ((sI_ne (by decide)).trans ((g156.i _ _ (by decide)).trans ((g154.i _ _ (by decide)).trans (w13_53)))))), (sI_nej (by decide)).trans ((sI_nej (by decide)).trans ((g158.i _ _ (by decide)).trans ((sI_ne (by decide)).trans ((g156.i _ _ (by decide)).trans ((g154.i _ _ (by decide)).trans ((FR13.i _ _ (by decide)).trans h48)))))), (sI_nej (by decide)).trans ((sI_nej (by decide)).trans ((g158.i _ _ (by decide)).trans ((sI_ne (by decide)).trans ((g156.i _ _ (by decide)).trans ((g154.i _ _ (by decide)).trans ((FR13.i _ _ (by decide)).trans h49)))))), by omega⟩⟩)
            ·
              refine rsl (cL_e (a66_2 (by omega) hS (hC.fr ff23).sI.sI (hTk.fr (WL := W_cp) (Fr.sI (by decide) (Fr.sI (by decide) ff23)) (by decide)) ((sI_nej (by decide)).trans (sI_eq)) (sI_eq) ((sI_nej (by decide)).trans ((sI_nej (by decide)).trans ((f23.i _ _ (by decide)).trans ((sI_ne (by decide)).trans ((g21.i _ _ (by decide)).trans ((g18.i _ _ (by decide)).trans (q13_10))))))) (li_1) (li_0) (by omega))) ?_
              refine rsl (gtI_q (w := iI s) (ck_65 (hC.fr ff23).sI.sI.sI.sI.sI) ((sI_nej (by decide)).trans ((sI_nej (by decide)).trans ((sI_nej (by decide)).trans ((sI_nej (by decide)).trans ((sI_nej (by decide)).trans ((f23.i _ _ (by decide)).trans ((sI_ne (by decide)).trans ((g21.i _ _ (by decide)).trans ((g18.i _ _ (by decide)).trans (q13_16))))))))))) ?_
              refine rsl (vC_e (ck_65 (hC.fr ff23).sI.sI.sI.sI.sI)) ?_
              refine RlI (y87 (by omega) (hC.fr ff23).sI.sI.sI.sI.sI (hTk.fr (WL := W_cp) (Fr.sI (by decide) (Fr.sI (by decide) (Fr.sI (by decide) (Fr.sI (by decide) (Fr.sI (by decide) ff23))))) (by decide)) ((sI_nej (by decide)).trans ((sI_nej (by decide)).trans ((sI_nej (by decide)).trans ((sI_nej (by decide)).trans (sI_eq))))) (sI_eq) ((sI_nej (by decide)).trans ((sI_nej (by decide)).trans (sI_eq))) ((sI_nej (by decide)).trans (sI_eq)) ((sI_nej (by decide)).trans ((sI_nej (by decide)).trans ((sI_nej (by decide)).trans ((sI_nej (by decide)).trans ((sI_nej (by decide)).trans ((f23.i _ _ (by decide)).trans ((sI_ne (by decide)).trans (e21_k0)))))))) ((sI_nej (by decide)).trans ((sI_nej (by decide)).trans ((sI_nej (by decide)).trans ((sI_nej (by decide)).trans ((sI_nej (by decide)).trans ((f23.i _ _ (by decide)).trans ((sI_ne (by decide)).trans ((g21.i _ _ (by decide)).trans ((g18.i _ _ (by decide)).trans (q13_16)))))))))) ((sI_nej (by decide)).trans ((sI_nej (by decide)).trans ((sI_nej (by decide)).trans ((sI_nej (by decide)).trans ((sI_nej (by decide)).trans ((f23.i _ _ (by decide)).trans ((sI_ne (by decide)).trans ((g21.i _ _ (by decide)).trans ((g18.i _ _ (by decide)).trans (q13_19)))))))))) (li_2) (rfl) (by omega)) fun v Ma160 h160 => ?_
              obtain ⟨rv159, sz159, sn159, uc159, rfl, g160, e160_sz159, e160_sn159, e160_uc159, e160_k0, e160_k1, e160_k2, e160_k3, p160_0, p160_1, p160_2, p160_3⟩ := h160
              have f160 : Fr W_cp Mc Ma160 := Fr.t (Fr.sI (by decide) (Fr.sI (by decide) (Fr.sI (by decide) (Fr.sI (by decide) (Fr.sI (by decide) ff23))))) (Fr.m g160 (by decide))
              refine rsl (cI_e rfl) ?_
              refine rsl (vC_e (ck_65 (hC.fr f160))) ?_
              refine RlV (y75 (by omega) (hC.fr f160) (hTk.fr (WL := W_cp) f160 (by decide)) (e160_k3) (e160_k0) (e160_k1) (e160_k2) (e160_sz159) (e160_sn159) (e160_uc159)  (by omega)) fun v Ma162 h162 => ?_
              obtain ⟨sz161, sn161, uc161, g162, e162_sz161, e162_sn161, e162_uc161, e162_k0, e162_k1, e162_k2, e162_k3, p162_0, p162_1, p162_2⟩ := h162
              have f162 : Fr W_cp Mc Ma162 := Fr.t f160 (Fr.m g162 (by decide))
              refine rsl (cV_e rfl) ?_
              refine rsl (vC_e (ck_65 (hC.fr f162))) ?_
              refine RlV (y89 (by omega) (hC.fr f162) (hTk.fr (WL := W_cp) f162 (by decide)) (e162_k3) (e162_k0) (e162_k1) (e162_k2) (e162_sz161) (e162_sn161) (e162_uc161) (hv0) (by omega)) fun v Ma164 h164 => ?_
              obtain ⟨sz163, sn163, uc163, g164, e164_sz163, e164_sn163, e164_uc163, e164_k0, e164_k1, e164_k2, e164_k3, p164_0, p164_1, p164_2⟩ := h164
              have f164 : Fr W_cp Mc Ma164 := Fr.t f162 (Fr.m g164 (by decide))
              refine rsl (cV_e rfl) ?_
              refine rsl (ptI_q (z := s) (ck_65 (hC.fr f164)) (rfl)) ?_
              refine rsl (gtP_q (w := some 73) (ck_65 (hC.fr f164).sI) (cf_65_6 (hC.fr f164).sI)) ?_
              refine rsl (gtI_q (w := iI sz163) (ck_65 (hC.fr f164).sI) ((sI_nej (by decide)).trans (e164_sz163))) ?_
              refine rsl (asI_q (n := 4096) (z := (e13 + 1)) (y := sz163) (ck_73 (hC.fr f164).sI) (congrArg iI p21_0) (by omega) (rfl)) ?_
              refine rsr (vC_e (rk_160 (hR.fr FR13))) ?_
              refine RrI (a196 (by omega) (hR.fr FR13) (w13_43) ((FR13.i _ _ (by decide)).trans h49) ((FR13.i _ _ (by decide)).trans h48) (li_27) (li_0) (by omega)) fun v Ma166 h166 => ?_
              obtain ⟨r165, rfl, g166, e166_k0, p166_0, p166_1⟩ := h166
              have f166 : Fr W_rx Mr Ma166 := Fr.t FR13 (Fr.m g166 (by decide))
              refine rsr (cI_e rfl) ?_
              refine rsr (vC_e (rk_160 (hR.fr f166))) ?_
              refine RrI (a196 (by omega) (hR.fr f166) (e166_k0) ((g166.i _ _ (by decide)).trans ((FR13.i _ _ (by decide)).trans h49)) ((g166.i _ _ (by decide)).trans ((FR13.i _ _ (by decide)).trans h48)) (li_25) (li_0) (by omega)) fun v Ma168 h168 => ?_
              obtain ⟨r167, rfl, g168, e168_k0, p168_0, p168_1⟩ := h168
              have f168 : Fr W_rx Mr Ma168 := Fr.t f166 (Fr.m g168 (by decide))
              refine rsr (cI_e rfl) ?_
              refine rsr (gtP_q (w := some 196) (rk_160 (hR.fr f168)) (rf_45 (hR.fr f168))) ?_
              refine rsr (gtI_q (w := iI (e13 + 2)) (rk_160 (hR.fr f168)) (e168_k0)) ?_
              refine rsr (asI_q (n := 4000) (z := e) (y := (e13 + 2)) (rk_196 (hR.fr f168)) (congrArg iI p10_0) (by omega) (rfl)) ?_
              refine rsr (vC_e (rk_160 (hR.fr f168).sI)) ?_
              refine RrI (a195_424 (by omega) hS (hR.fr f168).sI (hT.fr (W := W_rx) (Fr.sI (inW_c (by decide) _) f168) (by decide) (by decide)) (fun i a b => (Fr.lc (W := W_rx) (Fr.sI (inW_c (by decide) _) f168) _ (by decide) _).trans (hW i a b)) ((sI_ne (by decide)).trans ((g168.i _ _ (by decide)).trans ((g166.i _ _ (by decide)).trans (w13_36)))) ((sI_ne (by decide)).trans ((g168.i _ _ (by decide)).trans ((g166.i _ _ (by decide)).trans (w13_37)))) ((sI_ne (by decide)).trans ((g168.i _ _ (by decide)).trans ((g166.i _ _ (by decide)).trans (w13_38)))) ((sI_ne (by decide)).trans ((g168.i _ _ (by decide)).trans ((g166.i _ _ (by decide)).trans (w13_41)))) (li_424) (i2 := (i13 + 1)) (by omega) (by omega)) fun v Ma170 h170 => ?_
              obtain ⟨r169, rfl, g170, e170_k0, e170_k1, e170_k2, p170_0, p170_1⟩ := h170
              have f170 : Fr W_rx Mr Ma170 := Fr.t (Fr.sI (inW_c (by decide) _) f168) (Fr.m g170 (by decide))
              refine rsr (cI_e rfl) ?_
              refine rsr (vC_e (rk_160 (hR.fr f170))) ?_
              refine rsr (cI_e (a198_2 (by omega) hS (hR.fr f170) (e170_k0) (e170_k1) ((g170.i _ _ (by decide)).trans ((sI_ne (by decide)).trans ((g168.i _ _ (by decide)).trans ((g166.i _ _ (by decide)).trans (w13_41))))) p170_1 ((g170.i _ _ (by decide)).trans ((sI_ne (by decide)).trans ((g168.i _ _ (by decide)).trans ((g166.i _ _ (by decide)).trans (w13_51))))) ((((lr13.fr g166 (by decide)).fr g168 (by decide)).fr (W := W_r2) (Fr.sI (inW_c (by decide) _) Fr.r) (by decide)).fr g170 (by decide)) (by omega))) ?_
              refine rsr (jn_v) ?_
              refine rsr (if_pos (eqI_p (rfl) (li_0) (by omega))) ?_
              refine rsr (jv_e) ?_
              exact Rs.ok (Or.inr ⟨2, ((pl (i13 + 1))), (Fr.sI (inW_c (by decide) _) (Fr.sI (by decide) f164)), (Fr.sI (by decide) (Fr.sI (by decide) (Fr.m f170 (by decide)))), ⟨(i13 + 1), sz163, s, uc163, (sI_ne (by decide)).trans ((sI_nej (by decide)).trans (e164_k0)), (sI_ne (by decide)).trans ((sI_nej (by decide)).trans (e164_k1)), (sI_ne (by decide)).trans ((sI_nej (by decide)).trans (e164_k2)), (sI_ne (by decide)).trans ((sI_nej (by decide)).trans (e164_k3)), (sI_ne (by decide)).trans ((sI_nej (by decide)).trans (e164_sz163)), (sI_ne (by decide)).trans (sI_eq), (sI_ne (by decide)).trans ((sI_nej (by decide)).trans (e164_uc163)), by omega⟩, ⟨(e13 + 2), s, u13, mu, ut, (sI_nej (by decide)).trans (sI_eq), sI_eq, (sI_nej (by decide)).trans ((sI_nej (by decide)).trans ((g170.i _ _ (by decide)).trans ((sI_ne (by decide)).trans (e168_k0)))), (sI_nej (by decide)).trans ((sI_nej (by decide)).trans ((g170.i _ _ (by decide)).trans ((sI_ne (by decide)).trans ((g168.i _ _ (by decide)).trans ((g166.i _ _ (by decide)).trans (w13_51)))))), (sI_nej (by decide)).trans ((sI_nej (by decide)).trans ((g170.i _ _ (by decide)).trans ((sI_ne (by decide)).trans ((g168.i _ _ (by decide)).trans ((g166.i _ _ (by decide)).trans (w13_53)))))), (sI_nej (by decide)).trans ((sI_nej (by decide)).trans ((g170.i _ _ (by decide)).trans ((sI_ne (by decide)).trans ((g168.i _ _ (by decide)).trans ((g166.i _ _ (by decide)).trans ((FR13.i _ _ (by decide)).trans h48)))))), (sI_nej (by decide)).trans ((sI_nej (by decide)).trans ((g170.i _ _ (by decide)).trans ((sI_ne (by decide)).trans ((g168.i _ _ (by decide)).trans ((g166.i _ _ (by decide)).trans ((FR13.i _ _ (by decide)).trans h49)))))), by omega⟩⟩)
          · refine rsl (if_neg (lsI_n (rfl) (li_10) (by omega))) ?_
            refine rsl (jv_e) ?_
            refine rsl (vC_e (ck_65 (hC.fr ff23).sI.sI)) ?_
            by_cases c171 : ((kd (i13 + 1))) = 1
            ·
              refine rsl (cL_e (a66_1 (by omega) hS (hC.fr ff23).sI.sI (hTk.fr (WL := W_cp) (Fr.sI (by decide) (Fr.sI (by decide) ff23)) (by decide)) ((sI_nej (by decide)).trans (sI_eq)) (sI_eq) ((sI_nej (by decide)).trans ((sI_nej (by decide)).trans ((f23.i _ _ (by decide)).trans ((sI_ne (by decide)).trans ((g21.i _ _ (by decide)).trans ((g18.i _ _ (by decide)).trans (q13_10))))))) (li_1) (li_1) (by omega))) ?_
              refine rsl (gtI_q (w := iI s) (ck_65 (hC.fr ff23).sI.sI.sI.sI.sI) ((sI_nej (by decide)).trans ((sI_nej (by decide)).trans ((sI_nej (by decide)).trans ((sI_nej (by decide)).trans ((sI_nej (by decide)).trans ((f23.i _ _ (by decide)).trans ((sI_ne (by decide)).trans ((g21.i _ _ (by decide)).trans ((g18.i _ _ (by decide)).trans (q13_16))))))))))) ?_
              refine rsl (vC_e (ck_65 (hC.fr ff23).sI.sI.sI.sI.sI)) ?_
              refine RlI (y87 (by omega) (hC.fr ff23).sI.sI.sI.sI.sI (hTk.fr (WL := W_cp) (Fr.sI (by decide) (Fr.sI (by decide) (Fr.sI (by decide) (Fr.sI (by decide) (Fr.sI (by decide) ff23))))) (by decide)) ((sI_nej (by decide)).trans ((sI_nej (by decide)).trans ((sI_nej (by decide)).trans ((sI_nej (by decide)).trans (sI_eq))))) (sI_eq) ((sI_nej (by decide)).trans ((sI_nej (by decide)).trans (sI_eq))) ((sI_nej (by decide)).trans (sI_eq)) ((sI_nej (by decide)).trans ((sI_nej (by decide)).trans ((sI_nej (by decide)).trans ((sI_nej (by decide)).trans ((sI_nej (by decide)).trans ((f23.i _ _ (by decide)).trans ((sI_ne (by decide)).trans (e21_k0)))))))) ((sI_nej (by decide)).trans ((sI_nej (by decide)).trans ((sI_nej (by decide)).trans ((sI_nej (by decide)).trans ((sI_nej (by decide)).trans ((f23.i _ _ (by decide)).trans ((sI_ne (by decide)).trans ((g21.i _ _ (by decide)).trans ((g18.i _ _ (by decide)).trans (q13_16)))))))))) ((sI_nej (by decide)).trans ((sI_nej (by decide)).trans ((sI_nej (by decide)).trans ((sI_nej (by decide)).trans ((sI_nej (by decide)).trans ((f23.i _ _ (by decide)).trans ((sI_ne (by decide)).trans ((g21.i _ _ (by decide)).trans ((g18.i _ _ (by decide)).trans (q13_19)))))))))) (li_2) (rfl) (by omega)) fun v Ma173 h173 => ?_
              obtain ⟨rv172, sz172, sn172, uc172, rfl, g173, e173_sz172, e173_sn172, e173_uc172, e173_k0, e173_k1, e173_k2, e173_k3, p173_0, p173_1, p173_2, p173_3⟩ := h173
              have f173 : Fr W_cp Mc Ma173 := Fr.t (Fr.sI (by decide) (Fr.sI (by decide) (Fr.sI (by decide) (Fr.sI (by decide) (Fr.sI (by decide) ff23))))) (Fr.m g173 (by decide))
              refine rsl (cI_e rfl) ?_
              refine rsl (vC_e (ck_65 (hC.fr f173))) ?_
              refine RlV (y75 (by omega) (hC.fr f173) (hTk.fr (WL := W_cp) f173 (by decide)) (e173_k3) (e173_k0) (e173_k1) (e173_k2) (e173_sz172) (e173_sn172) (e173_uc172)  (by omega)) fun v Ma175 h175 => ?_
              obtain ⟨sz174, sn174, uc174, g175, e175_sz174, e175_sn174, e175_uc174, e175_k0, e175_k1, e175_k2, e175_k3, p175_0, p175_1, p175_2⟩ := h175
              have f175 : Fr W_cp Mc Ma175 := Fr.t f173 (Fr.m g175 (by decide))
              refine rsl (cV_e rfl) ?_
              refine rsl (vC_e (ck_65 (hC.fr f175))) ?_
              refine RlV (y89 (by omega) (hC.fr f175) (hTk.fr (WL := W_cp) f175 (by decide)) (e175_k3) (e175_k0) (e175_k1) (e175_k2) (e175_sz174) (e175_sn174) (e175_uc174) (hv0) (by omega)) fun v Ma177 h177 => ?_
              obtain ⟨sz176, sn176, uc176, g177, e177_sz176, e177_sn176, e177_uc176, e177_k0, e177_k1, e177_k2, e177_k3, p177_0, p177_1, p177_2⟩ := h177
              have f177 : Fr W_cp Mc Ma177 := Fr.t f175 (Fr.m g177 (by decide))
              refine rsl (cV_e rfl) ?_
              refine rsl (ptI_q (z := s) (ck_65 (hC.fr f177)) (rfl)) ?_
              refine rsl (gtP_q (w := some 73) (ck_65 (hC.fr f177).sI) (cf_65_6 (hC.fr f177).sI)) ?_
              refine rsl (gtI_q (w := iI sz176) (ck_65 (hC.fr f177).sI) ((sI_nej (by decide)).trans (e177_sz176))) ?_
              refine rsl (asI_q (n := 4096) (z := (e13 + 1)) (y := sz176) (ck_73 (hC.fr f177).sI) (congrArg iI p21_0) (by omega) (rfl)) ?_
              refine rsr (vC_e (rk_160 (hR.fr FR13))) ?_
              refine RrI (a196 (by omega) (hR.fr FR13) (w13_43) ((FR13.i _ _ (by decide)).trans h49) ((FR13.i _ _ (by decide)).trans h48) (li_27) (li_0) (by omega)) fun v Ma179 h179 => ?_
              obtain ⟨r178, rfl, g179, e179_k0, p179_0, p179_1⟩ := h179
              have f179 : Fr W_rx Mr Ma179 := Fr.t FR13 (Fr.m g179 (by decide))
              refine rsr (cI_e rfl) ?_
              refine rsr (vC_e (rk_160 (hR.fr f179))) ?_
              refine RrI (a196 (by omega) (hR.fr f179) (e179_k0) ((g179.i _ _ (by decide)).trans ((FR13.i _ _ (by decide)).trans h49)) ((g179.i _ _ (by decide)).trans ((FR13.i _ _ (by decide)).trans h48)) (li_25) (li_0) (by omega)) fun v Ma181 h181 => ?_
              obtain ⟨r180, rfl, g181, e181_k0, p181_0, p181_1⟩ := h181
              have f181 : Fr W_rx Mr Ma181 := Fr.t f179 (Fr.m g181 (by decide))
              refine rsr (cI_e rfl) ?_
              refine rsr (gtP_q (w := some 196) (rk_160 (hR.fr f181)) (rf_45 (hR.fr f181))) ?_
              refine rsr (gtI_q (w := iI (e13 + 2)) (rk_160 (hR.fr f181)) (e181_k0)) ?_
              refine rsr (asI_q (n := 4000) (z := e) (y := (e13 + 2)) (rk_196 (hR.fr f181)) (congrArg iI p10_0) (by omega) (rfl)) ?_
              refine rsr (vC_e (rk_160 (hR.fr f181).sI)) ?_
              refine RrI (a195_424 (by omega) hS (hR.fr f181).sI (hT.fr (W := W_rx) (Fr.sI (inW_c (by decide) _) f181) (by decide) (by decide)) (fun i a b => (Fr.lc (W := W_rx) (Fr.sI (inW_c (by decide) _) f181) _ (by decide) _).trans (hW i a b)) ((sI_ne (by decide)).trans ((g181.i _ _ (by decide)).trans ((g179.i _ _ (by decide)).trans (w13_36)))) ((sI_ne (by decide)).trans ((g181.i _ _ (by decide)).trans ((g179.i _ _ (by decide)).trans (w13_37)))) ((sI_ne (by decide)).trans ((g181.i _ _ (by decide)).trans ((g179.i _ _ (by decide)).trans (w13_38)))) ((sI_ne (by decide)).trans ((g181.i _ _ (by decide)).trans ((g179.i _ _ (by decide)).trans (w13_41)))) (li_424) (i2 := (i13 + 1)) (by omega) (by omega)) fun v Ma183 h183 => ?_
              obtain ⟨r182, rfl, g183, e183_k0, e183_k1, e183_k2, p183_0, p183_1⟩ := h183
              have f183 : Fr W_rx Mr Ma183 := Fr.t (Fr.sI (inW_c (by decide) _) f181) (Fr.m g183 (by decide))
              refine rsr (cI_e rfl) ?_
              refine rsr (vC_e (rk_160 (hR.fr f183))) ?_
              refine rsr (cI_e (a198_1 (by omega) hS (hR.fr f183) (e183_k0) (e183_k1) ((g183.i _ _ (by decide)).trans ((sI_ne (by decide)).trans ((g181.i _ _ (by decide)).trans ((g179.i _ _ (by decide)).trans (w13_41))))) p183_1 ((g183.i _ _ (by decide)).trans ((sI_ne (by decide)).trans ((g181.i _ _ (by decide)).trans ((g179.i _ _ (by decide)).trans (w13_51))))) ((((lr13.fr g179 (by decide)).fr g181 (by decide)).fr (W := W_r2) (Fr.sI (inW_c (by decide) _) Fr.r) (by decide)).fr g183 (by decide)) (by omega))) ?_
              refine rsr (jn_v) ?_
              refine rsr (if_pos (eqI_p (rfl) (li_0) (by omega))) ?_
              refine rsr (jv_e) ?_
              exact Rs.ok (Or.inr ⟨1, ((pl (i13 + 1))), (Fr.sI (inW_c (by decide) _) (Fr.sI (by decide) f177)), (Fr.sI (by decide) (Fr.sI (by decide) (Fr.m f183 (by decide)))), ⟨(i13 + 1), sz176, s, uc176, (sI_ne (by decide)).trans ((sI_nej (by decide)).trans (e177_k0)), (sI_ne (by decide)).trans ((sI_nej (by decide)).trans (e177_k1)), (sI_ne (by decide)).trans ((sI_nej (by decide)).trans (e177_k2)), (sI_ne (by decide)).trans ((sI_nej (by decide)).trans (e177_k3)), (sI_ne (by decide)).trans ((sI_nej (by decide)).trans (e177_sz176)), (sI_ne (by decide)).trans (sI_eq), (sI_ne (by decide)).trans ((sI_nej (by decide)).trans (e177_uc176)), by omega⟩, ⟨(e13 + 2), s, u13, mu, ut, (sI_nej (by decide)).trans (sI_eq), sI_eq, (sI_nej (by decide)).trans ((sI_nej (by decide)).trans ((g183.i _ _ (by decide)).trans ((sI_ne (by decide)).trans (e181_k0)))), (sI_nej (by decide)).trans ((sI_nej (by decide)).trans ((g183.i _ _ (by decide)).trans ((sI_ne (by decide)).trans ((g181.i _ _ (by decide)).trans ((g179.i _ _ (by decide)).trans (w13_51)))))), (sI_nej (by decide)).trans ((sI_nej (by decide)).trans ((g183.i _ _ (by decide)).trans ((sI_ne (by decide)).trans ((g181.i _ _ (by decide)).trans ((g179.i _ _ (by decide)).trans (w13_53)))))), (sI_nej (by decide)).trans ((sI_nej (by decide)).trans ((g183.i _ _ (by decide)).trans ((sI_ne (by decide)).trans ((g181.i _ _ (by decide)).trans ((g179.i _ _ (by decide)).trans ((FR13.i _ _ (by decide)).trans h48)))))), (sI_nej (by decide)).trans ((sI_nej (by decide)).trans ((g183.i _ _ (by decide)).trans ((sI_ne (by decide)).trans ((g181.i _ _ (by decide)).trans ((g179.i _ _ (by decide)).trans ((FR13.i _ _ (by decide)).trans h49)))))), by omega⟩⟩)
            ·
              refine rsl (cL_e (a66_2 (by omega) hS (hC.fr ff23).sI.sI (hTk.fr (WL := W_cp) (Fr.sI (by decide) (Fr.sI (by decide) ff23)) (by decide)) ((sI_nej (by decide)).trans (sI_eq)) (sI_eq) ((sI_nej (by decide)).trans ((sI_nej (by decide)).trans ((f23.i _ _ (by decide)).trans ((sI_ne (by decide)).trans ((g21.i _ _ (by decide)).trans ((g18.i _ _ (by decide)).trans (q13_10))))))) (li_1) (li_1) (by omega))) ?_
              refine rsl (gtI_q (w := iI s) (ck_65 (hC.fr ff23).sI.sI.sI.sI.sI) ((sI_nej (by decide)).trans ((sI_nej (by decide)).trans ((sI_nej (by decide)).trans ((sI_nej (by decide)).trans ((sI_nej (by decide)).trans ((f23.i _ _ (by decide)).trans ((sI_ne (by decide)).trans ((g21.i _ _ (by decide)).trans ((g18.i _ _ (by decide)).trans (q13_16))))))))))) ?_
              refine rsl (vC_e (ck_65 (hC.fr ff23).sI.sI.sI.sI.sI)) ?_
              refine RlI (y87 (by omega) (hC.fr ff23).sI.sI.sI.sI.sI (hTk.fr (WL := W_cp) (Fr.sI (by decide) (Fr.sI (by decide) (Fr.sI (by decide) (Fr.sI (by decide) (Fr.sI (by decide) ff23))))) (by decide)) ((sI_nej (by decide)).trans ((sI_nej (by decide)).trans ((sI_nej (by decide)).trans ((sI_nej (by decide)).trans (sI_eq))))) (sI_eq) ((sI_nej (by decide)).trans ((sI_nej (by decide)).trans (sI_eq))) ((sI_nej (by decide)).trans (sI_eq)) ((sI_nej (by decide)).trans ((sI_nej (by decide)).trans ((sI_nej (by decide)).trans ((sI_nej (by decide)).trans ((sI_nej (by decide)).trans ((f23.i _ _ (by decide)).trans ((sI_ne (by decide)).trans (e21_k0)))))))) ((sI_nej (by decide)).trans ((sI_nej (by decide)).trans ((sI_nej (by decide)).trans ((sI_nej (by decide)).trans ((sI_nej (by decide)).trans ((f23.i _ _ (by decide)).trans ((sI_ne (by decide)).trans ((g21.i _ _ (by decide)).trans ((g18.i _ _ (by decide)).trans (q13_16)))))))))) ((sI_nej (by decide)).trans ((sI_nej (by decide)).trans ((sI_nej (by decide)).trans ((sI_nej (by decide)).trans ((sI_nej (by decide)).trans ((f23.i _ _ (by decide)).trans ((sI_ne (by decide)).trans ((g21.i _ _ (by decide)).trans ((g18.i _ _ (by decide)).trans (q13_19)))))))))) (li_2) (rfl) (by omega)) fun v Ma185 h185 => ?_
              obtain ⟨rv184, sz184, sn184, uc184, rfl, g185, e185_sz184, e185_sn184, e185_uc184, e185_k0, e185_k1, e185_k2, e185_k3, p185_0, p185_1, p185_2, p185_3⟩ := h185
              have f185 : Fr W_cp Mc Ma185 := Fr.t (Fr.sI (by decide) (Fr.sI (by decide) (Fr.sI (by decide) (Fr.sI (by decide) (Fr.sI (by decide) ff23))))) (Fr.m g185 (by decide))
              refine rsl (cI_e rfl) ?_
              refine rsl (vC_e (ck_65 (hC.fr f185))) ?_
              refine RlV (y75 (by omega) (hC.fr f185) (hTk.fr (WL := W_cp) f185 (by decide)) (e185_k3) (e185_k0) (e185_k1) (e185_k2) (e185_sz184) (e185_sn184) (e185_uc184)  (by omega)) fun v Ma187 h187 => ?_
              obtain ⟨sz186, sn186, uc186, g187, e187_sz186, e187_sn186, e187_uc186, e187_k0, e187_k1, e187_k2, e187_k3, p187_0, p187_1, p187_2⟩ := h187
              have f187 : Fr W_cp Mc Ma187 := Fr.t f185 (Fr.m g187 (by decide))
              refine rsl (cV_e rfl) ?_
              refine rsl (vC_e (ck_65 (hC.fr f187))) ?_
              refine RlV (y89 (by omega) (hC.fr f187) (hTk.fr (WL := W_cp) f187 (by decide)) (e187_k3) (e187_k0) (e187_k1) (e187_k2) (e187_sz186) (e187_sn186) (e187_uc186) (hv0) (by omega)) fun v Ma189 h189 => ?_
              obtain ⟨sz188, sn188, uc188, g189, e189_sz188, e189_sn188, e189_uc188, e189_k0, e189_k1, e189_k2, e189_k3, p189_0, p189_1, p189_2⟩ := h189
              have f189 : Fr W_cp Mc Ma189 := Fr.t f187 (Fr.m g189 (by decide))
              refine rsl (cV_e rfl) ?_
              refine rsl (ptI_q (z := s) (ck_65 (hC.fr f189)) (rfl)) ?_
              refine rsl (gtP_q (w := some 73) (ck_65 (hC.fr f189).sI) (cf_65_6 (hC.fr f189).sI)) ?_
              refine rsl (gtI_q (w := iI sz188) (ck_65 (hC.fr f189).sI) ((sI_nej (by decide)).trans (e189_sz188))) ?_
              refine rsl (asI_q (n := 4096) (z := (e13 + 1)) (y := sz188) (ck_73 (hC.fr f189).sI) (congrArg iI p21_0) (by omega) (rfl)) ?_
              refine rsr (vC_e (rk_160 (hR.fr FR13))) ?_
              refine RrI (a196 (by omega) (hR.fr FR13) (w13_43) ((FR13.i _ _ (by decide)).trans h49) ((FR13.i _ _ (by decide)).trans h48) (li_27) (li_0) (by omega)) fun v Ma191 h191 => ?_
              obtain ⟨r190, rfl, g191, e191_k0, p191_0, p191_1⟩ := h191
              have f191 : Fr W_rx Mr Ma191 := Fr.t FR13 (Fr.m g191 (by decide))
              refine rsr (cI_e rfl) ?_
              refine rsr (vC_e (rk_160 (hR.fr f191))) ?_
              refine RrI (a196 (by omega) (hR.fr f191) (e191_k0) ((g191.i _ _ (by decide)).trans ((FR13.i _ _ (by decide)).trans h49)) ((g191.i _ _ (by decide)).trans ((FR13.i _ _ (by decide)).trans h48)) (li_25) (li_0) (by omega)) fun v Ma193 h193 => ?_
              obtain ⟨r192, rfl, g193, e193_k0, p193_0, p193_1⟩ := h193
              have f193 : Fr W_rx Mr Ma193 := Fr.t f191 (Fr.m g193 (by decide))
              refine rsr (cI_e rfl) ?_
              refine rsr (gtP_q (w := some 196) (rk_160 (hR.fr f193)) (rf_45 (hR.fr f193))) ?_
              refine rsr (gtI_q (w := iI (e13 + 2)) (rk_160 (hR.fr f193)) (e193_k0)) ?_
              refine rsr (asI_q (n := 4000) (z := e) (y := (e13 + 2)) (rk_196 (hR.fr f193)) (congrArg iI p10_0) (by omega) (rfl)) ?_
              refine rsr (vC_e (rk_160 (hR.fr f193).sI)) ?_
              refine RrI (a195_424 (by omega) hS (hR.fr f193).sI (hT.fr (W := W_rx) (Fr.sI (inW_c (by decide) _) f193) (by decide) (by decide)) (fun i a b => (Fr.lc (W := W_rx) (Fr.sI (inW_c (by decide) _) f193) _ (by decide) _).trans (hW i a b)) ((sI_ne (by decide)).trans ((g193.i _ _ (by decide)).trans ((g191.i _ _ (by decide)).trans (w13_36)))) ((sI_ne (by decide)).trans ((g193.i _ _ (by decide)).trans ((g191.i _ _ (by decide)).trans (w13_37)))) ((sI_ne (by decide)).trans ((g193.i _ _ (by decide)).trans ((g191.i _ _ (by decide)).trans (w13_38)))) ((sI_ne (by decide)).trans ((g193.i _ _ (by decide)).trans ((g191.i _ _ (by decide)).trans (w13_41)))) (li_424) (i2 := (i13 + 1)) (by omega) (by omega)) fun v Ma195 h195 => ?_
              obtain ⟨r194, rfl, g195, e195_k0, e195_k1, e195_k2, p195_0, p195_1⟩ := h195
              have f195 : Fr W_rx Mr Ma195 := Fr.t (Fr.sI (inW_c (by decide) _) f193) (Fr.m g195 (by decide))
              refine rsr (cI_e rfl) ?_
              refine rsr (vC_e (rk_160 (hR.fr f195))) ?_
              refine rsr (cI_e (a198_2 (by omega) hS (hR.fr f195) (e195_k0) (e195_k1) ((g195.i _ _ (by decide)).trans ((sI_ne (by decide)).trans ((g193.i _ _ (by decide)).trans ((g191.i _ _ (by decide)).trans (w13_41))))) p195_1 ((g195.i _ _ (by decide)).trans ((sI_ne (by decide)).trans ((g193.i _ _ (by decide)).trans ((g191.i _ _ (by decide)).trans (w13_51))))) ((((lr13.fr g191 (by decide)).fr g193 (by decide)).fr (W := W_r2) (Fr.sI (inW_c (by decide) _) Fr.r) (by decide)).fr g195 (by decide)) (by omega))) ?_
              refine rsr (jn_v) ?_
              refine rsr (if_pos (eqI_p (rfl) (li_0) (by omega))) ?_
              refine rsr (jv_e) ?_
              exact Rs.ok (Or.inr ⟨2, ((pl (i13 + 1))), (Fr.sI (inW_c (by decide) _) (Fr.sI (by decide) f189)), (Fr.sI (by decide) (Fr.sI (by decide) (Fr.m f195 (by decide)))), ⟨(i13 + 1), sz188, s, uc188, (sI_ne (by decide)).trans ((sI_nej (by decide)).trans (e189_k0)), (sI_ne (by decide)).trans ((sI_nej (by decide)).trans (e189_k1)), (sI_ne (by decide)).trans ((sI_nej (by decide)).trans (e189_k2)), (sI_ne (by decide)).trans ((sI_nej (by decide)).trans (e189_k3)), (sI_ne (by decide)).trans ((sI_nej (by decide)).trans (e189_sz188)), (sI_ne (by decide)).trans (sI_eq), (sI_ne (by decide)).trans ((sI_nej (by decide)).trans (e189_uc188)), by omega⟩, ⟨(e13 + 2), s, u13, mu, ut, (sI_nej (by decide)).trans (sI_eq), sI_eq, (sI_nej (by decide)).trans ((sI_nej (by decide)).trans ((g195.i _ _ (by decide)).trans ((sI_ne (by decide)).trans (e193_k0)))), (sI_nej (by decide)).trans ((sI_nej (by decide)).trans ((g195.i _ _ (by decide)).trans ((sI_ne (by decide)).trans ((g193.i _ _ (by decide)).trans ((g191.i _ _ (by decide)).trans (w13_51)))))), (sI_nej (by decide)).trans ((sI_nej (by decide)).trans ((g195.i _ _ (by decide)).trans ((sI_ne (by decide)).trans ((g193.i _ _ (by decide)).trans ((g191.i _ _ (by decide)).trans (w13_53)))))), (sI_nej (by decide)).trans ((sI_nej (by decide)).trans ((g195.i _ _ (by decide)).trans ((sI_ne (by decide)).trans ((g193.i _ _ (by decide)).trans ((g191.i _ _ (by decide)).trans ((FR13.i _ _ (by decide)).trans h48)))))), (sI_nej (by decide)).trans ((sI_nej (by decide)).trans ((g195.i _ _ (by decide)).trans ((sI_ne (by decide)).trans ((g193.i _ _ (by decide)).trans ((g191.i _ _ (by decide)).trans ((FR13.i _ _ (by decide)).trans h49)))))), by omega⟩⟩)
    ·
      by_cases c196 : ((kd i13)) = 1
      ·
        refine rsl (cV_e (a64_1 (by omega) hS (hC.fr ff23) (hTk.fr (WL := W_cp) ff23 (by decide)) ((f23.i _ _ (by decide)).trans ((sI_ne (by decide)).trans ((g21.i _ _ (by decide)).trans ((g18.i _ _ (by decide)).trans (q13_12))))) ((f23.i _ _ (by decide)).trans ((sI_ne (by decide)).trans ((g21.i _ _ (by decide)).trans ((g18.i _ _ (by decide)).trans (q13_13))))) ((f23.i _ _ (by decide)).trans ((sI_ne (by decide)).trans ((g21.i _ _ (by decide)).trans ((g18.i _ _ (by decide)).trans (q13_10))))) (li_223) (by omega))) ?_
        refine rsl (gtI_q (w := iI s) (ck_65 (hC.fr ff23).sI.sI.sI) ((sI_nej (by decide)).trans ((sI_nej (by decide)).trans ((sI_nej (by decide)).trans ((f23.i _ _ (by decide)).trans ((sI_ne (by decide)).trans ((g21.i _ _ (by decide)).trans ((g18.i _ _ (by decide)).trans (q13_16))))))))) ?_
        refine rsl (vC_e (ck_65 (hC.fr ff23).sI.sI.sI)) ?_
        refine RlL (y65 (by omega) (hC.fr ff23).sI.sI.sI (hTk.fr (WL := W_cp) (Fr.sI (by decide) (Fr.sI (by decide) (Fr.sI (by decide) ff23))) (by decide)) ((sI_nej (by decide)).trans ((sI_nej (by decide)).trans ((sI_nej (by decide)).trans ((f23.i _ _ (by decide)).trans ((sI_ne (by decide)).trans ((g21.i _ _ (by decide)).trans ((g18.i _ _ (by decide)).trans (q13_12)))))))) (sI_eq) ((sI_nej (by decide)).trans ((sI_nej (by decide)).trans (sI_eq))) ((sI_nej (by decide)).trans (sI_eq)) ((sI_nej (by decide)).trans ((sI_nej (by decide)).trans ((sI_nej (by decide)).trans ((f23.i _ _ (by decide)).trans ((sI_ne (by decide)).trans (e21_k0)))))) ((sI_nej (by decide)).trans ((sI_nej (by decide)).trans ((sI_nej (by decide)).trans ((f23.i _ _ (by decide)).trans ((sI_ne (by decide)).trans ((g21.i _ _ (by decide)).trans ((g18.i _ _ (by decide)).trans (q13_16)))))))) ((sI_nej (by decide)).trans ((sI_nej (by decide)).trans ((sI_nej (by decide)).trans ((f23.i _ _ (by decide)).trans ((sI_ne (by decide)).trans ((g21.i _ _ (by decide)).trans ((g18.i _ _ (by decide)).trans (q13_19))))))))  (by omega)) fun v Ma198 h198 => ?_
        obtain ⟨rv197, sz197, sn197, uc197, rfl, g198, e198_sz197, e198_sn197, e198_uc197, e198_k0, e198_k1, e198_k2, e198_k3, p198_0, p198_1, p198_2⟩ := h198
        have f198 : Fr W_cp Mc Ma198 := Fr.t (Fr.sI (by decide) (Fr.sI (by decide) (Fr.sI (by decide) ff23))) (Fr.m g198 (by decide))
        refine rsl (cL_e rfl) ?_
        refine rsl (vC_e (ck_65 (hC.fr f198))) ?_
        refine RlI (y74 (by omega) (hC.fr f198) (hTk.fr (WL := W_cp) f198 (by decide)) (e198_k3) (e198_k0) (e198_k1) (e198_k2) (e198_sz197) (e198_sn197) (e198_uc197)  (by omega)) fun v Ma200 h200 => ?_
        obtain ⟨rv199, sz199, sn199, uc199, rfl, g200, e200_sz199, e200_sn199, e200_uc199, e200_k0, e200_k1, e200_k2, e200_k3, p200_0, p200_1, p200_2, p200_3⟩ := h200
        have f200 : Fr W_cp Mc Ma200 := Fr.t f198 (Fr.m g200 (by decide))
        refine rsl (cI_e rfl) ?_
        refine rsl (jn_v) ?_
        by_cases c201 : rv199 < 0
        · refine rsl (if_pos (lsI_p (rfl) (li_0) (by omega))) ?_
          refine rsl (jv_e) ?_
          refine rsl (gtI_q (w := iI sn199) (ck_65 (hC.fr f200)) (e200_sn199)) ?_
          refine rsl (jn_v) ?_
          by_cases c202 : sn199 < 10
          · refine rsl (if_pos (lsI_p (rfl) (li_10) (by omega))) ?_
            refine rsl (jv_e) ?_
            refine rsl (vC_e (ck_65 (hC.fr f200))) ?_
            refine RlL (y66 (by omega) (hC.fr f200) (hTk.fr (WL := W_cp) f200 (by decide)) (e200_k3) (e200_k0) (e200_k1) (e200_k2) (e200_sz199) (e200_sn199) (e200_uc199) (li_0) (li_0) (by omega)) fun v Ma204 h204 => ?_
            obtain ⟨rv203, sz203, sn203, uc203, rfl, g204, e204_sz203, e204_sn203, e204_uc203, e204_k0, e204_k1, e204_k2, e204_k3, p204_0, p204_1, p204_2⟩ := h204
            have f204 : Fr W_cp Mc Ma204 := Fr.t f200 (Fr.m g204 (by decide))
            refine rsl (cL_e rfl) ?_
            refine rsl (gtI_q (w := iI sn203) (ck_65 (hC.fr f204)) (e204_sn203)) ?_
            refine rsl (vC_e (ck_65 (hC.fr f204))) ?_
            refine RlI (y87 (by omega) (hC.fr f204) (hTk.fr (WL := W_cp) f204 (by decide)) (e204_k3) (e204_k0) (e204_k1) (e204_k2) (e204_sz203) (e204_sn203) (e204_uc203) (li_2) (rfl) (by omega)) fun v Ma206 h206 => ?_
            obtain ⟨rv205, sz205, sn205, uc205, rfl, g206, e206_sz205, e206_sn205, e206_uc205, e206_k0, e206_k1, e206_k2, e206_k3, p206_0, p206_1, p206_2, p206_3⟩ := h206
            have f206 : Fr W_cp Mc Ma206 := Fr.t f204 (Fr.m g206 (by decide))
            refine rsl (cI_e rfl) ?_
            refine rsl (vC_e (ck_65 (hC.fr f206))) ?_
            refine RlV (y75 (by omega) (hC.fr f206) (hTk.fr (WL := W_cp) f206 (by decide)) (e206_k3) (e206_k0) (e206_k1) (e206_k2) (e206_sz205) (e206_sn205) (e206_uc205)  (by omega)) fun v Ma208 h208 => ?_
            obtain ⟨sz207, sn207, uc207, g208, e208_sz207, e208_sn207, e208_uc207, e208_k0, e208_k1, e208_k2, e208_k3, p208_0, p208_1, p208_2⟩ := h208
            have f208 : Fr W_cp Mc Ma208 := Fr.t f206 (Fr.m g208 (by decide))
            refine rsl (cV_e rfl) ?_
            refine rsl (vC_e (ck_65 (hC.fr f208))) ?_
            refine RlV (y89 (by omega) (hC.fr f208) (hTk.fr (WL := W_cp) f208 (by decide)) (e208_k3) (e208_k0) (e208_k1) (e208_k2) (e208_sz207) (e208_sn207) (e208_uc207) (hv0) (by omega)) fun v Ma210 h210 => ?_
            obtain ⟨sz209, sn209, uc209, g210, e210_sz209, e210_sn209, e210_uc209, e210_k0, e210_k1, e210_k2, e210_k3, p210_0, p210_1, p210_2⟩ := h210
            have f210 : Fr W_cp Mc Ma210 := Fr.t f208 (Fr.m g210 (by decide))
            refine rsl (cV_e rfl) ?_
            refine rsl (ptI_q (z := s) (ck_65 (hC.fr f210)) (rfl)) ?_
            refine rsl (gtP_q (w := some 73) (ck_65 (hC.fr f210).sI) (cf_65_6 (hC.fr f210).sI)) ?_
            refine rsl (gtI_q (w := iI sz209) (ck_65 (hC.fr f210).sI) ((sI_nej (by decide)).trans (e210_sz209))) ?_
            refine rsl (asI_q (n := 4096) (z := (e13 + 1)) (y := sz209) (ck_73 (hC.fr f210).sI) (congrArg iI p21_0) (by omega) (rfl)) ?_
            refine rsr (vC_e (rk_160 (hR.fr FR13))) ?_
            refine RrI (a196 (by omega) (hR.fr FR13) (w13_43) ((FR13.i _ _ (by decide)).trans h49) ((FR13.i _ _ (by decide)).trans h48) (li_27) (li_0) (by omega)) fun v Ma212 h212 => ?_
            obtain ⟨r211, rfl, g212, e212_k0, p212_0, p212_1⟩ := h212
            have f212 : Fr W_rx Mr Ma212 := Fr.t FR13 (Fr.m g212 (by decide))
            refine rsr (cI_e rfl) ?_
            refine rsr (vC_e (rk_160 (hR.fr f212))) ?_
            refine RrI (a196 (by omega) (hR.fr f212) (e212_k0) ((g212.i _ _ (by decide)).trans ((FR13.i _ _ (by decide)).trans h49)) ((g212.i _ _ (by decide)).trans ((FR13.i _ _ (by decide)).trans h48)) (li_25) (li_0) (by omega)) fun v Ma214 h214 => ?_
            obtain ⟨r213, rfl, g214, e214_k0, p214_0, p214_1⟩ := h214
            have f214 : Fr W_rx Mr Ma214 := Fr.t f212 (Fr.m g214 (by decide))
            refine rsr (cI_e rfl) ?_
            refine rsr (gtP_q (w := some 196) (rk_160 (hR.fr f214)) (rf_45 (hR.fr f214))) ?_
            refine rsr (gtI_q (w := iI (e13 + 2)) (rk_160 (hR.fr f214)) (e214_k0)) ?_
            refine rsr (asI_q (n := 4000) (z := e) (y := (e13 + 2)) (rk_196 (hR.fr f214)) (congrArg iI p10_0) (by omega) (rfl)) ?_
            refine rsr (vC_e (rk_160 (hR.fr f214).sI)) ?_
            refine rsr (cI_e (a195_424_1 (by omega) hS (hR.fr f214).sI ((sI_ne (by decide)).trans ((g214.i _ _ (by decide)).trans ((g212.i _ _ (by decide)).trans (w13_36)))) ((sI_ne (by decide)).trans ((g214.i _ _ (by decide)).trans ((g212.i _ _ (by decide)).trans (w13_37)))) ((sI_ne (by decide)).trans ((g214.i _ _ (by decide)).trans ((g212.i _ _ (by decide)).trans (w13_41)))) (li_424) (by omega))) ?_
            refine rsr (vC_e (rk_160 (hR.fr f214).sI.sI.sI)) ?_
            refine RrI (x198_s (by omega) (hR.fr f214).sI.sI.sI ((sI_nej (by decide)).trans (sI_eq)) (sI_eq) ((sI_nej (by decide)).trans ((sI_nej (by decide)).trans ((sI_ne (by decide)).trans (e214_k0)))) ((sI_nej (by decide)).trans ((sI_nej (by decide)).trans ((sI_ne (by decide)).trans ((g214.i _ _ (by decide)).trans ((g212.i _ _ (by decide)).trans (w13_51)))))) ((sI_nej (by decide)).trans ((sI_nej (by decide)).trans ((sI_ne (by decide)).trans ((g214.i _ _ (by decide)).trans ((g212.i _ _ (by decide)).trans (w13_53)))))) ((sI_nej (by decide)).trans ((sI_nej (by decide)).trans ((sI_ne (by decide)).trans ((g214.i _ _ (by decide)).trans ((g212.i _ _ (by decide)).trans ((FR13.i _ _ (by decide)).trans h48)))))) ((sI_nej (by decide)).trans ((sI_nej (by decide)).trans ((sI_ne (by decide)).trans ((g214.i _ _ (by decide)).trans ((g212.i _ _ (by decide)).trans ((FR13.i _ _ (by decide)).trans h49))))))  (by omega)) fun v Ma216 h216 => ?_
            obtain ⟨rv215, em215, rfl, g216, e216_em215, e216_k0, e216_k1, e216_k2, e216_k3, e216_k4, p216_0, p216_1⟩ := h216
            have f216 : Fr W_rp Mr Ma216 := Fr.t (Fr.sI (by decide) (Fr.sI (by decide) (Fr.sI (inW_c (by decide) _) (Fr.m f214 (by decide))))) (Fr.m g216 (by decide))
            refine rsr (cI_e rfl) ?_
            refine rsr (jn_v) ?_
            refine rsr (if_pos (eqI_p (rfl) (li_0) (by omega))) ?_
            refine rsr (jv_e) ?_
            exact Rs.ok (Or.inr ⟨1, ((pl i13)), (Fr.sI (inW_c (by decide) _) (Fr.sI (by decide) f210)), f216, ⟨i13, sz209, s, uc209, (sI_ne (by decide)).trans ((sI_nej (by decide)).trans (e210_k0)), (sI_ne (by decide)).trans ((sI_nej (by decide)).trans (e210_k1)), (sI_ne (by decide)).trans ((sI_nej (by decide)).trans (e210_k2)), (sI_ne (by decide)).trans ((sI_nej (by decide)).trans (e210_k3)), (sI_ne (by decide)).trans ((sI_nej (by decide)).trans (e210_sz209)), (sI_ne (by decide)).trans (sI_eq), (sI_ne (by decide)).trans ((sI_nej (by decide)).trans (e210_uc209)), by omega⟩, ⟨em215, s, u13, mu, ut, e216_k0, e216_k1, e216_em215, e216_k2, e216_k3, e216_k4, (g216.i _ _ (by decide)).trans ((sI_nej (by decide)).trans ((sI_nej (by decide)).trans ((sI_ne (by decide)).trans ((g214.i _ _ (by decide)).trans ((g212.i _ _ (by decide)).trans ((FR13.i _ _ (by decide)).trans h49)))))), by omega⟩⟩)
          · refine rsl (if_neg (lsI_n (rfl) (li_10) (by omega))) ?_
            refine rsl (jv_e) ?_
            refine rsl (vC_e (ck_65 (hC.fr f200))) ?_
            refine RlL (y66 (by omega) (hC.fr f200) (hTk.fr (WL := W_cp) f200 (by decide)) (e200_k3) (e200_k0) (e200_k1) (e200_k2) (e200_sz199) (e200_sn199) (e200_uc199) (li_0) (li_1) (by omega)) fun v Ma218 h218 => ?_
            obtain ⟨rv217, sz217, sn217, uc217, rfl, g218, e218_sz217, e218_sn217, e218_uc217, e218_k0, e218_k1, e218_k2, e218_k3, p218_0, p218_1, p218_2⟩ := h218
            have f218 : Fr W_cp Mc Ma218 := Fr.t f200 (Fr.m g218 (by decide))
            refine rsl (cL_e rfl) ?_
            refine rsl (gtI_q (w := iI sn217) (ck_65 (hC.fr f218)) (e218_sn217)) ?_
            refine rsl (vC_e (ck_65 (hC.fr f218))) ?_
            refine RlI (y87 (by omega) (hC.fr f218) (hTk.fr (WL := W_cp) f218 (by decide)) (e218_k3) (e218_k0) (e218_k1) (e218_k2) (e218_sz217) (e218_sn217) (e218_uc217) (li_2) (rfl) (by omega)) fun v Ma220 h220 => ?_
            obtain ⟨rv219, sz219, sn219, uc219, rfl, g220, e220_sz219, e220_sn219, e220_uc219, e220_k0, e220_k1, e220_k2, e220_k3, p220_0, p220_1, p220_2, p220_3⟩ := h220
            have f220 : Fr W_cp Mc Ma220 := Fr.t f218 (Fr.m g220 (by decide))
            refine rsl (cI_e rfl) ?_
            refine rsl (vC_e (ck_65 (hC.fr f220))) ?_
            refine RlV (y75 (by omega) (hC.fr f220) (hTk.fr (WL := W_cp) f220 (by decide)) (e220_k3) (e220_k0) (e220_k1) (e220_k2) (e220_sz219) (e220_sn219) (e220_uc219)  (by omega)) fun v Ma222 h222 => ?_
            obtain ⟨sz221, sn221, uc221, g222, e222_sz221, e222_sn221, e222_uc221, e222_k0, e222_k1, e222_k2, e222_k3, p222_0, p222_1, p222_2⟩ := h222
            have f222 : Fr W_cp Mc Ma222 := Fr.t f220 (Fr.m g222 (by decide))
            refine rsl (cV_e rfl) ?_
            refine rsl (vC_e (ck_65 (hC.fr f222))) ?_
            refine RlV (y89 (by omega) (hC.fr f222) (hTk.fr (WL := W_cp) f222 (by decide)) (e222_k3) (e222_k0) (e222_k1) (e222_k2) (e222_sz221) (e222_sn221) (e222_uc221) (hv0) (by omega)) fun v Ma224 h224 => ?_
            obtain ⟨sz223, sn223, uc223, g224, e224_sz223, e224_sn223, e224_uc223, e224_k0, e224_k1, e224_k2, e224_k3, p224_0, p224_1, p224_2⟩ := h224
            have f224 : Fr W_cp Mc Ma224 := Fr.t f222 (Fr.m g224 (by decide))
            refine rsl (cV_e rfl) ?_
            refine rsl (ptI_q (z := s) (ck_65 (hC.fr f224)) (rfl)) ?_
            refine rsl (gtP_q (w := some 73) (ck_65 (hC.fr f224).sI) (cf_65_6 (hC.fr f224).sI)) ?_
            refine rsl (gtI_q (w := iI sz223) (ck_65 (hC.fr f224).sI) ((sI_nej (by decide)).trans (e224_sz223))) ?_
            refine rsl (asI_q (n := 4096) (z := (e13 + 1)) (y := sz223) (ck_73 (hC.fr f224).sI) (congrArg iI p21_0) (by omega) (rfl)) ?_
            refine rsr (vC_e (rk_160 (hR.fr FR13))) ?_
            refine RrI (a196 (by omega) (hR.fr FR13) (w13_43) ((FR13.i _ _ (by decide)).trans h49) ((FR13.i _ _ (by decide)).trans h48) (li_27) (li_0) (by omega)) fun v Ma226 h226 => ?_
            obtain ⟨r225, rfl, g226, e226_k0, p226_0, p226_1⟩ := h226
            have f226 : Fr W_rx Mr Ma226 := Fr.t FR13 (Fr.m g226 (by decide))
            refine rsr (cI_e rfl) ?_
            refine rsr (vC_e (rk_160 (hR.fr f226))) ?_
            refine RrI (a196 (by omega) (hR.fr f226) (e226_k0) ((g226.i _ _ (by decide)).trans ((FR13.i _ _ (by decide)).trans h49)) ((g226.i _ _ (by decide)).trans ((FR13.i _ _ (by decide)).trans h48)) (li_25) (li_0) (by omega)) fun v Ma228 h228 => ?_
            obtain ⟨r227, rfl, g228, e228_k0, p228_0, p228_1⟩ := h228
            have f228 : Fr W_rx Mr Ma228 := Fr.t f226 (Fr.m g228 (by decide))
            refine rsr (cI_e rfl) ?_
            refine rsr (gtP_q (w := some 196) (rk_160 (hR.fr f228)) (rf_45 (hR.fr f228))) ?_
            refine rsr (gtI_q (w := iI (e13 + 2)) (rk_160 (hR.fr f228)) (e228_k0)) ?_
            refine rsr (asI_q (n := 4000) (z := e) (y := (e13 + 2)) (rk_196 (hR.fr f228)) (congrArg iI p10_0) (by omega) (rfl)) ?_
            refine rsr (vC_e (rk_160 (hR.fr f228).sI)) ?_
            refine rsr (cI_e (a195_424_1 (by omega) hS (hR.fr f228).sI ((sI_ne (by decide)).trans ((g228.i _ _ (by decide)).trans ((g226.i _ _ (by decide)).trans (w13_36)))) ((sI_ne (by decide)).trans ((g228.i _ _ (by decide)).trans ((g226.i _ _ (by decide)).trans (w13_37)))) ((sI_ne (by decide)).trans ((g228.i _ _ (by decide)).trans ((g226.i _ _ (by decide)).trans (w13_41)))) (li_424) (by omega))) ?_
            refine rsr (vC_e (rk_160 (hR.fr f228).sI.sI.sI)) ?_
            refine RrI (x198_s (by omega) (hR.fr f228).sI.sI.sI ((sI_nej (by decide)).trans (sI_eq)) (sI_eq) ((sI_nej (by decide)).trans ((sI_nej (by decide)).trans ((sI_ne (by decide)).trans (e228_k0)))) ((sI_nej (by decide)).trans ((sI_nej (by decide)).trans ((sI_ne (by decide)).trans ((g228.i _ _ (by decide)).trans ((g226.i _ _ (by decide)).trans (w13_51)))))) ((sI_nej (by decide)).trans ((sI_nej (by decide)).trans ((sI_ne (by decide)).trans ((g228.i _ _ (by decide)).trans ((g226.i _ _ (by decide)).trans (w13_53)))))) ((sI_nej (by decide)).trans ((sI_nej (by decide)).trans ((sI_ne (by decide)).trans ((g228.i _ _ (by decide)).trans ((g226.i _ _ (by decide)).trans ((FR13.i _ _ (by decide)).trans h48)))))) ((sI_nej (by decide)).trans ((sI_nej (by decide)).trans ((sI_ne (by decide)).trans ((g228.i _ _ (by decide)).trans ((g226.i _ _ (by decide)).trans ((FR13.i _ _ (by decide)).trans h49))))))  (by omega)) fun v Ma230 h230 => ?_
            obtain ⟨rv229, em229, rfl, g230, e230_em229, e230_k0, e230_k1, e230_k2, e230_k3, e230_k4, p230_0, p230_1⟩ := h230
            have f230 : Fr W_rp Mr Ma230 := Fr.t (Fr.sI (by decide) (Fr.sI (by decide) (Fr.sI (inW_c (by decide) _) (Fr.m f228 (by decide))))) (Fr.m g230 (by decide))
            refine rsr (cI_e rfl) ?_
            refine rsr (jn_v) ?_
            refine rsr (if_pos (eqI_p (rfl) (li_0) (by omega))) ?_
            refine rsr (jv_e) ?_
            exact Rs.ok (Or.inr ⟨1, ((pl i13)), (Fr.sI (inW_c (by decide) _) (Fr.sI (by decide) f224)), f230, ⟨i13, sz223, s, uc223, (sI_ne (by decide)).trans ((sI_nej (by decide)).trans (e224_k0)), (sI_ne (by decide)).trans ((sI_nej (by decide)).trans (e224_k1)), (sI_ne (by decide)).trans ((sI_nej (by decide)).trans (e224_k2)), (sI_ne (by decide)).trans ((sI_nej (by decide)).trans (e224_k3)), (sI_ne (by decide)).trans ((sI_nej (by decide)).trans (e224_sz223)), (sI_ne (by decide)).trans (sI_eq), (sI_ne (by decide)).trans ((sI_nej (by decide)).trans (e224_uc223)), by omega⟩, ⟨em229, s, u13, mu, ut, e230_k0, e230_k1, e230_em229, e230_k2, e230_k3, e230_k4, (g230.i _ _ (by decide)).trans ((sI_nej (by decide)).trans ((sI_nej (by decide)).trans ((sI_ne (by decide)).trans ((g228.i _ _ (by decide)).trans ((g226.i _ _ (by decide)).trans ((FR13.i _ _ (by decide)).trans h49)))))), by omega⟩⟩)
        · refine rsl (if_neg (lsI_n (rfl) (li_0) (by omega))) ?_
          refine rsl (jv_e) ?_
          refine rsl (gtI_q (w := iI sn199) (ck_65 (hC.fr f200)) (e200_sn199)) ?_
          refine rsl (jn_v) ?_
          by_cases c231 : sn199 < 10
          · refine rsl (if_pos (lsI_p (rfl) (li_10) (by omega))) ?_
            refine rsl (jv_e) ?_
            refine rsl (vC_e (ck_65 (hC.fr f200))) ?_
            refine RlL (y66 (by omega) (hC.fr f200) (hTk.fr (WL := W_cp) f200 (by decide)) (e200_k3) (e200_k0) (e200_k1) (e200_k2) (e200_sz199) (e200_sn199) (e200_uc199) (li_1) (li_0) (by omega)) fun v Ma233 h233 => ?_
            obtain ⟨rv232, sz232, sn232, uc232, rfl, g233, e233_sz232, e233_sn232, e233_uc232, e233_k0, e233_k1, e233_k2, e233_k3, p233_0, p233_1, p233_2⟩ := h233
            have f233 : Fr W_cp Mc Ma233 := Fr.t f200 (Fr.m g233 (by decide))
            refine rsl (cL_e rfl) ?_
            refine rsl (gtI_q (w := iI sn232) (ck_65 (hC.fr f233)) (e233_sn232)) ?_
            refine rsl (vC_e (ck_65 (hC.fr f233))) ?_
            refine RlI (y87 (by omega) (hC.fr f233) (hTk.fr (WL := W_cp) f233 (by decide)) (e233_k3) (e233_k0) (e233_k1) (e233_k2) (e233_sz232) (e233_sn232) (e233_uc232) (li_2) (rfl) (by omega)) fun v Ma235 h235 => ?_
            obtain ⟨rv234, sz234, sn234, uc234, rfl, g235, e235_sz234, e235_sn234, e235_uc234, e235_k0, e235_k1, e235_k2, e235_k3, p235_0, p235_1, p235_2, p235_3⟩ := h235
            have f235 : Fr W_cp Mc Ma235 := Fr.t f233 (Fr.m g235 (by decide))
            refine rsl (cI_e rfl) ?_
            refine rsl (vC_e (ck_65 (hC.fr f235))) ?_
            refine RlV (y75 (by omega) (hC.fr f235) (hTk.fr (WL := W_cp) f235 (by decide)) (e235_k3) (e235_k0) (e235_k1) (e235_k2) (e235_sz234) (e235_sn234) (e235_uc234)  (by omega)) fun v Ma237 h237 => ?_
            obtain ⟨sz236, sn236, uc236, g237, e237_sz236, e237_sn236, e237_uc236, e237_k0, e237_k1, e237_k2, e237_k3, p237_0, p237_1, p237_2⟩ := h237
            have f237 : Fr W_cp Mc Ma237 := Fr.t f235 (Fr.m g237 (by decide))
            refine rsl (cV_e rfl) ?_
            refine rsl (vC_e (ck_65 (hC.fr f237))) ?_
            refine RlV (y89 (by omega) (hC.fr f237) (hTk.fr (WL := W_cp) f237 (by decide)) (e237_k3) (e237_k0) (e237_k1) (e237_k2) (e237_sz236) (e237_sn236) (e237_uc236) (hv0) (by omega)) fun v Ma239 h239 => ?_
            obtain ⟨sz238, sn238, uc238, g239, e239_sz238, e239_sn238, e239_uc238, e239_k0, e239_k1, e239_k2, e239_k3, p239_0, p239_1, p239_2⟩ := h239
            have f239 : Fr W_cp Mc Ma239 := Fr.t f237 (Fr.m g239 (by decide))
            refine rsl (cV_e rfl) ?_
            refine rsl (ptI_q (z := s) (ck_65 (hC.fr f239)) (rfl)) ?_
            refine rsl (gtP_q (w := some 73) (ck_65 (hC.fr f239).sI) (cf_65_6 (hC.fr f239).sI)) ?_
            refine rsl (gtI_q (w := iI sz238) (ck_65 (hC.fr f239).sI) ((sI_nej (by decide)).trans (e239_sz238))) ?_
            refine rsl (asI_q (n := 4096) (z := (e13 + 1)) (y := sz238) (ck_73 (hC.fr f239).sI) (congrArg iI p21_0) (by omega) (rfl)) ?_
            refine rsr (vC_e (rk_160 (hR.fr FR13))) ?_
            refine RrI (a196 (by omega) (hR.fr FR13) (w13_43) ((FR13.i _ _ (by decide)).trans h49) ((FR13.i _ _ (by decide)).trans h48) (li_27) (li_0) (by omega)) fun v Ma241 h241 => ?_
            obtain ⟨r240, rfl, g241, e241_k0, p241_0, p241_1⟩ := h241
            have f241 : Fr W_rx Mr Ma241 := Fr.t FR13 (Fr.m g241 (by decide))
            refine rsr (cI_e rfl) ?_
            refine rsr (vC_e (rk_160 (hR.fr f241))) ?_
            refine RrI (a196 (by omega) (hR.fr f241) (e241_k0) ((g241.i _ _ (by decide)).trans ((FR13.i _ _ (by decide)).trans h49)) ((g241.i _ _ (by decide)).trans ((FR13.i _ _ (by decide)).trans h48)) (li_25) (li_0) (by omega)) fun v Ma243 h243 => ?_
            obtain ⟨r242, rfl, g243, e243_k0, p243_0, p243_1⟩ := h243
            have f243 : Fr W_rx Mr Ma243 := Fr.t f241 (Fr.m g243 (by decide))
            refine rsr (cI_e rfl) ?_
            refine rsr (gtP_q (w := some 196) (rk_160 (hR.fr f243)) (rf_45 (hR.fr f243))) ?_
            refine rsr (gtI_q (w := iI (e13 + 2)) (rk_160 (hR.fr f243)) (e243_k0)) ?_
            refine rsr (asI_q (n := 4000) (z := e) (y := (e13 + 2)) (rk_196 (hR.fr f243)) (congrArg iI p10_0) (by omega) (rfl)) ?_
            refine rsr (vC_e (rk_160 (hR.fr f243).sI)) ?_
            refine rsr (cI_e (a195_424_1 (by omega) hS (hR.fr f243).sI ((sI_ne (by decide)).trans ((g243.i _ _ (by decide)).trans ((g241.i _ _ (by decide)).trans (w13_36)))) ((sI_ne (by decide)).trans ((g243.i _ _ (by decide)).trans ((g241.i _ _ (by decide)).trans (w13_37)))) ((sI_ne (by decide)).trans ((g243.i _ _ (by decide)).trans ((g241.i _ _ (by decide)).trans (w13_41)))) (li_424) (by omega))) ?_
            refine rsr (vC_e (rk_160 (hR.fr f243).sI.sI.sI)) ?_
            refine RrI (x198_s (by omega) (hR.fr f243).sI.sI.sI ((sI_nej (by decide)).trans (sI_eq)) (sI_eq) ((sI_nej (by decide)).trans ((sI_nej (by decide)).trans ((sI_ne (by decide)).trans (e243_k0)))) ((sI_nej (by decide)).trans ((sI_nej (by decide)).trans ((sI_ne (by decide)).trans ((g243.i _ _ (by decide)).trans ((g241.i _ _ (by decide)).trans (w13_51)))))) ((sI_nej (by decide)).trans ((sI_nej (by decide)).trans ((sI_ne (by decide)).trans ((g243.i _ _ (by decide)).trans ((g241.i _ _ (by decide)).trans (w13_53)))))) ((sI_nej (by decide)).trans ((sI_nej (by decide)).trans ((sI_ne (by decide)).trans ((g243.i _ _ (by decide)).trans ((g241.i _ _ (by decide)).trans ((FR13.i _ _ (by decide)).trans h48)))))) ((sI_nej (by decide)).trans ((sI_nej (by decide)).trans ((sI_ne (by decide)).trans ((g243.i _ _ (by decide)).trans ((g241.i _ _ (by decide)).trans ((FR13.i _ _ (by decide)).trans h49))))))  (by omega)) fun v Ma245 h245 => ?_
            obtain ⟨rv244, em244, rfl, g245, e245_em244, e245_k0, e245_k1, e245_k2, e245_k3, e245_k4, p245_0, p245_1⟩ := h245
            have f245 : Fr W_rp Mr Ma245 := Fr.t (Fr.sI (by decide) (Fr.sI (by decide) (Fr.sI (inW_c (by decide) _) (Fr.m f243 (by decide))))) (Fr.m g245 (by decide))
            refine rsr (cI_e rfl) ?_
            refine rsr (jn_v) ?_
            refine rsr (if_pos (eqI_p (rfl) (li_0) (by omega))) ?_
            refine rsr (jv_e) ?_
            exact Rs.ok (Or.inr ⟨1, ((pl i13)), (Fr.sI (inW_c (by decide) _) (Fr.sI (by decide) f239)), f245, ⟨i13, sz238, s, uc238, (sI_ne (by decide)).trans ((sI_nej (by decide)).trans (e239_k0)), (sI_ne (by decide)).trans ((sI_nej (by decide)).trans (e239_k1)), (sI_ne (by decide)).trans ((sI_nej (by decide)).trans (e239_k2)), (sI_ne (by decide)).trans ((sI_nej (by decide)).trans (e239_k3)), (sI_ne (by decide)).trans ((sI_nej (by decide)).trans (e239_sz238)), (sI_ne (by decide)).trans (sI_eq), (sI_ne (by decide)).trans ((sI_nej (by decide)).trans (e239_uc238)), by omega⟩, ⟨em244, s, u13, mu, ut, e245_k0, e245_k1, e245_em244, e245_k2, e245_k3, e245_k4, (g245.i _ _ (by decide)).trans ((sI_nej (by decide)).trans ((sI_nej (by decide)).trans ((sI_ne (by decide)).trans ((g243.i _ _ (by decide)).trans ((g241.i _ _ (by decide)).trans ((FR13.i _ _ (by decide)).trans h49)))))), by omega⟩⟩)
          · refine rsl (if_neg (lsI_n (rfl) (li_10) (by omega))) ?_
            refine rsl (jv_e) ?_
            refine rsl (vC_e (ck_65 (hC.fr f200))) ?_
            refine RlL (y66 (by omega) (hC.fr f200) (hTk.fr (WL := W_cp) f200 (by decide)) (e200_k3) (e200_k0) (e200_k1) (e200_k2) (e200_sz199) (e200_sn199) (e200_uc199) (li_1) (li_1) (by omega)) fun v Ma247 h247 => ?_
            obtain ⟨rv246, sz246, sn246, uc246, rfl, g247, e247_sz246, e247_sn246, e247_uc246, e247_k0, e247_k1, e247_k2, e247_k3, p247_0, p247_1, p247_2⟩ := h247
            have f247 : Fr W_cp Mc Ma247 := Fr.t f200 (Fr.m g247 (by decide))
            refine rsl (cL_e rfl) ?_
            refine rsl (gtI_q (w := iI sn246) (ck_65 (hC.fr f247)) (e247_sn246)) ?_
            refine rsl (vC_e (ck_65 (hC.fr f247))) ?_
            refine RlI (y87 (by omega) (hC.fr f247) (hTk.fr (WL := W_cp) f247 (by decide)) (e247_k3) (e247_k0) (e247_k1) (e247_k2) (e247_sz246) (e247_sn246) (e247_uc246) (li_2) (rfl) (by omega)) fun v Ma249 h249 => ?_
            obtain ⟨rv248, sz248, sn248, uc248, rfl, g249, e249_sz248, e249_sn248, e249_uc248, e249_k0, e249_k1, e249_k2, e249_k3, p249_0, p249_1, p249_2, p249_3⟩ := h249
            have f249 : Fr W_cp Mc Ma249 := Fr.t f247 (Fr.m g249 (by decide))
            refine rsl (cI_e rfl) ?_
            refine rsl (vC_e (ck_65 (hC.fr f249))) ?_
            refine RlV (y75 (by omega) (hC.fr f249) (hTk.fr (WL := W_cp) f249 (by decide)) (e249_k3) (e249_k0) (e249_k1) (e249_k2) (e249_sz248) (e249_sn248) (e249_uc248)  (by omega)) fun v Ma251 h251 => ?_
            obtain ⟨sz250, sn250, uc250, g251, e251_sz250, e251_sn250, e251_uc250, e251_k0, e251_k1, e251_k2, e251_k3, p251_0, p251_1, p251_2⟩ := h251
            have f251 : Fr W_cp Mc Ma251 := Fr.t f249 (Fr.m g251 (by decide))
            refine rsl (cV_e rfl) ?_
            refine rsl (vC_e (ck_65 (hC.fr f251))) ?_
            refine RlV (y89 (by omega) (hC.fr f251) (hTk.fr (WL := W_cp) f251 (by decide)) (e251_k3) (e251_k0) (e251_k1) (e251_k2) (e251_sz250) (e251_sn250) (e251_uc250) (hv0) (by omega)) fun v Ma253 h253 => ?_
            obtain ⟨sz252, sn252, uc252, g253, e253_sz252, e253_sn252, e253_uc252, e253_k0, e253_k1, e253_k2, e253_k3, p253_0, p253_1, p253_2⟩ := h253
            have f253 : Fr W_cp Mc Ma253 := Fr.t f251 (Fr.m g253 (by decide))
            refine rsl (cV_e rfl) ?_
            refine rsl (ptI_q (z := s) (ck_65 (hC.fr f253)) (rfl)) ?_
            refine rsl (gtP_q (w := some 73) (ck_65 (hC.fr f253).sI) (cf_65_6 (hC.fr f253).sI)) ?_
            refine rsl (gtI_q (w := iI sz252) (ck_65 (hC.fr f253).sI) ((sI_nej (by decide)).trans (e253_sz252))) ?_
            refine rsl (asI_q (n := 4096) (z := (e13 + 1)) (y := sz252) (ck_73 (hC.fr f253).sI) (congrArg iI p21_0) (by omega) (rfl)) ?_
            refine rsr (vC_e (rk_160 (hR.fr FR13))) ?_
            refine RrI (a196 (by omega) (hR.fr FR13) (w13_43) ((FR13.i _ _ (by decide)).trans h49) ((FR13.i _ _ (by decide)).trans h48) (li_27) (li_0) (by omega)) fun v Ma255 h255 => ?_
            obtain ⟨r254, rfl, g255, e255_k0, p255_0, p255_1⟩ := h255
            have f255 : Fr W_rx Mr Ma255 := Fr.t FR13 (Fr.m g255 (by decide))
            refine rsr (cI_e rfl) ?_
            refine rsr (vC_e (rk_160 (hR.fr f255))) ?_
            refine RrI (a196 (by omega) (hR.fr f255) (e255_k0) ((g255.i _ _ (by decide)).trans ((FR13.i _ _ (by decide)).trans h49)) ((g255.i _ _ (by decide)).trans ((FR13.i _ _ (by decide)).trans h48)) (li_25) (li_0) (by omega)) fun v Ma257 h257 => ?_
            obtain ⟨r256, rfl, g257, e257_k0, p257_0, p257_1⟩ := h257
            have f257 : Fr W_rx Mr Ma257 := Fr.t f255 (Fr.m g257 (by decide))
            refine rsr (cI_e rfl) ?_
            refine rsr (gtP_q (w := some 196) (rk_160 (hR.fr f257)) (rf_45 (hR.fr f257))) ?_
            refine rsr (gtI_q (w := iI (e13 + 2)) (rk_160 (hR.fr f257)) (e257_k0)) ?_
            refine rsr (asI_q (n := 4000) (z := e) (y := (e13 + 2)) (rk_196 (hR.fr f257)) (congrArg iI p10_0) (by omega) (rfl)) ?_
            refine rsr (vC_e (rk_160 (hR.fr f257).sI)) ?_
            refine rsr (cI_e (a195_424_1 (by omega) hS (hR.fr f257).sI ((sI_ne (by decide)).trans ((g257.i _ _ (by decide)).trans ((g255.i _ _ (by decide)).trans (w13_36)))) ((sI_ne (by decide)).trans ((g257.i _ _ (by decide)).trans ((g255.i _ _ (by decide)).trans (w13_37)))) ((sI_ne (by decide)).trans ((g257.i _ _ (by decide)).trans ((g255.i _ _ (by decide)).trans (w13_41)))) (li_424) (by omega))) ?_
            refine rsr (vC_e (rk_160 (hR.fr f257).sI.sI.sI)) ?_
            refine RrI (x198_s (by omega) (hR.fr f257).sI.sI.sI ((sI_nej (by decide)).trans (sI_eq)) (sI_eq) ((sI_nej (by decide)).trans ((sI_nej (by decide)).trans ((sI_ne (by decide)).trans (e257_k0)))) ((sI_nej (by decide)).trans ((sI_nej (by decide)).trans ((sI_ne (by decide)).trans ((g257.i _ _ (by decide)).trans ((g255.i _ _ (by decide)).trans (w13_51)))))) ((sI_nej (by decide)).trans ((sI_nej (by decide)).trans ((sI_ne (by decide)).trans ((g257.i _ _ (by decide)).trans ((g255.i _ _ (by decide)).trans (w13_53)))))) ((sI_nej (by decide)).trans ((sI_nej (by decide)).trans ((sI_ne (by decide)).trans ((g257.i _ _ (by decide)).trans ((g255.i _ _ (by decide)).trans ((FR13.i _ _ (by decide)).trans h48)))))) ((sI_nej (by decide)).trans ((sI_nej (by decide)).trans ((sI_ne (by decide)).trans ((g257.i _ _ (by decide)).trans ((g255.i _ _ (by decide)).trans ((FR13.i _ _ (by decide)).trans h49))))))  (by omega)) fun v Ma259 h259 => ?_
            obtain ⟨rv258, em258, rfl, g259, e259_em258, e259_k0, e259_k1, e259_k2, e259_k3, e259_k4, p259_0, p259_1⟩ := h259
            have f259 : Fr W_rp Mr Ma259 := Fr.t (Fr.sI (by decide) (Fr.sI (by decide) (Fr.sI (inW_c (by decide) _) (Fr.m f257 (by decide))))) (Fr.m g259 (by decide))
            refine rsr (cI_e rfl) ?_
            refine rsr (jn_v) ?_
            refine rsr (if_pos (eqI_p (rfl) (li_0) (by omega))) ?_
            refine rsr (jv_e) ?_
            exact Rs.ok (Or.inr ⟨1, ((pl i13)), (Fr.sI (inW_c (by decide) _) (Fr.sI (by decide) f253)), f259, ⟨i13, sz252, s, uc252, (sI_ne (by decide)).trans ((sI_nej (by decide)).trans (e253_k0)), (sI_ne (by decide)).trans ((sI_nej (by decide)).trans (e253_k1)), (sI_ne (by decide)).trans ((sI_nej (by decide)).trans (e253_k2)), (sI_ne (by decide)).trans ((sI_nej (by decide)).trans (e253_k3)), (sI_ne (by decide)).trans ((sI_nej (by decide)).trans (e253_sz252)), (sI_ne (by decide)).trans (sI_eq), (sI_ne (by decide)).trans ((sI_nej (by decide)).trans (e253_uc252)), by omega⟩, ⟨em258, s, u13, mu, ut, e259_k0, e259_k1, e259_em258, e259_k2, e259_k3, e259_k4, (g259.i _ _ (by decide)).trans ((sI_nej (by decide)).trans ((sI_nej (by decide)).trans ((sI_ne (by decide)).trans ((g257.i _ _ (by decide)).trans ((g255.i _ _ (by decide)).trans ((FR13.i _ _ (by decide)).trans h49)))))), by omega⟩⟩)
      ·
        refine rsl (cV_e (a64_2 (by omega) hS (hC.fr ff23) (hTk.fr (WL := W_cp) ff23 (by decide)) ((f23.i _ _ (by decide)).trans ((sI_ne (by decide)).trans ((g21.i _ _ (by decide)).trans ((g18.i _ _ (by decide)).trans (q13_12))))) ((f23.i _ _ (by decide)).trans ((sI_ne (by decide)).trans ((g21.i _ _ (by decide)).trans ((g18.i _ _ (by decide)).trans (q13_13))))) ((f23.i _ _ (by decide)).trans ((sI_ne (by decide)).trans ((g21.i _ _ (by decide)).trans ((g18.i _ _ (by decide)).trans (q13_10))))) (li_223) (by omega))) ?_
        refine rsl (gtI_q (w := iI s) (ck_65 (hC.fr ff23).sI.sI.sI) ((sI_nej (by decide)).trans ((sI_nej (by decide)).trans ((sI_nej (by decide)).trans ((f23.i _ _ (by decide)).trans ((sI_ne (by decide)).trans ((g21.i _ _ (by decide)).trans ((g18.i _ _ (by decide)).trans (q13_16))))))))) ?_
        refine rsl (vC_e (ck_65 (hC.fr ff23).sI.sI.sI)) ?_
        refine RlL (y65 (by omega) (hC.fr ff23).sI.sI.sI (hTk.fr (WL := W_cp) (Fr.sI (by decide) (Fr.sI (by decide) (Fr.sI (by decide) ff23))) (by decide)) ((sI_nej (by decide)).trans ((sI_nej (by decide)).trans ((sI_nej (by decide)).trans ((f23.i _ _ (by decide)).trans ((sI_ne (by decide)).trans ((g21.i _ _ (by decide)).trans ((g18.i _ _ (by decide)).trans (q13_12)))))))) (sI_eq) ((sI_nej (by decide)).trans ((sI_nej (by decide)).trans (sI_eq))) ((sI_nej (by decide)).trans (sI_eq)) ((sI_nej (by decide)).trans ((sI_nej (by decide)).trans ((sI_nej (by decide)).trans ((f23.i _ _ (by decide)).trans ((sI_ne (by decide)).trans (e21_k0)))))) ((sI_nej (by decide)).trans ((sI_nej (by decide)).trans ((sI_nej (by decide)).trans ((f23.i _ _ (by decide)).trans ((sI_ne (by decide)).trans ((g21.i _ _ (by decide)).trans ((g18.i _ _ (by decide)).trans (q13_16)))))))) ((sI_nej (by decide)).trans ((sI_nej (by decide)).trans ((sI_nej (by decide)).trans ((f23.i _ _ (by decide)).trans ((sI_ne (by decide)).trans ((g21.i _ _ (by decide)).trans ((g18.i _ _ (by decide)).trans (q13_19))))))))  (by omega)) fun v Ma261 h261 => ?_
        obtain ⟨rv260, sz260, sn260, uc260, rfl, g261, e261_sz260, e261_sn260, e261_uc260, e261_k0, e261_k1, e261_k2, e261_k3, p261_0, p261_1, p261_2⟩ := h261
        have f261 : Fr W_cp Mc Ma261 := Fr.t (Fr.sI (by decide) (Fr.sI (by decide) (Fr.sI (by decide) ff23))) (Fr.m g261 (by decide))
        refine rsl (cL_e rfl) ?_
        refine rsl (vC_e (ck_65 (hC.fr f261))) ?_
        refine RlI (y74 (by omega) (hC.fr f261) (hTk.fr (WL := W_cp) f261 (by decide)) (e261_k3) (e261_k0) (e261_k1) (e261_k2) (e261_sz260) (e261_sn260) (e261_uc260)  (by omega)) fun v Ma263 h263 => ?_
        obtain ⟨rv262, sz262, sn262, uc262, rfl, g263, e263_sz262, e263_sn262, e263_uc262, e263_k0, e263_k1, e263_k2, e263_k3, p263_0, p263_1, p263_2, p263_3⟩ := h263
        have f263 : Fr W_cp Mc Ma263 := Fr.t f261 (Fr.m g263 (by decide))
        refine rsl (cI_e rfl) ?_
        refine rsl (jn_v) ?_
        by_cases c264 : rv262 < 0
        · refine rsl (if_pos (lsI_p (rfl) (li_0) (by omega))) ?_
          refine rsl (jv_e) ?_
          refine rsl (gtI_q (w := iI sn262) (ck_65 (hC.fr f263)) (e263_sn262)) ?_
          refine rsl (jn_v) ?_
          by_cases c265 : sn262 < 10
          · refine rsl (if_pos (lsI_p (rfl) (li_10) (by omega))) ?_
            refine rsl (jv_e) ?_
            refine rsl (vC_e (ck_65 (hC.fr f263))) ?_
            refine RlL (y66 (by omega) (hC.fr f263) (hTk.fr (WL := W_cp) f263 (by decide)) (e263_k3) (e263_k0) (e263_k1) (e263_k2) (e263_sz262) (e263_sn262) (e263_uc262) (li_0) (li_0) (by omega)) fun v Ma267 h267 => ?_
            obtain ⟨rv266, sz266, sn266, uc266, rfl, g267, e267_sz266, e267_sn266, e267_uc266, e267_k0, e267_k1, e267_k2, e267_k3, p267_0, p267_1, p267_2⟩ := h267
            have f267 : Fr W_cp Mc Ma267 := Fr.t f263 (Fr.m g267 (by decide))
            refine rsl (cL_e rfl) ?_
            refine rsl (gtI_q (w := iI sn266) (ck_65 (hC.fr f267)) (e267_sn266)) ?_
            refine rsl (vC_e (ck_65 (hC.fr f267))) ?_
            refine RlI (y87 (by omega) (hC.fr f267) (hTk.fr (WL := W_cp) f267 (by decide)) (e267_k3) (e267_k0) (e267_k1) (e267_k2) (e267_sz266) (e267_sn266) (e267_uc266) (li_2) (rfl) (by omega)) fun v Ma269 h269 => ?_
            obtain ⟨rv268, sz268, sn268, uc268, rfl, g269, e269_sz268, e269_sn268, e269_uc268, e269_k0, e269_k1, e269_k2, e269_k3, p269_0, p269_1, p269_2, p269_3⟩ := h269
            have f269 : Fr W_cp Mc Ma269 := Fr.t f267 (Fr.m g269 (by decide))
            refine rsl (cI_e rfl) ?_
            refine rsl (vC_e (ck_65 (hC.fr f269))) ?_
            refine RlV (y75 (by omega) (hC.fr f269) (hTk.fr (WL := W_cp) f269 (by decide)) (e269_k3) (e269_k0) (e269_k1) (e269_k2) (e269_sz268) (e269_sn268) (e269_uc268)  (by omega)) fun v Ma271 h271 => ?_
            obtain ⟨sz270, sn270, uc270, g271, e271_sz270, e271_sn270, e271_uc270, e271_k0, e271_k1, e271_k2, e271_k3, p271_0, p271_1, p271_2⟩ := h271
            have f271 : Fr W_cp Mc Ma271 := Fr.t f269 (Fr.m g271 (by decide))
            refine rsl (cV_e rfl) ?_
            refine rsl (vC_e (ck_65 (hC.fr f271))) ?_
            refine RlV (y89 (by omega) (hC.fr f271) (hTk.fr (WL := W_cp) f271 (by decide)) (e271_k3) (e271_k0) (e271_k1) (e271_k2) (e271_sz270) (e271_sn270) (e271_uc270) (hv0) (by omega)) fun v Ma273 h273 => ?_
            obtain ⟨sz272, sn272, uc272, g273, e273_sz272, e273_sn272, e273_uc272, e273_k0, e273_k1, e273_k2, e273_k3, p273_0, p273_1, p273_2⟩ := h273
            have f273 : Fr W_cp Mc Ma273 := Fr.t f271 (Fr.m g273 (by decide))
            refine rsl (cV_e rfl) ?_
            refine rsl (ptI_q (z := s) (ck_65 (hC.fr f273)) (rfl)) ?_
            refine rsl (gtP_q (w := some 73) (ck_65 (hC.fr f273).sI) (cf_65_6 (hC.fr f273).sI)) ?_
            refine rsl (gtI_q (w := iI sz272) (ck_65 (hC.fr f273).sI) ((sI_nej (by decide)).trans (e273_sz272))) ?_
            refine rsl (asI_q (n := 4096) (z := (e13 + 1)) (y := sz272) (ck_73 (hC.fr f273).sI) (congrArg iI p21_0) (by omega) (rfl)) ?_
            refine rsr (vC_e (rk_160 (hR.fr FR13))) ?_
            refine RrI (a196 (by omega) (hR.fr FR13) (w13_43) ((FR13.i _ _ (by decide)).trans h49) ((FR13.i _ _ (by decide)).trans h48) (li_27) (li_0) (by omega)) fun v Ma275 h275 => ?_
            obtain ⟨r274, rfl, g275, e275_k0, p275_0, p275_1⟩ := h275
            have f275 : Fr W_rx Mr Ma275 := Fr.t FR13 (Fr.m g275 (by decide))
            refine rsr (cI_e rfl) ?_
            refine rsr (vC_e (rk_160 (hR.fr f275))) ?_
            refine RrI (a196 (by omega) (hR.fr f275) (e275_k0) ((g275.i _ _ (by decide)).trans ((FR13.i _ _ (by decide)).trans h49)) ((g275.i _ _ (by decide)).trans ((FR13.i _ _ (by decide)).trans h48)) (li_25) (li_0) (by omega)) fun v Ma277 h277 => ?_
            obtain ⟨r276, rfl, g277, e277_k0, p277_0, p277_1⟩ := h277
            have f277 : Fr W_rx Mr Ma277 := Fr.t f275 (Fr.m g277 (by decide))
            refine rsr (cI_e rfl) ?_
            refine rsr (gtP_q (w := some 196) (rk_160 (hR.fr f277)) (rf_45 (hR.fr f277))) ?_
            refine rsr (gtI_q (w := iI (e13 + 2)) (rk_160 (hR.fr f277)) (e277_k0)) ?_
            refine rsr (asI_q (n := 4000) (z := e) (y := (e13 + 2)) (rk_196 (hR.fr f277)) (congrArg iI p10_0) (by omega) (rfl)) ?_
            refine rsr (vC_e (rk_160 (hR.fr f277).sI)) ?_
            refine rsr (cI_e (a195_424_2 (by omega) hS (hR.fr f277).sI ((sI_ne (by decide)).trans ((g277.i _ _ (by decide)).trans ((g275.i _ _ (by decide)).trans (w13_36)))) ((sI_ne (by decide)).trans ((g277.i _ _ (by decide)).trans ((g275.i _ _ (by decide)).trans (w13_37)))) ((sI_ne (by decide)).trans ((g277.i _ _ (by decide)).trans ((g275.i _ _ (by decide)).trans (w13_41)))) (li_424) (by omega))) ?_
            refine rsr (vC_e (rk_160 (hR.fr f277).sI.sI.sI)) ?_
            refine RrI (x198_s (by omega) (hR.fr f277).sI.sI.sI ((sI_nej (by decide)).trans (sI_eq)) (sI_eq) ((sI_nej (by decide)).trans ((sI_nej (by decide)).trans ((sI_ne (by decide)).trans (e277_k0)))) ((sI_nej (by decide)).trans ((sI_nej (by decide)).trans ((sI_ne (by decide)).trans ((g277.i _ _ (by decide)).trans ((g275.i _ _ (by decide)).trans (w13_51)))))) ((sI_nej (by decide)).trans ((sI_nej (by decide)).trans ((sI_ne (by decide)).trans ((g277.i _ _ (by decide)).trans ((g275.i _ _ (by decide)).trans (w13_53)))))) ((sI_nej (by decide)).trans ((sI_nej (by decide)).trans ((sI_ne (by decide)).trans ((g277.i _ _ (by decide)).trans ((g275.i _ _ (by decide)).trans ((FR13.i _ _ (by decide)).trans h48)))))) ((sI_nej (by decide)).trans ((sI_nej (by decide)).trans ((sI_ne (by decide)).trans ((g277.i _ _ (by decide)).trans ((g275.i _ _ (by decide)).trans ((FR13.i _ _ (by decide)).trans h49))))))  (by omega)) fun v Ma279 h279 => ?_
            obtain ⟨rv278, em278, rfl, g279, e279_em278, e279_k0, e279_k1, e279_k2, e279_k3, e279_k4, p279_0, p279_1⟩ := h279
            have f279 : Fr W_rp Mr Ma279 := Fr.t (Fr.sI (by decide) (Fr.sI (by decide) (Fr.sI (inW_c (by decide) _) (Fr.m f277 (by decide))))) (Fr.m g279 (by decide))
            refine rsr (cI_e rfl) ?_
            refine rsr (jn_v) ?_
            refine rsr (if_pos (eqI_p (rfl) (li_0) (by omega))) ?_
            refine rsr (jv_e) ?_
            exact Rs.ok (Or.inr ⟨2, ((pl i13)), (Fr.sI (inW_c (by decide) _) (Fr.sI (by decide) f273)), f279, ⟨i13, sz272, s, uc272, (sI_ne (by decide)).trans ((sI_nej (by decide)).trans (e273_k0)), (sI_ne (by decide)).trans ((sI_nej (by decide)).trans (e273_k1)), (sI_ne (by decide)).trans ((sI_nej (by decide)).trans (e273_k2)), (sI_ne (by decide)).trans ((sI_nej (by decide)).trans (e273_k3)), (sI_ne (by decide)).trans ((sI_nej (by decide)).trans (e273_sz272)), (sI_ne (by decide)).trans (sI_eq), (sI_ne (by decide)).trans ((sI_nej (by decide)).trans (e273_uc272)), by omega⟩, ⟨em278, s, u13, mu, ut, e279_k0, e279_k1, e279_em278, e279_k2, e279_k3, e279_k4, (g279.i _ _ (by decide)).trans ((sI_nej (by decide)).trans ((sI_nej (by decide)).trans ((sI_ne (by decide)).trans ((g277.i _ _ (by decide)).trans ((g275.i _ _ (by decide)).trans ((FR13.i _ _ (by decide)).trans h49)))))), by omega⟩⟩)
          · refine rsl (if_neg (lsI_n (rfl) (li_10) (by omega))) ?_
            refine rsl (jv_e) ?_
            refine rsl (vC_e (ck_65 (hC.fr f263))) ?_
            refine RlL (y66 (by omega) (hC.fr f263) (hTk.fr (WL := W_cp) f263 (by decide)) (e263_k3) (e263_k0) (e263_k1) (e263_k2) (e263_sz262) (e263_sn262) (e263_uc262) (li_0) (li_1) (by omega)) fun v Ma281 h281 => ?_
            obtain ⟨rv280, sz280, sn280, uc280, rfl, g281, e281_sz280, e281_sn280, e281_uc280, e281_k0, e281_k1, e281_k2, e281_k3, p281_0, p281_1, p281_2⟩ := h281
            have f281 : Fr W_cp Mc Ma281 := Fr.t f263 (Fr.m g281 (by decide))
            refine rsl (cL_e rfl) ?_
            refine rsl (gtI_q (w := iI sn280) (ck_65 (hC.fr f281)) (e281_sn280)) ?_
            refine rsl (vC_e (ck_65 (hC.fr f281))) ?_
            refine RlI (y87 (by omega) (hC.fr f281) (hTk.fr (WL := W_cp) f281 (by decide)) (e281_k3) (e281_k0) (e281_k1) (e281_k2) (e281_sz280) (e281_sn280) (e281_uc280) (li_2) (rfl) (by omega)) fun v Ma283 h283 => ?_
            obtain ⟨rv282, sz282, sn282, uc282, rfl, g283, e283_sz282, e283_sn282, e283_uc282, e283_k0, e283_k1, e283_k2, e283_k3, p283_0, p283_1, p283_2, p283_3⟩ := h283
            have f283 : Fr W_cp Mc Ma283 := Fr.t f281 (Fr.m g283 (by decide))
            refine rsl (cI_e rfl) ?_
            refine rsl (vC_e (ck_65 (hC.fr f283))) ?_
            refine RlV (y75 (by omega) (hC.fr f283) (hTk.fr (WL := W_cp) f283 (by decide)) (e283_k3) (e283_k0) (e283_k1) (e283_k2) (e283_sz282) (e283_sn282) (e283_uc282)  (by omega)) fun v Ma285 h285 => ?_
            obtain ⟨sz284, sn284, uc284, g285, e285_sz284, e285_sn284, e285_uc284, e285_k0, e285_k1, e285_k2, e285_k3, p285_0, p285_1, p285_2⟩ := h285
            have f285 : Fr W_cp Mc Ma285 := Fr.t f283 (Fr.m g285 (by decide))
            refine rsl (cV_e rfl) ?_
            refine rsl (vC_e (ck_65 (hC.fr f285))) ?_
            refine RlV (y89 (by omega) (hC.fr f285) (hTk.fr (WL := W_cp) f285 (by decide)) (e285_k3) (e285_k0) (e285_k1) (e285_k2) (e285_sz284) (e285_sn284) (e285_uc284) (hv0) (by omega)) fun v Ma287 h287 => ?_
            obtain ⟨sz286, sn286, uc286, g287, e287_sz286, e287_sn286, e287_uc286, e287_k0, e287_k1, e287_k2, e287_k3, p287_0, p287_1, p287_2⟩ := h287
            have f287 : Fr W_cp Mc Ma287 := Fr.t f285 (Fr.m g287 (by decide))
            refine rsl (cV_e rfl) ?_
            refine rsl (ptI_q (z := s) (ck_65 (hC.fr f287)) (rfl)) ?_
            refine rsl (gtP_q (w := some 73) (ck_65 (hC.fr f287).sI) (cf_65_6 (hC.fr f287).sI)) ?_
            refine rsl (gtI_q (w := iI sz286) (ck_65 (hC.fr f287).sI) ((sI_nej (by decide)).trans (e287_sz286))) ?_
            refine rsl (asI_q (n := 4096) (z := (e13 + 1)) (y := sz286) (ck_73 (hC.fr f287).sI) (congrArg iI p21_0) (by omega) (rfl)) ?_
            refine rsr (vC_e (rk_160 (hR.fr FR13))) ?_
            refine RrI (a196 (by omega) (hR.fr FR13) (w13_43) ((FR13.i _ _ (by decide)).trans h49) ((FR13.i _ _ (by decide)).trans h48) (li_27) (li_0) (by omega)) fun v Ma289 h289 => ?_
            obtain ⟨r288, rfl, g289, e289_k0, p289_0, p289_1⟩ := h289
            have f289 : Fr W_rx Mr Ma289 := Fr.t FR13 (Fr.m g289 (by decide))
            refine rsr (cI_e rfl) ?_
            refine rsr (vC_e (rk_160 (hR.fr f289))) ?_
            refine RrI (a196 (by omega) (hR.fr f289) (e289_k0) ((g289.i _ _ (by decide)).trans ((FR13.i _ _ (by decide)).trans h49)) ((g289.i _ _ (by decide)).trans ((FR13.i _ _ (by decide)).trans h48)) (li_25) (li_0) (by omega)) fun v Ma291 h291 => ?_
            obtain ⟨r290, rfl, g291, e291_k0, p291_0, p291_1⟩ := h291
            have f291 : Fr W_rx Mr Ma291 := Fr.t f289 (Fr.m g291 (by decide))
            refine rsr (cI_e rfl) ?_
            refine rsr (gtP_q (w := some 196) (rk_160 (hR.fr f291)) (rf_45 (hR.fr f291))) ?_
            refine rsr (gtI_q (w := iI (e13 + 2)) (rk_160 (hR.fr f291)) (e291_k0)) ?_
            refine rsr (asI_q (n := 4000) (z := e) (y := (e13 + 2)) (rk_196 (hR.fr f291)) (congrArg iI p10_0) (by omega) (rfl)) ?_
            refine rsr (vC_e (rk_160 (hR.fr f291).sI)) ?_
            refine rsr (cI_e (a195_424_2 (by omega) hS (hR.fr f291).sI ((sI_ne (by decide)).trans ((g291.i _ _ (by decide)).trans ((g289.i _ _ (by decide)).trans (w13_36)))) ((sI_ne (by decide)).trans ((g291.i _ _ (by decide)).trans ((g289.i _ _ (by decide)).trans (w13_37)))) ((sI_ne (by decide)).trans ((g291.i _ _ (by decide)).trans ((g289.i _ _ (by decide)).trans (w13_41)))) (li_424) (by omega))) ?_
            refine rsr (vC_e (rk_160 (hR.fr f291).sI.sI.sI)) ?_
            refine RrI (x198_s (by omega) (hR.fr f291).sI.sI.sI ((sI_nej (by decide)).trans (sI_eq)) (sI_eq) ((sI_nej (by decide)).trans ((sI_nej (by decide)).trans ((sI_ne (by decide)).trans (e291_k0)))) ((sI_nej (by decide)).trans ((sI_nej (by decide)).trans ((sI_ne (by decide)).trans ((g291.i _ _ (by decide)).trans ((g289.i _ _ (by decide)).trans (w13_51)))))) ((sI_nej (by decide)).trans ((sI_nej (by decide)).trans ((sI_ne (by decide)).trans ((g291.i _ _ (by decide)).trans ((g289.i _ _ (by decide)).trans (w13_53)))))) ((sI_nej (by decide)).trans ((sI_nej (by decide)).trans ((sI_ne (by decide)).trans ((g291.i _ _ (by decide)).trans ((g289.i _ _ (by decide)).trans ((FR13.i _ _ (by decide)).trans h48)))))) ((sI_nej (by decide)).trans ((sI_nej (by decide)).trans ((sI_ne (by decide)).trans ((g291.i _ _ (by decide)).trans ((g289.i _ _ (by decide)).trans ((FR13.i _ _ (by decide)).trans h49))))))  (by omega)) fun v Ma293 h293 => ?_
            obtain ⟨rv292, em292, rfl, g293, e293_em292, e293_k0, e293_k1, e293_k2, e293_k3, e293_k4, p293_0, p293_1⟩ := h293
            have f293 : Fr W_rp Mr Ma293 := Fr.t (Fr.sI (by decide) (Fr.sI (by decide) (Fr.sI (inW_c (by decide) _) (Fr.m f291 (by decide))))) (Fr.m g293 (by decide))
            refine rsr (cI_e rfl) ?_
            refine rsr (jn_v) ?_
            refine rsr (if_pos (eqI_p (rfl) (li_0) (by omega))) ?_
            refine rsr (jv_e) ?_
            exact Rs.ok (Or.inr ⟨2, ((pl i13)), (Fr.sI (inW_c (by decide) _) (Fr.sI (by decide) f287)), f293, ⟨i13, sz286, s, uc286, (sI_ne (by decide)).trans ((sI_nej (by decide)).trans (e287_k0)), (sI_ne (by decide)).trans ((sI_nej (by decide)).trans (e287_k1)), (sI_ne (by decide)).trans ((sI_nej (by decide)).trans (e287_k2)), (sI_ne (by decide)).trans ((sI_nej (by decide)).trans (e287_k3)), (sI_ne (by decide)).trans ((sI_nej (by decide)).trans (e287_sz286)), (sI_ne (by decide)).trans (sI_eq), (sI_ne (by decide)).trans ((sI_nej (by decide)).trans (e287_uc286)), by omega⟩, ⟨em292, s, u13, mu, ut, e293_k0, e293_k1, e293_em292, e293_k2, e293_k3, e293_k4, (g293.i _ _ (by decide)).trans ((sI_nej (by decide)).trans ((sI_nej (by decide)).trans ((sI_ne (by decide)).trans ((g291.i _ _ (by decide)).trans ((g289.i _ _ (by decide)).trans ((FR13.i _ _ (by decide)).trans h49)))))), by omega⟩⟩)
        · refine rsl (if_neg (lsI_n (rfl) (li_0) (by omega))) ?_
          refine rsl (jv_e) ?_
          refine rsl (gtI_q (w := iI sn262) (ck_65 (hC.fr f263)) (e263_sn262)) ?_
          refine rsl (jn_v) ?_
          by_cases c294 : sn262 < 10
          · refine rsl (if_pos (lsI_p (rfl) (li_10) (by omega))) ?_
            refine rsl (jv_e) ?_
            refine rsl (vC_e (ck_65 (hC.fr f263))) ?_
            refine RlL (y66 (by omega) (hC.fr f263) (hTk.fr (WL := W_cp) f263 (by decide)) (e263_k3) (e263_k0) (e263_k1) (e263_k2) (e263_sz262) (e263_sn262) (e263_uc262) (li_1) (li_0) (by omega)) fun v Ma296 h296 => ?_
            obtain ⟨rv295, sz295, sn295, uc295, rfl, g296, e296_sz295, e296_sn295, e296_uc295, e296_k0, e296_k1, e296_k2, e296_k3, p296_0, p296_1, p296_2⟩ := h296
            have f296 : Fr W_cp Mc Ma296 := Fr.t f263 (Fr.m g296 (by decide))
            refine rsl (cL_e rfl) ?_
            refine rsl (gtI_q (w := iI sn295) (ck_65 (hC.fr f296)) (e296_sn295)) ?_
            refine rsl (vC_e (ck_65 (hC.fr f296))) ?_
            refine RlI (y87 (by omega) (hC.fr f296) (hTk.fr (WL := W_cp) f296 (by decide)) (e296_k3) (e296_k0) (e296_k1) (e296_k2) (e296_sz295) (e296_sn295) (e296_uc295) (li_2) (rfl) (by omega)) fun v Ma298 h298 => ?_
            obtain ⟨rv297, sz297, sn297, uc297, rfl, g298, e298_sz297, e298_sn297, e298_uc297, e298_k0, e298_k1, e298_k2, e298_k3, p298_0, p298_1, p298_2, p298_3⟩ := h298
            have f298 : Fr W_cp Mc Ma298 := Fr.t f296 (Fr.m g298 (by decide))
            refine rsl (cI_e rfl) ?_
            refine rsl (vC_e (ck_65 (hC.fr f298))) ?_
            refine RlV (y75 (by omega) (hC.fr f298) (hTk.fr (WL := W_cp) f298 (by decide)) (e298_k3) (e298_k0) (e298_k1) (e298_k2) (e298_sz297) (e298_sn297) (e298_uc297)  (by omega)) fun v Ma300 h300 => ?_
            obtain ⟨sz299, sn299, uc299, g300, e300_sz299, e300_sn299, e300_uc299, e300_k0, e300_k1, e300_k2, e300_k3, p300_0, p300_1, p300_2⟩ := h300
            have f300 : Fr W_cp Mc Ma300 := Fr.t f298 (Fr.m g300 (by decide))
            refine rsl (cV_e rfl) ?_
            refine rsl (vC_e (ck_65 (hC.fr f300))) ?_
            refine RlV (y89 (by omega) (hC.fr f300) (hTk.fr (WL := W_cp) f300 (by decide)) (e300_k3) (e300_k0) (e300_k1) (e300_k2) (e300_sz299) (e300_sn299) (e300_uc299) (hv0) (by omega)) fun v Ma302 h302 => ?_
            obtain ⟨sz301, sn301, uc301, g302, e302_sz301, e302_sn301, e302_uc301, e302_k0, e302_k1, e302_k2, e302_k3, p302_0, p302_1, p302_2⟩ := h302
            have f302 : Fr W_cp Mc Ma302 := Fr.t f300 (Fr.m g302 (by decide))
            refine rsl (cV_e rfl) ?_
            refine rsl (ptI_q (z := s) (ck_65 (hC.fr f302)) (rfl)) ?_
            refine rsl (gtP_q (w := some 73) (ck_65 (hC.fr f302).sI) (cf_65_6 (hC.fr f302).sI)) ?_
            refine rsl (gtI_q (w := iI sz301) (ck_65 (hC.fr f302).sI) ((sI_nej (by decide)).trans (e302_sz301))) ?_
            refine rsl (asI_q (n := 4096) (z := (e13 + 1)) (y := sz301) (ck_73 (hC.fr f302).sI) (congrArg iI p21_0) (by omega) (rfl)) ?_
            refine rsr (vC_e (rk_160 (hR.fr FR13))) ?_
            refine RrI (a196 (by omega) (hR.fr FR13) (w13_43) ((FR13.i _ _ (by decide)).trans h49) ((FR13.i _ _ (by decide)).trans h48) (li_27) (li_0) (by omega)) fun v Ma304 h304 => ?_
            obtain ⟨r303, rfl, g304, e304_k0, p304_0, p304_1⟩ := h304
            have f304 : Fr W_rx Mr Ma304 := Fr.t FR13 (Fr.m g304 (by decide))
            refine rsr (cI_e rfl) ?_
            refine rsr (vC_e (rk_160 (hR.fr f304))) ?_
            refine RrI (a196 (by omega) (hR.fr f304) (e304_k0) ((g304.i _ _ (by decide)).trans ((FR13.i _ _ (by decide)).trans h49)) ((g304.i _ _ (by decide)).trans ((FR13.i _ _ (by decide)).trans h48)) (li_25) (li_0) (by omega)) fun v Ma306 h306 => ?_
            obtain ⟨r305, rfl, g306, e306_k0, p306_0, p306_1⟩ := h306
            have f306 : Fr W_rx Mr Ma306 := Fr.t f304 (Fr.m g306 (by decide))
            refine rsr (cI_e rfl) ?_
            refine rsr (gtP_q (w := some 196) (rk_160 (hR.fr f306)) (rf_45 (hR.fr f306))) ?_
            refine rsr (gtI_q (w := iI (e13 + 2)) (rk_160 (hR.fr f306)) (e306_k0)) ?_
            refine rsr (asI_q (n := 4000) (z := e) (y := (e13 + 2)) (rk_196 (hR.fr f306)) (congrArg iI p10_0) (by omega) (rfl)) ?_
            refine rsr (vC_e (rk_160 (hR.fr f306).sI)) ?_
            refine rsr (cI_e (a195_424_2 (by omega) hS (hR.fr f306).sI ((sI_ne (by decide)).trans ((g306.i _ _ (by decide)).trans ((g304.i _ _ (by decide)).trans (w13_36)))) ((sI_ne (by decide)).trans ((g306.i _ _ (by decide)).trans ((g304.i _ _ (by decide)).trans (w13_37)))) ((sI_ne (by decide)).trans ((g306.i _ _ (by decide)).trans ((g304.i _ _ (by decide)).trans (w13_41)))) (li_424) (by omega))) ?_
            refine rsr (vC_e (rk_160 (hR.fr f306).sI.sI.sI)) ?_
            refine RrI (x198_s (by omega) (hR.fr f306).sI.sI.sI ((sI_nej (by decide)).trans (sI_eq)) (sI_eq) ((sI_nej (by decide)).trans ((sI_nej (by decide)).trans ((sI_ne (by decide)).trans (e306_k0)))) ((sI_nej (by decide)).trans ((sI_nej (by decide)).trans ((sI_ne (by decide)).trans ((g306.i _ _ (by decide)).trans ((g304.i _ _ (by decide)).trans (w13_51)))))) ((sI_nej (by decide)).trans ((sI_nej (by decide)).trans ((sI_ne (by decide)).trans ((g306.i _ _ (by decide)).trans ((g304.i _ _ (by decide)).trans (w13_53)))))) ((sI_nej (by decide)).trans ((sI_nej (by decide)).trans ((sI_ne (by decide)).trans ((g306.i _ _ (by decide)).trans ((g304.i _ _ (by decide)).trans ((FR13.i _ _ (by decide)).trans h48)))))) ((sI_nej (by decide)).trans ((sI_nej (by decide)).trans ((sI_ne (by decide)).trans ((g306.i _ _ (by decide)).trans ((g304.i _ _ (by decide)).trans ((FR13.i _ _ (by decide)).trans h49))))))  (by omega)) fun v Ma308 h308 => ?_
            obtain ⟨rv307, em307, rfl, g308, e308_em307, e308_k0, e308_k1, e308_k2, e308_k3, e308_k4, p308_0, p308_1⟩ := h308
            have f308 : Fr W_rp Mr Ma308 := Fr.t (Fr.sI (by decide) (Fr.sI (by decide) (Fr.sI (inW_c (by decide) _) (Fr.m f306 (by decide))))) (Fr.m g308 (by decide))
            refine rsr (cI_e rfl) ?_
            refine rsr (jn_v) ?_
            refine rsr (if_pos (eqI_p (rfl) (li_0) (by omega))) ?_
            refine rsr (jv_e) ?_
            exact Rs.ok (Or.inr ⟨2, ((pl i13)), (Fr.sI (inW_c (by decide) _) (Fr.sI (by decide) f302)), f308, ⟨i13, sz301, s, uc301, (sI_ne (by decide)).trans ((sI_nej (by decide)).trans (e302_k0)), (sI_ne (by decide)).trans ((sI_nej (by decide)).trans (e302_k1)), (sI_ne (by decide)).trans ((sI_nej (by decide)).trans (e302_k2)), (sI_ne (by decide)).trans ((sI_nej (by decide)).trans (e302_k3)), (sI_ne (by decide)).trans ((sI_nej (by decide)).trans (e302_sz301)), (sI_ne (by decide)).trans (sI_eq), (sI_ne (by decide)).trans ((sI_nej (by decide)).trans (e302_uc301)), by omega⟩, ⟨em307, s, u13, mu, ut, e308_k0, e308_k1, e308_em307, e308_k2, e308_k3, e308_k4, (g308.i _ _ (by decide)).trans ((sI_nej (by decide)).trans ((sI_nej (by decide)).trans ((sI_ne (by decide)).trans ((g306.i _ _ (by decide)).trans ((g304.i _ _ (by decide)).trans ((FR13.i _ _ (by decide)).trans h49)))))), by omega⟩⟩)
          · refine rsl (if_neg (lsI_n (rfl) (li_10) (by omega))) ?_
            refine rsl (jv_e) ?_
            refine rsl (vC_e (ck_65 (hC.fr f263))) ?_
            refine RlL (y66 (by omega) (hC.fr f263) (hTk.fr (WL := W_cp) f263 (by decide)) (e263_k3) (e263_k0) (e263_k1) (e263_k2) (e263_sz262) (e263_sn262) (e263_uc262) (li_1) (li_1) (by omega)) fun v Ma310 h310 => ?_
            obtain ⟨rv309, sz309, sn309, uc309, rfl, g310, e310_sz309, e310_sn309, e310_uc309, e310_k0, e310_k1, e310_k2, e310_k3, p310_0, p310_1, p310_2⟩ := h310
            have f310 : Fr W_cp Mc Ma310 := Fr.t f263 (Fr.m g310 (by decide))
            refine rsl (cL_e rfl) ?_
            refine rsl (gtI_q (w := iI sn309) (ck_65 (hC.fr f310)) (e310_sn309)) ?_
            refine rsl (vC_e (ck_65 (hC.fr f310))) ?_
            refine RlI (y87 (by omega) (hC.fr f310) (hTk.fr (WL := W_cp) f310 (by decide)) (e310_k3) (e310_k0) (e310_k1) (e310_k2) (e310_sz309) (e310_sn309) (e310_uc309) (li_2) (rfl) (by omega)) fun v Ma312 h312 => ?_
            obtain ⟨rv311, sz311, sn311, uc311, rfl, g312, e312_sz311, e312_sn311, e312_uc311, e312_k0, e312_k1, e312_k2, e312_k3, p312_0, p312_1, p312_2, p312_3⟩ := h312
            have f312 : Fr W_cp Mc Ma312 := Fr.t f310 (Fr.m g312 (by decide))
            refine rsl (cI_e rfl) ?_
            refine rsl (vC_e (ck_65 (hC.fr f312))) ?_
            refine RlV (y75 (by omega) (hC.fr f312) (hTk.fr (WL := W_cp) f312 (by decide)) (e312_k3) (e312_k0) (e312_k1) (e312_k2) (e312_sz311) (e312_sn311) (e312_uc311)  (by omega)) fun v Ma314 h314 => ?_
            obtain ⟨sz313, sn313, uc313, g314, e314_sz313, e314_sn313, e314_uc313, e314_k0, e314_k1, e314_k2, e314_k3, p314_0, p314_1, p314_2⟩ := h314
            have f314 : Fr W_cp Mc Ma314 := Fr.t f312 (Fr.m g314 (by decide))
            refine rsl (cV_e rfl) ?_
            refine rsl (vC_e (ck_65 (hC.fr f314))) ?_
            refine RlV (y89 (by omega) (hC.fr f314) (hTk.fr (WL := W_cp) f314 (by decide)) (e314_k3) (e314_k0) (e314_k1) (e314_k2) (e314_sz313) (e314_sn313) (e314_uc313) (hv0) (by omega)) fun v Ma316 h316 => ?_
            obtain ⟨sz315, sn315, uc315, g316, e316_sz315, e316_sn315, e316_uc315, e316_k0, e316_k1, e316_k2, e316_k3, p316_0, p316_1, p316_2⟩ := h316
            have f316 : Fr W_cp Mc Ma316 := Fr.t f314 (Fr.m g316 (by decide))
            refine rsl (cV_e rfl) ?_
            refine rsl (ptI_q (z := s) (ck_65 (hC.fr f316)) (rfl)) ?_
            refine rsl (gtP_q (w := some 73) (ck_65 (hC.fr f316).sI) (cf_65_6 (hC.fr f316).sI)) ?_
            refine rsl (gtI_q (w := iI sz315) (ck_65 (hC.fr f316).sI) ((sI_nej (by decide)).trans (e316_sz315))) ?_
            refine rsl (asI_q (n := 4096) (z := (e13 + 1)) (y := sz315) (ck_73 (hC.fr f316).sI) (congrArg iI p21_0) (by omega) (rfl)) ?_
            refine rsr (vC_e (rk_160 (hR.fr FR13))) ?_
            refine RrI (a196 (by omega) (hR.fr FR13) (w13_43) ((FR13.i _ _ (by decide)).trans h49) ((FR13.i _ _ (by decide)).trans h48) (li_27) (li_0) (by omega)) fun v Ma318 h318 => ?_
            obtain ⟨r317, rfl, g318, e318_k0, p318_0, p318_1⟩ := h318
            have f318 : Fr W_rx Mr Ma318 := Fr.t FR13 (Fr.m g318 (by decide))
            refine rsr (cI_e rfl) ?_
            refine rsr (vC_e (rk_160 (hR.fr f318))) ?_
            refine RrI (a196 (by omega) (hR.fr f318) (e318_k0) ((g318.i _ _ (by decide)).trans ((FR13.i _ _ (by decide)).trans h49)) ((g318.i _ _ (by decide)).trans ((FR13.i _ _ (by decide)).trans h48)) (li_25) (li_0) (by omega)) fun v Ma320 h320 => ?_
            obtain ⟨r319, rfl, g320, e320_k0, p320_0, p320_1⟩ := h320
            have f320 : Fr W_rx Mr Ma320 := Fr.t f318 (Fr.m g320 (by decide))
            refine rsr (cI_e rfl) ?_
            refine rsr (gtP_q (w := some 196) (rk_160 (hR.fr f320)) (rf_45 (hR.fr f320))) ?_
            refine rsr (gtI_q (w := iI (e13 + 2)) (rk_160 (hR.fr f320)) (e320_k0)) ?_
            refine rsr (asI_q (n := 4000) (z := e) (y := (e13 + 2)) (rk_196 (hR.fr f320)) (congrArg iI p10_0) (by omega) (rfl)) ?_
            refine rsr (vC_e (rk_160 (hR.fr f320).sI)) ?_
            refine rsr (cI_e (a195_424_2 (by omega) hS (hR.fr f320).sI ((sI_ne (by decide)).trans ((g320.i _ _ (by decide)).trans ((g318.i _ _ (by decide)).trans (w13_36)))) ((sI_ne (by decide)).trans ((g320.i _ _ (by decide)).trans ((g318.i _ _ (by decide)).trans (w13_37)))) ((sI_ne (by decide)).trans ((g320.i _ _ (by decide)).trans ((g318.i _ _ (by decide)).trans (w13_41)))) (li_424) (by omega))) ?_
            refine rsr (vC_e (rk_160 (hR.fr f320).sI.sI.sI)) ?_
            refine RrI (x198_s (by omega) (hR.fr f320).sI.sI.sI ((sI_nej (by decide)).trans (sI_eq)) (sI_eq) ((sI_nej (by decide)).trans ((sI_nej (by decide)).trans ((sI_ne (by decide)).trans (e320_k0)))) ((sI_nej (by decide)).trans ((sI_nej (by decide)).trans ((sI_ne (by decide)).trans ((g320.i _ _ (by decide)).trans ((g318.i _ _ (by decide)).trans (w13_51)))))) ((sI_nej (by decide)).trans ((sI_nej (by decide)).trans ((sI_ne (by decide)).trans ((g320.i _ _ (by decide)).trans ((g318.i _ _ (by decide)).trans (w13_53)))))) ((sI_nej (by decide)).trans ((sI_nej (by decide)).trans ((sI_ne (by decide)).trans ((g320.i _ _ (by decide)).trans ((g318.i _ _ (by decide)).trans ((FR13.i _ _ (by decide)).trans h48)))))) ((sI_nej (by decide)).trans ((sI_nej (by decide)).trans ((sI_ne (by decide)).trans ((g320.i _ _ (by decide)).trans ((g318.i _ _ (by decide)).trans ((FR13.i _ _ (by decide)).trans h49))))))  (by omega)) fun v Ma322 h322 => ?_
            obtain ⟨rv321, em321, rfl, g322, e322_em321, e322_k0, e322_k1, e322_k2, e322_k3, e322_k4, p322_0, p322_1⟩ := h322
            have f322 : Fr W_rp Mr Ma322 := Fr.t (Fr.sI (by decide) (Fr.sI (by decide) (Fr.sI (inW_c (by decide) _) (Fr.m f320 (by decide))))) (Fr.m g322 (by decide))
            refine rsr (cI_e rfl) ?_
            refine rsr (jn_v) ?_
            refine rsr (if_pos (eqI_p (rfl) (li_0) (by omega))) ?_
            refine rsr (jv_e) ?_
            exact Rs.ok (Or.inr ⟨2, ((pl i13)), (Fr.sI (inW_c (by decide) _) (Fr.sI (by decide) f316)), f322, ⟨i13, sz315, s, uc315, (sI_ne (by decide)).trans ((sI_nej (by decide)).trans (e316_k0)), (sI_ne (by decide)).trans ((sI_nej (by decide)).trans (e316_k1)), (sI_ne (by decide)).trans ((sI_nej (by decide)).trans (e316_k2)), (sI_ne (by decide)).trans ((sI_nej (by decide)).trans (e316_k3)), (sI_ne (by decide)).trans ((sI_nej (by decide)).trans (e316_sz315)), (sI_ne (by decide)).trans (sI_eq), (sI_ne (by decide)).trans ((sI_nej (by decide)).trans (e316_uc315)), by omega⟩, ⟨em321, s, u13, mu, ut, e322_k0, e322_k1, e322_em321, e322_k2, e322_k3, e322_k4, (g322.i _ _ (by decide)).trans ((sI_nej (by decide)).trans ((sI_nej (by decide)).trans ((sI_ne (by decide)).trans ((g320.i _ _ (by decide)).trans ((g318.i _ _ (by decide)).trans ((FR13.i _ _ (by decide)).trans h49)))))), by omega⟩⟩)
  ·
    have FL13 : Fr W_cp Mc Mx13 := Fr.t f8 fl13
    have FR13 : Fr W_rp Mr Nx13 := Fr.t (Fr.m f12 W_rx_p) fr13
    obtain ⟨ti13, tz13, tn13, tu13, t1313, t1013, t1113, t1213, t913, t1613, t1913, tb13⟩ := tc13
    obtain ⟨re13, rn13, ru13, rm13, rt13, u4113, u4213, u4313, u5113, u5313, u4813, u4913, ub13⟩ := tr13
    refine rsl (cV_e rfl) ?_
    refine rsr (cV_e rfl) ?_
    refine rsl (vC_e (ck_65 (hC.fr FL13))) ?_
    refine RlI (y87 (by omega) (hC.fr FL13) (hTk.fr (WL := W_cp) FL13 (by decide)) (t1213) (t1313) (t1013) (t1113) (t913) (t1613) (t1913) (li_27) (li_0) (by omega)) fun v Ma324 h324 => ?_
    obtain ⟨rv323, sz323, sn323, uc323, rfl, g324, e324_sz323, e324_sn323, e324_uc323, e324_k0, e324_k1, e324_k2, e324_k3, p324_0, p324_1, p324_2, p324_3⟩ := h324
    have f324 : Fr W_cp Mc Ma324 := Fr.t FL13 (Fr.m g324 (by decide))
    refine rsl (cI_e rfl) ?_
    refine rsl (vC_e (ck_65 (hC.fr f324))) ?_
    refine RlI (y87 (by omega) (hC.fr f324) (hTk.fr (WL := W_cp) f324 (by decide)) (e324_k3) (e324_k0) (e324_k1) (e324_k2) (e324_sz323) (e324_sn323) (e324_uc323) (li_25) (li_0) (by omega)) fun v Ma326 h326 => ?_
    obtain ⟨rv325, sz325, sn325, uc325, rfl, g326, e326_sz325, e326_sn325, e326_uc325, e326_k0, e326_k1, e326_k2, e326_k3, p326_0, p326_1, p326_2, p326_3⟩ := h326
    have f326 : Fr W_cp Mc Ma326 := Fr.t f324 (Fr.m g326 (by decide))
    refine rsl (cI_e rfl) ?_
    refine rsl (gtP_q (w := some 73) (ck_65 (hC.fr f326)) (cf_65_6 (hC.fr f326))) ?_
    refine rsl (gtI_q (w := iI sz325) (ck_65 (hC.fr f326)) (e326_sz325)) ?_
    refine rsl (asI_q (n := 4096) (z := e) (y := sz325) (ck_73 (hC.fr f326)) (congrArg iI p8_0) (by omega) (rfl)) ?_
    refine rsl (ltI_q (z := (e + 1)) (adI (congrArg iI p8_0) (li_1))) ?_
    refine rsl (jn_v) ?_
    refine lp95F (hC.fr f326).sI ((sI_ne (by decide)).trans (e326_sz325)) (rfl) (rfl) (by omega) fun Mq327 f327 => ?_
    have ff327 : Fr W_cp Mc Mq327 := Fr.t (Fr.sI (inW_c (by decide) _) f326) (Fr.m f327 (by decide))
    refine rsl (vC_e (ck_65 (hC.fr ff327))) ?_
    refine RlV (y64 (by omega) (hC.fr ff327) (hTk.fr (WL := W_cp) ff327 (by decide)) ((f327.i _ _ (by decide)).trans ((sI_ne (by decide)).trans (e326_k3))) ((f327.i _ _ (by decide)).trans ((sI_ne (by decide)).trans (e326_k0))) ((f327.i _ _ (by decide)).trans ((sI_ne (by decide)).trans (e326_k1))) ((f327.i _ _ (by decide)).trans ((sI_ne (by decide)).trans (e326_k2))) ((f327.i _ _ (by decide)).trans ((sI_ne (by decide)).trans (e326_sz325))) ((f327.i _ _ (by decide)).trans ((sI_ne (by decide)).trans (e326_sn325))) ((f327.i _ _ (by decide)).trans ((sI_ne (by decide)).trans (e326_uc325))) (li_223) (by omega)) fun v Ma329 h329 => ?_
    obtain ⟨sz328, sn328, uc328, g329, e329_sz328, e329_sn328, e329_uc328, e329_k0, e329_k1, e329_k2, e329_k3, p329_0, p329_1, p329_2⟩ := h329
    have f329 : Fr W_cp Mc Ma329 := Fr.t ff327 (Fr.m g329 (by decide))
    refine rsl (cV_e rfl) ?_
    refine rsl (gtI_q (w := iI sn328) (ck_65 (hC.fr f329)) (e329_sn328)) ?_
    refine rsl (vC_e (ck_65 (hC.fr f329))) ?_
    refine RlL (y65 (by omega) (hC.fr f329) (hTk.fr (WL := W_cp) f329 (by decide)) (e329_k3) (e329_k0) (e329_k1) (e329_k2) (e329_sz328) (e329_sn328) (e329_uc328)  (by omega)) fun v Ma331 h331 => ?_
    obtain ⟨rv330, sz330, sn330, uc330, rfl, g331, e331_sz330, e331_sn330, e331_uc330, e331_k0, e331_k1, e331_k2, e331_k3, p331_0, p331_1, p331_2⟩ := h331
    have f331 : Fr W_cp Mc Ma331 := Fr.t f329 (Fr.m g331 (by decide))
    refine rsl (cL_e rfl) ?_
    refine rsl (vC_e (ck_65 (hC.fr f331))) ?_
    refine RlI (y74 (by omega) (hC.fr f331) (hTk.fr (WL := W_cp) f331 (by decide)) (e331_k3) (e331_k0) (e331_k1) (e331_k2) (e331_sz330) (e331_sn330) (e331_uc330)  (by omega)) fun v Ma333 h333 => ?_
    obtain ⟨rv332, sz332, sn332, uc332, rfl, g333, e333_sz332, e333_sn332, e333_uc332, e333_k0, e333_k1, e333_k2, e333_k3, p333_0, p333_1, p333_2, p333_3⟩ := h333
    have f333 : Fr W_cp Mc Ma333 := Fr.t f331 (Fr.m g333 (by decide))
    refine rsl (cI_e rfl) ?_
    refine rsl (jn_v) ?_
    by_cases c334 : rv332 < 0
    · refine rsl (if_pos (lsI_p (rfl) (li_0) (by omega))) ?_
      refine rsl (jv_e) ?_
      refine rsl (gtI_q (w := iI sn332) (ck_65 (hC.fr f333)) (e333_sn332)) ?_
      refine rsl (jn_v) ?_
      by_cases c335 : sn332 < 10
      · refine rsl (if_pos (lsI_p (rfl) (li_10) (by omega))) ?_
        refine rsl (jv_e) ?_
        refine rsl (vC_e (ck_65 (hC.fr f333))) ?_
        refine RlL (y66 (by omega) (hC.fr f333) (hTk.fr (WL := W_cp) f333 (by decide)) (e333_k3) (e333_k0) (e333_k1) (e333_k2) (e333_sz332) (e333_sn332) (e333_uc332) (li_0) (li_0) (by omega)) fun v Ma337 h337 => ?_
        obtain ⟨rv336, sz336, sn336, uc336, rfl, g337, e337_sz336, e337_sn336, e337_uc336, e337_k0, e337_k1, e337_k2, e337_k3, p337_0, p337_1, p337_2⟩ := h337
        have f337 : Fr W_cp Mc Ma337 := Fr.t f333 (Fr.m g337 (by decide))
        refine rsl (cL_e rfl) ?_
        refine rsl (gtI_q (w := iI sn336) (ck_65 (hC.fr f337)) (e337_sn336)) ?_
        refine rsl (vC_e (ck_65 (hC.fr f337))) ?_
        refine RlI (y87 (by omega) (hC.fr f337) (hTk.fr (WL := W_cp) f337 (by decide)) (e337_k3) (e337_k0) (e337_k1) (e337_k2) (e337_sz336) (e337_sn336) (e337_uc336) (li_2) (rfl) (by omega)) fun v Ma339 h339 => ?_
        obtain ⟨rv338, sz338, sn338, uc338, rfl, g339, e339_sz338, e339_sn338, e339_uc338, e339_k0, e339_k1, e339_k2, e339_k3, p339_0, p339_1, p339_2, p339_3⟩ := h339
        have f339 : Fr W_cp Mc Ma339 := Fr.t f337 (Fr.m g339 (by decide))
        refine rsl (cI_e rfl) ?_
        refine rsl (vC_e (ck_65 (hC.fr f339))) ?_
        refine RlV (y75 (by omega) (hC.fr f339) (hTk.fr (WL := W_cp) f339 (by decide)) (e339_k3) (e339_k0) (e339_k1) (e339_k2) (e339_sz338) (e339_sn338) (e339_uc338)  (by omega)) fun v Ma341 h341 => ?_
        obtain ⟨sz340, sn340, uc340, g341, e341_sz340, e341_sn340, e341_uc340, e341_k0, e341_k1, e341_k2, e341_k3, p341_0, p341_1, p341_2⟩ := h341
        have f341 : Fr W_cp Mc Ma341 := Fr.t f339 (Fr.m g341 (by decide))
        refine rsl (cV_e rfl) ?_
        refine rsl (vC_e (ck_65 (hC.fr f341))) ?_
        refine RlV (y89 (by omega) (hC.fr f341) (hTk.fr (WL := W_cp) f341 (by decide)) (e341_k3) (e341_k0) (e341_k1) (e341_k2) (e341_sz340) (e341_sn340) (e341_uc340) (hv0) (by omega)) fun v Ma343 h343 => ?_
        obtain ⟨sz342, sn342, uc342, g343, e343_sz342, e343_sn342, e343_uc342, e343_k0, e343_k1, e343_k2, e343_k3, p343_0, p343_1, p343_2⟩ := h343
        have f343 : Fr W_cp Mc Ma343 := Fr.t f341 (Fr.m g343 (by decide))
        refine rsl (cV_e rfl) ?_
        refine rsl (ptI_q (z := sn328) (ck_65 (hC.fr f343)) (rfl)) ?_
        refine rsl (gtP_q (w := some 73) (ck_65 (hC.fr f343).sI) (cf_65_6 (hC.fr f343).sI)) ?_
        refine rsl (gtI_q (w := iI sz342) (ck_65 (hC.fr f343).sI) ((sI_nej (by decide)).trans (e343_sz342))) ?_
        refine rsl (asI_q (n := 4096) (z := rv325) (y := sz342) (ck_73 (hC.fr f343).sI) (rfl) (by omega) (rfl)) ?_
        refine rsr (vC_e (rk_160 (hR.fr FR13))) ?_
        refine RrI (x196_s (by omega) (hR.fr FR13) (u4113) (u4213) (u4313) (u5113) (u5313) (u4813) (u4913) (li_27) (li_0) (by omega)) fun v Ma345 h345 => ?_
        obtain ⟨rv344, em344, rfl, g345, e345_em344, e345_k0, e345_k1, e345_k2, e345_k3, e345_k4, p345_0, p345_1⟩ := h345
        have f345 : Fr W_rp Mr Ma345 := Fr.t FR13 (Fr.m g345 (by decide))
        refine rsr (cI_e rfl) ?_
        refine rsr (vC_e (rk_160 (hR.fr f345))) ?_
        refine RrI (x196_s (by omega) (hR.fr f345) (e345_k0) (e345_k1) (e345_em344) (e345_k2) (e345_k3) (e345_k4) ((g345.i _ _ (by decide)).trans (u4913)) (li_25) (li_0) (by omega)) fun v Ma347 h347 => ?_
        obtain ⟨rv346, em346, rfl, g347, e347_em346, e347_k0, e347_k1, e347_k2, e347_k3, e347_k4, p347_0, p347_1⟩ := h347
        have f347 : Fr W_rp Mr Ma347 := Fr.t f345 (Fr.m g347 (by decide))
        refine rsr (cI_e rfl) ?_
        refine rsr (gtP_q (w := some 196) (rk_160 (hR.fr f347)) (rf_45 (hR.fr f347))) ?_
        refine rsr (gtI_q (w := iI em346) (rk_160 (hR.fr f347)) (e347_em346)) ?_
        refine rsr (asI_q (n := 4000) (z := e) (y := em346) (rk_196 (hR.fr f347)) (congrArg iI p10_0) (by omega) (rfl)) ?_
        refine rsr (vC_e (rk_160 (hR.fr f347).sI)) ?_
        refine RrI (x195_s (by omega) (hR.fr f347).sI ((sI_ne (by decide)).trans (e347_k0)) ((sI_ne (by decide)).trans (e347_k1)) ((sI_ne (by decide)).trans (e347_em346)) ((sI_ne (by decide)).trans (e347_k2)) ((sI_ne (by decide)).trans (e347_k3)) ((sI_ne (by decide)).trans (e347_k4)) ((sI_ne (by decide)).trans ((g347.i _ _ (by decide)).trans ((g345.i _ _ (by decide)).trans (u4913)))) (li_424) (by omega)) fun v Ma349 h349 => ?_
        obtain ⟨rv348, em348, rfl, g349, e349_em348, e349_k0, e349_k1, e349_k2, e349_k3, e349_k4, p349_0, p349_1⟩ := h349
        have f349 : Fr W_rp Mr Ma349 := Fr.t (Fr.sI (inW_c (by decide) _) f347) (Fr.m g349 (by decide))
        refine rsr (cI_e rfl) ?_
        refine rsr (vC_e (rk_160 (hR.fr f349))) ?_
        refine RrI (x198_s (by omega) (hR.fr f349) (e349_k0) (e349_k1) (e349_em348) (e349_k2) (e349_k3) (e349_k4) ((g349.i _ _ (by decide)).trans ((sI_ne (by decide)).trans ((g347.i _ _ (by decide)).trans ((g345.i _ _ (by decide)).trans (u4913)))))  (by omega)) fun v Ma351 h351 => ?_
        obtain ⟨rv350, em350, rfl, g351, e351_em350, e351_k0, e351_k1, e351_k2, e351_k3, e351_k4, p351_0, p351_1⟩ := h351
        have f351 : Fr W_rp Mr Ma351 := Fr.t f349 (Fr.m g351 (by decide))
        refine rsr (cI_e rfl) ?_
        refine rsr (jn_v) ?_
        refine rsr (if_pos (eqI_p (rfl) (li_0) (by omega))) ?_
        refine rsr (jv_e) ?_
        exact Rs.ok (Or.inr ⟨F13, P13, (Fr.sI (inW_c (by decide) _) (Fr.sI (by decide) f343)), f351, ⟨ti13, sz342, sn328, uc342, (sI_ne (by decide)).trans ((sI_nej (by decide)).trans (e343_k0)), (sI_ne (by decide)).trans ((sI_nej (by decide)).trans (e343_k1)), (sI_ne (by decide)).trans ((sI_nej (by decide)).trans (e343_k2)), (sI_ne (by decide)).trans ((sI_nej (by decide)).trans (e343_k3)), (sI_ne (by decide)).trans ((sI_nej (by decide)).trans (e343_sz342)), (sI_ne (by decide)).trans (sI_eq), (sI_ne (by decide)).trans ((sI_nej (by decide)).trans (e343_uc342)), by omega⟩, ⟨em350, rn13, ru13, rm13, rt13, e351_k0, e351_k1, e351_em350, e351_k2, e351_k3, e351_k4, (g351.i _ _ (by decide)).trans ((g349.i _ _ (by decide)).trans ((sI_ne (by decide)).trans ((g347.i _ _ (by decide)).trans ((g345.i _ _ (by decide)).trans (u4913))))), by omega⟩⟩)
      · refine rsl (if_neg (lsI_n (rfl) (li_10) (by omega))) ?_
        refine rsl (jv_e) ?_
        refine rsl (vC_e (ck_65 (hC.fr f333))) ?_
        refine RlL (y66 (by omega) (hC.fr f333) (hTk.fr (WL := W_cp) f333 (by decide)) (e333_k3) (e333_k0) (e333_k1) (e333_k2) (e333_sz332) (e333_sn332) (e333_uc332) (li_0) (li_1) (by omega)) fun v Ma353 h353 => ?_
        obtain ⟨rv352, sz352, sn352, uc352, rfl, g353, e353_sz352, e353_sn352, e353_uc352, e353_k0, e353_k1, e353_k2, e353_k3, p353_0, p353_1, p353_2⟩ := h353
        have f353 : Fr W_cp Mc Ma353 := Fr.t f333 (Fr.m g353 (by decide))
        refine rsl (cL_e rfl) ?_
        refine rsl (gtI_q (w := iI sn352) (ck_65 (hC.fr f353)) (e353_sn352)) ?_
        refine rsl (vC_e (ck_65 (hC.fr f353))) ?_
        refine RlI (y87 (by omega) (hC.fr f353) (hTk.fr (WL := W_cp) f353 (by decide)) (e353_k3) (e353_k0) (e353_k1) (e353_k2) (e353_sz352) (e353_sn352) (e353_uc352) (li_2) (rfl) (by omega)) fun v Ma355 h355 => ?_
        obtain ⟨rv354, sz354, sn354, uc354, rfl, g355, e355_sz354, e355_sn354, e355_uc354, e355_k0, e355_k1, e355_k2, e355_k3, p355_0, p355_1, p355_2, p355_3⟩ := h355
        have f355 : Fr W_cp Mc Ma355 := Fr.t f353 (Fr.m g355 (by decide))
        refine rsl (cI_e rfl) ?_
        refine rsl (vC_e (ck_65 (hC.fr f355))) ?_
        refine RlV (y75 (by omega) (hC.fr f355) (hTk.fr (WL := W_cp) f355 (by decide)) (e355_k3) (e355_k0) (e355_k1) (e355_k2) (e355_sz354) (e355_sn354) (e355_uc354)  (by omega)) fun v Ma357 h357 => ?_
        obtain ⟨sz356, sn356, uc356, g357, e357_sz356, e357_sn356, e357_uc356, e357_k0, e357_k1, e357_k2, e357_k3, p357_0, p357_1, p357_2⟩ := h357
        have f357 : Fr W_cp Mc Ma357 := Fr.t f355 (Fr.m g357 (by decide))
        refine rsl (cV_e rfl) ?_
        refine rsl (vC_e (ck_65 (hC.fr f357))) ?_
        refine RlV (y89 (by omega) (hC.fr f357) (hTk.fr (WL := W_cp) f357 (by decide)) (e357_k3) (e357_k0) (e357_k1) (e357_k2) (e357_sz356) (e357_sn356) (e357_uc356) (hv0) (by omega)) fun v Ma359 h359 => ?_
        obtain ⟨sz358, sn358, uc358, g359, e359_sz358, e359_sn358, e359_uc358, e359_k0, e359_k1, e359_k2, e359_k3, p359_0, p359_1, p359_2⟩ := h359
        have f359 : Fr W_cp Mc Ma359 := Fr.t f357 (Fr.m g359 (by decide))
        refine rsl (cV_e rfl) ?_
        refine rsl (ptI_q (z := sn328) (ck_65 (hC.fr f359)) (rfl)) ?_
        refine rsl (gtP_q (w := some 73) (ck_65 (hC.fr f359).sI) (cf_65_6 (hC.fr f359).sI)) ?_
        refine rsl (gtI_q (w := iI sz358) (ck_65 (hC.fr f359).sI) ((sI_nej (by decide)).trans (e359_sz358))) ?_
        refine rsl (asI_q (n := 4096) (z := rv325) (y := sz358) (ck_73 (hC.fr f359).sI) (rfl) (by omega) (rfl)) ?_
        refine rsr (vC_e (rk_160 (hR.fr FR13))) ?_
        refine RrI (x196_s (by omega) (hR.fr FR13) (u4113) (u4213) (u4313) (u5113) (u5313) (u4813) (u4913) (li_27) (li_0) (by omega)) fun v Ma361 h361 => ?_
        obtain ⟨rv360, em360, rfl, g361, e361_em360, e361_k0, e361_k1, e361_k2, e361_k3, e361_k4, p361_0, p361_1⟩ := h361
        have f361 : Fr W_rp Mr Ma361 := Fr.t FR13 (Fr.m g361 (by decide))
        refine rsr (cI_e rfl) ?_
        refine rsr (vC_e (rk_160 (hR.fr f361))) ?_
        refine RrI (x196_s (by omega) (hR.fr f361) (e361_k0) (e361_k1) (e361_em360) (e361_k2) (e361_k3) (e361_k4) ((g361.i _ _ (by decide)).trans (u4913)) (li_25) (li_0) (by omega)) fun v Ma363 h363 => ?_
        obtain ⟨rv362, em362, rfl, g363, e363_em362, e363_k0, e363_k1, e363_k2, e363_k3, e363_k4, p363_0, p363_1⟩ := h363
        have f363 : Fr W_rp Mr Ma363 := Fr.t f361 (Fr.m g363 (by decide))
        refine rsr (cI_e rfl) ?_
        refine rsr (gtP_q (w := some 196) (rk_160 (hR.fr f363)) (rf_45 (hR.fr f363))) ?_
        refine rsr (gtI_q (w := iI em362) (rk_160 (hR.fr f363)) (e363_em362)) ?_
        refine rsr (asI_q (n := 4000) (z := e) (y := em362) (rk_196 (hR.fr f363)) (congrArg iI p10_0) (by omega) (rfl)) ?_
        refine rsr (vC_e (rk_160 (hR.fr f363).sI)) ?_
        refine RrI (x195_s (by omega) (hR.fr f363).sI ((sI_ne (by decide)).trans (e363_k0)) ((sI_ne (by decide)).trans (e363_k1)) ((sI_ne (by decide)).trans (e363_em362)) ((sI_ne (by decide)).trans (e363_k2)) ((sI_ne (by decide)).trans (e363_k3)) ((sI_ne (by decide)).trans (e363_k4)) ((sI_ne (by decide)).trans ((g363.i _ _ (by decide)).trans ((g361.i _ _ (by decide)).trans (u4913)))) (li_424) (by omega)) fun v Ma365 h365 => ?_
        obtain ⟨rv364, em364, rfl, g365, e365_em364, e365_k0, e365_k1, e365_k2, e365_k3, e365_k4, p365_0, p365_1⟩ := h365
        have f365 : Fr W_rp Mr Ma365 := Fr.t (Fr.sI (inW_c (by decide) _) f363) (Fr.m g365 (by decide))
        refine rsr (cI_e rfl) ?_
        refine rsr (vC_e (rk_160 (hR.fr f365))) ?_
        refine RrI (x198_s (by omega) (hR.fr f365) (e365_k0) (e365_k1) (e365_em364) (e365_k2) (e365_k3) (e365_k4) ((g365.i _ _ (by decide)).trans ((sI_ne (by decide)).trans ((g363.i _ _ (by decide)).trans ((g361.i _ _ (by decide)).trans (u4913)))))  (by omega)) fun v Ma367 h367 => ?_
        obtain ⟨rv366, em366, rfl, g367, e367_em366, e367_k0, e367_k1, e367_k2, e367_k3, e367_k4, p367_0, p367_1⟩ := h367
        have f367 : Fr W_rp Mr Ma367 := Fr.t f365 (Fr.m g367 (by decide))
        refine rsr (cI_e rfl) ?_
        refine rsr (jn_v) ?_
        refine rsr (if_pos (eqI_p (rfl) (li_0) (by omega))) ?_
        refine rsr (jv_e) ?_
        exact Rs.ok (Or.inr ⟨F13, P13, (Fr.sI (inW_c (by decide) _) (Fr.sI (by decide) f359)), f367, ⟨ti13, sz358, sn328, uc358, (sI_ne (by decide)).trans ((sI_nej (by decide)).trans (e359_k0)), (sI_ne (by decide)).trans ((sI_nej (by decide)).trans (e359_k1)), (sI_ne (by decide)).trans ((sI_nej (by decide)).trans (e359_k2)), (sI_ne (by decide)).trans ((sI_nej (by decide)).trans (e359_k3)), (sI_ne (by decide)).trans ((sI_nej (by decide)).trans (e359_sz358)), (sI_ne (by decide)).trans (sI_eq), (sI_ne (by decide)).trans ((sI_nej (by decide)).trans (e359_uc358)), by omega⟩, ⟨em366, rn13, ru13, rm13, rt13, e367_k0, e367_k1, e367_em366, e367_k2, e367_k3, e367_k4, (g367.i _ _ (by decide)).trans ((g365.i _ _ (by decide)).trans ((sI_ne (by decide)).trans ((g363.i _ _ (by decide)).trans ((g361.i _ _ (by decide)).trans (u4913))))), by omega⟩⟩)
    · refine rsl (if_neg (lsI_n (rfl) (li_0) (by omega))) ?_
      refine rsl (jv_e) ?_
      refine rsl (gtI_q (w := iI sn332) (ck_65 (hC.fr f333)) (e333_sn332)) ?_
      refine rsl (jn_v) ?_
      by_cases c368 : sn332 < 10
      · refine rsl (if_pos (lsI_p (rfl) (li_10) (by omega))) ?_
        refine rsl (jv_e) ?_
        refine rsl (vC_e (ck_65 (hC.fr f333))) ?_
        refine RlL (y66 (by omega) (hC.fr f333) (hTk.fr (WL := W_cp) f333 (by decide)) (e333_k3) (e333_k0) (e333_k1) (e333_k2) (e333_sz332) (e333_sn332) (e333_uc332) (li_1) (li_0) (by omega)) fun v Ma370 h370 => ?_
        obtain ⟨rv369, sz369, sn369, uc369, rfl, g370, e370_sz369, e370_sn369, e370_uc369, e370_k0, e370_k1, e370_k2, e370_k3, p370_0, p370_1, p370_2⟩ := h370
        have f370 : Fr W_cp Mc Ma370 := Fr.t f333 (Fr.m g370 (by decide))
        refine rsl (cL_e rfl) ?_
        refine rsl (gtI_q (w := iI sn369) (ck_65 (hC.fr f370)) (e370_sn369)) ?_
        refine rsl (vC_e (ck_65 (hC.fr f370))) ?_
        refine RlI (y87 (by omega) (hC.fr f370) (hTk.fr (WL := W_cp) f370 (by decide)) (e370_k3) (e370_k0) (e370_k1) (e370_k2) (e370_sz369) (e370_sn369) (e370_uc369) (li_2) (rfl) (by omega)) fun v Ma372 h372 => ?_
        obtain ⟨rv371, sz371, sn371, uc371, rfl, g372, e372_sz371, e372_sn371, e372_uc371, e372_k0, e372_k1, e372_k2, e372_k3, p372_0, p372_1, p372_2, p372_3⟩ := h372
        have f372 : Fr W_cp Mc Ma372 := Fr.t f370 (Fr.m g372 (by decide))
        refine rsl (cI_e rfl) ?_
        refine rsl (vC_e (ck_65 (hC.fr f372))) ?_
        refine RlV (y75 (by omega) (hC.fr f372) (hTk.fr (WL := W_cp) f372 (by decide)) (e372_k3) (e372_k0) (e372_k1) (e372_k2) (e372_sz371) (e372_sn371) (e372_uc371)  (by omega)) fun v Ma374 h374 => ?_
        obtain ⟨sz373, sn373, uc373, g374, e374_sz373, e374_sn373, e374_uc373, e374_k0, e374_k1, e374_k2, e374_k3, p374_0, p374_1, p374_2⟩ := h374
        have f374 : Fr W_cp Mc Ma374 := Fr.t f372 (Fr.m g374 (by decide))
        refine rsl (cV_e rfl) ?_
        refine rsl (vC_e (ck_65 (hC.fr f374))) ?_
        refine RlV (y89 (by omega) (hC.fr f374) (hTk.fr (WL := W_cp) f374 (by decide)) (e374_k3) (e374_k0) (e374_k1) (e374_k2) (e374_sz373) (e374_sn373) (e374_uc373) (hv0) (by omega)) fun v Ma376 h376 => ?_
        obtain ⟨sz375, sn375, uc375, g376, e376_sz375, e376_sn375, e376_uc375, e376_k0, e376_k1, e376_k2, e376_k3, p376_0, p376_1, p376_2⟩ := h376
        have f376 : Fr W_cp Mc Ma376 := Fr.t f374 (Fr.m g376 (by decide))
        refine rsl (cV_e rfl) ?_
        refine rsl (ptI_q (z := sn328) (ck_65 (hC.fr f376)) (rfl)) ?_
        refine rsl (gtP_q (w := some 73) (ck_65 (hC.fr f376).sI) (cf_65_6 (hC.fr f376).sI)) ?_
        refine rsl (gtI_q (w := iI sz375) (ck_65 (hC.fr f376).sI) ((sI_nej (by decide)).trans (e376_sz375))) ?_
        refine rsl (asI_q (n := 4096) (z := rv325) (y := sz375) (ck_73 (hC.fr f376).sI) (rfl) (by omega) (rfl)) ?_
        refine rsr (vC_e (rk_160 (hR.fr FR13))) ?_
        refine RrI (x196_s (by omega) (hR.fr FR13) (u4113) (u4213) (u4313) (u5113) (u5313) (u4813) (u4913) (li_27) (li_0) (by omega)) fun v Ma378 h378 => ?_
        obtain ⟨rv377, em377, rfl, g378, e378_em377, e378_k0, e378_k1, e378_k2, e378_k3, e378_k4, p378_0, p378_1⟩ := h378
        have f378 : Fr W_rp Mr Ma378 := Fr.t FR13 (Fr.m g378 (by decide))
        refine rsr (cI_e rfl) ?_
        refine rsr (vC_e (rk_160 (hR.fr f378))) ?_
        refine RrI (x196_s (by omega) (hR.fr f378) (e378_k0) (e378_k1) (e378_em377) (e378_k2) (e378_k3) (e378_k4) ((g378.i _ _ (by decide)).trans (u4913)) (li_25) (li_0) (by omega)) fun v Ma380 h380 => ?_
        obtain ⟨rv379, em379, rfl, g380, e380_em379, e380_k0, e380_k1, e380_k2, e380_k3, e380_k4, p380_0, p380_1⟩ := h380
        have f380 : Fr W_rp Mr Ma380 := Fr.t f378 (Fr.m g380 (by decide))
        refine rsr (cI_e rfl) ?_
        refine rsr (gtP_q (w := some 196) (rk_160 (hR.fr f380)) (rf_45 (hR.fr f380))) ?_
        refine rsr (gtI_q (w := iI em379) (rk_160 (hR.fr f380)) (e380_em379)) ?_
        refine rsr (asI_q (n := 4000) (z := e) (y := em379) (rk_196 (hR.fr f380)) (congrArg iI p10_0) (by omega) (rfl)) ?_
        refine rsr (vC_e (rk_160 (hR.fr f380).sI)) ?_
        refine RrI (x195_s (by omega) (hR.fr f380).sI ((sI_ne (by decide)).trans (e380_k0)) ((sI_ne (by decide)).trans (e380_k1)) ((sI_ne (by decide)).trans (e380_em379)) ((sI_ne (by decide)).trans (e380_k2)) ((sI_ne (by decide)).trans (e380_k3)) ((sI_ne (by decide)).trans (e380_k4)) ((sI_ne (by decide)).trans ((g380.i _ _ (by decide)).trans ((g378.i _ _ (by decide)).trans (u4913)))) (li_424) (by omega)) fun v Ma382 h382 => ?_
        obtain ⟨rv381, em381, rfl, g382, e382_em381, e382_k0, e382_k1, e382_k2, e382_k3, e382_k4, p382_0, p382_1⟩ := h382
        have f382 : Fr W_rp Mr Ma382 := Fr.t (Fr.sI (inW_c (by decide) _) f380) (Fr.m g382 (by decide))
        refine rsr (cI_e rfl) ?_
        refine rsr (vC_e (rk_160 (hR.fr f382))) ?_
        refine RrI (x198_s (by omega) (hR.fr f382) (e382_k0) (e382_k1) (e382_em381) (e382_k2) (e382_k3) (e382_k4) ((g382.i _ _ (by decide)).trans ((sI_ne (by decide)).trans ((g380.i _ _ (by decide)).trans ((g378.i _ _ (by decide)).trans (u4913)))))  (by omega)) fun v Ma384 h384 => ?_
        obtain ⟨rv383, em383, rfl, g384, e384_em383, e384_k0, e384_k1, e384_k2, e384_k3, e384_k4, p384_0, p384_1⟩ := h384
        have f384 : Fr W_rp Mr Ma384 := Fr.t f382 (Fr.m g384 (by decide))
        refine rsr (cI_e rfl) ?_
        refine rsr (jn_v) ?_
        refine rsr (if_pos (eqI_p (rfl) (li_0) (by omega))) ?_
        refine rsr (jv_e) ?_
        exact Rs.ok (Or.inr ⟨F13, P13, (Fr.sI (inW_c (by decide) _) (Fr.sI (by decide) f376)), f384, ⟨ti13, sz375, sn328, uc375, (sI_ne (by decide)).trans ((sI_nej (by decide)).trans (e376_k0)), (sI_ne (by decide)).trans ((sI_nej (by decide)).trans (e376_k1)), (sI_ne (by decide)).trans ((sI_nej (by decide)).trans (e376_k2)), (sI_ne (by decide)).trans ((sI_nej (by decide)).trans (e376_k3)), (sI_ne (by decide)).trans ((sI_nej (by decide)).trans (e376_sz375)), (sI_ne (by decide)).trans (sI_eq), (sI_ne (by decide)).trans ((sI_nej (by decide)).trans (e376_uc375)), by omega⟩, ⟨em383, rn13, ru13, rm13, rt13, e384_k0, e384_k1, e384_em383, e384_k2, e384_k3, e384_k4, (g384.i _ _ (by decide)).trans ((g382.i _ _ (by decide)).trans ((sI_ne (by decide)).trans ((g380.i _ _ (by decide)).trans ((g378.i _ _ (by decide)).trans (u4913))))), by omega⟩⟩)
      · refine rsl (if_neg (lsI_n (rfl) (li_10) (by omega))) ?_
        refine rsl (jv_e) ?_
        refine rsl (vC_e (ck_65 (hC.fr f333))) ?_
        refine RlL (y66 (by omega) (hC.fr f333) (hTk.fr (WL := W_cp) f333 (by decide)) (e333_k3) (e333_k0) (e333_k1) (e333_k2) (e333_sz332) (e333_sn332) (e333_uc332) (li_1) (li_1) (by omega)) fun v Ma386 h386 => ?_
        obtain ⟨rv385, sz385, sn385, uc385, rfl, g386, e386_sz385, e386_sn385, e386_uc385, e386_k0, e386_k1, e386_k2, e386_k3, p386_0, p386_1, p386_2⟩ := h386
        have f386 : Fr W_cp Mc Ma386 := Fr.t f333 (Fr.m g386 (by decide))
        refine rsl (cL_e rfl) ?_
        refine rsl (gtI_q (w := iI sn385) (ck_65 (hC.fr f386)) (e386_sn385)) ?_
        refine rsl (vC_e (ck_65 (hC.fr f386))) ?_
        refine RlI (y87 (by omega) (hC.fr f386) (hTk.fr (WL := W_cp) f386 (by decide)) (e386_k3) (e386_k0) (e386_k1) (e386_k2) (e386_sz385) (e386_sn385) (e386_uc385) (li_2) (rfl) (by omega)) fun v Ma388 h388 => ?_
        obtain ⟨rv387, sz387, sn387, uc387, rfl, g388, e388_sz387, e388_sn387, e388_uc387, e388_k0, e388_k1, e388_k2, e388_k3, p388_0, p388_1, p388_2, p388_3⟩ := h388
        have f388 : Fr W_cp Mc Ma388 := Fr.t f386 (Fr.m g388 (by decide))
        refine rsl (cI_e rfl) ?_
        refine rsl (vC_e (ck_65 (hC.fr f388))) ?_
        refine RlV (y75 (by omega) (hC.fr f388) (hTk.fr (WL := W_cp) f388 (by decide)) (e388_k3) (e388_k0) (e388_k1) (e388_k2) (e388_sz387) (e388_sn387) (e388_uc387)  (by omega)) fun v Ma390 h390 => ?_
        obtain ⟨sz389, sn389, uc389, g390, e390_sz389, e390_sn389, e390_uc389, e390_k0, e390_k1, e390_k2, e390_k3, p390_0, p390_1, p390_2⟩ := h390
        have f390 : Fr W_cp Mc Ma390 := Fr.t f388 (Fr.m g390 (by decide))
        refine rsl (cV_e rfl) ?_
        refine rsl (vC_e (ck_65 (hC.fr f390))) ?_
        refine RlV (y89 (by omega) (hC.fr f390) (hTk.fr (WL := W_cp) f390 (by decide)) (e390_k3) (e390_k0) (e390_k1) (e390_k2) (e390_sz389) (e390_sn389) (e390_uc389) (hv0) (by omega)) fun v Ma392 h392 => ?_
        obtain ⟨sz391, sn391, uc391, g392, e392_sz391, e392_sn391, e392_uc391, e392_k0, e392_k1, e392_k2, e392_k3, p392_0, p392_1, p392_2⟩ := h392
        have f392 : Fr W_cp Mc Ma392 := Fr.t f390 (Fr.m g392 (by decide))
        refine rsl (cV_e rfl) ?_
        refine rsl (ptI_q (z := sn328) (ck_65 (hC.fr f392)) (rfl)) ?_
        refine rsl (gtP_q (w := some 73) (ck_65 (hC.fr f392).sI) (cf_65_6 (hC.fr f392).sI)) ?_
        refine rsl (gtI_q (w := iI sz391) (ck_65 (hC.fr f392).sI) ((sI_nej (by decide)).trans (e392_sz391))) ?_
        refine rsl (asI_q (n := 4096) (z := rv325) (y := sz391) (ck_73 (hC.fr f392).sI) (rfl) (by omega) (rfl)) ?_
        refine rsr (vC_e (rk_160 (hR.fr FR13))) ?_
        refine RrI (x196_s (by omega) (hR.fr FR13) (u4113) (u4213) (u4313) (u5113) (u5313) (u4813) (u4913) (li_27) (li_0) (by omega)) fun v Ma394 h394 => ?_
        obtain ⟨rv393, em393, rfl, g394, e394_em393, e394_k0, e394_k1, e394_k2, e394_k3, e394_k4, p394_0, p394_1⟩ := h394
        have f394 : Fr W_rp Mr Ma394 := Fr.t FR13 (Fr.m g394 (by decide))
        refine rsr (cI_e rfl) ?_
        refine rsr (vC_e (rk_160 (hR.fr f394))) ?_
        refine RrI (x196_s (by omega) (hR.fr f394) (e394_k0) (e394_k1) (e394_em393) (e394_k2) (e394_k3) (e394_k4) ((g394.i _ _ (by decide)).trans (u4913)) (li_25) (li_0) (by omega)) fun v Ma396 h396 => ?_
        obtain ⟨rv395, em395, rfl, g396, e396_em395, e396_k0, e396_k1, e396_k2, e396_k3, e396_k4, p396_0, p396_1⟩ := h396
        have f396 : Fr W_rp Mr Ma396 := Fr.t f394 (Fr.m g396 (by decide))
        refine rsr (cI_e rfl) ?_
        refine rsr (gtP_q (w := some 196) (rk_160 (hR.fr f396)) (rf_45 (hR.fr f396))) ?_
        refine rsr (gtI_q (w := iI em395) (rk_160 (hR.fr f396)) (e396_em395)) ?_
        refine rsr (asI_q (n := 4000) (z := e) (y := em395) (rk_196 (hR.fr f396)) (congrArg iI p10_0) (by omega) (rfl)) ?_
        refine rsr (vC_e (rk_160 (hR.fr f396).sI)) ?_
        refine RrI (x195_s (by omega) (hR.fr f396).sI ((sI_ne (by decide)).trans (e396_k0)) ((sI_ne (by decide)).trans (e396_k1)) ((sI_ne (by decide)).trans (e396_em395)) ((sI_ne (by decide)).trans (e396_k2)) ((sI_ne (by decide)).trans (e396_k3)) ((sI_ne (by decide)).trans (e396_k4)) ((sI_ne (by decide)).trans ((g396.i _ _ (by decide)).trans ((g394.i _ _ (by decide)).trans (u4913)))) (li_424) (by omega)) fun v Ma398 h398 => ?_
        obtain ⟨rv397, em397, rfl, g398, e398_em397, e398_k0, e398_k1, e398_k2, e398_k3, e398_k4, p398_0, p398_1⟩ := h398
        have f398 : Fr W_rp Mr Ma398 := Fr.t (Fr.sI (inW_c (by decide) _) f396) (Fr.m g398 (by decide))
        refine rsr (cI_e rfl) ?_
        refine rsr (vC_e (rk_160 (hR.fr f398))) ?_
        refine RrI (x198_s (by omega) (hR.fr f398) (e398_k0) (e398_k1) (e398_em397) (e398_k2) (e398_k3) (e398_k4) ((g398.i _ _ (by decide)).trans ((sI_ne (by decide)).trans ((g396.i _ _ (by decide)).trans ((g394.i _ _ (by decide)).trans (u4913)))))  (by omega)) fun v Ma400 h400 => ?_
        obtain ⟨rv399, em399, rfl, g400, e400_em399, e400_k0, e400_k1, e400_k2, e400_k3, e400_k4, p400_0, p400_1⟩ := h400
        have f400 : Fr W_rp Mr Ma400 := Fr.t f398 (Fr.m g400 (by decide))
        refine rsr (cI_e rfl) ?_
        refine rsr (jn_v) ?_
        refine rsr (if_pos (eqI_p (rfl) (li_0) (by omega))) ?_
        refine rsr (jv_e) ?_
        exact Rs.ok (Or.inr ⟨F13, P13, (Fr.sI (inW_c (by decide) _) (Fr.sI (by decide) f392)), f400, ⟨ti13, sz391, sn328, uc391, (sI_ne (by decide)).trans ((sI_nej (by decide)).trans (e392_k0)), (sI_ne (by decide)).trans ((sI_nej (by decide)).trans (e392_k1)), (sI_ne (by decide)).trans ((sI_nej (by decide)).trans (e392_k2)), (sI_ne (by decide)).trans ((sI_nej (by decide)).trans (e392_k3)), (sI_ne (by decide)).trans ((sI_nej (by decide)).trans (e392_sz391)), (sI_ne (by decide)).trans (sI_eq), (sI_ne (by decide)).trans ((sI_nej (by decide)).trans (e392_uc391)), by omega⟩, ⟨em399, rn13, ru13, rm13, rt13, e400_k0, e400_k1, e400_em399, e400_k2, e400_k3, e400_k4, (g400.i _ _ (by decide)).trans ((g398.i _ _ (by decide)).trans ((sI_ne (by decide)).trans ((g396.i _ _ (by decide)).trans ((g394.i _ _ (by decide)).trans (u4913))))), by omega⟩⟩)
