theorem p_st216 {D : Nat} {dp : Int} (hD : 20 ≤ D) (hE : Pair D 99 [0] 211 14 dp) (hB : PairB D dp) : PairT 216 93 [] (D + 10) dp := by
  intro d d2 hd hd2 T n m kd pl E tx ua ut mu Mc Mr G U Hl X i e s u uc v0 hS hx hsc hsr hrw hbd hK hv0
  obtain ⟨d, rfl⟩ : ∃ e, d = e + 1 := ⟨d - 1, by omega⟩
  obtain ⟨d2, rfl⟩ : ∃ e, d2 = e + 1 := ⟨d2 - 1, by omega⟩
  show Rs (runX (d + 1) 93 [va_rf (some 65), .int v0] Mc) (runX (d2 + 1) 214 [va_rf (some 160)] Mr) _
  rw [r93]; unfold b93; rw [aR_e, aI_e, aZ_e]; unfold c93; rw [r214]; unfold b214; rw [aR_e, aZ_e]; unfold c214
  have hCx := hx
  obtain ⟨hC, hR, hTk, hT, hW, ⟨hu1, hu2, hu3, hu4⟩, h49, h48, ⟨hb1, hb2, hb3, hb4⟩⟩ := hx
  obtain ⟨bb_0, bb_1, bb_2, bb_3, bb_4, bb_5, bb_6, bb_7, bb_8, bb_9, bb_10, bb_11⟩ := hbd
  have kua : KU uc Mc Mc := KU.r
  obtain ⟨qa_12, qa_13, qa_10, qa_9, qa_16, qa_19⟩ := hsc
  obtain ⟨wa_36, wa_37, wa_38, wa_41, wa_43, wa_51, wa_53, wa_50, wa_n⟩ := hsr
  obtain ⟨caa, raa, lca, lra, cua, rua⟩ := hrw
  have hk1 := (hS.ok i (by omega) (by omega)).r
  have ty2 := (Tye.r (G := G) (a := e) (s := s))
  have du3 := (DU.r (ut := ut) (mu := mu) (c := uc) (G := G) (U := U) (X := X) (a := e) (u := u))
  refine rsl (vC_e (ck_65 hC)) ?_
  have hm4 : i + 1 < m := hS.more i (by omega) (by omega) (by omega)
  refine rsl (cV_e (a63q (by omega) hS hC (hTk.fr (WL := W_cp) Fr.r (by decide)) (qa_12) (qa_13) (qa_10) (i2 := (i + 1)) (by omega) (by omega))) ?_
  have hk5 := (hS.ok (i + 1) (by omega) (by omega)).r
  refine rsl (vC_e (ck_65 hC.sI.sI)) ?_
  refine rsr (gtI_q (w := iI ((kr (kd i)))) (rk_160 hR) (wa_36)) ?_
  refine rsr (jn_v) ?_
  refine rsr (swI_c) ?_
  refine rsr (if_neg (krI_n (k := 215) (rfl) (li_416) (hS.ok i (by omega) (by omega)) (by unfold KdOK sgk; omega) (by decide +kernel) (by omega) (by omega))) ?_
  refine rsr (swI_c) ?_
  refine rsr (if_pos (krI_p (k := 216) (rfl) (li_417) (by omega) (by decide +kernel))) ?_
  refine rsr (vC_e (rk_160 hR)) ?_
  refine Rs_cVr ?_ (fun v M w N h => rs1 jv_e (Rt.ok h))
  obtain ⟨d2, rfl⟩ : ∃ e, d2 = e + 1 := ⟨d2 - 1, by omega⟩
  rw [r215]; unfold b215; rw [aR_e, aZ_e]; unfold c215
  refine rsr (vC_e (rk_160 hR)) ?_
  refine RrV (nx_q (by omega) hS hR (hT.fr (W := W_rx) Fr.r (by decide) (by decide)) (fun i a b => (Fr.lc (W := W_rx) Fr.r _ (by decide) _).trans (hW i a b)) (i := i) (i2 := (i + 1)) (wa_41) (wa_38) (by omega) (by omega) (by omega)) fun v Ma6 h6 => ?_
  obtain ⟨g6, e6_k0, e6_k1, e6_k2, p6_0⟩ := h6
  have f6 : Fr W_rx Mr Ma6 := Fr.t Fr.r (Fr.m g6 (by decide))
  refine rsr (cV_e rfl) ?_
  refine rsr (vC_e (rk_160 (hR.fr f6))) ?_
  refine Rb_VV (hE _ _ (by omega) (by omega) T n m kd pl E tx ua ut mu _ _ G U Hl X (i + 1) e s u uc _ hS (hCx.fr (Fr.sI (by decide) (Fr.sI (by decide) Fr.r)) f6) ⟨(sI_nej (by decide)).trans (sI_eq), sI_eq, (sI_nej (by decide)).trans ((sI_nej (by decide)).trans (qa_10)), (sI_nej (by decide)).trans ((sI_nej (by decide)).trans (qa_9)), (sI_nej (by decide)).trans ((sI_nej (by decide)).trans (qa_16)), (sI_nej (by decide)).trans ((sI_nej (by decide)).trans (qa_19))⟩ ⟨e6_k0, e6_k1, e6_k2, (g6.i _ _ (by decide)).trans (wa_41), (g6.i _ _ (by decide)).trans (wa_43), (g6.i _ _ (by decide)).trans (wa_51), (g6.i _ _ (by decide)).trans (wa_53), (g6.i _ _ (by decide)).trans (wa_50), p6_0⟩ ⟨(caa.fr (W := W_c0) (Fr.sI (by decide) (Fr.sI (by decide) Fr.r)) (by decide)), (raa.fr g6 (by decide)), (lca.fr (W := W_c0) (Fr.sI (by decide) (Fr.sI (by decide) Fr.r)) (by decide)), (lra.fr g6 (by decide)), (cua.fr (W := W_c0) (Fr.sI (by decide) (Fr.sI (by decide) Fr.r)) (by decide)), (rua.fr g6 (by decide))⟩ ⟨by omega, by omega, by omega, by omega, by omega, by omega, by omega, by omega, by omega, by omega, by omega, by omega⟩ (vs2 (li_0) (hv0))) fun v Mx7 w Nx7 hx7 => ?_
  rcases hx7 with ⟨i7, e7, u7, uc7, G7, U7, X7, fl7, fr7, sc7, sr7, rw7, bd7, mv7, ag7, au7, ax7, tp7, dp7, kv7⟩ | ⟨F7, P7, fl7, fr7, tc7, tr7⟩
  ·
    have FL7 : Fr W_cp Mc Mx7 := Fr.t (Fr.sI (by decide) (Fr.sI (by decide) Fr.r)) fl7
    have FR7 : Fr W_rx Mr Nx7 := Fr.t f6 fr7
    obtain ⟨bb7_0, bb7_1, bb7_2, bb7_3, bb7_4, bb7_5, bb7_6, bb7_7, bb7_8, bb7_9, bb7_10, bb7_11⟩ := bd7
    obtain ⟨q7_12, q7_13, q7_10, q7_9, q7_16, q7_19⟩ := sc7
    obtain ⟨w7_36, w7_37, w7_38, w7_41, w7_43, w7_51, w7_53, w7_50, w7_n⟩ := sr7
    obtain ⟨ca7, ra7, lc7, lr7, cu7, ru7⟩ := rw7
    have hk8 := (hS.ok i7 (by omega) (by omega)).r
    have ku7 := KU.t (kua.fr (W := W_c0) (Fr.sI (by decide) (Fr.sI (by decide) Fr.r)) (by decide)) kv7 (by omega)
    have ty9 := Tye.t (d3 := 1) ty2 ag7 tp7 (by omega)
    have du10 := DU.t du3 ag7 au7 ax7 dp7 (by omega)
    refine rsl (cV_e rfl) ?_
    refine rsr (cV_e rfl) ?_
    refine rsl (vC_e (ck_65 (hC.fr FL7))) ?_
    have du12 := DU.em (q := (e7 + 1)) (o := 24) (n := 0) (p := -2) (l := [0]) du10 (by omega) (by omega)
    refine RlI (a87q (by omega) (hC.fr FL7) (q7_9) (li_24) (li_0) (q := (e7 + 1)) (by omega) (by omega)) fun v Ma13 h13 => ?_
    obtain ⟨r11, rfl, g13, e13_k0, p13_0, p13_1⟩ := h13
    have f13 : Fr W_cp Mc Ma13 := Fr.t FL7 (Fr.m g13 (by decide))
    refine rsl (cI_e rfl) ?_
    refine rsl (vC_e (ck_65 (hC.fr f13))) ?_
    refine rsr (vC_e (rk_160 (hR.fr FR7))) ?_
    refine RrI (a196q (by omega) (hR.fr FR7) (w7_43) ((FR7.i _ _ (by decide)).trans h49) ((FR7.i _ _ (by decide)).trans h48) (li_24) (li_0) (q := (e7 + 1)) (by omega) (by omega)) fun v Ma15 h15 => ?_
    obtain ⟨r14, rfl, g15, e15_k0, p15_0, p15_1⟩ := h15
    have f15 : Fr W_rx Mr Ma15 := Fr.t FR7 (Fr.m g15 (by decide))
    refine rsr (cI_e rfl) ?_
    refine rsr (vC_e (rk_160 (hR.fr f15))) ?_
    refine Rb_VV (hB _ _ (by omega) (by omega) T n m kd pl E tx ua ut mu _ _ (pu G7 e7 [24, 0, -2, 0, ut, mu, 0]) U7 Hl X7 i7 (e7 + 1) s u7 uc7 _ hS (hCx.fr f13 f15) ⟨(g13.i _ _ (by decide)).trans (q7_12), (g13.i _ _ (by decide)).trans (q7_13), (g13.i _ _ (by decide)).trans (q7_10), e13_k0, (g13.i _ _ (by decide)).trans (q7_16), (g13.i _ _ (by decide)).trans (q7_19)⟩ ⟨(g15.i _ _ (by decide)).trans (w7_36), (g15.i _ _ (by decide)).trans (w7_37), (g15.i _ _ (by decide)).trans (w7_38), (g15.i _ _ (by decide)).trans (w7_41), e15_k0, (g15.i _ _ (by decide)).trans (w7_51), (g15.i _ _ (by decide)).trans (w7_53), (g15.i _ _ (by decide)).trans (w7_50), (w7_n.fr g15 (by decide) (by decide))⟩ ⟨(CA1.em (q := (e7 + 1)) ca7 (by omega) p13_1 (by omega)), (RA1.em (q := (e7 + 1)) ra7 (by omega) p15_1 (by omega)), (lc7.fr g13 (by decide)), (lr7.fr g15 (by decide)), (cu7.fr g13 (by decide)), (ru7.fr g15 (by decide))⟩ ⟨by omega, by omega, by omega, by omega, by omega, by omega, by omega, by omega, by omega, by omega, by omega, by omega⟩ (hv0)) fun v Mx16 w Nx16 hx16 => ?_
    rcases hx16 with ⟨i16, lt16, e16, u16, uc16, G16, U16, X16, fl16, fr16, sc16, sr16, rw16, bd16, mv16, ag16, au16, ax16, tp16, dp16, kv16, ⟨sl16, sh16⟩⟩ | ⟨F16, P16, fl16, fr16, tc16, tr16⟩
    ·
      have FL16 : Fr W_cp Mc Mx16 := Fr.t f13 fl16
      have FR16 : Fr W_rx Mr Nx16 := Fr.t f15 fr16
      obtain ⟨bb16_0, bb16_1, bb16_2, bb16_3, bb16_4, bb16_5, bb16_6, bb16_7, bb16_8, bb16_9, bb16_10, bb16_11⟩ := bd16
      obtain ⟨q16_12, q16_13, q16_10, q16_9, q16_16, q16_19⟩ := sc16
      obtain ⟨w16_36, w16_37, w16_38, w16_41, w16_43, w16_51, w16_53, w16_50, w16_n⟩ := sr16
      obtain ⟨ca16, ra16, lc16, lr16, cu16, ru16⟩ := rw16
      have hk17 := (hS.ok i16 (by omega) (by omega)).r
      have ku16 := KU.t (ku7.fr g13 (by decide)) kv16 (by omega)
      have du18 := DU.t du12 ag16 au16 ax16 dp16 (by omega)
      refine rsl (cV_e rfl) ?_
      refine rsr (cV_e rfl) ?_
      refine rsl (gtI_q (w := iI ((kd i16))) (ck_65 (hC.fr FL16)) (q16_13)) ?_
      refine rsl (jn_v) ?_
      by_cases c19 : ((kd i16)) = 217
      · refine rsl (if_pos (eqI_p (rfl) (li_217) (by omega))) ?_
        refine rsl (vC_e (ck_65 (hC.fr FL16))) ?_
        have hm20 : i16 + 1 < m := hS.more i16 (by omega) (by omega) (by omega)
        refine rsl (cV_e (a63q (by omega) hS (hC.fr FL16) (hTk.fr (WL := W_cp) FL16 (by decide)) (q16_12) (q16_13) (q16_10) (i2 := (i16 + 1)) (by omega) (by omega))) ?_
        have hk21 := (hS.ok (i16 + 1) (by omega) (by omega)).r
        refine rsl (vC_e (ck_65 (hC.fr FL16).sI.sI)) ?_
        have du23 := DU.em (q := (e16 + 1)) (o := 25) (n := 0) (p := -2) (l := [0]) du18 (by omega) (by omega)
        refine RlI (a87q (by omega) (hC.fr FL16).sI.sI ((sI_nej (by decide)).trans ((sI_nej (by decide)).trans (q16_9))) (li_25) (li_0) (q := (e16 + 1)) (by omega) (by omega)) fun v Ma24 h24 => ?_
        obtain ⟨r22, rfl, g24, e24_k0, p24_0, p24_1⟩ := h24
        have f24 : Fr W_cp Mc Ma24 := Fr.t (Fr.sI (by decide) (Fr.sI (by decide) FL16)) (Fr.m g24 (by decide))
        refine rsl (cI_e rfl) ?_
        refine rsl (gtP_q (w := some 73) (ck_65 (hC.fr f24)) (cf_65_6 (hC.fr f24))) ?_
        refine rsl (gtI_q (w := iI (e16 + 1)) (ck_65 (hC.fr f24)) (e24_k0)) ?_
        refine rsl (asI_q (n := 4096) (z := e7) (y := (e16 + 1)) (ck_73 (hC.fr f24)) (congrArg iI p13_0) (by omega) (rfl)) ?_
        have du25 := (DU.pj (j := e7) (v2 := (e16 + 1)) du23)
        refine rsl (vC_e (ck_65 (hC.fr f24).sI)) ?_
        refine rsr (gtI_q (w := iI 0) (rk_160 (hR.fr FR16)) (w16_41)) ?_
        refine rsr (jn_v) ?_
        refine rsr (jn_v) ?_
        refine rsr (if_pos (eqI_p (rfl) (li_0) (by omega))) ?_
        refine rsr (gtI_q (w := iI ((kr (kd i16)))) (rk_160 (hR.fr FR16)) (w16_36)) ?_
        refine rsr (if_pos (krI_p (k := 217) (rfl) (li_418) (by omega) (by decide +kernel))) ?_
        refine rsr (vC_e (rk_160 (hR.fr FR16))) ?_
        refine RrI (a196q (by omega) (hR.fr FR16) (w16_43) ((FR16.i _ _ (by decide)).trans h49) ((FR16.i _ _ (by decide)).trans h48) (li_25) (li_0) (q := (e16 + 1)) (by omega) (by omega)) fun v Ma27 h27 => ?_
        obtain ⟨r26, rfl, g27, e27_k0, p27_0, p27_1⟩ := h27
        have f27 : Fr W_rx Mr Ma27 := Fr.t FR16 (Fr.m g27 (by decide))
        refine rsr (cI_e rfl) ?_
        refine rsr (gtP_q (w := some 196) (rk_160 (hR.fr f27)) (rf_45 (hR.fr f27))) ?_
        refine rsr (gtI_q (w := iI (e16 + 1)) (rk_160 (hR.fr f27)) (e27_k0)) ?_
        refine rsr (asI_q (n := 4000) (z := e7) (y := (e16 + 1)) (rk_196 (hR.fr f27)) (congrArg iI p15_0) (by omega) (rfl)) ?_
        refine rsr (vC_e (rk_160 (hR.fr f27).sI)) ?_
        refine RrV (nx_q (by omega) hS (hR.fr f27).sI (hT.fr (W := W_rx) (Fr.sI (inW_c (by decide) _) f27) (by decide) (by decide)) (fun i a b => (Fr.lc (W := W_rx) (Fr.sI (inW_c (by decide) _) f27) _ (by decide) _).trans (hW i a b)) (i := i16) (i2 := (i16 + 1)) ((sI_ne (by decide)).trans ((g27.i _ _ (by decide)).trans (w16_41))) ((sI_ne (by decide)).trans ((g27.i _ _ (by decide)).trans (w16_38))) (by omega) (by omega) (by omega)) fun v Ma28 h28 => ?_
        obtain ⟨g28, e28_k0, e28_k1, e28_k2, p28_0⟩ := h28
        have f28 : Fr W_rx Mr Ma28 := Fr.t (Fr.sI (inW_c (by decide) _) f27) (Fr.m g28 (by decide))
        refine rsr (cV_e rfl) ?_
        refine rsr (vC_e (rk_160 (hR.fr f28))) ?_
        refine Rb_VV (hB _ _ (by omega) (by omega) T n m kd pl E tx ua ut mu _ _ (pj (pu G16 e16 [25, 0, -2, 0, ut, mu, 0]) e7 (e16 + 1)) U16 Hl X16 (i16 + 1) (e16 + 1) s u16 uc16 _ hS (hCx.fr (Fr.sI (inW_c (by decide) _) f24) f28) ⟨(sI_ne (by decide)).trans ((g24.i _ _ (by decide)).trans ((sI_nej (by decide)).trans (sI_eq))), (sI_ne (by decide)).trans ((g24.i _ _ (by decide)).trans (sI_eq)), (sI_ne (by decide)).trans ((g24.i _ _ (by decide)).trans ((sI_nej (by decide)).trans ((sI_nej (by decide)).trans (q16_10)))), (sI_ne (by decide)).trans (e24_k0), (sI_ne (by decide)).trans ((g24.i _ _ (by decide)).trans ((sI_nej (by decide)).trans ((sI_nej (by decide)).trans (q16_16)))), (sI_ne (by decide)).trans ((g24.i _ _ (by decide)).trans ((sI_nej (by decide)).trans ((sI_nej (by decide)).trans (q16_19))))⟩ ⟨e28_k0, e28_k1, e28_k2, (g28.i _ _ (by decide)).trans ((sI_ne (by decide)).trans ((g27.i _ _ (by decide)).trans (w16_41))), (g28.i _ _ (by decide)).trans ((sI_ne (by decide)).trans (e27_k0)), (g28.i _ _ (by decide)).trans ((sI_ne (by decide)).trans ((g27.i _ _ (by decide)).trans (w16_51))), (g28.i _ _ (by decide)).trans ((sI_ne (by decide)).trans ((g27.i _ _ (by decide)).trans (w16_53))), (g28.i _ _ (by decide)).trans ((sI_ne (by decide)).trans ((g27.i _ _ (by decide)).trans (w16_50))), p28_0⟩ ⟨(CA1.pt (v := (e16 + 1)) (CA1.em (q := (e16 + 1)) (ca16.fr (W := W_c0) (Fr.sI (by decide) (Fr.sI (by decide) Fr.r)) (by decide)) (by omega) p24_1 (by omega)) (by omega)), ((RA1.pt (v := (e16 + 1)) (RA1.em (q := (e16 + 1)) ra16 (by omega) p27_1 (by omega)) (by omega)).fr g28 (by decide)), (((lc16.fr (W := W_c0) (Fr.sI (by decide) (Fr.sI (by decide) Fr.r)) (by decide)).fr g24 (by decide)).fr (W := W_c2) (Fr.sI (inW_c (by decide) _) Fr.r) (by decide)), (((lr16.fr g27 (by decide)).fr (W := W_r2) (Fr.sI (inW_c (by decide) _) Fr.r) (by decide)).fr g28 (by decide)), (((cu16.fr (W := W_c0) (Fr.sI (by decide) (Fr.sI (by decide) Fr.r)) (by decide)).fr g24 (by decide)).fr (W := W_c2) (Fr.sI (inW_c (by decide) _) Fr.r) (by decide)), (((ru16.fr g27 (by decide)).fr (W := W_r2) (Fr.sI (inW_c (by decide) _) Fr.r) (by decide)).fr g28 (by decide))⟩ ⟨by omega, by omega, by omega, by omega, by omega, by omega, by omega, by omega, by omega, by omega, by omega, by omega⟩ (hv0)) fun v Mx29 w Nx29 hx29 => ?_
        rcases hx29 with ⟨i29, lt29, e29, u29, uc29, G29, U29, X29, fl29, fr29, sc29, sr29, rw29, bd29, mv29, ag29, au29, ax29, tp29, dp29, kv29, ⟨sl29, sh29⟩⟩ | ⟨F29, P29, fl29, fr29, tc29, tr29⟩
        ·
          have FL29 : Fr W_cp Mc Mx29 := Fr.t (Fr.sI (inW_c (by decide) _) f24) fl29
          have FR29 : Fr W_rx Mr Nx29 := Fr.t f28 fr29
          obtain ⟨bb29_0, bb29_1, bb29_2, bb29_3, bb29_4, bb29_5, bb29_6, bb29_7, bb29_8, bb29_9, bb29_10, bb29_11⟩ := bd29
          obtain ⟨q29_12, q29_13, q29_10, q29_9, q29_16, q29_19⟩ := sc29
          obtain ⟨w29_36, w29_37, w29_38, w29_41, w29_43, w29_51, w29_53, w29_50, w29_n⟩ := sr29
          obtain ⟨ca29, ra29, lc29, lr29, cu29, ru29⟩ := rw29
          have hk30 := (hS.ok i29 (by omega) (by omega)).r
          have ku29 := KU.t (((ku16.fr (W := W_c0) (Fr.sI (by decide) (Fr.sI (by decide) Fr.r)) (by decide)).fr g24 (by decide)).fr (W := W_c2) (Fr.sI (inW_c (by decide) _) Fr.r) (by decide)) kv29 (by omega)
          have du31 := DU.t du25 ag29 au29 ax29 dp29 (by omega)
          refine rsl (cV_e rfl) ?_
          refine rsr (cV_e rfl) ?_
          refine rsl (gtP_q (w := some 73) (ck_65 (hC.fr FL29)) (cf_65_6 (hC.fr FL29))) ?_
          refine rsl (gtI_q (w := iI e29) (ck_65 (hC.fr FL29)) (q29_9)) ?_
          refine rsl (asI_q (n := 4096) (z := e16) (y := e29) (ck_73 (hC.fr FL29)) (congrArg iI p24_0) (by omega) (rfl)) ?_
          have du32 := (DU.pj (j := e16) (v2 := e29) du31)
          refine rsl (jv_e) ?_
          refine rsr (gtP_q (w := some 196) (rk_160 (hR.fr FR29)) (rf_45 (hR.fr FR29))) ?_
          refine rsr (gtI_q (w := iI e29) (rk_160 (hR.fr FR29)) (w29_43)) ?_
          refine rsr (asI_q (n := 4000) (z := e16) (y := e29) (rk_196 (hR.fr FR29)) (congrArg iI p27_0) (by omega) (rfl)) ?_
          refine rsr (jv_e) ?_
          have tb33 := (Tyb.if2 (G := (pj G29 e16 e29)) (dp := dp) (j := e7) (p := e16) (a := e) (b := e29) (s := s) (Tye.ca (ty9.ag (fun k t p z => (pj_t (by omega)).trans ((ag29 _ _ (by omega)).trans ((pj_t (by omega)).trans ((pu_n (by omega)).trans ((ag16 _ _ (by omega)).trans ((pu_n (by omega))))))))) (by omega) (by omega)) ((Tyb.ca (tp16.ag (fun k t p z => (pj_t (by omega)).trans ((ag29 _ _ (by omega)).trans ((pj_t (by omega)).trans ((pu_n (by omega))))))) (by omega) (by omega)).lo (Int.le_refl _) (by omega)) ((Tyb.ca (tp29.ag (fun k t p z => (pj_t (by omega)))) (by omega) (by omega)).lo (Int.le_refl _) (by omega)) ⟨((pj_t (by omega)).trans ((ag29 _ _ (by omega)).trans ((pj_k (by decide)).trans ((pu_n (by omega)).trans ((ag16 _ _ (by omega))))))).trans (pu_e (by omega)), ((pj_t (by omega)).trans ((ag29 _ _ (by omega)).trans ((pj_k (by decide)).trans ((pu_n (by omega)).trans ((ag16 _ _ (by omega))))))).trans (pu_e (by omega)), ((pj_t (by omega)).trans ((ag29 _ _ (by omega)))).trans (pj_3)⟩ ⟨((pj_k (by decide)).trans ((ag29 _ _ (by omega)).trans ((pj_t (by omega))))).trans (pu_e (by omega)), ((pj_k (by decide)).trans ((ag29 _ _ (by omega)).trans ((pj_t (by omega))))).trans (pu_e (by omega)), pj_3⟩ (by omega) ⟨by omega, by omega⟩)
          exact Rs.ok (Or.inl ⟨i29, s, Hl, ⟨e29, u29, uc29, (pj G29 e16 e29), U29, X29, (Fr.sI (inW_c (by decide) _) FL29), (Fr.sI (inW_c (by decide) _) FR29), ⟨(sI_ne (by decide)).trans (q29_12), (sI_ne (by decide)).trans (q29_13), (sI_ne (by decide)).trans (q29_10), (sI_ne (by decide)).trans (q29_9), (sI_ne (by decide)).trans (q29_16), (sI_ne (by decide)).trans (q29_19)⟩, ⟨(sI_ne (by decide)).trans (w29_36), (sI_ne (by decide)).trans (w29_37), (sI_ne (by decide)).trans (w29_38), (sI_ne (by decide)).trans (w29_41), (sI_ne (by decide)).trans (w29_43), (sI_ne (by decide)).trans (w29_51), (sI_ne (by decide)).trans (w29_53), (sI_ne (by decide)).trans (w29_50), (w29_n.fr (W := W_r2) (Fr.sI (inW_c (by decide) _) Fr.r) (by decide) (by decide))⟩, ⟨(CA1.pt (v := e29) ca29 (by omega)), (RA1.pt (v := e29) ra29 (by omega)), (lc29.fr (W := W_c2) (Fr.sI (inW_c (by decide) _) Fr.r) (by decide)), (lr29.fr (W := W_r2) (Fr.sI (inW_c (by decide) _) Fr.r) (by decide)), (cu29.fr (W := W_c2) (Fr.sI (inW_c (by decide) _) Fr.r) (by decide)), (ru29.fr (W := W_r2) (Fr.sI (inW_c (by decide) _) Fr.r) (by decide))⟩, ⟨by omega, by omega, by omega, by omega, by omega, by omega, by omega, by omega, by omega, by omega, by omega, by omega⟩, ⟨by omega, by omega, by omega, by omega, by omega, by omega⟩, (Ag.pj (Ag.t (Ag.pj (Ag.pu (Ag.t (Ag.pu (Ag.t Ag.r ag7 (by omega)) (by omega)) ag16 (by omega)) (by omega)) (by omega)) ag29 (by omega)) (by omega)), (Ag.t (Ag.t (Ag.t Ag.r au7 (by omega)) au16 (by omega)) au29 (by omega)), (AgL.t (AgL.t (AgL.t AgL.r ax7 (by omega)) ax16 (by omega)) ax29 (by omega)), tb33, du32, (ku29.fr (W := W_c2) (Fr.sI (inW_c (by decide) _) Fr.r) (by decide)), ⟨by omega, fun _ _ _ => rfl⟩⟩⟩)
        ·
          have FL29 : Fr W_cp Mc Mx29 := Fr.t (Fr.sI (inW_c (by decide) _) f24) fl29
          have FR29 : Fr W_rp Mr Nx29 := Fr.t (Fr.m f28 W_rx_p) fr29
          obtain ⟨ti29, tz29, tn29, tu29, t1329, t1029, t1129, t1229, t929, t1629, t1929, tb29⟩ := tc29
          obtain ⟨re29, rn29, ru29, rm29, rt29, u4129, u4229, u4329, u5129, u5329, u4829, u4929, ub29⟩ := tr29
          refine rsl (cV_e rfl) ?_
          refine rsr (cV_e rfl) ?_
          refine rsl (gtP_q (w := some 73) (ck_65 (hC.fr FL29)) (cf_65_6 (hC.fr FL29))) ?_
          refine rsl (gtI_q (w := iI tz29) (ck_65 (hC.fr FL29)) (t929)) ?_
          refine rsl (asI_q (n := 4096) (z := e16) (y := tz29) (ck_73 (hC.fr FL29)) (congrArg iI p24_0) (by omega) (rfl)) ?_
          refine rsl (jv_e) ?_
          refine rsr (gtP_q (w := some 196) (rk_160 (hR.fr FR29)) (rf_45 (hR.fr FR29))) ?_
          refine rsr (gtI_q (w := iI re29) (rk_160 (hR.fr FR29)) (u4329)) ?_
          refine rsr (asI_q (n := 4000) (z := e16) (y := re29) (rk_196 (hR.fr FR29)) (congrArg iI p27_0) (by omega) (rfl)) ?_
          refine rsr (jv_e) ?_
          exact Rs.ok (Or.inr ⟨F29, P29, (Fr.sI (inW_c (by decide) _) FL29), (Fr.sI (inW_c (by decide) _) FR29), ⟨ti29, tz29, tn29, tu29, (sI_ne (by decide)).trans (t1329), (sI_ne (by decide)).trans (t1029), (sI_ne (by decide)).trans (t1129), (sI_ne (by decide)).trans (t1229), (sI_ne (by decide)).trans (t929), (sI_ne (by decide)).trans (t1629), (sI_ne (by decide)).trans (t1929), by omega⟩, ⟨re29, rn29, ru29, rm29, rt29, (sI_ne (by decide)).trans (u4129), (sI_ne (by decide)).trans (u4229), (sI_ne (by decide)).trans (u4329), (sI_ne (by decide)).trans (u5129), (sI_ne (by decide)).trans (u5329), (sI_ne (by decide)).trans (u4829), (sI_ne (by decide)).trans (u4929), by omega⟩⟩)
      · refine rsl (if_neg (eqI_n (rfl) (li_217) (by omega))) ?_
        refine rsl (gtP_q (w := some 73) (ck_65 (hC.fr FL16)) (cf_65_6 (hC.fr FL16))) ?_
        refine rsl (gtI_q (w := iI e16) (ck_65 (hC.fr FL16)) (q16_9)) ?_
        refine rsl (asI_q (n := 4096) (z := e7) (y := e16) (ck_73 (hC.fr FL16)) (congrArg iI p13_0) (by omega) (rfl)) ?_
        have du34 := (DU.pj (j := e7) (v2 := e16) du18)
        refine rsl (jv_e) ?_
        refine rsr (gtI_q (w := iI 0) (rk_160 (hR.fr FR16)) (w16_41)) ?_
        refine rsr (jn_v) ?_
        refine rsr (jn_v) ?_
        refine rsr (if_pos (eqI_p (rfl) (li_0) (by omega))) ?_
        refine rsr (gtI_q (w := iI ((kr (kd i16)))) (rk_160 (hR.fr FR16)) (w16_36)) ?_
        refine rsr (if_neg (krI_n (k := 217) (rfl) (li_418) (hS.ok i16 (by omega) (by omega)) (by unfold KdOK sgk; omega) (by decide +kernel) (by omega) (by omega))) ?_
        refine rsr (jv_e) ?_
        refine rsr (gtP_q (w := some 196) (rk_160 (hR.fr FR16)) (rf_45 (hR.fr FR16))) ?_
        refine rsr (gtI_q (w := iI e16) (rk_160 (hR.fr FR16)) (w16_43)) ?_
        refine rsr (asI_q (n := 4000) (z := e7) (y := e16) (rk_196 (hR.fr FR16)) (congrArg iI p15_0) (by omega) (rfl)) ?_
        refine rsr (jv_e) ?_
        have tb35 := (Tyb.if1 (G := (pj G16 e7 e16)) (dp := dp) (j := e7) (a := e) (b := e16) (s := s) (Tye.ca (ty9.ag (fun k t p z => (pj_t (by omega)).trans ((ag16 _ _ (by omega)).trans ((pu_n (by omega)))))) (by omega) (by omega)) ((Tyb.ca (tp16.ag (fun k t p z => (pj_t (by omega)))) (by omega) (by omega)).lo (Int.le_refl _) (by omega)) ⟨((pj_k (by decide)).trans ((ag16 _ _ (by omega)))).trans (pu_e (by omega)), ((pj_k (by decide)).trans ((ag16 _ _ (by omega)))).trans (pu_e (by omega)), pj_3⟩ (by omega) ⟨by omega, by omega⟩)
        exact Rs.ok (Or.inl ⟨i16, s, Hl, ⟨e16, u16, uc16, (pj G16 e7 e16), U16, X16, (Fr.sI (inW_c (by decide) _) FL16), (Fr.sI (inW_c (by decide) _) FR16), ⟨(sI_ne (by decide)).trans (q16_12), (sI_ne (by decide)).trans (q16_13), (sI_ne (by decide)).trans (q16_10), (sI_ne (by decide)).trans (q16_9), (sI_ne (by decide)).trans (q16_16), (sI_ne (by decide)).trans (q16_19)⟩, ⟨(sI_ne (by decide)).trans (w16_36), (sI_ne (by decide)).trans (w16_37), (sI_ne (by decide)).trans (w16_38), (sI_ne (by decide)).trans (w16_41), (sI_ne (by decide)).trans (w16_43), (sI_ne (by decide)).trans (w16_51), (sI_ne (by decide)).trans (w16_53), (sI_ne (by decide)).trans (w16_50), (w16_n.fr (W := W_r2) (Fr.sI (inW_c (by decide) _) Fr.r) (by decide) (by decide))⟩, ⟨(CA1.pt (v := e16) ca16 (by omega)), (RA1.pt (v := e16) ra16 (by omega)), (lc16.fr (W := W_c2) (Fr.sI (inW_c (by decide) _) Fr.r) (by decide)), (lr16.fr (W := W_r2) (Fr.sI (inW_c (by decide) _) Fr.r) (by decide)), (cu16.fr (W := W_c2) (Fr.sI (inW_c (by decide) _) Fr.r) (by decide)), (ru16.fr (W := W_r2) (Fr.sI (inW_c (by decide) _) Fr.r) (by decide))⟩, ⟨by omega, by omega, by omega, by omega, by omega, by omega, by omega, by omega, by omega, by omega, by omega, by omega⟩, ⟨by omega, by omega, by omega, by omega, by omega, by omega⟩, (Ag.pj (Ag.t (Ag.pu (Ag.t Ag.r ag7 (by omega)) (by omega)) ag16 (by omega)) (by omega)), (Ag.t (Ag.t Ag.r au7 (by omega)) au16 (by omega)), (AgL.t (AgL.t AgL.r ax7 (by omega)) ax16 (by omega)), tb35, du34, (ku16.fr (W := W_c2) (Fr.sI (inW_c (by decide) _) Fr.r) (by decide)), ⟨by omega, fun _ _ _ => rfl⟩⟩⟩)
    ·
      have FL16 : Fr W_cp Mc Mx16 := Fr.t f13 fl16
      have FR16 : Fr W_rp Mr Nx16 := Fr.t (Fr.m f15 W_rx_p) fr16
      obtain ⟨ti16, tz16, tn16, tu16, t1316, t1016, t1116, t1216, t916, t1616, t1916, tb16⟩ := tc16
      obtain ⟨re16, rn16, ru16, rm16, rt16, u4116, u4216, u4316, u5116, u5316, u4816, u4916, ub16⟩ := tr16
      refine rsl (cV_e rfl) ?_
      refine rsr (cV_e rfl) ?_
      refine rsl (gtI_q (w := iI 2) (ck_65 (hC.fr FL16)) (t1316)) ?_
      refine rsl (jn_v) ?_
      refine rsl (if_neg (eqI_n (rfl) (li_217) (by omega))) ?_
      refine rsl (gtP_q (w := some 73) (ck_65 (hC.fr FL16)) (cf_65_6 (hC.fr FL16))) ?_
      refine rsl (gtI_q (w := iI tz16) (ck_65 (hC.fr FL16)) (t916)) ?_
      refine rsl (asI_q (n := 4096) (z := e7) (y := tz16) (ck_73 (hC.fr FL16)) (congrArg iI p13_0) (by omega) (rfl)) ?_
      refine rsl (jv_e) ?_
      refine rsr (gtI_q (w := iI F16) (rk_160 (hR.fr FR16)) (u4116)) ?_
      refine rsr (jn_v) ?_
      refine rsr (jn_v) ?_
      refine rsr (if_neg (eqI_n (rfl) (li_0) (by omega))) ?_
      refine rsr (jv_e) ?_
      refine rsr (gtP_q (w := some 196) (rk_160 (hR.fr FR16)) (rf_45 (hR.fr FR16))) ?_
      refine rsr (gtI_q (w := iI re16) (rk_160 (hR.fr FR16)) (u4316)) ?_
      refine rsr (asI_q (n := 4000) (z := e7) (y := re16) (rk_196 (hR.fr FR16)) (congrArg iI p15_0) (by omega) (rfl)) ?_
      refine rsr (jv_e) ?_
      exact Rs.ok (Or.inr ⟨F16, P16, (Fr.sI (inW_c (by decide) _) FL16), (Fr.sI (inW_c (by decide) _) FR16), ⟨ti16, tz16, tn16, tu16, (sI_ne (by decide)).trans (t1316), (sI_ne (by decide)).trans (t1016), (sI_ne (by decide)).trans (t1116), (sI_ne (by decide)).trans (t1216), (sI_ne (by decide)).trans (t916), (sI_ne (by decide)).trans (t1616), (sI_ne (by decide)).trans (t1916), by omega⟩, ⟨re16, rn16, ru16, rm16, rt16, (sI_ne (by decide)).trans (u4116), (sI_ne (by decide)).trans (u4216), (sI_ne (by decide)).trans (u4316), (sI_ne (by decide)).trans (u5116), (sI_ne (by decide)).trans (u5316), (sI_ne (by decide)).trans (u4816), (sI_ne (by decide)).trans (u4916), by omega⟩⟩)
  ·
    have FL7 : Fr W_cp Mc Mx7 := Fr.t (Fr.sI (by decide) (Fr.sI (by decide) Fr.r)) fl7
    have FR7 : Fr W_rp Mr Nx7 := Fr.t (Fr.m f6 W_rx_p) fr7
    obtain ⟨ti7, tz7, tn7, tu7, t137, t107, t117, t127, t97, t167, t197, tb7⟩ := tc7
    obtain ⟨re7, rn7, ru7, rm7, rt7, u417, u427, u437, u517, u537, u487, u497, ub7⟩ := tr7
    refine rsl (cV_e rfl) ?_
    refine rsr (cV_e rfl) ?_
    refine rsl (vC_e (ck_65 (hC.fr FL7))) ?_
    refine RlI (y87 (by omega) (hC.fr FL7) (hTk.fr (WL := W_cp) FL7 (by decide)) (t127) (t137) (t107) (t117) (t97) (t167) (t197) (li_24) (li_0) (by omega)) fun v Ma37 h37 => ?_
    obtain ⟨rv36, sz36, sn36, uc36, rfl, g37, e37_sz36, e37_sn36, e37_uc36, e37_k0, e37_k1, e37_k2, e37_k3, p37_0, p37_1, p37_2, p37_3⟩ := h37
    have f37 : Fr W_cp Mc Ma37 := Fr.t FL7 (Fr.m g37 (by decide))
    refine rsl (cI_e rfl) ?_
    refine rsl (vC_e (ck_65 (hC.fr f37))) ?_
    refine RlV (y89 (by omega) (hC.fr f37) (hTk.fr (WL := W_cp) f37 (by decide)) (e37_k3) (e37_k0) (e37_k1) (e37_k2) (e37_sz36) (e37_sn36) (e37_uc36) (hv0) (by omega)) fun v Ma39 h39 => ?_
    obtain ⟨sz38, sn38, uc38, g39, e39_sz38, e39_sn38, e39_uc38, e39_k0, e39_k1, e39_k2, e39_k3, p39_0, p39_1, p39_2⟩ := h39
    have f39 : Fr W_cp Mc Ma39 := Fr.t f37 (Fr.m g39 (by decide))
    refine rsl (cV_e rfl) ?_
    refine rsl (gtI_q (w := iI 2) (ck_65 (hC.fr f39)) (e39_k0)) ?_
    refine rsl (jn_v) ?_
    refine rsl (if_neg (eqI_n (rfl) (li_217) (by omega))) ?_
    refine rsl (gtP_q (w := some 73) (ck_65 (hC.fr f39)) (cf_65_6 (hC.fr f39))) ?_
    refine rsl (gtI_q (w := iI sz38) (ck_65 (hC.fr f39)) (e39_sz38)) ?_
    refine rsl (asI_q (n := 4096) (z := rv36) (y := sz38) (ck_73 (hC.fr f39)) (rfl) (by omega) (rfl)) ?_
    refine rsl (jv_e) ?_
    refine rsr (vC_e (rk_160 (hR.fr FR7))) ?_
    refine RrI (x196_s (by omega) (hR.fr FR7) (u417) (u427) (u437) (u517) (u537) (u487) (u497) (li_24) (li_0) (by omega)) fun v Ma41 h41 => ?_
    obtain ⟨rv40, em40, rfl, g41, e41_em40, e41_k0, e41_k1, e41_k2, e41_k3, e41_k4, p41_0, p41_1⟩ := h41
    have f41 : Fr W_rp Mr Ma41 := Fr.t FR7 (Fr.m g41 (by decide))
    refine rsr (cI_e rfl) ?_
    refine rsr (vC_e (rk_160 (hR.fr f41))) ?_
    refine RrV (x213_s (by omega) (hR.fr f41) (e41_k0) (e41_k1) (e41_em40) (e41_k2) (e41_k3) (e41_k4) ((g41.i _ _ (by decide)).trans (u497))  (by omega)) fun v Ma43 h43 => ?_
    obtain ⟨em42, g43, e43_em42, e43_k0, e43_k1, e43_k2, e43_k3, e43_k4, p43_0⟩ := h43
    have f43 : Fr W_rp Mr Ma43 := Fr.t f41 (Fr.m g43 (by decide))
    refine rsr (cV_e rfl) ?_
    refine rsr (gtI_q (w := iI F7) (rk_160 (hR.fr f43)) (e43_k0)) ?_
    refine rsr (jn_v) ?_
    refine rsr (jn_v) ?_
    refine rsr (if_neg (eqI_n (rfl) (li_0) (by omega))) ?_
    refine rsr (jv_e) ?_
    refine rsr (gtP_q (w := some 196) (rk_160 (hR.fr f43)) (rf_45 (hR.fr f43))) ?_
    refine rsr (gtI_q (w := iI em42) (rk_160 (hR.fr f43)) (e43_em42)) ?_
    refine rsr (asI_q (n := 4000) (z := rv40) (y := em42) (rk_196 (hR.fr f43)) (rfl) (by omega) (rfl)) ?_
    refine rsr (jv_e) ?_
    exact Rs.ok (Or.inr ⟨F7, P7, (Fr.sI (inW_c (by decide) _) f39), (Fr.sI (inW_c (by decide) _) f43), ⟨ti7, sz38, sn38, uc38, (sI_ne (by decide)).trans (e39_k0), (sI_ne (by decide)).trans (e39_k1), (sI_ne (by decide)).trans (e39_k2), (sI_ne (by decide)).trans (e39_k3), (sI_ne (by decide)).trans (e39_sz38), (sI_ne (by decide)).trans (e39_sn38), (sI_ne (by decide)).trans (e39_uc38), by omega⟩, ⟨em42, rn7, ru7, rm7, rt7, (sI_ne (by decide)).trans (e43_k0), (sI_ne (by decide)).trans (e43_k1), (sI_ne (by decide)).trans (e43_em42), (sI_ne (by decide)).trans (e43_k2), (sI_ne (by decide)).trans (e43_k3), (sI_ne (by decide)).trans (e43_k4), (sI_ne (by decide)).trans ((g43.i _ _ (by decide)).trans ((g41.i _ _ (by decide)).trans (u497))), by omega⟩⟩)
