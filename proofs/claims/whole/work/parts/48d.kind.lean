theorem p_st218 {D : Nat} {dp : Int} (hD : 20 ≤ D) (hE : Pair D 99 [0] 211 14 dp) (hB : PairB D dp) : PairT 218 94 [] (D + 10) dp := by
  intro d d2 hd hd2 T n m kd pl E tx ua ut mu Mc Mr G U Hl X i e s u uc v0 hS hx hsc hsr hrw hbd hK hv0
  obtain ⟨d, rfl⟩ : ∃ e, d = e + 1 := ⟨d - 1, by omega⟩
  obtain ⟨d2, rfl⟩ : ∃ e, d2 = e + 1 := ⟨d2 - 1, by omega⟩
  show Rs (runX (d + 1) 94 [va_rf (some 65), .int v0] Mc) (runX (d2 + 1) 214 [va_rf (some 160)] Mr) _
  rw [r94]; unfold b94; rw [aR_e, aI_e, aZ_e]; unfold c94; rw [r214]; unfold b214; rw [aR_e, aZ_e]; unfold c214
  have hCx := hx
  obtain ⟨hC, hR, hTk, hT, hW, ⟨hu1, hu2, hu3, hu4⟩, h49, h48, ⟨hb1, hb2, hb3, hb4⟩⟩ := hx
  obtain ⟨bb_0, bb_1, bb_2, bb_3, bb_4, bb_5, bb_6, bb_7, bb_8, bb_9, bb_10, bb_11⟩ := hbd
  have kua : KU uc Mc Mc := KU.r
  obtain ⟨qa_12, qa_13, qa_10, qa_9, qa_16, qa_19⟩ := hsc
  obtain ⟨wa_36, wa_37, wa_38, wa_41, wa_43, wa_51, wa_53, wa_50, wa_n⟩ := hsr
  obtain ⟨caa, raa, lca, lra, cua, rua⟩ := hrw
  have hk1 := (hS.ok i (by omega) (by omega)).r
  have ty2 := (Tye.r (G := G) (a := e) (s := s))
  have du3 := (DU.r (ut := ut) (mu := mu) (c := uc) (G := G) (U := U) (X := X) (a := e) (u := u))
  refine rsl (vC_e (ck_65 hC)) ?_
  have hm4 : i + 1 < m := hS.more i (by omega) (by omega) (by omega)
  refine rsl (cV_e (a63q (by omega) hS hC (hTk.fr (WL := W_cp) Fr.r (by decide)) (qa_12) (qa_13) (qa_10) (i2 := (i + 1)) (by omega) (by omega))) ?_
  have hk5 := (hS.ok (i + 1) (by omega) (by omega)).r
  refine rsl (gtI_q (w := iI e) (ck_65 hC.sI.sI) ((sI_nej (by decide)).trans ((sI_nej (by decide)).trans (qa_9)))) ?_
  refine rsl (vC_e (ck_65 hC.sI.sI)) ?_
  refine rsr (gtI_q (w := iI ((kr (kd i)))) (rk_160 hR) (wa_36)) ?_
  refine rsr (jn_v) ?_
  refine rsr (swI_c) ?_
  refine rsr (if_neg (krI_n (k := 215) (rfl) (li_416) (hS.ok i (by omega) (by omega)) (by unfold KdOK sgk; omega) (by decide +kernel) (by omega) (by omega))) ?_
  refine rsr (swI_c) ?_
  refine rsr (if_neg (krI_n (k := 216) (rfl) (li_417) (hS.ok i (by omega) (by omega)) (by unfold KdOK sgk; omega) (by decide +kernel) (by omega) (by omega))) ?_
  refine rsr (swI_c) ?_
  refine rsr (if_neg (krI_n (k := 217) (rfl) (li_418) (hS.ok i (by omega) (by omega)) (by unfold KdOK sgk; omega) (by decide +kernel) (by omega) (by omega))) ?_
  refine rsr (swI_c) ?_
  refine rsr (if_pos (krI_p (k := 218) (rfl) (li_419) (by omega) (by decide +kernel))) ?_
  refine rsr (gtI_q (w := iI e) (rk_160 hR) (wa_43)) ?_
  refine rsr (vC_e (rk_160 hR)) ?_
  refine RrV (nx_q (by omega) hS hR (hT.fr (W := W_rx) Fr.r (by decide) (by decide)) (fun i a b => (Fr.lc (W := W_rx) Fr.r _ (by decide) _).trans (hW i a b)) (i := i) (i2 := (i + 1)) (wa_41) (wa_38) (by omega) (by omega) (by omega)) fun v Ma6 h6 => ?_
  obtain ⟨g6, e6_k0, e6_k1, e6_k2, p6_0⟩ := h6
  have f6 : Fr W_rx Mr Ma6 := Fr.t Fr.r (Fr.m g6 (by decide))
  refine rsr (cV_e rfl) ?_
  refine rsr (vC_e (rk_160 (hR.fr f6))) ?_
  refine Rb_VV (hE _ _ (by omega) (by omega) T n m kd pl E tx ua ut mu _ _ G U Hl X (i + 1) e s u uc _ hS (hCx.fr (Fr.sI (by decide) (Fr.sI (by decide) Fr.r)) f6) ⟨(sI_nej (by decide)).trans (sI_eq), sI_eq, (sI_nej (by decide)).trans ((sI_nej (by decide)).trans (qa_10)), (sI_nej (by decide)).trans ((sI_nej (by decide)).trans (qa_9)), (sI_nej (by decide)).trans ((sI_nej (by decide)).trans (qa_16)), (sI_nej (by decide)).trans ((sI_nej (by decide)).trans (qa_19))⟩ ⟨e6_k0, e6_k1, e6_k2, (g6.i _ _ (by decide)).trans (wa_41), (g6.i _ _ (by decide)).trans (wa_43), (g6.i _ _ (by decide)).trans (wa_51), (g6.i _ _ (by decide)).trans (wa_53), (g6.i _ _ (by decide)).trans (wa_50), p6_0⟩ ⟨(caa.fr (W := W_c0) (Fr.sI (by decide) (Fr.sI (by decide) Fr.r)) (by decide)), (raa.fr g6 (by decide)), (lca.fr (W := W_c0) (Fr.sI (by decide) (Fr.sI (by decide) Fr.r)) (by decide)), (lra.fr g6 (by decide)), (cua.fr (W := W_c0) (Fr.sI (by decide) (Fr.sI (by decide) Fr.r)) (by decide)), (rua.fr g6 (by decide))⟩ ⟨by omega, by omega, by omega, by omega, by omega, by omega, by omega, by omega, by omega, by omega, by omega, by omega⟩ (vs2 (li_0) (hv0))) fun v Mx7 w Nx7 hx7 => ?_
  rcases hx7 with ⟨i7, e7, u7, uc7, G7, U7, X7, fl7, fr7, sc7, sr7, rw7, bd7, mv7, ag7, au7, ax7, tp7, dp7, kv7⟩ | ⟨F7, P7, fl7, fr7, tc7, tr7⟩
  ·
    have FL7 : Fr W_cp Mc Mx7 := Fr.t (Fr.sI (by decide) (Fr.sI (by decide) Fr.r)) fl7
    have FR7 : Fr W_rx Mr Nx7 := Fr.t f6 fr7
    obtain ⟨bb7_0, bb7_1, bb7_2, bb7_3, bb7_4, bb7_5, bb7_6, bb7_7, bb7_8, bb7_9, bb7_10, bb7_11⟩ := bd7
    obtain ⟨q7_12, q7_13, q7_10, q7_9, q7_16, q7_19⟩ := sc7
    obtain ⟨w7_36, w7_37, w7_38, w7_41, w7_43, w7_51, w7_53, w7_50, w7_n⟩ := sr7
    obtain ⟨ca7, ra7, lc7, lr7, cu7, ru7⟩ := rw7
    have hk8 := (hS.ok i7 (by omega) (by omega)).r
    have ku7 := KU.t (kua.fr (W := W_c0) (Fr.sI (by decide) (Fr.sI (by decide) Fr.r)) (by decide)) kv7 (by omega)
    have ty9 := Tye.t (d3 := 1) ty2 ag7 tp7 (by omega)
    have du10 := DU.t du3 ag7 au7 ax7 dp7 (by omega)
    refine rsl (cV_e rfl) ?_
    refine rsr (cV_e rfl) ?_
    refine rsl (vC_e (ck_65 (hC.fr FL7))) ?_
    have du12 := DU.em (q := (e7 + 1)) (o := 24) (n := 0) (p := -2) (l := [0]) du10 (by omega) (by omega)
    refine RlI (a87q (by omega) (hC.fr FL7) (q7_9) (li_24) (li_0) (q := (e7 + 1)) (by omega) (by omega)) fun v Ma13 h13 => ?_
    obtain ⟨r11, rfl, g13, e13_k0, p13_0, p13_1⟩ := h13
    have f13 : Fr W_cp Mc Ma13 := Fr.t FL7 (Fr.m g13 (by decide))
    refine rsl (cI_e rfl) ?_
    refine rsl (vC_e (ck_65 (hC.fr f13))) ?_
    refine rsr (vC_e (rk_160 (hR.fr FR7))) ?_
    refine RrI (a196q (by omega) (hR.fr FR7) (w7_43) ((FR7.i _ _ (by decide)).trans h49) ((FR7.i _ _ (by decide)).trans h48) (li_24) (li_0) (q := (e7 + 1)) (by omega) (by omega)) fun v Ma15 h15 => ?_
    obtain ⟨r14, rfl, g15, e15_k0, p15_0, p15_1⟩ := h15
    have f15 : Fr W_rx Mr Ma15 := Fr.t FR7 (Fr.m g15 (by decide))
    refine rsr (cI_e rfl) ?_
    refine rsr (vC_e (rk_160 (hR.fr f15))) ?_
    refine Rb_VV (hB _ _ (by omega) (by omega) T n m kd pl E tx ua ut mu _ _ (pu G7 e7 [24, 0, -2, 0, ut, mu, 0]) U7 Hl X7 i7 (e7 + 1) s u7 uc7 _ hS (hCx.fr f13 f15) ⟨(g13.i _ _ (by decide)).trans (q7_12), (g13.i _ _ (by decide)).trans (q7_13), (g13.i _ _ (by decide)).trans (q7_10), e13_k0, (g13.i _ _ (by decide)).trans (q7_16), (g13.i _ _ (by decide)).trans (q7_19)⟩ ⟨(g15.i _ _ (by decide)).trans (w7_36), (g15.i _ _ (by decide)).trans (w7_37), (g15.i _ _ (by decide)).trans (w7_38), (g15.i _ _ (by decide)).trans (w7_41), e15_k0, (g15.i _ _ (by decide)).trans (w7_51), (g15.i _ _ (by decide)).trans (w7_53), (g15.i _ _ (by decide)).trans (w7_50), (w7_n.fr g15 (by decide) (by decide))⟩ ⟨(CA1.em (q := (e7 + 1)) ca7 (by omega) p13_1 (by omega)), (RA1.em (q := (e7 + 1)) ra7 (by omega) p15_1 (by omega)), (lc7.fr g13 (by decide)), (lr7.fr g15 (by decide)), (cu7.fr g13 (by decide)), (ru7.fr g15 (by decide))⟩ ⟨by omega, by omega, by omega, by omega, by omega, by omega, by omega, by omega, by omega, by omega, by omega, by omega⟩ (hv0)) fun v Mx16 w Nx16 hx16 => ?_
    rcases hx16 with ⟨i16, lt16, e16, u16, uc16, G16, U16, X16, fl16, fr16, sc16, sr16, rw16, bd16, mv16, ag16, au16, ax16, tp16, dp16, kv16, ⟨sl16, sh16⟩⟩ | ⟨F16, P16, fl16, fr16, tc16, tr16⟩
    ·
      have FL16 : Fr W_cp Mc Mx16 := Fr.t f13 fl16
      have FR16 : Fr W_rx Mr Nx16 := Fr.t f15 fr16
      obtain ⟨bb16_0, bb16_1, bb16_2, bb16_3, bb16_4, bb16_5, bb16_6, bb16_7, bb16_8, bb16_9, bb16_10, bb16_11⟩ := bd16
      obtain ⟨q16_12, q16_13, q16_10, q16_9, q16_16, q16_19⟩ := sc16
      obtain ⟨w16_36, w16_37, w16_38, w16_41, w16_43, w16_51, w16_53, w16_50, w16_n⟩ := sr16
      obtain ⟨ca16, ra16, lc16, lr16, cu16, ru16⟩ := rw16
      have hk17 := (hS.ok i16 (by omega) (by omega)).r
      have ku16 := KU.t (ku7.fr g13 (by decide)) kv16 (by omega)
      have du18 := DU.t du12 ag16 au16 ax16 dp16 (by omega)
      refine rsl (cV_e rfl) ?_
      refine rsr (cV_e rfl) ?_
      refine rsl (vC_e (ck_65 (hC.fr FL16))) ?_
      have du20 := DU.em (q := (e16 + 1)) (o := 25) (n := e) (p := -2) (l := [0]) du18 (by omega) (by omega)
      refine RlI (a87q (by omega) (hC.fr FL16) (q16_9) (li_25) (rfl) (q := (e16 + 1)) (by omega) (by omega)) fun v Ma21 h21 => ?_
      obtain ⟨r19, rfl, g21, e21_k0, p21_0, p21_1⟩ := h21
      have f21 : Fr W_cp Mc Ma21 := Fr.t FL16 (Fr.m g21 (by decide))
      refine rsl (cI_e rfl) ?_
      refine rsl (gtP_q (w := some 73) (ck_65 (hC.fr f21)) (cf_65_6 (hC.fr f21))) ?_
      refine rsl (gtI_q (w := iI (e16 + 1)) (ck_65 (hC.fr f21)) (e21_k0)) ?_
      refine rsl (asI_q (n := 4096) (z := e7) (y := (e16 + 1)) (ck_73 (hC.fr f21)) (congrArg iI p13_0) (by omega) (rfl)) ?_
      have du22 := (DU.pj (j := e7) (v2 := (e16 + 1)) du20)
      refine rsr (vC_e (rk_160 (hR.fr FR16))) ?_
      refine RrI (a196q (by omega) (hR.fr FR16) (w16_43) ((FR16.i _ _ (by decide)).trans h49) ((FR16.i _ _ (by decide)).trans h48) (li_25) (rfl) (q := (e16 + 1)) (by omega) (by omega)) fun v Ma24 h24 => ?_
      obtain ⟨r23, rfl, g24, e24_k0, p24_0, p24_1⟩ := h24
      have f24 : Fr W_rx Mr Ma24 := Fr.t FR16 (Fr.m g24 (by decide))
      refine rsr (cI_e rfl) ?_
      refine rsr (gtP_q (w := some 196) (rk_160 (hR.fr f24)) (rf_45 (hR.fr f24))) ?_
      refine rsr (gtI_q (w := iI (e16 + 1)) (rk_160 (hR.fr f24)) (e24_k0)) ?_
      refine rsr (asI_q (n := 4000) (z := e7) (y := (e16 + 1)) (rk_196 (hR.fr f24)) (congrArg iI p15_0) (by omega) (rfl)) ?_
      refine rsr (jv_e) ?_
      have tb25 := (Tyb.wh (G := (pj (pu G16 e16 [25, e, -2, e, ut, mu, 0]) e7 (e16 + 1))) (dp := dp) (j := e7) (p := e16) (a := e) (q := (e16 + 1)) (s := s) (Tye.ca (ty9.ag (fun k t p z => (pj_t (by omega)).trans ((pu_n (by omega)).trans ((ag16 _ _ (by omega)).trans ((pu_n (by omega))))))) (by omega) (by omega)) ((Tyb.ca (tp16.ag (fun k t p z => (pj_t (by omega)).trans ((pu_n (by omega))))) (by omega) (by omega)).lo (Int.le_refl _) (by omega)) ⟨((pj_k (by decide)).trans ((pu_n (by omega)).trans ((ag16 _ _ (by omega))))).trans (pu_e (by omega)), ((pj_k (by decide)).trans ((pu_n (by omega)).trans ((ag16 _ _ (by omega))))).trans (pu_e (by omega)), pj_3⟩ ⟨((pj_t (by omega))).trans (pu_e (by omega)), ((pj_t (by omega))).trans (pu_e (by omega)), ((pj_t (by omega))).trans (pu_e (by omega))⟩ (by omega) ⟨by omega, by omega⟩ (by omega))
      exact Rs.ok (Or.inl ⟨i16, s, Hl, ⟨(e16 + 1), u16, uc16, (pj (pu G16 e16 [25, e, -2, e, ut, mu, 0]) e7 (e16 + 1)), U16, X16, (Fr.sI (inW_c (by decide) _) f21), (Fr.sI (inW_c (by decide) _) f24), ⟨(sI_ne (by decide)).trans ((g21.i _ _ (by decide)).trans (q16_12)), (sI_ne (by decide)).trans ((g21.i _ _ (by decide)).trans (q16_13)), (sI_ne (by decide)).trans ((g21.i _ _ (by decide)).trans (q16_10)), (sI_ne (by decide)).trans (e21_k0), (sI_ne (by decide)).trans ((g21.i _ _ (by decide)).trans (q16_16)), (sI_ne (by decide)).trans ((g21.i _ _ (by decide)).trans (q16_19))⟩, ⟨(sI_ne (by decide)).trans ((g24.i _ _ (by decide)).trans (w16_36)), (sI_ne (by decide)).trans ((g24.i _ _ (by decide)).trans (w16_37)), (sI_ne (by decide)).trans ((g24.i _ _ (by decide)).trans (w16_38)), (sI_ne (by decide)).trans ((g24.i _ _ (by decide)).trans (w16_41)), (sI_ne (by decide)).trans (e24_k0), (sI_ne (by decide)).trans ((g24.i _ _ (by decide)).trans (w16_51)), (sI_ne (by decide)).trans ((g24.i _ _ (by decide)).trans (w16_53)), (sI_ne (by decide)).trans ((g24.i _ _ (by decide)).trans (w16_50)), ((w16_n.fr g24 (by decide) (by decide)).fr (W := W_r2) (Fr.sI (inW_c (by decide) _) Fr.r) (by decide) (by decide))⟩, ⟨(CA1.pt (v := (e16 + 1)) (CA1.em (q := (e16 + 1)) ca16 (by omega) p21_1 (by omega)) (by omega)), (RA1.pt (v := (e16 + 1)) (RA1.em (q := (e16 + 1)) ra16 (by omega) p24_1 (by omega)) (by omega)), ((lc16.fr g21 (by decide)).fr (W := W_c2) (Fr.sI (inW_c (by decide) _) Fr.r) (by decide)), ((lr16.fr g24 (by decide)).fr (W := W_r2) (Fr.sI (inW_c (by decide) _) Fr.r) (by decide)), ((cu16.fr g21 (by decide)).fr (W := W_c2) (Fr.sI (inW_c (by decide) _) Fr.r) (by decide)), ((ru16.fr g24 (by decide)).fr (W := W_r2) (Fr.sI (inW_c (by decide) _) Fr.r) (by decide))⟩, ⟨by omega, by omega, by omega, by omega, by omega, by omega, by omega, by omega, by omega, by omega, by omega, by omega⟩, ⟨by omega, by omega, by omega, by omega, by omega, by omega⟩, (Ag.pj (Ag.pu (Ag.t (Ag.pu (Ag.t Ag.r ag7 (by omega)) (by omega)) ag16 (by omega)) (by omega)) (by omega)), (Ag.t (Ag.t Ag.r au7 (by omega)) au16 (by omega)), (AgL.t (AgL.t AgL.r ax7 (by omega)) ax16 (by omega)), tb25, du22, ((ku16.fr g21 (by decide)).fr (W := W_c2) (Fr.sI (inW_c (by decide) _) Fr.r) (by decide)), ⟨by omega, fun _ _ _ => rfl⟩⟩⟩)
    ·
      have FL16 : Fr W_cp Mc Mx16 := Fr.t f13 fl16
      have FR16 : Fr W_rp Mr Nx16 := Fr.t (Fr.m f15 W_rx_p) fr16
      obtain ⟨ti16, tz16, tn16, tu16, t1316, t1016, t1116, t1216, t916, t1616, t1916, tb16⟩ := tc16
      obtain ⟨re16, rn16, ru16, rm16, rt16, u4116, u4216, u4316, u5116, u5316, u4816, u4916, ub16⟩ := tr16
      refine rsl (cV_e rfl) ?_
      refine rsr (cV_e rfl) ?_
      refine rsl (vC_e (ck_65 (hC.fr FL16))) ?_
      refine RlI (y87 (by omega) (hC.fr FL16) (hTk.fr (WL := W_cp) FL16 (by decide)) (t1216) (t1316) (t1016) (t1116) (t916) (t1616) (t1916) (li_25) (rfl) (by omega)) fun v Ma27 h27 => ?_
      obtain ⟨rv26, sz26, sn26, uc26, rfl, g27, e27_sz26, e27_sn26, e27_uc26, e27_k0, e27_k1, e27_k2, e27_k3, p27_0, p27_1, p27_2, p27_3⟩ := h27
      have f27 : Fr W_cp Mc Ma27 := Fr.t FL16 (Fr.m g27 (by decide))
      refine rsl (cI_e rfl) ?_
      refine rsl (gtP_q (w := some 73) (ck_65 (hC.fr f27)) (cf_65_6 (hC.fr f27))) ?_
      refine rsl (gtI_q (w := iI sz26) (ck_65 (hC.fr f27)) (e27_sz26)) ?_
      refine rsl (asI_q (n := 4096) (z := e7) (y := sz26) (ck_73 (hC.fr f27)) (congrArg iI p13_0) (by omega) (rfl)) ?_
      refine rsr (vC_e (rk_160 (hR.fr FR16))) ?_
      refine RrI (x196_s (by omega) (hR.fr FR16) (u4116) (u4216) (u4316) (u5116) (u5316) (u4816) (u4916) (li_25) (rfl) (by omega)) fun v Ma29 h29 => ?_
      obtain ⟨rv28, em28, rfl, g29, e29_em28, e29_k0, e29_k1, e29_k2, e29_k3, e29_k4, p29_0, p29_1⟩ := h29
      have f29 : Fr W_rp Mr Ma29 := Fr.t FR16 (Fr.m g29 (by decide))
      refine rsr (cI_e rfl) ?_
      refine rsr (gtP_q (w := some 196) (rk_160 (hR.fr f29)) (rf_45 (hR.fr f29))) ?_
      refine rsr (gtI_q (w := iI em28) (rk_160 (hR.fr f29)) (e29_em28)) ?_
      refine rsr (asI_q (n := 4000) (z := e7) (y := em28) (rk_196 (hR.fr f29)) (congrArg iI p15_0) (by omega) (rfl)) ?_
      refine rsr (jv_e) ?_
      exact Rs.ok (Or.inr ⟨F16, P16, (Fr.sI (inW_c (by decide) _) f27), (Fr.sI (inW_c (by decide) _) f29), ⟨ti16, sz26, sn26, uc26, (sI_ne (by decide)).trans (e27_k0), (sI_ne (by decide)).trans (e27_k1), (sI_ne (by decide)).trans (e27_k2), (sI_ne (by decide)).trans (e27_k3), (sI_ne (by decide)).trans (e27_sz26), (sI_ne (by decide)).trans (e27_sn26), (sI_ne (by decide)).trans (e27_uc26), by omega⟩, ⟨em28, rn16, ru16, rm16, rt16, (sI_ne (by decide)).trans (e29_k0), (sI_ne (by decide)).trans (e29_k1), (sI_ne (by decide)).trans (e29_em28), (sI_ne (by decide)).trans (e29_k2), (sI_ne (by decide)).trans (e29_k3), (sI_ne (by decide)).trans (e29_k4), (sI_ne (by decide)).trans ((g29.i _ _ (by decide)).trans (u4916)), by omega⟩⟩)
  ·
    have FL7 : Fr W_cp Mc Mx7 := Fr.t (Fr.sI (by decide) (Fr.sI (by decide) Fr.r)) fl7
    have FR7 : Fr W_rp Mr Nx7 := Fr.t (Fr.m f6 W_rx_p) fr7
    obtain ⟨ti7, tz7, tn7, tu7, t137, t107, t117, t127, t97, t167, t197, tb7⟩ := tc7
    obtain ⟨re7, rn7, ru7, rm7, rt7, u417, u427, u437, u517, u537, u487, u497, ub7⟩ := tr7
    refine rsl (cV_e rfl) ?_
    refine rsr (cV_e rfl) ?_
    refine rsl (vC_e (ck_65 (hC.fr FL7))) ?_
    refine RlI (y87 (by omega) (hC.fr FL7) (hTk.fr (WL := W_cp) FL7 (by decide)) (t127) (t137) (t107) (t117) (t97) (t167) (t197) (li_24) (li_0) (by omega)) fun v Ma31 h31 => ?_
    obtain ⟨rv30, sz30, sn30, uc30, rfl, g31, e31_sz30, e31_sn30, e31_uc30, e31_k0, e31_k1, e31_k2, e31_k3, p31_0, p31_1, p31_2, p31_3⟩ := h31
    have f31 : Fr W_cp Mc Ma31 := Fr.t FL7 (Fr.m g31 (by decide))
    refine rsl (cI_e rfl) ?_
    refine rsl (vC_e (ck_65 (hC.fr f31))) ?_
    refine RlV (y89 (by omega) (hC.fr f31) (hTk.fr (WL := W_cp) f31 (by decide)) (e31_k3) (e31_k0) (e31_k1) (e31_k2) (e31_sz30) (e31_sn30) (e31_uc30) (hv0) (by omega)) fun v Ma33 h33 => ?_
    obtain ⟨sz32, sn32, uc32, g33, e33_sz32, e33_sn32, e33_uc32, e33_k0, e33_k1, e33_k2, e33_k3, p33_0, p33_1, p33_2⟩ := h33
    have f33 : Fr W_cp Mc Ma33 := Fr.t f31 (Fr.m g33 (by decide))
    refine rsl (cV_e rfl) ?_
    refine rsl (vC_e (ck_65 (hC.fr f33))) ?_
    refine RlI (y87 (by omega) (hC.fr f33) (hTk.fr (WL := W_cp) f33 (by decide)) (e33_k3) (e33_k0) (e33_k1) (e33_k2) (e33_sz32) (e33_sn32) (e33_uc32) (li_25) (rfl) (by omega)) fun v Ma35 h35 => ?_
    obtain ⟨rv34, sz34, sn34, uc34, rfl, g35, e35_sz34, e35_sn34, e35_uc34, e35_k0, e35_k1, e35_k2, e35_k3, p35_0, p35_1, p35_2, p35_3⟩ := h35
    have f35 : Fr W_cp Mc Ma35 := Fr.t f33 (Fr.m g35 (by decide))
    refine rsl (cI_e rfl) ?_
    refine rsl (gtP_q (w := some 73) (ck_65 (hC.fr f35)) (cf_65_6 (hC.fr f35))) ?_
    refine rsl (gtI_q (w := iI sz34) (ck_65 (hC.fr f35)) (e35_sz34)) ?_
    refine rsl (asI_q (n := 4096) (z := rv30) (y := sz34) (ck_73 (hC.fr f35)) (rfl) (by omega) (rfl)) ?_
    refine rsr (vC_e (rk_160 (hR.fr FR7))) ?_
    refine RrI (x196_s (by omega) (hR.fr FR7) (u417) (u427) (u437) (u517) (u537) (u487) (u497) (li_24) (li_0) (by omega)) fun v Ma37 h37 => ?_
    obtain ⟨rv36, em36, rfl, g37, e37_em36, e37_k0, e37_k1, e37_k2, e37_k3, e37_k4, p37_0, p37_1⟩ := h37
    have f37 : Fr W_rp Mr Ma37 := Fr.t FR7 (Fr.m g37 (by decide))
    refine rsr (cI_e rfl) ?_
    refine rsr (vC_e (rk_160 (hR.fr f37))) ?_
    refine RrV (x213_s (by omega) (hR.fr f37) (e37_k0) (e37_k1) (e37_em36) (e37_k2) (e37_k3) (e37_k4) ((g37.i _ _ (by decide)).trans (u497))  (by omega)) fun v Ma39 h39 => ?_
    obtain ⟨em38, g39, e39_em38, e39_k0, e39_k1, e39_k2, e39_k3, e39_k4, p39_0⟩ := h39
    have f39 : Fr W_rp Mr Ma39 := Fr.t f37 (Fr.m g39 (by decide))
    refine rsr (cV_e rfl) ?_
    refine rsr (vC_e (rk_160 (hR.fr f39))) ?_
    refine RrI (x196_s (by omega) (hR.fr f39) (e39_k0) (e39_k1) (e39_em38) (e39_k2) (e39_k3) (e39_k4) ((g39.i _ _ (by decide)).trans ((g37.i _ _ (by decide)).trans (u497))) (li_25) (rfl) (by omega)) fun v Ma41 h41 => ?_
    obtain ⟨rv40, em40, rfl, g41, e41_em40, e41_k0, e41_k1, e41_k2, e41_k3, e41_k4, p41_0, p41_1⟩ := h41
    have f41 : Fr W_rp Mr Ma41 := Fr.t f39 (Fr.m g41 (by decide))
    refine rsr (cI_e rfl) ?_
    refine rsr (gtP_q (w := some 196) (rk_160 (hR.fr f41)) (rf_45 (hR.fr f41))) ?_
    refine rsr (gtI_q (w := iI em40) (rk_160 (hR.fr f41)) (e41_em40)) ?_
    refine rsr (asI_q (n := 4000) (z := rv36) (y := em40) (rk_196 (hR.fr f41)) (rfl) (by omega) (rfl)) ?_
    refine rsr (jv_e) ?_
    exact Rs.ok (Or.inr ⟨F7, P7, (Fr.sI (inW_c (by decide) _) f35), (Fr.sI (inW_c (by decide) _) f41), ⟨ti7, sz34, sn34, uc34, (sI_ne (by decide)).trans (e35_k0), (sI_ne (by decide)).trans (e35_k1), (sI_ne (by decide)).trans (e35_k2), (sI_ne (by decide)).trans (e35_k3), (sI_ne (by decide)).trans (e35_sz34), (sI_ne (by decide)).trans (e35_sn34), (sI_ne (by decide)).trans (e35_uc34), by omega⟩, ⟨em40, rn7, ru7, rm7, rt7, (sI_ne (by decide)).trans (e41_k0), (sI_ne (by decide)).trans (e41_k1), (sI_ne (by decide)).trans (e41_em40), (sI_ne (by decide)).trans (e41_k2), (sI_ne (by decide)).trans (e41_k3), (sI_ne (by decide)).trans (e41_k4), (sI_ne (by decide)).trans ((g41.i _ _ (by decide)).trans ((g39.i _ _ (by decide)).trans ((g37.i _ _ (by decide)).trans (u497)))), by omega⟩⟩)
