theorem p_st218 {D : Nat} {dp : Int} (hD : 20 ≤ D) (hE : Pair D 99 [0] 211 14 dp) (hB : PairB D dp) : PairT 218 94 [] (D + 10) dp := by
  intro d d2 hd hd2 T n m kd pl E tx ua ut mu Mc Mr G U Hl X i e s u uc v0 hS hx hsc hsr hrw hbd hK hv0
  obtain ⟨d, rfl⟩ : ∃ e, d = e + 1 := ⟨d - 1, by omega⟩
  obtain ⟨d2, rfl⟩ : ∃ e, d2 = e + 1 := ⟨d2 - 1, by omega⟩
  show Rs (runX (d + 1) 94 [va_rf (some 65), .int v0] Mc) (runX (d2 + 1) 214 [va_rf (some 160)] Mr) _
  rw [r94]; unfold b94; rw [aR_e, aI_e, aZ_e]; unfold c94; rw [r214]; unfold b214; rw [aR_e, aZ_e]; unfold c214
  have hCx := hx
  obtain ⟨hC, hR, hTk, hT, hW, ⟨hu1, hu2, hu3, hu4⟩, h49, h48, ⟨hb1, hb2, hb3, hb4⟩⟩ := hx
  obtain ⟨bb_0, bb_1, bb_2, bb_3, bb_4, bb_5, bb_6, bb_7, bb_8, bb_9, bb_10, bb_11⟩ := hbd
  have kua : KU uc Mc Mc := KU.r
  obtain ⟨qa_12, qa_13, qa_10, qa_9, qa_16, qa_19⟩ := hsc
  obtain ⟨wa_36, wa_37, wa_38, wa_41, wa_43, wa_51, wa_53, wa_50, wa_n⟩ := hsr
  obtain ⟨caa, raa, lca, lra, cua, rua⟩ := hrw
  have hk1 := (hS.ok i (by omega) (by omega)).r
  have ty2 := (Tye.r (G := G) (a := e) (s := s))
  have du3 := (DU.r (ut := ut) (mu := mu) (c := uc) (G := G) (U := U) (X := X) (a := e) (u := u))
  refine rsl (vC_e (ck_65 hC)) ?_
  have hm4 : i + 1 < m := hS.more i (by omega) (by omega) (by omega)
  refine rsl (cV_e (a63q (by omega) hS hC (hTk.fr (WL := W_cp) Fr.r (by decide)) (qa_12) (qa_13) (qa_10) (i2 := (i + 1)) (by omega) (by omega))) ?_
  have hk5 := (hS.ok (i + 1) (by omega) (by omega)).r
  refine rsl (gtI_q (w := iI e) (ck_65 hC.sI.sI) ((sI_nej (by decide)).trans ((sI_nej (by decide)).trans (qa_9)))) ?_
  refine rsl (vC_e (ck_65 hC.sI.sI)) ?_
  refine rsr (gtI_q (w := iI ((kr (kd i)))) (rk_160 hR) (wa_36)) ?_
  refine rsr (jn_v) ?_
  refine rsr (swI_c) ?_
  refine rsr (if_neg (krI_n (k := 215) (rfl) (li_416) (hS.ok i (by omega) (by omega)) (by unfold KdOK sgk; omega) (by decide +kernel) (by omega) (by omega))) ?_
  refine rsr (swI_c) ?_
  refine rsr (if_neg (krI_n (k := 216) (rfl) (li_417) (hS.ok i (by omega) (by omega)) (by unfold KdOK sgk; omega) (by decide +kernel) (by omega) (by omega))) ?_
  refine rsr (swI_c) ?_
  refine rsr (if_neg (krI_n (k := 217) (rfl) (li_418) (hS.ok i (by omega) (by omega)) (by unfold KdOK sgk; omega) (by decide +kernel) (by omega) (by omega))) ?_
  refine rsr (swI_c) ?_
  refine rsr (if_pos (krI_p (k := 218) (rfl) (li_419) (by omega) (by decide +kernel))) ?_
  refine rsr (gtI_q (w := iI e) (rk_160 hR) (wa_43)) ?_
  refine rsr (vC_e (rk_160 hR)) ?_
  refine RrV (nx_ok (by omega) hS hR (hT.fr (W := W_rx) Fr.r (by decide) (by decide)) (fun i a b => (Fr.lc (W := W_rx) Fr.r _ (by decide) _).trans (hW i a b)) (i := i) (wa_41) (wa_38) (by omega) (by omega)) fun v Ma7 h7 => ?_
  obtain ⟨g7, e7_k0, e7_k1, e7_k2, p7_0⟩ := h7
  have f7 : Fr W_rx Mr Ma7 := Fr.t Fr.r (Fr.m g7 (by decide))
  refine rsr (cV_e rfl) ?_
  refine rsr (vC_e (rk_160 (hR.fr f7))) ?_
  refine Rb_VV (hE _ _ (by omega) (by omega) T n m kd pl E tx ua ut mu _ _ G U Hl X (i + 1) e s u uc _ hS (hCx.fr (Fr.sI (by decide) (Fr.sI (by decide) Fr.r)) f7) ⟨(sI_nej (by decide)).trans (sI_eq), sI_eq, (sI_nej (by decide)).trans ((sI_nej (by decide)).trans (qa_10)), (sI_nej (by decide)).trans ((sI_nej (by decide)).trans (qa_9)), (sI_nej (by decide)).trans ((sI_nej (by decide)).trans (qa_16)), (sI_nej (by decide)).trans ((sI_nej (by decide)).trans (qa_19))⟩ ⟨e7_k0, e7_k1, e7_k2, (g7.i _ _ (by decide)).trans (wa_41), (g7.i _ _ (by decide)).trans (wa_43), (g7.i _ _ (by decide)).trans (wa_51), (g7.i _ _ (by decide)).trans (wa_53), (g7.i _ _ (by decide)).trans (wa_50), p7_0⟩ ⟨(caa.fr (W := W_c0) (Fr.sI (by decide) (Fr.sI (by decide) Fr.r)) (by decide)), (raa.fr g7 (by decide)), (lca.fr (W := W_c0) (Fr.sI (by decide) (Fr.sI (by decide) Fr.r)) (by decide)), (lra.fr g7 (by decide)), (cua.fr (W := W_c0) (Fr.sI (by decide) (Fr.sI (by decide) Fr.r)) (by decide)), (rua.fr g7 (by decide))⟩ ⟨by omega, by omega, by omega, by omega, by omega, by omega, by omega, by omega, by omega, by omega, by omega, by omega⟩ (vs2 (li_0) (hv0))) fun v Mx8 w Nx8 hx8 => ?_
  rcases hx8 with ⟨i8, e8, u8, uc8, G8, U8, X8, fl8, fr8, sc8, sr8, rw8, bd8, mv8, ag8, au8, ax8, tp8, dp8, kv8⟩ | ⟨F8, P8, fl8, fr8, tc8, tr8⟩
  ·
    have FL8 : Fr W_cp Mc Mx8 := Fr.t (Fr.sI (by decide) (Fr.sI (by decide) Fr.r)) fl8
    have FR8 : Fr W_rx Mr Nx8 := Fr.t f7 fr8
    obtain ⟨bb8_0, bb8_1, bb8_2, bb8_3, bb8_4, bb8_5, bb8_6, bb8_7, bb8_8, bb8_9, bb8_10, bb8_11⟩ := bd8
    obtain ⟨q8_12, q8_13, q8_10, q8_9, q8_16, q8_19⟩ := sc8
    obtain ⟨w8_36, w8_37, w8_38, w8_41, w8_43, w8_51, w8_53, w8_50, w8_n⟩ := sr8
    obtain ⟨ca8, ra8, lc8, lr8, cu8, ru8⟩ := rw8
    have hk9 := (hS.ok i8 (by omega) (by omega)).r
    have ku8 := KU.t (kua.fr (W := W_c0) (Fr.sI (by decide) (Fr.sI (by decide) Fr.r)) (by decide)) kv8 (by omega)
    have ty10 := Tye.t (d3 := 1) ty2 ag8 tp8 (by omega)
    have du11 := DU.t du3 ag8 au8 ax8 dp8 (by omega)
    refine rsl (cV_e rfl) ?_
    refine rsr (cV_e rfl) ?_
    refine rsl (vC_e (ck_65 (hC.fr FL8))) ?_
    have du13 := DU.em (q := (e8 + 1)) (o := 24) (n := 0) (p := -2) (l := [0]) du11 (by omega) (by omega)
    refine RlI (a87 (by omega) (hC.fr FL8) (q8_9) (li_24) (li_0) (by omega)) fun v Ma14 h14 => ?_
    obtain ⟨r12, rfl, g14, e14_k0, p14_0, p14_1⟩ := h14
    have f14 : Fr W_cp Mc Ma14 := Fr.t FL8 (Fr.m g14 (by decide))
    refine rsl (cI_e rfl) ?_
    refine rsl (vC_e (ck_65 (hC.fr f14))) ?_
    refine rsr (vC_e (rk_160 (hR.fr FR8))) ?_
    refine RrI (a196 (by omega) (hR.fr FR8) (w8_43) ((FR8.i _ _ (by decide)).trans h49) ((FR8.i _ _ (by decide)).trans h48) (li_24) (li_0) (by omega)) fun v Ma16 h16 => ?_
    obtain ⟨r15, rfl, g16, e16_k0, p16_0, p16_1⟩ := h16
    have f16 : Fr W_rx Mr Ma16 := Fr.t FR8 (Fr.m g16 (by decide))
    refine rsr (cI_e rfl) ?_
    refine rsr (vC_e (rk_160 (hR.fr f16))) ?_
    refine Rb_VV (hB _ _ (by omega) (by omega) T n m kd pl E tx ua ut mu _ _ (pu G8 e8 [24, 0, -2, 0, ut, mu, 0]) U8 Hl X8 i8 (e8 + 1) s u8 uc8 _ hS (hCx.fr f14 f16) ⟨(g14.i _ _ (by decide)).trans (q8_12), (g14.i _ _ (by decide)).trans (q8_13), (g14.i _ _ (by decide)).trans (q8_10), e14_k0, (g14.i _ _ (by decide)).trans (q8_16), (g14.i _ _ (by decide)).trans (q8_19)⟩ ⟨(g16.i _ _ (by decide)).trans (w8_36), (g16.i _ _ (by decide)).trans (w8_37), (g16.i _ _ (by decide)).trans (w8_38), (g16.i _ _ (by decide)).trans (w8_41), e16_k0, (g16.i _ _ (by decide)).trans (w8_51), (g16.i _ _ (by decide)).trans (w8_53), (g16.i _ _ (by decide)).trans (w8_50), (w8_n.fr g16 (by decide) (by decide))⟩ ⟨(CA1.em ca8 (by omega) p14_1 rfl), (RA1.em ra8 (by omega) p16_1 rfl), (lc8.fr g14 (by decide)), (lr8.fr g16 (by decide)), (cu8.fr g14 (by decide)), (ru8.fr g16 (by decide))⟩ ⟨by omega, by omega, by omega, by omega, by omega, by omega, by omega, by omega, by omega, by omega, by omega, by omega⟩ (hv0)) fun v Mx17 w Nx17 hx17 => ?_
    rcases hx17 with ⟨i17, e17, u17, uc17, G17, U17, X17, fl17, fr17, sc17, sr17, rw17, bd17, mv17, ag17, au17, ax17, tp17, dp17, kv17, ⟨sl17, sh17⟩⟩ | ⟨F17, P17, fl17, fr17, tc17, tr17⟩
    ·
      have FL17 : Fr W_cp Mc Mx17 := Fr.t f14 fl17
      have FR17 : Fr W_rx Mr Nx17 := Fr.t f16 fr17
      obtain ⟨bb17_0, bb17_1, bb17_2, bb17_3, bb17_4, bb17_5, bb17_6, bb17_7, bb17_8, bb17_9, bb17_10, bb17_11⟩ := bd17
      obtain ⟨q17_12, q17_13, q17_10, q17_9, q17_16, q17_19⟩ := sc17
      obtain ⟨w17_36, w17_37, w17_38, w17_41, w17_43, w17_51, w17_53, w17_50, w17_n⟩ := sr17
      obtain ⟨ca17, ra17, lc17, lr17, cu17, ru17⟩ := rw17
      have hk18 := (hS.ok i17 (by omega) (by omega)).r
      have ku17 := KU.t (ku8.fr g14 (by decide)) kv17 (by omega)
      have du19 := DU.t du13 ag17 au17 ax17 dp17 (by omega)
      refine rsl (cV_e rfl) ?_
      refine rsr (cV_e rfl) ?_
      refine rsl (vC_e (ck_65 (hC.fr FL17))) ?_
      have du21 := DU.em (q := (e17 + 1)) (o := 25) (n := e) (p := -2) (l := [0]) du19 (by omega) (by omega)
      refine RlI (a87 (by omega) (hC.fr FL17) (q17_9) (li_25) (rfl) (by omega)) fun v Ma22 h22 => ?_
      obtain ⟨r20, rfl, g22, e22_k0, p22_0, p22_1⟩ := h22
      have f22 : Fr W_cp Mc Ma22 := Fr.t FL17 (Fr.m g22 (by decide))
      refine rsl (cI_e rfl) ?_
      refine rsl (gtP_q (w := some 73) (ck_65 (hC.fr f22)) (cf_65_6 (hC.fr f22))) ?_
      refine rsl (gtI_q (w := iI (e17 + 1)) (ck_65 (hC.fr f22)) (e22_k0)) ?_
      refine rsl (asI_q (n := 4096) (z := e8) (y := (e17 + 1)) (ck_73 (hC.fr f22)) (congrArg iI p14_0) (by omega) (rfl)) ?_
      have du23 := (DU.pj (j := e8) (v2 := (e17 + 1)) du21)
      refine rsr (vC_e (rk_160 (hR.fr FR17))) ?_
      refine RrI (a196 (by omega) (hR.fr FR17) (w17_43) ((FR17.i _ _ (by decide)).trans h49) ((FR17.i _ _ (by decide)).trans h48) (li_25) (rfl) (by omega)) fun v Ma25 h25 => ?_
      obtain ⟨r24, rfl, g25, e25_k0, p25_0, p25_1⟩ := h25
      have f25 : Fr W_rx Mr Ma25 := Fr.t FR17 (Fr.m g25 (by decide))
      refine rsr (cI_e rfl) ?_
      refine rsr (gtP_q (w := some 196) (rk_160 (hR.fr f25)) (rf_45 (hR.fr f25))) ?_
      refine rsr (gtI_q (w := iI (e17 + 1)) (rk_160 (hR.fr f25)) (e25_k0)) ?_
      refine rsr (asI_q (n := 4000) (z := e8) (y := (e17 + 1)) (rk_196 (hR.fr f25)) (congrArg iI p16_0) (by omega) (rfl)) ?_
      refine rsr (jv_e) ?_
      have tb26 := (Tyb.wh (dp := dp) (j := e8) (p := e17) (a := e) (q := (e17 + 1)) (s := s) (Tye.ca (ty10.ag (fun k t p z => (pj_t (by omega)).trans ((pu_n (by omega)).trans ((ag17 _ _ (by omega)).trans ((pu_n (by omega))))))) (by omega) (by omega)) ((Tyb.ca (tp17.ag (fun k t p z => (pj_t (by omega)).trans ((pu_n (by omega))))) (by omega) (by omega)).lo (Int.le_refl _) (by omega)) ⟨((pj_k (by decide)).trans ((pu_n (by omega)).trans ((ag17 _ _ (by omega))))).trans (pu_e (by omega)), ((pj_k (by decide)).trans ((pu_n (by omega)).trans ((ag17 _ _ (by omega))))).trans (pu_e (by omega)), pj_3⟩ ⟨((pj_t (by omega))).trans (pu_e (by omega)), ((pj_t (by omega))).trans (pu_e (by omega)), ((pj_t (by omega))).trans (pu_e (by omega))⟩ (by omega) ⟨by omega, by omega⟩ (by omega))
      exact Rs.ok (Or.inl ⟨i17, s, Hl, ⟨(e17 + 1), u17, uc17, (pj (pu G17 e17 [25, e, -2, e, ut, mu, 0]) e8 (e17 + 1)), U17, X17, (Fr.sI (inW_c (by decide) _) f22), (Fr.sI (inW_c (by decide) _) f25), ⟨(sI_ne (by decide)).trans ((g22.i _ _ (by decide)).trans (q17_12)), (sI_ne (by decide)).trans ((g22.i _ _ (by decide)).trans (q17_13)), (sI_ne (by decide)).trans ((g22.i _ _ (by decide)).trans (q17_10)), (sI_ne (by decide)).trans (e22_k0), (sI_ne (by decide)).trans ((g22.i _ _ (by decide)).trans (q17_16)), (sI_ne (by decide)).trans ((g22.i _ _ (by decide)).trans (q17_19))⟩, ⟨(sI_ne (by decide)).trans ((g25.i _ _ (by decide)).trans (w17_36)), (sI_ne (by decide)).trans ((g25.i _ _ (by decide)).trans (w17_37)), (sI_ne (by decide)).trans ((g25.i _ _ (by decide)).trans (w17_38)), (sI_ne (by decide)).trans ((g25.i _ _ (by decide)).trans (w17_41)), (sI_ne (by decide)).trans (e25_k0), (sI_ne (by decide)).trans ((g25.i _ _ (by decide)).trans (w17_51)), (sI_ne (by decide)).trans ((g25.i _ _ (by decide)).trans (w17_53)), (sI_ne (by decide)).trans ((g25.i _ _ (by decide)).trans (w17_50)), ((w17_n.fr g25 (by decide) (by decide)).fr (W := W_r2) (Fr.sI (inW_c (by decide) _) Fr.r) (by decide) (by decide))⟩, ⟨(CA1.pt (v := (e17 + 1)) (CA1.em ca17 (by omega) p22_1 rfl) (by omega)), (RA1.pt (v := (e17 + 1)) (RA1.em ra17 (by omega) p25_1 rfl) (by omega)), ((lc17.fr g22 (by decide)).fr (W := W_c2) (Fr.sI (inW_c (by decide) _) Fr.r) (by decide)), ((lr17.fr g25 (by decide)).fr (W := W_r2) (Fr.sI (inW_c (by decide) _) Fr.r) (by decide)), ((cu17.fr g22 (by decide)).fr (W := W_c2) (Fr.sI (inW_c (by decide) _) Fr.r) (by decide)), ((ru17.fr g25 (by decide)).fr (W := W_r2) (Fr.sI (inW_c (by decide) _) Fr.r) (by decide))⟩, ⟨by omega, by omega, by omega, by omega, by omega, by omega, by omega, by omega, by omega, by omega, by omega, by omega⟩, ⟨by omega, by omega, by omega, by omega, by omega, by omega⟩, (Ag.pj (Ag.pu (Ag.t (Ag.pu (Ag.t Ag.r ag8 (by omega)) (by omega)) ag17 (by omega)) (by omega)) (by omega)), (Ag.t (Ag.t Ag.r au8 (by omega)) au17 (by omega)), (AgL.t (AgL.t AgL.r ax8 (by omega)) ax17 (by omega)), tb26, du23, ((ku17.fr g22 (by decide)).fr (W := W_c2) (Fr.sI (inW_c (by decide) _) Fr.r) (by decide)), ⟨by omega, fun _ _ _ => rfl⟩⟩⟩)
    ·
      have FL17 : Fr W_cp Mc Mx17 := Fr.t f14 fl17
      have FR17 : Fr W_rp Mr Nx17 := Fr.t (Fr.m f16 W_rx_p) fr17
      obtain ⟨ti17, tz17, tn17, tu17, t1317, t1017, t1117, t1217, t917, t1617, t1917, tb17⟩ := tc17
      obtain ⟨re17, rn17, ru17, rm17, rt17, u4117, u4217, u4317, u5117, u5317, u4817, u4917, ub17⟩ := tr17
      refine rsl (cV_e rfl) ?_
      refine rsr (cV_e rfl) ?_
      refine rsl (vC_e (ck_65 (hC.fr FL17))) ?_
      refine RlI (y87 (by omega) (hC.fr FL17) (hTk.fr (WL := W_cp) FL17 (by decide)) (t1217) (t1317) (t1017) (t1117) (t917) (t1617) (t1917) (li_25) (rfl) (by omega)) fun v Ma28 h28 => ?_
      obtain ⟨rv27, sz27, sn27, uc27, rfl, g28, e28_sz27, e28_sn27, e28_uc27, e28_k0, e28_k1, e28_k2, e28_k3, p28_0, p28_1, p28_2, p28_3⟩ := h28
      have f28 : Fr W_cp Mc Ma28 := Fr.t FL17 (Fr.m g28 (by decide))
      refine rsl (cI_e rfl) ?_
      refine rsl (gtP_q (w := some 73) (ck_65 (hC.fr f28)) (cf_65_6 (hC.fr f28))) ?_
      refine rsl (gtI_q (w := iI sz27) (ck_65 (hC.fr f28)) (e28_sz27)) ?_
      refine rsl (asI_q (n := 4096) (z := e8) (y := sz27) (ck_73 (hC.fr f28)) (congrArg iI p14_0) (by omega) (rfl)) ?_
      refine rsr (vC_e (rk_160 (hR.fr FR17))) ?_
      refine RrI (x196_s (by omega) (hR.fr FR17) (u4117) (u4217) (u4317) (u5117) (u5317) (u4817) (u4917) (li_25) (rfl) (by omega)) fun v Ma30 h30 => ?_
      obtain ⟨rv29, em29, rfl, g30, e30_em29, e30_k0, e30_k1, e30_k2, e30_k3, e30_k4, p30_0, p30_1⟩ := h30
      have f30 : Fr W_rp Mr Ma30 := Fr.t FR17 (Fr.m g30 (by decide))
      refine rsr (cI_e rfl) ?_
      refine rsr (gtP_q (w := some 196) (rk_160 (hR.fr f30)) (rf_45 (hR.fr f30))) ?_
      refine rsr (gtI_q (w := iI em29) (rk_160 (hR.fr f30)) (e30_em29)) ?_
      refine rsr (asI_q (n := 4000) (z := e8) (y := em29) (rk_196 (hR.fr f30)) (congrArg iI p16_0) (by omega) (rfl)) ?_
      refine rsr (jv_e) ?_
      exact Rs.ok (Or.inr ⟨F17, P17, (Fr.sI (inW_c (by decide) _) f28), (Fr.sI (inW_c (by decide) _) f30), ⟨ti17, sz27, sn27, uc27, (sI_ne (by decide)).trans (e28_k0), (sI_ne (by decide)).trans (e28_k1), (sI_ne (by decide)).trans (e28_k2), (sI_ne (by decide)).trans (e28_k3), (sI_ne (by decide)).trans (e28_sz27), (sI_ne (by decide)).trans (e28_sn27), (sI_ne (by decide)).trans (e28_uc27), by omega⟩, ⟨em29, rn17, ru17, rm17, rt17, (sI_ne (by decide)).trans (e30_k0), (sI_ne (by decide)).trans (e30_k1), (sI_ne (by decide)).trans (e30_em29), (sI_ne (by decide)).trans (e30_k2), (sI_ne (by decide)).trans (e30_k3), (sI_ne (by decide)).trans (e30_k4), (sI_ne (by decide)).trans ((g30.i _ _ (by decide)).trans (u4917)), by omega⟩⟩)
  ·
    have FL8 : Fr W_cp Mc Mx8 := Fr.t (Fr.sI (by decide) (Fr.sI (by decide) Fr.r)) fl8
    have FR8 : Fr W_rp Mr Nx8 := Fr.t (Fr.m f7 W_rx_p) fr8
    obtain ⟨ti8, tz8, tn8, tu8, t138, t108, t118, t128, t98, t168, t198, tb8⟩ := tc8
    obtain ⟨re8, rn8, ru8, rm8, rt8, u418, u428, u438, u518, u538, u488, u498, ub8⟩ := tr8
    refine rsl (cV_e rfl) ?_
    refine rsr (cV_e rfl) ?_
    refine rsl (vC_e (ck_65 (hC.fr FL8))) ?_
    refine RlI (y87 (by omega) (hC.fr FL8) (hTk.fr (WL := W_cp) FL8 (by decide)) (t128) (t138) (t108) (t118) (t98) (t168) (t198) (li_24) (li_0) (by omega)) fun v Ma32 h32 => ?_
    obtain ⟨rv31, sz31, sn31, uc31, rfl, g32, e32_sz31, e32_sn31, e32_uc31, e32_k0, e32_k1, e32_k2, e32_k3, p32_0, p32_1, p32_2, p32_3⟩ := h32
    have f32 : Fr W_cp Mc Ma32 := Fr.t FL8 (Fr.m g32 (by decide))
    refine rsl (cI_e rfl) ?_
    refine rsl (vC_e (ck_65 (hC.fr f32))) ?_
    refine RlV (y89 (by omega) (hC.fr f32) (hTk.fr (WL := W_cp) f32 (by decide)) (e32_k3) (e32_k0) (e32_k1) (e32_k2) (e32_sz31) (e32_sn31) (e32_uc31) (hv0) (by omega)) fun v Ma34 h34 => ?_
    obtain ⟨sz33, sn33, uc33, g34, e34_sz33, e34_sn33, e34_uc33, e34_k0, e34_k1, e34_k2, e34_k3, p34_0, p34_1, p34_2⟩ := h34
    have f34 : Fr W_cp Mc Ma34 := Fr.t f32 (Fr.m g34 (by decide))
    refine rsl (cV_e rfl) ?_
    refine rsl (vC_e (ck_65 (hC.fr f34))) ?_
    refine RlI (y87 (by omega) (hC.fr f34) (hTk.fr (WL := W_cp) f34 (by decide)) (e34_k3) (e34_k0) (e34_k1) (e34_k2) (e34_sz33) (e34_sn33) (e34_uc33) (li_25) (rfl) (by omega)) fun v Ma36 h36 => ?_
    obtain ⟨rv35, sz35, sn35, uc35, rfl, g36, e36_sz35, e36_sn35, e36_uc35, e36_k0, e36_k1, e36_k2, e36_k3, p36_0, p36_1, p36_2, p36_3⟩ := h36
    have f36 : Fr W_cp Mc Ma36 := Fr.t f34 (Fr.m g36 (by decide))
    refine rsl (cI_e rfl) ?_
    refine rsl (gtP_q (w := some 73) (ck_65 (hC.fr f36)) (cf_65_6 (hC.fr f36))) ?_
    refine rsl (gtI_q (w := iI sz35) (ck_65 (hC.fr f36)) (e36_sz35)) ?_
    refine rsl (asI_q (n := 4096) (z := rv31) (y := sz35) (ck_73 (hC.fr f36)) (rfl) (by omega) (rfl)) ?_
    refine rsr (vC_e (rk_160 (hR.fr FR8))) ?_
    refine RrI (x196_s (by omega) (hR.fr FR8) (u418) (u428) (u438) (u518) (u538) (u488) (u498) (li_24) (li_0) (by omega)) fun v Ma38 h38 => ?_
    obtain ⟨rv37, em37, rfl, g38, e38_em37, e38_k0, e38_k1, e38_k2, e38_k3, e38_k4, p38_0, p38_1⟩ := h38
    have f38 : Fr W_rp Mr Ma38 := Fr.t FR8 (Fr.m g38 (by decide))
    refine rsr (cI_e rfl) ?_
    refine rsr (vC_e (rk_160 (hR.fr f38))) ?_
    refine RrV (x213_s (by omega) (hR.fr f38) (e38_k0) (e38_k1) (e38_em37) (e38_k2) (e38_k3) (e38_k4) ((g38.i _ _ (by decide)).trans (u498))  (by omega)) fun v Ma40 h40 => ?_
    obtain ⟨em39, g40, e40_em39, e40_k0, e40_k1, e40_k2, e40_k3, e40_k4, p40_0⟩ := h40
    have f40 : Fr W_rp Mr Ma40 := Fr.t f38 (Fr.m g40 (by decide))
    refine rsr (cV_e rfl) ?_
    refine rsr (vC_e (rk_160 (hR.fr f40))) ?_
    refine RrI (x196_s (by omega) (hR.fr f40) (e40_k0) (e40_k1) (e40_em39) (e40_k2) (e40_k3) (e40_k4) ((g40.i _ _ (by decide)).trans ((g38.i _ _ (by decide)).trans (u498))) (li_25) (rfl) (by omega)) fun v Ma42 h42 => ?_
    obtain ⟨rv41, em41, rfl, g42, e42_em41, e42_k0, e42_k1, e42_k2, e42_k3, e42_k4, p42_0, p42_1⟩ := h42
    have f42 : Fr W_rp Mr Ma42 := Fr.t f40 (Fr.m g42 (by decide))
    refine rsr (cI_e rfl) ?_
    refine rsr (gtP_q (w := some 196) (rk_160 (hR.fr f42)) (rf_45 (hR.fr f42))) ?_
    refine rsr (gtI_q (w := iI em41) (rk_160 (hR.fr f42)) (e42_em41)) ?_
    refine rsr (asI_q (n := 4000) (z := rv37) (y := em41) (rk_196 (hR.fr f42)) (rfl) (by omega) (rfl)) ?_
    refine rsr (jv_e) ?_
    exact Rs.ok (Or.inr ⟨F8, P8, (Fr.sI (inW_c (by decide) _) f36), (Fr.sI (inW_c (by decide) _) f42), ⟨ti8, sz35, sn35, uc35, (sI_ne (by decide)).trans (e36_k0), (sI_ne (by decide)).trans (e36_k1), (sI_ne (by decide)).trans (e36_k2), (sI_ne (by decide)).trans (e36_k3), (sI_ne (by decide)).trans (e36_sz35), (sI_ne (by decide)).trans (e36_sn35), (sI_ne (by decide)).trans (e36_uc35), by omega⟩, ⟨em41, rn8, ru8, rm8, rt8, (sI_ne (by decide)).trans (e42_k0), (sI_ne (by decide)).trans (e42_k1), (sI_ne (by decide)).trans (e42_em41), (sI_ne (by decide)).trans (e42_k2), (sI_ne (by decide)).trans (e42_k3), (sI_ne (by decide)).trans (e42_k4), (sI_ne (by decide)).trans ((g42.i _ _ (by decide)).trans ((g40.i _ _ (by decide)).trans ((g38.i _ _ (by decide)).trans (u498)))), by omega⟩⟩)
