theorem p_st216 {D : Nat} {dp : Int} (hD : 20 ≤ D) (hE : Pair D 99 [0] 211 14 dp) (hB : PairB D dp) : PairT 216 93 [] (D + 10) dp := by
  intro d d2 hd hd2 T n m kd pl E tx ua ut mu Mc Mr G U Hl X i e s u uc v0 hS hx hsc hsr hrw hbd hK hv0
  obtain ⟨d, rfl⟩ : ∃ e, d = e + 1 := ⟨d - 1, by omega⟩
  obtain ⟨d2, rfl⟩ : ∃ e, d2 = e + 1 := ⟨d2 - 1, by omega⟩
  show Rs (runX (d + 1) 93 [va_rf (some 65), .int v0] Mc) (runX (d2 + 1) 214 [va_rf (some 160)] Mr) _
  rw [r93]; unfold b93; rw [aR_e, aI_e, aZ_e]; unfold c93; rw [r214]; unfold b214; rw [aR_e, aZ_e]; unfold c214
  have hCx := hx
  obtain ⟨hC, hR, hTk, hT, hW, ⟨hu1, hu2, hu3, hu4⟩, h49, h48, ⟨hb1, hb2, hb3, hb4⟩⟩ := hx
  obtain ⟨bb_0, bb_1, bb_2, bb_3, bb_4, bb_5, bb_6, bb_7, bb_8, bb_9, bb_10, bb_11⟩ := hbd
  have kua : KU uc Mc Mc := KU.r
  obtain ⟨qa_12, qa_13, qa_10, qa_9, qa_16, qa_19⟩ := hsc
  obtain ⟨wa_36, wa_37, wa_38, wa_41, wa_43, wa_51, wa_53, wa_50, wa_n⟩ := hsr
  obtain ⟨caa, raa, lca, lra, cua, rua⟩ := hrw
  have hk1 := (hS.ok i (by omega) (by omega)).r
  have ty2 := (Tye.r (G := G) (a := e) (s := s))
  have du3 := (DU.r (ut := ut) (mu := mu) (c := uc) (G := G) (U := U) (X := X) (a := e) (u := u))
  refine rsl (vC_e (ck_65 hC)) ?_
  have hm4 : i + 1 < m := hS.more i (by omega) (by omega) (by omega)
  refine rsl (cV_e (a63q (by omega) hS hC (hTk.fr (WL := W_cp) Fr.r (by decide)) (qa_12) (qa_13) (qa_10) (i2 := (i + 1)) (by omega) (by omega))) ?_
  have hk5 := (hS.ok (i + 1) (by omega) (by omega)).r
  refine rsl (vC_e (ck_65 hC.sI.sI)) ?_
  refine rsr (gtI_q (w := iI ((kr (kd i)))) (rk_160 hR) (wa_36)) ?_
  refine rsr (jn_v) ?_
  refine rsr (swI_c) ?_
  refine rsr (if_neg (krI_n (k := 215) (rfl) (li_416) (hS.ok i (by omega) (by omega)) (by unfold KdOK sgk; omega) (by decide +kernel) (by omega) (by omega))) ?_
  refine rsr (swI_c) ?_
  refine rsr (if_pos (krI_p (k := 216) (rfl) (li_417) (by omega) (by decide +kernel))) ?_
  refine rsr (vC_e (rk_160 hR)) ?_
  refine Rs_cVr ?_ (fun v M w N h => rs1 jv_e (Rt.ok h))
  obtain ⟨d2, rfl⟩ : ∃ e, d2 = e + 1 := ⟨d2 - 1, by omega⟩
  rw [r215]; unfold b215; rw [aR_e, aZ_e]; unfold c215
  refine rsr (vC_e (rk_160 hR)) ?_
  refine RrV (nx_ok (by omega) hS hR (hT.fr (W := W_rx) Fr.r (by decide) (by decide)) (fun i a b => (Fr.lc (W := W_rx) Fr.r _ (by decide) _).trans (hW i a b)) (i := i) (wa_41) (wa_38) (by omega) (by omega)) fun v Ma7 h7 => ?_
  obtain ⟨g7, e7_k0, e7_k1, e7_k2, p7_0⟩ := h7
  have f7 : Fr W_rx Mr Ma7 := Fr.t Fr.r (Fr.m g7 (by decide))
  refine rsr (cV_e rfl) ?_
  refine rsr (vC_e (rk_160 (hR.fr f7))) ?_
  refine Rb_VV (hE _ _ (by omega) (by omega) T n m kd pl E tx ua ut mu _ _ G U Hl X (i + 1) e s u uc _ hS (hCx.fr (Fr.sI (by decide) (Fr.sI (by decide) Fr.r)) f7) ⟨(sI_nej (by decide)).trans (sI_eq), sI_eq, (sI_nej (by decide)).trans ((sI_nej (by decide)).trans (qa_10)), (sI_nej (by decide)).trans ((sI_nej (by decide)).trans (qa_9)), (sI_nej (by decide)).trans ((sI_nej (by decide)).trans (qa_16)), (sI_nej (by decide)).trans ((sI_nej (by decide)).trans (qa_19))⟩ ⟨e7_k0, e7_k1, e7_k2, (g7.i _ _ (by decide)).trans (wa_41), (g7.i _ _ (by decide)).trans (wa_43), (g7.i _ _ (by decide)).trans (wa_51), (g7.i _ _ (by decide)).trans (wa_53), (g7.i _ _ (by decide)).trans (wa_50), p7_0⟩ ⟨(caa.fr (W := W_c0) (Fr.sI (by decide) (Fr.sI (by decide) Fr.r)) (by decide)), (raa.fr g7 (by decide)), (lca.fr (W := W_c0) (Fr.sI (by decide) (Fr.sI (by decide) Fr.r)) (by decide)), (lra.fr g7 (by decide)), (cua.fr (W := W_c0) (Fr.sI (by decide) (Fr.sI (by decide) Fr.r)) (by decide)), (rua.fr g7 (by decide))⟩ ⟨by omega, by omega, by omega, by omega, by omega, by omega, by omega, by omega, by omega, by omega, by omega, by omega⟩ (vs2 (li_0) (hv0))) fun v Mx8 w Nx8 hx8 => ?_
  rcases hx8 with ⟨i8, e8, u8, uc8, G8, U8, X8, fl8, fr8, sc8, sr8, rw8, bd8, mv8, ag8, au8, ax8, tp8, dp8, kv8⟩ | ⟨F8, P8, fl8, fr8, tc8, tr8⟩
  ·
    have FL8 : Fr W_cp Mc Mx8 := Fr.t (Fr.sI (by decide) (Fr.sI (by decide) Fr.r)) fl8
    have FR8 : Fr W_rx Mr Nx8 := Fr.t f7 fr8
    obtain ⟨bb8_0, bb8_1, bb8_2, bb8_3, bb8_4, bb8_5, bb8_6, bb8_7, bb8_8, bb8_9, bb8_10, bb8_11⟩ := bd8
    obtain ⟨q8_12, q8_13, q8_10, q8_9, q8_16, q8_19⟩ := sc8
    obtain ⟨w8_36, w8_37, w8_38, w8_41, w8_43, w8_51, w8_53, w8_50, w8_n⟩ := sr8
    obtain ⟨ca8, ra8, lc8, lr8, cu8, ru8⟩ := rw8
    have hk9 := (hS.ok i8 (by omega) (by omega)).r
    have ku8 := KU.t (kua.fr (W := W_c0) (Fr.sI (by decide) (Fr.sI (by decide) Fr.r)) (by decide)) kv8 (by omega)
    have ty10 := Tye.t (d3 := 1) ty2 ag8 tp8 (by omega)
    have du11 := DU.t du3 ag8 au8 ax8 dp8 (by omega)
    refine rsl (cV_e rfl) ?_
    refine rsr (cV_e rfl) ?_
    refine rsl (vC_e (ck_65 (hC.fr FL8))) ?_
    have du13 := DU.em (q := (e8 + 1)) (o := 24) (n := 0) (p := -2) (l := [0]) du11 (by omega) (by omega)
    refine RlI (a87 (by omega) (hC.fr FL8) (q8_9) (li_24) (li_0) (by omega)) fun v Ma14 h14 => ?_
    obtain ⟨r12, rfl, g14, e14_k0, p14_0, p14_1⟩ := h14
    have f14 : Fr W_cp Mc Ma14 := Fr.t FL8 (Fr.m g14 (by decide))
    refine rsl (cI_e rfl) ?_
    refine rsl (vC_e (ck_65 (hC.fr f14))) ?_
    refine rsr (vC_e (rk_160 (hR.fr FR8))) ?_
    refine RrI (a196 (by omega) (hR.fr FR8) (w8_43) ((FR8.i _ _ (by decide)).trans h49) ((FR8.i _ _ (by decide)).trans h48) (li_24) (li_0) (by omega)) fun v Ma16 h16 => ?_
    obtain ⟨r15, rfl, g16, e16_k0, p16_0, p16_1⟩ := h16
    have f16 : Fr W_rx Mr Ma16 := Fr.t FR8 (Fr.m g16 (by decide))
    refine rsr (cI_e rfl) ?_
    refine rsr (vC_e (rk_160 (hR.fr f16))) ?_
    refine Rb_VV (hB _ _ (by omega) (by omega) T n m kd pl E tx ua ut mu _ _ (pu G8 e8 [24, 0, -2, 0, ut, mu, 0]) U8 Hl X8 i8 (e8 + 1) s u8 uc8 _ hS (hCx.fr f14 f16) ⟨(g14.i _ _ (by decide)).trans (q8_12), (g14.i _ _ (by decide)).trans (q8_13), (g14.i _ _ (by decide)).trans (q8_10), e14_k0, (g14.i _ _ (by decide)).trans (q8_16), (g14.i _ _ (by decide)).trans (q8_19)⟩ ⟨(g16.i _ _ (by decide)).trans (w8_36), (g16.i _ _ (by decide)).trans (w8_37), (g16.i _ _ (by decide)).trans (w8_38), (g16.i _ _ (by decide)).trans (w8_41), e16_k0, (g16.i _ _ (by decide)).trans (w8_51), (g16.i _ _ (by decide)).trans (w8_53), (g16.i _ _ (by decide)).trans (w8_50), (w8_n.fr g16 (by decide) (by decide))⟩ ⟨(CA1.em ca8 (by omega) p14_1 rfl), (RA1.em ra8 (by omega) p16_1 rfl), (lc8.fr g14 (by decide)), (lr8.fr g16 (by decide)), (cu8.fr g14 (by decide)), (ru8.fr g16 (by decide))⟩ ⟨by omega, by omega, by omega, by omega, by omega, by omega, by omega, by omega, by omega, by omega, by omega, by omega⟩ (hv0)) fun v Mx17 w Nx17 hx17 => ?_
    rcases hx17 with ⟨i17, e17, u17, uc17, G17, U17, X17, fl17, fr17, sc17, sr17, rw17, bd17, mv17, ag17, au17, ax17, tp17, dp17, kv17, ⟨sl17, sh17⟩⟩ | ⟨F17, P17, fl17, fr17, tc17, tr17⟩
    ·
      have FL17 : Fr W_cp Mc Mx17 := Fr.t f14 fl17
      have FR17 : Fr W_rx Mr Nx17 := Fr.t f16 fr17
      obtain ⟨bb17_0, bb17_1, bb17_2, bb17_3, bb17_4, bb17_5, bb17_6, bb17_7, bb17_8, bb17_9, bb17_10, bb17_11⟩ := bd17
      obtain ⟨q17_12, q17_13, q17_10, q17_9, q17_16, q17_19⟩ := sc17
      obtain ⟨w17_36, w17_37, w17_38, w17_41, w17_43, w17_51, w17_53, w17_50, w17_n⟩ := sr17
      obtain ⟨ca17, ra17, lc17, lr17, cu17, ru17⟩ := rw17
      have hk18 := (hS.ok i17 (by omega) (by omega)).r
      have ku17 := KU.t (ku8.fr g14 (by decide)) kv17 (by omega)
      have du19 := DU.t du13 ag17 au17 ax17 dp17 (by omega)
      refine rsl (cV_e rfl) ?_
      refine rsr (cV_e rfl) ?_
      refine rsl (gtI_q (w := iI ((kd i17))) (ck_65 (hC.fr FL17)) (q17_13)) ?_
      refine rsl (jn_v) ?_
      by_cases c20 : ((kd i17)) = 217
      · refine rsl (if_pos (eqI_p (rfl) (li_217) (by omega))) ?_
        refine rsl (vC_e (ck_65 (hC.fr FL17))) ?_
        have hm21 : i17 + 1 < m := hS.more i17 (by omega) (by omega) (by omega)
        refine rsl (cV_e (a63q (by omega) hS (hC.fr FL17) (hTk.fr (WL := W_cp) FL17 (by decide)) (q17_12) (q17_13) (q17_10) (i2 := (i17 + 1)) (by omega) (by omega))) ?_
        have hk22 := (hS.ok (i17 + 1) (by omega) (by omega)).r
        refine rsl (vC_e (ck_65 (hC.fr FL17).sI.sI)) ?_
        have du24 := DU.em (q := (e17 + 1)) (o := 25) (n := 0) (p := -2) (l := [0]) du19 (by omega) (by omega)
        refine RlI (a87 (by omega) (hC.fr FL17).sI.sI ((sI_nej (by decide)).trans ((sI_nej (by decide)).trans (q17_9))) (li_25) (li_0) (by omega)) fun v Ma25 h25 => ?_
        obtain ⟨r23, rfl, g25, e25_k0, p25_0, p25_1⟩ := h25
        have f25 : Fr W_cp Mc Ma25 := Fr.t (Fr.sI (by decide) (Fr.sI (by decide) FL17)) (Fr.m g25 (by decide))
        refine rsl (cI_e rfl) ?_
        refine rsl (gtP_q (w := some 73) (ck_65 (hC.fr f25)) (cf_65_6 (hC.fr f25))) ?_
        refine rsl (gtI_q (w := iI (e17 + 1)) (ck_65 (hC.fr f25)) (e25_k0)) ?_
        refine rsl (asI_q (n := 4096) (z := e8) (y := (e17 + 1)) (ck_73 (hC.fr f25)) (congrArg iI p14_0) (by omega) (rfl)) ?_
        have du26 := (DU.pj (j := e8) (v2 := (e17 + 1)) du24)
        refine rsl (vC_e (ck_65 (hC.fr f25).sI)) ?_
        refine rsr (gtI_q (w := iI 0) (rk_160 (hR.fr FR17)) (w17_41)) ?_
        refine rsr (jn_v) ?_
        refine rsr (jn_v) ?_
        refine rsr (if_pos (eqI_p (rfl) (li_0) (by omega))) ?_
        refine rsr (gtI_q (w := iI ((kr (kd i17)))) (rk_160 (hR.fr FR17)) (w17_36)) ?_
        refine rsr (if_pos (krI_p (k := 217) (rfl) (li_418) (by omega) (by decide +kernel))) ?_
        refine rsr (vC_e (rk_160 (hR.fr FR17))) ?_
        refine RrI (a196 (by omega) (hR.fr FR17) (w17_43) ((FR17.i _ _ (by decide)).trans h49) ((FR17.i _ _ (by decide)).trans h48) (li_25) (li_0) (by omega)) fun v Ma28 h28 => ?_
        obtain ⟨r27, rfl, g28, e28_k0, p28_0, p28_1⟩ := h28
        have f28 : Fr W_rx Mr Ma28 := Fr.t FR17 (Fr.m g28 (by decide))
        refine rsr (cI_e rfl) ?_
        refine rsr (gtP_q (w := some 196) (rk_160 (hR.fr f28)) (rf_45 (hR.fr f28))) ?_
        refine rsr (gtI_q (w := iI (e17 + 1)) (rk_160 (hR.fr f28)) (e28_k0)) ?_
        refine rsr (asI_q (n := 4000) (z := e8) (y := (e17 + 1)) (rk_196 (hR.fr f28)) (congrArg iI p16_0) (by omega) (rfl)) ?_
        refine rsr (vC_e (rk_160 (hR.fr f28).sI)) ?_
        refine RrV (nx_ok (by omega) hS (hR.fr f28).sI (hT.fr (W := W_rx) (Fr.sI (inW_c (by decide) _) f28) (by decide) (by decide)) (fun i a b => (Fr.lc (W := W_rx) (Fr.sI (inW_c (by decide) _) f28) _ (by decide) _).trans (hW i a b)) (i := i17) ((sI_ne (by decide)).trans ((g28.i _ _ (by decide)).trans (w17_41))) ((sI_ne (by decide)).trans ((g28.i _ _ (by decide)).trans (w17_38))) (by omega) (by omega)) fun v Ma30 h30 => ?_
        obtain ⟨g30, e30_k0, e30_k1, e30_k2, p30_0⟩ := h30
        have f30 : Fr W_rx Mr Ma30 := Fr.t (Fr.sI (inW_c (by decide) _) f28) (Fr.m g30 (by decide))
        refine rsr (cV_e rfl) ?_
        refine rsr (vC_e (rk_160 (hR.fr f30))) ?_
        refine Rb_VV (hB _ _ (by omega) (by omega) T n m kd pl E tx ua ut mu _ _ (pj (pu G17 e17 [25, 0, -2, 0, ut, mu, 0]) e8 (e17 + 1)) U17 Hl X17 (i17 + 1) (e17 + 1) s u17 uc17 _ hS (hCx.fr (Fr.sI (inW_c (by decide) _) f25) f30) ⟨(sI_ne (by decide)).trans ((g25.i _ _ (by decide)).trans ((sI_nej (by decide)).trans (sI_eq))), (sI_ne (by decide)).trans ((g25.i _ _ (by decide)).trans (sI_eq)), (sI_ne (by decide)).trans ((g25.i _ _ (by decide)).trans ((sI_nej (by decide)).trans ((sI_nej (by decide)).trans (q17_10)))), (sI_ne (by decide)).trans (e25_k0), (sI_ne (by decide)).trans ((g25.i _ _ (by decide)).trans ((sI_nej (by decide)).trans ((sI_nej (by decide)).trans (q17_16)))), (sI_ne (by decide)).trans ((g25.i _ _ (by decide)).trans ((sI_nej (by decide)).trans ((sI_nej (by decide)).trans (q17_19))))⟩ ⟨e30_k0, e30_k1, e30_k2, (g30.i _ _ (by decide)).trans ((sI_ne (by decide)).trans ((g28.i _ _ (by decide)).trans (w17_41))), (g30.i _ _ (by decide)).trans ((sI_ne (by decide)).trans (e28_k0)), (g30.i _ _ (by decide)).trans ((sI_ne (by decide)).trans ((g28.i _ _ (by decide)).trans (w17_51))), (g30.i _ _ (by decide)).trans ((sI_ne (by decide)).trans ((g28.i _ _ (by decide)).trans (w17_53))), (g30.i _ _ (by decide)).trans ((sI_ne (by decide)).trans ((g28.i _ _ (by decide)).trans (w17_50))), p30_0⟩ ⟨(CA1.pt (v := (e17 + 1)) (CA1.em (ca17.fr (W := W_c0) (Fr.sI (by decide) (Fr.sI (by decide) Fr.r)) (by decide)) (by omega) p25_1 rfl) (by omega)), ((RA1.pt (v := (e17 + 1)) (RA1.em ra17 (by omega) p28_1 rfl) (by omega)).fr g30 (by decide)), (((lc17.fr (W := W_c0) (Fr.sI (by decide) (Fr.sI (by decide) Fr.r)) (by decide)).fr g25 (by decide)).fr (W := W_c2) (Fr.sI (inW_c (by decide) _) Fr.r) (by decide)), (((lr17.fr g28 (by decide)).fr (W := W_r2) (Fr.sI (inW_c (by decide) _) Fr.r) (by decide)).fr g30 (by decide)), (((cu17.fr (W := W_c0) (Fr.sI (by decide) (Fr.sI (by decide) Fr.r)) (by decide)).fr g25 (by decide)).fr (W := W_c2) (Fr.sI (inW_c (by decide) _) Fr.r) (by decide)), (((ru17.fr g28 (by decide)).fr (W := W_r2) (Fr.sI (inW_c (by decide) _) Fr.r) (by decide)).fr g30 (by decide))⟩ ⟨by omega, by omega, by omega, by omega, by omega, by omega, by omega, by omega, by omega, by omega, by omega, by omega⟩ (hv0)) fun v Mx31 w Nx31 hx31 => ?_
        rcases hx31 with ⟨i31, e31, u31, uc31, G31, U31, X31, fl31, fr31, sc31, sr31, rw31, bd31, mv31, ag31, au31, ax31, tp31, dp31, kv31, ⟨sl31, sh31⟩⟩ | ⟨F31, P31, fl31, fr31, tc31, tr31⟩
        ·
          have FL31 : Fr W_cp Mc Mx31 := Fr.t (Fr.sI (inW_c (by decide) _) f25) fl31
          have FR31 : Fr W_rx Mr Nx31 := Fr.t f30 fr31
          obtain ⟨bb31_0, bb31_1, bb31_2, bb31_3, bb31_4, bb31_5, bb31_6, bb31_7, bb31_8, bb31_9, bb31_10, bb31_11⟩ := bd31
          obtain ⟨q31_12, q31_13, q31_10, q31_9, q31_16, q31_19⟩ := sc31
          obtain ⟨w31_36, w31_37, w31_38, w31_41, w31_43, w31_51, w31_53, w31_50, w31_n⟩ := sr31
          obtain ⟨ca31, ra31, lc31, lr31, cu31, ru31⟩ := rw31
          have hk32 := (hS.ok i31 (by omega) (by omega)).r
          have ku31 := KU.t (((ku17.fr (W := W_c0) (Fr.sI (by decide) (Fr.sI (by decide) Fr.r)) (by decide)).fr g25 (by decide)).fr (W := W_c2) (Fr.sI (inW_c (by decide) _) Fr.r) (by decide)) kv31 (by omega)
          have du33 := DU.t du26 ag31 au31 ax31 dp31 (by omega)
          refine rsl (cV_e rfl) ?_
          refine rsr (cV_e rfl) ?_
          refine rsl (gtP_q (w := some 73) (ck_65 (hC.fr FL31)) (cf_65_6 (hC.fr FL31))) ?_
          refine rsl (gtI_q (w := iI e31) (ck_65 (hC.fr FL31)) (q31_9)) ?_
          refine rsl (asI_q (n := 4096) (z := e17) (y := e31) (ck_73 (hC.fr FL31)) (congrArg iI p25_0) (by omega) (rfl)) ?_
          have du34 := (DU.pj (j := e17) (v2 := e31) du33)
          refine rsl (jv_e) ?_
          refine rsr (gtP_q (w := some 196) (rk_160 (hR.fr FR31)) (rf_45 (hR.fr FR31))) ?_
          refine rsr (gtI_q (w := iI e31) (rk_160 (hR.fr FR31)) (w31_43)) ?_
          refine rsr (asI_q (n := 4000) (z := e17) (y := e31) (rk_196 (hR.fr FR31)) (congrArg iI p28_0) (by omega) (rfl)) ?_
          refine rsr (jv_e) ?_
          have tb35 := (Tyb.if2 (dp := dp) (j := e8) (p := e17) (a := e) (b := e31) (s := s) (Tye.ca (ty10.ag (fun k t p z => (pj_t (by omega)).trans ((ag31 _ _ (by omega)).trans ((pj_t (by omega)).trans ((pu_n (by omega)).trans ((ag17 _ _ (by omega)).trans ((pu_n (by omega))))))))) (by omega) (by omega)) ((Tyb.ca (tp17.ag (fun k t p z => (pj_t (by omega)).trans ((ag31 _ _ (by omega)).trans ((pj_t (by omega)).trans ((pu_n (by omega))))))) (by omega) (by omega)).lo (Int.le_refl _) (by omega)) ((Tyb.ca (tp31.ag (fun k t p z => (pj_t (by omega)))) (by omega) (by omega)).lo (Int.le_refl _) (by omega)) ⟨((pj_t (by omega)).trans ((ag31 _ _ (by omega)).trans ((pj_k (by decide)).trans ((pu_n (by omega)).trans ((ag17 _ _ (by omega))))))).trans (pu_e (by omega)), ((pj_t (by omega)).trans ((ag31 _ _ (by omega)).trans ((pj_k (by decide)).trans ((pu_n (by omega)).trans ((ag17 _ _ (by omega))))))).trans (pu_e (by omega)), ((pj_t (by omega)).trans ((ag31 _ _ (by omega)))).trans (pj_3)⟩ ⟨((pj_k (by decide)).trans ((ag31 _ _ (by omega)).trans ((pj_t (by omega))))).trans (pu_e (by omega)), ((pj_k (by decide)).trans ((ag31 _ _ (by omega)).trans ((pj_t (by omega))))).trans (pu_e (by omega)), pj_3⟩ (by omega) ⟨by omega, by omega⟩)
          exact Rs.ok (Or.inl ⟨i31, s, Hl, ⟨e31, u31, uc31, (pj G31 e17 e31), U31, X31, (Fr.sI (inW_c (by decide) _) FL31), (Fr.sI (inW_c (by decide) _) FR31), ⟨(sI_ne (by decide)).trans (q31_12), (sI_ne (by decide)).trans (q31_13), (sI_ne (by decide)).trans (q31_10), (sI_ne (by decide)).trans (q31_9), (sI_ne (by decide)).trans (q31_16), (sI_ne (by decide)).trans (q31_19)⟩, ⟨(sI_ne (by decide)).trans (w31_36), (sI_ne (by decide)).trans (w31_37), (sI_ne (by decide)).trans (w31_38), (sI_ne (by decide)).trans (w31_41), (sI_ne (by decide)).trans (w31_43), (sI_ne (by decide)).trans (w31_51), (sI_ne (by decide)).trans (w31_53), (sI_ne (by decide)).trans (w31_50), (w31_n.fr (W := W_r2) (Fr.sI (inW_c (by decide) _) Fr.r) (by decide) (by decide))⟩, ⟨(CA1.pt (v := e31) ca31 (by omega)), (RA1.pt (v := e31) ra31 (by omega)), (lc31.fr (W := W_c2) (Fr.sI (inW_c (by decide) _) Fr.r) (by decide)), (lr31.fr (W := W_r2) (Fr.sI (inW_c (by decide) _) Fr.r) (by decide)), (cu31.fr (W := W_c2) (Fr.sI (inW_c (by decide) _) Fr.r) (by decide)), (ru31.fr (W := W_r2) (Fr.sI (inW_c (by decide) _) Fr.r) (by decide))⟩, ⟨by omega, by omega, by omega, by omega, by omega, by omega, by omega, by omega, by omega, by omega, by omega, by omega⟩, ⟨by omega, by omega, by omega, by omega, by omega, by omega⟩, (Ag.pj (Ag.t (Ag.pj (Ag.pu (Ag.t (Ag.pu (Ag.t Ag.r ag8 (by omega)) (by omega)) ag17 (by omega)) (by omega)) (by omega)) ag31 (by omega)) (by omega)), (Ag.t (Ag.t (Ag.t Ag.r au8 (by omega)) au17 (by omega)) au31 (by omega)), (AgL.t (AgL.t (AgL.t AgL.r ax8 (by omega)) ax17 (by omega)) ax31 (by omega)), tb35, du34, (ku31.fr (W := W_c2) (Fr.sI (inW_c (by decide) _) Fr.r) (by decide)), ⟨by omega, fun _ _ _ => rfl⟩⟩⟩)
        ·
          have FL31 : Fr W_cp Mc Mx31 := Fr.t (Fr.sI (inW_c (by decide) _) f25) fl31
          have FR31 : Fr W_rp Mr Nx31 := Fr.t (Fr.m f30 W_rx_p) fr31
          obtain ⟨ti31, tz31, tn31, tu31, t1331, t1031, t1131, t1231, t931, t1631, t1931, tb31⟩ := tc31
          obtain ⟨re31, rn31, ru31, rm31, rt31, u4131, u4231, u4331, u5131, u5331, u4831, u4931, ub31⟩ := tr31
          refine rsl (cV_e rfl) ?_
          refine rsr (cV_e rfl) ?_
          refine rsl (gtP_q (w := some 73) (ck_65 (hC.fr FL31)) (cf_65_6 (hC.fr FL31))) ?_
          refine rsl (gtI_q (w := iI tz31) (ck_65 (hC.fr FL31)) (t931)) ?_
          refine rsl (asI_q (n := 4096) (z := e17) (y := tz31) (ck_73 (hC.fr FL31)) (congrArg iI p25_0) (by omega) (rfl)) ?_
          refine rsl (jv_e) ?_
          refine rsr (gtP_q (w := some 196) (rk_160 (hR.fr FR31)) (rf_45 (hR.fr FR31))) ?_
          refine rsr (gtI_q (w := iI re31) (rk_160 (hR.fr FR31)) (u4331)) ?_
          refine rsr (asI_q (n := 4000) (z := e17) (y := re31) (rk_196 (hR.fr FR31)) (congrArg iI p28_0) (by omega) (rfl)) ?_
          refine rsr (jv_e) ?_
          exact Rs.ok (Or.inr ⟨F31, P31, (Fr.sI (inW_c (by decide) _) FL31), (Fr.sI (inW_c (by decide) _) FR31), ⟨ti31, tz31, tn31, tu31, (sI_ne (by decide)).trans (t1331), (sI_ne (by decide)).trans (t1031), (sI_ne (by decide)).trans (t1131), (sI_ne (by decide)).trans (t1231), (sI_ne (by decide)).trans (t931), (sI_ne (by decide)).trans (t1631), (sI_ne (by decide)).trans (t1931), by omega⟩, ⟨re31, rn31, ru31, rm31, rt31, (sI_ne (by decide)).trans (u4131), (sI_ne (by decide)).trans (u4231), (sI_ne (by decide)).trans (u4331), (sI_ne (by decide)).trans (u5131), (sI_ne (by decide)).trans (u5331), (sI_ne (by decide)).trans (u4831), (sI_ne (by decide)).trans (u4931), by omega⟩⟩)
      · refine rsl (if_neg (eqI_n (rfl) (li_217) (by omega))) ?_
        refine rsl (gtP_q (w := some 73) (ck_65 (hC.fr FL17)) (cf_65_6 (hC.fr FL17))) ?_
        refine rsl (gtI_q (w := iI e17) (ck_65 (hC.fr FL17)) (q17_9)) ?_
        refine rsl (asI_q (n := 4096) (z := e8) (y := e17) (ck_73 (hC.fr FL17)) (congrArg iI p14_0) (by omega) (rfl)) ?_
        have du36 := (DU.pj (j := e8) (v2 := e17) du19)
        refine rsl (jv_e) ?_
        refine rsr (gtI_q (w := iI 0) (rk_160 (hR.fr FR17)) (w17_41)) ?_
        refine rsr (jn_v) ?_
        refine rsr (jn_v) ?_
        refine rsr (if_pos (eqI_p (rfl) (li_0) (by omega))) ?_
        refine rsr (gtI_q (w := iI ((kr (kd i17)))) (rk_160 (hR.fr FR17)) (w17_36)) ?_
        refine rsr (if_neg (krI_n (k := 217) (rfl) (li_418) (hS.ok i17 (by omega) (by omega)) (by unfold KdOK sgk; omega) (by decide +kernel) (by omega) (by omega))) ?_
        refine rsr (jv_e) ?_
        refine rsr (gtP_q (w := some 196) (rk_160 (hR.fr FR17)) (rf_45 (hR.fr FR17))) ?_
        refine rsr (gtI_q (w := iI e17) (rk_160 (hR.fr FR17)) (w17_43)) ?_
        refine rsr (asI_q (n := 4000) (z := e8) (y := e17) (rk_196 (hR.fr FR17)) (congrArg iI p16_0) (by omega) (rfl)) ?_
        refine rsr (jv_e) ?_
        have tb37 := (Tyb.if1 (dp := dp) (j := e8) (a := e) (b := e17) (s := s) (Tye.ca (ty10.ag (fun k t p z => (pj_t (by omega)).trans ((ag17 _ _ (by omega)).trans ((pu_n (by omega)))))) (by omega) (by omega)) ((Tyb.ca (tp17.ag (fun k t p z => (pj_t (by omega)))) (by omega) (by omega)).lo (Int.le_refl _) (by omega)) ⟨((pj_k (by decide)).trans ((ag17 _ _ (by omega)))).trans (pu_e (by omega)), ((pj_k (by decide)).trans ((ag17 _ _ (by omega)))).trans (pu_e (by omega)), pj_3⟩ (by omega) ⟨by omega, by omega⟩)
        exact Rs.ok (Or.inl ⟨i17, s, Hl, ⟨e17, u17, uc17, (pj G17 e8 e17), U17, X17, (Fr.sI (inW_c (by decide) _) FL17), (Fr.sI (inW_c (by decide) _) FR17), ⟨(sI_ne (by decide)).trans (q17_12), (sI_ne (by decide)).trans (q17_13), (sI_ne (by decide)).trans (q17_10), (sI_ne (by decide)).trans (q17_9), (sI_ne (by decide)).trans (q17_16), (sI_ne (by decide)).trans (q17_19)⟩, ⟨(sI_ne (by decide)).trans (w17_36), (sI_ne (by decide)).trans (w17_37), (sI_ne (by decide)).trans (w17_38), (sI_ne (by decide)).trans (w17_41), (sI_ne (by decide)).trans (w17_43), (sI_ne (by decide)).trans (w17_51), (sI_ne (by decide)).trans (w17_53), (sI_ne (by decide)).trans (w17_50), (w17_n.fr (W := W_r2) (Fr.sI (inW_c (by decide) _) Fr.r) (by decide) (by decide))⟩, ⟨(CA1.pt (v := e17) ca17 (by omega)), (RA1.pt (v := e17) ra17 (by omega)), (lc17.fr (W := W_c2) (Fr.sI (inW_c (by decide) _) Fr.r) (by decide)), (lr17.fr (W := W_r2) (Fr.sI (inW_c (by decide) _) Fr.r) (by decide)), (cu17.fr (W := W_c2) (Fr.sI (inW_c (by decide) _) Fr.r) (by decide)), (ru17.fr (W := W_r2) (Fr.sI (inW_c (by decide) _) Fr.r) (by decide))⟩, ⟨by omega, by omega, by omega, by omega, by omega, by omega, by omega, by omega, by omega, by omega, by omega, by omega⟩, ⟨by omega, by omega, by omega, by omega, by omega, by omega⟩, (Ag.pj (Ag.t (Ag.pu (Ag.t Ag.r ag8 (by omega)) (by omega)) ag17 (by omega)) (by omega)), (Ag.t (Ag.t Ag.r au8 (by omega)) au17 (by omega)), (AgL.t (AgL.t AgL.r ax8 (by omega)) ax17 (by omega)), tb37, du36, (ku17.fr (W := W_c2) (Fr.sI (inW_c (by decide) _) Fr.r) (by decide)), ⟨by omega, fun _ _ _ => rfl⟩⟩⟩)
    ·
      have FL17 : Fr W_cp Mc Mx17 := Fr.t f14 fl17
      have FR17 : Fr W_rp Mr Nx17 := Fr.t (Fr.m f16 W_rx_p) fr17
      obtain ⟨ti17, tz17, tn17, tu17, t1317, t1017, t1117, t1217, t917, t1617, t1917, tb17⟩ := tc17
      obtain ⟨re17, rn17, ru17, rm17, rt17, u4117, u4217, u4317, u5117, u5317, u4817, u4917, ub17⟩ := tr17
      refine rsl (cV_e rfl) ?_
      refine rsr (cV_e rfl) ?_
      refine rsl (gtI_q (w := iI 2) (ck_65 (hC.fr FL17)) (t1317)) ?_
      refine rsl (jn_v) ?_
      refine rsl (if_neg (eqI_n (rfl) (li_217) (by omega))) ?_
      refine rsl (gtP_q (w := some 73) (ck_65 (hC.fr FL17)) (cf_65_6 (hC.fr FL17))) ?_
      refine rsl (gtI_q (w := iI tz17) (ck_65 (hC.fr FL17)) (t917)) ?_
      refine rsl (asI_q (n := 4096) (z := e8) (y := tz17) (ck_73 (hC.fr FL17)) (congrArg iI p14_0) (by omega) (rfl)) ?_
      refine rsl (jv_e) ?_
      refine rsr (gtI_q (w := iI F17) (rk_160 (hR.fr FR17)) (u4117)) ?_
      refine rsr (jn_v) ?_
      refine rsr (jn_v) ?_
      refine rsr (if_neg (eqI_n (rfl) (li_0) (by omega))) ?_
      refine rsr (jv_e) ?_
      refine rsr (gtP_q (w := some 196) (rk_160 (hR.fr FR17)) (rf_45 (hR.fr FR17))) ?_
      refine rsr (gtI_q (w := iI re17) (rk_160 (hR.fr FR17)) (u4317)) ?_
      refine rsr (asI_q (n := 4000) (z := e8) (y := re17) (rk_196 (hR.fr FR17)) (congrArg iI p16_0) (by omega) (rfl)) ?_
      refine rsr (jv_e) ?_
      exact Rs.ok (Or.inr ⟨F17, P17, (Fr.sI (inW_c (by decide) _) FL17), (Fr.sI (inW_c (by decide) _) FR17), ⟨ti17, tz17, tn17, tu17, (sI_ne (by decide)).trans (t1317), (sI_ne (by decide)).trans (t1017), (sI_ne (by decide)).trans (t1117), (sI_ne (by decide)).trans (t1217), (sI_ne (by decide)).trans (t917), (sI_ne (by decide)).trans (t1617), (sI_ne (by decide)).trans (t1917), by omega⟩, ⟨re17, rn17, ru17, rm17, rt17, (sI_ne (by decide)).trans (u4117), (sI_ne (by decide)).trans (u4217), (sI_ne (by decide)).trans (u4317), (sI_ne (by decide)).trans (u5117), (sI_ne (by decide)).trans (u5317), (sI_ne (by decide)).trans (u4817), (sI_ne (by decide)).trans (u4917), by omega⟩⟩)
  ·
    have FL8 : Fr W_cp Mc Mx8 := Fr.t (Fr.sI (by decide) (Fr.sI (by decide) Fr.r)) fl8
    have FR8 : Fr W_rp Mr Nx8 := Fr.t (Fr.m f7 W_rx_p) fr8
    obtain ⟨ti8, tz8, tn8, tu8, t138, t108, t118, t128, t98, t168, t198, tb8⟩ := tc8
    obtain ⟨re8, rn8, ru8, rm8, rt8, u418, u428, u438, u518, u538, u488, u498, ub8⟩ := tr8
    refine rsl (cV_e rfl) ?_
    refine rsr (cV_e rfl) ?_
    refine rsl (vC_e (ck_65 (hC.fr FL8))) ?_
    refine RlI (y87 (by omega) (hC.fr FL8) (hTk.fr (WL := W_cp) FL8 (by decide)) (t128) (t138) (t108) (t118) (t98) (t168) (t198) (li_24) (li_0) (by omega)) fun v Ma39 h39 => ?_
    obtain ⟨rv38, sz38, sn38, uc38, rfl, g39, e39_sz38, e39_sn38, e39_uc38, e39_k0, e39_k1, e39_k2, e39_k3, p39_0, p39_1, p39_2, p39_3⟩ := h39
    have f39 : Fr W_cp Mc Ma39 := Fr.t FL8 (Fr.m g39 (by decide))
    refine rsl (cI_e rfl) ?_
    refine rsl (vC_e (ck_65 (hC.fr f39))) ?_
    refine RlV (y89 (by omega) (hC.fr f39) (hTk.fr (WL := W_cp) f39 (by decide)) (e39_k3) (e39_k0) (e39_k1) (e39_k2) (e39_sz38) (e39_sn38) (e39_uc38) (hv0) (by omega)) fun v Ma41 h41 => ?_
    obtain ⟨sz40, sn40, uc40, g41, e41_sz40, e41_sn40, e41_uc40, e41_k0, e41_k1, e41_k2, e41_k3, p41_0, p41_1, p41_2⟩ := h41
    have f41 : Fr W_cp Mc Ma41 := Fr.t f39 (Fr.m g41 (by decide))
    refine rsl (cV_e rfl) ?_
    refine rsl (gtI_q (w := iI 2) (ck_65 (hC.fr f41)) (e41_k0)) ?_
    refine rsl (jn_v) ?_
    refine rsl (if_neg (eqI_n (rfl) (li_217) (by omega))) ?_
    refine rsl (gtP_q (w := some 73) (ck_65 (hC.fr f41)) (cf_65_6 (hC.fr f41))) ?_
    refine rsl (gtI_q (w := iI sz40) (ck_65 (hC.fr f41)) (e41_sz40)) ?_
    refine rsl (asI_q (n := 4096) (z := rv38) (y := sz40) (ck_73 (hC.fr f41)) (rfl) (by omega) (rfl)) ?_
    refine rsl (jv_e) ?_
    refine rsr (vC_e (rk_160 (hR.fr FR8))) ?_
    refine RrI (x196_s (by omega) (hR.fr FR8) (u418) (u428) (u438) (u518) (u538) (u488) (u498) (li_24) (li_0) (by omega)) fun v Ma43 h43 => ?_
    obtain ⟨rv42, em42, rfl, g43, e43_em42, e43_k0, e43_k1, e43_k2, e43_k3, e43_k4, p43_0, p43_1⟩ := h43
    have f43 : Fr W_rp Mr Ma43 := Fr.t FR8 (Fr.m g43 (by decide))
    refine rsr (cI_e rfl) ?_
    refine rsr (vC_e (rk_160 (hR.fr f43))) ?_
    refine RrV (x213_s (by omega) (hR.fr f43) (e43_k0) (e43_k1) (e43_em42) (e43_k2) (e43_k3) (e43_k4) ((g43.i _ _ (by decide)).trans (u498))  (by omega)) fun v Ma45 h45 => ?_
    obtain ⟨em44, g45, e45_em44, e45_k0, e45_k1, e45_k2, e45_k3, e45_k4, p45_0⟩ := h45
    have f45 : Fr W_rp Mr Ma45 := Fr.t f43 (Fr.m g45 (by decide))
    refine rsr (cV_e rfl) ?_
    refine rsr (gtI_q (w := iI F8) (rk_160 (hR.fr f45)) (e45_k0)) ?_
    refine rsr (jn_v) ?_
    refine rsr (jn_v) ?_
    refine rsr (if_neg (eqI_n (rfl) (li_0) (by omega))) ?_
    refine rsr (jv_e) ?_
    refine rsr (gtP_q (w := some 196) (rk_160 (hR.fr f45)) (rf_45 (hR.fr f45))) ?_
    refine rsr (gtI_q (w := iI em44) (rk_160 (hR.fr f45)) (e45_em44)) ?_
    refine rsr (asI_q (n := 4000) (z := rv42) (y := em44) (rk_196 (hR.fr f45)) (rfl) (by omega) (rfl)) ?_
    refine rsr (jv_e) ?_
    exact Rs.ok (Or.inr ⟨F8, P8, (Fr.sI (inW_c (by decide) _) f41), (Fr.sI (inW_c (by decide) _) f45), ⟨ti8, sz40, sn40, uc40, (sI_ne (by decide)).trans (e41_k0), (sI_ne (by decide)).trans (e41_k1), (sI_ne (by decide)).trans (e41_k2), (sI_ne (by decide)).trans (e41_k3), (sI_ne (by decide)).trans (e41_sz40), (sI_ne (by decide)).trans (e41_sn40), (sI_ne (by decide)).trans (e41_uc40), by omega⟩, ⟨em44, rn8, ru8, rm8, rt8, (sI_ne (by decide)).trans (e45_k0), (sI_ne (by decide)).trans (e45_k1), (sI_ne (by decide)).trans (e45_em44), (sI_ne (by decide)).trans (e45_k2), (sI_ne (by decide)).trans (e45_k3), (sI_ne (by decide)).trans (e45_k4), (sI_ne (by decide)).trans ((g45.i _ _ (by decide)).trans ((g43.i _ _ (by decide)).trans (u498))), by omega⟩⟩)
