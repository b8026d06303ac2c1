theorem p_st215 {D : Nat} {dp : Int} (hD : 20 ≤ D) (hE : Pair D 99 [0] 211 14 dp) : PairT 215 92 [] (D + 10) dp := by
  intro d d2 hd hd2 T n m kd pl E tx ua ut mu Mc Mr G U Hl X i e s u uc v0 hS hx hsc hsr hrw hbd hK hv0
  obtain ⟨d, rfl⟩ : ∃ e, d = e + 1 := ⟨d - 1, by omega⟩
  obtain ⟨d2, rfl⟩ : ∃ e, d2 = e + 1 := ⟨d2 - 1, by omega⟩
  show Rs (runX (d + 1) 92 [va_rf (some 65), .int v0] Mc) (runX (d2 + 1) 214 [va_rf (some 160)] Mr) _
  rw [r92]; unfold b92; rw [aR_e, aI_e, aZ_e]; unfold c92; rw [r214]; unfold b214; rw [aR_e, aZ_e]; unfold c214
  have hCx := hx
  obtain ⟨hC, hR, hTk, hT, hW, ⟨hu1, hu2, hu3, hu4⟩, h49, h48, ⟨hb1, hb2, hb3, hb4⟩⟩ := hx
  obtain ⟨bb_0, bb_1, bb_2, bb_3, bb_4, bb_5, bb_6, bb_7, bb_8, bb_9, bb_10, bb_11⟩ := hbd
  have kua : KU uc Mc Mc := KU.r
  obtain ⟨qa_12, qa_13, qa_10, qa_9, qa_16, qa_19⟩ := hsc
  obtain ⟨wa_36, wa_37, wa_38, wa_41, wa_43, wa_51, wa_53, wa_50, wa_n⟩ := hsr
  obtain ⟨caa, raa, lca, lra, cua, rua⟩ := hrw
  have hk1 := (hS.ok i (by omega) (by omega)).r
  have ty2 := (Tye.r (G := G) (a := e) (s := s))
  have du3 := (DU.r (ut := ut) (mu := mu) (c := uc) (G := G) (U := U) (X := X) (a := e) (u := u))
  refine rsl (vC_e (ck_65 hC)) ?_
  have hm4 : i + 1 < m := hS.more i (by omega) (by omega) (by omega)
  refine rsl (cV_e (a63q (by omega) hS hC (hTk.fr (WL := W_cp) Fr.r (by decide)) (qa_12) (qa_13) (qa_10) (i2 := (i + 1)) (by omega) (by omega))) ?_
  have hk5 := (hS.ok (i + 1) (by omega) (by omega)).r
  refine rsl (vC_e (ck_65 hC.sI.sI)) ?_
  refine rsl (cL_e (a65 (by omega) hS hC.sI.sI (hTk.fr (WL := W_cp) (Fr.sI (by decide) (Fr.sI (by decide) Fr.r)) (by decide)) ((sI_nej (by decide)).trans (sI_eq)) (sI_eq) ((sI_nej (by decide)).trans ((sI_nej (by decide)).trans (qa_10))) (by omega))) ?_
  refine rsl (vC_e (ck_65 hC.sI.sI)) ?_
  by_cases c6 : ((kd (i + 1))) = 3
  ·
    refine RlI (a74 (by omega) hC.sI.sI ((sI_nej (by decide)).trans ((sI_nej (by decide)).trans (qa_16))) (lca.fr (W := W_c0) (Fr.sI (by decide) (Fr.sI (by decide) Fr.r)) (by decide)) (x := (tx (i + 1))) (by omega)) fun v Ml hl => ?_
    obtain ⟨rl7, rfl, hMl7, hlc7⟩ := hl
    rw [hMl7]
    refine rsl (cI_e rfl) ?_
    have brl7 := hlc7.bd
    by_cases crl7 : rl7 = -1
    ·
      refine rsl (jn_v) ?_
      refine rsl (if_pos (lsI_p (congrArg iI (if_pos crl7)) (li_0) (by omega))) ?_
      refine rsl (jv_e) ?_
      refine rsl (gtI_q (w := iI s) (ck_65 hC.sI.sI) ((sI_nej (by decide)).trans ((sI_nej (by decide)).trans (qa_16)))) ?_
      refine rsl (jn_v) ?_
      by_cases c8 : s < 10
      · refine rsl (if_pos (lsI_p (rfl) (li_10) (by omega))) ?_
        refine rsl (jv_e) ?_
        refine rsl (vC_e (ck_65 hC.sI.sI)) ?_
        have hm9 : (i + 1) + 1 < m := hS.more (i + 1) (by omega) (by omega) (by omega)
        refine rsl (cL_e (a66q (by omega) hS hC.sI.sI (hTk.fr (WL := W_cp) (Fr.sI (by decide) (Fr.sI (by decide) Fr.r)) (by decide)) ((sI_nej (by decide)).trans (sI_eq)) (sI_eq) ((sI_nej (by decide)).trans ((sI_nej (by decide)).trans (qa_10))) (li_0) (li_0) (i2 := (i + 2)) (by omega) (by omega))) ?_
        have hk10 := (hS.ok (i + 2) (by omega) (by omega)).r
        refine rsl (vC_e (ck_65 hC.sI.sI.sI.sI)) ?_
        by_cases c11 : ((kd (i + 2))) = 61
        ·
          have hm12 : (i + 2) + 1 < m := hS.more (i + 2) (by omega) (by omega) (by omega)
          refine rsl (cV_e (a64q (by omega) hS hC.sI.sI.sI.sI (hTk.fr (WL := W_cp) (Fr.sI (by decide) (Fr.sI (by decide) (Fr.sI (by decide) (Fr.sI (by decide) Fr.r)))) (by decide)) ((sI_nej (by decide)).trans (sI_eq)) (sI_eq) ((sI_nej (by decide)).trans ((sI_nej (by decide)).trans ((sI_nej (by decide)).trans ((sI_nej (by decide)).trans (qa_10))))) (li_61) (i2 := (i + 3)) (by omega) (by omega))) ?_
          have hk13 := (hS.ok (i + 3) (by omega) (by omega)).r
          refine rsl (vC_e (ck_65 hC.sI.sI.sI.sI.sI.sI)) ?_
          refine rsr (gtI_q (w := iI ((kr (kd i)))) (rk_160 hR) (wa_36)) ?_
          refine rsr (jn_v) ?_
          refine rsr (swI_c) ?_
          refine rsr (if_pos (krI_p (k := 215) (rfl) (li_416) (by omega) (by decide +kernel))) ?_
          refine rsr (vC_e (rk_160 hR)) ?_
          refine RrV (nx_q (by omega) hS hR (hT.fr (W := W_rx) Fr.r (by decide) (by decide)) (fun i a b => (Fr.lc (W := W_rx) Fr.r _ (by decide) _).trans (hW i a b)) (i := i) (i2 := (i + 1)) (wa_41) (wa_38) (by omega) (by omega) (by omega)) fun v Ma14 h14 => ?_
          obtain ⟨g14, e14_k0, e14_k1, e14_k2, p14_0⟩ := h14
          have f14 : Fr W_rx Mr Ma14 := Fr.t Fr.r (Fr.m g14 (by decide))
          refine rsr (cV_e rfl) ?_
          refine rsr (vC_e (rk_160 (hR.fr f14))) ?_
          refine rsr (cI_e (a198_p (by omega) hS (hR.fr f14) (e14_k0) (e14_k1) ((g14.i _ _ (by decide)).trans (wa_41)) p14_0 ((g14.i _ _ (by decide)).trans (wa_51)) (lra.fr g14 (by decide)) hlc7 (by omega))) ?_
          refine rsr (if_neg (eqI_n (rfl) (li_0) (by omega))) ?_
          refine rsr (gtL_q (w := (tx (i + 1))) (rk_160 (hR.fr f14)) (p14_0.1 (by omega))) ?_
          refine rsr (vC_e (rk_160 (hR.fr f14))) ?_
          refine RrV (nx_q (by omega) hS (hR.fr f14) (hT.fr (W := W_rx) f14 (by decide) (by decide)) (fun i a b => (Fr.lc (W := W_rx) f14 _ (by decide) _).trans (hW i a b)) (i := (i + 1)) (i2 := (i + 2)) ((g14.i _ _ (by decide)).trans (wa_41)) (e14_k2) (by omega) (by omega) (by omega)) fun v Ma15 h15 => ?_
          obtain ⟨g15, e15_k0, e15_k1, e15_k2, p15_0⟩ := h15
          have f15 : Fr W_rx Mr Ma15 := Fr.t f14 (Fr.m g15 (by decide))
          refine rsr (cV_e rfl) ?_
          refine rsr (vC_e (rk_160 (hR.fr f15))) ?_
          refine RrI (a195_61 (by omega) hS (hR.fr f15) (hT.fr (W := W_rx) f15 (by decide) (by decide)) (fun i a b => (Fr.lc (W := W_rx) f15 _ (by decide) _).trans (hW i a b)) (e15_k0) (e15_k1) (e15_k2) ((g15.i _ _ (by decide)).trans ((g14.i _ _ (by decide)).trans (wa_41))) (li_61) (i2 := (i + 3)) (by omega) (by omega)) fun v Ma17 h17 => ?_
          obtain ⟨r16, rfl, g17, e17_k0, e17_k1, e17_k2, p17_0, p17_1⟩ := h17
          have f17 : Fr W_rx Mr Ma17 := Fr.t f15 (Fr.m g17 (by decide))
          refine rsr (cI_e rfl) ?_
          refine rsr (vC_e (rk_160 (hR.fr f17))) ?_
          refine Rb_VV (hE _ _ (by omega) (by omega) T n m kd pl E tx ua ut mu _ _ G U Hl X (i + 3) e s u uc _ hS (hCx.fr (Fr.sI (by decide) (Fr.sI (by decide) (Fr.sI (by decide) (Fr.sI (by decide) (Fr.sI (by decide) (Fr.sI (by decide) Fr.r)))))) f17) ⟨(sI_nej (by decide)).trans (sI_eq), sI_eq, (sI_nej (by decide)).trans ((sI_nej (by decide)).trans ((sI_nej (by decide)).trans ((sI_nej (by decide)).trans ((sI_nej (by decide)).trans ((sI_nej (by decide)).trans (qa_10)))))), (sI_nej (by decide)).trans ((sI_nej (by decide)).trans ((sI_nej (by decide)).trans ((sI_nej (by decide)).trans ((sI_nej (by decide)).trans ((sI_nej (by decide)).trans (qa_9)))))), (sI_nej (by decide)).trans ((sI_nej (by decide)).trans ((sI_nej (by decide)).trans ((sI_nej (by decide)).trans ((sI_nej (by decide)).trans ((sI_nej (by decide)).trans (qa_16)))))), (sI_nej (by decide)).trans ((sI_nej (by decide)).trans ((sI_nej (by decide)).trans ((sI_nej (by decide)).trans ((sI_nej (by decide)).trans ((sI_nej (by decide)).trans (qa_19))))))⟩ ⟨e17_k0, e17_k1, e17_k2, (g17.i _ _ (by decide)).trans ((g15.i _ _ (by decide)).trans ((g14.i _ _ (by decide)).trans (wa_41))), (g17.i _ _ (by decide)).trans ((g15.i _ _ (by decide)).trans ((g14.i _ _ (by decide)).trans (wa_43))), (g17.i _ _ (by decide)).trans ((g15.i _ _ (by decide)).trans ((g14.i _ _ (by decide)).trans (wa_51))), (g17.i _ _ (by decide)).trans ((g15.i _ _ (by decide)).trans ((g14.i _ _ (by decide)).trans (wa_53))), (g17.i _ _ (by decide)).trans ((g15.i _ _ (by decide)).trans ((g14.i _ _ (by decide)).trans (wa_50))), p17_1⟩ ⟨(caa.fr (W := W_c0) (Fr.sI (by decide) (Fr.sI (by decide) (Fr.sI (by decide) (Fr.sI (by decide) (Fr.sI (by decide) (Fr.sI (by decide) Fr.r)))))) (by decide)), (((raa.fr g14 (by decide)).fr g15 (by decide)).fr g17 (by decide)), (lca.fr (W := W_c0) (Fr.sI (by decide) (Fr.sI (by decide) (Fr.sI (by decide) (Fr.sI (by decide) (Fr.sI (by decide) (Fr.sI (by decide) Fr.r)))))) (by decide)), (((lra.fr g14 (by decide)).fr g15 (by decide)).fr g17 (by decide)), (cua.fr (W := W_c0) (Fr.sI (by decide) (Fr.sI (by decide) (Fr.sI (by decide) (Fr.sI (by decide) (Fr.sI (by decide) (Fr.sI (by decide) Fr.r)))))) (by decide)), (((rua.fr g14 (by decide)).fr g15 (by decide)).fr g17 (by decide))⟩ ⟨by omega, by omega, by omega, by omega, by omega, by omega, by omega, by omega, by omega, by omega, by omega, by omega⟩ (vs2 (li_0) (hv0))) fun v Mx18 w Nx18 hx18 => ?_
          rcases hx18 with ⟨i18, e18, u18, uc18, G18, U18, X18, fl18, fr18, sc18, sr18, rw18, bd18, mv18, ag18, au18, ax18, tp18, dp18, kv18⟩ | ⟨F18, P18, fl18, fr18, tc18, tr18⟩
          ·
            have FL18 : Fr W_cp Mc Mx18 := Fr.t (Fr.sI (by decide) (Fr.sI (by decide) (Fr.sI (by decide) (Fr.sI (by decide) (Fr.sI (by decide) (Fr.sI (by decide) Fr.r)))))) fl18
            have FR18 : Fr W_rx Mr Nx18 := Fr.t f17 fr18
            obtain ⟨bb18_0, bb18_1, bb18_2, bb18_3, bb18_4, bb18_5, bb18_6, bb18_7, bb18_8, bb18_9, bb18_10, bb18_11⟩ := bd18
            obtain ⟨q18_12, q18_13, q18_10, q18_9, q18_16, q18_19⟩ := sc18
            obtain ⟨w18_36, w18_37, w18_38, w18_41, w18_43, w18_51, w18_53, w18_50, w18_n⟩ := sr18
            obtain ⟨ca18, ra18, lc18, lr18, cu18, ru18⟩ := rw18
            have hk19 := (hS.ok i18 (by omega) (by omega)).r
            have ku18 := KU.t (kua.fr (W := W_c0) (Fr.sI (by decide) (Fr.sI (by decide) (Fr.sI (by decide) (Fr.sI (by decide) (Fr.sI (by decide) (Fr.sI (by decide) Fr.r)))))) (by decide)) kv18 (by omega)
            have ty20 := Tye.t (d3 := 1) ty2 ag18 tp18 (by omega)
            have du21 := DU.t du3 ag18 au18 ax18 dp18 (by omega)
            refine rsl (cV_e rfl) ?_
            refine rsr (cV_e rfl) ?_
            refine rsl (vC_e (ck_65 (hC.fr FL18))) ?_
            by_cases c22 : ((kd i18)) = 59
            ·
              have hm23 : i18 + 1 < m := hS.more i18 (by omega) (by omega) (by omega)
              refine rsl (cV_e (a64q (by omega) hS (hC.fr FL18) (hTk.fr (WL := W_cp) FL18 (by decide)) (q18_12) (q18_13) (q18_10) (li_59) (i2 := (i18 + 1)) (by omega) (by omega))) ?_
              have hk24 := (hS.ok (i18 + 1) (by omega) (by omega)).r
              refine rsl (gtI_q (w := iI s) (ck_65 (hC.fr FL18).sI.sI) ((sI_nej (by decide)).trans ((sI_nej (by decide)).trans (q18_16)))) ?_
              refine rsl (vC_e (ck_65 (hC.fr FL18).sI.sI)) ?_
              have tb26 := Tyb.ex (dp := dp) (d := 1) (s' := (s + 1)) (q := (e18 + 1)) (n1 := s) (ut := ut) (mu := mu) (l := []) ty20 (Or.inr (Or.inr (Or.inl (by omega))) : Eff 2 s 0 1 s 0 (s + 1)) (by omega) ⟨by omega, by omega⟩ (by omega)
              have du27 := DU.em (q := (e18 + 1)) (o := 2) (n := s) (p := -2) (l := [0]) du21 (by omega) (by omega)
              refine RlI (a87q (by omega) (hC.fr FL18).sI.sI ((sI_nej (by decide)).trans ((sI_nej (by decide)).trans (q18_9))) (li_2) (rfl) (q := (e18 + 1)) (by omega) (by omega)) fun v Ma28 h28 => ?_
              obtain ⟨r25, rfl, g28, e28_k0, p28_0, p28_1⟩ := h28
              have f28 : Fr W_cp Mc Ma28 := Fr.t (Fr.sI (by decide) (Fr.sI (by decide) FL18)) (Fr.m g28 (by decide))
              refine rsl (cI_e rfl) ?_
              refine rsl (vC_e (ck_65 (hC.fr f28))) ?_
              refine RlV (a75 (by omega) (hC.fr f28) ((g28.i _ _ (by decide)).trans ((sI_nej (by decide)).trans ((sI_nej (by decide)).trans (q18_16)))) (x := (tx (i + 1))) (by omega)) fun v Ma29 h29 => ?_
              obtain ⟨g29, e29_k0, p29_0, p29_1⟩ := h29
              have f29 : Fr W_cp Mc Ma29 := Fr.t f28 (Fr.m g29 (by decide))
              refine rsl (cV_e rfl) ?_
              refine rsr (gtI_q (w := iI s) (rk_160 (hR.fr FR18)) (w18_51)) ?_
              refine rsr (vC_e (rk_160 (hR.fr FR18))) ?_
              refine RrI (a196q (by omega) (hR.fr FR18) (w18_43) ((FR18.i _ _ (by decide)).trans h49) ((FR18.i _ _ (by decide)).trans h48) (li_2) (rfl) (q := (e18 + 1)) (by omega) (by omega)) fun v Ma31 h31 => ?_
              obtain ⟨r30, rfl, g31, e31_k0, p31_0, p31_1⟩ := h31
              have f31 : Fr W_rx Mr Ma31 := Fr.t FR18 (Fr.m g31 (by decide))
              refine rsr (cI_e rfl) ?_
              refine rsr (vC_e (rk_160 (hR.fr f31))) ?_
              refine RrI (a195_59 (by omega) hS (hR.fr f31) (hT.fr (W := W_rx) f31 (by decide) (by decide)) (fun i a b => (Fr.lc (W := W_rx) f31 _ (by decide) _).trans (hW i a b)) ((g31.i _ _ (by decide)).trans (w18_36)) ((g31.i _ _ (by decide)).trans (w18_37)) ((g31.i _ _ (by decide)).trans (w18_38)) ((g31.i _ _ (by decide)).trans (w18_41)) (li_59) (i2 := (i18 + 1)) (by omega) (by omega)) fun v Ma33 h33 => ?_
              obtain ⟨r32, rfl, g33, e33_k0, e33_k1, e33_k2, p33_0, p33_1⟩ := h33
              have f33 : Fr W_rx Mr Ma33 := Fr.t f31 (Fr.m g33 (by decide))
              refine rsr (cI_e rfl) ?_
              refine rsr (vC_e (rk_160 (hR.fr f33))) ?_
              refine RrV (a199 (by omega) (hR.fr f33) ((g33.i _ _ (by decide)).trans ((g31.i _ _ (by decide)).trans (w18_51))) ((g33.i _ _ (by decide)).trans ((g31.i _ _ (by decide)).trans (w18_41))) (x := (tx (i + 1))) (by omega)) fun v Ma34 h34 => ?_
              obtain ⟨g34, e34_k0, p34_0, p34_1⟩ := h34
              have f34 : Fr W_rx Mr Ma34 := Fr.t f33 (Fr.m g34 (by decide))
              refine rsr (cV_e rfl) ?_
              refine rsr (jv_e) ?_
              exact Rs.ok (Or.inl ⟨(i18 + 1), (s + 1), (up1 Hl s (tx (i + 1))), ⟨(e18 + 1), u18, uc18, (pu G18 e18 [2, s, -2, s, ut, mu, 0]), U18, X18, f29, f34, ⟨(g29.i _ _ (by decide)).trans ((g28.i _ _ (by decide)).trans ((sI_nej (by decide)).trans (sI_eq))), (g29.i _ _ (by decide)).trans ((g28.i _ _ (by decide)).trans (sI_eq)), (g29.i _ _ (by decide)).trans ((g28.i _ _ (by decide)).trans ((sI_nej (by decide)).trans ((sI_nej (by decide)).trans (q18_10)))), (g29.i _ _ (by decide)).trans (e28_k0), e29_k0, (g29.i _ _ (by decide)).trans ((g28.i _ _ (by decide)).trans ((sI_nej (by decide)).trans ((sI_nej (by decide)).trans (q18_19))))⟩, ⟨(g34.i _ _ (by decide)).trans (e33_k0), (g34.i _ _ (by decide)).trans (e33_k1), (g34.i _ _ (by decide)).trans (e33_k2), (g34.i _ _ (by decide)).trans ((g33.i _ _ (by decide)).trans ((g31.i _ _ (by decide)).trans (w18_41))), (g34.i _ _ (by decide)).trans ((g33.i _ _ (by decide)).trans (e31_k0)), e34_k0, (g34.i _ _ (by decide)).trans ((g33.i _ _ (by decide)).trans ((g31.i _ _ (by decide)).trans (w18_53))), (g34.i _ _ (by decide)).trans ((g33.i _ _ (by decide)).trans ((g31.i _ _ (by decide)).trans (w18_50))), (p33_1.fr g34 (by decide) (by decide))⟩, ⟨((CA1.em (q := (e18 + 1)) (ca18.fr (W := W_c0) (Fr.sI (by decide) (Fr.sI (by decide) Fr.r)) (by decide)) (by omega) p28_1 (by omega)).fr g29 (by decide)), (((RA1.em (q := (e18 + 1)) ra18 (by omega) p31_1 (by omega)).fr g33 (by decide)).fr g34 (by decide)), (LA.add ((lc18.fr (W := W_c0) (Fr.sI (by decide) (Fr.sI (by decide) Fr.r)) (by decide)).fr g28 (by decide)) (by omega) p29_0 p29_1 (by omega)), (LA.add ((lr18.fr g31 (by decide)).fr g33 (by decide)) (by omega) p34_0 p34_1 (by omega)), (((cu18.fr (W := W_c0) (Fr.sI (by decide) (Fr.sI (by decide) Fr.r)) (by decide)).fr g28 (by decide)).fr g29 (by decide)), (((ru18.fr g31 (by decide)).fr g33 (by decide)).fr g34 (by decide))⟩, ⟨by omega, by omega, by omega, by omega, by omega, by omega, by omega, by omega, by omega, by omega, by omega, by omega⟩, ⟨by omega, by omega, by omega, by omega, by omega, by omega⟩, (Ag.pu (Ag.t Ag.r ag18 (by omega)) (by omega)), (Ag.t Ag.r au18 (by omega)), (AgL.t AgL.r ax18 (by omega)), tb26, du27, (((ku18.fr (W := W_c0) (Fr.sI (by decide) (Fr.sI (by decide) Fr.r)) (by decide)).fr g28 (by decide)).fr g29 (by decide)), ⟨by omega, (fun j p q => up1_n (by omega))⟩⟩⟩)
            ·
              by_cases c35 : ((kd i18)) = 1
              ·
                refine rsl (cV_e (a64_1 (by omega) hS (hC.fr FL18) (hTk.fr (WL := W_cp) FL18 (by decide)) (q18_12) (q18_13) (q18_10) (li_59) (by omega))) ?_
                refine rsl (gtI_q (w := iI s) (ck_65 (hC.fr FL18).sI.sI.sI) ((sI_nej (by decide)).trans ((sI_nej (by decide)).trans ((sI_nej (by decide)).trans (q18_16))))) ?_
                refine rsl (vC_e (ck_65 (hC.fr FL18).sI.sI.sI)) ?_
                refine RlI (y87 (by omega) (hC.fr FL18).sI.sI.sI (hTk.fr (WL := W_cp) (Fr.sI (by decide) (Fr.sI (by decide) (Fr.sI (by decide) FL18))) (by decide)) ((sI_nej (by decide)).trans ((sI_nej (by decide)).trans ((sI_nej (by decide)).trans (q18_12)))) (sI_eq) ((sI_nej (by decide)).trans ((sI_nej (by decide)).trans (sI_eq))) ((sI_nej (by decide)).trans (sI_eq)) ((sI_nej (by decide)).trans ((sI_nej (by decide)).trans ((sI_nej (by decide)).trans (q18_9)))) ((sI_nej (by decide)).trans ((sI_nej (by decide)).trans ((sI_nej (by decide)).trans (q18_16)))) ((sI_nej (by decide)).trans ((sI_nej (by decide)).trans ((sI_nej (by decide)).trans (q18_19)))) (li_2) (rfl) (by omega)) fun v Ma37 h37 => ?_
                obtain ⟨rv36, sz36, sn36, uc36, rfl, g37, e37_sz36, e37_sn36, e37_uc36, e37_k0, e37_k1, e37_k2, e37_k3, p37_0, p37_1, p37_2, p37_3⟩ := h37
                have f37 : Fr W_cp Mc Ma37 := Fr.t (Fr.sI (by decide) (Fr.sI (by decide) (Fr.sI (by decide) FL18))) (Fr.m g37 (by decide))
                refine rsl (cI_e rfl) ?_
                refine rsl (vC_e (ck_65 (hC.fr f37))) ?_
                refine RlV (y75 (by omega) (hC.fr f37) (hTk.fr (WL := W_cp) f37 (by decide)) (e37_k3) (e37_k0) (e37_k1) (e37_k2) (e37_sz36) (e37_sn36) (e37_uc36)  (by omega)) fun v Ma39 h39 => ?_
                obtain ⟨sz38, sn38, uc38, g39, e39_sz38, e39_sn38, e39_uc38, e39_k0, e39_k1, e39_k2, e39_k3, p39_0, p39_1, p39_2⟩ := h39
                have f39 : Fr W_cp Mc Ma39 := Fr.t f37 (Fr.m g39 (by decide))
                refine rsl (cV_e rfl) ?_
                refine rsr (gtI_q (w := iI s) (rk_160 (hR.fr FR18)) (w18_51)) ?_
                refine rsr (vC_e (rk_160 (hR.fr FR18))) ?_
                refine RrI (a196q (by omega) (hR.fr FR18) (w18_43) ((FR18.i _ _ (by decide)).trans h49) ((FR18.i _ _ (by decide)).trans h48) (li_2) (rfl) (q := (e18 + 1)) (by omega) (by omega)) fun v Ma41 h41 => ?_
                obtain ⟨r40, rfl, g41, e41_k0, p41_0, p41_1⟩ := h41
                have f41 : Fr W_rx Mr Ma41 := Fr.t FR18 (Fr.m g41 (by decide))
                refine rsr (cI_e rfl) ?_
                refine rsr (vC_e (rk_160 (hR.fr f41))) ?_
                refine rsr (cI_e (a195_59_1 (by omega) hS (hR.fr f41) ((g41.i _ _ (by decide)).trans (w18_36)) ((g41.i _ _ (by decide)).trans (w18_37)) ((g41.i _ _ (by decide)).trans (w18_41)) (li_59) (by omega))) ?_
                refine rsr (vC_e (rk_160 (hR.fr f41).sI.sI)) ?_
                refine RrV (x199_s (by omega) (hR.fr f41).sI.sI ((sI_nej (by decide)).trans (sI_eq)) (sI_eq) ((sI_nej (by decide)).trans ((sI_nej (by decide)).trans (e41_k0))) ((sI_nej (by decide)).trans ((sI_nej (by decide)).trans ((g41.i _ _ (by decide)).trans (w18_51)))) ((sI_nej (by decide)).trans ((sI_nej (by decide)).trans ((g41.i _ _ (by decide)).trans (w18_53)))) ((sI_nej (by decide)).trans ((sI_nej (by decide)).trans ((g41.i _ _ (by decide)).trans ((FR18.i _ _ (by decide)).trans h48)))) ((sI_nej (by decide)).trans ((sI_nej (by decide)).trans ((g41.i _ _ (by decide)).trans ((FR18.i _ _ (by decide)).trans h49))))  (by omega)) fun v Ma43 h43 => ?_
                obtain ⟨em42, g43, e43_em42, e43_k0, e43_k1, e43_k2, e43_k3, e43_k4, p43_0⟩ := h43
                have f43 : Fr W_rp Mr Ma43 := Fr.t (Fr.sI (by decide) (Fr.sI (by decide) (Fr.m f41 (by decide)))) (Fr.m g43 (by decide))
                refine rsr (cV_e rfl) ?_
                refine rsr (jv_e) ?_
                exact Rs.ok (Or.inr ⟨1, ((pl i18)), f39, f43, ⟨i18, sz38, sn38, uc38, e39_k0, e39_k1, e39_k2, e39_k3, e39_sz38, e39_sn38, e39_uc38, by omega⟩, ⟨em42, s, u18, mu, ut, e43_k0, e43_k1, e43_em42, e43_k2, e43_k3, e43_k4, (g43.i _ _ (by decide)).trans ((sI_nej (by decide)).trans ((sI_nej (by decide)).trans ((g41.i _ _ (by decide)).trans ((FR18.i _ _ (by decide)).trans h49)))), by omega⟩⟩)
              ·
                refine rsl (cV_e (a64_2 (by omega) hS (hC.fr FL18) (hTk.fr (WL := W_cp) FL18 (by decide)) (q18_12) (q18_13) (q18_10) (li_59) (by omega))) ?_
                refine rsl (gtI_q (w := iI s) (ck_65 (hC.fr FL18).sI.sI.sI) ((sI_nej (by decide)).trans ((sI_nej (by decide)).trans ((sI_nej (by decide)).trans (q18_16))))) ?_
                refine rsl (vC_e (ck_65 (hC.fr FL18).sI.sI.sI)) ?_
                refine RlI (y87 (by omega) (hC.fr FL18).sI.sI.sI (hTk.fr (WL := W_cp) (Fr.sI (by decide) (Fr.sI (by decide) (Fr.sI (by decide) FL18))) (by decide)) ((sI_nej (by decide)).trans ((sI_nej (by decide)).trans ((sI_nej (by decide)).trans (q18_12)))) (sI_eq) ((sI_nej (by decide)).trans ((sI_nej (by decide)).trans (sI_eq))) ((sI_nej (by decide)).trans (sI_eq)) ((sI_nej (by decide)).trans ((sI_nej (by decide)).trans ((sI_nej (by decide)).trans (q18_9)))) ((sI_nej (by decide)).trans ((sI_nej (by decide)).trans ((sI_nej (by decide)).trans (q18_16)))) ((sI_nej (by decide)).trans ((sI_nej (by decide)).trans ((sI_nej (by decide)).trans (q18_19)))) (li_2) (rfl) (by omega)) fun v Ma45 h45 => ?_
                obtain ⟨rv44, sz44, sn44, uc44, rfl, g45, e45_sz44, e45_sn44, e45_uc44, e45_k0, e45_k1, e45_k2, e45_k3, p45_0, p45_1, p45_2, p45_3⟩ := h45
                have f45 : Fr W_cp Mc Ma45 := Fr.t (Fr.sI (by decide) (Fr.sI (by decide) (Fr.sI (by decide) FL18))) (Fr.m g45 (by decide))
                refine rsl (cI_e rfl) ?_
                refine rsl (vC_e (ck_65 (hC.fr f45))) ?_
                refine RlV (y75 (by omega) (hC.fr f45) (hTk.fr (WL := W_cp) f45 (by decide)) (e45_k3) (e45_k0) (e45_k1) (e45_k2) (e45_sz44) (e45_sn44) (e45_uc44)  (by omega)) fun v Ma47 h47 => ?_
                obtain ⟨sz46, sn46, uc46, g47, e47_sz46, e47_sn46, e47_uc46, e47_k0, e47_k1, e47_k2, e47_k3, p47_0, p47_1, p47_2⟩ := h47
                have f47 : Fr W_cp Mc Ma47 := Fr.t f45 (Fr.m g47 (by decide))
                refine rsl (cV_e rfl) ?_
                refine rsr (gtI_q (w := iI s) (rk_160 (hR.fr FR18)) (w18_51)) ?_
                refine rsr (vC_e (rk_160 (hR.fr FR18))) ?_
                refine RrI (a196q (by omega) (hR.fr FR18) (w18_43) ((FR18.i _ _ (by decide)).trans h49) ((FR18.i _ _ (by decide)).trans h48) (li_2) (rfl) (q := (e18 + 1)) (by omega) (by omega)) fun v Ma49 h49 => ?_
                obtain ⟨r48, rfl, g49, e49_k0, p49_0, p49_1⟩ := h49
                have f49 : Fr W_rx Mr Ma49 := Fr.t FR18 (Fr.m g49 (by decide))
                refine rsr (cI_e rfl) ?_
                refine rsr (vC_e (rk_160 (hR.fr f49))) ?_
                refine rsr (cI_e (a195_59_2 (by omega) hS (hR.fr f49) ((g49.i _ _ (by decide)).trans (w18_36)) ((g49.i _ _ (by decide)).trans (w18_37)) ((g49.i _ _ (by decide)).trans (w18_41)) (li_59) (by omega))) ?_
                refine rsr (vC_e (rk_160 (hR.fr f49).sI.sI)) ?_
                refine RrV (x199_s (by omega) (hR.fr f49).sI.sI ((sI_nej (by decide)).trans (sI_eq)) (sI_eq) ((sI_nej (by decide)).trans ((sI_nej (by decide)).trans (e49_k0))) ((sI_nej (by decide)).trans ((sI_nej (by decide)).trans ((g49.i _ _ (by decide)).trans (w18_51)))) ((sI_nej (by decide)).trans ((sI_nej (by decide)).trans ((g49.i _ _ (by decide)).trans (w18_53)))) ((sI_nej (by decide)).trans ((sI_nej (by decide)).trans ((g49.i _ _ (by decide)).trans ((FR18.i _ _ (by decide)).trans h48)))) ((sI_nej (by decide)).trans ((sI_nej (by decide)).trans ((g49.i _ _ (by decide)).trans ((FR18.i _ _ (by decide)).trans h49))))  (by omega)) fun v Ma51 h51 => ?_
                obtain ⟨em50, g51, e51_em50, e51_k0, e51_k1, e51_k2, e51_k3, e51_k4, p51_0⟩ := h51
                have f51 : Fr W_rp Mr Ma51 := Fr.t (Fr.sI (by decide) (Fr.sI (by decide) (Fr.m f49 (by decide)))) (Fr.m g51 (by decide))
                refine rsr (cV_e rfl) ?_
                refine rsr (jv_e) ?_
                exact Rs.ok (Or.inr ⟨2, ((pl i18)), f47, f51, ⟨i18, sz46, sn46, uc46, e47_k0, e47_k1, e47_k2, e47_k3, e47_sz46, e47_sn46, e47_uc46, by omega⟩, ⟨em50, s, u18, mu, ut, e51_k0, e51_k1, e51_em50, e51_k2, e51_k3, e51_k4, (g51.i _ _ (by decide)).trans ((sI_nej (by decide)).trans ((sI_nej (by decide)).trans ((g49.i _ _ (by decide)).trans ((FR18.i _ _ (by decide)).trans h49)))), by omega⟩⟩)
          ·
            have FL18 : Fr W_cp Mc Mx18 := Fr.t (Fr.sI (by decide) (Fr.sI (by decide) (Fr.sI (by decide) (Fr.sI (by decide) (Fr.sI (by decide) (Fr.sI (by decide) Fr.r)))))) fl18
            have FR18 : Fr W_rp Mr Nx18 := Fr.t (Fr.m f17 W_rx_p) fr18
            obtain ⟨ti18, tz18, tn18, tu18, t1318, t1018, t1118, t1218, t918, t1618, t1918, tb18⟩ := tc18
            obtain ⟨re18, rn18, ru18, rm18, rt18, u4118, u4218, u4318, u5118, u5318, u4818, u4918, ub18⟩ := tr18
            refine rsl (cV_e rfl) ?_
            refine rsr (cV_e rfl) ?_
            refine rsl (vC_e (ck_65 (hC.fr FL18))) ?_
            refine RlV (y64 (by omega) (hC.fr FL18) (hTk.fr (WL := W_cp) FL18 (by decide)) (t1218) (t1318) (t1018) (t1118) (t918) (t1618) (t1918) (li_59) (by omega)) fun v Ma53 h53 => ?_
            obtain ⟨sz52, sn52, uc52, g53, e53_sz52, e53_sn52, e53_uc52, e53_k0, e53_k1, e53_k2, e53_k3, p53_0, p53_1, p53_2⟩ := h53
            have f53 : Fr W_cp Mc Ma53 := Fr.t FL18 (Fr.m g53 (by decide))
            refine rsl (cV_e rfl) ?_
            refine rsl (gtI_q (w := iI sn52) (ck_65 (hC.fr f53)) (e53_sn52)) ?_
            refine rsl (vC_e (ck_65 (hC.fr f53))) ?_
            refine RlI (y87 (by omega) (hC.fr f53) (hTk.fr (WL := W_cp) f53 (by decide)) (e53_k3) (e53_k0) (e53_k1) (e53_k2) (e53_sz52) (e53_sn52) (e53_uc52) (li_2) (rfl) (by omega)) fun v Ma55 h55 => ?_
            obtain ⟨rv54, sz54, sn54, uc54, rfl, g55, e55_sz54, e55_sn54, e55_uc54, e55_k0, e55_k1, e55_k2, e55_k3, p55_0, p55_1, p55_2, p55_3⟩ := h55
            have f55 : Fr W_cp Mc Ma55 := Fr.t f53 (Fr.m g55 (by decide))
            refine rsl (cI_e rfl) ?_
            refine rsl (vC_e (ck_65 (hC.fr f55))) ?_
            refine RlV (y75 (by omega) (hC.fr f55) (hTk.fr (WL := W_cp) f55 (by decide)) (e55_k3) (e55_k0) (e55_k1) (e55_k2) (e55_sz54) (e55_sn54) (e55_uc54)  (by omega)) fun v Ma57 h57 => ?_
            obtain ⟨sz56, sn56, uc56, g57, e57_sz56, e57_sn56, e57_uc56, e57_k0, e57_k1, e57_k2, e57_k3, p57_0, p57_1, p57_2⟩ := h57
            have f57 : Fr W_cp Mc Ma57 := Fr.t f55 (Fr.m g57 (by decide))
            refine rsl (cV_e rfl) ?_
            refine rsr (gtI_q (w := iI rn18) (rk_160 (hR.fr FR18)) (u5118)) ?_
            refine rsr (vC_e (rk_160 (hR.fr FR18))) ?_
            refine RrI (x196_s (by omega) (hR.fr FR18) (u4118) (u4218) (u4318) (u5118) (u5318) (u4818) (u4918) (li_2) (rfl) (by omega)) fun v Ma59 h59 => ?_
            obtain ⟨rv58, em58, rfl, g59, e59_em58, e59_k0, e59_k1, e59_k2, e59_k3, e59_k4, p59_0, p59_1⟩ := h59
            have f59 : Fr W_rp Mr Ma59 := Fr.t FR18 (Fr.m g59 (by decide))
            refine rsr (cI_e rfl) ?_
            refine rsr (vC_e (rk_160 (hR.fr f59))) ?_
            refine RrI (x195_s (by omega) (hR.fr f59) (e59_k0) (e59_k1) (e59_em58) (e59_k2) (e59_k3) (e59_k4) ((g59.i _ _ (by decide)).trans (u4918)) (li_59) (by omega)) fun v Ma61 h61 => ?_
            obtain ⟨rv60, em60, rfl, g61, e61_em60, e61_k0, e61_k1, e61_k2, e61_k3, e61_k4, p61_0, p61_1⟩ := h61
            have f61 : Fr W_rp Mr Ma61 := Fr.t f59 (Fr.m g61 (by decide))
            refine rsr (cI_e rfl) ?_
            refine rsr (vC_e (rk_160 (hR.fr f61))) ?_
            refine RrV (x199_s (by omega) (hR.fr f61) (e61_k0) (e61_k1) (e61_em60) (e61_k2) (e61_k3) (e61_k4) ((g61.i _ _ (by decide)).trans ((g59.i _ _ (by decide)).trans (u4918)))  (by omega)) fun v Ma63 h63 => ?_
            obtain ⟨em62, g63, e63_em62, e63_k0, e63_k1, e63_k2, e63_k3, e63_k4, p63_0⟩ := h63
            have f63 : Fr W_rp Mr Ma63 := Fr.t f61 (Fr.m g63 (by decide))
            refine rsr (cV_e rfl) ?_
            refine rsr (jv_e) ?_
            exact Rs.ok (Or.inr ⟨F18, P18, f57, f63, ⟨ti18, sz56, sn56, uc56, e57_k0, e57_k1, e57_k2, e57_k3, e57_sz56, e57_sn56, e57_uc56, by omega⟩, ⟨em62, rn18, ru18, rm18, rt18, e63_k0, e63_k1, e63_em62, e63_k2, e63_k3, e63_k4, (g63.i _ _ (by decide)).trans ((g61.i _ _ (by decide)).trans ((g59.i _ _ (by decide)).trans (u4918))), by omega⟩⟩)
        ·
          by_cases c64 : ((kd (i + 2))) = 1
          ·
            refine rsl (cV_e (a64_1 (by omega) hS hC.sI.sI.sI.sI (hTk.fr (WL := W_cp) (Fr.sI (by decide) (Fr.sI (by decide) (Fr.sI (by decide) (Fr.sI (by decide) Fr.r)))) (by decide)) ((sI_nej (by decide)).trans (sI_eq)) (sI_eq) ((sI_nej (by decide)).trans ((sI_nej (by decide)).trans ((sI_nej (by decide)).trans ((sI_nej (by decide)).trans (qa_10))))) (li_61) (by omega))) ?_
            refine rsl (vC_e (ck_65 hC.sI.sI.sI.sI.sI.sI.sI)) ?_
            refine RlV (y99_0 (by omega) hC.sI.sI.sI.sI.sI.sI.sI (hTk.fr (WL := W_cp) (Fr.sI (by decide) (Fr.sI (by decide) (Fr.sI (by decide) (Fr.sI (by decide) (Fr.sI (by decide) (Fr.sI (by decide) (Fr.sI (by decide) Fr.r))))))) (by decide)) ((sI_nej (by decide)).trans ((sI_nej (by decide)).trans ((sI_nej (by decide)).trans ((sI_nej (by decide)).trans (sI_eq))))) (sI_eq) ((sI_nej (by decide)).trans ((sI_nej (by decide)).trans (sI_eq))) ((sI_nej (by decide)).trans (sI_eq)) ((sI_nej (by decide)).trans ((sI_nej (by decide)).trans ((sI_nej (by decide)).trans ((sI_nej (by decide)).trans ((sI_nej (by decide)).trans ((sI_nej (by decide)).trans ((sI_nej (by decide)).trans (qa_9)))))))) ((sI_nej (by decide)).trans ((sI_nej (by decide)).trans ((sI_nej (by decide)).trans ((sI_nej (by decide)).trans ((sI_nej (by decide)).trans ((sI_nej (by decide)).trans ((sI_nej (by decide)).trans (qa_16)))))))) ((sI_nej (by decide)).trans ((sI_nej (by decide)).trans ((sI_nej (by decide)).trans ((sI_nej (by decide)).trans ((sI_nej (by decide)).trans ((sI_nej (by decide)).trans ((sI_nej (by decide)).trans (qa_19)))))))) (li_0) (hv0) (by omega)) fun v Ma66 h66 => ?_
            obtain ⟨sz65, sn65, uc65, g66, e66_sz65, e66_sn65, e66_uc65, e66_k0, e66_k1, e66_k2, e66_k3, p66_0, p66_1, p66_2⟩ := h66
            have f66 : Fr W_cp Mc Ma66 := Fr.t (Fr.sI (by decide) (Fr.sI (by decide) (Fr.sI (by decide) (Fr.sI (by decide) (Fr.sI (by decide) (Fr.sI (by decide) (Fr.sI (by decide) Fr.r))))))) (Fr.m g66 (by decide))
            refine rsl (cV_e rfl) ?_
            refine rsl (vC_e (ck_65 (hC.fr f66))) ?_
            refine RlV (y64 (by omega) (hC.fr f66) (hTk.fr (WL := W_cp) f66 (by decide)) (e66_k3) (e66_k0) (e66_k1) (e66_k2) (e66_sz65) (e66_sn65) (e66_uc65) (li_59) (by omega)) fun v Ma68 h68 => ?_
            obtain ⟨sz67, sn67, uc67, g68, e68_sz67, e68_sn67, e68_uc67, e68_k0, e68_k1, e68_k2, e68_k3, p68_0, p68_1, p68_2⟩ := h68
            have f68 : Fr W_cp Mc Ma68 := Fr.t f66 (Fr.m g68 (by decide))
            refine rsl (cV_e rfl) ?_
            refine rsl (gtI_q (w := iI sn67) (ck_65 (hC.fr f68)) (e68_sn67)) ?_
            refine rsl (vC_e (ck_65 (hC.fr f68))) ?_
            refine RlI (y87 (by omega) (hC.fr f68) (hTk.fr (WL := W_cp) f68 (by decide)) (e68_k3) (e68_k0) (e68_k1) (e68_k2) (e68_sz67) (e68_sn67) (e68_uc67) (li_2) (rfl) (by omega)) fun v Ma70 h70 => ?_
            obtain ⟨rv69, sz69, sn69, uc69, rfl, g70, e70_sz69, e70_sn69, e70_uc69, e70_k0, e70_k1, e70_k2, e70_k3, p70_0, p70_1, p70_2, p70_3⟩ := h70
            have f70 : Fr W_cp Mc Ma70 := Fr.t f68 (Fr.m g70 (by decide))
            refine rsl (cI_e rfl) ?_
            refine rsl (vC_e (ck_65 (hC.fr f70))) ?_
            refine RlV (y75 (by omega) (hC.fr f70) (hTk.fr (WL := W_cp) f70 (by decide)) (e70_k3) (e70_k0) (e70_k1) (e70_k2) (e70_sz69) (e70_sn69) (e70_uc69)  (by omega)) fun v Ma72 h72 => ?_
            obtain ⟨sz71, sn71, uc71, g72, e72_sz71, e72_sn71, e72_uc71, e72_k0, e72_k1, e72_k2, e72_k3, p72_0, p72_1, p72_2⟩ := h72
            have f72 : Fr W_cp Mc Ma72 := Fr.t f70 (Fr.m g72 (by decide))
            refine rsl (cV_e rfl) ?_
            refine rsr (gtI_q (w := iI ((kr (kd i)))) (rk_160 hR) (wa_36)) ?_
            refine rsr (jn_v) ?_
            refine rsr (swI_c) ?_
            refine rsr (if_pos (krI_p (k := 215) (rfl) (li_416) (by omega) (by decide +kernel))) ?_
            refine rsr (vC_e (rk_160 hR)) ?_
            refine RrV (nx_q (by omega) hS hR (hT.fr (W := W_rx) Fr.r (by decide) (by decide)) (fun i a b => (Fr.lc (W := W_rx) Fr.r _ (by decide) _).trans (hW i a b)) (i := i) (i2 := (i + 1)) (wa_41) (wa_38) (by omega) (by omega) (by omega)) fun v Ma73 h73 => ?_
            obtain ⟨g73, e73_k0, e73_k1, e73_k2, p73_0⟩ := h73
            have f73 : Fr W_rx Mr Ma73 := Fr.t Fr.r (Fr.m g73 (by decide))
            refine rsr (cV_e rfl) ?_
            refine rsr (vC_e (rk_160 (hR.fr f73))) ?_
            refine rsr (cI_e (a198_p (by omega) hS (hR.fr f73) (e73_k0) (e73_k1) ((g73.i _ _ (by decide)).trans (wa_41)) p73_0 ((g73.i _ _ (by decide)).trans (wa_51)) (lra.fr g73 (by decide)) hlc7 (by omega))) ?_
            refine rsr (if_neg (eqI_n (rfl) (li_0) (by omega))) ?_
            refine rsr (gtL_q (w := (tx (i + 1))) (rk_160 (hR.fr f73)) (p73_0.1 (by omega))) ?_
            refine rsr (vC_e (rk_160 (hR.fr f73))) ?_
            refine RrV (nx_q (by omega) hS (hR.fr f73) (hT.fr (W := W_rx) f73 (by decide) (by decide)) (fun i a b => (Fr.lc (W := W_rx) f73 _ (by decide) _).trans (hW i a b)) (i := (i + 1)) (i2 := (i + 2)) ((g73.i _ _ (by decide)).trans (wa_41)) (e73_k2) (by omega) (by omega) (by omega)) fun v Ma74 h74 => ?_
            obtain ⟨g74, e74_k0, e74_k1, e74_k2, p74_0⟩ := h74
            have f74 : Fr W_rx Mr Ma74 := Fr.t f73 (Fr.m g74 (by decide))
            refine rsr (cV_e rfl) ?_
            refine rsr (vC_e (rk_160 (hR.fr f74))) ?_
            refine rsr (cI_e (a195_61_1 (by omega) hS (hR.fr f74) (e74_k0) (e74_k1) ((g74.i _ _ (by decide)).trans ((g73.i _ _ (by decide)).trans (wa_41))) (li_61) (by omega))) ?_
            refine rsr (vC_e (rk_160 (hR.fr f74).sI.sI)) ?_
            refine RrV (x211_s (by omega) (hR.fr f74).sI.sI ((sI_nej (by decide)).trans (sI_eq)) (sI_eq) ((sI_nej (by decide)).trans ((sI_nej (by decide)).trans ((g74.i _ _ (by decide)).trans ((g73.i _ _ (by decide)).trans (wa_43))))) ((sI_nej (by decide)).trans ((sI_nej (by decide)).trans ((g74.i _ _ (by decide)).trans ((g73.i _ _ (by decide)).trans (wa_51))))) ((sI_nej (by decide)).trans ((sI_nej (by decide)).trans ((g74.i _ _ (by decide)).trans ((g73.i _ _ (by decide)).trans (wa_53))))) ((sI_nej (by decide)).trans ((sI_nej (by decide)).trans ((g74.i _ _ (by decide)).trans ((g73.i _ _ (by decide)).trans (h48))))) ((sI_nej (by decide)).trans ((sI_nej (by decide)).trans ((g74.i _ _ (by decide)).trans ((g73.i _ _ (by decide)).trans (h49)))))  (by omega)) fun v Ma76 h76 => ?_
            obtain ⟨em75, g76, e76_em75, e76_k0, e76_k1, e76_k2, e76_k3, e76_k4, p76_0⟩ := h76
            have f76 : Fr W_rp Mr Ma76 := Fr.t (Fr.sI (by decide) (Fr.sI (by decide) (Fr.m f74 (by decide)))) (Fr.m g76 (by decide))
            refine rsr (cV_e rfl) ?_
            refine rsr (gtI_q (w := iI s) (rk_160 (hR.fr f76)) (e76_k2)) ?_
            refine rsr (vC_e (rk_160 (hR.fr f76))) ?_
            refine RrI (x196_s (by omega) (hR.fr f76) (e76_k0) (e76_k1) (e76_em75) (e76_k2) (e76_k3) (e76_k4) ((g76.i _ _ (by decide)).trans ((sI_nej (by decide)).trans ((sI_nej (by decide)).trans ((g74.i _ _ (by decide)).trans ((g73.i _ _ (by decide)).trans (h49)))))) (li_2) (rfl) (by omega)) fun v Ma78 h78 => ?_
            obtain ⟨rv77, em77, rfl, g78, e78_em77, e78_k0, e78_k1, e78_k2, e78_k3, e78_k4, p78_0, p78_1⟩ := h78
            have f78 : Fr W_rp Mr Ma78 := Fr.t f76 (Fr.m g78 (by decide))
            refine rsr (cI_e rfl) ?_
            refine rsr (vC_e (rk_160 (hR.fr f78))) ?_
            refine RrI (x195_s (by omega) (hR.fr f78) (e78_k0) (e78_k1) (e78_em77) (e78_k2) (e78_k3) (e78_k4) ((g78.i _ _ (by decide)).trans ((g76.i _ _ (by decide)).trans ((sI_nej (by decide)).trans ((sI_nej (by decide)).trans ((g74.i _ _ (by decide)).trans ((g73.i _ _ (by decide)).trans (h49))))))) (li_59) (by omega)) fun v Ma80 h80 => ?_
            obtain ⟨rv79, em79, rfl, g80, e80_em79, e80_k0, e80_k1, e80_k2, e80_k3, e80_k4, p80_0, p80_1⟩ := h80
            have f80 : Fr W_rp Mr Ma80 := Fr.t f78 (Fr.m g80 (by decide))
            refine rsr (cI_e rfl) ?_
            refine rsr (vC_e (rk_160 (hR.fr f80))) ?_
            refine RrV (x199_s (by omega) (hR.fr f80) (e80_k0) (e80_k1) (e80_em79) (e80_k2) (e80_k3) (e80_k4) ((g80.i _ _ (by decide)).trans ((g78.i _ _ (by decide)).trans ((g76.i _ _ (by decide)).trans ((sI_nej (by decide)).trans ((sI_nej (by decide)).trans ((g74.i _ _ (by decide)).trans ((g73.i _ _ (by decide)).trans (h49))))))))  (by omega)) fun v Ma82 h82 => ?_
            obtain ⟨em81, g82, e82_em81, e82_k0, e82_k1, e82_k2, e82_k3, e82_k4, p82_0⟩ := h82
            have f82 : Fr W_rp Mr Ma82 := Fr.t f80 (Fr.m g82 (by decide))
            refine rsr (cV_e rfl) ?_
            refine rsr (jv_e) ?_
            exact Rs.ok (Or.inr ⟨1, ((pl (i + 2))), f72, f82, ⟨(i + 2), sz71, sn71, uc71, e72_k0, e72_k1, e72_k2, e72_k3, e72_sz71, e72_sn71, e72_uc71, by omega⟩, ⟨em81, s, u, mu, ut, e82_k0, e82_k1, e82_em81, e82_k2, e82_k3, e82_k4, (g82.i _ _ (by decide)).trans ((g80.i _ _ (by decide)).trans ((g78.i _ _ (by decide)).trans ((g76.i _ _ (by decide)).trans ((sI_nej (by decide)).trans ((sI_nej (by decide)).trans ((g74.i _ _ (by decide)).trans ((g73.i _ _ (by decide)).trans (h49)))))))), by omega⟩⟩)
          ·
            refine rsl (cV_e (a64_2 (by omega) hS hC.sI.sI.sI.sI (hTk.fr (WL := W_cp) (Fr.sI (by decide) (Fr.sI (by decide) (Fr.sI (by decide) (Fr.sI (by decide) Fr.r)))) (by decide)) ((sI_nej (by decide)).trans (sI_eq)) (sI_eq) ((sI_nej (by decide)).trans ((sI_nej (by decide)).trans ((sI_nej (by decide)).trans ((sI_nej (by decide)).trans (qa_10))))) (li_61) (by omega))) ?_
            refine rsl (vC_e (ck_65 hC.sI.sI.sI.sI.sI.sI.sI)) ?_
            refine RlV (y99_0 (by omega) hC.sI.sI.sI.sI.sI.sI.sI (hTk.fr (WL := W_cp) (Fr.sI (by decide) (Fr.sI (by decide) (Fr.sI (by decide) (Fr.sI (by decide) (Fr.sI (by decide) (Fr.sI (by decide) (Fr.sI (by decide) Fr.r))))))) (by decide)) ((sI_nej (by decide)).trans ((sI_nej (by decide)).trans ((sI_nej (by decide)).trans ((sI_nej (by decide)).trans (sI_eq))))) (sI_eq) ((sI_nej (by decide)).trans ((sI_nej (by decide)).trans (sI_eq))) ((sI_nej (by decide)).trans (sI_eq)) ((sI_nej (by decide)).trans ((sI_nej (by decide)).trans ((sI_nej (by decide)).trans ((sI_nej (by decide)).trans ((sI_nej (by decide)).trans ((sI_nej (by decide)).trans ((sI_nej (by decide)).trans (qa_9)))))))) ((sI_nej (by decide)).trans ((sI_nej (by decide)).trans ((sI_nej (by decide)).trans ((sI_nej (by decide)).trans ((sI_nej (by decide)).trans ((sI_nej (by decide)).trans ((sI_nej (by decide)).trans (qa_16)))))))) ((sI_nej (by decide)).trans ((sI_nej (by decide)).trans ((sI_nej (by decide)).trans ((sI_nej (by decide)).trans ((sI_nej (by decide)).trans ((sI_nej (by decide)).trans ((sI_nej (by decide)).trans (qa_19)))))))) (li_0) (hv0) (by omega)) fun v Ma84 h84 => ?_
            obtain ⟨sz83, sn83, uc83, g84, e84_sz83, e84_sn83, e84_uc83, e84_k0, e84_k1, e84_k2, e84_k3, p84_0, p84_1, p84_2⟩ := h84
            have f84 : Fr W_cp Mc Ma84 := Fr.t (Fr.sI (by decide) (Fr.sI (by decide) (Fr.sI (by decide) (Fr.sI (by decide) (Fr.sI (by decide) (Fr.sI (by decide) (Fr.sI (by decide) Fr.r))))))) (Fr.m g84 (by decide))
            refine rsl (cV_e rfl) ?_
            refine rsl (vC_e (ck_65 (hC.fr f84))) ?_
            refine RlV (y64 (by omega) (hC.fr f84) (hTk.fr (WL := W_cp) f84 (by decide)) (e84_k3) (e84_k0) (e84_k1) (e84_k2) (e84_sz83) (e84_sn83) (e84_uc83) (li_59) (by omega)) fun v Ma86 h86 => ?_
            obtain ⟨sz85, sn85, uc85, g86, e86_sz85, e86_sn85, e86_uc85, e86_k0, e86_k1, e86_k2, e86_k3, p86_0, p86_1, p86_2⟩ := h86
            have f86 : Fr W_cp Mc Ma86 := Fr.t f84 (Fr.m g86 (by decide))
            refine rsl (cV_e rfl) ?_
            refine rsl (gtI_q (w := iI sn85) (ck_65 (hC.fr f86)) (e86_sn85)) ?_
            refine rsl (vC_e (ck_65 (hC.fr f86))) ?_
            refine RlI (y87 (by omega) (hC.fr f86) (hTk.fr (WL := W_cp) f86 (by decide)) (e86_k3) (e86_k0) (e86_k1) (e86_k2) (e86_sz85) (e86_sn85) (e86_uc85) (li_2) (rfl) (by omega)) fun v Ma88 h88 => ?_
            obtain ⟨rv87, sz87, sn87, uc87, rfl, g88, e88_sz87, e88_sn87, e88_uc87, e88_k0, e88_k1, e88_k2, e88_k3, p88_0, p88_1, p88_2, p88_3⟩ := h88
            have f88 : Fr W_cp Mc Ma88 := Fr.t f86 (Fr.m g88 (by decide))
            refine rsl (cI_e rfl) ?_
            refine rsl (vC_e (ck_65 (hC.fr f88))) ?_
            refine RlV (y75 (by omega) (hC.fr f88) (hTk.fr (WL := W_cp) f88 (by decide)) (e88_k3) (e88_k0) (e88_k1) (e88_k2) (e88_sz87) (e88_sn87) (e88_uc87)  (by omega)) fun v Ma90 h90 => ?_
            obtain ⟨sz89, sn89, uc89, g90, e90_sz89, e90_sn89, e90_uc89, e90_k0, e90_k1, e90_k2, e90_k3, p90_0, p90_1, p90_2⟩ := h90
            have f90 : Fr W_cp Mc Ma90 := Fr.t f88 (Fr.m g90 (by decide))
            refine rsl (cV_e rfl) ?_
            refine rsr (gtI_q (w := iI ((kr (kd i)))) (rk_160 hR) (wa_36)) ?_
            refine rsr (jn_v) ?_
            refine rsr (swI_c) ?_
            refine rsr (if_pos (krI_p (k := 215) (rfl) (li_416) (by omega) (by decide +kernel))) ?_
            refine rsr (vC_e (rk_160 hR)) ?_
            refine RrV (nx_q (by omega) hS hR (hT.fr (W := W_rx) Fr.r (by decide) (by decide)) (fun i a b => (Fr.lc (W := W_rx) Fr.r _ (by decide) _).trans (hW i a b)) (i := i) (i2 := (i + 1)) (wa_41) (wa_38) (by omega) (by omega) (by omega)) fun v Ma91 h91 => ?_
            obtain ⟨g91, e91_k0, e91_k1, e91_k2, p91_0⟩ := h91
            have f91 : Fr W_rx Mr Ma91 := Fr.t Fr.r (Fr.m g91 (by decide))
            refine rsr (cV_e rfl) ?_
            refine rsr (vC_e (rk_160 (hR.fr f91))) ?_
            refine rsr (cI_e (a198_p (by omega) hS (hR.fr f91) (e91_k0) (e91_k1) ((g91.i _ _ (by decide)).trans (wa_41)) p91_0 ((g91.i _ _ (by decide)).trans (wa_51)) (lra.fr g91 (by decide)) hlc7 (by omega))) ?_
            refine rsr (if_neg (eqI_n (rfl) (li_0) (by omega))) ?_
            refine rsr (gtL_q (w := (tx (i + 1))) (rk_160 (hR.fr f91)) (p91_0.1 (by omega))) ?_
            refine rsr (vC_e (rk_160 (hR.fr f91))) ?_
            refine RrV (nx_q (by omega) hS (hR.fr f91) (hT.fr (W := W_rx) f91 (by decide) (by decide)) (fun i a b => (Fr.lc (W := W_rx) f91 _ (by decide) _).trans (hW i a b)) (i := (i + 1)) (i2 := (i + 2)) ((g91.i _ _ (by decide)).trans (wa_41)) (e91_k2) (by omega) (by omega) (by omega)) fun v Ma92 h92 => ?_
            obtain ⟨g92, e92_k0, e92_k1, e92_k2, p92_0⟩ := h92
            have f92 : Fr W_rx Mr Ma92 := Fr.t f91 (Fr.m g92 (by decide))
            refine rsr (cV_e rfl) ?_
            refine rsr (vC_e (rk_160 (hR.fr f92))) ?_
            refine rsr (cI_e (a195_61_2 (by omega) hS (hR.fr f92) (e92_k0) (e92_k1) ((g92.i _ _ (by decide)).trans ((g91.i _ _ (by decide)).trans (wa_41))) (li_61) (by omega))) ?_
            refine rsr (vC_e (rk_160 (hR.fr f92).sI.sI)) ?_
            refine RrV (x211_s (by omega) (hR.fr f92).sI.sI ((sI_nej (by decide)).trans (sI_eq)) (sI_eq) ((sI_nej (by decide)).trans ((sI_nej (by decide)).trans ((g92.i _ _ (by decide)).trans ((g91.i _ _ (by decide)).trans (wa_43))))) ((sI_nej (by decide)).trans ((sI_nej (by decide)).trans ((g92.i _ _ (by decide)).trans ((g91.i _ _ (by decide)).trans (wa_51))))) ((sI_nej (by decide)).trans ((sI_nej (by decide)).trans ((g92.i _ _ (by decide)).trans ((g91.i _ _ (by decide)).trans (wa_53))))) ((sI_nej (by decide)).trans ((sI_nej (by decide)).trans ((g92.i _ _ (by decide)).trans ((g91.i _ _ (by decide)).trans (h48))))) ((sI_nej (by decide)).trans ((sI_nej (by decide)).trans ((g92.i _ _ (by decide)).trans ((g91.i _ _ (by decide)).trans (h49)))))  (by omega)) fun v Ma94 h94 => ?_
            obtain ⟨em93, g94, e94_em93, e94_k0, e94_k1, e94_k2, e94_k3, e94_k4, p94_0⟩ := h94
            have f94 : Fr W_rp Mr Ma94 := Fr.t (Fr.sI (by decide) (Fr.sI (by decide) (Fr.m f92 (by decide)))) (Fr.m g94 (by decide))
            refine rsr (cV_e rfl) ?_
            refine rsr (gtI_q (w := iI s) (rk_160 (hR.fr f94)) (e94_k2)) ?_
            refine rsr (vC_e (rk_160 (hR.fr f94))) ?_
            refine RrI (x196_s (by omega) (hR.fr f94) (e94_k0) (e94_k1) (e94_em93) (e94_k2) (e94_k3) (e94_k4) ((g94.i _ _ (by decide)).trans ((sI_nej (by decide)).trans ((sI_nej (by decide)).trans ((g92.i _ _ (by decide)).trans ((g91.i _ _ (by decide)).trans (h49)))))) (li_2) (rfl) (by omega)) fun v Ma96 h96 => ?_
            obtain ⟨rv95, em95, rfl, g96, e96_em95, e96_k0, e96_k1, e96_k2, e96_k3, e96_k4, p96_0, p96_1⟩ := h96
            have f96 : Fr W_rp Mr Ma96 := Fr.t f94 (Fr.m g96 (by decide))
            refine rsr (cI_e rfl) ?_
            refine rsr (vC_e (rk_160 (hR.fr f96))) ?_
            refine RrI (x195_s (by omega) (hR.fr f96) (e96_k0) (e96_k1) (e96_em95) (e96_k2) (e96_k3) (e96_k4) ((g96.i _ _ (by decide)).trans ((g94.i _ _ (by decide)).trans ((sI_nej (by decide)).trans ((sI_nej (by decide)).trans ((g92.i _ _ (by decide)).trans ((g91.i _ _ (by decide)).trans (h49))))))) (li_59) (by omega)) fun v Ma98 h98 => ?_
            obtain ⟨rv97, em97, rfl, g98, e98_em97, e98_k0, e98_k1, e98_k2, e98_k3, e98_k4, p98_0, p98_1⟩ := h98
            have f98 : Fr W_rp Mr Ma98 := Fr.t f96 (Fr.m g98 (by decide))
            refine rsr (cI_e rfl) ?_
            refine rsr (vC_e (rk_160 (hR.fr f98))) ?_
            refine RrV (x199_s (by omega) (hR.fr f98) (e98_k0) (e98_k1) (e98_em97) (e98_k2) (e98_k3) (e98_k4) ((g98.i _ _ (by decide)).trans ((g96.i _ _ (by decide)).trans ((g94.i _ _ (by decide)).trans ((sI_nej (by decide)).trans ((sI_nej (by decide)).trans ((g92.i _ _ (by decide)).trans ((g91.i _ _ (by decide)).trans (h49))))))))  (by omega)) fun v Ma100 h100 => ?_
            obtain ⟨em99, g100, e100_em99, e100_k0, e100_k1, e100_k2, e100_k3, e100_k4, p100_0⟩ := h100
            have f100 : Fr W_rp Mr Ma100 := Fr.t f98 (Fr.m g100 (by decide))
            refine rsr (cV_e rfl) ?_
            refine rsr (jv_e) ?_
            exact Rs.ok (Or.inr ⟨2, ((pl (i + 2))), f90, f100, ⟨(i + 2), sz89, sn89, uc89, e90_k0, e90_k1, e90_k2, e90_k3, e90_sz89, e90_sn89, e90_uc89, by omega⟩, ⟨em99, s, u, mu, ut, e100_k0, e100_k1, e100_em99, e100_k2, e100_k3, e100_k4, (g100.i _ _ (by decide)).trans ((g98.i _ _ (by decide)).trans ((g96.i _ _ (by decide)).trans ((g94.i _ _ (by decide)).trans ((sI_nej (by decide)).trans ((sI_nej (by decide)).trans ((g92.i _ _ (by decide)).trans ((g91.i _ _ (by decide)).trans (h49)))))))), by omega⟩⟩)
      · refine rsl (if_neg (lsI_n (rfl) (li_10) (by omega))) ?_
        refine rsl (jv_e) ?_
        refine rsl (vC_e (ck_65 hC.sI.sI)) ?_
        refine rsl (cL_e (a66_6 (by omega) hS hC.sI.sI (hTk.fr (WL := W_cp) (Fr.sI (by decide) (Fr.sI (by decide) Fr.r)) (by decide)) ((sI_nej (by decide)).trans (sI_eq)) (sI_eq) ((sI_nej (by decide)).trans ((sI_nej (by decide)).trans (qa_10))) (li_0) (li_1) (by omega))) ?_
        refine rsl (vC_e (ck_65 hC.sI.sI.sI.sI.sI)) ?_
        refine RlV (y64 (by omega) hC.sI.sI.sI.sI.sI (hTk.fr (WL := W_cp) (Fr.sI (by decide) (Fr.sI (by decide) (Fr.sI (by decide) (Fr.sI (by decide) (Fr.sI (by decide) Fr.r))))) (by decide)) ((sI_nej (by decide)).trans ((sI_nej (by decide)).trans ((sI_nej (by decide)).trans ((sI_nej (by decide)).trans (sI_eq))))) (sI_eq) ((sI_nej (by decide)).trans ((sI_nej (by decide)).trans (sI_eq))) ((sI_nej (by decide)).trans (sI_eq)) ((sI_nej (by decide)).trans ((sI_nej (by decide)).trans ((sI_nej (by decide)).trans ((sI_nej (by decide)).trans ((sI_nej (by decide)).trans (qa_9)))))) ((sI_nej (by decide)).trans ((sI_nej (by decide)).trans ((sI_nej (by decide)).trans ((sI_nej (by decide)).trans ((sI_nej (by decide)).trans (qa_16)))))) ((sI_nej (by decide)).trans ((sI_nej (by decide)).trans ((sI_nej (by decide)).trans ((sI_nej (by decide)).trans ((sI_nej (by decide)).trans (qa_19)))))) (li_61) (by omega)) fun v Ma102 h102 => ?_
        obtain ⟨sz101, sn101, uc101, g102, e102_sz101, e102_sn101, e102_uc101, e102_k0, e102_k1, e102_k2, e102_k3, p102_0, p102_1, p102_2⟩ := h102
        have f102 : Fr W_cp Mc Ma102 := Fr.t (Fr.sI (by decide) (Fr.sI (by decide) (Fr.sI (by decide) (Fr.sI (by decide) (Fr.sI (by decide) Fr.r))))) (Fr.m g102 (by decide))
        refine rsl (cV_e rfl) ?_
        refine rsl (vC_e (ck_65 (hC.fr f102))) ?_
        refine RlV (y99_0 (by omega) (hC.fr f102) (hTk.fr (WL := W_cp) f102 (by decide)) (e102_k3) (e102_k0) (e102_k1) (e102_k2) (e102_sz101) (e102_sn101) (e102_uc101) (li_0) (hv0) (by omega)) fun v Ma104 h104 => ?_
        obtain ⟨sz103, sn103, uc103, g104, e104_sz103, e104_sn103, e104_uc103, e104_k0, e104_k1, e104_k2, e104_k3, p104_0, p104_1, p104_2⟩ := h104
        have f104 : Fr W_cp Mc Ma104 := Fr.t f102 (Fr.m g104 (by decide))
        refine rsl (cV_e rfl) ?_
        refine rsl (vC_e (ck_65 (hC.fr f104))) ?_
        refine RlV (y64 (by omega) (hC.fr f104) (hTk.fr (WL := W_cp) f104 (by decide)) (e104_k3) (e104_k0) (e104_k1) (e104_k2) (e104_sz103) (e104_sn103) (e104_uc103) (li_59) (by omega)) fun v Ma106 h106 => ?_
        obtain ⟨sz105, sn105, uc105, g106, e106_sz105, e106_sn105, e106_uc105, e106_k0, e106_k1, e106_k2, e106_k3, p106_0, p106_1, p106_2⟩ := h106
        have f106 : Fr W_cp Mc Ma106 := Fr.t f104 (Fr.m g106 (by decide))
        refine rsl (cV_e rfl) ?_
        refine rsl (gtI_q (w := iI sn105) (ck_65 (hC.fr f106)) (e106_sn105)) ?_
        refine rsl (vC_e (ck_65 (hC.fr f106))) ?_
        refine RlI (y87 (by omega) (hC.fr f106) (hTk.fr (WL := W_cp) f106 (by decide)) (e106_k3) (e106_k0) (e106_k1) (e106_k2) (e106_sz105) (e106_sn105) (e106_uc105) (li_2) (rfl) (by omega)) fun v Ma108 h108 => ?_
        obtain ⟨rv107, sz107, sn107, uc107, rfl, g108, e108_sz107, e108_sn107, e108_uc107, e108_k0, e108_k1, e108_k2, e108_k3, p108_0, p108_1, p108_2, p108_3⟩ := h108
        have f108 : Fr W_cp Mc Ma108 := Fr.t f106 (Fr.m g108 (by decide))
        refine rsl (cI_e rfl) ?_
        refine rsl (vC_e (ck_65 (hC.fr f108))) ?_
        refine RlV (y75 (by omega) (hC.fr f108) (hTk.fr (WL := W_cp) f108 (by decide)) (e108_k3) (e108_k0) (e108_k1) (e108_k2) (e108_sz107) (e108_sn107) (e108_uc107)  (by omega)) fun v Ma110 h110 => ?_
        obtain ⟨sz109, sn109, uc109, g110, e110_sz109, e110_sn109, e110_uc109, e110_k0, e110_k1, e110_k2, e110_k3, p110_0, p110_1, p110_2⟩ := h110
        have f110 : Fr W_cp Mc Ma110 := Fr.t f108 (Fr.m g110 (by decide))
        refine rsl (cV_e rfl) ?_
        refine rsr (gtI_q (w := iI ((kr (kd i)))) (rk_160 hR) (wa_36)) ?_
        refine rsr (jn_v) ?_
        refine rsr (swI_c) ?_
        refine rsr (if_pos (krI_p (k := 215) (rfl) (li_416) (by omega) (by decide +kernel))) ?_
        refine rsr (vC_e (rk_160 hR)) ?_
        refine RrV (nx_q (by omega) hS hR (hT.fr (W := W_rx) Fr.r (by decide) (by decide)) (fun i a b => (Fr.lc (W := W_rx) Fr.r _ (by decide) _).trans (hW i a b)) (i := i) (i2 := (i + 1)) (wa_41) (wa_38) (by omega) (by omega) (by omega)) fun v Ma111 h111 => ?_
        obtain ⟨g111, e111_k0, e111_k1, e111_k2, p111_0⟩ := h111
        have f111 : Fr W_rx Mr Ma111 := Fr.t Fr.r (Fr.m g111 (by decide))
        refine rsr (cV_e rfl) ?_
        refine rsr (vC_e (rk_160 (hR.fr f111))) ?_
        refine rsr (cI_e (a198_6 (by omega) hS (hR.fr f111) (e111_k0) (e111_k1) ((g111.i _ _ (by decide)).trans (wa_41)) p111_0 ((g111.i _ _ (by decide)).trans (wa_51)) (lra.fr g111 (by decide)) hlc7 (by omega))) ?_
        refine rsr (if_pos (eqI_p (rfl) (li_0) (by omega))) ?_
        refine rsr (jv_e) ?_
        exact Rs.ok (Or.inr ⟨6, ((pl (i + 1))), f110, (Fr.sI (by decide) (Fr.sI (by decide) (Fr.m f111 (by decide)))), ⟨(i + 1), sz109, sn109, uc109, e110_k0, e110_k1, e110_k2, e110_k3, e110_sz109, e110_sn109, e110_uc109, by omega⟩, ⟨e, s, u, mu, ut, (sI_nej (by decide)).trans (sI_eq), sI_eq, (sI_nej (by decide)).trans ((sI_nej (by decide)).trans ((g111.i _ _ (by decide)).trans (wa_43))), (sI_nej (by decide)).trans ((sI_nej (by decide)).trans ((g111.i _ _ (by decide)).trans (wa_51))), (sI_nej (by decide)).trans ((sI_nej (by decide)).trans ((g111.i _ _ (by decide)).trans (wa_53))), (sI_nej (by decide)).trans ((sI_nej (by decide)).trans ((g111.i _ _ (by decide)).trans (h48))), (sI_nej (by decide)).trans ((sI_nej (by decide)).trans ((g111.i _ _ (by decide)).trans (h49))), by omega⟩⟩)
    ·
      refine rsl (jn_v) ?_
      refine rsl (if_neg (lsI_n (congrArg iI (if_neg crl7)) (li_0) (by omega))) ?_
      refine rsl (jv_e) ?_
      refine rsl (gtI_q (w := iI s) (ck_65 hC.sI.sI) ((sI_nej (by decide)).trans ((sI_nej (by decide)).trans (qa_16)))) ?_
      refine rsl (jn_v) ?_
      by_cases c112 : s < 10
      · refine rsl (if_pos (lsI_p (rfl) (li_10) (by omega))) ?_
        refine rsl (jv_e) ?_
        refine rsl (vC_e (ck_65 hC.sI.sI)) ?_
        refine rsl (cL_e (a66_3 (by omega) hS hC.sI.sI (hTk.fr (WL := W_cp) (Fr.sI (by decide) (Fr.sI (by decide) Fr.r)) (by decide)) ((sI_nej (by decide)).trans (sI_eq)) (sI_eq) ((sI_nej (by decide)).trans ((sI_nej (by decide)).trans (qa_10))) (li_1) (li_0) (by omega))) ?_
        refine rsl (vC_e (ck_65 hC.sI.sI.sI.sI.sI)) ?_
        refine RlV (y64 (by omega) hC.sI.sI.sI.sI.sI (hTk.fr (WL := W_cp) (Fr.sI (by decide) (Fr.sI (by decide) (Fr.sI (by decide) (Fr.sI (by decide) (Fr.sI (by decide) Fr.r))))) (by decide)) ((sI_nej (by decide)).trans ((sI_nej (by decide)).trans ((sI_nej (by decide)).trans ((sI_nej (by decide)).trans (sI_eq))))) (sI_eq) ((sI_nej (by decide)).trans ((sI_nej (by decide)).trans (sI_eq))) ((sI_nej (by decide)).trans (sI_eq)) ((sI_nej (by decide)).trans ((sI_nej (by decide)).trans ((sI_nej (by decide)).trans ((sI_nej (by decide)).trans ((sI_nej (by decide)).trans (qa_9)))))) ((sI_nej (by decide)).trans ((sI_nej (by decide)).trans ((sI_nej (by decide)).trans ((sI_nej (by decide)).trans ((sI_nej (by decide)).trans (qa_16)))))) ((sI_nej (by decide)).trans ((sI_nej (by decide)).trans ((sI_nej (by decide)).trans ((sI_nej (by decide)).trans ((sI_nej (by decide)).trans (qa_19)))))) (li_61) (by omega)) fun v Ma114 h114 => ?_
        obtain ⟨sz113, sn113, uc113, g114, e114_sz113, e114_sn113, e114_uc113, e114_k0, e114_k1, e114_k2, e114_k3, p114_0, p114_1, p114_2⟩ := h114
        have f114 : Fr W_cp Mc Ma114 := Fr.t (Fr.sI (by decide) (Fr.sI (by decide) (Fr.sI (by decide) (Fr.sI (by decide) (Fr.sI (by decide) Fr.r))))) (Fr.m g114 (by decide))
        refine rsl (cV_e rfl) ?_
        refine rsl (vC_e (ck_65 (hC.fr f114))) ?_
        refine RlV (y99_0 (by omega) (hC.fr f114) (hTk.fr (WL := W_cp) f114 (by decide)) (e114_k3) (e114_k0) (e114_k1) (e114_k2) (e114_sz113) (e114_sn113) (e114_uc113) (li_0) (hv0) (by omega)) fun v Ma116 h116 => ?_
        obtain ⟨sz115, sn115, uc115, g116, e116_sz115, e116_sn115, e116_uc115, e116_k0, e116_k1, e116_k2, e116_k3, p116_0, p116_1, p116_2⟩ := h116
        have f116 : Fr W_cp Mc Ma116 := Fr.t f114 (Fr.m g116 (by decide))
        refine rsl (cV_e rfl) ?_
        refine rsl (vC_e (ck_65 (hC.fr f116))) ?_
        refine RlV (y64 (by omega) (hC.fr f116) (hTk.fr (WL := W_cp) f116 (by decide)) (e116_k3) (e116_k0) (e116_k1) (e116_k2) (e116_sz115) (e116_sn115) (e116_uc115) (li_59) (by omega)) fun v Ma118 h118 => ?_
        obtain ⟨sz117, sn117, uc117, g118, e118_sz117, e118_sn117, e118_uc117, e118_k0, e118_k1, e118_k2, e118_k3, p118_0, p118_1, p118_2⟩ := h118
        have f118 : Fr W_cp Mc Ma118 := Fr.t f116 (Fr.m g118 (by decide))
        refine rsl (cV_e rfl) ?_
        refine rsl (gtI_q (w := iI sn117) (ck_65 (hC.fr f118)) (e118_sn117)) ?_
        refine rsl (vC_e (ck_65 (hC.fr f118))) ?_
        refine RlI (y87 (by omega) (hC.fr f118) (hTk.fr (WL := W_cp) f118 (by decide)) (e118_k3) (e118_k0) (e118_k1) (e118_k2) (e118_sz117) (e118_sn117) (e118_uc117) (li_2) (rfl) (by omega)) fun v Ma120 h120 => ?_
        obtain ⟨rv119, sz119, sn119, uc119, rfl, g120, e120_sz119, e120_sn119, e120_uc119, e120_k0, e120_k1, e120_k2, e120_k3, p120_0, p120_1, p120_2, p120_3⟩ := h120
        have f120 : Fr W_cp Mc Ma120 := Fr.t f118 (Fr.m g120 (by decide))
        refine rsl (cI_e rfl) ?_
        refine rsl (vC_e (ck_65 (hC.fr f120))) ?_
        refine RlV (y75 (by omega) (hC.fr f120) (hTk.fr (WL := W_cp) f120 (by decide)) (e120_k3) (e120_k0) (e120_k1) (e120_k2) (e120_sz119) (e120_sn119) (e120_uc119)  (by omega)) fun v Ma122 h122 => ?_
        obtain ⟨sz121, sn121, uc121, g122, e122_sz121, e122_sn121, e122_uc121, e122_k0, e122_k1, e122_k2, e122_k3, p122_0, p122_1, p122_2⟩ := h122
        have f122 : Fr W_cp Mc Ma122 := Fr.t f120 (Fr.m g122 (by decide))
        refine rsl (cV_e rfl) ?_
        refine rsr (gtI_q (w := iI ((kr (kd i)))) (rk_160 hR) (wa_36)) ?_
        refine rsr (jn_v) ?_
        refine rsr (swI_c) ?_
        refine rsr (if_pos (krI_p (k := 215) (rfl) (li_416) (by omega) (by decide +kernel))) ?_
        refine rsr (vC_e (rk_160 hR)) ?_
        refine RrV (nx_q (by omega) hS hR (hT.fr (W := W_rx) Fr.r (by decide) (by decide)) (fun i a b => (Fr.lc (W := W_rx) Fr.r _ (by decide) _).trans (hW i a b)) (i := i) (i2 := (i + 1)) (wa_41) (wa_38) (by omega) (by omega) (by omega)) fun v Ma123 h123 => ?_
        obtain ⟨g123, e123_k0, e123_k1, e123_k2, p123_0⟩ := h123
        have f123 : Fr W_rx Mr Ma123 := Fr.t Fr.r (Fr.m g123 (by decide))
        refine rsr (cV_e rfl) ?_
        refine rsr (vC_e (rk_160 (hR.fr f123))) ?_
        refine rsr (cI_e (a198_3 (by omega) hS (hR.fr f123) (e123_k0) (e123_k1) ((g123.i _ _ (by decide)).trans (wa_41)) p123_0 ((g123.i _ _ (by decide)).trans (wa_51)) (lra.fr g123 (by decide)) hlc7 (by omega))) ?_
        refine rsr (if_pos (eqI_p (rfl) (li_0) (by omega))) ?_
        refine rsr (jv_e) ?_
        exact Rs.ok (Or.inr ⟨3, ((pl (i + 1))), f122, (Fr.sI (by decide) (Fr.sI (by decide) (Fr.m f123 (by decide)))), ⟨(i + 1), sz121, sn121, uc121, e122_k0, e122_k1, e122_k2, e122_k3, e122_sz121, e122_sn121, e122_uc121, by omega⟩, ⟨e, s, u, mu, ut, (sI_nej (by decide)).trans (sI_eq), sI_eq, (sI_nej (by decide)).trans ((sI_nej (by decide)).trans ((g123.i _ _ (by decide)).trans (wa_43))), (sI_nej (by decide)).trans ((sI_nej (by decide)).trans ((g123.i _ _ (by decide)).trans (wa_51))), (sI_nej (by decide)).trans ((sI_nej (by decide)).trans ((g123.i _ _ (by decide)).trans (wa_53))), (sI_nej (by decide)).trans ((sI_nej (by decide)).trans ((g123.i _ _ (by decide)).trans (h48))), (sI_nej (by decide)).trans ((sI_nej (by decide)).trans ((g123.i _ _ (by decide)).trans (h49))), by omega⟩⟩)
      · refine rsl (if_neg (lsI_n (rfl) (li_10) (by omega))) ?_
        refine rsl (jv_e) ?_
        refine rsl (vC_e (ck_65 hC.sI.sI)) ?_
        refine rsl (cL_e (a66_3 (by omega) hS hC.sI.sI (hTk.fr (WL := W_cp) (Fr.sI (by decide) (Fr.sI (by decide) Fr.r)) (by decide)) ((sI_nej (by decide)).trans (sI_eq)) (sI_eq) ((sI_nej (by decide)).trans ((sI_nej (by decide)).trans (qa_10))) (li_1) (li_1) (by omega))) ?_
        refine rsl (vC_e (ck_65 hC.sI.sI.sI.sI.sI)) ?_
        refine RlV (y64 (by omega) hC.sI.sI.sI.sI.sI (hTk.fr (WL := W_cp) (Fr.sI (by decide) (Fr.sI (by decide) (Fr.sI (by decide) (Fr.sI (by decide) (Fr.sI (by decide) Fr.r))))) (by decide)) ((sI_nej (by decide)).trans ((sI_nej (by decide)).trans ((sI_nej (by decide)).trans ((sI_nej (by decide)).trans (sI_eq))))) (sI_eq) ((sI_nej (by decide)).trans ((sI_nej (by decide)).trans (sI_eq))) ((sI_nej (by decide)).trans (sI_eq)) ((sI_nej (by decide)).trans ((sI_nej (by decide)).trans ((sI_nej (by decide)).trans ((sI_nej (by decide)).trans ((sI_nej (by decide)).trans (qa_9)))))) ((sI_nej (by decide)).trans ((sI_nej (by decide)).trans ((sI_nej (by decide)).trans ((sI_nej (by decide)).trans ((sI_nej (by decide)).trans (qa_16)))))) ((sI_nej (by decide)).trans ((sI_nej (by decide)).trans ((sI_nej (by decide)).trans ((sI_nej (by decide)).trans ((sI_nej (by decide)).trans (qa_19)))))) (li_61) (by omega)) fun v Ma125 h125 => ?_
        obtain ⟨sz124, sn124, uc124, g125, e125_sz124, e125_sn124, e125_uc124, e125_k0, e125_k1, e125_k2, e125_k3, p125_0, p125_1, p125_2⟩ := h125
        have f125 : Fr W_cp Mc Ma125 := Fr.t (Fr.sI (by decide) (Fr.sI (by decide) (Fr.sI (by decide) (Fr.sI (by decide) (Fr.sI (by decide) Fr.r))))) (Fr.m g125 (by decide))
        refine rsl (cV_e rfl) ?_
        refine rsl (vC_e (ck_65 (hC.fr f125))) ?_
        refine RlV (y99_0 (by omega) (hC.fr f125) (hTk.fr (WL := W_cp) f125 (by decide)) (e125_k3) (e125_k0) (e125_k1) (e125_k2) (e125_sz124) (e125_sn124) (e125_uc124) (li_0) (hv0) (by omega)) fun v Ma127 h127 => ?_
        obtain ⟨sz126, sn126, uc126, g127, e127_sz126, e127_sn126, e127_uc126, e127_k0, e127_k1, e127_k2, e127_k3, p127_0, p127_1, p127_2⟩ := h127
        have f127 : Fr W_cp Mc Ma127 := Fr.t f125 (Fr.m g127 (by decide))
        refine rsl (cV_e rfl) ?_
        refine rsl (vC_e (ck_65 (hC.fr f127))) ?_
        refine RlV (y64 (by omega) (hC.fr f127) (hTk.fr (WL := W_cp) f127 (by decide)) (e127_k3) (e127_k0) (e127_k1) (e127_k2) (e127_sz126) (e127_sn126) (e127_uc126) (li_59) (by omega)) fun v Ma129 h129 => ?_
        obtain ⟨sz128, sn128, uc128, g129, e129_sz128, e129_sn128, e129_uc128, e129_k0, e129_k1, e129_k2, e129_k3, p129_0, p129_1, p129_2⟩ := h129
        have f129 : Fr W_cp Mc Ma129 := Fr.t f127 (Fr.m g129 (by decide))
        refine rsl (cV_e rfl) ?_
        refine rsl (gtI_q (w := iI sn128) (ck_65 (hC.fr f129)) (e129_sn128)) ?_
        refine rsl (vC_e (ck_65 (hC.fr f129))) ?_
        refine RlI (y87 (by omega) (hC.fr f129) (hTk.fr (WL := W_cp) f129 (by decide)) (e129_k3) (e129_k0) (e129_k1) (e129_k2) (e129_sz128) (e129_sn128) (e129_uc128) (li_2) (rfl) (by omega)) fun v Ma131 h131 => ?_
        obtain ⟨rv130, sz130, sn130, uc130, rfl, g131, e131_sz130, e131_sn130, e131_uc130, e131_k0, e131_k1, e131_k2, e131_k3, p131_0, p131_1, p131_2, p131_3⟩ := h131
        have f131 : Fr W_cp Mc Ma131 := Fr.t f129 (Fr.m g131 (by decide))
        refine rsl (cI_e rfl) ?_
        refine rsl (vC_e (ck_65 (hC.fr f131))) ?_
        refine RlV (y75 (by omega) (hC.fr f131) (hTk.fr (WL := W_cp) f131 (by decide)) (e131_k3) (e131_k0) (e131_k1) (e131_k2) (e131_sz130) (e131_sn130) (e131_uc130)  (by omega)) fun v Ma133 h133 => ?_
        obtain ⟨sz132, sn132, uc132, g133, e133_sz132, e133_sn132, e133_uc132, e133_k0, e133_k1, e133_k2, e133_k3, p133_0, p133_1, p133_2⟩ := h133
        have f133 : Fr W_cp Mc Ma133 := Fr.t f131 (Fr.m g133 (by decide))
        refine rsl (cV_e rfl) ?_
        refine rsr (gtI_q (w := iI ((kr (kd i)))) (rk_160 hR) (wa_36)) ?_
        refine rsr (jn_v) ?_
        refine rsr (swI_c) ?_
        refine rsr (if_pos (krI_p (k := 215) (rfl) (li_416) (by omega) (by decide +kernel))) ?_
        refine rsr (vC_e (rk_160 hR)) ?_
        refine RrV (nx_q (by omega) hS hR (hT.fr (W := W_rx) Fr.r (by decide) (by decide)) (fun i a b => (Fr.lc (W := W_rx) Fr.r _ (by decide) _).trans (hW i a b)) (i := i) (i2 := (i + 1)) (wa_41) (wa_38) (by omega) (by omega) (by omega)) fun v Ma134 h134 => ?_
        obtain ⟨g134, e134_k0, e134_k1, e134_k2, p134_0⟩ := h134
        have f134 : Fr W_rx Mr Ma134 := Fr.t Fr.r (Fr.m g134 (by decide))
        refine rsr (cV_e rfl) ?_
        refine rsr (vC_e (rk_160 (hR.fr f134))) ?_
        refine rsr (cI_e (a198_3 (by omega) hS (hR.fr f134) (e134_k0) (e134_k1) ((g134.i _ _ (by decide)).trans (wa_41)) p134_0 ((g134.i _ _ (by decide)).trans (wa_51)) (lra.fr g134 (by decide)) hlc7 (by omega))) ?_
        refine rsr (if_pos (eqI_p (rfl) (li_0) (by omega))) ?_
        refine rsr (jv_e) ?_
        exact Rs.ok (Or.inr ⟨3, ((pl (i + 1))), f133, (Fr.sI (by decide) (Fr.sI (by decide) (Fr.m f134 (by decide)))), ⟨(i + 1), sz132, sn132, uc132, e133_k0, e133_k1, e133_k2, e133_k3, e133_sz132, e133_sn132, e133_uc132, by omega⟩, ⟨e, s, u, mu, ut, (sI_nej (by decide)).trans (sI_eq), sI_eq, (sI_nej (by decide)).trans ((sI_nej (by decide)).trans ((g134.i _ _ (by decide)).trans (wa_43))), (sI_nej (by decide)).trans ((sI_nej (by decide)).trans ((g134.i _ _ (by decide)).trans (wa_51))), (sI_nej (by decide)).trans ((sI_nej (by decide)).trans ((g134.i _ _ (by decide)).trans (wa_53))), (sI_nej (by decide)).trans ((sI_nej (by decide)).trans ((g134.i _ _ (by decide)).trans (h48))), (sI_nej (by decide)).trans ((sI_nej (by decide)).trans ((g134.i _ _ (by decide)).trans (h49))), by omega⟩⟩)
  ·
    refine RlI (a74 (by omega) hC.sI.sI ((sI_nej (by decide)).trans ((sI_nej (by decide)).trans (qa_16))) (lca.fr (W := W_c0) (Fr.sI (by decide) (Fr.sI (by decide) Fr.r)) (by decide)) (x := (tx (i + 1))) (by omega)) fun v Ml hl => ?_
    obtain ⟨rl135, rfl, hMl135, hlc135⟩ := hl
    rw [hMl135]
    refine rsl (cI_e rfl) ?_
    have brl135 := hlc135.bd
    by_cases crl135 : rl135 = -1
    ·
      refine rsl (jn_v) ?_
      refine rsl (if_pos (lsI_p (congrArg iI (if_pos crl135)) (li_0) (by omega))) ?_
      refine rsl (jv_e) ?_
      refine rsl (gtI_q (w := iI s) (ck_65 hC.sI.sI) ((sI_nej (by decide)).trans ((sI_nej (by decide)).trans (qa_16)))) ?_
      refine rsl (jn_v) ?_
      by_cases c136 : s < 10
      · refine rsl (if_pos (lsI_p (rfl) (li_10) (by omega))) ?_
        refine rsl (jv_e) ?_
        refine rsl (vC_e (ck_65 hC.sI.sI)) ?_
        by_cases c137 : ((kd (i + 1))) = 1
        ·
          refine rsl (cL_e (a66_1 (by omega) hS hC.sI.sI (hTk.fr (WL := W_cp) (Fr.sI (by decide) (Fr.sI (by decide) Fr.r)) (by decide)) ((sI_nej (by decide)).trans (sI_eq)) (sI_eq) ((sI_nej (by decide)).trans ((sI_nej (by decide)).trans (qa_10))) (li_0) (li_0) (by omega))) ?_
          refine rsl (vC_e (ck_65 hC.sI.sI.sI.sI.sI)) ?_
          refine RlV (y64 (by omega) hC.sI.sI.sI.sI.sI (hTk.fr (WL := W_cp) (Fr.sI (by decide) (Fr.sI (by decide) (Fr.sI (by decide) (Fr.sI (by decide) (Fr.sI (by decide) Fr.r))))) (by decide)) ((sI_nej (by decide)).trans ((sI_nej (by decide)).trans ((sI_nej (by decide)).trans ((sI_nej (by decide)).trans (sI_eq))))) (sI_eq) ((sI_nej (by decide)).trans ((sI_nej (by decide)).trans (sI_eq))) ((sI_nej (by decide)).trans (sI_eq)) ((sI_nej (by decide)).trans ((sI_nej (by decide)).trans ((sI_nej (by decide)).trans ((sI_nej (by decide)).trans ((sI_nej (by decide)).trans (qa_9)))))) ((sI_nej (by decide)).trans ((sI_nej (by decide)).trans ((sI_nej (by decide)).trans ((sI_nej (by decide)).trans ((sI_nej (by decide)).trans (qa_16)))))) ((sI_nej (by decide)).trans ((sI_nej (by decide)).trans ((sI_nej (by decide)).trans ((sI_nej (by decide)).trans ((sI_nej (by decide)).trans (qa_19)))))) (li_61) (by omega)) fun v Ma139 h139 => ?_
          obtain ⟨sz138, sn138, uc138, g139, e139_sz138, e139_sn138, e139_uc138, e139_k0, e139_k1, e139_k2, e139_k3, p139_0, p139_1, p139_2⟩ := h139
          have f139 : Fr W_cp Mc Ma139 := Fr.t (Fr.sI (by decide) (Fr.sI (by decide) (Fr.sI (by decide) (Fr.sI (by decide) (Fr.sI (by decide) Fr.r))))) (Fr.m g139 (by decide))
          refine rsl (cV_e rfl) ?_
          refine rsl (vC_e (ck_65 (hC.fr f139))) ?_
          refine RlV (y99_0 (by omega) (hC.fr f139) (hTk.fr (WL := W_cp) f139 (by decide)) (e139_k3) (e139_k0) (e139_k1) (e139_k2) (e139_sz138) (e139_sn138) (e139_uc138) (li_0) (hv0) (by omega)) fun v Ma141 h141 => ?_
          obtain ⟨sz140, sn140, uc140, g141, e141_sz140, e141_sn140, e141_uc140, e141_k0, e141_k1, e141_k2, e141_k3, p141_0, p141_1, p141_2⟩ := h141
          have f141 : Fr W_cp Mc Ma141 := Fr.t f139 (Fr.m g141 (by decide))
          refine rsl (cV_e rfl) ?_
          refine rsl (vC_e (ck_65 (hC.fr f141))) ?_
          refine RlV (y64 (by omega) (hC.fr f141) (hTk.fr (WL := W_cp) f141 (by decide)) (e141_k3) (e141_k0) (e141_k1) (e141_k2) (e141_sz140) (e141_sn140) (e141_uc140) (li_59) (by omega)) fun v Ma143 h143 => ?_
          obtain ⟨sz142, sn142, uc142, g143, e143_sz142, e143_sn142, e143_uc142, e143_k0, e143_k1, e143_k2, e143_k3, p143_0, p143_1, p143_2⟩ := h143
          have f143 : Fr W_cp Mc Ma143 := Fr.t f141 (Fr.m g143 (by decide))
          refine rsl (cV_e rfl) ?_
          refine rsl (gtI_q (w := iI sn142) (ck_65 (hC.fr f143)) (e143_sn142)) ?_
          refine rsl (vC_e (ck_65 (hC.fr f143))) ?_
          refine RlI (y87 (by omega) (hC.fr f143) (hTk.fr (WL := W_cp) f143 (by decide)) (e143_k3) (e143_k0) (e143_k1) (e143_k2) (e143_sz142) (e143_sn142) (e143_uc142) (li_2) (rfl) (by omega)) fun v Ma145 h145 => ?_
          obtain ⟨rv144, sz144, sn144, uc144, rfl, g145, e145_sz144, e145_sn144, e145_uc144, e145_k0, e145_k1, e145_k2, e145_k3, p145_0, p145_1, p145_2, p145_3⟩ := h145
          have f145 : Fr W_cp Mc Ma145 := Fr.t f143 (Fr.m g145 (by decide))
          refine rsl (cI_e rfl) ?_
          refine rsl (vC_e (ck_65 (hC.fr f145))) ?_
          refine RlV (y75 (by omega) (hC.fr f145) (hTk.fr (WL := W_cp) f145 (by decide)) (e145_k3) (e145_k0) (e145_k1) (e145_k2) (e145_sz144) (e145_sn144) (e145_uc144)  (by omega)) fun v Ma147 h147 => ?_
          obtain ⟨sz146, sn146, uc146, g147, e147_sz146, e147_sn146, e147_uc146, e147_k0, e147_k1, e147_k2, e147_k3, p147_0, p147_1, p147_2⟩ := h147
          have f147 : Fr W_cp Mc Ma147 := Fr.t f145 (Fr.m g147 (by decide))
          refine rsl (cV_e rfl) ?_
          refine rsr (gtI_q (w := iI ((kr (kd i)))) (rk_160 hR) (wa_36)) ?_
          refine rsr (jn_v) ?_
          refine rsr (swI_c) ?_
          refine rsr (if_pos (krI_p (k := 215) (rfl) (li_416) (by omega) (by decide +kernel))) ?_
          refine rsr (vC_e (rk_160 hR)) ?_
          refine RrV (nx_q (by omega) hS hR (hT.fr (W := W_rx) Fr.r (by decide) (by decide)) (fun i a b => (Fr.lc (W := W_rx) Fr.r _ (by decide) _).trans (hW i a b)) (i := i) (i2 := (i + 1)) (wa_41) (wa_38) (by omega) (by omega) (by omega)) fun v Ma148 h148 => ?_
          obtain ⟨g148, e148_k0, e148_k1, e148_k2, p148_0⟩ := h148
          have f148 : Fr W_rx Mr Ma148 := Fr.t Fr.r (Fr.m g148 (by decide))
          refine rsr (cV_e rfl) ?_
          refine rsr (vC_e (rk_160 (hR.fr f148))) ?_
          refine rsr (cI_e (a198_1 (r := 0) (by omega) hS (hR.fr f148) (e148_k0) (e148_k1) ((g148.i _ _ (by decide)).trans (wa_41)) p148_0 ((g148.i _ _ (by decide)).trans (wa_51)) (lra.fr g148 (by decide)) (by omega))) ?_
          refine rsr (if_pos (eqI_p (rfl) (li_0) (by omega))) ?_
          refine rsr (jv_e) ?_
          exact Rs.ok (Or.inr ⟨1, ((pl (i + 1))), f147, (Fr.sI (by decide) (Fr.sI (by decide) (Fr.m f148 (by decide)))), ⟨(i + 1), sz146, sn146, uc146, e147_k0, e147_k1, e147_k2, e147_k3, e147_sz146, e147_sn146, e147_uc146, by omega⟩, ⟨e, s, u, mu, ut, (sI_nej (by decide)).trans (sI_eq), sI_eq, (sI_nej (by decide)).trans ((sI_nej (by decide)).trans ((g148.i _ _ (by decide)).trans (wa_43))), (sI_nej (by decide)).trans ((sI_nej (by decide)).trans ((g148.i _ _ (by decide)).trans (wa_51))), (sI_nej (by decide)).trans ((sI_nej (by decide)).trans ((g148.i _ _ (by decide)).trans (wa_53))), (sI_nej (by decide)).trans ((sI_nej (by decide)).trans ((g148.i _ _ (by decide)).trans (h48))), (sI_nej (by decide)).trans ((sI_nej (by decide)).trans ((g148.i _ _ (by decide)).trans (h49))), by omega⟩⟩)
        ·
          refine rsl (cL_e (a66_2 (by omega) hS hC.sI.sI (hTk.fr (WL := W_cp) (Fr.sI (by decide) (Fr.sI (by decide) Fr.r)) (by decide)) ((sI_nej (by decide)).trans (sI_eq)) (sI_eq) ((sI_nej (by decide)).trans ((sI_nej (by decide)).trans (qa_10))) (li_0) (li_0) (by omega))) ?_
          refine rsl (vC_e (ck_65 hC.sI.sI.sI.sI.sI)) ?_
          refine RlV (y64 (by omega) hC.sI.sI.sI.sI.sI (hTk.fr (WL := W_cp) (Fr.sI (by decide) (Fr.sI (by decide) (Fr.sI (by decide) (Fr.sI (by decide) (Fr.sI (by decide) Fr.r))))) (by decide)) ((sI_nej (by decide)).trans ((sI_nej (by decide)).trans ((sI_nej (by decide)).trans ((sI_nej (by decide)).trans (sI_eq))))) (sI_eq) ((sI_nej (by decide)).trans ((sI_nej (by decide)).trans (sI_eq))) ((sI_nej (by decide)).trans (sI_eq)) ((sI_nej (by decide)).trans ((sI_nej (by decide)).trans ((sI_nej (by decide)).trans ((sI_nej (by decide)).trans ((sI_nej (by decide)).trans (qa_9)))))) ((sI_nej (by decide)).trans ((sI_nej (by decide)).trans ((sI_nej (by decide)).trans ((sI_nej (by decide)).trans ((sI_nej (by decide)).trans (qa_16)))))) ((sI_nej (by decide)).trans ((sI_nej (by decide)).trans ((sI_nej (by decide)).trans ((sI_nej (by decide)).trans ((sI_nej (by decide)).trans (qa_19)))))) (li_61) (by omega)) fun v Ma150 h150 => ?_
          obtain ⟨sz149, sn149, uc149, g150, e150_sz149, e150_sn149, e150_uc149, e150_k0, e150_k1, e150_k2, e150_k3, p150_0, p150_1, p150_2⟩ := h150
          have f150 : Fr W_cp Mc Ma150 := Fr.t (Fr.sI (by decide) (Fr.sI (by decide) (Fr.sI (by decide) (Fr.sI (by decide) (Fr.sI (by decide) Fr.r))))) (Fr.m g150 (by decide))
          refine rsl (cV_e rfl) ?_
          refine rsl (vC_e (ck_65 (hC.fr f150))) ?_
          refine RlV (y99_0 (by omega) (hC.fr f150) (hTk.fr (WL := W_cp) f150 (by decide)) (e150_k3) (e150_k0) (e150_k1) (e150_k2) (e150_sz149) (e150_sn149) (e150_uc149) (li_0) (hv0) (by omega)) fun v Ma152 h152 => ?_
          obtain ⟨sz151, sn151, uc151, g152, e152_sz151, e152_sn151, e152_uc151, e152_k0, e152_k1, e152_k2, e152_k3, p152_0, p152_1, p152_2⟩ := h152
          have f152 : Fr W_cp Mc Ma152 := Fr.t f150 (Fr.m g152 (by decide))
          refine rsl (cV_e rfl) ?_
          refine rsl (vC_e (ck_65 (hC.fr f152))) ?_
          refine RlV (y64 (by omega) (hC.fr f152) (hTk.fr (WL := W_cp) f152 (by decide)) (e152_k3) (e152_k0) (e152_k1) (e152_k2) (e152_sz151) (e152_sn151) (e152_uc151) (li_59) (by omega)) fun v Ma154 h154 => ?_
          obtain ⟨sz153, sn153, uc153, g154, e154_sz153, e154_sn153, e154_uc153, e154_k0, e154_k1, e154_k2, e154_k3, p154_0, p154_1, p154_2⟩ := h154
          have f154 : Fr W_cp Mc Ma154 := Fr.t f152 (Fr.m g154 (by decide))
          refine rsl (cV_e rfl) ?_
          refine rsl (gtI_q (w := iI sn153) (ck_65 (hC.fr f154)) (e154_sn153)) ?_
          refine rsl (vC_e (ck_65 (hC.fr f154))) ?_
          refine RlI (y87 (by omega) (hC.fr f154) (hTk.fr (WL := W_cp) f154 (by decide)) (e154_k3) (e154_k0) (e154_k1) (e154_k2) (e154_sz153) (e154_sn153) (e154_uc153) (li_2) (rfl) (by omega)) fun v Ma156 h156 => ?_
          obtain ⟨rv155, sz155, sn155, uc155, rfl, g156, e156_sz155, e156_sn155, e156_uc155, e156_k0, e156_k1, e156_k2, e156_k3, p156_0, p156_1, p156_2, p156_3⟩ := h156
          have f156 : Fr W_cp Mc Ma156 := Fr.t f154 (Fr.m g156 (by decide))
          refine rsl (cI_e rfl) ?_
          refine rsl (vC_e (ck_65 (hC.fr f156))) ?_
          refine RlV (y75 (by omega) (hC.fr f156) (hTk.fr (WL := W_cp) f156 (by decide)) (e156_k3) (e156_k0) (e156_k1) (e156_k2) (e156_sz155) (e156_sn155) (e156_uc155)  (by omega)) fun v Ma158 h158 => ?_
          obtain ⟨sz157, sn157, uc157, g158, e158_sz157, e158_sn157, e158_uc157, e158_k0, e158_k1, e158_k2, e158_k3, p158_0, p158_1, p158_2⟩ := h158
          have f158 : Fr W_cp Mc Ma158 := Fr.t f156 (Fr.m g158 (by decide))
          refine rsl (cV_e rfl) ?_
          refine rsr (gtI_q (w := iI ((kr (kd i)))) (rk_160 hR) (wa_36)) ?_
          refine rsr (jn_v) ?_
          refine rsr (swI_c) ?_
          refine rsr (if_pos (krI_p (k := 215) (rfl) (li_416) (by omega) (by decide +kernel))) ?_
          refine rsr (vC_e (rk_160 hR)) ?_
          refine RrV (nx_q (by omega) hS hR (hT.fr (W := W_rx) Fr.r (by decide) (by decide)) (fun i a b => (Fr.lc (W := W_rx) Fr.r _ (by decide) _).trans (hW i a b)) (i := i) (i2 := (i + 1)) (wa_41) (wa_38) (by omega) (by omega) (by omega)) fun v Ma159 h159 => ?_
          obtain ⟨g159, e159_k0, e159_k1, e159_k2, p159_0⟩ := h159
          have f159 : Fr W_rx Mr Ma159 := Fr.t Fr.r (Fr.m g159 (by decide))
          refine rsr (cV_e rfl) ?_
          refine rsr (vC_e (rk_160 (hR.fr f159))) ?_
          refine rsr (cI_e (a198_2 (r := 0) (by omega) hS (hR.fr f159) (e159_k0) (e159_k1) ((g159.i _ _ (by decide)).trans (wa_41)) p159_0 ((g159.i _ _ (by decide)).trans (wa_51)) (lra.fr g159 (by decide)) (by omega))) ?_
          refine rsr (if_pos (eqI_p (rfl) (li_0) (by omega))) ?_
          refine rsr (jv_e) ?_
          exact Rs.ok (Or.inr ⟨2, ((pl (i + 1))), f158, (Fr.sI (by decide) (Fr.sI (by decide) (Fr.m f159 (by decide)))), ⟨(i + 1), sz157, sn157, uc157, e158_k0, e158_k1, e158_k2, e158_k3, e158_sz157, e158_sn157, e158_uc157, by omega⟩, ⟨e, s, u, mu, ut, (sI_nej (by decide)).trans (sI_eq), sI_eq, (sI_nej (by decide)).trans ((sI_nej (by decide)).trans ((g159.i _ _ (by decide)).trans (wa_43))), (sI_nej (by decide)).trans ((sI_nej (by decide)).trans ((g159.i _ _ (by decide)).trans (wa_51))), (sI_nej (by decide)).trans ((sI_nej (by decide)).trans ((g159.i _ _ (by decide)).trans (wa_53))), (sI_nej (by decide)).trans ((sI_nej (by decide)).trans ((g159.i _ _ (by decide)).trans (h48))), (sI_nej (by decide)).trans ((sI_nej (by decide)).trans ((g159.i _ _ (by decide)).trans (h49))), by omega⟩⟩)
      · refine rsl (if_neg (lsI_n (rfl) (li_10) (by omega))) ?_
        refine rsl (jv_e) ?_
        refine rsl (vC_e (ck_65 hC.sI.sI)) ?_
        by_cases c160 : ((kd (i + 1))) = 1
        ·
          refine rsl (cL_e (a66_1 (by omega) hS hC.sI.sI (hTk.fr (WL := W_cp) (Fr.sI (by decide) (Fr.sI (by decide) Fr.r)) (by decide)) ((sI_nej (by decide)).trans (sI_eq)) (sI_eq) ((sI_nej (by decide)).trans ((sI_nej (by decide)).trans (qa_10))) (li_0) (li_1) (by omega))) ?_
          refine rsl (vC_e (ck_65 hC.sI.sI.sI.sI.sI)) ?_
          refine RlV (y64 (by omega) hC.sI.sI.sI.sI.sI (hTk.fr (WL := W_cp) (Fr.sI (by decide) (Fr.sI (by decide) (Fr.sI (by decide) (Fr.sI (by decide) (Fr.sI (by decide) Fr.r))))) (by decide)) ((sI_nej (by decide)).trans ((sI_nej (by decide)).trans ((sI_nej (by decide)).trans ((sI_nej (by decide)).trans (sI_eq))))) (sI_eq) ((sI_nej (by decide)).trans ((sI_nej (by decide)).trans (sI_eq))) ((sI_nej (by decide)).trans (sI_eq)) ((sI_nej (by decide)).trans ((sI_nej (by decide)).trans ((sI_nej (by decide)).trans ((sI_nej (by decide)).trans ((sI_nej (by decide)).trans (qa_9)))))) ((sI_nej (by decide)).trans ((sI_nej (by decide)).trans ((sI_nej (by decide)).trans ((sI_nej (by decide)).trans ((sI_nej (by decide)).trans (qa_16)))))) ((sI_nej (by decide)).trans ((sI_nej (by decide)).trans ((sI_nej (by decide)).trans ((sI_nej (by decide)).trans ((sI_nej (by decide)).trans (qa_19)))))) (li_61) (by omega)) fun v Ma162 h162 => ?_
          obtain ⟨sz161, sn161, uc161, g162, e162_sz161, e162_sn161, e162_uc161, e162_k0, e162_k1, e162_k2, e162_k3, p162_0, p162_1, p162_2⟩ := h162
          have f162 : Fr W_cp Mc Ma162 := Fr.t (Fr.sI (by decide) (Fr.sI (by decide) (Fr.sI (by decide) (Fr.sI (by decide) (Fr.sI (by decide) Fr.r))))) (Fr.m g162 (by decide))
          refine rsl (cV_e rfl) ?_
          refine rsl (vC_e (ck_65 (hC.fr f162))) ?_
          refine RlV (y99_0 (by omega) (hC.fr f162) (hTk.fr (WL := W_cp) f162 (by decide)) (e162_k3) (e162_k0) (e162_k1) (e162_k2) (e162_sz161) (e162_sn161) (e162_uc161) (li_0) (hv0) (by omega)) fun v Ma164 h164 => ?_
          obtain ⟨sz163, sn163, uc163, g164, e164_sz163, e164_sn163, e164_uc163, e164_k0, e164_k1, e164_k2, e164_k3, p164_0, p164_1, p164_2⟩ := h164
          have f164 : Fr W_cp Mc Ma164 := Fr.t f162 (Fr.m g164 (by decide))
          refine rsl (cV_e rfl) ?_
          refine rsl (vC_e (ck_65 (hC.fr f164))) ?_
          refine RlV (y64 (by omega) (hC.fr f164) (hTk.fr (WL := W_cp) f164 (by decide)) (e164_k3) (e164_k0) (e164_k1) (e164_k2) (e164_sz163) (e164_sn163) (e164_uc163) (li_59) (by omega)) fun v Ma166 h166 => ?_
          obtain ⟨sz165, sn165, uc165, g166, e166_sz165, e166_sn165, e166_uc165, e166_k0, e166_k1, e166_k2, e166_k3, p166_0, p166_1, p166_2⟩ := h166
          have f166 : Fr W_cp Mc Ma166 := Fr.t f164 (Fr.m g166 (by decide))
          refine rsl (cV_e rfl) ?_
          refine rsl (gtI_q (w := iI sn165) (ck_65 (hC.fr f166)) (e166_sn165)) ?_
          refine rsl (vC_e (ck_65 (hC.fr f166))) ?_
          refine RlI (y87 (by omega) (hC.fr f166) (hTk.fr (WL := W_cp) f166 (by decide)) (e166_k3) (e166_k0) (e166_k1) (e166_k2) (e166_sz165) (e166_sn165) (e166_uc165) (li_2) (rfl) (by omega)) fun v Ma168 h168 => ?_
          obtain ⟨rv167, sz167, sn167, uc167, rfl, g168, e168_sz167, e168_sn167, e168_uc167, e168_k0, e168_k1, e168_k2, e168_k3, p168_0, p168_1, p168_2, p168_3⟩ := h168
          have f168 : Fr W_cp Mc Ma168 := Fr.t f166 (Fr.m g168 (by decide))
          refine rsl (cI_e rfl) ?_
          refine rsl (vC_e (ck_65 (hC.fr f168))) ?_
          refine RlV (y75 (by omega) (hC.fr f168) (hTk.fr (WL := W_cp) f168 (by decide)) (e168_k3) (e168_k0) (e168_k1) (e168_k2) (e168_sz167) (e168_sn167) (e168_uc167)  (by omega)) fun v Ma170 h170 => ?_
          obtain ⟨sz169, sn169, uc169, g170, e170_sz169, e170_sn169, e170_uc169, e170_k0, e170_k1, e170_k2, e170_k3, p170_0, p170_1, p170_2⟩ := h170
          have f170 : Fr W_cp Mc Ma170 := Fr.t f168 (Fr.m g170 (by decide))
          refine rsl (cV_e rfl) ?_
          refine rsr (gtI_q (w := iI ((kr (kd i)))) (rk_160 hR) (wa_36)) ?_
          refine rsr (jn_v) ?_
          refine rsr (swI_c) ?_
          refine rsr (if_pos (krI_p (k := 215) (rfl) (li_416) (by omega) (by decide +kernel))) ?_
          refine rsr (vC_e (rk_160 hR)) ?_
          refine RrV (nx_q (by omega) hS hR (hT.fr (W := W_rx) Fr.r (by decide) (by decide)) (fun i a b => (Fr.lc (W := W_rx) Fr.r _ (by decide) _).trans (hW i a b)) (i := i) (i2 := (i + 1)) (wa_41) (wa_38) (by omega) (by omega) (by omega)) fun v Ma171 h171 => ?_
          obtain ⟨g171, e171_k0, e171_k1, e171_k2, p171_0⟩ := h171
          have f171 : Fr W_rx Mr Ma171 := Fr.t Fr.r (Fr.m g171 (by decide))
          refine rsr (cV_e rfl) ?_
          refine rsr (vC_e (rk_160 (hR.fr f171))) ?_
          refine rsr (cI_e (a198_1 (r := 0) (by omega) hS (hR.fr f171) (e171_k0) (e171_k1) ((g171.i _ _ (by decide)).trans (wa_41)) p171_0 ((g171.i _ _ (by decide)).trans (wa_51)) (lra.fr g171 (by decide)) (by omega))) ?_
          refine rsr (if_pos (eqI_p (rfl) (li_0) (by omega))) ?_
          refine rsr (jv_e) ?_
          exact Rs.ok (Or.inr ⟨1, ((pl (i + 1))), f170, (Fr.sI (by decide) (Fr.sI (by decide) (Fr.m f171 (by decide)))), ⟨(i + 1), sz169, sn169, uc169, e170_k0, e170_k1, e170_k2, e170_k3, e170_sz169, e170_sn169, e170_uc169, by omega⟩, ⟨e, s, u, mu, ut, (sI_nej (by decide)).trans (sI_eq), sI_eq, (sI_nej (by decide)).trans ((sI_nej (by decide)).trans ((g171.i _ _ (by decide)).trans (wa_43))), (sI_nej (by decide)).trans ((sI_nej (by decide)).trans ((g171.i _ _ (by decide)).trans (wa_51))), (sI_nej (by decide)).trans ((sI_nej (by decide)).trans ((g171.i _ _ (by decide)).trans (wa_53))), (sI_nej (by decide)).trans ((sI_nej (by decide)).trans ((g171.i _ _ (by decide)).trans (h48))), (sI_nej (by decide)).trans ((sI_nej (by decide)).trans ((g171.i _ _ (by decide)).trans (h49))), by omega⟩⟩)
        ·
          refine rsl (cL_e (a66_2 (by omega) hS hC.sI.sI (hTk.fr (WL := W_cp) (Fr.sI (by decide) (Fr.sI (by decide) Fr.r)) (by decide)) ((sI_nej (by decide)).trans (sI_eq)) (sI_eq) ((sI_nej (by decide)).trans ((sI_nej (by decide)).trans (qa_10))) (li_0) (li_1) (by omega))) ?_
          refine rsl (vC_e (ck_65 hC.sI.sI.sI.sI.sI)) ?_
          refine RlV (y64 (by omega) hC.sI.sI.sI.sI.sI (hTk.fr (WL := W_cp) (Fr.sI (by decide) (Fr.sI (by decide) (Fr.sI (by decide) (Fr.sI (by decide) (Fr.sI (by decide) Fr.r))))) (by decide)) ((sI_nej (by decide)).trans ((sI_nej (by decide)).trans ((sI_nej (by decide)).trans ((sI_nej (by decide)).trans (sI_eq))))) (sI_eq) ((sI_nej (by decide)).trans ((sI_nej (by decide)).trans (sI_eq))) ((sI_nej (by decide)).trans (sI_eq)) ((sI_nej (by decide)).trans ((sI_nej (by decide)).trans ((sI_nej (by decide)).trans ((sI_nej (by decide)).trans ((sI_nej (by decide)).trans (qa_9)))))) ((sI_nej (by decide)).trans ((sI_nej (by decide)).trans ((sI_nej (by decide)).trans ((sI_nej (by decide)).trans ((sI_nej (by decide)).trans (qa_16)))))) ((sI_nej (by decide)).trans ((sI_nej (by decide)).trans ((sI_nej (by decide)).trans ((sI_nej (by decide)).trans ((sI_nej (by decide)).trans (qa_19)))))) (li_61) (by omega)) fun v Ma173 h173 => ?_
          obtain ⟨sz172, sn172, uc172, g173, e173_sz172, e173_sn172, e173_uc172, e173_k0, e173_k1, e173_k2, e173_k3, p173_0, p173_1, p173_2⟩ := h173
          have f173 : Fr W_cp Mc Ma173 := Fr.t (Fr.sI (by decide) (Fr.sI (by decide) (Fr.sI (by decide) (Fr.sI (by decide) (Fr.sI (by decide) Fr.r))))) (Fr.m g173 (by decide))
          refine rsl (cV_e rfl) ?_
          refine rsl (vC_e (ck_65 (hC.fr f173))) ?_
          refine RlV (y99_0 (by omega) (hC.fr f173) (hTk.fr (WL := W_cp) f173 (by decide)) (e173_k3) (e173_k0) (e173_k1) (e173_k2) (e173_sz172) (e173_sn172) (e173_uc172) (li_0) (hv0) (by omega)) fun v Ma175 h175 => ?_
          obtain ⟨sz174, sn174, uc174, g175, e175_sz174, e175_sn174, e175_uc174, e175_k0, e175_k1, e175_k2, e175_k3, p175_0, p175_1, p175_2⟩ := h175
          have f175 : Fr W_cp Mc Ma175 := Fr.t f173 (Fr.m g175 (by decide))
          refine rsl (cV_e rfl) ?_
          refine rsl (vC_e (ck_65 (hC.fr f175))) ?_
          refine RlV (y64 (by omega) (hC.fr f175) (hTk.fr (WL := W_cp) f175 (by decide)) (e175_k3) (e175_k0) (e175_k1) (e175_k2) (e175_sz174) (e175_sn174) (e175_uc174) (li_59) (by omega)) fun v Ma177 h177 => ?_
          obtain ⟨sz176, sn176, uc176, g177, e177_sz176, e177_sn176, e177_uc176, e177_k0, e177_k1, e177_k2, e177_k3, p177_0, p177_1, p177_2⟩ := h177
          have f177 : Fr W_cp Mc Ma177 := Fr.t f175 (Fr.m g177 (by decide))
          refine rsl (cV_e rfl) ?_
          refine rsl (gtI_q (w := iI sn176) (ck_65 (hC.fr f177)) (e177_sn176)) ?_
          refine rsl (vC_e (ck_65 (hC.fr f177))) ?_
          refine RlI (y87 (by omega) (hC.fr f177) (hTk.fr (WL := W_cp) f177 (by decide)) (e177_k3) (e177_k0) (e177_k1) (e177_k2) (e177_sz176) (e177_sn176) (e177_uc176) (li_2) (rfl) (by omega)) fun v Ma179 h179 => ?_
          obtain ⟨rv178, sz178, sn178, uc178, rfl, g179, e179_sz178, e179_sn178, e179_uc178, e179_k0, e179_k1, e179_k2, e179_k3, p179_0, p179_1, p179_2, p179_3⟩ := h179
          have f179 : Fr W_cp Mc Ma179 := Fr.t f177 (Fr.m g179 (by decide))
          refine rsl (cI_e rfl) ?_
          refine rsl (vC_e (ck_65 (hC.fr f179))) ?_
          refine RlV (y75 (by omega) (hC.fr f179) (hTk.fr (WL := W_cp) f179 (by decide)) (e179_k3) (e179_k0) (e179_k1) (e179_k2) (e179_sz178) (e179_sn178) (e179_uc178)  (by omega)) fun v Ma181 h181 => ?_
          obtain ⟨sz180, sn180, uc180, g181, e181_sz180, e181_sn180, e181_uc180, e181_k0, e181_k1, e181_k2, e181_k3, p181_0, p181_1, p181_2⟩ := h181
          have f181 : Fr W_cp Mc Ma181 := Fr.t f179 (Fr.m g181 (by decide))
          refine rsl (cV_e rfl) ?_
          refine rsr (gtI_q (w := iI ((kr (kd i)))) (rk_160 hR) (wa_36)) ?_
          refine rsr (jn_v) ?_
          refine rsr (swI_c) ?_
          refine rsr (if_pos (krI_p (k := 215) (rfl) (li_416) (by omega) (by decide +kernel))) ?_
          refine rsr (vC_e (rk_160 hR)) ?_
          refine RrV (nx_q (by omega) hS hR (hT.fr (W := W_rx) Fr.r (by decide) (by decide)) (fun i a b => (Fr.lc (W := W_rx) Fr.r _ (by decide) _).trans (hW i a b)) (i := i) (i2 := (i + 1)) (wa_41) (wa_38) (by omega) (by omega) (by omega)) fun v Ma182 h182 => ?_
          obtain ⟨g182, e182_k0, e182_k1, e182_k2, p182_0⟩ := h182
          have f182 : Fr W_rx Mr Ma182 := Fr.t Fr.r (Fr.m g182 (by decide))
          refine rsr (cV_e rfl) ?_
          refine rsr (vC_e (rk_160 (hR.fr f182))) ?_
          refine rsr (cI_e (a198_2 (r := 0) (by omega) hS (hR.fr f182) (e182_k0) (e182_k1) ((g182.i _ _ (by decide)).trans (wa_41)) p182_0 ((g182.i _ _ (by decide)).trans (wa_51)) (lra.fr g182 (by decide)) (by omega))) ?_
          refine rsr (if_pos (eqI_p (rfl) (li_0) (by omega))) ?_
          refine rsr (jv_e) ?_
          exact Rs.ok (Or.inr ⟨2, ((pl (i + 1))), f181, (Fr.sI (by decide) (Fr.sI (by decide) (Fr.m f182 (by decide)))), ⟨(i + 1), sz180, sn180, uc180, e181_k0, e181_k1, e181_k2, e181_k3, e181_sz180, e181_sn180, e181_uc180, by omega⟩, ⟨e, s, u, mu, ut, (sI_nej (by decide)).trans (sI_eq), sI_eq, (sI_nej (by decide)).trans ((sI_nej (by decide)).trans ((g182.i _ _ (by decide)).trans (wa_43))), (sI_nej (by decide)).trans ((sI_nej (by decide)).trans ((g182.i _ _ (by decide)).trans (wa_51))), (sI_nej (by decide)).trans ((sI_nej (by decide)).trans ((g182.i _ _ (by decide)).trans (wa_53))), (sI_nej (by decide)).trans ((sI_nej (by decide)).trans ((g182.i _ _ (by decide)).trans (h48))), (sI_nej (by decide)).trans ((sI_nej (by decide)).trans ((g182.i _ _ (by decide)).trans (h49))), by omega⟩⟩)
    ·
      refine rsl (jn_v) ?_
      refine rsl (if_neg (lsI_n (congrArg iI (if_neg crl135)) (li_0) (by omega))) ?_
      refine rsl (jv_e) ?_
      refine rsl (gtI_q (w := iI s) (ck_65 hC.sI.sI) ((sI_nej (by decide)).trans ((sI_nej (by decide)).trans (qa_16)))) ?_
      refine rsl (jn_v) ?_
      by_cases c183 : s < 10
      · refine rsl (if_pos (lsI_p (rfl) (li_10) (by omega))) ?_
        refine rsl (jv_e) ?_
        refine rsl (vC_e (ck_65 hC.sI.sI)) ?_
        by_cases c184 : ((kd (i + 1))) = 1
        ·
          refine rsl (cL_e (a66_1 (by omega) hS hC.sI.sI (hTk.fr (WL := W_cp) (Fr.sI (by decide) (Fr.sI (by decide) Fr.r)) (by decide)) ((sI_nej (by decide)).trans (sI_eq)) (sI_eq) ((sI_nej (by decide)).trans ((sI_nej (by decide)).trans (qa_10))) (li_1) (li_0) (by omega))) ?_
          refine rsl (vC_e (ck_65 hC.sI.sI.sI.sI.sI)) ?_
          refine RlV (y64 (by omega) hC.sI.sI.sI.sI.sI (hTk.fr (WL := W_cp) (Fr.sI (by decide) (Fr.sI (by decide) (Fr.sI (by decide) (Fr.sI (by decide) (Fr.sI (by decide) Fr.r))))) (by decide)) ((sI_nej (by decide)).trans ((sI_nej (by decide)).trans ((sI_nej (by decide)).trans ((sI_nej (by decide)).trans (sI_eq))))) (sI_eq) ((sI_nej (by decide)).trans ((sI_nej (by decide)).trans (sI_eq))) ((sI_nej (by decide)).trans (sI_eq)) ((sI_nej (by decide)).trans ((sI_nej (by decide)).trans ((sI_nej (by decide)).trans ((sI_nej (by decide)).trans ((sI_nej (by decide)).trans (qa_9)))))) ((sI_nej (by decide)).trans ((sI_nej (by decide)).trans ((sI_nej (by decide)).trans ((sI_nej (by decide)).trans ((sI_nej (by decide)).trans (qa_16)))))) ((sI_nej (by decide)).trans ((sI_nej (by decide)).trans ((sI_nej (by decide)).trans ((sI_nej (by decide)).trans ((sI_nej (by decide)).trans (qa_19)))))) (li_61) (by omega)) fun v Ma186 h186 => ?_
          obtain ⟨sz185, sn185, uc185, g186, e186_sz185, e186_sn185, e186_uc185, e186_k0, e186_k1, e186_k2, e186_k3, p186_0, p186_1, p186_2⟩ := h186
          have f186 : Fr W_cp Mc Ma186 := Fr.t (Fr.sI (by decide) (Fr.sI (by decide) (Fr.sI (by decide) (Fr.sI (by decide) (Fr.sI (by decide) Fr.r))))) (Fr.m g186 (by decide))
          refine rsl (cV_e rfl) ?_
          refine rsl (vC_e (ck_65 (hC.fr f186))) ?_
          refine RlV (y99_0 (by omega) (hC.fr f186) (hTk.fr (WL := W_cp) f186 (by decide)) (e186_k3) (e186_k0) (e186_k1) (e186_k2) (e186_sz185) (e186_sn185) (e186_uc185) (li_0) (hv0) (by omega)) fun v Ma188 h188 => ?_
          obtain ⟨sz187, sn187, uc187, g188, e188_sz187, e188_sn187, e188_uc187, e188_k0, e188_k1, e188_k2, e188_k3, p188_0, p188_1, p188_2⟩ := h188
          have f188 : Fr W_cp Mc Ma188 := Fr.t f186 (Fr.m g188 (by decide))
          refine rsl (cV_e rfl) ?_
          refine rsl (vC_e (ck_65 (hC.fr f188))) ?_
          refine RlV (y64 (by omega) (hC.fr f188) (hTk.fr (WL := W_cp) f188 (by decide)) (e188_k3) (e188_k0) (e188_k1) (e188_k2) (e188_sz187) (e188_sn187) (e188_uc187) (li_59) (by omega)) fun v Ma190 h190 => ?_
          obtain ⟨sz189, sn189, uc189, g190, e190_sz189, e190_sn189, e190_uc189, e190_k0, e190_k1, e190_k2, e190_k3, p190_0, p190_1, p190_2⟩ := h190
          have f190 : Fr W_cp Mc Ma190 := Fr.t f188 (Fr.m g190 (by decide))
          refine rsl (cV_e rfl) ?_
          refine rsl (gtI_q (w := iI sn189) (ck_65 (hC.fr f190)) (e190_sn189)) ?_
          refine rsl (vC_e (ck_65 (hC.fr f190))) ?_
          refine RlI (y87 (by omega) (hC.fr f190) (hTk.fr (WL := W_cp) f190 (by decide)) (e190_k3) (e190_k0) (e190_k1) (e190_k2) (e190_sz189) (e190_sn189) (e190_uc189) (li_2) (rfl) (by omega)) fun v Ma192 h192 => ?_
          obtain ⟨rv191, sz191, sn191, uc191, rfl, g192, e192_sz191, e192_sn191, e192_uc191, e192_k0, e192_k1, e192_k2, e192_k3, p192_0, p192_1, p192_2, p192_3⟩ := h192
          have f192 : Fr W_cp Mc Ma192 := Fr.t f190 (Fr.m g192 (by decide))
          refine rsl (cI_e rfl) ?_
          refine rsl (vC_e (ck_65 (hC.fr f192))) ?_
          refine RlV (y75 (by omega) (hC.fr f192) (hTk.fr (WL := W_cp) f192 (by decide)) (e192_k3) (e192_k0) (e192_k1) (e192_k2) (e192_sz191) (e192_sn191) (e192_uc191)  (by omega)) fun v Ma194 h194 => ?_
          obtain ⟨sz193, sn193, uc193, g194, e194_sz193, e194_sn193, e194_uc193, e194_k0, e194_k1, e194_k2, e194_k3, p194_0, p194_1, p194_2⟩ := h194
          have f194 : Fr W_cp Mc Ma194 := Fr.t f192 (Fr.m g194 (by decide))
          refine rsl (cV_e rfl) ?_
          refine rsr (gtI_q (w := iI ((kr (kd i)))) (rk_160 hR) (wa_36)) ?_
          refine rsr (jn_v) ?_
          refine rsr (swI_c) ?_
          refine rsr (if_pos (krI_p (k := 215) (rfl) (li_416) (by omega) (by decide +kernel))) ?_
          refine rsr (vC_e (rk_160 hR)) ?_
          refine RrV (nx_q (by omega) hS hR (hT.fr (W := W_rx) Fr.r (by decide) (by decide)) (fun i a b => (Fr.lc (W := W_rx) Fr.r _ (by decide) _).trans (hW i a b)) (i := i) (i2 := (i + 1)) (wa_41) (wa_38) (by omega) (by omega) (by omega)) fun v Ma195 h195 => ?_
          obtain ⟨g195, e195_k0, e195_k1, e195_k2, p195_0⟩ := h195
          have f195 : Fr W_rx Mr Ma195 := Fr.t Fr.r (Fr.m g195 (by decide))
          refine rsr (cV_e rfl) ?_
          refine rsr (vC_e (rk_160 (hR.fr f195))) ?_
          refine rsr (cI_e (a198_1 (r := 0) (by omega) hS (hR.fr f195) (e195_k0) (e195_k1) ((g195.i _ _ (by decide)).trans (wa_41)) p195_0 ((g195.i _ _ (by decide)).trans (wa_51)) (lra.fr g195 (by decide)) (by omega))) ?_
          refine rsr (if_pos (eqI_p (rfl) (li_0) (by omega))) ?_
          refine rsr (jv_e) ?_
          exact Rs.ok (Or.inr ⟨1, ((pl (i + 1))), f194, (Fr.sI (by decide) (Fr.sI (by decide) (Fr.m f195 (by decide)))), ⟨(i + 1), sz193, sn193, uc193, e194_k0, e194_k1, e194_k2, e194_k3, e194_sz193, e194_sn193, e194_uc193, by omega⟩, ⟨e, s, u, mu, ut, (sI_nej (by decide)).trans (sI_eq), sI_eq, (sI_nej (by decide)).trans ((sI_nej (by decide)).trans ((g195.i _ _ (by decide)).trans (wa_43))), (sI_nej (by decide)).trans ((sI_nej (by decide)).trans ((g195.i _ _ (by decide)).trans (wa_51))), (sI_nej (by decide)).trans ((sI_nej (by decide)).trans ((g195.i _ _ (by decide)).trans (wa_53))), (sI_nej (by decide)).trans ((sI_nej (by decide)).trans ((g195.i _ _ (by decide)).trans (h48))), (sI_nej (by decide)).trans ((sI_nej (by decide)).trans ((g195.i _ _ (by decide)).trans (h49))), by omega⟩⟩)
        ·
          refine rsl (cL_e (a66_2 (by omega) hS hC.sI.sI (hTk.fr (WL := W_cp) (Fr.sI (by decide) (Fr.sI (by decide) Fr.r)) (by decide)) ((sI_nej (by decide)).trans (sI_eq)) (sI_eq) ((sI_nej (by decide)).trans ((sI_nej (by decide)).trans (qa_10))) (li_1) (li_0) (by omega))) ?_
          refine rsl (vC_e (ck_65 hC.sI.sI.sI.sI.sI)) ?_
          refine RlV (y64 (by omega) hC.sI.sI.sI.sI.sI (hTk.fr (WL := W_cp) (Fr.sI (by decide) (Fr.sI (by decide) (Fr.sI (by decide) (Fr.sI (by decide) (Fr.sI (by decide) Fr.r))))) (by decide)) ((sI_nej (by decide)).trans ((sI_nej (by decide)).trans ((sI_nej (by decide)).trans ((sI_nej (by decide)).trans (sI_eq))))) (sI_eq) ((sI_nej (by decide)).trans ((sI_nej (by decide)).trans (sI_eq))) ((sI_nej (by decide)).trans (sI_eq)) ((sI_nej (by decide)).trans ((sI_nej (by decide)).trans ((sI_nej (by decide)).trans ((sI_nej (by decide)).trans ((sI_nej (by decide)).trans (qa_9)))))) ((sI_nej (by decide)).trans ((sI_nej (by decide)).trans ((sI_nej (by decide)).trans ((sI_nej (by decide)).trans ((sI_nej (by decide)).trans (qa_16)))))) ((sI_nej (by decide)).trans ((sI_nej (by decide)).trans ((sI_nej (by decide)).trans ((sI_nej (by decide)).trans ((sI_nej (by decide)).trans (qa_19)))))) (li_61) (by omega)) fun v Ma197 h197 => ?_
          obtain ⟨sz196, sn196, uc196, g197, e197_sz196, e197_sn196, e197_uc196, e197_k0, e197_k1, e197_k2, e197_k3, p197_0, p197_1, p197_2⟩ := h197
          have f197 : Fr W_cp Mc Ma197 := Fr.t (Fr.sI (by decide) (Fr.sI (by decide) (Fr.sI (by decide) (Fr.sI (by decide) (Fr.sI (by decide) Fr.r))))) (Fr.m g197 (by decide))
          refine rsl (cV_e rfl) ?_
          refine rsl (vC_e (ck_65 (hC.fr f197))) ?_
          refine RlV (y99_0 (by omega) (hC.fr f197) (hTk.fr (WL := W_cp) f197 (by decide)) (e197_k3) (e197_k0) (e197_k1) (e197_k2) (e197_sz196) (e197_sn196) (e197_uc196) (li_0) (hv0) (by omega)) fun v Ma199 h199 => ?_
          obtain ⟨sz198, sn198, uc198, g199, e199_sz198, e199_sn198, e199_uc198, e199_k0, e199_k1, e199_k2, e199_k3, p199_0, p199_1, p199_2⟩ := h199
          have f199 : Fr W_cp Mc Ma199 := Fr.t f197 (Fr.m g199 (by decide))
          refine rsl (cV_e rfl) ?_
          refine rsl (vC_e (ck_65 (hC.fr f199))) ?_
          refine RlV (y64 (by omega) (hC.fr f199) (hTk.fr (WL := W_cp) f199 (by decide)) (e199_k3) (e199_k0) (e199_k1) (e199_k2) (e199_sz198) (e199_sn198) (e199_uc198) (li_59) (by omega)) fun v Ma201 h201 => ?_
          obtain ⟨sz200, sn200, uc200, g201, e201_sz200, e201_sn200, e201_uc200, e201_k0, e201_k1, e201_k2, e201_k3, p201_0, p201_1, p201_2⟩ := h201
          have f201 : Fr W_cp Mc Ma201 := Fr.t f199 (Fr.m g201 (by decide))
          refine rsl (cV_e rfl) ?_
          refine rsl (gtI_q (w := iI sn200) (ck_65 (hC.fr f201)) (e201_sn200)) ?_
          refine rsl (vC_e (ck_65 (hC.fr f201))) ?_
          refine RlI (y87 (by omega) (hC.fr f201) (hTk.fr (WL := W_cp) f201 (by decide)) (e201_k3) (e201_k0) (e201_k1) (e201_k2) (e201_sz200) (e201_sn200) (e201_uc200) (li_2) (rfl) (by omega)) fun v Ma203 h203 => ?_
          obtain ⟨rv202, sz202, sn202, uc202, rfl, g203, e203_sz202, e203_sn202, e203_uc202, e203_k0, e203_k1, e203_k2, e203_k3, p203_0, p203_1, p203_2, p203_3⟩ := h203
          have f203 : Fr W_cp Mc Ma203 := Fr.t f201 (Fr.m g203 (by decide))
          refine rsl (cI_e rfl) ?_
          refine rsl (vC_e (ck_65 (hC.fr f203))) ?_
          refine RlV (y75 (by omega) (hC.fr f203) (hTk.fr (WL := W_cp) f203 (by decide)) (e203_k3) (e203_k0) (e203_k1) (e203_k2) (e203_sz202) (e203_sn202) (e203_uc202)  (by omega)) fun v Ma205 h205 => ?_
          obtain ⟨sz204, sn204, uc204, g205, e205_sz204, e205_sn204, e205_uc204, e205_k0, e205_k1, e205_k2, e205_k3, p205_0, p205_1, p205_2⟩ := h205
          have f205 : Fr W_cp Mc Ma205 := Fr.t f203 (Fr.m g205 (by decide))
          refine rsl (cV_e rfl) ?_
          refine rsr (gtI_q (w := iI ((kr (kd i)))) (rk_160 hR) (wa_36)) ?_
          refine rsr (jn_v) ?_
          refine rsr (swI_c) ?_
          refine rsr (if_pos (krI_p (k := 215) (rfl) (li_416) (by omega) (by decide +kernel))) ?_
          refine rsr (vC_e (rk_160 hR)) ?_
          refine RrV (nx_q (by omega) hS hR (hT.fr (W := W_rx) Fr.r (by decide) (by decide)) (fun i a b => (Fr.lc (W := W_rx) Fr.r _ (by decide) _).trans (hW i a b)) (i := i) (i2 := (i + 1)) (wa_41) (wa_38) (by omega) (by omega) (by omega)) fun v Ma206 h206 => ?_
          obtain ⟨g206, e206_k0, e206_k1, e206_k2, p206_0⟩ := h206
          have f206 : Fr W_rx Mr Ma206 := Fr.t Fr.r (Fr.m g206 (by decide))
          refine rsr (cV_e rfl) ?_
          refine rsr (vC_e (rk_160 (hR.fr f206))) ?_
          refine rsr (cI_e (a198_2 (r := 0) (by omega) hS (hR.fr f206) (e206_k0) (e206_k1) ((g206.i _ _ (by decide)).trans (wa_41)) p206_0 ((g206.i _ _ (by decide)).trans (wa_51)) (lra.fr g206 (by decide)) (by omega))) ?_
          refine rsr (if_pos (eqI_p (rfl) (li_0) (by omega))) ?_
          refine rsr (jv_e) ?_
          exact Rs.ok (Or.inr ⟨2, ((pl (i + 1))), f205, (Fr.sI (by decide) (Fr.sI (by decide) (Fr.m f206 (by decide)))), ⟨(i + 1), sz204, sn204, uc204, e205_k0, e205_k1, e205_k2, e205_k3, e205_sz204, e205_sn204, e205_uc204, by omega⟩, ⟨e, s, u, mu, ut, (sI_nej (by decide)).trans (sI_eq), sI_eq, (sI_nej (by decide)).trans ((sI_nej (by decide)).trans ((g206.i _ _ (by decide)).trans (wa_43))), (sI_nej (by decide)).trans ((sI_nej (by decide)).trans ((g206.i _ _ (by decide)).trans (wa_51))), (sI_nej (by decide)).trans ((sI_nej (by decide)).trans ((g206.i _ _ (by decide)).trans (wa_53))), (sI_nej (by decide)).trans ((sI_nej (by decide)).trans ((g206.i _ _ (by decide)).trans (h48))), (sI_nej (by decide)).trans ((sI_nej (by decide)).trans ((g206.i _ _ (by decide)).trans (h49))), by omega⟩⟩)
      · refine rsl (if_neg (lsI_n (rfl) (li_10) (by omega))) ?_
        refine rsl (jv_e) ?_
        refine rsl (vC_e (ck_65 hC.sI.sI)) ?_
        by_cases c207 : ((kd (i + 1))) = 1
        ·
          refine rsl (cL_e (a66_1 (by omega) hS hC.sI.sI (hTk.fr (WL := W_cp) (Fr.sI (by decide) (Fr.sI (by decide) Fr.r)) (by decide)) ((sI_nej (by decide)).trans (sI_eq)) (sI_eq) ((sI_nej (by decide)).trans ((sI_nej (by decide)).trans (qa_10))) (li_1) (li_1) (by omega))) ?_
          refine rsl (vC_e (ck_65 hC.sI.sI.sI.sI.sI)) ?_
          refine RlV (y64 (by omega) hC.sI.sI.sI.sI.sI (hTk.fr (WL := W_cp) (Fr.sI (by decide) (Fr.sI (by decide) (Fr.sI (by decide) (Fr.sI (by decide) (Fr.sI (by decide) Fr.r))))) (by decide)) ((sI_nej (by decide)).trans ((sI_nej (by decide)).trans ((sI_nej (by decide)).trans ((sI_nej (by decide)).trans (sI_eq))))) (sI_eq) ((sI_nej (by decide)).trans ((sI_nej (by decide)).trans (sI_eq))) ((sI_nej (by decide)).trans (sI_eq)) ((sI_nej (by decide)).trans ((sI_nej (by decide)).trans ((sI_nej (by decide)).trans ((sI_nej (by decide)).trans ((sI_nej (by decide)).trans (qa_9)))))) ((sI_nej (by decide)).trans ((sI_nej (by decide)).trans ((sI_nej (by decide)).trans ((sI_nej (by decide)).trans ((sI_nej (by decide)).trans (qa_16)))))) ((sI_nej (by decide)).trans ((sI_nej (by decide)).trans ((sI_nej (by decide)).trans ((sI_nej (by decide)).trans ((sI_nej (by decide)).trans (qa_19)))))) (li_61) (by omega)) fun v Ma209 h209 => ?_
          obtain ⟨sz208, sn208, uc208, g209, e209_sz208, e209_sn208, e209_uc208, e209_k0, e209_k1, e209_k2, e209_k3, p209_0, p209_1, p209_2⟩ := h209
          have f209 : Fr W_cp Mc Ma209 := Fr.t (Fr.sI (by decide) (Fr.sI (by decide) (Fr.sI (by decide) (Fr.sI (by decide) (Fr.sI (by decide) Fr.r))))) (Fr.m g209 (by decide))
          refine rsl (cV_e rfl) ?_
          refine rsl (vC_e (ck_65 (hC.fr f209))) ?_
          refine RlV (y99_0 (by omega) (hC.fr f209) (hTk.fr (WL := W_cp) f209 (by decide)) (e209_k3) (e209_k0) (e209_k1) (e209_k2) (e209_sz208) (e209_sn208) (e209_uc208) (li_0) (hv0) (by omega)) fun v Ma211 h211 => ?_
          obtain ⟨sz210, sn210, uc210, g211, e211_sz210, e211_sn210, e211_uc210, e211_k0, e211_k1, e211_k2, e211_k3, p211_0, p211_1, p211_2⟩ := h211
          have f211 : Fr W_cp Mc Ma211 := Fr.t f209 (Fr.m g211 (by decide))
          refine rsl (cV_e rfl) ?_
          refine rsl (vC_e (ck_65 (hC.fr f211))) ?_
          refine RlV (y64 (by omega) (hC.fr f211) (hTk.fr (WL := W_cp) f211 (by decide)) (e211_k3) (e211_k0) (e211_k1) (e211_k2) (e211_sz210) (e211_sn210) (e211_uc210) (li_59) (by omega)) fun v Ma213 h213 => ?_
          obtain ⟨sz212, sn212, uc212, g213, e213_sz212, e213_sn212, e213_uc212, e213_k0, e213_k1, e213_k2, e213_k3, p213_0, p213_1, p213_2⟩ := h213
          have f213 : Fr W_cp Mc Ma213 := Fr.t f211 (Fr.m g213 (by decide))
          refine rsl (cV_e rfl) ?_
          refine rsl (gtI_q (w := iI sn212) (ck_65 (hC.fr f213)) (e213_sn212)) ?_
          refine rsl (vC_e (ck_65 (hC.fr f213))) ?_
          refine RlI (y87 (by omega) (hC.fr f213) (hTk.fr (WL := W_cp) f213 (by decide)) (e213_k3) (e213_k0) (e213_k1) (e213_k2) (e213_sz212) (e213_sn212) (e213_uc212) (li_2) (rfl) (by omega)) fun v Ma215 h215 => ?_
          obtain ⟨rv214, sz214, sn214, uc214, rfl, g215, e215_sz214, e215_sn214, e215_uc214, e215_k0, e215_k1, e215_k2, e215_k3, p215_0, p215_1, p215_2, p215_3⟩ := h215
          have f215 : Fr W_cp Mc Ma215 := Fr.t f213 (Fr.m g215 (by decide))
          refine rsl (cI_e rfl) ?_
          refine rsl (vC_e (ck_65 (hC.fr f215))) ?_
          refine RlV (y75 (by omega) (hC.fr f215) (hTk.fr (WL := W_cp) f215 (by decide)) (e215_k3) (e215_k0) (e215_k1) (e215_k2) (e215_sz214) (e215_sn214) (e215_uc214)  (by omega)) fun v Ma217 h217 => ?_
          obtain ⟨sz216, sn216, uc216, g217, e217_sz216, e217_sn216, e217_uc216, e217_k0, e217_k1, e217_k2, e217_k3, p217_0, p217_1, p217_2⟩ := h217
          have f217 : Fr W_cp Mc Ma217 := Fr.t f215 (Fr.m g217 (by decide))
          refine rsl (cV_e rfl) ?_
          refine rsr (gtI_q (w := iI ((kr (kd i)))) (rk_160 hR) (wa_36)) ?_
          refine rsr (jn_v) ?_
          refine rsr (swI_c) ?_
          refine rsr (if_pos (krI_p (k := 215) (rfl) (li_416) (by omega) (by decide +kernel))) ?_
          refine rsr (vC_e (rk_160 hR)) ?_
          refine RrV (nx_q (by omega) hS hR (hT.fr (W := W_rx) Fr.r (by decide) (by decide)) (fun i a b => (Fr.lc (W := W_rx) Fr.r _ (by decide) _).trans (hW i a b)) (i := i) (i2 := (i + 1)) (wa_41) (wa_38) (by omega) (by omega) (by omega)) fun v Ma218 h218 => ?_
          obtain ⟨g218, e218_k0, e218_k1, e218_k2, p218_0⟩ := h218
          have f218 : Fr W_rx Mr Ma218 := Fr.t Fr.r (Fr.m g218 (by decide))
          refine rsr (cV_e rfl) ?_
          refine rsr (vC_e (rk_160 (hR.fr f218))) ?_
          refine rsr (cI_e (a198_1 (r := 0) (by omega) hS (hR.fr f218) (e218_k0) (e218_k1) ((g218.i _ _ (by decide)).trans (wa_41)) p218_0 ((g218.i _ _ (by decide)).trans (wa_51)) (lra.fr g218 (by decide)) (by omega))) ?_
          refine rsr (if_pos (eqI_p (rfl) (li_0) (by omega))) ?_
          refine rsr (jv_e) ?_
          exact Rs.ok (Or.inr ⟨1, ((pl (i + 1))), f217, (Fr.sI (by decide) (Fr.sI (by decide) (Fr.m f218 (by decide)))), ⟨(i + 1), sz216, sn216, uc216, e217_k0, e217_k1, e217_k2, e217_k3, e217_sz216, e217_sn216, e217_uc216, by omega⟩, ⟨e, s, u, mu, ut, (sI_nej (by decide)).trans (sI_eq), sI_eq, (sI_nej (by decide)).trans ((sI_nej (by decide)).trans ((g218.i _ _ (by decide)).trans (wa_43))), (sI_nej (by decide)).trans ((sI_nej (by decide)).trans ((g218.i _ _ (by decide)).trans (wa_51))), (sI_nej (by decide)).trans ((sI_nej (by decide)).trans ((g218.i _ _ (by decide)).trans (wa_53))), (sI_nej (by decide)).trans ((sI_nej (by decide)).trans ((g218.i _ _ (by decide)).trans (h48))), (sI_nej (by decide)).trans ((sI_nej (by decide)).trans ((g218.i _ _ (by decide)).trans (h49))), by omega⟩⟩)
        ·
          refine rsl (cL_e (a66_2 (by omega) hS hC.sI.sI (hTk.fr (WL := W_cp) (Fr.sI (by decide) (Fr.sI (by decide) Fr.r)) (by decide)) ((sI_nej (by decide)).trans (sI_eq)) (sI_eq) ((sI_nej (by decide)).trans ((sI_nej (by decide)).trans (qa_10))) (li_1) (li_1) (by omega))) ?_
          refine rsl (vC_e (ck_65 hC.sI.sI.sI.sI.sI)) ?_
          refine RlV (y64 (by omega) hC.sI.sI.sI.sI.sI (hTk.fr (WL := W_cp) (Fr.sI (by decide) (Fr.sI (by decide) (Fr.sI (by decide) (Fr.sI (by decide) (Fr.sI (by decide) Fr.r))))) (by decide)) ((sI_nej (by decide)).trans ((sI_nej (by decide)).trans ((sI_nej (by decide)).trans ((sI_nej (by decide)).trans (sI_eq))))) (sI_eq) ((sI_nej (by decide)).trans ((sI_nej (by decide)).trans (sI_eq))) ((sI_nej (by decide)).trans (sI_eq)) ((sI_nej (by decide)).trans ((sI_nej (by decide)).trans ((sI_nej (by decide)).trans ((sI_nej (by decide)).trans ((sI_nej (by decide)).trans (qa_9)))))) ((sI_nej (by decide)).trans ((sI_nej (by decide)).trans ((sI_nej (by decide)).trans ((sI_nej (by decide)).trans ((sI_nej (by decide)).trans (qa_16)))))) ((sI_nej (by decide)).trans ((sI_nej (by decide)).trans ((sI_nej (by decide)).trans ((sI_nej (by decide)).trans ((sI_nej (by decide)).trans (qa_19)))))) (li_61) (by omega)) fun v Ma220 h220 => ?_
          obtain ⟨sz219, sn219, uc219, g220, e220_sz219, e220_sn219, e220_uc219, e220_k0, e220_k1, e220_k2, e220_k3, p220_0, p220_1, p220_2⟩ := h220
          have f220 : Fr W_cp Mc Ma220 := Fr.t (Fr.sI (by decide) (Fr.sI (by decide) (Fr.sI (by decide) (Fr.sI (by decide) (Fr.sI (by decide) Fr.r))))) (Fr.m g220 (by decide))
          refine rsl (cV_e rfl) ?_
          refine rsl (vC_e (ck_65 (hC.fr f220))) ?_
          refine RlV (y99_0 (by omega) (hC.fr f220) (hTk.fr (WL := W_cp) f220 (by decide)) (e220_k3) (e220_k0) (e220_k1) (e220_k2) (e220_sz219) (e220_sn219) (e220_uc219) (li_0) (hv0) (by omega)) fun v Ma222 h222 => ?_
          obtain ⟨sz221, sn221, uc221, g222, e222_sz221, e222_sn221, e222_uc221, e222_k0, e222_k1, e222_k2, e222_k3, p222_0, p222_1, p222_2⟩ := h222
          have f222 : Fr W_cp Mc Ma222 := Fr.t f220 (Fr.m g222 (by decide))
          refine rsl (cV_e rfl) ?_
          refine rsl (vC_e (ck_65 (hC.fr f222))) ?_
          refine RlV (y64 (by omega) (hC.fr f222) (hTk.fr (WL := W_cp) f222 (by decide)) (e222_k3) (e222_k0) (e222_k1) (e222_k2) (e222_sz221) (e222_sn221) (e222_uc221) (li_59) (by omega)) fun v Ma224 h224 => ?_
          obtain ⟨sz223, sn223, uc223, g224, e224_sz223, e224_sn223, e224_uc223, e224_k0, e224_k1, e224_k2, e224_k3, p224_0, p224_1, p224_2⟩ := h224
          have f224 : Fr W_cp Mc Ma224 := Fr.t f222 (Fr.m g224 (by decide))
          refine rsl (cV_e rfl) ?_
          refine rsl (gtI_q (w := iI sn223) (ck_65 (hC.fr f224)) (e224_sn223)) ?_
          refine rsl (vC_e (ck_65 (hC.fr f224))) ?_
          refine RlI (y87 (by omega) (hC.fr f224) (hTk.fr (WL := W_cp) f224 (by decide)) (e224_k3) (e224_k0) (e224_k1) (e224_k2) (e224_sz223) (e224_sn223) (e224_uc223) (li_2) (rfl) (by omega)) fun v Ma226 h226 => ?_
          obtain ⟨rv225, sz225, sn225, uc225, rfl, g226, e226_sz225, e226_sn225, e226_uc225, e226_k0, e226_k1, e226_k2, e226_k3, p226_0, p226_1, p226_2, p226_3⟩ := h226
          have f226 : Fr W_cp Mc Ma226 := Fr.t f224 (Fr.m g226 (by decide))
          refine rsl (cI_e rfl) ?_
          refine rsl (vC_e (ck_65 (hC.fr f226))) ?_
          refine RlV (y75 (by omega) (hC.fr f226) (hTk.fr (WL := W_cp) f226 (by decide)) (e226_k3) (e226_k0) (e226_k1) (e226_k2) (e226_sz225) (e226_sn225) (e226_uc225)  (by omega)) fun v Ma228 h228 => ?_
          obtain ⟨sz227, sn227, uc227, g228, e228_sz227, e228_sn227, e228_uc227, e228_k0, e228_k1, e228_k2, e228_k3, p228_0, p228_1, p228_2⟩ := h228
          have f228 : Fr W_cp Mc Ma228 := Fr.t f226 (Fr.m g228 (by decide))
          refine rsl (cV_e rfl) ?_
          refine rsr (gtI_q (w := iI ((kr (kd i)))) (rk_160 hR) (wa_36)) ?_
          refine rsr (jn_v) ?_
          refine rsr (swI_c) ?_
          refine rsr (if_pos (krI_p (k := 215) (rfl) (li_416) (by omega) (by decide +kernel))) ?_
          refine rsr (vC_e (rk_160 hR)) ?_
          refine RrV (nx_q (by omega) hS hR (hT.fr (W := W_rx) Fr.r (by decide) (by decide)) (fun i a b => (Fr.lc (W := W_rx) Fr.r _ (by decide) _).trans (hW i a b)) (i := i) (i2 := (i + 1)) (wa_41) (wa_38) (by omega) (by omega) (by omega)) fun v Ma229 h229 => ?_
          obtain ⟨g229, e229_k0, e229_k1, e229_k2, p229_0⟩ := h229
          have f229 : Fr W_rx Mr Ma229 := Fr.t Fr.r (Fr.m g229 (by decide))
          refine rsr (cV_e rfl) ?_
          refine rsr (vC_e (rk_160 (hR.fr f229))) ?_
          refine rsr (cI_e (a198_2 (r := 0) (by omega) hS (hR.fr f229) (e229_k0) (e229_k1) ((g229.i _ _ (by decide)).trans (wa_41)) p229_0 ((g229.i _ _ (by decide)).trans (wa_51)) (lra.fr g229 (by decide)) (by omega))) ?_
          refine rsr (if_pos (eqI_p (rfl) (li_0) (by omega))) ?_
          refine rsr (jv_e) ?_
          exact Rs.ok (Or.inr ⟨2, ((pl (i + 1))), f228, (Fr.sI (by decide) (Fr.sI (by decide) (Fr.m f229 (by decide)))), ⟨(i + 1), sz227, sn227, uc227, e228_k0, e228_k1, e228_k2, e228_k3, e228_sz227, e228_sn227, e228_uc227, by omega⟩, ⟨e, s, u, mu, ut, (sI_nej (by decide)).trans (sI_eq), sI_eq, (sI_nej (by decide)).trans ((sI_nej (by decide)).trans ((g229.i _ _ (by decide)).trans (wa_43))), (sI_nej (by decide)).trans ((sI_nej (by decide)).trans ((g229.i _ _ (by decide)).trans (wa_51))), (sI_nej (by decide)).trans ((sI_nej (by decide)).trans ((g229.i _ _ (by decide)).trans (wa_53))), (sI_nej (by decide)).trans ((sI_nej (by decide)).trans ((g229.i _ _ (by decide)).trans (h48))), (sI_nej (by decide)).trans ((sI_nej (by decide)).trans ((g229.i _ _ (by decide)).trans (h49))), by omega⟩⟩)
