theorem p_b {D : Nat} {dp : Int} (hD : 20 ≤ D) (hp1 : 1 ≤ dp) (hSt : dp < 20 → PairS D (dp + 1)) : PairB (D + 10) dp := by
  intro d d2 hd hd2 T n m kd pl E tx ua ut mu Mc Mr G U Hl X i e s u uc v0 hS hx hsc hsr hrw hbd hv0
  obtain ⟨d, rfl⟩ : ∃ e, d = e + 1 := ⟨d - 1, by omega⟩
  obtain ⟨d2, rfl⟩ : ∃ e, d2 = e + 1 := ⟨d2 - 1, by omega⟩
  rw [r89]; unfold b89; rw [aR_e, aI_e, aZ_e]; unfold c89; rw [r213]; unfold b213; rw [aR_e, aZ_e]; unfold c213
  have hCx := hx
  obtain ⟨hC, hR, hTk, hT, hW, ⟨hu1, hu2, hu3, hu4⟩, h49, h48, ⟨hb1, hb2, hb3, hb4⟩⟩ := hx
  obtain ⟨bb_0, bb_1, bb_2, bb_3, bb_4, bb_5, bb_6, bb_7, bb_8, bb_9, bb_10, bb_11⟩ := hbd
  have kua : KU uc Mc Mc := KU.r
  obtain ⟨qa_12, qa_13, qa_10, qa_9, qa_16, qa_19⟩ := hsc
  obtain ⟨wa_36, wa_37, wa_38, wa_41, wa_43, wa_51, wa_53, wa_50, wa_n⟩ := hsr
  obtain ⟨caa, raa, lca, lra, cua, rua⟩ := hrw
  have hk1 := (hS.ok i (by omega) (by omega)).r
  have ty2 := (Tye.r (G := G) (a := e) (s := s))
  have du3 := (DU.r (ut := ut) (mu := mu) (c := uc) (G := G) (U := U) (X := X) (a := e) (u := u))
  have tb4 := (Tyb.r (dp := dp + 1) (G := G) (a := e) (s := s))
  refine rsl (vC_e (ck_65 hC)) ?_
  by_cases c5 : ((kd i)) = 123
  ·
    by_cases c6 : dp < 20
    ·
      have hm7 : i + 1 < m := hS.more i (by omega) (by omega) (by omega)
      refine rsl (cV_e (a69q (by omega) hS hC (hTk.fr (WL := W_cp) Fr.r (by decide)) (qa_12) (qa_13) (qa_10) (li_123) (hv0) (i2 := (i + 1)) (by omega) (by omega))) ?_
      have hk8 := (hS.ok (i + 1) (by omega) (by omega)).r
      refine rsl (gtI_q (w := iI s) (ck_65 hC.sI.sI) ((sI_nej (by decide)).trans ((sI_nej (by decide)).trans (qa_16)))) ?_
      refine rsl (jn_v) ?_
      refine rsr (vC_e (rk_160 hR)) ?_
      refine Rs_cVr (P := fun _ Mc2 _ Mr2 => PBX (dp + 1) ut mu m kd pl E tx Mc Mr G U Hl X i e s u uc dp (2500 - 30 * dp - 30) Mc2 Mr2) ?_ (fun v Mx9 w Nx9 hx9 => ?_)
      ·
        obtain ⟨d2, rfl⟩ : ∃ e, d2 = e + 1 := ⟨d2 - 1, by omega⟩
        rw [r212]; unfold b212; rw [aR_e, aZ_e]; unfold c212
        refine rsr (gtI_q (w := iI 0) (rk_160 hR) (wa_41)) ?_
        refine rsr (jn_v) ?_
        refine rsr (if_pos (eqI_p (rfl) (li_0) (by omega))) ?_
        refine rsr (gtI_q (w := iI ((kr (kd i)))) (rk_160 hR) (wa_36)) ?_
        refine rsr (jn_v) ?_
        refine rsr (if_pos (krI_p (k := 123) (rfl) (li_123) (by omega) (by decide +kernel))) ?_
        refine rsr (jv_e) ?_
        refine rsr (vC_e (rk_160 hR)) ?_
        refine rsr (cI_e (ar193_p (by omega) hS hR (wa_36) (wa_37) (wa_41) (li_1) (by omega))) ?_
        refine rsr (if_neg (eqI_n (rfl) (li_0) (by omega))) ?_
        refine rsr (vC_e (rk_160 hR)) ?_
        refine rsr (cI_e (ar200_p (by omega) hS hR (wa_36) (wa_37) (wa_41) (wa_50) (by omega))) ?_
        refine rsr (if_neg (eqI_n (rfl) (li_0) (by omega))) ?_
        refine rsr (gtI_q (w := iI s) (rk_160 hR.sI) ((sI_nej (by decide)).trans (wa_51))) ?_
        refine rsr (vC_e (rk_160 hR.sI)) ?_
        refine RrV (nx_q (by omega) hS hR.sI (hT.fr (W := W_rx) (Fr.sI (by decide) Fr.r) (by decide) (by decide)) (fun i a b => (Fr.lc (W := W_rx) (Fr.sI (by decide) Fr.r) _ (by decide) _).trans (hW i a b)) (i := i) (i2 := (i + 1)) ((sI_nej (by decide)).trans (wa_41)) ((sI_nej (by decide)).trans (wa_38)) (by omega) (by omega) (by omega)) fun v Ma10 h10 => ?_
        obtain ⟨g10, e10_k0, e10_k1, e10_k2, p10_0⟩ := h10
        have f10 : Fr W_rx Mr Ma10 := Fr.t (Fr.sI (by decide) Fr.r) (Fr.m g10 (by decide))
        refine rsr (cV_e rfl) ?_
        refine rsr (jn_v) ?_
        refine Rb_lp (fun m2 q t => (∃ (k i2 s2 : Int) (H2 : Int → Int64), q.1 = iI k ∧ (0 ≤ k ∧ k ≤ i2) ∧ PS 1 (dp + 1) ut mu m kd pl E tx Mc Mr G U Hl X i e s u uc (dp + 1) q.2 t i2 i2 s2 H2 ∧ (m2 : Int) = m - i2 + 1) ∨ ∃ (k F P : Int), q.1 = iI k ∧ (0 ≤ k ∧ k ≤ 1500) ∧ Fr W_cp Mc q.2 ∧ Fr W_rp Mr t ∧ FTc m F P q.2 ∧ FTr (2500 - 30 * dp - 30) F P t ∧ m2 = 0) (fun m2 q t gl gr hq hgo => ?_) (m - i).toNat _ _ _ _ (by omega) (by omega) (Or.inl ⟨0, (i + 1), s, Hl, li_0, by omega, ⟨e, u, uc, G, U, X, (Fr.sI (by decide) (Fr.sI (by decide) Fr.r)), f10, ⟨(sI_nej (by decide)).trans (sI_eq), sI_eq, (sI_nej (by decide)).trans ((sI_nej (by decide)).trans (qa_10)), (sI_nej (by decide)).trans ((sI_nej (by decide)).trans (qa_9)), (sI_nej (by decide)).trans ((sI_nej (by decide)).trans (qa_16)), (sI_nej (by decide)).trans ((sI_nej (by decide)).trans (qa_19))⟩, ⟨e10_k0, e10_k1, e10_k2, (g10.i _ _ (by decide)).trans ((sI_nej (by decide)).trans (wa_41)), (g10.i _ _ (by decide)).trans ((sI_nej (by decide)).trans (wa_43)), (g10.i _ _ (by decide)).trans ((sI_nej (by decide)).trans (wa_51)), (g10.i _ _ (by decide)).trans ((sI_nej (by decide)).trans (wa_53)), (g10.i _ _ (by decide)).trans (sI_eq), p10_0⟩, ⟨(caa.fr (W := W_c0) (Fr.sI (by decide) (Fr.sI (by decide) Fr.r)) (by decide)), ((raa.fr (W := W_r0) (Fr.sI (by decide) Fr.r) (by decide)).fr g10 (by decide)), (lca.fr (W := W_c0) (Fr.sI (by decide) (Fr.sI (by decide) Fr.r)) (by decide)), ((lra.fr (W := W_r0) (Fr.sI (by decide) Fr.r) (by decide)).fr g10 (by decide)), (cua.fr (W := W_c0) (Fr.sI (by decide) (Fr.sI (by decide) Fr.r)) (by decide)), ((rua.fr (W := W_r0) (Fr.sI (by decide) Fr.r) (by decide)).fr g10 (by decide))⟩, ⟨by omega, by omega, by omega, by omega, by omega, by omega, by omega, by omega, by omega, by omega, by omega, by omega⟩, ⟨by omega, by omega, by omega, by omega, by omega, by omega⟩, Ag.r, Ag.r, AgL.r, tb4, du3, (kua.fr (W := W_c0) (Fr.sI (by decide) (Fr.sI (by decide) Fr.r)) (by decide)), HlR⟩, by omega⟩)
        obtain ⟨qk11, qm11⟩ := q
        dsimp only at hq
        try dsimp only
        rcases hq with hq | hq
        ·
          obtain ⟨k11, i11, s11, H11, hk11, ⟨hka11, hkb11⟩, ⟨e11, u11, uc11, G11, U11, X11, FL11, FR11, sc11, sr11, rw11, bd11, ⟨mv11_0, mv11_1, mv11_2, mv11_3, mv11_4, mv11_5⟩, ag11, au11, ax11, tp11, dp11, ku11, ⟨sl11, sh11⟩⟩, hm11⟩ := hq
          obtain ⟨bb11_0, bb11_1, bb11_2, bb11_3, bb11_4, bb11_5, bb11_6, bb11_7, bb11_8, bb11_9, bb11_10, bb11_11⟩ := bd11
          obtain ⟨q11_12, q11_13, q11_10, q11_9, q11_16, q11_19⟩ := sc11
          obtain ⟨w11_36, w11_37, w11_38, w11_41, w11_43, w11_51, w11_53, w11_50, w11_n⟩ := sr11
          obtain ⟨ca11, ra11, lc11, lr11, cu11, ru11⟩ := rw11
          have hk12 := (hS.ok i11 (by omega) (by omega)).r
          unfold c89_14 c212_45
          refine rsl (if_neg (leI_n (li_3000) (hk11) (by omega))) ?_
          refine rsl (gtI_q (w := iI ((kd i11))) (ck_65 (hC.fr FL11)) (q11_13)) ?_
          by_cases c13 : ((kd i11)) = 125
          · refine rsl (if_pos (eqI_p (rfl) (li_125) (by omega))) ?_
            refine rsl (jv_e) ?_
            refine rsl (jn_v) ?_
            refine rsl (if_neg (eqI_n (hv0) (li_0) (by omega))) ?_
            refine rsl (jv_e) ?_
            refine rsl (vC_e (ck_65 (hC.fr FL11))) ?_
            have hm14 : i11 + 1 < m := hS.more i11 (by omega) (by omega) (by omega)
            refine rsl (cV_e (a64q (by omega) hS (hC.fr FL11) (hTk.fr (WL := W_cp) FL11 (by decide)) (q11_12) (q11_13) (q11_10) (li_125) (i2 := (i11 + 1)) (by omega) (by omega))) ?_
            have hk15 := (hS.ok (i11 + 1) (by omega) (by omega)).r
            refine rsl (ptI_q (z := s) (ck_65 (hC.fr FL11).sI.sI) (rfl)) ?_
            refine rsr (gtI_q (w := iI 0) (rk_160 (hR.fr FR11)) (w11_41)) ?_
            refine rsr (if_pos (eqI_p (rfl) (li_0) (by omega))) ?_
            refine rsr (gtI_q (w := iI ((kr (kd i11)))) (rk_160 (hR.fr FR11)) (w11_36)) ?_
            refine rsr (if_pos (krI_p (k := 125) (rfl) (li_125) (by omega) (by decide +kernel))) ?_
            refine rsr (jv_e) ?_
            refine rsr (gtI_q (w := iI (dp + 1)) (rk_160 (hR.fr FR11)) (w11_50)) ?_
            refine rsr (ptI_q (z := dp) (rk_160 (hR.fr FR11)) (cvI (sbI (rfl) (li_1)) (by omega))) ?_
            refine rsr (ptI_q (z := s) (rk_160 (hR.fr FR11).sI) (rfl)) ?_
            exact Rs.ok (Or.inl ⟨i11, by omega, by omega, ⟨e11, u11, uc11, G11, U11, X11, (Fr.sI (by decide) (Fr.sI (by decide) (Fr.sI (by decide) FL11))), (Fr.sI (by decide) (Fr.sI (by decide) FR11)), ⟨(sI_nej (by decide)).trans ((sI_nej (by decide)).trans (sI_eq)), (sI_nej (by decide)).trans (sI_eq), (sI_nej (by decide)).trans ((sI_nej (by decide)).trans ((sI_nej (by decide)).trans (q11_10))), (sI_nej (by decide)).trans ((sI_nej (by decide)).trans ((sI_nej (by decide)).trans (q11_9))), sI_eq, (sI_nej (by decide)).trans ((sI_nej (by decide)).trans ((sI_nej (by decide)).trans (q11_19)))⟩, ⟨(sI_nej (by decide)).trans ((sI_nej (by decide)).trans (w11_36)), (sI_nej (by decide)).trans ((sI_nej (by decide)).trans (w11_37)), (sI_nej (by decide)).trans ((sI_nej (by decide)).trans (w11_38)), (sI_nej (by decide)).trans ((sI_nej (by decide)).trans (w11_41)), (sI_nej (by decide)).trans ((sI_nej (by decide)).trans (w11_43)), sI_eq, (sI_nej (by decide)).trans ((sI_nej (by decide)).trans (w11_53)), (sI_nej (by decide)).trans (sI_eq), (w11_n.fr (W := W_r0) (Fr.sI (by decide) (Fr.sI (by decide) Fr.r)) (by decide) (by decide))⟩, ⟨(ca11.fr (W := W_c0) (Fr.sI (by decide) (Fr.sI (by decide) (Fr.sI (by decide) Fr.r))) (by decide)), (ra11.fr (W := W_r0) (Fr.sI (by decide) (Fr.sI (by decide) Fr.r)) (by decide)), ((LA.bk lc11 (by omega) sh11).fr (W := W_c0) (Fr.sI (by decide) (Fr.sI (by decide) (Fr.sI (by decide) Fr.r))) (by decide)), ((LA.bk lr11 (by omega) sh11).fr (W := W_r0) (Fr.sI (by decide) (Fr.sI (by decide) Fr.r)) (by decide)), (cu11.fr (W := W_c0) (Fr.sI (by decide) (Fr.sI (by decide) (Fr.sI (by decide) Fr.r))) (by decide)), (ru11.fr (W := W_r0) (Fr.sI (by decide) (Fr.sI (by decide) Fr.r)) (by decide))⟩, ⟨by omega, by omega, by omega, by omega, by omega, by omega, by omega, by omega, by omega, by omega, by omega, by omega⟩, ⟨by omega, by omega, by omega, by omega, by omega, by omega⟩, ag11, au11, ax11, (Tyb.lo tp11 (by omega) (Int.le_refl _)), dp11, (ku11.fr (W := W_c0) (Fr.sI (by decide) (Fr.sI (by decide) (Fr.sI (by decide) Fr.r))) (by decide)), HlR⟩⟩)
          · refine rsl (if_neg (eqI_n (rfl) (li_125) (by omega))) ?_
            refine rsl (gtI_q (w := iI ((kd i11))) (ck_65 (hC.fr FL11)) (q11_13)) ?_
            refine rsl (if_neg (eqI_n (rfl) (li_2) (by omega))) ?_
            refine rsl (vC_e (ck_65 (hC.fr FL11))) ?_
            refine rsr (gtI_q (w := iI 0) (rk_160 (hR.fr FR11)) (w11_41)) ?_
            refine rsr (if_pos (eqI_p (rfl) (li_0) (by omega))) ?_
            refine rsr (gtI_q (w := iI ((kr (kd i11)))) (rk_160 (hR.fr FR11)) (w11_36)) ?_
            refine rsr (if_neg (krI_n (k := 125) (rfl) (li_125) (hS.ok i11 (by omega) (by omega)) (by unfold KdOK sgk; omega) (by decide +kernel) (by omega) (by omega))) ?_
            refine rsr (vC_e (rk_160 (hR.fr FR11))) ?_
            refine Rb_VV ((hSt (by omega)) _ _ (by omega) (by omega) T n m kd pl E tx ua ut mu _ _ G11 U11 H11 X11 i11 e11 s11 u11 uc11 _ hS (hCx.fr FL11 FR11) ⟨q11_12, q11_13, q11_10, q11_9, q11_16, q11_19⟩ ⟨w11_36, w11_37, w11_38, w11_41, w11_43, w11_51, w11_53, w11_50, w11_n⟩ ⟨ca11, ra11, lc11, lr11, cu11, ru11⟩ ⟨by omega, by omega, by omega, by omega, by omega, by omega, by omega, by omega, by omega, by omega, by omega, by omega⟩ (adI (hv0) (li_1))) fun v Mx16 w Nx16 hx16 => ?_
            rcases hx16 with ⟨i16, s16, H16, e16, u16, uc16, G16, U16, X16, fl16, fr16, sc16, sr16, rw16, bd16, mv16, ag16, au16, ax16, tp16, dp16, kv16, ⟨sl16, sh16⟩⟩ | ⟨F16, P16, fl16, fr16, tc16, tr16⟩
            ·
              have FL16 : Fr W_cp Mc Mx16 := Fr.t FL11 fl16
              have FR16 : Fr W_rx Mr Nx16 := Fr.t FR11 fr16
              obtain ⟨bb16_0, bb16_1, bb16_2, bb16_3, bb16_4, bb16_5, bb16_6, bb16_7, bb16_8, bb16_9, bb16_10, bb16_11⟩ := bd16
              obtain ⟨q16_12, q16_13, q16_10, q16_9, q16_16, q16_19⟩ := sc16
              obtain ⟨w16_36, w16_37, w16_38, w16_41, w16_43, w16_51, w16_53, w16_50, w16_n⟩ := sr16
              obtain ⟨ca16, ra16, lc16, lr16, cu16, ru16⟩ := rw16
              have hk17 := (hS.ok i16 (by omega) (by omega)).r
              have ku16 := KU.t ku11 kv16 (by omega)
              have du18 := DU.t dp11 ag16 au16 ax16 dp16 (by omega)
              have tb19 := Tyb.t tp11 ag16 tp16
              have hl20 := HlT ⟨sl11, sh11⟩ sl16 sh16
              refine rsl (cV_e rfl) ?_
              refine rsr (cV_e rfl) ?_
              refine rsl (ltI_q (z := (k11 + 1)) (adI (hk11) (li_1))) ?_
              exact hgo (m - i16 + 1).toNat _ _ (by omega) (Or.inl ⟨(k11 + 1), i16, s16, H16, rfl, by omega, ⟨e16, u16, uc16, G16, U16, X16, FL16, FR16, ⟨q16_12, q16_13, q16_10, q16_9, q16_16, q16_19⟩, ⟨w16_36, w16_37, w16_38, w16_41, w16_43, w16_51, w16_53, w16_50, w16_n⟩, ⟨ca16, ra16, lc16, lr16, cu16, ru16⟩, ⟨by omega, by omega, by omega, by omega, by omega, by omega, by omega, by omega, by omega, by omega, by omega, by omega⟩, ⟨by omega, by omega, by omega, by omega, by omega, by omega⟩, (Ag.t ag11 ag16 (by omega)), (Ag.t au11 au16 (by omega)), (AgL.t ax11 ax16 (by omega)), tb19, du18, ku16, hl20⟩, by omega⟩)
            ·
              have FL16 : Fr W_cp Mc Mx16 := Fr.t FL11 fl16
              have FR16 : Fr W_rp Mr Nx16 := Fr.t (Fr.m FR11 W_rx_p) fr16
              obtain ⟨ti16, tz16, tn16, tu16, t1316, t1016, t1116, t1216, t916, t1616, t1916, tb16⟩ := tc16
              obtain ⟨re16, rn16, ru16, rm16, rt16, u4116, u4216, u4316, u5116, u5316, u4816, u4916, ub16⟩ := tr16
              refine rsl (cV_e rfl) ?_
              refine rsr (cV_e rfl) ?_
              refine rsl (ltI_q (z := (k11 + 1)) (adI (hk11) (li_1))) ?_
              exact hgo 0 _ _ (by omega) (Or.inr ⟨(k11 + 1), F16, P16, rfl, by omega, FL16, FR16, ⟨ti16, tz16, tn16, tu16, t1316, t1016, t1116, t1216, t916, t1616, t1916, by omega⟩, ⟨re16, rn16, ru16, rm16, rt16, u4116, u4216, u4316, u5116, u5316, u4816, u4916, by omega⟩, rfl⟩)
        ·
          obtain ⟨k11, F11, P11, hk11, ⟨hka11, hkb11⟩, FL11, FR11, tc11, tr11, hm11⟩ := hq
          obtain ⟨ti11, tz11, tn11, tu11, t1311, t1011, t1111, t1211, t911, t1611, t1911, tb11⟩ := tc11
          obtain ⟨re11, rn11, ru11, rm11, rt11, u4111, u4211, u4311, u5111, u5311, u4811, u4911, ub11⟩ := tr11
          unfold c89_14 c212_45
          refine rsl (if_neg (leI_n (li_3000) (hk11) (by omega))) ?_
          refine rsl (gtI_q (w := iI 2) (ck_65 (hC.fr FL11)) (t1311)) ?_
          refine rsl (if_neg (eqI_n (rfl) (li_125) (by omega))) ?_
          refine rsl (gtI_q (w := iI 2) (ck_65 (hC.fr FL11)) (t1311)) ?_
          refine rsl (if_pos (eqI_p (rfl) (li_2) (by omega))) ?_
          refine rsl (jv_e) ?_
          refine rsl (jn_v) ?_
          refine rsl (if_neg (eqI_n (hv0) (li_0) (by omega))) ?_
          refine rsl (jv_e) ?_
          refine rsl (vC_e (ck_65 (hC.fr FL11))) ?_
          refine RlV (y64 (by omega) (hC.fr FL11) (hTk.fr (WL := W_cp) FL11 (by decide)) (t1211) (t1311) (t1011) (t1111) (t911) (t1611) (t1911) (li_125) (by omega)) fun v Ma22 h22 => ?_
          obtain ⟨sz21, sn21, uc21, g22, e22_sz21, e22_sn21, e22_uc21, e22_k0, e22_k1, e22_k2, e22_k3, p22_0, p22_1, p22_2⟩ := h22
          have f22 : Fr W_cp Mc Ma22 := Fr.t FL11 (Fr.m g22 (by decide))
          refine rsl (cV_e rfl) ?_
          refine rsl (ptI_q (z := s) (ck_65 (hC.fr f22)) (rfl)) ?_
          refine rsr (gtI_q (w := iI F11) (rk_160 (hR.fr FR11)) (u4111)) ?_
          refine rsr (if_neg (eqI_n (rfl) (li_0) (by omega))) ?_
          refine rsr (jv_e) ?_
          have b23 := V_r (M := t) (a := 160) (j := 50)
          refine rsr (gtI_q (w := iI ((V t 160 50))) (rk_160 (hR.fr FR11)) (eV)) ?_
          refine rsr (ptI_q (z := ((V t 160 50) - 1)) (rk_160 (hR.fr FR11)) (cvI (sbI (rfl) (li_1)) (by omega))) ?_
          refine rsr (ptI_q (z := s) (rk_160 (hR.fr FR11).sI) (rfl)) ?_
          exact Rs.ok (Or.inr ⟨F11, P11, (Fr.sI (by decide) f22), (Fr.sI (by decide) (Fr.sI (by decide) FR11)), ⟨ti11, sz21, s, uc21, (sI_nej (by decide)).trans (e22_k0), (sI_nej (by decide)).trans (e22_k1), (sI_nej (by decide)).trans (e22_k2), (sI_nej (by decide)).trans (e22_k3), (sI_nej (by decide)).trans (e22_sz21), sI_eq, (sI_nej (by decide)).trans (e22_uc21), by omega⟩, ⟨re11, s, ru11, rm11, rt11, (sI_nej (by decide)).trans ((sI_nej (by decide)).trans (u4111)), (sI_nej (by decide)).trans ((sI_nej (by decide)).trans (u4211)), (sI_nej (by decide)).trans ((sI_nej (by decide)).trans (u4311)), sI_eq, (sI_nej (by decide)).trans ((sI_nej (by decide)).trans (u5311)), (sI_nej (by decide)).trans ((sI_nej (by decide)).trans (u4811)), (sI_nej (by decide)).trans ((sI_nej (by decide)).trans (u4911)), by omega⟩⟩)
      ·
        rcases hx9 with ⟨i9, k59, k69, e9, u9, uc9, G9, U9, X9, FL9, FR9, sc9, sr9, rw9, bd9, ⟨mv9_0, mv9_1, mv9_2, mv9_3, mv9_4, mv9_5⟩, ag9, au9, ax9, tp9, dp9, ku9, hl9⟩ | ⟨F9, P9, FL9, FR9, tc9, tr9⟩
        ·
          obtain ⟨bb9_0, bb9_1, bb9_2, bb9_3, bb9_4, bb9_5, bb9_6, bb9_7, bb9_8, bb9_9, bb9_10, bb9_11⟩ := bd9
          obtain ⟨q9_12, q9_13, q9_10, q9_9, q9_16, q9_19⟩ := sc9
          obtain ⟨w9_36, w9_37, w9_38, w9_41, w9_43, w9_51, w9_53, w9_50, w9_n⟩ := sr9
          obtain ⟨ca9, ra9, lc9, lr9, cu9, ru9⟩ := rw9
          have hk24 := (hS.ok (i9 + 1) (by omega) (by omega)).r
          have hk25 := (hS.ok i9 (by omega) (by omega)).r
          refine rs1 (vC_e (rk_160 (hR.fr FR9))) ?_
          have hm26 : i9 + 1 < m := hS.more i9 (by omega) (by omega) (by omega)
          refine Rc_V (nx_q (by omega) hS (hR.fr FR9) (hT.fr (W := W_rx) FR9 (by decide) (by decide)) (fun i a b => (Fr.lc (W := W_rx) FR9 _ (by decide) _).trans (hW i a b)) (i := i9) (i2 := (i9 + 1)) (w9_41) (w9_38) (by omega) (by omega) (by omega)) fun v Ma27 h27 => ?_
          obtain ⟨g27, e27_k0, e27_k1, e27_k2, p27_0⟩ := h27
          have f27 : Fr W_rx Mr Ma27 := Fr.t FR9 (Fr.m g27 (by decide))
          refine rs1 (cV_e rfl) ?_
          exact Rt.ok (Or.inl ⟨(i9 + 1), by omega, ⟨e9, u9, uc9, G9, U9, X9, FL9, f27, ⟨q9_12, q9_13, q9_10, q9_9, q9_16, q9_19⟩, ⟨e27_k0, e27_k1, e27_k2, (g27.i _ _ (by decide)).trans (w9_41), (g27.i _ _ (by decide)).trans (w9_43), (g27.i _ _ (by decide)).trans (w9_51), (g27.i _ _ (by decide)).trans (w9_53), (g27.i _ _ (by decide)).trans (w9_50), p27_0⟩, ⟨ca9, (ra9.fr g27 (by decide)), lc9, (lr9.fr g27 (by decide)), cu9, (ru9.fr g27 (by decide))⟩, ⟨by omega, by omega, by omega, by omega, by omega, by omega, by omega, by omega, by omega, by omega, by omega, by omega⟩, ⟨by omega, by omega, by omega, by omega, by omega, by omega⟩, ag9, au9, ax9, tp9, dp9, ku9, hl9⟩⟩)
        ·
          obtain ⟨ti9, tz9, tn9, tu9, t139, t109, t119, t129, t99, t169, t199, tb9⟩ := tc9
          obtain ⟨re9, rn9, ru9, rm9, rt9, u419, u429, u439, u519, u539, u489, u499, ub9⟩ := tr9
          refine rs1 (vC_e (rk_160 (hR.fr FR9))) ?_
          refine Rc_V (x191_s (by omega) (hR.fr FR9) (u419) (u429) (u439) (u519) (u539) (u489) (u499)  (by omega)) fun v Ma29 h29 => ?_
          obtain ⟨em28, g29, e29_em28, e29_k0, e29_k1, e29_k2, e29_k3, e29_k4, p29_0⟩ := h29
          have f29 : Fr W_rp Mr Ma29 := Fr.t FR9 (Fr.m g29 (by decide))
          refine rs1 (cV_e rfl) ?_
          exact Rt.ok (Or.inr ⟨F9, P9, FL9, f29, ⟨ti9, tz9, tn9, tu9, t139, t109, t119, t129, t99, t169, t199, by omega⟩, ⟨em28, rn9, ru9, rm9, rt9, e29_k0, e29_k1, e29_em28, e29_k2, e29_k3, e29_k4, (g29.i _ _ (by decide)).trans (u499), by omega⟩⟩)
    ·
      refine rsl (cV_e (a69_6 (by omega) hS hC (hTk.fr (WL := W_cp) Fr.r (by decide)) (qa_12) (qa_13) (qa_10) (li_123) (hv0) (by omega))) ?_
      refine rsl (gtI_q (w := iI s) (ck_65 hC.sI.sI.sI) ((sI_nej (by decide)).trans ((sI_nej (by decide)).trans ((sI_nej (by decide)).trans (qa_16))))) ?_
      refine rsl (jn_v) ?_
      refine rsl (lp_e) ?_
      unfold c89_14
      refine rsl (if_neg (leI_n (li_3000) (li_0) (by omega))) ?_
      refine rsl (gtI_q (w := iI 2) (ck_65 hC.sI.sI.sI) (sI_eq)) ?_
      refine rsl (if_neg (eqI_n (rfl) (li_125) (by omega))) ?_
      refine rsl (gtI_q (w := iI 2) (ck_65 hC.sI.sI.sI) (sI_eq)) ?_
      refine rsl (if_pos (eqI_p (rfl) (li_2) (by omega))) ?_
      refine rsl (jv_e) ?_
      refine rsl (jn_v) ?_
      refine rsl (if_neg (eqI_n (hv0) (li_0) (by omega))) ?_
      refine rsl (jv_e) ?_
      refine rsl (vC_e (ck_65 hC.sI.sI.sI)) ?_
      refine RlV (y64 (by omega) hC.sI.sI.sI (hTk.fr (WL := W_cp) (Fr.sI (by decide) (Fr.sI (by decide) (Fr.sI (by decide) Fr.r))) (by decide)) ((sI_nej (by decide)).trans ((sI_nej (by decide)).trans ((sI_nej (by decide)).trans (qa_12)))) (sI_eq) ((sI_nej (by decide)).trans ((sI_nej (by decide)).trans (sI_eq))) ((sI_nej (by decide)).trans (sI_eq)) ((sI_nej (by decide)).trans ((sI_nej (by decide)).trans ((sI_nej (by decide)).trans (qa_9)))) ((sI_nej (by decide)).trans ((sI_nej (by decide)).trans ((sI_nej (by decide)).trans (qa_16)))) ((sI_nej (by decide)).trans ((sI_nej (by decide)).trans ((sI_nej (by decide)).trans (qa_19)))) (li_125) (by omega)) fun v Ma31 h31 => ?_
      obtain ⟨sz30, sn30, uc30, g31, e31_sz30, e31_sn30, e31_uc30, e31_k0, e31_k1, e31_k2, e31_k3, p31_0, p31_1, p31_2⟩ := h31
      have f31 : Fr W_cp Mc Ma31 := Fr.t (Fr.sI (by decide) (Fr.sI (by decide) (Fr.sI (by decide) Fr.r))) (Fr.m g31 (by decide))
      refine rsl (cV_e rfl) ?_
      refine rsl (ptI_q (z := s) (ck_65 (hC.fr f31)) (rfl)) ?_
      refine rsr (vC_e (rk_160 hR)) ?_
      refine Rs_cVr (P := fun _ Mc2 _ Mr2 => PBX (dp + 1) ut mu m kd pl E tx Mc Mr G U Hl X i e s u uc dp (2500 - 30 * dp - 30) Mc2 Mr2) ?_ (fun v Mx32 w Nx32 hx32 => ?_)
      ·
        obtain ⟨d2, rfl⟩ : ∃ e, d2 = e + 1 := ⟨d2 - 1, by omega⟩
        rw [r212]; unfold b212; rw [aR_e, aZ_e]; unfold c212
        refine rsr (gtI_q (w := iI 0) (rk_160 hR) (wa_41)) ?_
        refine rsr (jn_v) ?_
        refine rsr (if_pos (eqI_p (rfl) (li_0) (by omega))) ?_
        refine rsr (gtI_q (w := iI ((kr (kd i)))) (rk_160 hR) (wa_36)) ?_
        refine rsr (jn_v) ?_
        refine rsr (if_pos (krI_p (k := 123) (rfl) (li_123) (by omega) (by decide +kernel))) ?_
        refine rsr (jv_e) ?_
        refine rsr (vC_e (rk_160 hR)) ?_
        refine rsr (cI_e (ar193_p (by omega) hS hR (wa_36) (wa_37) (wa_41) (li_1) (by omega))) ?_
        refine rsr (if_neg (eqI_n (rfl) (li_0) (by omega))) ?_
        refine rsr (vC_e (rk_160 hR)) ?_
        refine rsr (cI_e (ar200_6 (by omega) hS hR (wa_36) (wa_37) (wa_41) (wa_50) (by omega))) ?_
        refine rsr (if_pos (eqI_p (rfl) (li_0) (by omega))) ?_
        refine rsr (jv_e) ?_
        exact Rs.ok (Or.inr ⟨6, ((pl i)), (Fr.sI (by decide) f31), (Fr.sI (by decide) (Fr.sI (by decide) (Fr.sI (by decide) Fr.r))), ⟨i, sz30, s, uc30, (sI_nej (by decide)).trans (e31_k0), (sI_nej (by decide)).trans (e31_k1), (sI_nej (by decide)).trans (e31_k2), (sI_nej (by decide)).trans (e31_k3), (sI_nej (by decide)).trans (e31_sz30), sI_eq, (sI_nej (by decide)).trans (e31_uc30), by omega⟩, ⟨e, s, u, mu, ut, (sI_nej (by decide)).trans (sI_eq), sI_eq, (sI_nej (by decide)).trans ((sI_nej (by decide)).trans ((sI_nej (by decide)).trans (wa_43))), (sI_nej (by decide)).trans ((sI_nej (by decide)).trans ((sI_nej (by decide)).trans (wa_51))), (sI_nej (by decide)).trans ((sI_nej (by decide)).trans ((sI_nej (by decide)).trans (wa_53))), (sI_nej (by decide)).trans ((sI_nej (by decide)).trans ((sI_nej (by decide)).trans (h48))), (sI_nej (by decide)).trans ((sI_nej (by decide)).trans ((sI_nej (by decide)).trans (h49))), by omega⟩⟩)
      ·
        rcases hx32 with ⟨i32, k532, k632, e32, u32, uc32, G32, U32, X32, FL32, FR32, sc32, sr32, rw32, bd32, ⟨mv32_0, mv32_1, mv32_2, mv32_3, mv32_4, mv32_5⟩, ag32, au32, ax32, tp32, dp32, ku32, hl32⟩ | ⟨F32, P32, FL32, FR32, tc32, tr32⟩
        ·
          obtain ⟨bb32_0, bb32_1, bb32_2, bb32_3, bb32_4, bb32_5, bb32_6, bb32_7, bb32_8, bb32_9, bb32_10, bb32_11⟩ := bd32
          obtain ⟨q32_12, q32_13, q32_10, q32_9, q32_16, q32_19⟩ := sc32
          obtain ⟨w32_36, w32_37, w32_38, w32_41, w32_43, w32_51, w32_53, w32_50, w32_n⟩ := sr32
          obtain ⟨ca32, ra32, lc32, lr32, cu32, ru32⟩ := rw32
          have hk33 := (hS.ok (i32 + 1) (by omega) (by omega)).r
          have hk34 := (hS.ok i32 (by omega) (by omega)).r
          refine rs1 (vC_e (rk_160 (hR.fr FR32))) ?_
          have hm35 : i32 + 1 < m := hS.more i32 (by omega) (by omega) (by omega)
          refine Rc_V (nx_q (by omega) hS (hR.fr FR32) (hT.fr (W := W_rx) FR32 (by decide) (by decide)) (fun i a b => (Fr.lc (W := W_rx) FR32 _ (by decide) _).trans (hW i a b)) (i := i32) (i2 := (i32 + 1)) (w32_41) (w32_38) (by omega) (by omega) (by omega)) fun v Ma36 h36 => ?_
          obtain ⟨g36, e36_k0, e36_k1, e36_k2, p36_0⟩ := h36
          have f36 : Fr W_rx Mr Ma36 := Fr.t FR32 (Fr.m g36 (by decide))
          refine rs1 (cV_e rfl) ?_
          exact Rt.ok (Or.inl ⟨(i32 + 1), by omega, ⟨e32, u32, uc32, G32, U32, X32, FL32, f36, ⟨q32_12, q32_13, q32_10, q32_9, q32_16, q32_19⟩, ⟨e36_k0, e36_k1, e36_k2, (g36.i _ _ (by decide)).trans (w32_41), (g36.i _ _ (by decide)).trans (w32_43), (g36.i _ _ (by decide)).trans (w32_51), (g36.i _ _ (by decide)).trans (w32_53), (g36.i _ _ (by decide)).trans (w32_50), p36_0⟩, ⟨ca32, (ra32.fr g36 (by decide)), lc32, (lr32.fr g36 (by decide)), cu32, (ru32.fr g36 (by decide))⟩, ⟨by omega, by omega, by omega, by omega, by omega, by omega, by omega, by omega, by omega, by omega, by omega, by omega⟩, ⟨by omega, by omega, by omega, by omega, by omega, by omega⟩, ag32, au32, ax32, tp32, dp32, ku32, hl32⟩⟩)
        ·
          obtain ⟨ti32, tz32, tn32, tu32, t1332, t1032, t1132, t1232, t932, t1632, t1932, tb32⟩ := tc32
          obtain ⟨re32, rn32, ru32, rm32, rt32, u4132, u4232, u4332, u5132, u5332, u4832, u4932, ub32⟩ := tr32
          refine rs1 (vC_e (rk_160 (hR.fr FR32))) ?_
          refine Rc_V (x191_s (by omega) (hR.fr FR32) (u4132) (u4232) (u4332) (u5132) (u5332) (u4832) (u4932)  (by omega)) fun v Ma38 h38 => ?_
          obtain ⟨em37, g38, e38_em37, e38_k0, e38_k1, e38_k2, e38_k3, e38_k4, p38_0⟩ := h38
          have f38 : Fr W_rp Mr Ma38 := Fr.t FR32 (Fr.m g38 (by decide))
          refine rs1 (cV_e rfl) ?_
          exact Rt.ok (Or.inr ⟨F32, P32, FL32, f38, ⟨ti32, tz32, tn32, tu32, t1332, t1032, t1132, t1232, t932, t1632, t1932, by omega⟩, ⟨em37, rn32, ru32, rm32, rt32, e38_k0, e38_k1, e38_em37, e38_k2, e38_k3, e38_k4, (g38.i _ _ (by decide)).trans (u4932), by omega⟩⟩)
  ·
    by_cases c39 : ((kd i)) = 1
    ·
      refine rsl (cV_e (a69_1 (by omega) hS hC (hTk.fr (WL := W_cp) Fr.r (by decide)) (qa_12) (qa_13) (qa_10) (li_123) (hv0) (by omega))) ?_
      refine rsl (gtI_q (w := iI s) (ck_65 hC.sI.sI.sI) ((sI_nej (by decide)).trans ((sI_nej (by decide)).trans ((sI_nej (by decide)).trans (qa_16))))) ?_
      refine rsl (jn_v) ?_
      refine rsl (lp_e) ?_
      unfold c89_14
      refine rsl (if_neg (leI_n (li_3000) (li_0) (by omega))) ?_
      refine rsl (gtI_q (w := iI 2) (ck_65 hC.sI.sI.sI) (sI_eq)) ?_
      refine rsl (if_neg (eqI_n (rfl) (li_125) (by omega))) ?_
      refine rsl (gtI_q (w := iI 2) (ck_65 hC.sI.sI.sI) (sI_eq)) ?_
      refine rsl (if_pos (eqI_p (rfl) (li_2) (by omega))) ?_
      refine rsl (jv_e) ?_
      refine rsl (jn_v) ?_
      refine rsl (if_neg (eqI_n (hv0) (li_0) (by omega))) ?_
      refine rsl (jv_e) ?_
      refine rsl (vC_e (ck_65 hC.sI.sI.sI)) ?_
      refine RlV (y64 (by omega) hC.sI.sI.sI (hTk.fr (WL := W_cp) (Fr.sI (by decide) (Fr.sI (by decide) (Fr.sI (by decide) Fr.r))) (by decide)) ((sI_nej (by decide)).trans ((sI_nej (by decide)).trans ((sI_nej (by decide)).trans (qa_12)))) (sI_eq) ((sI_nej (by decide)).trans ((sI_nej (by decide)).trans (sI_eq))) ((sI_nej (by decide)).trans (sI_eq)) ((sI_nej (by decide)).trans ((sI_nej (by decide)).trans ((sI_nej (by decide)).trans (qa_9)))) ((sI_nej (by decide)).trans ((sI_nej (by decide)).trans ((sI_nej (by decide)).trans (qa_16)))) ((sI_nej (by decide)).trans ((sI_nej (by decide)).trans ((sI_nej (by decide)).trans (qa_19)))) (li_125) (by omega)) fun v Ma41 h41 => ?_
      obtain ⟨sz40, sn40, uc40, g41, e41_sz40, e41_sn40, e41_uc40, e41_k0, e41_k1, e41_k2, e41_k3, p41_0, p41_1, p41_2⟩ := h41
      have f41 : Fr W_cp Mc Ma41 := Fr.t (Fr.sI (by decide) (Fr.sI (by decide) (Fr.sI (by decide) Fr.r))) (Fr.m g41 (by decide))
      refine rsl (cV_e rfl) ?_
      refine rsl (ptI_q (z := s) (ck_65 (hC.fr f41)) (rfl)) ?_
      refine rsr (vC_e (rk_160 hR)) ?_
      refine Rs_cVr (P := fun _ Mc2 _ Mr2 => PBX (dp + 1) ut mu m kd pl E tx Mc Mr G U Hl X i e s u uc dp (2500 - 30 * dp - 30) Mc2 Mr2) ?_ (fun v Mx42 w Nx42 hx42 => ?_)
      ·
        obtain ⟨d2, rfl⟩ : ∃ e, d2 = e + 1 := ⟨d2 - 1, by omega⟩
        rw [r212]; unfold b212; rw [aR_e, aZ_e]; unfold c212
        refine rsr (gtI_q (w := iI 0) (rk_160 hR) (wa_41)) ?_
        refine rsr (jn_v) ?_
        refine rsr (if_pos (eqI_p (rfl) (li_0) (by omega))) ?_
        refine rsr (gtI_q (w := iI ((kr (kd i)))) (rk_160 hR) (wa_36)) ?_
        refine rsr (jn_v) ?_
        refine rsr (if_neg (krI_n (k := 123) (rfl) (li_123) (hS.ok i (by omega) (by omega)) (by unfold KdOK sgk; omega) (by decide +kernel) (by omega) (by omega))) ?_
        refine rsr (jv_e) ?_
        refine rsr (vC_e (rk_160 hR)) ?_
        refine rsr (cI_e (ar193_1 (by omega) hS hR (wa_36) (wa_37) (wa_41) (li_0) (by omega))) ?_
        refine rsr (if_pos (eqI_p (rfl) (li_0) (by omega))) ?_
        refine rsr (jv_e) ?_
        exact Rs.ok (Or.inr ⟨1, ((pl i)), (Fr.sI (by decide) f41), (Fr.sI (by decide) (Fr.sI (by decide) Fr.r)), ⟨i, sz40, s, uc40, (sI_nej (by decide)).trans (e41_k0), (sI_nej (by decide)).trans (e41_k1), (sI_nej (by decide)).trans (e41_k2), (sI_nej (by decide)).trans (e41_k3), (sI_nej (by decide)).trans (e41_sz40), sI_eq, (sI_nej (by decide)).trans (e41_uc40), by omega⟩, ⟨e, s, u, mu, ut, (sI_nej (by decide)).trans (sI_eq), sI_eq, (sI_nej (by decide)).trans ((sI_nej (by decide)).trans (wa_43)), (sI_nej (by decide)).trans ((sI_nej (by decide)).trans (wa_51)), (sI_nej (by decide)).trans ((sI_nej (by decide)).trans (wa_53)), (sI_nej (by decide)).trans ((sI_nej (by decide)).trans (h48)), (sI_nej (by decide)).trans ((sI_nej (by decide)).trans (h49)), by omega⟩⟩)
      ·
        rcases hx42 with ⟨i42, k542, k642, e42, u42, uc42, G42, U42, X42, FL42, FR42, sc42, sr42, rw42, bd42, ⟨mv42_0, mv42_1, mv42_2, mv42_3, mv42_4, mv42_5⟩, ag42, au42, ax42, tp42, dp42, ku42, hl42⟩ | ⟨F42, P42, FL42, FR42, tc42, tr42⟩
        ·
          obtain ⟨bb42_0, bb42_1, bb42_2, bb42_3, bb42_4, bb42_5, bb42_6, bb42_7, bb42_8, bb42_9, bb42_10, bb42_11⟩ := bd42
          obtain ⟨q42_12, q42_13, q42_10, q42_9, q42_16, q42_19⟩ := sc42
          obtain ⟨w42_36, w42_37, w42_38, w42_41, w42_43, w42_51, w42_53, w42_50, w42_n⟩ := sr42
          obtain ⟨ca42, ra42, lc42, lr42, cu42, ru42⟩ := rw42
          have hk43 := (hS.ok (i42 + 1) (by omega) (by omega)).r
          have hk44 := (hS.ok i42 (by omega) (by omega)).r
          refine rs1 (vC_e (rk_160 (hR.fr FR42))) ?_
          have hm45 : i42 + 1 < m := hS.more i42 (by omega) (by omega) (by omega)
          refine Rc_V (nx_q (by omega) hS (hR.fr FR42) (hT.fr (W := W_rx) FR42 (by decide) (by decide)) (fun i a b => (Fr.lc (W := W_rx) FR42 _ (by decide) _).trans (hW i a b)) (i := i42) (i2 := (i42 + 1)) (w42_41) (w42_38) (by omega) (by omega) (by omega)) fun v Ma46 h46 => ?_
          obtain ⟨g46, e46_k0, e46_k1, e46_k2, p46_0⟩ := h46
          have f46 : Fr W_rx Mr Ma46 := Fr.t FR42 (Fr.m g46 (by decide))
          refine rs1 (cV_e rfl) ?_
          exact Rt.ok (Or.inl ⟨(i42 + 1), by omega, ⟨e42, u42, uc42, G42, U42, X42, FL42, f46, ⟨q42_12, q42_13, q42_10, q42_9, q42_16, q42_19⟩, ⟨e46_k0, e46_k1, e46_k2, (g46.i _ _ (by decide)).trans (w42_41), (g46.i _ _ (by decide)).trans (w42_43), (g46.i _ _ (by decide)).trans (w42_51), (g46.i _ _ (by decide)).trans (w42_53), (g46.i _ _ (by decide)).trans (w42_50), p46_0⟩, ⟨ca42, (ra42.fr g46 (by decide)), lc42, (lr42.fr g46 (by decide)), cu42, (ru42.fr g46 (by decide))⟩, ⟨by omega, by omega, by omega, by omega, by omega, by omega, by omega, by omega, by omega, by omega, by omega, by omega⟩, ⟨by omega, by omega, by omega, by omega, by omega, by omega⟩, ag42, au42, ax42, tp42, dp42, ku42, hl42⟩⟩)
        ·
          obtain ⟨ti42, tz42, tn42, tu42, t1342, t1042, t1142, t1242, t942, t1642, t1942, tb42⟩ := tc42
          obtain ⟨re42, rn42, ru42, rm42, rt42, u4142, u4242, u4342, u5142, u5342, u4842, u4942, ub42⟩ := tr42
          refine rs1 (vC_e (rk_160 (hR.fr FR42))) ?_
          refine Rc_V (x191_s (by omega) (hR.fr FR42) (u4142) (u4242) (u4342) (u5142) (u5342) (u4842) (u4942)  (by omega)) fun v Ma48 h48 => ?_
          obtain ⟨em47, g48, e48_em47, e48_k0, e48_k1, e48_k2, e48_k3, e48_k4, p48_0⟩ := h48
          have f48 : Fr W_rp Mr Ma48 := Fr.t FR42 (Fr.m g48 (by decide))
          refine rs1 (cV_e rfl) ?_
          exact Rt.ok (Or.inr ⟨F42, P42, FL42, f48, ⟨ti42, tz42, tn42, tu42, t1342, t1042, t1142, t1242, t942, t1642, t1942, by omega⟩, ⟨em47, rn42, ru42, rm42, rt42, e48_k0, e48_k1, e48_em47, e48_k2, e48_k3, e48_k4, (g48.i _ _ (by decide)).trans (u4942), by omega⟩⟩)
    ·
      refine rsl (cV_e (a69_2 (by omega) hS hC (hTk.fr (WL := W_cp) Fr.r (by decide)) (qa_12) (qa_13) (qa_10) (li_123) (hv0) (by omega))) ?_
      refine rsl (gtI_q (w := iI s) (ck_65 hC.sI.sI.sI) ((sI_nej (by decide)).trans ((sI_nej (by decide)).trans ((sI_nej (by decide)).trans (qa_16))))) ?_
      refine rsl (jn_v) ?_
      refine rsl (lp_e) ?_
      unfold c89_14
      refine rsl (if_neg (leI_n (li_3000) (li_0) (by omega))) ?_
      refine rsl (gtI_q (w := iI 2) (ck_65 hC.sI.sI.sI) (sI_eq)) ?_
      refine rsl (if_neg (eqI_n (rfl) (li_125) (by omega))) ?_
      refine rsl (gtI_q (w := iI 2) (ck_65 hC.sI.sI.sI) (sI_eq)) ?_
      refine rsl (if_pos (eqI_p (rfl) (li_2) (by omega))) ?_
      refine rsl (jv_e) ?_
      refine rsl (jn_v) ?_
      refine rsl (if_neg (eqI_n (hv0) (li_0) (by omega))) ?_
      refine rsl (jv_e) ?_
      refine rsl (vC_e (ck_65 hC.sI.sI.sI)) ?_
      refine RlV (y64 (by omega) hC.sI.sI.sI (hTk.fr (WL := W_cp) (Fr.sI (by decide) (Fr.sI (by decide) (Fr.sI (by decide) Fr.r))) (by decide)) ((sI_nej (by decide)).trans ((sI_nej (by decide)).trans ((sI_nej (by decide)).trans (qa_12)))) (sI_eq) ((sI_nej (by decide)).trans ((sI_nej (by decide)).trans (sI_eq))) ((sI_nej (by decide)).trans (sI_eq)) ((sI_nej (by decide)).trans ((sI_nej (by decide)).trans ((sI_nej (by decide)).trans (qa_9)))) ((sI_nej (by decide)).trans ((sI_nej (by decide)).trans ((sI_nej (by decide)).trans (qa_16)))) ((sI_nej (by decide)).trans ((sI_nej (by decide)).trans ((sI_nej (by decide)).trans (qa_19)))) (li_125) (by omega)) fun v Ma50 h50 => ?_
      obtain ⟨sz49, sn49, uc49, g50, e50_sz49, e50_sn49, e50_uc49, e50_k0, e50_k1, e50_k2, e50_k3, p50_0, p50_1, p50_2⟩ := h50
      have f50 : Fr W_cp Mc Ma50 := Fr.t (Fr.sI (by decide) (Fr.sI (by decide) (Fr.sI (by decide) Fr.r))) (Fr.m g50 (by decide))
      refine rsl (cV_e rfl) ?_
      refine rsl (ptI_q (z := s) (ck_65 (hC.fr f50)) (rfl)) ?_
      refine rsr (vC_e (rk_160 hR)) ?_
      refine Rs_cVr (P := fun _ Mc2 _ Mr2 => PBX (dp + 1) ut mu m kd pl E tx Mc Mr G U Hl X i e s u uc dp (2500 - 30 * dp - 30) Mc2 Mr2) ?_ (fun v Mx51 w Nx51 hx51 => ?_)
      ·
        obtain ⟨d2, rfl⟩ : ∃ e, d2 = e + 1 := ⟨d2 - 1, by omega⟩
        rw [r212]; unfold b212; rw [aR_e, aZ_e]; unfold c212
        refine rsr (gtI_q (w := iI 0) (rk_160 hR) (wa_41)) ?_
        refine rsr (jn_v) ?_
        refine rsr (if_pos (eqI_p (rfl) (li_0) (by omega))) ?_
        refine rsr (gtI_q (w := iI ((kr (kd i)))) (rk_160 hR) (wa_36)) ?_
        refine rsr (jn_v) ?_
        refine rsr (if_neg (krI_n (k := 123) (rfl) (li_123) (hS.ok i (by omega) (by omega)) (by unfold KdOK sgk; omega) (by decide +kernel) (by omega) (by omega))) ?_
        refine rsr (jv_e) ?_
        refine rsr (vC_e (rk_160 hR)) ?_
        refine rsr (cI_e (ar193_2 (by omega) hS hR (wa_36) (wa_37) (wa_41) (li_0) (by omega))) ?_
        refine rsr (if_pos (eqI_p (rfl) (li_0) (by omega))) ?_
        refine rsr (jv_e) ?_
        exact Rs.ok (Or.inr ⟨2, ((pl i)), (Fr.sI (by decide) f50), (Fr.sI (by decide) (Fr.sI (by decide) Fr.r)), ⟨i, sz49, s, uc49, (sI_nej (by decide)).trans (e50_k0), (sI_nej (by decide)).trans (e50_k1), (sI_nej (by decide)).trans (e50_k2), (sI_nej (by decide)).trans (e50_k3), (sI_nej (by decide)).trans (e50_sz49), sI_eq, (sI_nej (by decide)).trans (e50_uc49), by omega⟩, ⟨e, s, u, mu, ut, (sI_nej (by decide)).trans (sI_eq), sI_eq, (sI_nej (by decide)).trans ((sI_nej (by decide)).trans (wa_43)), (sI_nej (by decide)).trans ((sI_nej (by decide)).trans (wa_51)), (sI_nej (by decide)).trans ((sI_nej (by decide)).trans (wa_53)), (sI_nej (by decide)).trans ((sI_nej (by decide)).trans (h48)), (sI_nej (by decide)).trans ((sI_nej (by decide)).trans (h49)), by omega⟩⟩)
      ·
        rcases hx51 with ⟨i51, k551, k651, e51, u51, uc51, G51, U51, X51, FL51, FR51, sc51, sr51, rw51, bd51, ⟨mv51_0, mv51_1, mv51_2, mv51_3, mv51_4, mv51_5⟩, ag51, au51, ax51, tp51, dp51, ku51, hl51⟩ | ⟨F51, P51, FL51, FR51, tc51, tr51⟩
        ·
          obtain ⟨bb51_0, bb51_1, bb51_2, bb51_3, bb51_4, bb51_5, bb51_6, bb51_7, bb51_8, bb51_9, bb51_10, bb51_11⟩ := bd51
          obtain ⟨q51_12, q51_13, q51_10, q51_9, q51_16, q51_19⟩ := sc51
          obtain ⟨w51_36, w51_37, w51_38, w51_41, w51_43, w51_51, w51_53, w51_50, w51_n⟩ := sr51
          obtain ⟨ca51, ra51, lc51, lr51, cu51, ru51⟩ := rw51
          have hk52 := (hS.ok (i51 + 1) (by omega) (by omega)).r
          have hk53 := (hS.ok i51 (by omega) (by omega)).r
          refine rs1 (vC_e (rk_160 (hR.fr FR51))) ?_
          have hm54 : i51 + 1 < m := hS.more i51 (by omega) (by omega) (by omega)
          refine Rc_V (nx_q (by omega) hS (hR.fr FR51) (hT.fr (W := W_rx) FR51 (by decide) (by decide)) (fun i a b => (Fr.lc (W := W_rx) FR51 _ (by decide) _).trans (hW i a b)) (i := i51) (i2 := (i51 + 1)) (w51_41) (w51_38) (by omega) (by omega) (by omega)) fun v Ma55 h55 => ?_
          obtain ⟨g55, e55_k0, e55_k1, e55_k2, p55_0⟩ := h55
          have f55 : Fr W_rx Mr Ma55 := Fr.t FR51 (Fr.m g55 (by decide))
          refine rs1 (cV_e rfl) ?_
          exact Rt.ok (Or.inl ⟨(i51 + 1), by omega, ⟨e51, u51, uc51, G51, U51, X51, FL51, f55, ⟨q51_12, q51_13, q51_10, q51_9, q51_16, q51_19⟩, ⟨e55_k0, e55_k1, e55_k2, (g55.i _ _ (by decide)).trans (w51_41), (g55.i _ _ (by decide)).trans (w51_43), (g55.i _ _ (by decide)).trans (w51_51), (g55.i _ _ (by decide)).trans (w51_53), (g55.i _ _ (by decide)).trans (w51_50), p55_0⟩, ⟨ca51, (ra51.fr g55 (by decide)), lc51, (lr51.fr g55 (by decide)), cu51, (ru51.fr g55 (by decide))⟩, ⟨by omega, by omega, by omega, by omega, by omega, by omega, by omega, by omega, by omega, by omega, by omega, by omega⟩, ⟨by omega, by omega, by omega, by omega, by omega, by omega⟩, ag51, au51, ax51, tp51, dp51, ku51, hl51⟩⟩)
        ·
          obtain ⟨ti51, tz51, tn51, tu51, t1351, t1051, t1151, t1251, t951, t1651, t1951, tb51⟩ := tc51
          obtain ⟨re51, rn51, ru51, rm51, rt51, u4151, u4251, u4351, u5151, u5351, u4851, u4951, ub51⟩ := tr51
          refine rs1 (vC_e (rk_160 (hR.fr FR51))) ?_
          refine Rc_V (x191_s (by omega) (hR.fr FR51) (u4151) (u4251) (u4351) (u5151) (u5351) (u4851) (u4951)  (by omega)) fun v Ma57 h57 => ?_
          obtain ⟨em56, g57, e57_em56, e57_k0, e57_k1, e57_k2, e57_k3, e57_k4, p57_0⟩ := h57
          have f57 : Fr W_rp Mr Ma57 := Fr.t FR51 (Fr.m g57 (by decide))
          refine rs1 (cV_e rfl) ?_
          exact Rt.ok (Or.inr ⟨F51, P51, FL51, f57, ⟨ti51, tz51, tn51, tu51, t1351, t1051, t1151, t1251, t951, t1651, t1951, by omega⟩, ⟨em56, rn51, ru51, rm51, rt51, e57_k0, e57_k1, e57_em56, e57_k2, e57_k3, e57_k4, (g57.i _ _ (by decide)).trans (u4951), by omega⟩⟩)
