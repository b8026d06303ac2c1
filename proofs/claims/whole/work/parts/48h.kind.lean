theorem p_b {D : Nat} {dp : Int} (hD : 20 ≤ D) (hp1 : 1 ≤ dp) (hT : dp < 20 → PairS D (dp + 1)) : PairB (D + 10) dp := by
  intro d d2 hd hd2 T n m kd pl E tx ua ut mu Mc Mr G U Hl X i e s u uc v0 hS hx hsc hsr hrw hbd hv0
  obtain ⟨d, rfl⟩ : ∃ e, d = e + 1 := ⟨d - 1, by omega⟩
  obtain ⟨d2, rfl⟩ : ∃ e, d2 = e + 1 := ⟨d2 - 1, by omega⟩
  rw [r89]; unfold b89; rw [aR_e, aI_e, aZ_e]; unfold c89; rw [r213]; unfold b213; rw [aR_e, aZ_e]; unfold c213
  have hCx := hx
  obtain ⟨hC, hR, hTk, hT, hW, ⟨hu1, hu2, hu3, hu4⟩, h49, h48, ⟨hb1, hb2, hb3, hb4⟩⟩ := hx
  obtain ⟨bb_0, bb_1, bb_2, bb_3, bb_4, bb_5, bb_6, bb_7, bb_8, bb_9, bb_10, bb_11⟩ := hbd
  have kua : KU uc Mc Mc := KU.r
  obtain ⟨qa_12, qa_13, qa_10, qa_9, qa_16, qa_19⟩ := hsc
  obtain ⟨wa_36, wa_37, wa_38, wa_41, wa_43, wa_51, wa_53, wa_50, wa_n⟩ := hsr
  obtain ⟨caa, raa, lca, lra, cua, rua⟩ := hrw
  have hk1 := (hS.ok i (by omega) (by omega)).r
  have ty2 := (Tye.r (G := G) (a := e) (s := s))
  have du3 := (DU.r (ut := ut) (mu := mu) (c := uc) (G := G) (U := U) (X := X) (a := e) (u := u))
  have tb4 := (Tyb.r (dp := dp + 1) (G := G) (a := e) (s := s))
  refine rsl (vC_e (ck_65 hC)) ?_
  by_cases c5 : ((kd i)) = 123
  ·
    by_cases c6 : dp < 20
    ·
      have hm7 : i + 1 < m := hS.more i (by omega) (by omega) (by omega)
      refine rsl (cV_e (a69q (by omega) hS hC (hTk.fr (WL := W_cp) Fr.r (by decide)) (qa_12) (qa_13) (qa_10) (li_123) (hv0) (i2 := (i + 1)) (by omega) (by omega))) ?_
      have hk8 := (hS.ok (i + 1) (by omega) (by omega)).r
      refine rsl (gtI_q (w := iI s) (ck_65 hC.sI.sI) ((sI_nej (by decide)).trans ((sI_nej (by decide)).trans (qa_16)))) ?_
      refine rsl (jn_v) ?_
      refine rsr (vC_e (rk_160 hR)) ?_
      refine Rs_cVr (P := fun _ Mc2 _ Mr2 => PBX (dp + 1) ut mu m kd pl E tx Mc Mr G U Hl X i e s u uc dp (2500 - 30 * dp - 30) Mc2 Mr2) ?_ (fun v Mx9 w Nx9 hx9 => ?_)
      ·
        obtain ⟨d2, rfl⟩ : ∃ e, d2 = e + 1 := ⟨d2 - 1, by omega⟩
        rw [r212]; unfold b212; rw [aR_e, aZ_e]; unfold c212
        refine rsr (gtI_q (w := iI 0) (rk_160 hR) (wa_41)) ?_
        refine rsr (jn_v) ?_
        refine rsr (if_pos (eqI_p (rfl) (li_0) (by omega))) ?_
        refine rsr (gtI_q (w := iI ((kr (kd i)))) (rk_160 hR) (wa_36)) ?_
        refine rsr (jn_v) ?_
        refine rsr (if_pos (krI_p (k := 123) (rfl) (li_123) (by omega) (by decide +kernel))) ?_
        refine rsr (jv_e) ?_
        refine rsr (vC_e (rk_160 hR)) ?_
        refine rsr (cI_e (ar193_p (by omega) hS hR (wa_36) (wa_37) (wa_41) (li_1) (by omega))) ?_
        refine rsr (if_neg (eqI_n (rfl) (li_0) (by omega))) ?_
        refine rsr (vC_e (rk_160 hR)) ?_
        refine rsr (cI_e (ar200_p (by omega) hS hR (wa_36) (wa_37) (wa_41) (wa_50) (by omega))) ?_
        refine rsr (if_neg (eqI_n (rfl) (li_0) (by omega))) ?_
        refine rsr (gtI_q (w := iI s) (rk_160 hR.sI) ((sI_nej (by decide)).trans (wa_51))) ?_
        refine rsr (vC_e (rk_160 hR.sI)) ?_
        refine RrV (nx_ok (by omega) hS hR.sI (hT.fr (W := W_rx) (Fr.sI (by decide) Fr.r) (by decide) (by decide)) (fun i a b => (Fr.lc (W := W_rx) (Fr.sI (by decide) Fr.r) _ (by decide) _).trans (hW i a b)) (i := i) ((sI_nej (by decide)).trans (wa_41)) ((sI_nej (by decide)).trans (wa_38)) (by omega) (by omega)) fun v Ma11 h11 => ?_
        obtain ⟨g11, e11_k0, e11_k1, e11_k2, p11_0⟩ := h11
        have f11 : Fr W_rx Mr Ma11 := Fr.t (Fr.sI (by decide) Fr.r) (Fr.m g11 (by decide))
        refine rsr (cV_e rfl) ?_
        refine rsr (jn_v) ?_
        refine Rb_lp (fun m2 q t => (∃ (k i2 s2 : Int) (H2 : Int → Int64), q.1 = iI k ∧ (0 ≤ k ∧ k ≤ i2) ∧ PS (dp + 1) ut mu m kd pl E tx Mc Mr G U Hl X i e s u uc (dp + 1) q.2 t i2 i2 s2 H2 ∧ (m2 : Int) = m - i2 + 1) ∨ ∃ (k F P : Int), q.1 = iI k ∧ (0 ≤ k ∧ k ≤ 1500) ∧ Fr W_cp Mc q.2 ∧ Fr W_rp Mr t ∧ FTc m F P q.2 ∧ FTr (2500 - 30 * dp - 30) F P t ∧ m2 = 0) (fun m2 q t gl gr hq hgo => ?_) (m - i).toNat _ _ _ _ (by omega) (by omega) (Or.inl ⟨0, (i + 1), s, Hl, li_0, by omega, ⟨e, u, uc, G, U, X, (Fr.sI (by decide) (Fr.sI (by decide) Fr.r)), f11, ⟨(sI_nej (by decide)).trans (sI_eq), sI_eq, (sI_nej (by decide)).trans ((sI_nej (by decide)).trans (qa_10)), (sI_nej (by decide)).trans ((sI_nej (by decide)).trans (qa_9)), (sI_nej (by decide)).trans ((sI_nej (by decide)).trans (qa_16)), (sI_nej (by decide)).trans ((sI_nej (by decide)).trans (qa_19))⟩, ⟨e11_k0, e11_k1, e11_k2, (g11.i _ _ (by decide)).trans ((sI_nej (by decide)).trans (wa_41)), (g11.i _ _ (by decide)).trans ((sI_nej (by decide)).trans (wa_43)), (g11.i _ _ (by decide)).trans ((sI_nej (by decide)).trans (wa_51)), (g11.i _ _ (by decide)).trans ((sI_nej (by decide)).trans (wa_53)), (g11.i _ _ (by decide)).trans (sI_eq), p11_0⟩, ⟨(caa.fr (W := W_c0) (Fr.sI (by decide) (Fr.sI (by decide) Fr.r)) (by decide)), ((raa.fr (W := W_r0) (Fr.sI (by decide) Fr.r) (by decide)).fr g11 (by decide)), (lca.fr (W := W_c0) (Fr.sI (by decide) (Fr.sI (by decide) Fr.r)) (by decide)), ((lra.fr (W := W_r0) (Fr.sI (by decide) Fr.r) (by decide)).fr g11 (by decide)), (cua.fr (W := W_c0) (Fr.sI (by decide) (Fr.sI (by decide) Fr.r)) (by decide)), ((rua.fr (W := W_r0) (Fr.sI (by decide) Fr.r) (by decide)).fr g11 (by decide))⟩, ⟨by omega, by omega, by omega, by omega, by omega, by omega, by omega, by omega, by omega, by omega, by omega, by omega⟩, ⟨by omega, by omega, by omega, by omega, by omega, by omega⟩, Ag.r, Ag.r, AgL.r, tb4, du3, (kua.fr (W := W_c0) (Fr.sI (by decide) (Fr.sI (by decide) Fr.r)) (by decide)), HlR⟩, by omega⟩)
        obtain ⟨qk12, qm12⟩ := q
        dsimp only at hq
        try dsimp only
        rcases hq with hq | hq
        ·
          obtain ⟨k12, i12, s12, H12, hk12, ⟨hka12, hkb12⟩, ⟨e12, u12, uc12, G12, U12, X12, FL12, FR12, sc12, sr12, rw12, bd12, ⟨mv12_0, mv12_1, mv12_2, mv12_3, mv12_4, mv12_5⟩, ag12, au12, ax12, tp12, dp12, ku12, ⟨sl12, sh12⟩⟩, hm12⟩ := hq
          obtain ⟨bb12_0, bb12_1, bb12_2, bb12_3, bb12_4, bb12_5, bb12_6, bb12_7, bb12_8, bb12_9, bb12_10, bb12_11⟩ := bd12
          obtain ⟨q12_12, q12_13, q12_10, q12_9, q12_16, q12_19⟩ := sc12
          obtain ⟨w12_36, w12_37, w12_38, w12_41, w12_43, w12_51, w12_53, w12_50, w12_n⟩ := sr12
          obtain ⟨ca12, ra12, lc12, lr12, cu12, ru12⟩ := rw12
          have hk13 := (hS.ok i12 (by omega) (by omega)).r
          unfold c89_14 c212_45
          refine rsl (if_neg (leI_n (li_3000) (hk12) (by omega))) ?_
          refine rsl (gtI_q (w := iI ((kd i12))) (ck_65 (hC.fr FL12)) (q12_13)) ?_
          by_cases c14 : ((kd i12)) = 125
          · refine rsl (if_pos (eqI_p (rfl) (li_125) (by omega))) ?_
            refine rsl (jv_e) ?_
            refine rsl (jn_v) ?_
            refine rsl (if_neg (eqI_n (hv0) (li_0) (by omega))) ?_
            refine rsl (jv_e) ?_
            refine rsl (vC_e (ck_65 (hC.fr FL12))) ?_
            have hm15 : i12 + 1 < m := hS.more i12 (by omega) (by omega) (by omega)
            refine rsl (cV_e (a64q (by omega) hS (hC.fr FL12) (hTk.fr (WL := W_cp) FL12 (by decide)) (q12_12) (q12_13) (q12_10) (li_125) (i2 := (i12 + 1)) (by omega) (by omega))) ?_
            have hk16 := (hS.ok (i12 + 1) (by omega) (by omega)).r
            refine rsl (ptI_q (z := s) (ck_65 (hC.fr FL12).sI.sI) (rfl)) ?_
            refine rsr (gtI_q (w := iI 0) (rk_160 (hR.fr FR12)) (w12_41)) ?_
            refine rsr (if_pos (eqI_p (rfl) (li_0) (by omega))) ?_
            refine rsr (gtI_q (w := iI ((kr (kd i12)))) (rk_160 (hR.fr FR12)) (w12_36)) ?_
            refine rsr (if_pos (krI_p (k := 125) (rfl) (li_125) (by omega) (by decide +kernel))) ?_
            refine rsr (jv_e) ?_
            refine rsr (gtI_q (w := iI (dp + 1)) (rk_160 (hR.fr FR12)) (w12_50)) ?_
            refine rsr (ptI_q (z := dp) (rk_160 (hR.fr FR12)) (cvI (sbI (rfl) (li_1)) (by omega))) ?_
            refine rsr (ptI_q (z := s) (rk_160 (hR.fr FR12).sI) (rfl)) ?_
            exact Rs.ok (Or.inl ⟨i12, by omega, ⟨e12, u12, uc12, G12, U12, X12, (Fr.sI (by decide) (Fr.sI (by decide) (Fr.sI (by decide) FL12))), (Fr.sI (by decide) (Fr.sI (by decide) FR12)), ⟨(sI_nej (by decide)).trans ((sI_nej (by decide)).trans (sI_eq)), (sI_nej (by decide)).trans (sI_eq), (sI_nej (by decide)).trans ((sI_nej (by decide)).trans ((sI_nej (by decide)).trans (q12_10))), (sI_nej (by decide)).trans ((sI_nej (by decide)).trans ((sI_nej (by decide)).trans (q12_9))), sI_eq, (sI_nej (by decide)).trans ((sI_nej (by decide)).trans ((sI_nej (by decide)).trans (q12_19)))⟩, ⟨(sI_nej (by decide)).trans ((sI_nej (by decide)).trans (w12_36)), (sI_nej (by decide)).trans ((sI_nej (by decide)).trans (w12_37)), (sI_nej (by decide)).trans ((sI_nej (by decide)).trans (w12_38)), (sI_nej (by decide)).trans ((sI_nej (by decide)).trans (w12_41)), (sI_nej (by decide)).trans ((sI_nej (by decide)).trans (w12_43)), sI_eq, (sI_nej (by decide)).trans ((sI_nej (by decide)).trans (w12_53)), (sI_nej (by decide)).trans (sI_eq), (w12_n.fr (W := W_r0) (Fr.sI (by decide) (Fr.sI (by decide) Fr.r)) (by decide) (by decide))⟩, ⟨(ca12.fr (W := W_c0) (Fr.sI (by decide) (Fr.sI (by decide) (Fr.sI (by decide) Fr.r))) (by decide)), (ra12.fr (W := W_r0) (Fr.sI (by decide) (Fr.sI (by decide) Fr.r)) (by decide)), ((LA.bk lc12 (by omega) sh12).fr (W := W_c0) (Fr.sI (by decide) (Fr.sI (by decide) (Fr.sI (by decide) Fr.r))) (by decide)), ((LA.bk lr12 (by omega) sh12).fr (W := W_r0) (Fr.sI (by decide) (Fr.sI (by decide) Fr.r)) (by decide)), (cu12.fr (W := W_c0) (Fr.sI (by decide) (Fr.sI (by decide) (Fr.sI (by decide) Fr.r))) (by decide)), (ru12.fr (W := W_r0) (Fr.sI (by decide) (Fr.sI (by decide) Fr.r)) (by decide))⟩, ⟨by omega, by omega, by omega, by omega, by omega, by omega, by omega, by omega, by omega, by omega, by omega, by omega⟩, ⟨by omega, by omega, by omega, by omega, by omega, by omega⟩, ag12, au12, ax12, (Tyb.lo tp12 (by omega) (Int.le_refl _)), dp12, (ku12.fr (W := W_c0) (Fr.sI (by decide) (Fr.sI (by decide) (Fr.sI (by decide) Fr.r))) (by decide)), HlR⟩⟩)
          · refine rsl (if_neg (eqI_n (rfl) (li_125) (by omega))) ?_
            refine rsl (gtI_q (w := iI ((kd i12))) (ck_65 (hC.fr FL12)) (q12_13)) ?_
            refine rsl (if_neg (eqI_n (rfl) (li_2) (by omega))) ?_
            refine rsl (vC_e (ck_65 (hC.fr FL12))) ?_
            refine rsr (gtI_q (w := iI 0) (rk_160 (hR.fr FR12)) (w12_41)) ?_
            refine rsr (if_pos (eqI_p (rfl) (li_0) (by omega))) ?_
            refine rsr (gtI_q (w := iI ((kr (kd i12)))) (rk_160 (hR.fr FR12)) (w12_36)) ?_
            refine rsr (if_neg (krI_n (k := 125) (rfl) (li_125) (hS.ok i12 (by omega) (by omega)) (by unfold KdOK sgk; omega) (by decide +kernel) (by omega) (by omega))) ?_
            refine rsr (vC_e (rk_160 (hR.fr FR12))) ?_
            refine Rb_VV ((hT (by omega)) _ _ (by omega) (by omega) T n m kd pl E tx ua ut mu _ _ G12 U12 H12 X12 i12 e12 s12 u12 uc12 _ hS (hCx.fr FL12 FR12) ⟨q12_12, q12_13, q12_10, q12_9, q12_16, q12_19⟩ ⟨w12_36, w12_37, w12_38, w12_41, w12_43, w12_51, w12_53, w12_50, w12_n⟩ ⟨ca12, ra12, lc12, lr12, cu12, ru12⟩ ⟨by omega, by omega, by omega, by omega, by omega, by omega, by omega, by omega, by omega, by omega, by omega, by omega⟩ (adI (hv0) (li_1))) fun v Mx17 w Nx17 hx17 => ?_
            rcases hx17 with ⟨i17, s17, H17, e17, u17, uc17, G17, U17, X17, fl17, fr17, sc17, sr17, rw17, bd17, mv17, ag17, au17, ax17, tp17, dp17, kv17, ⟨sl17, sh17⟩⟩ | ⟨F17, P17, fl17, fr17, tc17, tr17⟩
            ·
              have FL17 : Fr W_cp Mc Mx17 := Fr.t FL12 fl17
              have FR17 : Fr W_rx Mr Nx17 := Fr.t FR12 fr17
              obtain ⟨bb17_0, bb17_1, bb17_2, bb17_3, bb17_4, bb17_5, bb17_6, bb17_7, bb17_8, bb17_9, bb17_10, bb17_11⟩ := bd17
              obtain ⟨q17_12, q17_13, q17_10, q17_9, q17_16, q17_19⟩ := sc17
              obtain ⟨w17_36, w17_37, w17_38, w17_41, w17_43, w17_51, w17_53, w17_50, w17_n⟩ := sr17
              obtain ⟨ca17, ra17, lc17, lr17, cu17, ru17⟩ := rw17
              have hk18 := (hS.ok i17 (by omega) (by omega)).r
              have ku17 := KU.t ku12 kv17 (by omega)
              have du19 := DU.t dp12 ag17 au17 ax17 dp17 (by omega)
              have tb20 := Tyb.t tp12 ag17 tp17
              have hl21 := HlT ⟨sl12, sh12⟩ sl17 sh17
              refine rsl (cV_e rfl) ?_
              refine rsr (cV_e rfl) ?_
              refine rsl (ltI_q (z := (k12 + 1)) (adI (hk12) (li_1))) ?_
              exact hgo (m - i17 + 1).toNat _ _ (by omega) (Or.inl ⟨(k12 + 1), i17, s17, H17, rfl, by omega, ⟨e17, u17, uc17, G17, U17, X17, FL17, FR17, ⟨q17_12, q17_13, q17_10, q17_9, q17_16, q17_19⟩, ⟨w17_36, w17_37, w17_38, w17_41, w17_43, w17_51, w17_53, w17_50, w17_n⟩, ⟨ca17, ra17, lc17, lr17, cu17, ru17⟩, ⟨by omega, by omega, by omega, by omega, by omega, by omega, by omega, by omega, by omega, by omega, by omega, by omega⟩, ⟨by omega, by omega, by omega, by omega, by omega, by omega⟩, (Ag.t ag12 ag17 (by omega)), (Ag.t au12 au17 (by omega)), (AgL.t ax12 ax17 (by omega)), tb20, du19, ku17, hl21⟩, by omega⟩)
            ·
              have FL17 : Fr W_cp Mc Mx17 := Fr.t FL12 fl17
              have FR17 : Fr W_rp Mr Nx17 := Fr.t (Fr.m FR12 W_rx_p) fr17
              obtain ⟨ti17, tz17, tn17, tu17, t1317, t1017, t1117, t1217, t917, t1617, t1917, tb17⟩ := tc17
              obtain ⟨re17, rn17, ru17, rm17, rt17, u4117, u4217, u4317, u5117, u5317, u4817, u4917, ub17⟩ := tr17
              refine rsl (cV_e rfl) ?_
              refine rsr (cV_e rfl) ?_
              refine rsl (ltI_q (z := (k12 + 1)) (adI (hk12) (li_1))) ?_
              exact hgo 0 _ _ (by omega) (Or.inr ⟨(k12 + 1), F17, P17, rfl, by omega, FL17, FR17, ⟨ti17, tz17, tn17, tu17, t1317, t1017, t1117, t1217, t917, t1617, t1917, by omega⟩, ⟨re17, rn17, ru17, rm17, rt17, u4117, u4217, u4317, u5117, u5317, u4817, u4917, by omega⟩, rfl⟩)
        ·
          obtain ⟨k12, F12, P12, hk12, ⟨hka12, hkb12⟩, FL12, FR12, tc12, tr12, hm12⟩ := hq
          obtain ⟨ti12, tz12, tn12, tu12, t1312, t1012, t1112, t1212, t912, t1612, t1912, tb12⟩ := tc12
          obtain ⟨re12, rn12, ru12, rm12, rt12, u4112, u4212, u4312, u5112, u5312, u4812, u4912, ub12⟩ := tr12
          unfold c89_14 c212_45
          refine rsl (if_neg (leI_n (li_3000) (hk12) (by omega))) ?_
          refine rsl (gtI_q (w := iI 2) (ck_65 (hC.fr FL12)) (t1312)) ?_
          refine rsl (if_neg (eqI_n (rfl) (li_125) (by omega))) ?_
          refine rsl (gtI_q (w := iI 2) (ck_65 (hC.fr FL12)) (t1312)) ?_
          refine rsl (if_pos (eqI_p (rfl) (li_2) (by omega))) ?_
          refine rsl (jv_e) ?_
          refine rsl (jn_v) ?_
          refine rsl (if_neg (eqI_n (hv0) (li_0) (by omega))) ?_
          refine rsl (jv_e) ?_
          refine rsl (vC_e (ck_65 (hC.fr FL12))) ?_
          refine RlV (y64 (by omega) (hC.fr FL12) (hTk.fr (WL := W_cp) FL12 (by decide)) (t1212) (t1312) (t1012) (t1112) (t912) (t1612) (t1912) (li_125) (by omega)) fun v Ma23 h23 => ?_
          obtain ⟨sz22, sn22, uc22, g23, e23_sz22, e23_sn22, e23_uc22, e23_k0, e23_k1, e23_k2, e23_k3, p23_0, p23_1, p23_2⟩ := h23
          have f23 : Fr W_cp Mc Ma23 := Fr.t FL12 (Fr.m g23 (by decide))
          refine rsl (cV_e rfl) ?_
          refine rsl (ptI_q (z := s) (ck_65 (hC.fr f23)) (rfl)) ?_
          refine rsr (gtI_q (w := iI F12) (rk_160 (hR.fr FR12)) (u4112)) ?_
          refine rsr (if_neg (eqI_n (rfl) (li_0) (by omega))) ?_
          refine rsr (jv_e) ?_
          have b24 := V_r (M := t) (a := 160) (j := 50)
          refine rsr (gtI_q (w := iI ((V t 160 50))) (rk_160 (hR.fr FR12)) (eV)) ?_
          refine rsr (ptI_q (z := ((V t 160 50) - 1)) (rk_160 (hR.fr FR12)) (cvI (sbI (rfl) (li_1)) (by omega))) ?_
          refine rsr (ptI_q (z := s) (rk_160 (hR.fr FR12).sI) (rfl)) ?_
          exact Rs.ok (Or.inr ⟨F12, P12, (Fr.sI (by decide) f23), (Fr.sI (by decide) (Fr.sI (by decide) FR12)), ⟨ti12, sz22, s, uc22, (sI_nej (by decide)).trans (e23_k0), (sI_nej (by decide)).trans (e23_k1), (sI_nej (by decide)).trans (e23_k2), (sI_nej (by decide)).trans (e23_k3), (sI_nej (by decide)).trans (e23_sz22), sI_eq, (sI_nej (by decide)).trans (e23_uc22), by omega⟩, ⟨re12, s, ru12, rm12, rt12, (sI_nej (by decide)).trans ((sI_nej (by decide)).trans (u4112)), (sI_nej (by decide)).trans ((sI_nej (by decide)).trans (u4212)), (sI_nej (by decide)).trans ((sI_nej (by decide)).trans (u4312)), sI_eq, (sI_nej (by decide)).trans ((sI_nej (by decide)).trans (u5312)), (sI_nej (by decide)).trans ((sI_nej (by decide)).trans (u4812)), (sI_nej (by decide)).trans ((sI_nej (by decide)).trans (u4912)), by omega⟩⟩)
      ·
        rcases hx9 with ⟨i9, k59, e9, u9, uc9, G9, U9, X9, FL9, FR9, sc9, sr9, rw9, bd9, ⟨mv9_0, mv9_1, mv9_2, mv9_3, mv9_4, mv9_5⟩, ag9, au9, ax9, tp9, dp9, ku9, hl9⟩ | ⟨F9, P9, FL9, FR9, tc9, tr9⟩
        ·
          obtain ⟨bb9_0, bb9_1, bb9_2, bb9_3, bb9_4, bb9_5, bb9_6, bb9_7, bb9_8, bb9_9, bb9_10, bb9_11⟩ := bd9
          obtain ⟨q9_12, q9_13, q9_10, q9_9, q9_16, q9_19⟩ := sc9
          obtain ⟨w9_36, w9_37, w9_38, w9_41, w9_43, w9_51, w9_53, w9_50, w9_n⟩ := sr9
          obtain ⟨ca9, ra9, lc9, lr9, cu9, ru9⟩ := rw9
          have hk25 := (hS.ok (i9 + 1) (by omega) (by omega)).r
          have hk26 := (hS.ok i9 (by omega) (by omega)).r
          refine rs1 (vC_e (rk_160 (hR.fr FR9))) ?_
          have hm27 : i9 + 1 < m := hS.more i9 (by omega) (by omega) (by omega)
          refine Rc_V (nx_ok (by omega) hS (hR.fr FR9) (hT.fr (W := W_rx) FR9 (by decide) (by decide)) (fun i a b => (Fr.lc (W := W_rx) FR9 _ (by decide) _).trans (hW i a b)) (i := i9) (w9_41) (w9_38) (by omega) (by omega)) fun v Ma29 h29 => ?_
          obtain ⟨g29, e29_k0, e29_k1, e29_k2, p29_0⟩ := h29
          have f29 : Fr W_rx Mr Ma29 := Fr.t FR9 (Fr.m g29 (by decide))
          refine rs1 (cV_e rfl) ?_
          exact Rt.ok (Or.inl ⟨(i9 + 1), ⟨e9, u9, uc9, G9, U9, X9, FL9, f29, ⟨q9_12, q9_13, q9_10, q9_9, q9_16, q9_19⟩, ⟨e29_k0, e29_k1, e29_k2, (g29.i _ _ (by decide)).trans (w9_41), (g29.i _ _ (by decide)).trans (w9_43), (g29.i _ _ (by decide)).trans (w9_51), (g29.i _ _ (by decide)).trans (w9_53), (g29.i _ _ (by decide)).trans (w9_50), p29_0⟩, ⟨ca9, (ra9.fr g29 (by decide)), lc9, (lr9.fr g29 (by decide)), cu9, (ru9.fr g29 (by decide))⟩, ⟨by omega, by omega, by omega, by omega, by omega, by omega, by omega, by omega, by omega, by omega, by omega, by omega⟩, ⟨by omega, by omega, by omega, by omega, by omega, by omega⟩, ag9, au9, ax9, tp9, dp9, ku9, hl9⟩⟩)
        ·
          obtain ⟨ti9, tz9, tn9, tu9, t139, t109, t119, t129, t99, t169, t199, tb9⟩ := tc9
          obtain ⟨re9, rn9, ru9, rm9, rt9, u419, u429, u439, u519, u539, u489, u499, ub9⟩ := tr9
          refine rs1 (vC_e (rk_160 (hR.fr FR9))) ?_
          refine Rc_V (x191_s (by omega) (hR.fr FR9) (u419) (u429) (u439) (u519) (u539) (u489) (u499)  (by omega)) fun v Ma31 h31 => ?_
          obtain ⟨em30, g31, e31_em30, e31_k0, e31_k1, e31_k2, e31_k3, e31_k4, p31_0⟩ := h31
          have f31 : Fr W_rp Mr Ma31 := Fr.t FR9 (Fr.m g31 (by decide))
          refine rs1 (cV_e rfl) ?_
          exact Rt.ok (Or.inr ⟨F9, P9, FL9, f31, ⟨ti9, tz9, tn9, tu9, t139, t109, t119, t129, t99, t169, t199, by omega⟩, ⟨em30, rn9, ru9, rm9, rt9, e31_k0, e31_k1, e31_em30, e31_k2, e31_k3, e31_k4, (g31.i _ _ (by decide)).trans (u499), by omega⟩⟩)
    ·
      refine rsl (cV_e (a69_6 (by omega) hS hC (hTk.fr (WL := W_cp) Fr.r (by decide)) (qa_12) (qa_13) (qa_10) (li_123) (hv0) (by omega))) ?_
      refine rsl (gtI_q (w := iI s) (ck_65 hC.sI.sI.sI) ((sI_nej (by decide)).trans ((sI_nej (by decide)).trans ((sI_nej (by decide)).trans (qa_16))))) ?_
      refine rsl (jn_v) ?_
      refine rsl (lp_e) ?_
      unfold c89_14
      refine rsl (if_neg (leI_n (li_3000) (li_0) (by omega))) ?_
      refine rsl (gtI_q (w := iI 2) (ck_65 hC.sI.sI.sI) (sI_eq)) ?_
      refine rsl (if_neg (eqI_n (rfl) (li_125) (by omega))) ?_
      refine rsl (gtI_q (w := iI 2) (ck_65 hC.sI.sI.sI) (sI_eq)) ?_
      refine rsl (if_pos (eqI_p (rfl) (li_2) (by omega))) ?_
      refine rsl (jv_e) ?_
      refine rsl (jn_v) ?_
      refine rsl (if_neg (eqI_n (hv0) (li_0) (by omega))) ?_
      refine rsl (jv_e) ?_
      refine rsl (vC_e (ck_65 hC.sI.sI.sI)) ?_
      refine RlV (y64 (by omega) hC.sI.sI.sI (hTk.fr (WL := W_cp) (Fr.sI (by decide) (Fr.sI (by decide) (Fr.sI (by decide) Fr.r))) (by decide)) ((sI_nej (by decide)).trans ((sI_nej (by decide)).trans ((sI_nej (by decide)).trans (qa_12)))) (sI_eq) ((sI_nej (by decide)).trans ((sI_nej (by decide)).trans (sI_eq))) ((sI_nej (by decide)).trans (sI_eq)) ((sI_nej (by decide)).trans ((sI_nej (by decide)).trans ((sI_nej (by decide)).trans (qa_9)))) ((sI_nej (by decide)).trans ((sI_nej (by decide)).trans ((sI_nej (by decide)).trans (qa_16)))) ((sI_nej (by decide)).trans ((sI_nej (by decide)).trans ((sI_nej (by decide)).trans (qa_19)))) (li_125) (by omega)) fun v Ma33 h33 => ?_
      obtain ⟨sz32, sn32, uc32, g33, e33_sz32, e33_sn32, e33_uc32, e33_k0, e33_k1, e33_k2, e33_k3, p33_0, p33_1, p33_2⟩ := h33
      have f33 : Fr W_cp Mc Ma33 := Fr.t (Fr.sI (by decide) (Fr.sI (by decide) (Fr.sI (by decide) Fr.r))) (Fr.m g33 (by decide))
      refine rsl (cV_e rfl) ?_
      refine rsl (ptI_q (z := s) (ck_65 (hC.fr f33)) (rfl)) ?_
      refine rsr (vC_e (rk_160 hR)) ?_
      refine Rs_cVr (P := fun _ Mc2 _ Mr2 => PBX (dp + 1) ut mu m kd pl E tx Mc Mr G U Hl X i e s u uc dp (2500 - 30 * dp - 30) Mc2 Mr2) ?_ (fun v Mx34 w Nx34 hx34 => ?_)
      ·
        obtain ⟨d2, rfl⟩ : ∃ e, d2 = e + 1 := ⟨d2 - 1, by omega⟩
        rw [r212]; unfold b212; rw [aR_e, aZ_e]; unfold c212
        refine rsr (gtI_q (w := iI 0) (rk_160 hR) (wa_41)) ?_
        refine rsr (jn_v) ?_
        refine rsr (if_pos (eqI_p (rfl) (li_0) (by omega))) ?_
        refine rsr (gtI_q (w := iI ((kr (kd i)))) (rk_160 hR) (wa_36)) ?_
        refine rsr (jn_v) ?_
        refine rsr (if_pos (krI_p (k := 123) (rfl) (li_123) (by omega) (by decide +kernel))) ?_
        refine rsr (jv_e) ?_
        refine rsr (vC_e (rk_160 hR)) ?_
        refine rsr (cI_e (ar193_p (by omega) hS hR (wa_36) (wa_37) (wa_41) (li_1) (by omega))) ?_
        refine rsr (if_neg (eqI_n (rfl) (li_0) (by omega))) ?_
        refine rsr (vC_e (rk_160 hR)) ?_
        refine rsr (cI_e (ar200_6 (by omega) hS hR (wa_36) (wa_37) (wa_41) (wa_50) (by omega))) ?_
        refine rsr (if_pos (eqI_p (rfl) (li_0) (by omega))) ?_
        refine rsr (jv_e) ?_
        exact Rs.ok (Or.inr ⟨6, ((pl i)), (Fr.sI (by decide) f33), (Fr.sI (by decide) (Fr.sI (by decide) (Fr.sI (by decide) Fr.r))), ⟨i, sz32, s, uc32, (sI_nej (by decide)).trans (e33_k0), (sI_nej (by decide)).trans (e33_k1), (sI_nej (by decide)).trans (e33_k2), (sI_nej (by decide)).trans (e33_k3), (sI_nej (by decide)).trans (e33_sz32), sI_eq, (sI_nej (by decide)).trans (e33_uc32), by omega⟩, ⟨e, s, u, mu, ut, (sI_nej (by decide)).trans (sI_eq), sI_eq, (sI_nej (by decide)).trans ((sI_nej (by decide)).trans ((sI_nej (by decide)).trans (wa_43))), (sI_nej (by decide)).trans ((sI_nej (by decide)).trans ((sI_nej (by decide)).trans (wa_51))), (sI_nej (by decide)).trans ((sI_nej (by decide)).trans ((sI_nej (by decide)).trans (wa_53))), (sI_nej (by decide)).trans ((sI_nej (by decide)).trans ((sI_nej (by decide)).trans (h48))), (sI_nej (by decide)).trans ((sI_nej (by decide)).trans ((sI_nej (by decide)).trans (h49))), by omega⟩⟩)
      ·
        rcases hx34 with ⟨i34, k534, e34, u34, uc34, G34, U34, X34, FL34, FR34, sc34, sr34, rw34, bd34, ⟨mv34_0, mv34_1, mv34_2, mv34_3, mv34_4, mv34_5⟩, ag34, au34, ax34, tp34, dp34, ku34, hl34⟩ | ⟨F34, P34, FL34, FR34, tc34, tr34⟩
        ·
          obtain ⟨bb34_0, bb34_1, bb34_2, bb34_3, bb34_4, bb34_5, bb34_6, bb34_7, bb34_8, bb34_9, bb34_10, bb34_11⟩ := bd34
          obtain ⟨q34_12, q34_13, q34_10, q34_9, q34_16, q34_19⟩ := sc34
          obtain ⟨w34_36, w34_37, w34_38, w34_41, w34_43, w34_51, w34_53, w34_50, w34_n⟩ := sr34
          obtain ⟨ca34, ra34, lc34, lr34, cu34, ru34⟩ := rw34
          have hk35 := (hS.ok (i34 + 1) (by omega) (by omega)).r
          have hk36 := (hS.ok i34 (by omega) (by omega)).r
          refine rs1 (vC_e (rk_160 (hR.fr FR34))) ?_
          have hm37 : i34 + 1 < m := hS.more i34 (by omega) (by omega) (by omega)
          refine Rc_V (nx_ok (by omega) hS (hR.fr FR34) (hT.fr (W := W_rx) FR34 (by decide) (by decide)) (fun i a b => (Fr.lc (W := W_rx) FR34 _ (by decide) _).trans (hW i a b)) (i := i34) (w34_41) (w34_38) (by omega) (by omega)) fun v Ma39 h39 => ?_
          obtain ⟨g39, e39_k0, e39_k1, e39_k2, p39_0⟩ := h39
          have f39 : Fr W_rx Mr Ma39 := Fr.t FR34 (Fr.m g39 (by decide))
          refine rs1 (cV_e rfl) ?_
          exact Rt.ok (Or.inl ⟨(i34 + 1), ⟨e34, u34, uc34, G34, U34, X34, FL34, f39, ⟨q34_12, q34_13, q34_10, q34_9, q34_16, q34_19⟩, ⟨e39_k0, e39_k1, e39_k2, (g39.i _ _ (by decide)).trans (w34_41), (g39.i _ _ (by decide)).trans (w34_43), (g39.i _ _ (by decide)).trans (w34_51), (g39.i _ _ (by decide)).trans (w34_53), (g39.i _ _ (by decide)).trans (w34_50), p39_0⟩, ⟨ca34, (ra34.fr g39 (by decide)), lc34, (lr34.fr g39 (by decide)), cu34, (ru34.fr g39 (by decide))⟩, ⟨by omega, by omega, by omega, by omega, by omega, by omega, by omega, by omega, by omega, by omega, by omega, by omega⟩, ⟨by omega, by omega, by omega, by omega, by omega, by omega⟩, ag34, au34, ax34, tp34, dp34, ku34, hl34⟩⟩)
        ·
          obtain ⟨ti34, tz34, tn34, tu34, t1334, t1034, t1134, t1234, t934, t1634, t1934, tb34⟩ := tc34
          obtain ⟨re34, rn34, ru34, rm34, rt34, u4134, u4234, u4334, u5134, u5334, u4834, u4934, ub34⟩ := tr34
          refine rs1 (vC_e (rk_160 (hR.fr FR34))) ?_
          refine Rc_V (x191_s (by omega) (hR.fr FR34) (u4134) (u4234) (u4334) (u5134) (u5334) (u4834) (u4934)  (by omega)) fun v Ma41 h41 => ?_
          obtain ⟨em40, g41, e41_em40, e41_k0, e41_k1, e41_k2, e41_k3, e41_k4, p41_0⟩ := h41
          have f41 : Fr W_rp Mr Ma41 := Fr.t FR34 (Fr.m g41 (by decide))
          refine rs1 (cV_e rfl) ?_
          exact Rt.ok (Or.inr ⟨F34, P34, FL34, f41, ⟨ti34, tz34, tn34, tu34, t1334, t1034, t1134, t1234, t934, t1634, t1934, by omega⟩, ⟨em40, rn34, ru34, rm34, rt34, e41_k0, e41_k1, e41_em40, e41_k2, e41_k3, e41_k4, (g41.i _ _ (by decide)).trans (u4934), by omega⟩⟩)
  ·
    by_cases c42 : ((kd i)) = 1
    ·
      refine rsl (cV_e (a69_1 (by omega) hS hC (hTk.fr (WL := W_cp) Fr.r (by decide)) (qa_12) (qa_13) (qa_10) (li_123) (hv0) (by omega))) ?_
      refine rsl (gtI_q (w := iI s) (ck_65 hC.sI.sI.sI) ((sI_nej (by decide)).trans ((sI_nej (by decide)).trans ((sI_nej (by decide)).trans (qa_16))))) ?_
      refine rsl (jn_v) ?_
      refine rsl (lp_e) ?_
      unfold c89_14
      refine rsl (if_neg (leI_n (li_3000) (li_0) (by omega))) ?_
      refine rsl (gtI_q (w := iI 2) (ck_65 hC.sI.sI.sI) (sI_eq)) ?_
      refine rsl (if_neg (eqI_n (rfl) (li_125) (by omega))) ?_
      refine rsl (gtI_q (w := iI 2) (ck_65 hC.sI.sI.sI) (sI_eq)) ?_
      refine rsl (if_pos (eqI_p (rfl) (li_2) (by omega))) ?_
      refine rsl (jv_e) ?_
      refine rsl (jn_v) ?_
      refine rsl (if_neg (eqI_n (hv0) (li_0) (by omega))) ?_
      refine rsl (jv_e) ?_
      refine rsl (vC_e (ck_65 hC.sI.sI.sI)) ?_
      refine RlV (y64 (by omega) hC.sI.sI.sI (hTk.fr (WL := W_cp) (Fr.sI (by decide) (Fr.sI (by decide) (Fr.sI (by decide) Fr.r))) (by decide)) ((sI_nej (by decide)).trans ((sI_nej (by decide)).trans ((sI_nej (by decide)).trans (qa_12)))) (sI_eq) ((sI_nej (by decide)).trans ((sI_nej (by decide)).trans (sI_eq))) ((sI_nej (by decide)).trans (sI_eq)) ((sI_nej (by decide)).trans ((sI_nej (by decide)).trans ((sI_nej (by decide)).trans (qa_9)))) ((sI_nej (by decide)).trans ((sI_nej (by decide)).trans ((sI_nej (by decide)).trans (qa_16)))) ((sI_nej (by decide)).trans ((sI_nej (by decide)).trans ((sI_nej (by decide)).trans (qa_19)))) (li_125) (by omega)) fun v Ma44 h44 => ?_
      obtain ⟨sz43, sn43, uc43, g44, e44_sz43, e44_sn43, e44_uc43, e44_k0, e44_k1, e44_k2, e44_k3, p44_0, p44_1, p44_2⟩ := h44
      have f44 : Fr W_cp Mc Ma44 := Fr.t (Fr.sI (by decide) (Fr.sI (by decide) (Fr.sI (by decide) Fr.r))) (Fr.m g44 (by decide))
      refine rsl (cV_e rfl) ?_
      refine rsl (ptI_q (z := s) (ck_65 (hC.fr f44)) (rfl)) ?_
      refine rsr (vC_e (rk_160 hR)) ?_
      refine Rs_cVr (P := fun _ Mc2 _ Mr2 => PBX (dp + 1) ut mu m kd pl E tx Mc Mr G U Hl X i e s u uc dp (2500 - 30 * dp - 30) Mc2 Mr2) ?_ (fun v Mx45 w Nx45 hx45 => ?_)
      ·
        obtain ⟨d2, rfl⟩ : ∃ e, d2 = e + 1 := ⟨d2 - 1, by omega⟩
        rw [r212]; unfold b212; rw [aR_e, aZ_e]; unfold c212
        refine rsr (gtI_q (w := iI 0) (rk_160 hR) (wa_41)) ?_
        refine rsr (jn_v) ?_
        refine rsr (if_pos (eqI_p (rfl) (li_0) (by omega))) ?_
        refine rsr (gtI_q (w := iI ((kr (kd i)))) (rk_160 hR) (wa_36)) ?_
        refine rsr (jn_v) ?_
        refine rsr (if_neg (krI_n (k := 123) (rfl) (li_123) (hS.ok i (by omega) (by omega)) (by unfold KdOK sgk; omega) (by decide +kernel) (by omega) (by omega))) ?_
        refine rsr (jv_e) ?_
        refine rsr (vC_e (rk_160 hR)) ?_
        refine rsr (cI_e (ar193_1 (by omega) hS hR (wa_36) (wa_37) (wa_41) (li_0) (by omega))) ?_
        refine rsr (if_pos (eqI_p (rfl) (li_0) (by omega))) ?_
        refine rsr (jv_e) ?_
        exact Rs.ok (Or.inr ⟨1, ((pl i)), (Fr.sI (by decide) f44), (Fr.sI (by decide) (Fr.sI (by decide) Fr.r)), ⟨i, sz43, s, uc43, (sI_nej (by decide)).trans (e44_k0), (sI_nej (by decide)).trans (e44_k1), (sI_nej (by decide)).trans (e44_k2), (sI_nej (by decide)).trans (e44_k3), (sI_nej (by decide)).trans (e44_sz43), sI_eq, (sI_nej (by decide)).trans (e44_uc43), by omega⟩, ⟨e, s, u, mu, ut, (sI_nej (by decide)).trans (sI_eq), sI_eq, (sI_nej (by decide)).trans ((sI_nej (by decide)).trans (wa_43)), (sI_nej (by decide)).trans ((sI_nej (by decide)).trans (wa_51)), (sI_nej (by decide)).trans ((sI_nej (by decide)).trans (wa_53)), (sI_nej (by decide)).trans ((sI_nej (by decide)).trans (h48)), (sI_nej (by decide)).trans ((sI_nej (by decide)).trans (h49)), by omega⟩⟩)
      ·
        rcases hx45 with ⟨i45, k545, e45, u45, uc45, G45, U45, X45, FL45, FR45, sc45, sr45, rw45, bd45, ⟨mv45_0, mv45_1, mv45_2, mv45_3, mv45_4, mv45_5⟩, ag45, au45, ax45, tp45, dp45, ku45, hl45⟩ | ⟨F45, P45, FL45, FR45, tc45, tr45⟩
        ·
          obtain ⟨bb45_0, bb45_1, bb45_2, bb45_3, bb45_4, bb45_5, bb45_6, bb45_7, bb45_8, bb45_9, bb45_10, bb45_11⟩ := bd45
          obtain ⟨q45_12, q45_13, q45_10, q45_9, q45_16, q45_19⟩ := sc45
          obtain ⟨w45_36, w45_37, w45_38, w45_41, w45_43, w45_51, w45_53, w45_50, w45_n⟩ := sr45
          obtain ⟨ca45, ra45, lc45, lr45, cu45, ru45⟩ := rw45
          have hk46 := (hS.ok (i45 + 1) (by omega) (by omega)).r
          have hk47 := (hS.ok i45 (by omega) (by omega)).r
          refine rs1 (vC_e (rk_160 (hR.fr FR45))) ?_
          have hm48 : i45 + 1 < m := hS.more i45 (by omega) (by omega) (by omega)
          refine Rc_V (nx_ok (by omega) hS (hR.fr FR45) (hT.fr (W := W_rx) FR45 (by decide) (by decide)) (fun i a b => (Fr.lc (W := W_rx) FR45 _ (by decide) _).trans (hW i a b)) (i := i45) (w45_41) (w45_38) (by omega) (by omega)) fun v Ma50 h50 => ?_
          obtain ⟨g50, e50_k0, e50_k1, e50_k2, p50_0⟩ := h50
          have f50 : Fr W_rx Mr Ma50 := Fr.t FR45 (Fr.m g50 (by decide))
          refine rs1 (cV_e rfl) ?_
          exact Rt.ok (Or.inl ⟨(i45 + 1), ⟨e45, u45, uc45, G45, U45, X45, FL45, f50, ⟨q45_12, q45_13, q45_10, q45_9, q45_16, q45_19⟩, ⟨e50_k0, e50_k1, e50_k2, (g50.i _ _ (by decide)).trans (w45_41), (g50.i _ _ (by decide)).trans (w45_43), (g50.i _ _ (by decide)).trans (w45_51), (g50.i _ _ (by decide)).trans (w45_53), (g50.i _ _ (by decide)).trans (w45_50), p50_0⟩, ⟨ca45, (ra45.fr g50 (by decide)), lc45, (lr45.fr g50 (by decide)), cu45, (ru45.fr g50 (by decide))⟩, ⟨by omega, by omega, by omega, by omega, by omega, by omega, by omega, by omega, by omega, by omega, by omega, by omega⟩, ⟨by omega, by omega, by omega, by omega, by omega, by omega⟩, ag45, au45, ax45, tp45, dp45, ku45, hl45⟩⟩)
        ·
          obtain ⟨ti45, tz45, tn45, tu45, t1345, t1045, t1145, t1245, t945, t1645, t1945, tb45⟩ := tc45
          obtain ⟨re45, rn45, ru45, rm45, rt45, u4145, u4245, u4345, u5145, u5345, u4845, u4945, ub45⟩ := tr45
          refine rs1 (vC_e (rk_160 (hR.fr FR45))) ?_
          refine Rc_V (x191_s (by omega) (hR.fr FR45) (u4145) (u4245) (u4345) (u5145) (u5345) (u4845) (u4945)  (by omega)) fun v Ma52 h52 => ?_
          obtain ⟨em51, g52, e52_em51, e52_k0, e52_k1, e52_k2, e52_k3, e52_k4, p52_0⟩ := h52
          have f52 : Fr W_rp Mr Ma52 := Fr.t FR45 (Fr.m g52 (by decide))
          refine rs1 (cV_e rfl) ?_
          exact Rt.ok (Or.inr ⟨F45, P45, FL45, f52, ⟨ti45, tz45, tn45, tu45, t1345, t1045, t1145, t1245, t945, t1645, t1945, by omega⟩, ⟨em51, rn45, ru45, rm45, rt45, e52_k0, e52_k1, e52_em51, e52_k2, e52_k3, e52_k4, (g52.i _ _ (by decide)).trans (u4945), by omega⟩⟩)
    ·
      refine rsl (cV_e (a69_2 (by omega) hS hC (hTk.fr (WL := W_cp) Fr.r (by decide)) (qa_12) (qa_13) (qa_10) (li_123) (hv0) (by omega))) ?_
      refine rsl (gtI_q (w := iI s) (ck_65 hC.sI.sI.sI) ((sI_nej (by decide)).trans ((sI_nej (by decide)).trans ((sI_nej (by decide)).trans (qa_16))))) ?_
      refine rsl (jn_v) ?_
      refine rsl (lp_e) ?_
      unfold c89_14
      refine rsl (if_neg (leI_n (li_3000) (li_0) (by omega))) ?_
      refine rsl (gtI_q (w := iI 2) (ck_65 hC.sI.sI.sI) (sI_eq)) ?_
      refine rsl (if_neg (eqI_n (rfl) (li_125) (by omega))) ?_
      refine rsl (gtI_q (w := iI 2) (ck_65 hC.sI.sI.sI) (sI_eq)) ?_
      refine rsl (if_pos (eqI_p (rfl) (li_2) (by omega))) ?_
      refine rsl (jv_e) ?_
      refine rsl (jn_v) ?_
      refine rsl (if_neg (eqI_n (hv0) (li_0) (by omega))) ?_
      refine rsl (jv_e) ?_
      refine rsl (vC_e (ck_65 hC.sI.sI.sI)) ?_
      refine RlV (y64 (by omega) hC.sI.sI.sI (hTk.fr (WL := W_cp) (Fr.sI (by decide) (Fr.sI (by decide) (Fr.sI (by decide) Fr.r))) (by decide)) ((sI_nej (by decide)).trans ((sI_nej (by decide)).trans ((sI_nej (by decide)).trans (qa_12)))) (sI_eq) ((sI_nej (by decide)).trans ((sI_nej (by decide)).trans (sI_eq))) ((sI_nej (by decide)).trans (sI_eq)) ((sI_nej (by decide)).trans ((sI_nej (by decide)).trans ((sI_nej (by decide)).trans (qa_9)))) ((sI_nej (by decide)).trans ((sI_nej (by decide)).trans ((sI_nej (by decide)).trans (qa_16)))) ((sI_nej (by decide)).trans ((sI_nej (by decide)).trans ((sI_nej (by decide)).trans (qa_19)))) (li_125) (by omega)) fun v Ma54 h54 => ?_
      obtain ⟨sz53, sn53, uc53, g54, e54_sz53, e54_sn53, e54_uc53, e54_k0, e54_k1, e54_k2, e54_k3, p54_0, p54_1, p54_2⟩ := h54
      have f54 : Fr W_cp Mc Ma54 := Fr.t (Fr.sI (by decide) (Fr.sI (by decide) (Fr.sI (by decide) Fr.r))) (Fr.m g54 (by decide))
      refine rsl (cV_e rfl) ?_
      refine rsl (ptI_q (z := s) (ck_65 (hC.fr f54)) (rfl)) ?_
      refine rsr (vC_e (rk_160 hR)) ?_
      refine Rs_cVr (P := fun _ Mc2 _ Mr2 => PBX (dp + 1) ut mu m kd pl E tx Mc Mr G U Hl X i e s u uc dp (2500 - 30 * dp - 30) Mc2 Mr2) ?_ (fun v Mx55 w Nx55 hx55 => ?_)
      ·
        obtain ⟨d2, rfl⟩ : ∃ e, d2 = e + 1 := ⟨d2 - 1, by omega⟩
        rw [r212]; unfold b212; rw [aR_e, aZ_e]; unfold c212
        refine rsr (gtI_q (w := iI 0) (rk_160 hR) (wa_41)) ?_
        refine rsr (jn_v) ?_
        refine rsr (if_pos (eqI_p (rfl) (li_0) (by omega))) ?_
        refine rsr (gtI_q (w := iI ((kr (kd i)))) (rk_160 hR) (wa_36)) ?_
        refine rsr (jn_v) ?_
        refine rsr (if_neg (krI_n (k := 123) (rfl) (li_123) (hS.ok i (by omega) (by omega)) (by unfold KdOK sgk; omega) (by decide +kernel) (by omega) (by omega))) ?_
        refine rsr (jv_e) ?_
        refine rsr (vC_e (rk_160 hR)) ?_
        refine rsr (cI_e (ar193_2 (by omega) hS hR (wa_36) (wa_37) (wa_41) (li_0) (by omega))) ?_
        refine rsr (if_pos (eqI_p (rfl) (li_0) (by omega))) ?_
        refine rsr (jv_e) ?_
        exact Rs.ok (Or.inr ⟨2, ((pl i)), (Fr.sI (by decide) f54), (Fr.sI (by decide) (Fr.sI (by decide) Fr.r)), ⟨i, sz53, s, uc53, (sI_nej (by decide)).trans (e54_k0), (sI_nej (by decide)).trans (e54_k1), (sI_nej (by decide)).trans (e54_k2), (sI_nej (by decide)).trans (e54_k3), (sI_nej (by decide)).trans (e54_sz53), sI_eq, (sI_nej (by decide)).trans (e54_uc53), by omega⟩, ⟨e, s, u, mu, ut, (sI_nej (by decide)).trans (sI_eq), sI_eq, (sI_nej (by decide)).trans ((sI_nej (by decide)).trans (wa_43)), (sI_nej (by decide)).trans ((sI_nej (by decide)).trans (wa_51)), (sI_nej (by decide)).trans ((sI_nej (by decide)).trans (wa_53)), (sI_nej (by decide)).trans ((sI_nej (by decide)).trans (h48)), (sI_nej (by decide)).trans ((sI_nej (by decide)).trans (h49)), by omega⟩⟩)
      ·
        rcases hx55 with ⟨i55, k555, e55, u55, uc55, G55, U55, X55, FL55, FR55, sc55, sr55, rw55, bd55, ⟨mv55_0, mv55_1, mv55_2, mv55_3, mv55_4, mv55_5⟩, ag55, au55, ax55, tp55, dp55, ku55, hl55⟩ | ⟨F55, P55, FL55, FR55, tc55, tr55⟩
        ·
          obtain ⟨bb55_0, bb55_1, bb55_2, bb55_3, bb55_4, bb55_5, bb55_6, bb55_7, bb55_8, bb55_9, bb55_10, bb55_11⟩ := bd55
          obtain ⟨q55_12, q55_13, q55_10, q55_9, q55_16, q55_19⟩ := sc55
          obtain ⟨w55_36, w55_37, w55_38, w55_41, w55_43, w55_51, w55_53, w55_50, w55_n⟩ := sr55
          obtain ⟨ca55, ra55, lc55, lr55, cu55, ru55⟩ := rw55
          have hk56 := (hS.ok (i55 + 1) (by omega) (by omega)).r
          have hk57 := (hS.ok i55 (by omega) (by omega)).r
          refine rs1 (vC_e (rk_160 (hR.fr FR55))) ?_
          have hm58 : i55 + 1 < m := hS.more i55 (by omega) (by omega) (by omega)
          refine Rc_V (nx_ok (by omega) hS (hR.fr FR55) (hT.fr (W := W_rx) FR55 (by decide) (by decide)) (fun i a b => (Fr.lc (W := W_rx) FR55 _ (by decide) _).trans (hW i a b)) (i := i55) (w55_41) (w55_38) (by omega) (by omega)) fun v Ma60 h60 => ?_
          obtain ⟨g60, e60_k0, e60_k1, e60_k2, p60_0⟩ := h60
          have f60 : Fr W_rx Mr Ma60 := Fr.t FR55 (Fr.m g60 (by decide))
          refine rs1 (cV_e rfl) ?_
          exact Rt.ok (Or.inl ⟨(i55 + 1), ⟨e55, u55, uc55, G55, U55, X55, FL55, f60, ⟨q55_12, q55_13, q55_10, q55_9, q55_16, q55_19⟩, ⟨e60_k0, e60_k1, e60_k2, (g60.i _ _ (by decide)).trans (w55_41), (g60.i _ _ (by decide)).trans (w55_43), (g60.i _ _ (by decide)).trans (w55_51), (g60.i _ _ (by decide)).trans (w55_53), (g60.i _ _ (by decide)).trans (w55_50), p60_0⟩, ⟨ca55, (ra55.fr g60 (by decide)), lc55, (lr55.fr g60 (by decide)), cu55, (ru55.fr g60 (by decide))⟩, ⟨by omega, by omega, by omega, by omega, by omega, by omega, by omega, by omega, by omega, by omega, by omega, by omega⟩, ⟨by omega, by omega, by omega, by omega, by omega, by omega⟩, ag55, au55, ax55, tp55, dp55, ku55, hl55⟩⟩)
        ·
          obtain ⟨ti55, tz55, tn55, tu55, t1355, t1055, t1155, t1255, t955, t1655, t1955, tb55⟩ := tc55
          obtain ⟨re55, rn55, ru55, rm55, rt55, u4155, u4255, u4355, u5155, u5355, u4855, u4955, ub55⟩ := tr55
          refine rs1 (vC_e (rk_160 (hR.fr FR55))) ?_
          refine Rc_V (x191_s (by omega) (hR.fr FR55) (u4155) (u4255) (u4355) (u5155) (u5355) (u4855) (u4955)  (by omega)) fun v Ma62 h62 => ?_
          obtain ⟨em61, g62, e62_em61, e62_k0, e62_k1, e62_k2, e62_k3, e62_k4, p62_0⟩ := h62
          have f62 : Fr W_rp Mr Ma62 := Fr.t FR55 (Fr.m g62 (by decide))
          refine rs1 (cV_e rfl) ?_
          exact Rt.ok (Or.inr ⟨F55, P55, FL55, f62, ⟨ti55, tz55, tn55, tu55, t1355, t1055, t1155, t1255, t955, t1655, t1955, by omega⟩, ⟨em61, rn55, ru55, rm55, rt55, e62_k0, e62_k1, e62_em61, e62_k2, e62_k3, e62_k4, (g62.i _ _ (by decide)).trans (u4955), by omega⟩⟩)
