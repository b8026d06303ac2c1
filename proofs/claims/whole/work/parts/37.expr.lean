theorem p_5 {D : Nat} {dp : Int} (hD : 20 ≤ D) (hp : Pair D 99 [6] 206 20 dp) : Pair (D + 1) 99 [5] 207 19 dp := by
  intro d d2 hd hd2 T n m kd pl E tx ua ut mu Mc Mr G U Hl X i e s u uc vs hS hx hsc hsr hrw hbd hvs
  subst hvs
  obtain ⟨d, rfl⟩ : ∃ e, d = e + 1 := ⟨d - 1, by omega⟩
  obtain ⟨d2, rfl⟩ : ∃ e, d2 = e + 1 := ⟨d2 - 1, by omega⟩
  show Rs (runX (d + 1) 99 [va_rf (some 65), .int (iI 5), .int (iI dp)] Mc) (runX (d2 + 1) 207 [va_rf (some 160)] Mr) _
  rw [r99]; unfold b99; rw [aR_e, aI_e, aI_e, aZ_e]; unfold c99; rw [r207]; unfold b207; rw [aR_e, aZ_e]; unfold c207
  have hCx := hx
  obtain ⟨hC, hR, hTk, hT, hW, ⟨hu1, hu2, hu3, hu4⟩, h49, h48, ⟨hb1, hb2, hb3, hb4⟩⟩ := hx
  obtain ⟨bb_0, bb_1, bb_2, bb_3, bb_4, bb_5, bb_6, bb_7, bb_8, bb_9, bb_10, bb_11⟩ := hbd
  have kua : KU uc Mc Mc := KU.r
  obtain ⟨qa_12, qa_13, qa_10, qa_9, qa_16, qa_19⟩ := hsc
  obtain ⟨wa_36, wa_37, wa_38, wa_41, wa_43, wa_51, wa_53, wa_50, wa_n⟩ := hsr
  obtain ⟨caa, raa, lca, lra, cua, rua⟩ := hrw
  have hk1 := (hS.ok i (by omega) (by omega)).r
  have ty2 := (Tye.r (G := G) (a := e) (s := s))
  have du3 := (DU.r (ut := ut) (mu := mu) (c := uc) (G := G) (U := U) (X := X) (a := e) (u := u))
  refine rsl (if_pos (leI_p (rfl) (li_5) (by omega))) ?_
  refine rsl (jn_v) ?_
  refine rsl (if_neg (eqI_n (rfl) (li_2) (by omega))) ?_
  refine rsl (jv_e) ?_
  refine rsl (vC_e (ck_65 hC)) ?_
  refine rsr (vC_e (rk_160 hR)) ?_
  refine Rb_VV (hp _ _ (by omega) (by omega) T n m kd pl E tx ua ut mu _ _ G U Hl X i e s u uc _ hS (hCx.fr Fr.r Fr.r) ⟨qa_12, qa_13, qa_10, qa_9, qa_16, qa_19⟩ ⟨wa_36, wa_37, wa_38, wa_41, wa_43, wa_51, wa_53, wa_50, wa_n⟩ ⟨caa, raa, lca, lra, cua, rua⟩ ⟨by omega, by omega, by omega, by omega, by omega, by omega, by omega, by omega, by omega, by omega, by omega, by omega⟩ (vs2 (adI (rfl) (li_1)) (rfl))) fun v Mx4 w Nx4 hx4 => ?_
  rcases hx4 with ⟨i4, e4, u4, uc4, G4, U4, X4, fl4, fr4, sc4, sr4, rw4, bd4, mv4, ag4, au4, ax4, tp4, dp4, kv4⟩ | ⟨F4, P4, fl4, fr4, tc4, tr4⟩
  ·
    have FL4 : Fr W_cp Mc Mx4 := Fr.t Fr.r fl4
    have FR4 : Fr W_rx Mr Nx4 := Fr.t Fr.r fr4
    obtain ⟨bb4_0, bb4_1, bb4_2, bb4_3, bb4_4, bb4_5, bb4_6, bb4_7, bb4_8, bb4_9, bb4_10, bb4_11⟩ := bd4
    obtain ⟨q4_12, q4_13, q4_10, q4_9, q4_16, q4_19⟩ := sc4
    obtain ⟨w4_36, w4_37, w4_38, w4_41, w4_43, w4_51, w4_53, w4_50, w4_n⟩ := sr4
    obtain ⟨ca4, ra4, lc4, lr4, cu4, ru4⟩ := rw4
    have hk5 := (hS.ok i4 (by omega) (by omega)).r
    have ku4 := KU.t kua kv4 (by omega)
    have ty6 := Tye.t (d3 := 1) ty2 ag4 tp4 (by omega)
    have du7 := DU.t du3 ag4 au4 ax4 dp4 (by omega)
    refine rsl (cV_e rfl) ?_
    refine rsr (cV_e rfl) ?_
    refine rsl (jn_v) ?_
    refine rsl (jn_v) ?_
    refine rsr (jn_v) ?_
    refine Rb_lp (fun m2 q t => (∃ (k i2 : Int), q.1 = iI k ∧ (0 ≤ k ∧ k ≤ i2) ∧ PK 1 ut mu m kd pl E tx Mc Mr G U Hl X i e s u uc dp q.2 t i2 ∧ (m2 : Int) = m - i2 + 1) ∨ ∃ (k F P : Int), q.1 = iI k ∧ (0 ≤ k ∧ k ≤ 1500) ∧ Fr W_cp Mc q.2 ∧ Fr W_rp Mr t ∧ FTc m F P q.2 ∧ FTr (2500 - 30 * dp - 19) F P t ∧ m2 = 0) (fun m2 q t gl gr hq hgo => ?_) (m - i4 + 1).toNat _ _ _ _ (by omega) (by omega) (Or.inl ⟨0, i4, li_0, by omega, ⟨e4, u4, uc4, G4, U4, X4, FL4, FR4, ⟨q4_12, q4_13, q4_10, q4_9, q4_16, q4_19⟩, ⟨w4_36, w4_37, w4_38, w4_41, w4_43, w4_51, w4_53, w4_50, w4_n⟩, ⟨ca4, ra4, lc4, lr4, cu4, ru4⟩, ⟨by omega, by omega, by omega, by omega, by omega, by omega, by omega, by omega, by omega, by omega, by omega, by omega⟩, ⟨by omega, by omega, by omega, by omega, by omega, by omega⟩, (Ag.t Ag.r ag4 (by omega)), (Ag.t Ag.r au4 (by omega)), (AgL.t AgL.r ax4 (by omega)), ty6, du7, ku4⟩, by omega⟩)
    obtain ⟨qk8, qm8⟩ := q
    dsimp only at hq
    try dsimp only
    rcases hq with hq | hq
    ·
      obtain ⟨k8, i8, hk8, ⟨hka8, hkb8⟩, ⟨e8, u8, uc8, G8, U8, X8, FL8, FR8, sc8, sr8, rw8, bd8, ⟨mv8_0, mv8_1, mv8_2, mv8_3, mv8_4, mv8_5⟩, ag8, au8, ax8, tp8, dp8, ku8⟩, hm8⟩ := hq
      obtain ⟨bb8_0, bb8_1, bb8_2, bb8_3, bb8_4, bb8_5, bb8_6, bb8_7, bb8_8, bb8_9, bb8_10, bb8_11⟩ := bd8
      obtain ⟨q8_12, q8_13, q8_10, q8_9, q8_16, q8_19⟩ := sc8
      obtain ⟨w8_36, w8_37, w8_38, w8_41, w8_43, w8_51, w8_53, w8_50, w8_n⟩ := sr8
      obtain ⟨ca8, ra8, lc8, lr8, cu8, ru8⟩ := rw8
      have hk9 := (hS.ok i8 (by omega) (by omega)).r
      unfold c99_61 c207_4
      refine rsl (if_neg (leI_n (li_3000) (hk8) (by omega))) ?_
      refine rsl (gtI_q (w := iI ((kd i8))) (ck_65 (hC.fr FL8)) (q8_13)) ?_
      by_cases c10 : ((kd i8)) = 37
      ·
        refine rsl (cI_e (lk_37 (by omega) ((rfl).trans (congrArg iI (by omega))))) ?_
        refine rsl (if_pos (eqI_p (rfl) (rfl) (by omega))) ?_
        refine rsl (gtI_q (w := iI ((kd i8))) (ck_65 (hC.fr FL8)) (q8_13)) ?_
        refine rsl (cI_e (ok_37 (by omega) ((rfl).trans (congrArg iI (by omega))))) ?_
        refine rsl (vC_e (ck_65 (hC.fr FL8))) ?_
        have hm11 : i8 + 1 < m := hS.more i8 (by omega) (by omega) (by omega)
        refine rsl (cV_e (a63q (by omega) hS (hC.fr FL8) (hTk.fr (WL := W_cp) FL8 (by decide)) (q8_12) (q8_13) (q8_10) (i2 := (i8 + 1)) (by omega) (by omega))) ?_
        have hk12 := (hS.ok (i8 + 1) (by omega) (by omega)).r
        refine rsl (vC_e (ck_65 (hC.fr FL8).sI.sI)) ?_
        refine rsr (gtI_q (w := iI 0) (rk_160 (hR.fr FR8)) (w8_41)) ?_
        refine rsr (if_pos (eqI_p (rfl) (li_0) (by omega))) ?_
        refine rsr (gtI_q (w := iI ((kr (kd i8)))) (rk_160 (hR.fr FR8)) (w8_36)) ?_
        refine rsr (jn_v) ?_
        refine rsr (if_neg (krI_n (k := 42) (rfl) (li_42) (hS.ok i8 (by omega) (by omega)) (by unfold KdOK sgk; omega) (by decide +kernel) (by omega) (by omega))) ?_
        refine rsr (gtI_q (w := iI ((kr (kd i8)))) (rk_160 (hR.fr FR8)) (w8_36)) ?_
        refine rsr (if_neg (krI_n (k := 47) (rfl) (li_47) (hS.ok i8 (by omega) (by omega)) (by unfold KdOK sgk; omega) (by decide +kernel) (by omega) (by omega))) ?_
        refine rsr (gtI_q (w := iI ((kr (kd i8)))) (rk_160 (hR.fr FR8)) (w8_36)) ?_
        refine rsr (if_pos (krI_p (k := 37) (rfl) (li_37) (by omega) (by decide +kernel))) ?_
        refine rsr (jv_e) ?_
        refine rsr (gtI_q (w := iI ((kr (kd i8)))) (rk_160 (hR.fr FR8)) (w8_36)) ?_
        refine rsr (jn_v) ?_
        refine rsr (if_neg (krI_n (k := 42) (rfl) (li_42) (hS.ok i8 (by omega) (by omega)) (by unfold KdOK sgk; omega) (by decide +kernel) (by omega) (by omega))) ?_
        refine rsr (gtI_q (w := iI ((kr (kd i8)))) (rk_160 (hR.fr FR8)) (w8_36)) ?_
        refine rsr (if_neg (krI_n (k := 47) (rfl) (li_47) (hS.ok i8 (by omega) (by omega)) (by unfold KdOK sgk; omega) (by decide +kernel) (by omega) (by omega))) ?_
        refine rsr (jv_e) ?_
        refine rsr (vC_e (rk_160 (hR.fr FR8))) ?_
        refine RrV (nx_ok (by omega) hS (hR.fr FR8) (hT.fr (W := W_rx) FR8 (by decide) (by decide)) (fun i a b => (Fr.lc (W := W_rx) FR8 _ (by decide) _).trans (hW i a b)) (i := i8) (w8_41) (w8_38) (by omega) (by omega)) fun v Ma14 h14 => ?_
        obtain ⟨g14, e14_k0, e14_k1, e14_k2, p14_0⟩ := h14
        have f14 : Fr W_rx Mr Ma14 := Fr.t FR8 (Fr.m g14 (by decide))
        refine rsr (cV_e rfl) ?_
        refine rsr (vC_e (rk_160 (hR.fr f14))) ?_
        refine Rb_VV (hp _ _ (by omega) (by omega) T n m kd pl E tx ua ut mu _ _ G8 U8 Hl X8 (i8 + 1) e8 s u8 uc8 _ hS (hCx.fr (Fr.sI (by decide) (Fr.sI (by decide) FL8)) f14) ⟨(sI_nej (by decide)).trans (sI_eq), sI_eq, (sI_nej (by decide)).trans ((sI_nej (by decide)).trans (q8_10)), (sI_nej (by decide)).trans ((sI_nej (by decide)).trans (q8_9)), (sI_nej (by decide)).trans ((sI_nej (by decide)).trans (q8_16)), (sI_nej (by decide)).trans ((sI_nej (by decide)).trans (q8_19))⟩ ⟨e14_k0, e14_k1, e14_k2, (g14.i _ _ (by decide)).trans (w8_41), (g14.i _ _ (by decide)).trans (w8_43), (g14.i _ _ (by decide)).trans (w8_51), (g14.i _ _ (by decide)).trans (w8_53), (g14.i _ _ (by decide)).trans (w8_50), p14_0⟩ ⟨(ca8.fr (W := W_c0) (Fr.sI (by decide) (Fr.sI (by decide) Fr.r)) (by decide)), (ra8.fr g14 (by decide)), (lc8.fr (W := W_c0) (Fr.sI (by decide) (Fr.sI (by decide) Fr.r)) (by decide)), (lr8.fr g14 (by decide)), (cu8.fr (W := W_c0) (Fr.sI (by decide) (Fr.sI (by decide) Fr.r)) (by decide)), (ru8.fr g14 (by decide))⟩ ⟨by omega, by omega, by omega, by omega, by omega, by omega, by omega, by omega, by omega, by omega, by omega, by omega⟩ (vs2 (adI (rfl) (li_1)) (rfl))) fun v Mx15 w Nx15 hx15 => ?_
        rcases hx15 with ⟨i15, e15, u15, uc15, G15, U15, X15, fl15, fr15, sc15, sr15, rw15, bd15, mv15, ag15, au15, ax15, tp15, dp15, kv15⟩ | ⟨F15, P15, fl15, fr15, tc15, tr15⟩
        ·
          have FL15 : Fr W_cp Mc Mx15 := Fr.t (Fr.sI (by decide) (Fr.sI (by decide) FL8)) fl15
          have FR15 : Fr W_rx Mr Nx15 := Fr.t f14 fr15
          obtain ⟨bb15_0, bb15_1, bb15_2, bb15_3, bb15_4, bb15_5, bb15_6, bb15_7, bb15_8, bb15_9, bb15_10, bb15_11⟩ := bd15
          obtain ⟨q15_12, q15_13, q15_10, q15_9, q15_16, q15_19⟩ := sc15
          obtain ⟨w15_36, w15_37, w15_38, w15_41, w15_43, w15_51, w15_53, w15_50, w15_n⟩ := sr15
          obtain ⟨ca15, ra15, lc15, lr15, cu15, ru15⟩ := rw15
          have hk16 := (hS.ok i15 (by omega) (by omega)).r
          have ku15 := KU.t (ku8.fr (W := W_c0) (Fr.sI (by decide) (Fr.sI (by decide) Fr.r)) (by decide)) kv15 (by omega)
          have ty17 := Tye.t (d3 := 2) tp8 ag15 tp15 (by omega)
          have du18 := DU.t dp8 ag15 au15 ax15 dp15 (by omega)
          refine rsl (cV_e rfl) ?_
          refine rsr (cV_e rfl) ?_
          refine rsl (vC_e (ck_65 (hC.fr FL15))) ?_
          have ty20 := Tye.em (d := 2) (d' := 1) (q := (e15 + 1)) (n1 := 0) (ut := ut) (mu := mu) (l := []) ty17 (Or.inr (Or.inr (Or.inr (Or.inr (Or.inr (Or.inr (Or.inr (Or.inl (by omega)))))))) : Eff 14 0 0 2 s 1 s) (by omega) ⟨by omega, by omega⟩ (by omega)
          have du21 := DU.em (q := (e15 + 1)) (o := 14) (n := 0) (p := -2) (l := [0]) du18 (by omega) (by omega)
          refine RlI (a87 (by omega) (hC.fr FL15) (q15_9) (rfl) (li_0) (by omega)) fun v Ma22 h22 => ?_
          obtain ⟨r19, rfl, g22, e22_k0, p22_0, p22_1⟩ := h22
          have f22 : Fr W_cp Mc Ma22 := Fr.t FL15 (Fr.m g22 (by decide))
          refine rsl (cI_e rfl) ?_
          refine rsl (if_neg (eqI_n (rfl) (li_3) (by omega))) ?_
          refine rsl (ltI_q (z := (k8 + 1)) (adI (hk8) (li_1))) ?_
          refine rsr (vC_e (rk_160 (hR.fr FR15))) ?_
          refine RrI (a196 (by omega) (hR.fr FR15) (w15_43) ((FR15.i _ _ (by decide)).trans h49) ((FR15.i _ _ (by decide)).trans h48) (li_14) (li_0) (by omega)) fun v Ma24 h24 => ?_
          obtain ⟨r23, rfl, g24, e24_k0, p24_0, p24_1⟩ := h24
          have f24 : Fr W_rx Mr Ma24 := Fr.t FR15 (Fr.m g24 (by decide))
          refine rsr (cI_e rfl) ?_
          exact hgo (m - i15 + 1).toNat _ _ (by omega) (Or.inl ⟨(k8 + 1), i15, rfl, by omega, ⟨(e15 + 1), u15, uc15, (pu G15 e15 [14, 0, -2, 0, ut, mu, 0]), U15, X15, f22, f24, ⟨(g22.i _ _ (by decide)).trans (q15_12), (g22.i _ _ (by decide)).trans (q15_13), (g22.i _ _ (by decide)).trans (q15_10), e22_k0, (g22.i _ _ (by decide)).trans (q15_16), (g22.i _ _ (by decide)).trans (q15_19)⟩, ⟨(g24.i _ _ (by decide)).trans (w15_36), (g24.i _ _ (by decide)).trans (w15_37), (g24.i _ _ (by decide)).trans (w15_38), (g24.i _ _ (by decide)).trans (w15_41), e24_k0, (g24.i _ _ (by decide)).trans (w15_51), (g24.i _ _ (by decide)).trans (w15_53), (g24.i _ _ (by decide)).trans (w15_50), (w15_n.fr g24 (by decide) (by decide))⟩, ⟨(CA1.em ca15 (by omega) p22_1 rfl), (RA1.em ra15 (by omega) p24_1 rfl), (lc15.fr g22 (by decide)), (lr15.fr g24 (by decide)), (cu15.fr g22 (by decide)), (ru15.fr g24 (by decide))⟩, ⟨by omega, by omega, by omega, by omega, by omega, by omega, by omega, by omega, by omega, by omega, by omega, by omega⟩, ⟨by omega, by omega, by omega, by omega, by omega, by omega⟩, (Ag.pu (Ag.t ag8 ag15 (by omega)) (by omega)), (Ag.t au8 au15 (by omega)), (AgL.t ax8 ax15 (by omega)), ty20, du21, (ku15.fr g22 (by decide))⟩, by omega⟩)
        ·
          have FL15 : Fr W_cp Mc Mx15 := Fr.t (Fr.sI (by decide) (Fr.sI (by decide) FL8)) fl15
          have FR15 : Fr W_rp Mr Nx15 := Fr.t (Fr.m f14 W_rx_p) fr15
          obtain ⟨ti15, tz15, tn15, tu15, t1315, t1015, t1115, t1215, t915, t1615, t1915, tb15⟩ := tc15
          obtain ⟨re15, rn15, ru15, rm15, rt15, u4115, u4215, u4315, u5115, u5315, u4815, u4915, ub15⟩ := tr15
          refine rsl (cV_e rfl) ?_
          refine rsr (cV_e rfl) ?_
          refine rsl (vC_e (ck_65 (hC.fr FL15))) ?_
          refine RlI (y87 (by omega) (hC.fr FL15) (hTk.fr (WL := W_cp) FL15 (by decide)) (t1215) (t1315) (t1015) (t1115) (t915) (t1615) (t1915) (rfl) (li_0) (by omega)) fun v Ma26 h26 => ?_
          obtain ⟨rv25, sz25, sn25, uc25, rfl, g26, e26_sz25, e26_sn25, e26_uc25, e26_k0, e26_k1, e26_k2, e26_k3, p26_0, p26_1, p26_2, p26_3⟩ := h26
          have f26 : Fr W_cp Mc Ma26 := Fr.t FL15 (Fr.m g26 (by decide))
          refine rsl (cI_e rfl) ?_
          refine rsl (if_neg (eqI_n (rfl) (li_3) (by omega))) ?_
          refine rsl (ltI_q (z := (k8 + 1)) (adI (hk8) (li_1))) ?_
          refine rsr (vC_e (rk_160 (hR.fr FR15))) ?_
          refine RrI (x196_s (by omega) (hR.fr FR15) (u4115) (u4215) (u4315) (u5115) (u5315) (u4815) (u4915) (li_14) (li_0) (by omega)) fun v Ma28 h28 => ?_
          obtain ⟨rv27, em27, rfl, g28, e28_em27, e28_k0, e28_k1, e28_k2, e28_k3, e28_k4, p28_0, p28_1⟩ := h28
          have f28 : Fr W_rp Mr Ma28 := Fr.t FR15 (Fr.m g28 (by decide))
          refine rsr (cI_e rfl) ?_
          exact hgo 0 _ _ (by omega) (Or.inr ⟨(k8 + 1), F15, P15, rfl, by omega, f26, f28, ⟨ti15, sz25, sn25, uc25, e26_k0, e26_k1, e26_k2, e26_k3, e26_sz25, e26_sn25, e26_uc25, by omega⟩, ⟨em27, rn15, ru15, rm15, rt15, e28_k0, e28_k1, e28_em27, e28_k2, e28_k3, e28_k4, (g28.i _ _ (by decide)).trans (u4915), by omega⟩, rfl⟩)
      ·
        by_cases c29 : ((kd i8)) = 42
        ·
          refine rsl (cI_e (lk_42 (by omega) ((rfl).trans (congrArg iI (by omega))))) ?_
          refine rsl (if_pos (eqI_p (rfl) (rfl) (by omega))) ?_
          refine rsl (gtI_q (w := iI ((kd i8))) (ck_65 (hC.fr FL8)) (q8_13)) ?_
          refine rsl (cI_e (ok_42 (by omega) ((rfl).trans (congrArg iI (by omega))))) ?_
          refine rsl (vC_e (ck_65 (hC.fr FL8))) ?_
          have hm30 : i8 + 1 < m := hS.more i8 (by omega) (by omega) (by omega)
          refine rsl (cV_e (a63q (by omega) hS (hC.fr FL8) (hTk.fr (WL := W_cp) FL8 (by decide)) (q8_12) (q8_13) (q8_10) (i2 := (i8 + 1)) (by omega) (by omega))) ?_
          have hk31 := (hS.ok (i8 + 1) (by omega) (by omega)).r
          refine rsl (vC_e (ck_65 (hC.fr FL8).sI.sI)) ?_
          refine rsr (gtI_q (w := iI 0) (rk_160 (hR.fr FR8)) (w8_41)) ?_
          refine rsr (if_pos (eqI_p (rfl) (li_0) (by omega))) ?_
          refine rsr (gtI_q (w := iI ((kr (kd i8)))) (rk_160 (hR.fr FR8)) (w8_36)) ?_
          refine rsr (jn_v) ?_
          refine rsr (if_pos (krI_p (k := 42) (rfl) (li_42) (by omega) (by decide +kernel))) ?_
          refine rsr (jv_e) ?_
          refine rsr (gtI_q (w := iI ((kr (kd i8)))) (rk_160 (hR.fr FR8)) (w8_36)) ?_
          refine rsr (jn_v) ?_
          refine rsr (if_pos (krI_p (k := 42) (rfl) (li_42) (by omega) (by decide +kernel))) ?_
          refine rsr (jv_e) ?_
          refine rsr (vC_e (rk_160 (hR.fr FR8))) ?_
          refine RrV (nx_ok (by omega) hS (hR.fr FR8) (hT.fr (W := W_rx) FR8 (by decide) (by decide)) (fun i a b => (Fr.lc (W := W_rx) FR8 _ (by decide) _).trans (hW i a b)) (i := i8) (w8_41) (w8_38) (by omega) (by omega)) fun v Ma33 h33 => ?_
          obtain ⟨g33, e33_k0, e33_k1, e33_k2, p33_0⟩ := h33
          have f33 : Fr W_rx Mr Ma33 := Fr.t FR8 (Fr.m g33 (by decide))
          refine rsr (cV_e rfl) ?_
          refine rsr (vC_e (rk_160 (hR.fr f33))) ?_
          refine Rb_VV (hp _ _ (by omega) (by omega) T n m kd pl E tx ua ut mu _ _ G8 U8 Hl X8 (i8 + 1) e8 s u8 uc8 _ hS (hCx.fr (Fr.sI (by decide) (Fr.sI (by decide) FL8)) f33) ⟨(sI_nej (by decide)).trans (sI_eq), sI_eq, (sI_nej (by decide)).trans ((sI_nej (by decide)).trans (q8_10)), (sI_nej (by decide)).trans ((sI_nej (by decide)).trans (q8_9)), (sI_nej (by decide)).trans ((sI_nej (by decide)).trans (q8_16)), (sI_nej (by decide)).trans ((sI_nej (by decide)).trans (q8_19))⟩ ⟨e33_k0, e33_k1, e33_k2, (g33.i _ _ (by decide)).trans (w8_41), (g33.i _ _ (by decide)).trans (w8_43), (g33.i _ _ (by decide)).trans (w8_51), (g33.i _ _ (by decide)).trans (w8_53), (g33.i _ _ (by decide)).trans (w8_50), p33_0⟩ ⟨(ca8.fr (W := W_c0) (Fr.sI (by decide) (Fr.sI (by decide) Fr.r)) (by decide)), (ra8.fr g33 (by decide)), (lc8.fr (W := W_c0) (Fr.sI (by decide) (Fr.sI (by decide) Fr.r)) (by decide)), (lr8.fr g33 (by decide)), (cu8.fr (W := W_c0) (Fr.sI (by decide) (Fr.sI (by decide) Fr.r)) (by decide)), (ru8.fr g33 (by decide))⟩ ⟨by omega, by omega, by omega, by omega, by omega, by omega, by omega, by omega, by omega, by omega, by omega, by omega⟩ (vs2 (adI (rfl) (li_1)) (rfl))) fun v Mx34 w Nx34 hx34 => ?_
          rcases hx34 with ⟨i34, e34, u34, uc34, G34, U34, X34, fl34, fr34, sc34, sr34, rw34, bd34, mv34, ag34, au34, ax34, tp34, dp34, kv34⟩ | ⟨F34, P34, fl34, fr34, tc34, tr34⟩
          ·
            have FL34 : Fr W_cp Mc Mx34 := Fr.t (Fr.sI (by decide) (Fr.sI (by decide) FL8)) fl34
            have FR34 : Fr W_rx Mr Nx34 := Fr.t f33 fr34
            obtain ⟨bb34_0, bb34_1, bb34_2, bb34_3, bb34_4, bb34_5, bb34_6, bb34_7, bb34_8, bb34_9, bb34_10, bb34_11⟩ := bd34
            obtain ⟨q34_12, q34_13, q34_10, q34_9, q34_16, q34_19⟩ := sc34
            obtain ⟨w34_36, w34_37, w34_38, w34_41, w34_43, w34_51, w34_53, w34_50, w34_n⟩ := sr34
            obtain ⟨ca34, ra34, lc34, lr34, cu34, ru34⟩ := rw34
            have hk35 := (hS.ok i34 (by omega) (by omega)).r
            have ku34 := KU.t (ku8.fr (W := W_c0) (Fr.sI (by decide) (Fr.sI (by decide) Fr.r)) (by decide)) kv34 (by omega)
            have ty36 := Tye.t (d3 := 2) tp8 ag34 tp34 (by omega)
            have du37 := DU.t dp8 ag34 au34 ax34 dp34 (by omega)
            refine rsl (cV_e rfl) ?_
            refine rsr (cV_e rfl) ?_
            refine rsl (vC_e (ck_65 (hC.fr FL34))) ?_
            have ty39 := Tye.em (d := 2) (d' := 1) (q := (e34 + 1)) (n1 := 0) (ut := ut) (mu := mu) (l := []) ty36 (Or.inr (Or.inr (Or.inr (Or.inr (Or.inr (Or.inr (Or.inr (Or.inl (by omega)))))))) : Eff 12 0 0 2 s 1 s) (by omega) ⟨by omega, by omega⟩ (by omega)
            have du40 := DU.em (q := (e34 + 1)) (o := 12) (n := 0) (p := -2) (l := [0]) du37 (by omega) (by omega)
            refine RlI (a87 (by omega) (hC.fr FL34) (q34_9) (rfl) (li_0) (by omega)) fun v Ma41 h41 => ?_
            obtain ⟨r38, rfl, g41, e41_k0, p41_0, p41_1⟩ := h41
            have f41 : Fr W_cp Mc Ma41 := Fr.t FL34 (Fr.m g41 (by decide))
            refine rsl (cI_e rfl) ?_
            refine rsl (if_neg (eqI_n (rfl) (li_3) (by omega))) ?_
            refine rsl (ltI_q (z := (k8 + 1)) (adI (hk8) (li_1))) ?_
            refine rsr (vC_e (rk_160 (hR.fr FR34))) ?_
            refine RrI (a196 (by omega) (hR.fr FR34) (w34_43) ((FR34.i _ _ (by decide)).trans h49) ((FR34.i _ _ (by decide)).trans h48) (li_12) (li_0) (by omega)) fun v Ma43 h43 => ?_
            obtain ⟨r42, rfl, g43, e43_k0, p43_0, p43_1⟩ := h43
            have f43 : Fr W_rx Mr Ma43 := Fr.t FR34 (Fr.m g43 (by decide))
            refine rsr (cI_e rfl) ?_
            exact hgo (m - i34 + 1).toNat _ _ (by omega) (Or.inl ⟨(k8 + 1), i34, rfl, by omega, ⟨(e34 + 1), u34, uc34, (pu G34 e34 [12, 0, -2, 0, ut, mu, 0]), U34, X34, f41, f43, ⟨(g41.i _ _ (by decide)).trans (q34_12), (g41.i _ _ (by decide)).trans (q34_13), (g41.i _ _ (by decide)).trans (q34_10), e41_k0, (g41.i _ _ (by decide)).trans (q34_16), (g41.i _ _ (by decide)).trans (q34_19)⟩, ⟨(g43.i _ _ (by decide)).trans (w34_36), (g43.i _ _ (by decide)).trans (w34_37), (g43.i _ _ (by decide)).trans (w34_38), (g43.i _ _ (by decide)).trans (w34_41), e43_k0, (g43.i _ _ (by decide)).trans (w34_51), (g43.i _ _ (by decide)).trans (w34_53), (g43.i _ _ (by decide)).trans (w34_50), (w34_n.fr g43 (by decide) (by decide))⟩, ⟨(CA1.em ca34 (by omega) p41_1 rfl), (RA1.em ra34 (by omega) p43_1 rfl), (lc34.fr g41 (by decide)), (lr34.fr g43 (by decide)), (cu34.fr g41 (by decide)), (ru34.fr g43 (by decide))⟩, ⟨by omega, by omega, by omega, by omega, by omega, by omega, by omega, by omega, by omega, by omega, by omega, by omega⟩, ⟨by omega, by omega, by omega, by omega, by omega, by omega⟩, (Ag.pu (Ag.t ag8 ag34 (by omega)) (by omega)), (Ag.t au8 au34 (by omega)), (AgL.t ax8 ax34 (by omega)), ty39, du40, (ku34.fr g41 (by decide))⟩, by omega⟩)
          ·
            have FL34 : Fr W_cp Mc Mx34 := Fr.t (Fr.sI (by decide) (Fr.sI (by decide) FL8)) fl34
            have FR34 : Fr W_rp Mr Nx34 := Fr.t (Fr.m f33 W_rx_p) fr34
            obtain ⟨ti34, tz34, tn34, tu34, t1334, t1034, t1134, t1234, t934, t1634, t1934, tb34⟩ := tc34
            obtain ⟨re34, rn34, ru34, rm34, rt34, u4134, u4234, u4334, u5134, u5334, u4834, u4934, ub34⟩ := tr34
            refine rsl (cV_e rfl) ?_
            refine rsr (cV_e rfl) ?_
            refine rsl (vC_e (ck_65 (hC.fr FL34))) ?_
            refine RlI (y87 (by omega) (hC.fr FL34) (hTk.fr (WL := W_cp) FL34 (by decide)) (t1234) (t1334) (t1034) (t1134) (t934) (t1634) (t1934) (rfl) (li_0) (by omega)) fun v Ma45 h45 => ?_
            obtain ⟨rv44, sz44, sn44, uc44, rfl, g45, e45_sz44, e45_sn44, e45_uc44, e45_k0, e45_k1, e45_k2, e45_k3, p45_0, p45_1, p45_2, p45_3⟩ := h45
            have f45 : Fr W_cp Mc Ma45 := Fr.t FL34 (Fr.m g45 (by decide))
            refine rsl (cI_e rfl) ?_
            refine rsl (if_neg (eqI_n (rfl) (li_3) (by omega))) ?_
            refine rsl (ltI_q (z := (k8 + 1)) (adI (hk8) (li_1))) ?_
            refine rsr (vC_e (rk_160 (hR.fr FR34))) ?_
            refine RrI (x196_s (by omega) (hR.fr FR34) (u4134) (u4234) (u4334) (u5134) (u5334) (u4834) (u4934) (li_12) (li_0) (by omega)) fun v Ma47 h47 => ?_
            obtain ⟨rv46, em46, rfl, g47, e47_em46, e47_k0, e47_k1, e47_k2, e47_k3, e47_k4, p47_0, p47_1⟩ := h47
            have f47 : Fr W_rp Mr Ma47 := Fr.t FR34 (Fr.m g47 (by decide))
            refine rsr (cI_e rfl) ?_
            exact hgo 0 _ _ (by omega) (Or.inr ⟨(k8 + 1), F34, P34, rfl, by omega, f45, f47, ⟨ti34, sz44, sn44, uc44, e45_k0, e45_k1, e45_k2, e45_k3, e45_sz44, e45_sn44, e45_uc44, by omega⟩, ⟨em46, rn34, ru34, rm34, rt34, e47_k0, e47_k1, e47_em46, e47_k2, e47_k3, e47_k4, (g47.i _ _ (by decide)).trans (u4934), by omega⟩, rfl⟩)
        ·
          by_cases c48 : ((kd i8)) = 47
          ·
            refine rsl (cI_e (lk_47 (by omega) ((rfl).trans (congrArg iI (by omega))))) ?_
            refine rsl (if_pos (eqI_p (rfl) (rfl) (by omega))) ?_
            refine rsl (gtI_q (w := iI ((kd i8))) (ck_65 (hC.fr FL8)) (q8_13)) ?_
            refine rsl (cI_e (ok_47 (by omega) ((rfl).trans (congrArg iI (by omega))))) ?_
            refine rsl (vC_e (ck_65 (hC.fr FL8))) ?_
            have hm49 : i8 + 1 < m := hS.more i8 (by omega) (by omega) (by omega)
            refine rsl (cV_e (a63q (by omega) hS (hC.fr FL8) (hTk.fr (WL := W_cp) FL8 (by decide)) (q8_12) (q8_13) (q8_10) (i2 := (i8 + 1)) (by omega) (by omega))) ?_
            have hk50 := (hS.ok (i8 + 1) (by omega) (by omega)).r
            refine rsl (vC_e (ck_65 (hC.fr FL8).sI.sI)) ?_
            refine rsr (gtI_q (w := iI 0) (rk_160 (hR.fr FR8)) (w8_41)) ?_
            refine rsr (if_pos (eqI_p (rfl) (li_0) (by omega))) ?_
            refine rsr (gtI_q (w := iI ((kr (kd i8)))) (rk_160 (hR.fr FR8)) (w8_36)) ?_
            refine rsr (jn_v) ?_
            refine rsr (if_neg (krI_n (k := 42) (rfl) (li_42) (hS.ok i8 (by omega) (by omega)) (by unfold KdOK sgk; omega) (by decide +kernel) (by omega) (by omega))) ?_
            refine rsr (gtI_q (w := iI ((kr (kd i8)))) (rk_160 (hR.fr FR8)) (w8_36)) ?_
            refine rsr (if_pos (krI_p (k := 47) (rfl) (li_47) (by omega) (by decide +kernel))) ?_
            refine rsr (jv_e) ?_
            refine rsr (gtI_q (w := iI ((kr (kd i8)))) (rk_160 (hR.fr FR8)) (w8_36)) ?_
            refine rsr (jn_v) ?_
            refine rsr (if_neg (krI_n (k := 42) (rfl) (li_42) (hS.ok i8 (by omega) (by omega)) (by unfold KdOK sgk; omega) (by decide +kernel) (by omega) (by omega))) ?_
            refine rsr (gtI_q (w := iI ((kr (kd i8)))) (rk_160 (hR.fr FR8)) (w8_36)) ?_
            refine rsr (if_pos (krI_p (k := 47) (rfl) (li_47) (by omega) (by decide +kernel))) ?_
            refine rsr (jv_e) ?_
            refine rsr (vC_e (rk_160 (hR.fr FR8))) ?_
            refine RrV (nx_ok (by omega) hS (hR.fr FR8) (hT.fr (W := W_rx) FR8 (by decide) (by decide)) (fun i a b => (Fr.lc (W := W_rx) FR8 _ (by decide) _).trans (hW i a b)) (i := i8) (w8_41) (w8_38) (by omega) (by omega)) fun v Ma52 h52 => ?_
            obtain ⟨g52, e52_k0, e52_k1, e52_k2, p52_0⟩ := h52
            have f52 : Fr W_rx Mr Ma52 := Fr.t FR8 (Fr.m g52 (by decide))
            refine rsr (cV_e rfl) ?_
            refine rsr (vC_e (rk_160 (hR.fr f52))) ?_
            refine Rb_VV (hp _ _ (by omega) (by omega) T n m kd pl E tx ua ut mu _ _ G8 U8 Hl X8 (i8 + 1) e8 s u8 uc8 _ hS (hCx.fr (Fr.sI (by decide) (Fr.sI (by decide) FL8)) f52) ⟨(sI_nej (by decide)).trans (sI_eq), sI_eq, (sI_nej (by decide)).trans ((sI_nej (by decide)).trans (q8_10)), (sI_nej (by decide)).trans ((sI_nej (by decide)).trans (q8_9)), (sI_nej (by decide)).trans ((sI_nej (by decide)).trans (q8_16)), (sI_nej (by decide)).trans ((sI_nej (by decide)).trans (q8_19))⟩ ⟨e52_k0, e52_k1, e52_k2, (g52.i _ _ (by decide)).trans (w8_41), (g52.i _ _ (by decide)).trans (w8_43), (g52.i _ _ (by decide)).trans (w8_51), (g52.i _ _ (by decide)).trans (w8_53), (g52.i _ _ (by decide)).trans (w8_50), p52_0⟩ ⟨(ca8.fr (W := W_c0) (Fr.sI (by decide) (Fr.sI (by decide) Fr.r)) (by decide)), (ra8.fr g52 (by decide)), (lc8.fr (W := W_c0) (Fr.sI (by decide) (Fr.sI (by decide) Fr.r)) (by decide)), (lr8.fr g52 (by decide)), (cu8.fr (W := W_c0) (Fr.sI (by decide) (Fr.sI (by decide) Fr.r)) (by decide)), (ru8.fr g52 (by decide))⟩ ⟨by omega, by omega, by omega, by omega, by omega, by omega, by omega, by omega, by omega, by omega, by omega, by omega⟩ (vs2 (adI (rfl) (li_1)) (rfl))) fun v Mx53 w Nx53 hx53 => ?_
            rcases hx53 with ⟨i53, e53, u53, uc53, G53, U53, X53, fl53, fr53, sc53, sr53, rw53, bd53, mv53, ag53, au53, ax53, tp53, dp53, kv53⟩ | ⟨F53, P53, fl53, fr53, tc53, tr53⟩
            ·
              have FL53 : Fr W_cp Mc Mx53 := Fr.t (Fr.sI (by decide) (Fr.sI (by decide) FL8)) fl53
              have FR53 : Fr W_rx Mr Nx53 := Fr.t f52 fr53
              obtain ⟨bb53_0, bb53_1, bb53_2, bb53_3, bb53_4, bb53_5, bb53_6, bb53_7, bb53_8, bb53_9, bb53_10, bb53_11⟩ := bd53
              obtain ⟨q53_12, q53_13, q53_10, q53_9, q53_16, q53_19⟩ := sc53
              obtain ⟨w53_36, w53_37, w53_38, w53_41, w53_43, w53_51, w53_53, w53_50, w53_n⟩ := sr53
              obtain ⟨ca53, ra53, lc53, lr53, cu53, ru53⟩ := rw53
              have hk54 := (hS.ok i53 (by omega) (by omega)).r
              have ku53 := KU.t (ku8.fr (W := W_c0) (Fr.sI (by decide) (Fr.sI (by decide) Fr.r)) (by decide)) kv53 (by omega)
              have ty55 := Tye.t (d3 := 2) tp8 ag53 tp53 (by omega)
              have du56 := DU.t dp8 ag53 au53 ax53 dp53 (by omega)
              refine rsl (cV_e rfl) ?_
              refine rsr (cV_e rfl) ?_
              refine rsl (vC_e (ck_65 (hC.fr FL53))) ?_
              have ty58 := Tye.em (d := 2) (d' := 1) (q := (e53 + 1)) (n1 := 0) (ut := ut) (mu := mu) (l := []) ty55 (Or.inr (Or.inr (Or.inr (Or.inr (Or.inr (Or.inr (Or.inr (Or.inl (by omega)))))))) : Eff 13 0 0 2 s 1 s) (by omega) ⟨by omega, by omega⟩ (by omega)
              have du59 := DU.em (q := (e53 + 1)) (o := 13) (n := 0) (p := -2) (l := [0]) du56 (by omega) (by omega)
              refine RlI (a87 (by omega) (hC.fr FL53) (q53_9) (rfl) (li_0) (by omega)) fun v Ma60 h60 => ?_
              obtain ⟨r57, rfl, g60, e60_k0, p60_0, p60_1⟩ := h60
              have f60 : Fr W_cp Mc Ma60 := Fr.t FL53 (Fr.m g60 (by decide))
              refine rsl (cI_e rfl) ?_
              refine rsl (if_neg (eqI_n (rfl) (li_3) (by omega))) ?_
              refine rsl (ltI_q (z := (k8 + 1)) (adI (hk8) (li_1))) ?_
              refine rsr (vC_e (rk_160 (hR.fr FR53))) ?_
              refine RrI (a196 (by omega) (hR.fr FR53) (w53_43) ((FR53.i _ _ (by decide)).trans h49) ((FR53.i _ _ (by decide)).trans h48) (li_13) (li_0) (by omega)) fun v Ma62 h62 => ?_
              obtain ⟨r61, rfl, g62, e62_k0, p62_0, p62_1⟩ := h62
              have f62 : Fr W_rx Mr Ma62 := Fr.t FR53 (Fr.m g62 (by decide))
              refine rsr (cI_e rfl) ?_
              exact hgo (m - i53 + 1).toNat _ _ (by omega) (Or.inl ⟨(k8 + 1), i53, rfl, by omega, ⟨(e53 + 1), u53, uc53, (pu G53 e53 [13, 0, -2, 0, ut, mu, 0]), U53, X53, f60, f62, ⟨(g60.i _ _ (by decide)).trans (q53_12), (g60.i _ _ (by decide)).trans (q53_13), (g60.i _ _ (by decide)).trans (q53_10), e60_k0, (g60.i _ _ (by decide)).trans (q53_16), (g60.i _ _ (by decide)).trans (q53_19)⟩, ⟨(g62.i _ _ (by decide)).trans (w53_36), (g62.i _ _ (by decide)).trans (w53_37), (g62.i _ _ (by decide)).trans (w53_38), (g62.i _ _ (by decide)).trans (w53_41), e62_k0, (g62.i _ _ (by decide)).trans (w53_51), (g62.i _ _ (by decide)).trans (w53_53), (g62.i _ _ (by decide)).trans (w53_50), (w53_n.fr g62 (by decide) (by decide))⟩, ⟨(CA1.em ca53 (by omega) p60_1 rfl), (RA1.em ra53 (by omega) p62_1 rfl), (lc53.fr g60 (by decide)), (lr53.fr g62 (by decide)), (cu53.fr g60 (by decide)), (ru53.fr g62 (by decide))⟩, ⟨by omega, by omega, by omega, by omega, by omega, by omega, by omega, by omega, by omega, by omega, by omega, by omega⟩, ⟨by omega, by omega, by omega, by omega, by omega, by omega⟩, (Ag.pu (Ag.t ag8 ag53 (by omega)) (by omega)), (Ag.t au8 au53 (by omega)), (AgL.t ax8 ax53 (by omega)), ty58, du59, (ku53.fr g60 (by decide))⟩, by omega⟩)
            ·
              have FL53 : Fr W_cp Mc Mx53 := Fr.t (Fr.sI (by decide) (Fr.sI (by decide) FL8)) fl53
              have FR53 : Fr W_rp Mr Nx53 := Fr.t (Fr.m f52 W_rx_p) fr53
              obtain ⟨ti53, tz53, tn53, tu53, t1353, t1053, t1153, t1253, t953, t1653, t1953, tb53⟩ := tc53
              obtain ⟨re53, rn53, ru53, rm53, rt53, u4153, u4253, u4353, u5153, u5353, u4853, u4953, ub53⟩ := tr53
              refine rsl (cV_e rfl) ?_
              refine rsr (cV_e rfl) ?_
              refine rsl (vC_e (ck_65 (hC.fr FL53))) ?_
              refine RlI (y87 (by omega) (hC.fr FL53) (hTk.fr (WL := W_cp) FL53 (by decide)) (t1253) (t1353) (t1053) (t1153) (t953) (t1653) (t1953) (rfl) (li_0) (by omega)) fun v Ma64 h64 => ?_
              obtain ⟨rv63, sz63, sn63, uc63, rfl, g64, e64_sz63, e64_sn63, e64_uc63, e64_k0, e64_k1, e64_k2, e64_k3, p64_0, p64_1, p64_2, p64_3⟩ := h64
              have f64 : Fr W_cp Mc Ma64 := Fr.t FL53 (Fr.m g64 (by decide))
              refine rsl (cI_e rfl) ?_
              refine rsl (if_neg (eqI_n (rfl) (li_3) (by omega))) ?_
              refine rsl (ltI_q (z := (k8 + 1)) (adI (hk8) (li_1))) ?_
              refine rsr (vC_e (rk_160 (hR.fr FR53))) ?_
              refine RrI (x196_s (by omega) (hR.fr FR53) (u4153) (u4253) (u4353) (u5153) (u5353) (u4853) (u4953) (li_13) (li_0) (by omega)) fun v Ma66 h66 => ?_
              obtain ⟨rv65, em65, rfl, g66, e66_em65, e66_k0, e66_k1, e66_k2, e66_k3, e66_k4, p66_0, p66_1⟩ := h66
              have f66 : Fr W_rp Mr Ma66 := Fr.t FR53 (Fr.m g66 (by decide))
              refine rsr (cI_e rfl) ?_
              exact hgo 0 _ _ (by omega) (Or.inr ⟨(k8 + 1), F53, P53, rfl, by omega, f64, f66, ⟨ti53, sz63, sn63, uc63, e64_k0, e64_k1, e64_k2, e64_k3, e64_sz63, e64_sn63, e64_uc63, by omega⟩, ⟨em65, rn53, ru53, rm53, rt53, e66_k0, e66_k1, e66_em65, e66_k2, e66_k3, e66_k4, (g66.i _ _ (by decide)).trans (u4953), by omega⟩, rfl⟩)
          ·
            refine RlI (lv_5 (by omega) (rfl) (by omega)) fun v Ml67 hl67 => ?_
            obtain ⟨rl67, rfl, rfl, nl67, bl67⟩ := hl67
            refine rsl (cI_e rfl) ?_
            refine rsl (if_neg (eqI_n (rfl) (rfl) (by omega))) ?_
            refine rsl (jv_e) ?_
            refine rsr (gtI_q (w := iI 0) (rk_160 (hR.fr FR8)) (w8_41)) ?_
            refine rsr (if_pos (eqI_p (rfl) (li_0) (by omega))) ?_
            refine rsr (gtI_q (w := iI ((kr (kd i8)))) (rk_160 (hR.fr FR8)) (w8_36)) ?_
            refine rsr (jn_v) ?_
            refine rsr (if_neg (krI_n (k := 42) (rfl) (li_42) (hS.ok i8 (by omega) (by omega)) (by unfold KdOK sgk; omega) (by decide +kernel) (by omega) (by omega))) ?_
            refine rsr (gtI_q (w := iI ((kr (kd i8)))) (rk_160 (hR.fr FR8)) (w8_36)) ?_
            refine rsr (if_neg (krI_n (k := 47) (rfl) (li_47) (hS.ok i8 (by omega) (by omega)) (by unfold KdOK sgk; omega) (by decide +kernel) (by omega) (by omega))) ?_
            refine rsr (gtI_q (w := iI ((kr (kd i8)))) (rk_160 (hR.fr FR8)) (w8_36)) ?_
            refine rsr (if_neg (krI_n (k := 37) (rfl) (li_37) (hS.ok i8 (by omega) (by omega)) (by unfold KdOK sgk; omega) (by decide +kernel) (by omega) (by omega))) ?_
            refine rsr (jv_e) ?_
            exact Rs.ok (Or.inl ⟨i8, e8, u8, uc8, G8, U8, X8, FL8, FR8, ⟨q8_12, q8_13, q8_10, q8_9, q8_16, q8_19⟩, ⟨w8_36, w8_37, w8_38, w8_41, w8_43, w8_51, w8_53, w8_50, w8_n⟩, ⟨ca8, ra8, lc8, lr8, cu8, ru8⟩, ⟨by omega, by omega, by omega, by omega, by omega, by omega, by omega, by omega, by omega, by omega, by omega, by omega⟩, ⟨by omega, by omega, by omega, by omega, by omega, by omega⟩, ag8, au8, ax8, tp8, dp8, ku8⟩)
    ·
      obtain ⟨k8, F8, P8, hk8, ⟨hka8, hkb8⟩, FL8, FR8, tc8, tr8, hm8⟩ := hq
      obtain ⟨ti8, tz8, tn8, tu8, t138, t108, t118, t128, t98, t168, t198, tb8⟩ := tc8
      obtain ⟨re8, rn8, ru8, rm8, rt8, u418, u428, u438, u518, u538, u488, u498, ub8⟩ := tr8
      unfold c99_61 c207_4
      refine rsl (if_neg (leI_n (li_3000) (hk8) (by omega))) ?_
      refine rsl (gtI_q (w := iI 2) (ck_65 (hC.fr FL8)) (t138)) ?_
      refine rsl (cI_e (y102 (by omega) (rfl))) ?_
      refine rsl (if_neg (eqI_n (rfl) (rfl) (by omega))) ?_
      refine rsl (jv_e) ?_
      refine rsr (gtI_q (w := iI F8) (rk_160 (hR.fr FR8)) (u418)) ?_
      refine rsr (if_neg (eqI_n (rfl) (li_0) (by omega))) ?_
      refine rsr (jv_e) ?_
      exact Rs.ok (Or.inr ⟨F8, P8, FL8, FR8, ⟨ti8, tz8, tn8, tu8, t138, t108, t118, t128, t98, t168, t198, by omega⟩, ⟨re8, rn8, ru8, rm8, rt8, u418, u428, u438, u518, u538, u488, u498, by omega⟩⟩)
  ·
    have FL4 : Fr W_cp Mc Mx4 := Fr.t Fr.r fl4
    have FR4 : Fr W_rp Mr Nx4 := Fr.t (Fr.m Fr.r W_rx_p) fr4
    obtain ⟨ti4, tz4, tn4, tu4, t134, t104, t114, t124, t94, t164, t194, tb4⟩ := tc4
    obtain ⟨re4, rn4, ru4, rm4, rt4, u414, u424, u434, u514, u534, u484, u494, ub4⟩ := tr4
    refine rsl (cV_e rfl) ?_
    refine rsr (cV_e rfl) ?_
    refine rsl (jn_v) ?_
    refine rsl (jn_v) ?_
    refine rsl (lp_e) ?_
    unfold c99_61
    refine rsl (if_neg (leI_n (li_3000) (li_0) (by omega))) ?_
    refine rsl (gtI_q (w := iI 2) (ck_65 (hC.fr FL4)) (t134)) ?_
    refine rsl (cI_e (y102 (by omega) (rfl))) ?_
    refine rsl (if_neg (eqI_n (rfl) (rfl) (by omega))) ?_
    refine rsl (jv_e) ?_
    refine rsr (jn_v) ?_
    refine rsr (lp_e) ?_
    unfold c207_4
    refine rsr (gtI_q (w := iI F4) (rk_160 (hR.fr FR4)) (u414)) ?_
    refine rsr (if_neg (eqI_n (rfl) (li_0) (by omega))) ?_
    refine rsr (jv_e) ?_
    exact Rs.ok (Or.inr ⟨F4, P4, FL4, FR4, ⟨ti4, tz4, tn4, tu4, t134, t104, t114, t124, t94, t164, t194, by omega⟩, ⟨re4, rn4, ru4, rm4, rt4, u414, u424, u434, u514, u534, u484, u494, by omega⟩⟩)
theorem p_4 {D : Nat} {dp : Int} (hD : 20 ≤ D) (hp : Pair D 99 [5] 207 19 dp) : Pair (D + 1) 99 [4] 208 18 dp := by
  intro d d2 hd hd2 T n m kd pl E tx ua ut mu Mc Mr G U Hl X i e s u uc vs hS hx hsc hsr hrw hbd hvs
  subst hvs
  obtain ⟨d, rfl⟩ : ∃ e, d = e + 1 := ⟨d - 1, by omega⟩
  obtain ⟨d2, rfl⟩ : ∃ e, d2 = e + 1 := ⟨d2 - 1, by omega⟩
  show Rs (runX (d + 1) 99 [va_rf (some 65), .int (iI 4), .int (iI dp)] Mc) (runX (d2 + 1) 208 [va_rf (some 160)] Mr) _
  rw [r99]; unfold b99; rw [aR_e, aI_e, aI_e, aZ_e]; unfold c99; rw [r208]; unfold b208; rw [aR_e, aZ_e]; unfold c208
  have hCx := hx
  obtain ⟨hC, hR, hTk, hT, hW, ⟨hu1, hu2, hu3, hu4⟩, h49, h48, ⟨hb1, hb2, hb3, hb4⟩⟩ := hx
  obtain ⟨bb_0, bb_1, bb_2, bb_3, bb_4, bb_5, bb_6, bb_7, bb_8, bb_9, bb_10, bb_11⟩ := hbd
  have kua : KU uc Mc Mc := KU.r
  obtain ⟨qa_12, qa_13, qa_10, qa_9, qa_16, qa_19⟩ := hsc
  obtain ⟨wa_36, wa_37, wa_38, wa_41, wa_43, wa_51, wa_53, wa_50, wa_n⟩ := hsr
  obtain ⟨caa, raa, lca, lra, cua, rua⟩ := hrw
  have hk1 := (hS.ok i (by omega) (by omega)).r
  have ty2 := (Tye.r (G := G) (a := e) (s := s))
  have du3 := (DU.r (ut := ut) (mu := mu) (c := uc) (G := G) (U := U) (X := X) (a := e) (u := u))
  refine rsl (if_pos (leI_p (rfl) (li_5) (by omega))) ?_
  refine rsl (jn_v) ?_
  refine rsl (if_neg (eqI_n (rfl) (li_2) (by omega))) ?_
  refine rsl (jv_e) ?_
  refine rsl (vC_e (ck_65 hC)) ?_
  refine rsr (vC_e (rk_160 hR)) ?_
  refine Rb_VV (hp _ _ (by omega) (by omega) T n m kd pl E tx ua ut mu _ _ G U Hl X i e s u uc _ hS (hCx.fr Fr.r Fr.r) ⟨qa_12, qa_13, qa_10, qa_9, qa_16, qa_19⟩ ⟨wa_36, wa_37, wa_38, wa_41, wa_43, wa_51, wa_53, wa_50, wa_n⟩ ⟨caa, raa, lca, lra, cua, rua⟩ ⟨by omega, by omega, by omega, by omega, by omega, by omega, by omega, by omega, by omega, by omega, by omega, by omega⟩ (vs2 (adI (rfl) (li_1)) (rfl))) fun v Mx4 w Nx4 hx4 => ?_
  rcases hx4 with ⟨i4, e4, u4, uc4, G4, U4, X4, fl4, fr4, sc4, sr4, rw4, bd4, mv4, ag4, au4, ax4, tp4, dp4, kv4⟩ | ⟨F4, P4, fl4, fr4, tc4, tr4⟩
  ·
    have FL4 : Fr W_cp Mc Mx4 := Fr.t Fr.r fl4
    have FR4 : Fr W_rx Mr Nx4 := Fr.t Fr.r fr4
    obtain ⟨bb4_0, bb4_1, bb4_2, bb4_3, bb4_4, bb4_5, bb4_6, bb4_7, bb4_8, bb4_9, bb4_10, bb4_11⟩ := bd4
    obtain ⟨q4_12, q4_13, q4_10, q4_9, q4_16, q4_19⟩ := sc4
    obtain ⟨w4_36, w4_37, w4_38, w4_41, w4_43, w4_51, w4_53, w4_50, w4_n⟩ := sr4
    obtain ⟨ca4, ra4, lc4, lr4, cu4, ru4⟩ := rw4
    have hk5 := (hS.ok i4 (by omega) (by omega)).r
    have ku4 := KU.t kua kv4 (by omega)
    have ty6 := Tye.t (d3 := 1) ty2 ag4 tp4 (by omega)
    have du7 := DU.t du3 ag4 au4 ax4 dp4 (by omega)
    refine rsl (cV_e rfl) ?_
    refine rsr (cV_e rfl) ?_
    refine rsl (jn_v) ?_
    refine rsl (jn_v) ?_
    refine rsr (jn_v) ?_
    refine Rb_lp (fun m2 q t => (∃ (k i2 : Int), q.1 = iI k ∧ (0 ≤ k ∧ k ≤ i2) ∧ PK 1 ut mu m kd pl E tx Mc Mr G U Hl X i e s u uc dp q.2 t i2 ∧ (m2 : Int) = m - i2 + 1) ∨ ∃ (k F P : Int), q.1 = iI k ∧ (0 ≤ k ∧ k ≤ 1500) ∧ Fr W_cp Mc q.2 ∧ Fr W_rp Mr t ∧ FTc m F P q.2 ∧ FTr (2500 - 30 * dp - 18) F P t ∧ m2 = 0) (fun m2 q t gl gr hq hgo => ?_) (m - i4 + 1).toNat _ _ _ _ (by omega) (by omega) (Or.inl ⟨0, i4, li_0, by omega, ⟨e4, u4, uc4, G4, U4, X4, FL4, FR4, ⟨q4_12, q4_13, q4_10, q4_9, q4_16, q4_19⟩, ⟨w4_36, w4_37, w4_38, w4_41, w4_43, w4_51, w4_53, w4_50, w4_n⟩, ⟨ca4, ra4, lc4, lr4, cu4, ru4⟩, ⟨by omega, by omega, by omega, by omega, by omega, by omega, by omega, by omega, by omega, by omega, by omega, by omega⟩, ⟨by omega, by omega, by omega, by omega, by omega, by omega⟩, (Ag.t Ag.r ag4 (by omega)), (Ag.t Ag.r au4 (by omega)), (AgL.t AgL.r ax4 (by omega)), ty6, du7, ku4⟩, by omega⟩)
    obtain ⟨qk8, qm8⟩ := q
    dsimp only at hq
    try dsimp only
    rcases hq with hq | hq
    ·
      obtain ⟨k8, i8, hk8, ⟨hka8, hkb8⟩, ⟨e8, u8, uc8, G8, U8, X8, FL8, FR8, sc8, sr8, rw8, bd8, ⟨mv8_0, mv8_1, mv8_2, mv8_3, mv8_4, mv8_5⟩, ag8, au8, ax8, tp8, dp8, ku8⟩, hm8⟩ := hq
      obtain ⟨bb8_0, bb8_1, bb8_2, bb8_3, bb8_4, bb8_5, bb8_6, bb8_7, bb8_8, bb8_9, bb8_10, bb8_11⟩ := bd8
      obtain ⟨q8_12, q8_13, q8_10, q8_9, q8_16, q8_19⟩ := sc8
      obtain ⟨w8_36, w8_37, w8_38, w8_41, w8_43, w8_51, w8_53, w8_50, w8_n⟩ := sr8
      obtain ⟨ca8, ra8, lc8, lr8, cu8, ru8⟩ := rw8
      have hk9 := (hS.ok i8 (by omega) (by omega)).r
      unfold c99_61 c208_4
      refine rsl (if_neg (leI_n (li_3000) (hk8) (by omega))) ?_
      refine rsl (gtI_q (w := iI ((kd i8))) (ck_65 (hC.fr FL8)) (q8_13)) ?_
      by_cases c10 : ((kd i8)) = 43
      ·
        refine rsl (cI_e (lk_43 (by omega) ((rfl).trans (congrArg iI (by omega))))) ?_
        refine rsl (if_pos (eqI_p (rfl) (rfl) (by omega))) ?_
        refine rsl (gtI_q (w := iI ((kd i8))) (ck_65 (hC.fr FL8)) (q8_13)) ?_
        refine rsl (cI_e (ok_43 (by omega) ((rfl).trans (congrArg iI (by omega))))) ?_
        refine rsl (vC_e (ck_65 (hC.fr FL8))) ?_
        have hm11 : i8 + 1 < m := hS.more i8 (by omega) (by omega) (by omega)
        refine rsl (cV_e (a63q (by omega) hS (hC.fr FL8) (hTk.fr (WL := W_cp) FL8 (by decide)) (q8_12) (q8_13) (q8_10) (i2 := (i8 + 1)) (by omega) (by omega))) ?_
        have hk12 := (hS.ok (i8 + 1) (by omega) (by omega)).r
        refine rsl (vC_e (ck_65 (hC.fr FL8).sI.sI)) ?_
        refine rsr (gtI_q (w := iI 0) (rk_160 (hR.fr FR8)) (w8_41)) ?_
        refine rsr (if_pos (eqI_p (rfl) (li_0) (by omega))) ?_
        refine rsr (gtI_q (w := iI ((kr (kd i8)))) (rk_160 (hR.fr FR8)) (w8_36)) ?_
        refine rsr (jn_v) ?_
        refine rsr (if_pos (krI_p (k := 43) (rfl) (li_43) (by omega) (by decide +kernel))) ?_
        refine rsr (jv_e) ?_
        refine rsr (gtI_q (w := iI ((kr (kd i8)))) (rk_160 (hR.fr FR8)) (w8_36)) ?_
        refine rsr (jn_v) ?_
        refine rsr (if_pos (krI_p (k := 43) (rfl) (li_43) (by omega) (by decide +kernel))) ?_
        refine rsr (jv_e) ?_
        refine rsr (vC_e (rk_160 (hR.fr FR8))) ?_
        refine RrV (nx_ok (by omega) hS (hR.fr FR8) (hT.fr (W := W_rx) FR8 (by decide) (by decide)) (fun i a b => (Fr.lc (W := W_rx) FR8 _ (by decide) _).trans (hW i a b)) (i := i8) (w8_41) (w8_38) (by omega) (by omega)) fun v Ma14 h14 => ?_
        obtain ⟨g14, e14_k0, e14_k1, e14_k2, p14_0⟩ := h14
        have f14 : Fr W_rx Mr Ma14 := Fr.t FR8 (Fr.m g14 (by decide))
        refine rsr (cV_e rfl) ?_
        refine rsr (vC_e (rk_160 (hR.fr f14))) ?_
        refine Rb_VV (hp _ _ (by omega) (by omega) T n m kd pl E tx ua ut mu _ _ G8 U8 Hl X8 (i8 + 1) e8 s u8 uc8 _ hS (hCx.fr (Fr.sI (by decide) (Fr.sI (by decide) FL8)) f14) ⟨(sI_nej (by decide)).trans (sI_eq), sI_eq, (sI_nej (by decide)).trans ((sI_nej (by decide)).trans (q8_10)), (sI_nej (by decide)).trans ((sI_nej (by decide)).trans (q8_9)), (sI_nej (by decide)).trans ((sI_nej (by decide)).trans (q8_16)), (sI_nej (by decide)).trans ((sI_nej (by decide)).trans (q8_19))⟩ ⟨e14_k0, e14_k1, e14_k2, (g14.i _ _ (by decide)).trans (w8_41), (g14.i _ _ (by decide)).trans (w8_43), (g14.i _ _ (by decide)).trans (w8_51), (g14.i _ _ (by decide)).trans (w8_53), (g14.i _ _ (by decide)).trans (w8_50), p14_0⟩ ⟨(ca8.fr (W := W_c0) (Fr.sI (by decide) (Fr.sI (by decide) Fr.r)) (by decide)), (ra8.fr g14 (by decide)), (lc8.fr (W := W_c0) (Fr.sI (by decide) (Fr.sI (by decide) Fr.r)) (by decide)), (lr8.fr g14 (by decide)), (cu8.fr (W := W_c0) (Fr.sI (by decide) (Fr.sI (by decide) Fr.r)) (by decide)), (ru8.fr g14 (by decide))⟩ ⟨by omega, by omega, by omega, by omega, by omega, by omega, by omega, by omega, by omega, by omega, by omega, by omega⟩ (vs2 (adI (rfl) (li_1)) (rfl))) fun v Mx15 w Nx15 hx15 => ?_
        rcases hx15 with ⟨i15, e15, u15, uc15, G15, U15, X15, fl15, fr15, sc15, sr15, rw15, bd15, mv15, ag15, au15, ax15, tp15, dp15, kv15⟩ | ⟨F15, P15, fl15, fr15, tc15, tr15⟩
        ·
          have FL15 : Fr W_cp Mc Mx15 := Fr.t (Fr.sI (by decide) (Fr.sI (by decide) FL8)) fl15
          have FR15 : Fr W_rx Mr Nx15 := Fr.t f14 fr15
          obtain ⟨bb15_0, bb15_1, bb15_2, bb15_3, bb15_4, bb15_5, bb15_6, bb15_7, bb15_8, bb15_9, bb15_10, bb15_11⟩ := bd15
          obtain ⟨q15_12, q15_13, q15_10, q15_9, q15_16, q15_19⟩ := sc15
          obtain ⟨w15_36, w15_37, w15_38, w15_41, w15_43, w15_51, w15_53, w15_50, w15_n⟩ := sr15
          obtain ⟨ca15, ra15, lc15, lr15, cu15, ru15⟩ := rw15
          have hk16 := (hS.ok i15 (by omega) (by omega)).r
          have ku15 := KU.t (ku8.fr (W := W_c0) (Fr.sI (by decide) (Fr.sI (by decide) Fr.r)) (by decide)) kv15 (by omega)
          have ty17 := Tye.t (d3 := 2) tp8 ag15 tp15 (by omega)
          have du18 := DU.t dp8 ag15 au15 ax15 dp15 (by omega)
          refine rsl (cV_e rfl) ?_
          refine rsr (cV_e rfl) ?_
          refine rsl (vC_e (ck_65 (hC.fr FL15))) ?_
          have ty20 := Tye.em (d := 2) (d' := 1) (q := (e15 + 1)) (n1 := 0) (ut := ut) (mu := mu) (l := []) ty17 (Or.inr (Or.inr (Or.inr (Or.inr (Or.inr (Or.inr (Or.inr (Or.inl (by omega)))))))) : Eff 10 0 0 2 s 1 s) (by omega) ⟨by omega, by omega⟩ (by omega)
          have du21 := DU.em (q := (e15 + 1)) (o := 10) (n := 0) (p := -2) (l := [0]) du18 (by omega) (by omega)
          refine RlI (a87 (by omega) (hC.fr FL15) (q15_9) (rfl) (li_0) (by omega)) fun v Ma22 h22 => ?_
          obtain ⟨r19, rfl, g22, e22_k0, p22_0, p22_1⟩ := h22
          have f22 : Fr W_cp Mc Ma22 := Fr.t FL15 (Fr.m g22 (by decide))
          refine rsl (cI_e rfl) ?_
          refine rsl (if_neg (eqI_n (rfl) (li_3) (by omega))) ?_
          refine rsl (ltI_q (z := (k8 + 1)) (adI (hk8) (li_1))) ?_
          refine rsr (vC_e (rk_160 (hR.fr FR15))) ?_
          refine RrI (a196 (by omega) (hR.fr FR15) (w15_43) ((FR15.i _ _ (by decide)).trans h49) ((FR15.i _ _ (by decide)).trans h48) (li_10) (li_0) (by omega)) fun v Ma24 h24 => ?_
          obtain ⟨r23, rfl, g24, e24_k0, p24_0, p24_1⟩ := h24
          have f24 : Fr W_rx Mr Ma24 := Fr.t FR15 (Fr.m g24 (by decide))
          refine rsr (cI_e rfl) ?_
          exact hgo (m - i15 + 1).toNat _ _ (by omega) (Or.inl ⟨(k8 + 1), i15, rfl, by omega, ⟨(e15 + 1), u15, uc15, (pu G15 e15 [10, 0, -2, 0, ut, mu, 0]), U15, X15, f22, f24, ⟨(g22.i _ _ (by decide)).trans (q15_12), (g22.i _ _ (by decide)).trans (q15_13), (g22.i _ _ (by decide)).trans (q15_10), e22_k0, (g22.i _ _ (by decide)).trans (q15_16), (g22.i _ _ (by decide)).trans (q15_19)⟩, ⟨(g24.i _ _ (by decide)).trans (w15_36), (g24.i _ _ (by decide)).trans (w15_37), (g24.i _ _ (by decide)).trans (w15_38), (g24.i _ _ (by decide)).trans (w15_41), e24_k0, (g24.i _ _ (by decide)).trans (w15_51), (g24.i _ _ (by decide)).trans (w15_53), (g24.i _ _ (by decide)).trans (w15_50), (w15_n.fr g24 (by decide) (by decide))⟩, ⟨(CA1.em ca15 (by omega) p22_1 rfl), (RA1.em ra15 (by omega) p24_1 rfl), (lc15.fr g22 (by decide)), (lr15.fr g24 (by decide)), (cu15.fr g22 (by decide)), (ru15.fr g24 (by decide))⟩, ⟨by omega, by omega, by omega, by omega, by omega, by omega, by omega, by omega, by omega, by omega, by omega, by omega⟩, ⟨by omega, by omega, by omega, by omega, by omega, by omega⟩, (Ag.pu (Ag.t ag8 ag15 (by omega)) (by omega)), (Ag.t au8 au15 (by omega)), (AgL.t ax8 ax15 (by omega)), ty20, du21, (ku15.fr g22 (by decide))⟩, by omega⟩)
        ·
          have FL15 : Fr W_cp Mc Mx15 := Fr.t (Fr.sI (by decide) (Fr.sI (by decide) FL8)) fl15
          have FR15 : Fr W_rp Mr Nx15 := Fr.t (Fr.m f14 W_rx_p) fr15
          obtain ⟨ti15, tz15, tn15, tu15, t1315, t1015, t1115, t1215, t915, t1615, t1915, tb15⟩ := tc15
          obtain ⟨re15, rn15, ru15, rm15, rt15, u4115, u4215, u4315, u5115, u5315, u4815, u4915, ub15⟩ := tr15
          refine rsl (cV_e rfl) ?_
          refine rsr (cV_e rfl) ?_
          refine rsl (vC_e (ck_65 (hC.fr FL15))) ?_
          refine RlI (y87 (by omega) (hC.fr FL15) (hTk.fr (WL := W_cp) FL15 (by decide)) (t1215) (t1315) (t1015) (t1115) (t915) (t1615) (t1915) (rfl) (li_0) (by omega)) fun v Ma26 h26 => ?_
          obtain ⟨rv25, sz25, sn25, uc25, rfl, g26, e26_sz25, e26_sn25, e26_uc25, e26_k0, e26_k1, e26_k2, e26_k3, p26_0, p26_1, p26_2, p26_3⟩ := h26
          have f26 : Fr W_cp Mc Ma26 := Fr.t FL15 (Fr.m g26 (by decide))
          refine rsl (cI_e rfl) ?_
          refine rsl (if_neg (eqI_n (rfl) (li_3) (by omega))) ?_
          refine rsl (ltI_q (z := (k8 + 1)) (adI (hk8) (li_1))) ?_
          refine rsr (vC_e (rk_160 (hR.fr FR15))) ?_
          refine RrI (x196_s (by omega) (hR.fr FR15) (u4115) (u4215) (u4315) (u5115) (u5315) (u4815) (u4915) (li_10) (li_0) (by omega)) fun v Ma28 h28 => ?_
          obtain ⟨rv27, em27, rfl, g28, e28_em27, e28_k0, e28_k1, e28_k2, e28_k3, e28_k4, p28_0, p28_1⟩ := h28
          have f28 : Fr W_rp Mr Ma28 := Fr.t FR15 (Fr.m g28 (by decide))
          refine rsr (cI_e rfl) ?_
          exact hgo 0 _ _ (by omega) (Or.inr ⟨(k8 + 1), F15, P15, rfl, by omega, f26, f28, ⟨ti15, sz25, sn25, uc25, e26_k0, e26_k1, e26_k2, e26_k3, e26_sz25, e26_sn25, e26_uc25, by omega⟩, ⟨em27, rn15, ru15, rm15, rt15, e28_k0, e28_k1, e28_em27, e28_k2, e28_k3, e28_k4, (g28.i _ _ (by decide)).trans (u4915), by omega⟩, rfl⟩)
      ·
        by_cases c29 : ((kd i8)) = 45
        ·
          refine rsl (cI_e (lk_45 (by omega) ((rfl).trans (congrArg iI (by omega))))) ?_
          refine rsl (if_pos (eqI_p (rfl) (rfl) (by omega))) ?_
          refine rsl (gtI_q (w := iI ((kd i8))) (ck_65 (hC.fr FL8)) (q8_13)) ?_
          refine rsl (cI_e (ok_45 (by omega) ((rfl).trans (congrArg iI (by omega))))) ?_
          refine rsl (vC_e (ck_65 (hC.fr FL8))) ?_
          have hm30 : i8 + 1 < m := hS.more i8 (by omega) (by omega) (by omega)
          refine rsl (cV_e (a63q (by omega) hS (hC.fr FL8) (hTk.fr (WL := W_cp) FL8 (by decide)) (q8_12) (q8_13) (q8_10) (i2 := (i8 + 1)) (by omega) (by omega))) ?_
          have hk31 := (hS.ok (i8 + 1) (by omega) (by omega)).r
          refine rsl (vC_e (ck_65 (hC.fr FL8).sI.sI)) ?_
          refine rsr (gtI_q (w := iI 0) (rk_160 (hR.fr FR8)) (w8_41)) ?_
          refine rsr (if_pos (eqI_p (rfl) (li_0) (by omega))) ?_
          refine rsr (gtI_q (w := iI ((kr (kd i8)))) (rk_160 (hR.fr FR8)) (w8_36)) ?_
          refine rsr (jn_v) ?_
          refine rsr (if_neg (krI_n (k := 43) (rfl) (li_43) (hS.ok i8 (by omega) (by omega)) (by unfold KdOK sgk; omega) (by decide +kernel) (by omega) (by omega))) ?_
          refine rsr (gtI_q (w := iI ((kr (kd i8)))) (rk_160 (hR.fr FR8)) (w8_36)) ?_
          refine rsr (if_pos (krI_p (k := 45) (rfl) (li_45) (by omega) (by decide +kernel))) ?_
          refine rsr (jv_e) ?_
          refine rsr (gtI_q (w := iI ((kr (kd i8)))) (rk_160 (hR.fr FR8)) (w8_36)) ?_
          refine rsr (jn_v) ?_
          refine rsr (if_neg (krI_n (k := 43) (rfl) (li_43) (hS.ok i8 (by omega) (by omega)) (by unfold KdOK sgk; omega) (by decide +kernel) (by omega) (by omega))) ?_
          refine rsr (jv_e) ?_
          refine rsr (vC_e (rk_160 (hR.fr FR8))) ?_
          refine RrV (nx_ok (by omega) hS (hR.fr FR8) (hT.fr (W := W_rx) FR8 (by decide) (by decide)) (fun i a b => (Fr.lc (W := W_rx) FR8 _ (by decide) _).trans (hW i a b)) (i := i8) (w8_41) (w8_38) (by omega) (by omega)) fun v Ma33 h33 => ?_
          obtain ⟨g33, e33_k0, e33_k1, e33_k2, p33_0⟩ := h33
          have f33 : Fr W_rx Mr Ma33 := Fr.t FR8 (Fr.m g33 (by decide))
          refine rsr (cV_e rfl) ?_
          refine rsr (vC_e (rk_160 (hR.fr f33))) ?_
          refine Rb_VV (hp _ _ (by omega) (by omega) T n m kd pl E tx ua ut mu _ _ G8 U8 Hl X8 (i8 + 1) e8 s u8 uc8 _ hS (hCx.fr (Fr.sI (by decide) (Fr.sI (by decide) FL8)) f33) ⟨(sI_nej (by decide)).trans (sI_eq), sI_eq, (sI_nej (by decide)).trans ((sI_nej (by decide)).trans (q8_10)), (sI_nej (by decide)).trans ((sI_nej (by decide)).trans (q8_9)), (sI_nej (by decide)).trans ((sI_nej (by decide)).trans (q8_16)), (sI_nej (by decide)).trans ((sI_nej (by decide)).trans (q8_19))⟩ ⟨e33_k0, e33_k1, e33_k2, (g33.i _ _ (by decide)).trans (w8_41), (g33.i _ _ (by decide)).trans (w8_43), (g33.i _ _ (by decide)).trans (w8_51), (g33.i _ _ (by decide)).trans (w8_53), (g33.i _ _ (by decide)).trans (w8_50), p33_0⟩ ⟨(ca8.fr (W := W_c0) (Fr.sI (by decide) (Fr.sI (by decide) Fr.r)) (by decide)), (ra8.fr g33 (by decide)), (lc8.fr (W := W_c0) (Fr.sI (by decide) (Fr.sI (by decide) Fr.r)) (by decide)), (lr8.fr g33 (by decide)), (cu8.fr (W := W_c0) (Fr.sI (by decide) (Fr.sI (by decide) Fr.r)) (by decide)), (ru8.fr g33 (by decide))⟩ ⟨by omega, by omega, by omega, by omega, by omega, by omega, by omega, by omega, by omega, by omega, by omega, by omega⟩ (vs2 (adI (rfl) (li_1)) (rfl))) fun v Mx34 w Nx34 hx34 => ?_
          rcases hx34 with ⟨i34, e34, u34, uc34, G34, U34, X34, fl34, fr34, sc34, sr34, rw34, bd34, mv34, ag34, au34, ax34, tp34, dp34, kv34⟩ | ⟨F34, P34, fl34, fr34, tc34, tr34⟩
          ·
            have FL34 : Fr W_cp Mc Mx34 := Fr.t (Fr.sI (by decide) (Fr.sI (by decide) FL8)) fl34
            have FR34 : Fr W_rx Mr Nx34 := Fr.t f33 fr34
            obtain ⟨bb34_0, bb34_1, bb34_2, bb34_3, bb34_4, bb34_5, bb34_6, bb34_7, bb34_8, bb34_9, bb34_10, bb34_11⟩ := bd34
            obtain ⟨q34_12, q34_13, q34_10, q34_9, q34_16, q34_19⟩ := sc34
            obtain ⟨w34_36, w34_37, w34_38, w34_41, w34_43, w34_51, w34_53, w34_50, w34_n⟩ := sr34
            obtain ⟨ca34, ra34, lc34, lr34, cu34, ru34⟩ := rw34
            have hk35 := (hS.ok i34 (by omega) (by omega)).r
            have ku34 := KU.t (ku8.fr (W := W_c0) (Fr.sI (by decide) (Fr.sI (by decide) Fr.r)) (by decide)) kv34 (by omega)
            have ty36 := Tye.t (d3 := 2) tp8 ag34 tp34 (by omega)
            have du37 := DU.t dp8 ag34 au34 ax34 dp34 (by omega)
            refine rsl (cV_e rfl) ?_
            refine rsr (cV_e rfl) ?_
            refine rsl (vC_e (ck_65 (hC.fr FL34))) ?_
            have ty39 := Tye.em (d := 2) (d' := 1) (q := (e34 + 1)) (n1 := 0) (ut := ut) (mu := mu) (l := []) ty36 (Or.inr (Or.inr (Or.inr (Or.inr (Or.inr (Or.inr (Or.inr (Or.inl (by omega)))))))) : Eff 11 0 0 2 s 1 s) (by omega) ⟨by omega, by omega⟩ (by omega)
            have du40 := DU.em (q := (e34 + 1)) (o := 11) (n := 0) (p := -2) (l := [0]) du37 (by omega) (by omega)
            refine RlI (a87 (by omega) (hC.fr FL34) (q34_9) (rfl) (li_0) (by omega)) fun v Ma41 h41 => ?_
            obtain ⟨r38, rfl, g41, e41_k0, p41_0, p41_1⟩ := h41
            have f41 : Fr W_cp Mc Ma41 := Fr.t FL34 (Fr.m g41 (by decide))
            refine rsl (cI_e rfl) ?_
            refine rsl (if_neg (eqI_n (rfl) (li_3) (by omega))) ?_
            refine rsl (ltI_q (z := (k8 + 1)) (adI (hk8) (li_1))) ?_
            refine rsr (vC_e (rk_160 (hR.fr FR34))) ?_
            refine RrI (a196 (by omega) (hR.fr FR34) (w34_43) ((FR34.i _ _ (by decide)).trans h49) ((FR34.i _ _ (by decide)).trans h48) (li_11) (li_0) (by omega)) fun v Ma43 h43 => ?_
            obtain ⟨r42, rfl, g43, e43_k0, p43_0, p43_1⟩ := h43
            have f43 : Fr W_rx Mr Ma43 := Fr.t FR34 (Fr.m g43 (by decide))
            refine rsr (cI_e rfl) ?_
            exact hgo (m - i34 + 1).toNat _ _ (by omega) (Or.inl ⟨(k8 + 1), i34, rfl, by omega, ⟨(e34 + 1), u34, uc34, (pu G34 e34 [11, 0, -2, 0, ut, mu, 0]), U34, X34, f41, f43, ⟨(g41.i _ _ (by decide)).trans (q34_12), (g41.i _ _ (by decide)).trans (q34_13), (g41.i _ _ (by decide)).trans (q34_10), e41_k0, (g41.i _ _ (by decide)).trans (q34_16), (g41.i _ _ (by decide)).trans (q34_19)⟩, ⟨(g43.i _ _ (by decide)).trans (w34_36), (g43.i _ _ (by decide)).trans (w34_37), (g43.i _ _ (by decide)).trans (w34_38), (g43.i _ _ (by decide)).trans (w34_41), e43_k0, (g43.i _ _ (by decide)).trans (w34_51), (g43.i _ _ (by decide)).trans (w34_53), (g43.i _ _ (by decide)).trans (w34_50), (w34_n.fr g43 (by decide) (by decide))⟩, ⟨(CA1.em ca34 (by omega) p41_1 rfl), (RA1.em ra34 (by omega) p43_1 rfl), (lc34.fr g41 (by decide)), (lr34.fr g43 (by decide)), (cu34.fr g41 (by decide)), (ru34.fr g43 (by decide))⟩, ⟨by omega, by omega, by omega, by omega, by omega, by omega, by omega, by omega, by omega, by omega, by omega, by omega⟩, ⟨by omega, by omega, by omega, by omega, by omega, by omega⟩, (Ag.pu (Ag.t ag8 ag34 (by omega)) (by omega)), (Ag.t au8 au34 (by omega)), (AgL.t ax8 ax34 (by omega)), ty39, du40, (ku34.fr g41 (by decide))⟩, by omega⟩)
          ·
            have FL34 : Fr W_cp Mc Mx34 := Fr.t (Fr.sI (by decide) (Fr.sI (by decide) FL8)) fl34
            have FR34 : Fr W_rp Mr Nx34 := Fr.t (Fr.m f33 W_rx_p) fr34
            obtain ⟨ti34, tz34, tn34, tu34, t1334, t1034, t1134, t1234, t934, t1634, t1934, tb34⟩ := tc34
            obtain ⟨re34, rn34, ru34, rm34, rt34, u4134, u4234, u4334, u5134, u5334, u4834, u4934, ub34⟩ := tr34
            refine rsl (cV_e rfl) ?_
            refine rsr (cV_e rfl) ?_
            refine rsl (vC_e (ck_65 (hC.fr FL34))) ?_
            refine RlI (y87 (by omega) (hC.fr FL34) (hTk.fr (WL := W_cp) FL34 (by decide)) (t1234) (t1334) (t1034) (t1134) (t934) (t1634) (t1934) (rfl) (li_0) (by omega)) fun v Ma45 h45 => ?_
            obtain ⟨rv44, sz44, sn44, uc44, rfl, g45, e45_sz44, e45_sn44, e45_uc44, e45_k0, e45_k1, e45_k2, e45_k3, p45_0, p45_1, p45_2, p45_3⟩ := h45
            have f45 : Fr W_cp Mc Ma45 := Fr.t FL34 (Fr.m g45 (by decide))
            refine rsl (cI_e rfl) ?_
            refine rsl (if_neg (eqI_n (rfl) (li_3) (by omega))) ?_
            refine rsl (ltI_q (z := (k8 + 1)) (adI (hk8) (li_1))) ?_
            refine rsr (vC_e (rk_160 (hR.fr FR34))) ?_
            refine RrI (x196_s (by omega) (hR.fr FR34) (u4134) (u4234) (u4334) (u5134) (u5334) (u4834) (u4934) (li_11) (li_0) (by omega)) fun v Ma47 h47 => ?_
            obtain ⟨rv46, em46, rfl, g47, e47_em46, e47_k0, e47_k1, e47_k2, e47_k3, e47_k4, p47_0, p47_1⟩ := h47
            have f47 : Fr W_rp Mr Ma47 := Fr.t FR34 (Fr.m g47 (by decide))
            refine rsr (cI_e rfl) ?_
            exact hgo 0 _ _ (by omega) (Or.inr ⟨(k8 + 1), F34, P34, rfl, by omega, f45, f47, ⟨ti34, sz44, sn44, uc44, e45_k0, e45_k1, e45_k2, e45_k3, e45_sz44, e45_sn44, e45_uc44, by omega⟩, ⟨em46, rn34, ru34, rm34, rt34, e47_k0, e47_k1, e47_em46, e47_k2, e47_k3, e47_k4, (g47.i _ _ (by decide)).trans (u4934), by omega⟩, rfl⟩)
        ·
          refine RlI (lv_4 (by omega) (rfl) (by omega)) fun v Ml48 hl48 => ?_
          obtain ⟨rl48, rfl, rfl, nl48, bl48⟩ := hl48
          refine rsl (cI_e rfl) ?_
          refine rsl (if_neg (eqI_n (rfl) (rfl) (by omega))) ?_
          refine rsl (jv_e) ?_
          refine rsr (gtI_q (w := iI 0) (rk_160 (hR.fr FR8)) (w8_41)) ?_
          refine rsr (if_pos (eqI_p (rfl) (li_0) (by omega))) ?_
          refine rsr (gtI_q (w := iI ((kr (kd i8)))) (rk_160 (hR.fr FR8)) (w8_36)) ?_
          refine rsr (jn_v) ?_
          refine rsr (if_neg (krI_n (k := 43) (rfl) (li_43) (hS.ok i8 (by omega) (by omega)) (by unfold KdOK sgk; omega) (by decide +kernel) (by omega) (by omega))) ?_
          refine rsr (gtI_q (w := iI ((kr (kd i8)))) (rk_160 (hR.fr FR8)) (w8_36)) ?_
          refine rsr (if_neg (krI_n (k := 45) (rfl) (li_45) (hS.ok i8 (by omega) (by omega)) (by unfold KdOK sgk; omega) (by decide +kernel) (by omega) (by omega))) ?_
          refine rsr (jv_e) ?_
          exact Rs.ok (Or.inl ⟨i8, e8, u8, uc8, G8, U8, X8, FL8, FR8, ⟨q8_12, q8_13, q8_10, q8_9, q8_16, q8_19⟩, ⟨w8_36, w8_37, w8_38, w8_41, w8_43, w8_51, w8_53, w8_50, w8_n⟩, ⟨ca8, ra8, lc8, lr8, cu8, ru8⟩, ⟨by omega, by omega, by omega, by omega, by omega, by omega, by omega, by omega, by omega, by omega, by omega, by omega⟩, ⟨by omega, by omega, by omega, by omega, by omega, by omega⟩, ag8, au8, ax8, tp8, dp8, ku8⟩)
    ·
      obtain ⟨k8, F8, P8, hk8, ⟨hka8, hkb8⟩, FL8, FR8, tc8, tr8, hm8⟩ := hq
      obtain ⟨ti8, tz8, tn8, tu8, t138, t108, t118, t128, t98, t168, t198, tb8⟩ := tc8
      obtain ⟨re8, rn8, ru8, rm8, rt8, u418, u428, u438, u518, u538, u488, u498, ub8⟩ := tr8
      unfold c99_61 c208_4
      refine rsl (if_neg (leI_n (li_3000) (hk8) (by omega))) ?_
      refine rsl (gtI_q (w := iI 2) (ck_65 (hC.fr FL8)) (t138)) ?_
      refine rsl (cI_e (y102 (by omega) (rfl))) ?_
      refine rsl (if_neg (eqI_n (rfl) (rfl) (by omega))) ?_
      refine rsl (jv_e) ?_
      refine rsr (gtI_q (w := iI F8) (rk_160 (hR.fr FR8)) (u418)) ?_
      refine rsr (if_neg (eqI_n (rfl) (li_0) (by omega))) ?_
      refine rsr (jv_e) ?_
      exact Rs.ok (Or.inr ⟨F8, P8, FL8, FR8, ⟨ti8, tz8, tn8, tu8, t138, t108, t118, t128, t98, t168, t198, by omega⟩, ⟨re8, rn8, ru8, rm8, rt8, u418, u428, u438, u518, u538, u488, u498, by omega⟩⟩)
  ·
    have FL4 : Fr W_cp Mc Mx4 := Fr.t Fr.r fl4
    have FR4 : Fr W_rp Mr Nx4 := Fr.t (Fr.m Fr.r W_rx_p) fr4
    obtain ⟨ti4, tz4, tn4, tu4, t134, t104, t114, t124, t94, t164, t194, tb4⟩ := tc4
    obtain ⟨re4, rn4, ru4, rm4, rt4, u414, u424, u434, u514, u534, u484, u494, ub4⟩ := tr4
    refine rsl (cV_e rfl) ?_
    refine rsr (cV_e rfl) ?_
    refine rsl (jn_v) ?_
    refine rsl (jn_v) ?_
    refine rsl (lp_e) ?_
    unfold c99_61
    refine rsl (if_neg (leI_n (li_3000) (li_0) (by omega))) ?_
    refine rsl (gtI_q (w := iI 2) (ck_65 (hC.fr FL4)) (t134)) ?_
    refine rsl (cI_e (y102 (by omega) (rfl))) ?_
    refine rsl (if_neg (eqI_n (rfl) (rfl) (by omega))) ?_
    refine rsl (jv_e) ?_
    refine rsr (jn_v) ?_
    refine rsr (lp_e) ?_
    unfold c208_4
    refine rsr (gtI_q (w := iI F4) (rk_160 (hR.fr FR4)) (u414)) ?_
    refine rsr (if_neg (eqI_n (rfl) (li_0) (by omega))) ?_
    refine rsr (jv_e) ?_
    exact Rs.ok (Or.inr ⟨F4, P4, FL4, FR4, ⟨ti4, tz4, tn4, tu4, t134, t104, t114, t124, t94, t164, t194, by omega⟩, ⟨re4, rn4, ru4, rm4, rt4, u414, u424, u434, u514, u534, u484, u494, by omega⟩⟩)
theorem p_2 {D : Nat} {dp : Int} (hD : 20 ≤ D) (hp4 : Pair D 99 [4] 208 18 dp) (hp2 : dp < 20 → Pair D 99 [2] 209 16 (dp + 1)) : Pair (D + 2) 99 [2] 209 16 dp := by
  intro d d2 hd hd2 T n m kd pl E tx ua ut mu Mc Mr G U Hl X i e s u uc vs hS hx hsc hsr hrw hbd hvs
  subst hvs
  obtain ⟨d, rfl⟩ : ∃ e, d = e + 1 := ⟨d - 1, by omega⟩
  obtain ⟨d2, rfl⟩ : ∃ e, d2 = e + 1 := ⟨d2 - 1, by omega⟩
  show Rs (runX (d + 1) 99 [va_rf (some 65), .int (iI 2), .int (iI dp)] Mc) (runX (d2 + 1) 209 [va_rf (some 160)] Mr) _
  rw [r99]; unfold b99; rw [aR_e, aI_e, aI_e, aZ_e]; unfold c99; rw [r209]; unfold b209; rw [aR_e, aZ_e]; unfold c209
  have hCx := hx
  obtain ⟨hC, hR, hTk, hT, hW, ⟨hu1, hu2, hu3, hu4⟩, h49, h48, ⟨hb1, hb2, hb3, hb4⟩⟩ := hx
  obtain ⟨bb_0, bb_1, bb_2, bb_3, bb_4, bb_5, bb_6, bb_7, bb_8, bb_9, bb_10, bb_11⟩ := hbd
  have kua : KU uc Mc Mc := KU.r
  obtain ⟨qa_12, qa_13, qa_10, qa_9, qa_16, qa_19⟩ := hsc
  obtain ⟨wa_36, wa_37, wa_38, wa_41, wa_43, wa_51, wa_53, wa_50, wa_n⟩ := hsr
  obtain ⟨caa, raa, lca, lra, cua, rua⟩ := hrw
  have hk1 := (hS.ok i (by omega) (by omega)).r
  have ty2 := (Tye.r (G := G) (a := e) (s := s))
  have du3 := (DU.r (ut := ut) (mu := mu) (c := uc) (G := G) (U := U) (X := X) (a := e) (u := u))
  refine rsl (if_pos (leI_p (rfl) (li_5) (by omega))) ?_
  refine rsl (jn_v) ?_
  refine rsl (if_pos (eqI_p (rfl) (li_2) (by omega))) ?_
  refine rsl (gtI_q (w := iI ((kd i))) (ck_65 hC) (qa_13)) ?_
  by_cases c4 : ((kd i)) = 227
  · refine rsl (if_pos (eqI_p (rfl) (li_227) (by omega))) ?_
    refine rsl (vC_e (ck_65 hC)) ?_
    by_cases c5 : dp < 20
    ·
      have hm6 : i + 1 < m := hS.more i (by omega) (by omega) (by omega)
      refine rsl (cV_e (a69q (by omega) hS hC (hTk.fr (WL := W_cp) Fr.r (by decide)) (qa_12) (qa_13) (qa_10) (li_227) (rfl) (i2 := (i + 1)) (by omega) (by omega))) ?_
      have hk7 := (hS.ok (i + 1) (by omega) (by omega)).r
      refine rsl (vC_e (ck_65 hC.sI.sI)) ?_
      refine rsr (gtI_q (w := iI 0) (rk_160 hR) (wa_41)) ?_
      refine rsr (jn_v) ?_
      refine rsr (if_pos (eqI_p (rfl) (li_0) (by omega))) ?_
      refine rsr (gtI_q (w := iI ((kr (kd i)))) (rk_160 hR) (wa_36)) ?_
      refine rsr (if_pos (krI_p (k := 227) (rfl) (li_428) (by omega) (by decide +kernel))) ?_
      refine rsr (vC_e (rk_160 hR)) ?_
      refine rsr (cI_e (ar200_p (by omega) hS hR (wa_36) (wa_37) (wa_41) (wa_50) (by omega))) ?_
      refine rsr (jn_v) ?_
      refine rsr (if_neg (eqI_n (rfl) (li_0) (by omega))) ?_
      refine rsr (vC_e (rk_160 hR.sI)) ?_
      refine RrV (nx_ok (by omega) hS hR.sI (hT.fr (W := W_rx) (Fr.sI (by decide) Fr.r) (by decide) (by decide)) (fun i a b => (Fr.lc (W := W_rx) (Fr.sI (by decide) Fr.r) _ (by decide) _).trans (hW i a b)) (i := i) ((sI_nej (by decide)).trans (wa_41)) ((sI_nej (by decide)).trans (wa_38)) (by omega) (by omega)) fun v Ma9 h9 => ?_
      obtain ⟨g9, e9_k0, e9_k1, e9_k2, p9_0⟩ := h9
      have f9 : Fr W_rx Mr Ma9 := Fr.t (Fr.sI (by decide) Fr.r) (Fr.m g9 (by decide))
      refine rsr (cV_e rfl) ?_
      refine rsr (vC_e (rk_160 (hR.fr f9))) ?_
      refine Rb_VV ((hp2 (by omega)) _ _ (by omega) (by omega) T n m kd pl E tx ua ut mu _ _ G U Hl X (i + 1) e s u uc _ hS (hCx.fr (Fr.sI (by decide) (Fr.sI (by decide) Fr.r)) f9) ⟨(sI_nej (by decide)).trans (sI_eq), sI_eq, (sI_nej (by decide)).trans ((sI_nej (by decide)).trans (qa_10)), (sI_nej (by decide)).trans ((sI_nej (by decide)).trans (qa_9)), (sI_nej (by decide)).trans ((sI_nej (by decide)).trans (qa_16)), (sI_nej (by decide)).trans ((sI_nej (by decide)).trans (qa_19))⟩ ⟨e9_k0, e9_k1, e9_k2, (g9.i _ _ (by decide)).trans ((sI_nej (by decide)).trans (wa_41)), (g9.i _ _ (by decide)).trans ((sI_nej (by decide)).trans (wa_43)), (g9.i _ _ (by decide)).trans ((sI_nej (by decide)).trans (wa_51)), (g9.i _ _ (by decide)).trans ((sI_nej (by decide)).trans (wa_53)), (g9.i _ _ (by decide)).trans (sI_eq), p9_0⟩ ⟨(caa.fr (W := W_c0) (Fr.sI (by decide) (Fr.sI (by decide) Fr.r)) (by decide)), ((raa.fr (W := W_r0) (Fr.sI (by decide) Fr.r) (by decide)).fr g9 (by decide)), (lca.fr (W := W_c0) (Fr.sI (by decide) (Fr.sI (by decide) Fr.r)) (by decide)), ((lra.fr (W := W_r0) (Fr.sI (by decide) Fr.r) (by decide)).fr g9 (by decide)), (cua.fr (W := W_c0) (Fr.sI (by decide) (Fr.sI (by decide) Fr.r)) (by decide)), ((rua.fr (W := W_r0) (Fr.sI (by decide) Fr.r) (by decide)).fr g9 (by decide))⟩ ⟨by omega, by omega, by omega, by omega, by omega, by omega, by omega, by omega, by omega, by omega, by omega, by omega⟩ (vs2 (li_2) (adI (rfl) (li_1)))) fun v Mx10 w Nx10 hx10 => ?_
      rcases hx10 with ⟨i10, e10, u10, uc10, G10, U10, X10, fl10, fr10, sc10, sr10, rw10, bd10, mv10, ag10, au10, ax10, tp10, dp10, kv10⟩ | ⟨F10, P10, fl10, fr10, tc10, tr10⟩
      ·
        have FL10 : Fr W_cp Mc Mx10 := Fr.t (Fr.sI (by decide) (Fr.sI (by decide) Fr.r)) fl10
        have FR10 : Fr W_rx Mr Nx10 := Fr.t f9 fr10
        obtain ⟨bb10_0, bb10_1, bb10_2, bb10_3, bb10_4, bb10_5, bb10_6, bb10_7, bb10_8, bb10_9, bb10_10, bb10_11⟩ := bd10
        obtain ⟨q10_12, q10_13, q10_10, q10_9, q10_16, q10_19⟩ := sc10
        obtain ⟨w10_36, w10_37, w10_38, w10_41, w10_43, w10_51, w10_53, w10_50, w10_n⟩ := sr10
        obtain ⟨ca10, ra10, lc10, lr10, cu10, ru10⟩ := rw10
        have hk11 := (hS.ok i10 (by omega) (by omega)).r
        have ku10 := KU.t (kua.fr (W := W_c0) (Fr.sI (by decide) (Fr.sI (by decide) Fr.r)) (by decide)) kv10 (by omega)
        have ty12 := Tye.t (d3 := 1) ty2 ag10 tp10 (by omega)
        have du13 := DU.t du3 ag10 au10 ax10 dp10 (by omega)
        refine rsl (cV_e rfl) ?_
        refine rsr (cV_e rfl) ?_
        refine rsl (vC_e (ck_65 (hC.fr FL10))) ?_
        have ty15 := Tye.em (d := 1) (d' := 1) (q := (e10 + 1)) (n1 := 0) (ut := ut) (mu := mu) (l := []) ty12 (Or.inr (Or.inr (Or.inr (Or.inr (Or.inl (by omega))))) : Eff 21 0 0 1 s 1 s) (by omega) ⟨by omega, by omega⟩ (by omega)
        have du16 := DU.em (q := (e10 + 1)) (o := 21) (n := 0) (p := -2) (l := [0]) du13 (by omega) (by omega)
        refine RlI (a87 (by omega) (hC.fr FL10) (q10_9) (li_21) (li_0) (by omega)) fun v Ma17 h17 => ?_
        obtain ⟨r14, rfl, g17, e17_k0, p17_0, p17_1⟩ := h17
        have f17 : Fr W_cp Mc Ma17 := Fr.t FL10 (Fr.m g17 (by decide))
        refine rsl (cI_e rfl) ?_
        refine rsr (gtI_q (w := iI (dp + 1)) (rk_160 (hR.fr FR10)) (w10_50)) ?_
        refine rsr (ptI_q (z := dp) (rk_160 (hR.fr FR10)) (cvI (sbI (rfl) (li_1)) (by omega))) ?_
        refine rsr (vC_e (rk_160 (hR.fr FR10).sI)) ?_
        refine RrI (a196 (by omega) (hR.fr FR10).sI ((sI_nej (by decide)).trans (w10_43)) ((sI_nej (by decide)).trans ((FR10.i _ _ (by decide)).trans h49)) ((sI_nej (by decide)).trans ((FR10.i _ _ (by decide)).trans h48)) (li_21) (li_0) (by omega)) fun v Ma19 h19 => ?_
        obtain ⟨r18, rfl, g19, e19_k0, p19_0, p19_1⟩ := h19
        have f19 : Fr W_rx Mr Ma19 := Fr.t (Fr.sI (by decide) FR10) (Fr.m g19 (by decide))
        refine rsr (cI_e rfl) ?_
        refine rsr (jv_e) ?_
        exact Rs.ok (Or.inl ⟨i10, (e10 + 1), u10, uc10, (pu G10 e10 [21, 0, -2, 0, ut, mu, 0]), U10, X10, f17, f19, ⟨(g17.i _ _ (by decide)).trans (q10_12), (g17.i _ _ (by decide)).trans (q10_13), (g17.i _ _ (by decide)).trans (q10_10), e17_k0, (g17.i _ _ (by decide)).trans (q10_16), (g17.i _ _ (by decide)).trans (q10_19)⟩, ⟨(g19.i _ _ (by decide)).trans ((sI_nej (by decide)).trans (w10_36)), (g19.i _ _ (by decide)).trans ((sI_nej (by decide)).trans (w10_37)), (g19.i _ _ (by decide)).trans ((sI_nej (by decide)).trans (w10_38)), (g19.i _ _ (by decide)).trans ((sI_nej (by decide)).trans (w10_41)), e19_k0, (g19.i _ _ (by decide)).trans ((sI_nej (by decide)).trans (w10_51)), (g19.i _ _ (by decide)).trans ((sI_nej (by decide)).trans (w10_53)), (g19.i _ _ (by decide)).trans (sI_eq), ((w10_n.fr (W := W_r0) (Fr.sI (by decide) Fr.r) (by decide) (by decide)).fr g19 (by decide) (by decide))⟩, ⟨(CA1.em ca10 (by omega) p17_1 rfl), (RA1.em (ra10.fr (W := W_r0) (Fr.sI (by decide) Fr.r) (by decide)) (by omega) p19_1 rfl), (lc10.fr g17 (by decide)), ((lr10.fr (W := W_r0) (Fr.sI (by decide) Fr.r) (by decide)).fr g19 (by decide)), (cu10.fr g17 (by decide)), ((ru10.fr (W := W_r0) (Fr.sI (by decide) Fr.r) (by decide)).fr g19 (by decide))⟩, ⟨by omega, by omega, by omega, by omega, by omega, by omega, by omega, by omega, by omega, by omega, by omega, by omega⟩, ⟨by omega, by omega, by omega, by omega, by omega, by omega⟩, (Ag.pu (Ag.t Ag.r ag10 (by omega)) (by omega)), (Ag.t Ag.r au10 (by omega)), (AgL.t AgL.r ax10 (by omega)), ty15, du16, (ku10.fr g17 (by decide))⟩)
      ·
        have FL10 : Fr W_cp Mc Mx10 := Fr.t (Fr.sI (by decide) (Fr.sI (by decide) Fr.r)) fl10
        have FR10 : Fr W_rp Mr Nx10 := Fr.t (Fr.m f9 W_rx_p) fr10
        obtain ⟨ti10, tz10, tn10, tu10, t1310, t1010, t1110, t1210, t910, t1610, t1910, tb10⟩ := tc10
        obtain ⟨re10, rn10, ru10, rm10, rt10, u4110, u4210, u4310, u5110, u5310, u4810, u4910, ub10⟩ := tr10
        refine rsl (cV_e rfl) ?_
        refine rsr (cV_e rfl) ?_
        refine rsl (vC_e (ck_65 (hC.fr FL10))) ?_
        refine RlI (y87 (by omega) (hC.fr FL10) (hTk.fr (WL := W_cp) FL10 (by decide)) (t1210) (t1310) (t1010) (t1110) (t910) (t1610) (t1910) (li_21) (li_0) (by omega)) fun v Ma21 h21 => ?_
        obtain ⟨rv20, sz20, sn20, uc20, rfl, g21, e21_sz20, e21_sn20, e21_uc20, e21_k0, e21_k1, e21_k2, e21_k3, p21_0, p21_1, p21_2, p21_3⟩ := h21
        have f21 : Fr W_cp Mc Ma21 := Fr.t FL10 (Fr.m g21 (by decide))
        refine rsl (cI_e rfl) ?_
        have b22 := V_r (M := Nx10) (a := 160) (j := 50)
        refine rsr (gtI_q (w := iI ((V Nx10 160 50))) (rk_160 (hR.fr FR10)) (eV)) ?_
        refine rsr (ptI_q (z := ((V Nx10 160 50) - 1)) (rk_160 (hR.fr FR10)) (cvI (sbI (rfl) (li_1)) (by omega))) ?_
        refine rsr (vC_e (rk_160 (hR.fr FR10).sI)) ?_
        refine RrI (x196_s (by omega) (hR.fr FR10).sI ((sI_nej (by decide)).trans (u4110)) ((sI_nej (by decide)).trans (u4210)) ((sI_nej (by decide)).trans (u4310)) ((sI_nej (by decide)).trans (u5110)) ((sI_nej (by decide)).trans (u5310)) ((sI_nej (by decide)).trans (u4810)) ((sI_nej (by decide)).trans (u4910)) (li_21) (li_0) (by omega)) fun v Ma24 h24 => ?_
        obtain ⟨rv23, em23, rfl, g24, e24_em23, e24_k0, e24_k1, e24_k2, e24_k3, e24_k4, p24_0, p24_1⟩ := h24
        have f24 : Fr W_rp Mr Ma24 := Fr.t (Fr.sI (by decide) FR10) (Fr.m g24 (by decide))
        refine rsr (cI_e rfl) ?_
        refine rsr (jv_e) ?_
        exact Rs.ok (Or.inr ⟨F10, P10, f21, f24, ⟨ti10, sz20, sn20, uc20, e21_k0, e21_k1, e21_k2, e21_k3, e21_sz20, e21_sn20, e21_uc20, by omega⟩, ⟨em23, rn10, ru10, rm10, rt10, e24_k0, e24_k1, e24_em23, e24_k2, e24_k3, e24_k4, (g24.i _ _ (by decide)).trans ((sI_nej (by decide)).trans (u4910)), by omega⟩⟩)
    ·
      refine rsl (cV_e (a69_6 (by omega) hS hC (hTk.fr (WL := W_cp) Fr.r (by decide)) (qa_12) (qa_13) (qa_10) (li_227) (rfl) (by omega))) ?_
      refine rsl (vC_e (ck_65 hC.sI.sI.sI)) ?_
      refine RlV (y99_2 (by omega) hC.sI.sI.sI (hTk.fr (WL := W_cp) (Fr.sI (by decide) (Fr.sI (by decide) (Fr.sI (by decide) Fr.r))) (by decide)) ((sI_nej (by decide)).trans ((sI_nej (by decide)).trans ((sI_nej (by decide)).trans (qa_12)))) (sI_eq) ((sI_nej (by decide)).trans ((sI_nej (by decide)).trans (sI_eq))) ((sI_nej (by decide)).trans (sI_eq)) ((sI_nej (by decide)).trans ((sI_nej (by decide)).trans ((sI_nej (by decide)).trans (qa_9)))) ((sI_nej (by decide)).trans ((sI_nej (by decide)).trans ((sI_nej (by decide)).trans (qa_16)))) ((sI_nej (by decide)).trans ((sI_nej (by decide)).trans ((sI_nej (by decide)).trans (qa_19)))) (li_2) (adI (rfl) (li_1)) (by omega)) fun v Ma26 h26 => ?_
      obtain ⟨sz25, sn25, uc25, g26, e26_sz25, e26_sn25, e26_uc25, e26_k0, e26_k1, e26_k2, e26_k3, p26_0, p26_1, p26_2⟩ := h26
      have f26 : Fr W_cp Mc Ma26 := Fr.t (Fr.sI (by decide) (Fr.sI (by decide) (Fr.sI (by decide) Fr.r))) (Fr.m g26 (by decide))
      refine rsl (cV_e rfl) ?_
      refine rsl (vC_e (ck_65 (hC.fr f26))) ?_
      refine RlI (y87 (by omega) (hC.fr f26) (hTk.fr (WL := W_cp) f26 (by decide)) (e26_k3) (e26_k0) (e26_k1) (e26_k2) (e26_sz25) (e26_sn25) (e26_uc25) (li_21) (li_0) (by omega)) fun v Ma28 h28 => ?_
      obtain ⟨rv27, sz27, sn27, uc27, rfl, g28, e28_sz27, e28_sn27, e28_uc27, e28_k0, e28_k1, e28_k2, e28_k3, p28_0, p28_1, p28_2, p28_3⟩ := h28
      have f28 : Fr W_cp Mc Ma28 := Fr.t f26 (Fr.m g28 (by decide))
      refine rsl (cI_e rfl) ?_
      refine rsr (gtI_q (w := iI 0) (rk_160 hR) (wa_41)) ?_
      refine rsr (jn_v) ?_
      refine rsr (if_pos (eqI_p (rfl) (li_0) (by omega))) ?_
      refine rsr (gtI_q (w := iI ((kr (kd i)))) (rk_160 hR) (wa_36)) ?_
      refine rsr (if_pos (krI_p (k := 227) (rfl) (li_428) (by omega) (by decide +kernel))) ?_
      refine rsr (vC_e (rk_160 hR)) ?_
      refine rsr (cI_e (ar200_6 (by omega) hS hR (wa_36) (wa_37) (wa_41) (wa_50) (by omega))) ?_
      refine rsr (jn_v) ?_
      refine rsr (if_pos (eqI_p (rfl) (li_0) (by omega))) ?_
      refine rsr (jv_e) ?_
      exact Rs.ok (Or.inr ⟨6, ((pl i)), f28, (Fr.sI (by decide) (Fr.sI (by decide) (Fr.sI (by decide) Fr.r))), ⟨i, sz27, sn27, uc27, e28_k0, e28_k1, e28_k2, e28_k3, e28_sz27, e28_sn27, e28_uc27, by omega⟩, ⟨e, s, u, mu, ut, (sI_nej (by decide)).trans (sI_eq), sI_eq, (sI_nej (by decide)).trans ((sI_nej (by decide)).trans ((sI_nej (by decide)).trans (wa_43))), (sI_nej (by decide)).trans ((sI_nej (by decide)).trans ((sI_nej (by decide)).trans (wa_51))), (sI_nej (by decide)).trans ((sI_nej (by decide)).trans ((sI_nej (by decide)).trans (wa_53))), (sI_nej (by decide)).trans ((sI_nej (by decide)).trans ((sI_nej (by decide)).trans (h48))), (sI_nej (by decide)).trans ((sI_nej (by decide)).trans ((sI_nej (by decide)).trans (h49))), by omega⟩⟩)
  · refine rsl (if_neg (eqI_n (rfl) (li_227) (by omega))) ?_
    refine rsl (jv_e) ?_
    refine rsl (vC_e (ck_65 hC)) ?_
    refine Rs_cVl (P := fun _ Mc2 _ Mr2 => PO 1 ut mu m kd pl E tx Mc Mr G U Hl X i e s u uc dp (2500 - 30 * dp - 16) Mc2 Mr2) ?_ (fun v Mx29 w Nx29 hx29 => ?_)
    ·
      obtain ⟨d, rfl⟩ : ∃ e, d = e + 1 := ⟨d - 1, by omega⟩
      have hva : (iI 2 + (1 : Int32)) = iI 3 := adI (x := 2) rfl li_1
      rw [hva]
      rw [r99]; unfold b99; rw [aR_e, aI_e, aI_e, aZ_e]; unfold c99
      refine rsl (if_pos (leI_p (rfl) (li_5) (by omega))) ?_
      refine rsl (jn_v) ?_
      refine rsl (if_neg (eqI_n (rfl) (li_2) (by omega))) ?_
      refine rsl (jv_e) ?_
      refine rsl (vC_e (ck_65 hC)) ?_
      refine rsr (gtI_q (w := iI 0) (rk_160 hR) (wa_41)) ?_
      refine rsr (jn_v) ?_
      refine rsr (if_pos (eqI_p (rfl) (li_0) (by omega))) ?_
      refine rsr (gtI_q (w := iI ((kr (kd i)))) (rk_160 hR) (wa_36)) ?_
      refine rsr (if_neg (krI_n (k := 227) (rfl) (li_428) (hS.ok i (by omega) (by omega)) (by unfold KdOK sgk; omega) (by decide +kernel) (by omega) (by omega))) ?_
      refine rsr (jv_e) ?_
      refine rsr (vC_e (rk_160 hR)) ?_
      refine Rb_VV (hp4 _ _ (by omega) (by omega) T n m kd pl E tx ua ut mu _ _ G U Hl X i e s u uc _ hS (hCx.fr Fr.r Fr.r) ⟨qa_12, qa_13, qa_10, qa_9, qa_16, qa_19⟩ ⟨wa_36, wa_37, wa_38, wa_41, wa_43, wa_51, wa_53, wa_50, wa_n⟩ ⟨caa, raa, lca, lra, cua, rua⟩ ⟨by omega, by omega, by omega, by omega, by omega, by omega, by omega, by omega, by omega, by omega, by omega, by omega⟩ (vs2 (adI (rfl) (li_1)) (rfl))) fun v Mx30 w Nx30 hx30 => ?_
      rcases hx30 with ⟨i30, e30, u30, uc30, G30, U30, X30, fl30, fr30, sc30, sr30, rw30, bd30, mv30, ag30, au30, ax30, tp30, dp30, kv30⟩ | ⟨F30, P30, fl30, fr30, tc30, tr30⟩
      ·
        have FL30 : Fr W_cp Mc Mx30 := Fr.t Fr.r fl30
        have FR30 : Fr W_rx Mr Nx30 := Fr.t Fr.r fr30
        obtain ⟨bb30_0, bb30_1, bb30_2, bb30_3, bb30_4, bb30_5, bb30_6, bb30_7, bb30_8, bb30_9, bb30_10, bb30_11⟩ := bd30
        obtain ⟨q30_12, q30_13, q30_10, q30_9, q30_16, q30_19⟩ := sc30
        obtain ⟨w30_36, w30_37, w30_38, w30_41, w30_43, w30_51, w30_53, w30_50, w30_n⟩ := sr30
        obtain ⟨ca30, ra30, lc30, lr30, cu30, ru30⟩ := rw30
        have hk31 := (hS.ok i30 (by omega) (by omega)).r
        have ku30 := KU.t kua kv30 (by omega)
        have ty32 := Tye.t (d3 := 1) ty2 ag30 tp30 (by omega)
        have du33 := DU.t du3 ag30 au30 ax30 dp30 (by omega)
        refine rsl (cV_e rfl) ?_
        refine rsr (cV_e rfl) ?_
        refine rsl (jn_v) ?_
        refine rsl (jn_v) ?_
        refine rsl (lp_e) ?_
        unfold c99_61
        refine rsl (if_neg (leI_n (li_3000) (li_0) (by omega))) ?_
        refine rsl (gtI_q (w := iI ((kd i30))) (ck_65 (hC.fr FL30)) (q30_13)) ?_
        by_cases c34 : ((kd i30)) = 60
        ·
          refine rsl (cI_e (lk_60 (by omega) ((rfl).trans (congrArg iI (by omega))))) ?_
          refine rsl (if_pos (eqI_p (rfl) (rfl) (by omega))) ?_
          refine rsl (gtI_q (w := iI ((kd i30))) (ck_65 (hC.fr FL30)) (q30_13)) ?_
          refine rsl (cI_e (ok_60 (by omega) ((rfl).trans (congrArg iI (by omega))))) ?_
          refine rsl (vC_e (ck_65 (hC.fr FL30))) ?_
          have hm35 : i30 + 1 < m := hS.more i30 (by omega) (by omega) (by omega)
          refine rsl (cV_e (a63q (by omega) hS (hC.fr FL30) (hTk.fr (WL := W_cp) FL30 (by decide)) (q30_12) (q30_13) (q30_10) (i2 := (i30 + 1)) (by omega) (by omega))) ?_
          have hk36 := (hS.ok (i30 + 1) (by omega) (by omega)).r
          refine rsl (vC_e (ck_65 (hC.fr FL30).sI.sI)) ?_
          refine rsr (gtI_q (w := iI ((kr (kd i30)))) (rk_160 (hR.fr FR30)) (w30_36)) ?_
          refine rsr (jn_v) ?_
          refine rsr (if_pos (krI_p (k := 60) (rfl) (li_60) (by omega) (by decide +kernel))) ?_
          refine rsr (jv_e) ?_
          refine rsr (gtI_q (w := iI 0) (rk_160 (hR.fr FR30)) (w30_41)) ?_
          refine rsr (jn_v) ?_
          refine rsr (if_pos (eqI_p (rfl) (li_0) (by omega))) ?_
          refine rsr (if_neg (lsI_n (li_15) (li_0) (by omega))) ?_
          refine rsr (vC_e (rk_160 (hR.fr FR30))) ?_
          refine RrV (nx_ok (by omega) hS (hR.fr FR30) (hT.fr (W := W_rx) FR30 (by decide) (by decide)) (fun i a b => (Fr.lc (W := W_rx) FR30 _ (by decide) _).trans (hW i a b)) (i := i30) (w30_41) (w30_38) (by omega) (by omega)) fun v Ma38 h38 => ?_
          obtain ⟨g38, e38_k0, e38_k1, e38_k2, p38_0⟩ := h38
          have f38 : Fr W_rx Mr Ma38 := Fr.t FR30 (Fr.m g38 (by decide))
          refine rsr (cV_e rfl) ?_
          refine rsr (vC_e (rk_160 (hR.fr f38))) ?_
          refine Rb_VV (hp4 _ _ (by omega) (by omega) T n m kd pl E tx ua ut mu _ _ G30 U30 Hl X30 (i30 + 1) e30 s u30 uc30 _ hS (hCx.fr (Fr.sI (by decide) (Fr.sI (by decide) FL30)) f38) ⟨(sI_nej (by decide)).trans (sI_eq), sI_eq, (sI_nej (by decide)).trans ((sI_nej (by decide)).trans (q30_10)), (sI_nej (by decide)).trans ((sI_nej (by decide)).trans (q30_9)), (sI_nej (by decide)).trans ((sI_nej (by decide)).trans (q30_16)), (sI_nej (by decide)).trans ((sI_nej (by decide)).trans (q30_19))⟩ ⟨e38_k0, e38_k1, e38_k2, (g38.i _ _ (by decide)).trans (w30_41), (g38.i _ _ (by decide)).trans (w30_43), (g38.i _ _ (by decide)).trans (w30_51), (g38.i _ _ (by decide)).trans (w30_53), (g38.i _ _ (by decide)).trans (w30_50), p38_0⟩ ⟨(ca30.fr (W := W_c0) (Fr.sI (by decide) (Fr.sI (by decide) Fr.r)) (by decide)), (ra30.fr g38 (by decide)), (lc30.fr (W := W_c0) (Fr.sI (by decide) (Fr.sI (by decide) Fr.r)) (by decide)), (lr30.fr g38 (by decide)), (cu30.fr (W := W_c0) (Fr.sI (by decide) (Fr.sI (by decide) Fr.r)) (by decide)), (ru30.fr g38 (by decide))⟩ ⟨by omega, by omega, by omega, by omega, by omega, by omega, by omega, by omega, by omega, by omega, by omega, by omega⟩ (vs2 (adI (rfl) (li_1)) (rfl))) fun v Mx39 w Nx39 hx39 => ?_
          rcases hx39 with ⟨i39, e39, u39, uc39, G39, U39, X39, fl39, fr39, sc39, sr39, rw39, bd39, mv39, ag39, au39, ax39, tp39, dp39, kv39⟩ | ⟨F39, P39, fl39, fr39, tc39, tr39⟩
          ·
            have FL39 : Fr W_cp Mc Mx39 := Fr.t (Fr.sI (by decide) (Fr.sI (by decide) FL30)) fl39
            have FR39 : Fr W_rx Mr Nx39 := Fr.t f38 fr39
            obtain ⟨bb39_0, bb39_1, bb39_2, bb39_3, bb39_4, bb39_5, bb39_6, bb39_7, bb39_8, bb39_9, bb39_10, bb39_11⟩ := bd39
            obtain ⟨q39_12, q39_13, q39_10, q39_9, q39_16, q39_19⟩ := sc39
            obtain ⟨w39_36, w39_37, w39_38, w39_41, w39_43, w39_51, w39_53, w39_50, w39_n⟩ := sr39
            obtain ⟨ca39, ra39, lc39, lr39, cu39, ru39⟩ := rw39
            have hk40 := (hS.ok i39 (by omega) (by omega)).r
            have ku39 := KU.t (ku30.fr (W := W_c0) (Fr.sI (by decide) (Fr.sI (by decide) Fr.r)) (by decide)) kv39 (by omega)
            have ty41 := Tye.t (d3 := 2) ty32 ag39 tp39 (by omega)
            have du42 := DU.t du33 ag39 au39 ax39 dp39 (by omega)
            refine rsl (cV_e rfl) ?_
            refine rsr (cV_e rfl) ?_
            refine rsl (vC_e (ck_65 (hC.fr FL39))) ?_
            have ty44 := Tye.em (d := 2) (d' := 1) (q := (e39 + 1)) (n1 := 0) (ut := ut) (mu := mu) (l := []) ty41 (Or.inr (Or.inr (Or.inr (Or.inr (Or.inr (Or.inr (Or.inr (Or.inl (by omega)))))))) : Eff 15 0 0 2 s 1 s) (by omega) ⟨by omega, by omega⟩ (by omega)
            have du45 := DU.em (q := (e39 + 1)) (o := 15) (n := 0) (p := -2) (l := [0]) du42 (by omega) (by omega)
            refine RlI (a87 (by omega) (hC.fr FL39) (q39_9) (rfl) (li_0) (by omega)) fun v Ma46 h46 => ?_
            obtain ⟨r43, rfl, g46, e46_k0, p46_0, p46_1⟩ := h46
            have f46 : Fr W_cp Mc Ma46 := Fr.t FL39 (Fr.m g46 (by decide))
            refine rsl (cI_e rfl) ?_
            refine rsl (if_pos (eqI_p (rfl) (li_3) (by omega))) ?_
            refine rsl (jv_e) ?_
            refine rsr (vC_e (rk_160 (hR.fr FR39))) ?_
            refine RrI (a196 (by omega) (hR.fr FR39) (w39_43) ((FR39.i _ _ (by decide)).trans h49) ((FR39.i _ _ (by decide)).trans h48) (li_15) (li_0) (by omega)) fun v Ma48 h48 => ?_
            obtain ⟨r47, rfl, g48, e48_k0, p48_0, p48_1⟩ := h48
            have f48 : Fr W_rx Mr Ma48 := Fr.t FR39 (Fr.m g48 (by decide))
            refine rsr (cI_e rfl) ?_
            refine rsr (jv_e) ?_
            exact Rs.ok (Or.inl ⟨i39, (e39 + 1), u39, uc39, (pu G39 e39 [15, 0, -2, 0, ut, mu, 0]), U39, X39, f46, f48, ⟨(g46.i _ _ (by decide)).trans (q39_12), (g46.i _ _ (by decide)).trans (q39_13), (g46.i _ _ (by decide)).trans (q39_10), e46_k0, (g46.i _ _ (by decide)).trans (q39_16), (g46.i _ _ (by decide)).trans (q39_19)⟩, ⟨(g48.i _ _ (by decide)).trans (w39_36), (g48.i _ _ (by decide)).trans (w39_37), (g48.i _ _ (by decide)).trans (w39_38), (g48.i _ _ (by decide)).trans (w39_41), e48_k0, (g48.i _ _ (by decide)).trans (w39_51), (g48.i _ _ (by decide)).trans (w39_53), (g48.i _ _ (by decide)).trans (w39_50), (w39_n.fr g48 (by decide) (by decide))⟩, ⟨(CA1.em ca39 (by omega) p46_1 rfl), (RA1.em ra39 (by omega) p48_1 rfl), (lc39.fr g46 (by decide)), (lr39.fr g48 (by decide)), (cu39.fr g46 (by decide)), (ru39.fr g48 (by decide))⟩, ⟨by omega, by omega, by omega, by omega, by omega, by omega, by omega, by omega, by omega, by omega, by omega, by omega⟩, ⟨by omega, by omega, by omega, by omega, by omega, by omega⟩, (Ag.pu (Ag.t (Ag.t Ag.r ag30 (by omega)) ag39 (by omega)) (by omega)), (Ag.t (Ag.t Ag.r au30 (by omega)) au39 (by omega)), (AgL.t (AgL.t AgL.r ax30 (by omega)) ax39 (by omega)), ty44, du45, (ku39.fr g46 (by decide))⟩)
          ·
            have FL39 : Fr W_cp Mc Mx39 := Fr.t (Fr.sI (by decide) (Fr.sI (by decide) FL30)) fl39
            have FR39 : Fr W_rp Mr Nx39 := Fr.t (Fr.m f38 W_rx_p) fr39
            obtain ⟨ti39, tz39, tn39, tu39, t1339, t1039, t1139, t1239, t939, t1639, t1939, tb39⟩ := tc39
            obtain ⟨re39, rn39, ru39, rm39, rt39, u4139, u4239, u4339, u5139, u5339, u4839, u4939, ub39⟩ := tr39
            refine rsl (cV_e rfl) ?_
            refine rsr (cV_e rfl) ?_
            refine rsl (vC_e (ck_65 (hC.fr FL39))) ?_
            refine RlI (y87 (by omega) (hC.fr FL39) (hTk.fr (WL := W_cp) FL39 (by decide)) (t1239) (t1339) (t1039) (t1139) (t939) (t1639) (t1939) (rfl) (li_0) (by omega)) fun v Ma50 h50 => ?_
            obtain ⟨rv49, sz49, sn49, uc49, rfl, g50, e50_sz49, e50_sn49, e50_uc49, e50_k0, e50_k1, e50_k2, e50_k3, p50_0, p50_1, p50_2, p50_3⟩ := h50
            have f50 : Fr W_cp Mc Ma50 := Fr.t FL39 (Fr.m g50 (by decide))
            refine rsl (cI_e rfl) ?_
            refine rsl (if_pos (eqI_p (rfl) (li_3) (by omega))) ?_
            refine rsl (jv_e) ?_
            refine rsr (vC_e (rk_160 (hR.fr FR39))) ?_
            refine RrI (x196_s (by omega) (hR.fr FR39) (u4139) (u4239) (u4339) (u5139) (u5339) (u4839) (u4939) (li_15) (li_0) (by omega)) fun v Ma52 h52 => ?_
            obtain ⟨rv51, em51, rfl, g52, e52_em51, e52_k0, e52_k1, e52_k2, e52_k3, e52_k4, p52_0, p52_1⟩ := h52
            have f52 : Fr W_rp Mr Ma52 := Fr.t FR39 (Fr.m g52 (by decide))
            refine rsr (cI_e rfl) ?_
            refine rsr (jv_e) ?_
            exact Rs.ok (Or.inr ⟨F39, P39, f50, f52, ⟨ti39, sz49, sn49, uc49, e50_k0, e50_k1, e50_k2, e50_k3, e50_sz49, e50_sn49, e50_uc49, by omega⟩, ⟨em51, rn39, ru39, rm39, rt39, e52_k0, e52_k1, e52_em51, e52_k2, e52_k3, e52_k4, (g52.i _ _ (by decide)).trans (u4939), by omega⟩⟩)
        ·
          by_cases c53 : ((kd i30)) = 128
          ·
            refine rsl (cI_e (lk_128 (by omega) ((rfl).trans (congrArg iI (by omega))))) ?_
            refine rsl (if_pos (eqI_p (rfl) (rfl) (by omega))) ?_
            refine rsl (gtI_q (w := iI ((kd i30))) (ck_65 (hC.fr FL30)) (q30_13)) ?_
            refine rsl (cI_e (ok_128 (by omega) ((rfl).trans (congrArg iI (by omega))))) ?_
            refine rsl (vC_e (ck_65 (hC.fr FL30))) ?_
            have hm54 : i30 + 1 < m := hS.more i30 (by omega) (by omega) (by omega)
            refine rsl (cV_e (a63q (by omega) hS (hC.fr FL30) (hTk.fr (WL := W_cp) FL30 (by decide)) (q30_12) (q30_13) (q30_10) (i2 := (i30 + 1)) (by omega) (by omega))) ?_
            have hk55 := (hS.ok (i30 + 1) (by omega) (by omega)).r
            refine rsl (vC_e (ck_65 (hC.fr FL30).sI.sI)) ?_
            refine rsr (gtI_q (w := iI ((kr (kd i30)))) (rk_160 (hR.fr FR30)) (w30_36)) ?_
            refine rsr (jn_v) ?_
            refine rsr (if_neg (krI_n (k := 60) (rfl) (li_60) (hS.ok i30 (by omega) (by omega)) (by unfold KdOK sgk; omega) (by decide +kernel) (by omega) (by omega))) ?_
            refine rsr (gtI_q (w := iI ((kr (kd i30)))) (rk_160 (hR.fr FR30)) (w30_36)) ?_
            refine rsr (if_pos (krI_p (k := 128) (rfl) (li_300) (by omega) (by decide +kernel))) ?_
            refine rsr (jv_e) ?_
            refine rsr (gtI_q (w := iI 0) (rk_160 (hR.fr FR30)) (w30_41)) ?_
            refine rsr (jn_v) ?_
            refine rsr (if_pos (eqI_p (rfl) (li_0) (by omega))) ?_
            refine rsr (if_neg (lsI_n (li_16) (li_0) (by omega))) ?_
            refine rsr (vC_e (rk_160 (hR.fr FR30))) ?_
            refine RrV (nx_ok (by omega) hS (hR.fr FR30) (hT.fr (W := W_rx) FR30 (by decide) (by decide)) (fun i a b => (Fr.lc (W := W_rx) FR30 _ (by decide) _).trans (hW i a b)) (i := i30) (w30_41) (w30_38) (by omega) (by omega)) fun v Ma57 h57 => ?_
            obtain ⟨g57, e57_k0, e57_k1, e57_k2, p57_0⟩ := h57
            have f57 : Fr W_rx Mr Ma57 := Fr.t FR30 (Fr.m g57 (by decide))
            refine rsr (cV_e rfl) ?_
            refine rsr (vC_e (rk_160 (hR.fr f57))) ?_
            refine Rb_VV (hp4 _ _ (by omega) (by omega) T n m kd pl E tx ua ut mu _ _ G30 U30 Hl X30 (i30 + 1) e30 s u30 uc30 _ hS (hCx.fr (Fr.sI (by decide) (Fr.sI (by decide) FL30)) f57) ⟨(sI_nej (by decide)).trans (sI_eq), sI_eq, (sI_nej (by decide)).trans ((sI_nej (by decide)).trans (q30_10)), (sI_nej (by decide)).trans ((sI_nej (by decide)).trans (q30_9)), (sI_nej (by decide)).trans ((sI_nej (by decide)).trans (q30_16)), (sI_nej (by decide)).trans ((sI_nej (by decide)).trans (q30_19))⟩ ⟨e57_k0, e57_k1, e57_k2, (g57.i _ _ (by decide)).trans (w30_41), (g57.i _ _ (by decide)).trans (w30_43), (g57.i _ _ (by decide)).trans (w30_51), (g57.i _ _ (by decide)).trans (w30_53), (g57.i _ _ (by decide)).trans (w30_50), p57_0⟩ ⟨(ca30.fr (W := W_c0) (Fr.sI (by decide) (Fr.sI (by decide) Fr.r)) (by decide)), (ra30.fr g57 (by decide)), (lc30.fr (W := W_c0) (Fr.sI (by decide) (Fr.sI (by decide) Fr.r)) (by decide)), (lr30.fr g57 (by decide)), (cu30.fr (W := W_c0) (Fr.sI (by decide) (Fr.sI (by decide) Fr.r)) (by decide)), (ru30.fr g57 (by decide))⟩ ⟨by omega, by omega, by omega, by omega, by omega, by omega, by omega, by omega, by omega, by omega, by omega, by omega⟩ (vs2 (adI (rfl) (li_1)) (rfl))) fun v Mx58 w Nx58 hx58 => ?_
            rcases hx58 with ⟨i58, e58, u58, uc58, G58, U58, X58, fl58, fr58, sc58, sr58, rw58, bd58, mv58, ag58, au58, ax58, tp58, dp58, kv58⟩ | ⟨F58, P58, fl58, fr58, tc58, tr58⟩
            ·
              have FL58 : Fr W_cp Mc Mx58 := Fr.t (Fr.sI (by decide) (Fr.sI (by decide) FL30)) fl58
              have FR58 : Fr W_rx Mr Nx58 := Fr.t f57 fr58
              obtain ⟨bb58_0, bb58_1, bb58_2, bb58_3, bb58_4, bb58_5, bb58_6, bb58_7, bb58_8, bb58_9, bb58_10, bb58_11⟩ := bd58
              obtain ⟨q58_12, q58_13, q58_10, q58_9, q58_16, q58_19⟩ := sc58
              obtain ⟨w58_36, w58_37, w58_38, w58_41, w58_43, w58_51, w58_53, w58_50, w58_n⟩ := sr58
              obtain ⟨ca58, ra58, lc58, lr58, cu58, ru58⟩ := rw58
              have hk59 := (hS.ok i58 (by omega) (by omega)).r
              have ku58 := KU.t (ku30.fr (W := W_c0) (Fr.sI (by decide) (Fr.sI (by decide) Fr.r)) (by decide)) kv58 (by omega)
              have ty60 := Tye.t (d3 := 2) ty32 ag58 tp58 (by omega)
              have du61 := DU.t du33 ag58 au58 ax58 dp58 (by omega)
              refine rsl (cV_e rfl) ?_
              refine rsr (cV_e rfl) ?_
              refine rsl (vC_e (ck_65 (hC.fr FL58))) ?_
              have ty63 := Tye.em (d := 2) (d' := 1) (q := (e58 + 1)) (n1 := 0) (ut := ut) (mu := mu) (l := []) ty60 (Or.inr (Or.inr (Or.inr (Or.inr (Or.inr (Or.inr (Or.inr (Or.inl (by omega)))))))) : Eff 16 0 0 2 s 1 s) (by omega) ⟨by omega, by omega⟩ (by omega)
              have du64 := DU.em (q := (e58 + 1)) (o := 16) (n := 0) (p := -2) (l := [0]) du61 (by omega) (by omega)
              refine RlI (a87 (by omega) (hC.fr FL58) (q58_9) (rfl) (li_0) (by omega)) fun v Ma65 h65 => ?_
              obtain ⟨r62, rfl, g65, e65_k0, p65_0, p65_1⟩ := h65
              have f65 : Fr W_cp Mc Ma65 := Fr.t FL58 (Fr.m g65 (by decide))
              refine rsl (cI_e rfl) ?_
              refine rsl (if_pos (eqI_p (rfl) (li_3) (by omega))) ?_
              refine rsl (jv_e) ?_
              refine rsr (vC_e (rk_160 (hR.fr FR58))) ?_
              refine RrI (a196 (by omega) (hR.fr FR58) (w58_43) ((FR58.i _ _ (by decide)).trans h49) ((FR58.i _ _ (by decide)).trans h48) (li_16) (li_0) (by omega)) fun v Ma67 h67 => ?_
              obtain ⟨r66, rfl, g67, e67_k0, p67_0, p67_1⟩ := h67
              have f67 : Fr W_rx Mr Ma67 := Fr.t FR58 (Fr.m g67 (by decide))
              refine rsr (cI_e rfl) ?_
              refine rsr (jv_e) ?_
              exact Rs.ok (Or.inl ⟨i58, (e58 + 1), u58, uc58, (pu G58 e58 [16, 0, -2, 0, ut, mu, 0]), U58, X58, f65, f67, ⟨(g65.i _ _ (by decide)).trans (q58_12), (g65.i _ _ (by decide)).trans (q58_13), (g65.i _ _ (by decide)).trans (q58_10), e65_k0, (g65.i _ _ (by decide)).trans (q58_16), (g65.i _ _ (by decide)).trans (q58_19)⟩, ⟨(g67.i _ _ (by decide)).trans (w58_36), (g67.i _ _ (by decide)).trans (w58_37), (g67.i _ _ (by decide)).trans (w58_38), (g67.i _ _ (by decide)).trans (w58_41), e67_k0, (g67.i _ _ (by decide)).trans (w58_51), (g67.i _ _ (by decide)).trans (w58_53), (g67.i _ _ (by decide)).trans (w58_50), (w58_n.fr g67 (by decide) (by decide))⟩, ⟨(CA1.em ca58 (by omega) p65_1 rfl), (RA1.em ra58 (by omega) p67_1 rfl), (lc58.fr g65 (by decide)), (lr58.fr g67 (by decide)), (cu58.fr g65 (by decide)), (ru58.fr g67 (by decide))⟩, ⟨by omega, by omega, by omega, by omega, by omega, by omega, by omega, by omega, by omega, by omega, by omega, by omega⟩, ⟨by omega, by omega, by omega, by omega, by omega, by omega⟩, (Ag.pu (Ag.t (Ag.t Ag.r ag30 (by omega)) ag58 (by omega)) (by omega)), (Ag.t (Ag.t Ag.r au30 (by omega)) au58 (by omega)), (AgL.t (AgL.t AgL.r ax30 (by omega)) ax58 (by omega)), ty63, du64, (ku58.fr g65 (by decide))⟩)
            ·
              have FL58 : Fr W_cp Mc Mx58 := Fr.t (Fr.sI (by decide) (Fr.sI (by decide) FL30)) fl58
              have FR58 : Fr W_rp Mr Nx58 := Fr.t (Fr.m f57 W_rx_p) fr58
              obtain ⟨ti58, tz58, tn58, tu58, t1358, t1058, t1158, t1258, t958, t1658, t1958, tb58⟩ := tc58
              obtain ⟨re58, rn58, ru58, rm58, rt58, u4158, u4258, u4358, u5158, u5358, u4858, u4958, ub58⟩ := tr58
              refine rsl (cV_e rfl) ?_
              refine rsr (cV_e rfl) ?_
              refine rsl (vC_e (ck_65 (hC.fr FL58))) ?_
              refine RlI (y87 (by omega) (hC.fr FL58) (hTk.fr (WL := W_cp) FL58 (by decide)) (t1258) (t1358) (t1058) (t1158) (t958) (t1658) (t1958) (rfl) (li_0) (by omega)) fun v Ma69 h69 => ?_
              obtain ⟨rv68, sz68, sn68, uc68, rfl, g69, e69_sz68, e69_sn68, e69_uc68, e69_k0, e69_k1, e69_k2, e69_k3, p69_0, p69_1, p69_2, p69_3⟩ := h69
              have f69 : Fr W_cp Mc Ma69 := Fr.t FL58 (Fr.m g69 (by decide))
              refine rsl (cI_e rfl) ?_
              refine rsl (if_pos (eqI_p (rfl) (li_3) (by omega))) ?_
              refine rsl (jv_e) ?_
              refine rsr (vC_e (rk_160 (hR.fr FR58))) ?_
              refine RrI (x196_s (by omega) (hR.fr FR58) (u4158) (u4258) (u4358) (u5158) (u5358) (u4858) (u4958) (li_16) (li_0) (by omega)) fun v Ma71 h71 => ?_
              obtain ⟨rv70, em70, rfl, g71, e71_em70, e71_k0, e71_k1, e71_k2, e71_k3, e71_k4, p71_0, p71_1⟩ := h71
              have f71 : Fr W_rp Mr Ma71 := Fr.t FR58 (Fr.m g71 (by decide))
              refine rsr (cI_e rfl) ?_
              refine rsr (jv_e) ?_
              exact Rs.ok (Or.inr ⟨F58, P58, f69, f71, ⟨ti58, sz68, sn68, uc68, e69_k0, e69_k1, e69_k2, e69_k3, e69_sz68, e69_sn68, e69_uc68, by omega⟩, ⟨em70, rn58, ru58, rm58, rt58, e71_k0, e71_k1, e71_em70, e71_k2, e71_k3, e71_k4, (g71.i _ _ (by decide)).trans (u4958), by omega⟩⟩)
          ·
            by_cases c72 : ((kd i30)) = 129
            ·
              refine rsl (cI_e (lk_129 (by omega) ((rfl).trans (congrArg iI (by omega))))) ?_
              refine rsl (if_pos (eqI_p (rfl) (rfl) (by omega))) ?_
              refine rsl (gtI_q (w := iI ((kd i30))) (ck_65 (hC.fr FL30)) (q30_13)) ?_
              refine rsl (cI_e (ok_129 (by omega) ((rfl).trans (congrArg iI (by omega))))) ?_
              refine rsl (vC_e (ck_65 (hC.fr FL30))) ?_
              have hm73 : i30 + 1 < m := hS.more i30 (by omega) (by omega) (by omega)
              refine rsl (cV_e (a63q (by omega) hS (hC.fr FL30) (hTk.fr (WL := W_cp) FL30 (by decide)) (q30_12) (q30_13) (q30_10) (i2 := (i30 + 1)) (by omega) (by omega))) ?_
              have hk74 := (hS.ok (i30 + 1) (by omega) (by omega)).r
              refine rsl (vC_e (ck_65 (hC.fr FL30).sI.sI)) ?_
              refine rsr (gtI_q (w := iI ((kr (kd i30)))) (rk_160 (hR.fr FR30)) (w30_36)) ?_
              refine rsr (jn_v) ?_
              refine rsr (if_neg (krI_n (k := 60) (rfl) (li_60) (hS.ok i30 (by omega) (by omega)) (by unfold KdOK sgk; omega) (by decide +kernel) (by omega) (by omega))) ?_
              refine rsr (gtI_q (w := iI ((kr (kd i30)))) (rk_160 (hR.fr FR30)) (w30_36)) ?_
              refine rsr (if_neg (krI_n (k := 128) (rfl) (li_300) (hS.ok i30 (by omega) (by omega)) (by unfold KdOK sgk; omega) (by decide +kernel) (by omega) (by omega))) ?_
              refine rsr (gtI_q (w := iI ((kr (kd i30)))) (rk_160 (hR.fr FR30)) (w30_36)) ?_
              refine rsr (if_pos (krI_p (k := 129) (rfl) (li_301) (by omega) (by decide +kernel))) ?_
              refine rsr (jv_e) ?_
              refine rsr (gtI_q (w := iI 0) (rk_160 (hR.fr FR30)) (w30_41)) ?_
              refine rsr (jn_v) ?_
              refine rsr (if_pos (eqI_p (rfl) (li_0) (by omega))) ?_
              refine rsr (if_neg (lsI_n (li_17) (li_0) (by omega))) ?_
              refine rsr (vC_e (rk_160 (hR.fr FR30))) ?_
              refine RrV (nx_ok (by omega) hS (hR.fr FR30) (hT.fr (W := W_rx) FR30 (by decide) (by decide)) (fun i a b => (Fr.lc (W := W_rx) FR30 _ (by decide) _).trans (hW i a b)) (i := i30) (w30_41) (w30_38) (by omega) (by omega)) fun v Ma76 h76 => ?_
              obtain ⟨g76, e76_k0, e76_k1, e76_k2, p76_0⟩ := h76
              have f76 : Fr W_rx Mr Ma76 := Fr.t FR30 (Fr.m g76 (by decide))
              refine rsr (cV_e rfl) ?_
              refine rsr (vC_e (rk_160 (hR.fr f76))) ?_
              refine Rb_VV (hp4 _ _ (by omega) (by omega) T n m kd pl E tx ua ut mu _ _ G30 U30 Hl X30 (i30 + 1) e30 s u30 uc30 _ hS (hCx.fr (Fr.sI (by decide) (Fr.sI (by decide) FL30)) f76) ⟨(sI_nej (by decide)).trans (sI_eq), sI_eq, (sI_nej (by decide)).trans ((sI_nej (by decide)).trans (q30_10)), (sI_nej (by decide)).trans ((sI_nej (by decide)).trans (q30_9)), (sI_nej (by decide)).trans ((sI_nej (by decide)).trans (q30_16)), (sI_nej (by decide)).trans ((sI_nej (by decide)).trans (q30_19))⟩ ⟨e76_k0, e76_k1, e76_k2, (g76.i _ _ (by decide)).trans (w30_41), (g76.i _ _ (by decide)).trans (w30_43), (g76.i _ _ (by decide)).trans (w30_51), (g76.i _ _ (by decide)).trans (w30_53), (g76.i _ _ (by decide)).trans (w30_50), p76_0⟩ ⟨(ca30.fr (W := W_c0) (Fr.sI (by decide) (Fr.sI (by decide) Fr.r)) (by decide)), (ra30.fr g76 (by decide)), (lc30.fr (W := W_c0) (Fr.sI (by decide) (Fr.sI (by decide) Fr.r)) (by decide)), (lr30.fr g76 (by decide)), (cu30.fr (W := W_c0) (Fr.sI (by decide) (Fr.sI (by decide) Fr.r)) (by decide)), (ru30.fr g76 (by decide))⟩ ⟨by omega, by omega, by omega, by omega, by omega, by omega, by omega, by omega, by omega, by omega, by omega, by omega⟩ (vs2 (adI (rfl) (li_1)) (rfl))) fun v Mx77 w Nx77 hx77 => ?_
              rcases hx77 with ⟨i77, e77, u77, uc77, G77, U77, X77, fl77, fr77, sc77, sr77, rw77, bd77, mv77, ag77, au77, ax77, tp77, dp77, kv77⟩ | ⟨F77, P77, fl77, fr77, tc77, tr77⟩
              ·
                have FL77 : Fr W_cp Mc Mx77 := Fr.t (Fr.sI (by decide) (Fr.sI (by decide) FL30)) fl77
                have FR77 : Fr W_rx Mr Nx77 := Fr.t f76 fr77
                obtain ⟨bb77_0, bb77_1, bb77_2, bb77_3, bb77_4, bb77_5, bb77_6, bb77_7, bb77_8, bb77_9, bb77_10, bb77_11⟩ := bd77
                obtain ⟨q77_12, q77_13, q77_10, q77_9, q77_16, q77_19⟩ := sc77
                obtain ⟨w77_36, w77_37, w77_38, w77_41, w77_43, w77_51, w77_53, w77_50, w77_n⟩ := sr77
                obtain ⟨ca77, ra77, lc77, lr77, cu77, ru77⟩ := rw77
                have hk78 := (hS.ok i77 (by omega) (by omega)).r
                have ku77 := KU.t (ku30.fr (W := W_c0) (Fr.sI (by decide) (Fr.sI (by decide) Fr.r)) (by decide)) kv77 (by omega)
                have ty79 := Tye.t (d3 := 2) ty32 ag77 tp77 (by omega)
                have du80 := DU.t du33 ag77 au77 ax77 dp77 (by omega)
                refine rsl (cV_e rfl) ?_
                refine rsr (cV_e rfl) ?_
                refine rsl (vC_e (ck_65 (hC.fr FL77))) ?_
                have ty82 := Tye.em (d := 2) (d' := 1) (q := (e77 + 1)) (n1 := 0) (ut := ut) (mu := mu) (l := []) ty79 (Or.inr (Or.inr (Or.inr (Or.inr (Or.inr (Or.inr (Or.inr (Or.inl (by omega)))))))) : Eff 17 0 0 2 s 1 s) (by omega) ⟨by omega, by omega⟩ (by omega)
                have du83 := DU.em (q := (e77 + 1)) (o := 17) (n := 0) (p := -2) (l := [0]) du80 (by omega) (by omega)
                refine RlI (a87 (by omega) (hC.fr FL77) (q77_9) (rfl) (li_0) (by omega)) fun v Ma84 h84 => ?_
                obtain ⟨r81, rfl, g84, e84_k0, p84_0, p84_1⟩ := h84
                have f84 : Fr W_cp Mc Ma84 := Fr.t FL77 (Fr.m g84 (by decide))
                refine rsl (cI_e rfl) ?_
                refine rsl (if_pos (eqI_p (rfl) (li_3) (by omega))) ?_
                refine rsl (jv_e) ?_
                refine rsr (vC_e (rk_160 (hR.fr FR77))) ?_
                refine RrI (a196 (by omega) (hR.fr FR77) (w77_43) ((FR77.i _ _ (by decide)).trans h49) ((FR77.i _ _ (by decide)).trans h48) (li_17) (li_0) (by omega)) fun v Ma86 h86 => ?_
                obtain ⟨r85, rfl, g86, e86_k0, p86_0, p86_1⟩ := h86
                have f86 : Fr W_rx Mr Ma86 := Fr.t FR77 (Fr.m g86 (by decide))
                refine rsr (cI_e rfl) ?_
                refine rsr (jv_e) ?_
                exact Rs.ok (Or.inl ⟨i77, (e77 + 1), u77, uc77, (pu G77 e77 [17, 0, -2, 0, ut, mu, 0]), U77, X77, f84, f86, ⟨(g84.i _ _ (by decide)).trans (q77_12), (g84.i _ _ (by decide)).trans (q77_13), (g84.i _ _ (by decide)).trans (q77_10), e84_k0, (g84.i _ _ (by decide)).trans (q77_16), (g84.i _ _ (by decide)).trans (q77_19)⟩, ⟨(g86.i _ _ (by decide)).trans (w77_36), (g86.i _ _ (by decide)).trans (w77_37), (g86.i _ _ (by decide)).trans (w77_38), (g86.i _ _ (by decide)).trans (w77_41), e86_k0, (g86.i _ _ (by decide)).trans (w77_51), (g86.i _ _ (by decide)).trans (w77_53), (g86.i _ _ (by decide)).trans (w77_50), (w77_n.fr g86 (by decide) (by decide))⟩, ⟨(CA1.em ca77 (by omega) p84_1 rfl), (RA1.em ra77 (by omega) p86_1 rfl), (lc77.fr g84 (by decide)), (lr77.fr g86 (by decide)), (cu77.fr g84 (by decide)), (ru77.fr g86 (by decide))⟩, ⟨by omega, by omega, by omega, by omega, by omega, by omega, by omega, by omega, by omega, by omega, by omega, by omega⟩, ⟨by omega, by omega, by omega, by omega, by omega, by omega⟩, (Ag.pu (Ag.t (Ag.t Ag.r ag30 (by omega)) ag77 (by omega)) (by omega)), (Ag.t (Ag.t Ag.r au30 (by omega)) au77 (by omega)), (AgL.t (AgL.t AgL.r ax30 (by omega)) ax77 (by omega)), ty82, du83, (ku77.fr g84 (by decide))⟩)
              ·
                have FL77 : Fr W_cp Mc Mx77 := Fr.t (Fr.sI (by decide) (Fr.sI (by decide) FL30)) fl77
                have FR77 : Fr W_rp Mr Nx77 := Fr.t (Fr.m f76 W_rx_p) fr77
                obtain ⟨ti77, tz77, tn77, tu77, t1377, t1077, t1177, t1277, t977, t1677, t1977, tb77⟩ := tc77
                obtain ⟨re77, rn77, ru77, rm77, rt77, u4177, u4277, u4377, u5177, u5377, u4877, u4977, ub77⟩ := tr77
                refine rsl (cV_e rfl) ?_
                refine rsr (cV_e rfl) ?_
                refine rsl (vC_e (ck_65 (hC.fr FL77))) ?_
                refine RlI (y87 (by omega) (hC.fr FL77) (hTk.fr (WL := W_cp) FL77 (by decide)) (t1277) (t1377) (t1077) (t1177) (t977) (t1677) (t1977) (rfl) (li_0) (by omega)) fun v Ma88 h88 => ?_
                obtain ⟨rv87, sz87, sn87, uc87, rfl, g88, e88_sz87, e88_sn87, e88_uc87, e88_k0, e88_k1, e88_k2, e88_k3, p88_0, p88_1, p88_2, p88_3⟩ := h88
                have f88 : Fr W_cp Mc Ma88 := Fr.t FL77 (Fr.m g88 (by decide))
                refine rsl (cI_e rfl) ?_
                refine rsl (if_pos (eqI_p (rfl) (li_3) (by omega))) ?_
                refine rsl (jv_e) ?_
                refine rsr (vC_e (rk_160 (hR.fr FR77))) ?_
                refine RrI (x196_s (by omega) (hR.fr FR77) (u4177) (u4277) (u4377) (u5177) (u5377) (u4877) (u4977) (li_17) (li_0) (by omega)) fun v Ma90 h90 => ?_
                obtain ⟨rv89, em89, rfl, g90, e90_em89, e90_k0, e90_k1, e90_k2, e90_k3, e90_k4, p90_0, p90_1⟩ := h90
                have f90 : Fr W_rp Mr Ma90 := Fr.t FR77 (Fr.m g90 (by decide))
                refine rsr (cI_e rfl) ?_
                refine rsr (jv_e) ?_
                exact Rs.ok (Or.inr ⟨F77, P77, f88, f90, ⟨ti77, sz87, sn87, uc87, e88_k0, e88_k1, e88_k2, e88_k3, e88_sz87, e88_sn87, e88_uc87, by omega⟩, ⟨em89, rn77, ru77, rm77, rt77, e90_k0, e90_k1, e90_em89, e90_k2, e90_k3, e90_k4, (g90.i _ _ (by decide)).trans (u4977), by omega⟩⟩)
            ·
              by_cases c91 : ((kd i30)) = 130
              ·
                refine rsl (cI_e (lk_130 (by omega) ((rfl).trans (congrArg iI (by omega))))) ?_
                refine rsl (if_pos (eqI_p (rfl) (rfl) (by omega))) ?_
                refine rsl (gtI_q (w := iI ((kd i30))) (ck_65 (hC.fr FL30)) (q30_13)) ?_
                refine rsl (cI_e (ok_130 (by omega) ((rfl).trans (congrArg iI (by omega))))) ?_
                refine rsl (vC_e (ck_65 (hC.fr FL30))) ?_
                have hm92 : i30 + 1 < m := hS.more i30 (by omega) (by omega) (by omega)
                refine rsl (cV_e (a63q (by omega) hS (hC.fr FL30) (hTk.fr (WL := W_cp) FL30 (by decide)) (q30_12) (q30_13) (q30_10) (i2 := (i30 + 1)) (by omega) (by omega))) ?_
                have hk93 := (hS.ok (i30 + 1) (by omega) (by omega)).r
                refine rsl (vC_e (ck_65 (hC.fr FL30).sI.sI)) ?_
                refine rsr (gtI_q (w := iI ((kr (kd i30)))) (rk_160 (hR.fr FR30)) (w30_36)) ?_
                refine rsr (jn_v) ?_
                refine rsr (if_neg (krI_n (k := 60) (rfl) (li_60) (hS.ok i30 (by omega) (by omega)) (by unfold KdOK sgk; omega) (by decide +kernel) (by omega) (by omega))) ?_
                refine rsr (gtI_q (w := iI ((kr (kd i30)))) (rk_160 (hR.fr FR30)) (w30_36)) ?_
                refine rsr (if_neg (krI_n (k := 128) (rfl) (li_300) (hS.ok i30 (by omega) (by omega)) (by unfold KdOK sgk; omega) (by decide +kernel) (by omega) (by omega))) ?_
                refine rsr (gtI_q (w := iI ((kr (kd i30)))) (rk_160 (hR.fr FR30)) (w30_36)) ?_
                refine rsr (if_neg (krI_n (k := 129) (rfl) (li_301) (hS.ok i30 (by omega) (by omega)) (by unfold KdOK sgk; omega) (by decide +kernel) (by omega) (by omega))) ?_
                refine rsr (gtI_q (w := iI ((kr (kd i30)))) (rk_160 (hR.fr FR30)) (w30_36)) ?_
                refine rsr (if_pos (krI_p (k := 130) (rfl) (li_302) (by omega) (by decide +kernel))) ?_
                refine rsr (jv_e) ?_
                refine rsr (gtI_q (w := iI 0) (rk_160 (hR.fr FR30)) (w30_41)) ?_
                refine rsr (jn_v) ?_
                refine rsr (if_pos (eqI_p (rfl) (li_0) (by omega))) ?_
                refine rsr (if_neg (lsI_n (li_18) (li_0) (by omega))) ?_
                refine rsr (vC_e (rk_160 (hR.fr FR30))) ?_
                refine RrV (nx_ok (by omega) hS (hR.fr FR30) (hT.fr (W := W_rx) FR30 (by decide) (by decide)) (fun i a b => (Fr.lc (W := W_rx) FR30 _ (by decide) _).trans (hW i a b)) (i := i30) (w30_41) (w30_38) (by omega) (by omega)) fun v Ma95 h95 => ?_
                obtain ⟨g95, e95_k0, e95_k1, e95_k2, p95_0⟩ := h95
                have f95 : Fr W_rx Mr Ma95 := Fr.t FR30 (Fr.m g95 (by decide))
                refine rsr (cV_e rfl) ?_
                refine rsr (vC_e (rk_160 (hR.fr f95))) ?_
                refine Rb_VV (hp4 _ _ (by omega) (by omega) T n m kd pl E tx ua ut mu _ _ G30 U30 Hl X30 (i30 + 1) e30 s u30 uc30 _ hS (hCx.fr (Fr.sI (by decide) (Fr.sI (by decide) FL30)) f95) ⟨(sI_nej (by decide)).trans (sI_eq), sI_eq, (sI_nej (by decide)).trans ((sI_nej (by decide)).trans (q30_10)), (sI_nej (by decide)).trans ((sI_nej (by decide)).trans (q30_9)), (sI_nej (by decide)).trans ((sI_nej (by decide)).trans (q30_16)), (sI_nej (by decide)).trans ((sI_nej (by decide)).trans (q30_19))⟩ ⟨e95_k0, e95_k1, e95_k2, (g95.i _ _ (by decide)).trans (w30_41), (g95.i _ _ (by decide)).trans (w30_43), (g95.i _ _ (by decide)).trans (w30_51), (g95.i _ _ (by decide)).trans (w30_53), (g95.i _ _ (by decide)).trans (w30_50), p95_0⟩ ⟨(ca30.fr (W := W_c0) (Fr.sI (by decide) (Fr.sI (by decide) Fr.r)) (by decide)), (ra30.fr g95 (by decide)), (lc30.fr (W := W_c0) (Fr.sI (by decide) (Fr.sI (by decide) Fr.r)) (by decide)), (lr30.fr g95 (by decide)), (cu30.fr (W := W_c0) (Fr.sI (by decide) (Fr.sI (by decide) Fr.r)) (by decide)), (ru30.fr g95 (by decide))⟩ ⟨by omega, by omega, by omega, by omega, by omega, by omega, by omega, by omega, by omega, by omega, by omega, by omega⟩ (vs2 (adI (rfl) (li_1)) (rfl))) fun v Mx96 w Nx96 hx96 => ?_
                rcases hx96 with ⟨i96, e96, u96, uc96, G96, U96, X96, fl96, fr96, sc96, sr96, rw96, bd96, mv96, ag96, au96, ax96, tp96, dp96, kv96⟩ | ⟨F96, P96, fl96, fr96, tc96, tr96⟩
                ·
                  have FL96 : Fr W_cp Mc Mx96 := Fr.t (Fr.sI (by decide) (Fr.sI (by decide) FL30)) fl96
                  have FR96 : Fr W_rx Mr Nx96 := Fr.t f95 fr96
                  obtain ⟨bb96_0, bb96_1, bb96_2, bb96_3, bb96_4, bb96_5, bb96_6, bb96_7, bb96_8, bb96_9, bb96_10, bb96_11⟩ := bd96
                  obtain ⟨q96_12, q96_13, q96_10, q96_9, q96_16, q96_19⟩ := sc96
                  obtain ⟨w96_36, w96_37, w96_38, w96_41, w96_43, w96_51, w96_53, w96_50, w96_n⟩ := sr96
                  obtain ⟨ca96, ra96, lc96, lr96, cu96, ru96⟩ := rw96
                  have hk97 := (hS.ok i96 (by omega) (by omega)).r
                  have ku96 := KU.t (ku30.fr (W := W_c0) (Fr.sI (by decide) (Fr.sI (by decide) Fr.r)) (by decide)) kv96 (by omega)
                  have ty98 := Tye.t (d3 := 2) ty32 ag96 tp96 (by omega)
                  have du99 := DU.t du33 ag96 au96 ax96 dp96 (by omega)
                  refine rsl (cV_e rfl) ?_
                  refine rsr (cV_e rfl) ?_
                  refine rsl (vC_e (ck_65 (hC.fr FL96))) ?_
                  have ty101 := Tye.em (d := 2) (d' := 1) (q := (e96 + 1)) (n1 := 0) (ut := ut) (mu := mu) (l := []) ty98 (Or.inr (Or.inr (Or.inr (Or.inr (Or.inr (Or.inr (Or.inr (Or.inl (by omega)))))))) : Eff 18 0 0 2 s 1 s) (by omega) ⟨by omega, by omega⟩ (by omega)
                  have du102 := DU.em (q := (e96 + 1)) (o := 18) (n := 0) (p := -2) (l := [0]) du99 (by omega) (by omega)
                  refine RlI (a87 (by omega) (hC.fr FL96) (q96_9) (rfl) (li_0) (by omega)) fun v Ma103 h103 => ?_
                  obtain ⟨r100, rfl, g103, e103_k0, p103_0, p103_1⟩ := h103
                  have f103 : Fr W_cp Mc Ma103 := Fr.t FL96 (Fr.m g103 (by decide))
                  refine rsl (cI_e rfl) ?_
                  refine rsl (if_pos (eqI_p (rfl) (li_3) (by omega))) ?_
                  refine rsl (jv_e) ?_
                  refine rsr (vC_e (rk_160 (hR.fr FR96))) ?_
                  refine RrI (a196 (by omega) (hR.fr FR96) (w96_43) ((FR96.i _ _ (by decide)).trans h49) ((FR96.i _ _ (by decide)).trans h48) (li_18) (li_0) (by omega)) fun v Ma105 h105 => ?_
                  obtain ⟨r104, rfl, g105, e105_k0, p105_0, p105_1⟩ := h105
                  have f105 : Fr W_rx Mr Ma105 := Fr.t FR96 (Fr.m g105 (by decide))
                  refine rsr (cI_e rfl) ?_
                  refine rsr (jv_e) ?_
                  exact Rs.ok (Or.inl ⟨i96, (e96 + 1), u96, uc96, (pu G96 e96 [18, 0, -2, 0, ut, mu, 0]), U96, X96, f103, f105, ⟨(g103.i _ _ (by decide)).trans (q96_12), (g103.i _ _ (by decide)).trans (q96_13), (g103.i _ _ (by decide)).trans (q96_10), e103_k0, (g103.i _ _ (by decide)).trans (q96_16), (g103.i _ _ (by decide)).trans (q96_19)⟩, ⟨(g105.i _ _ (by decide)).trans (w96_36), (g105.i _ _ (by decide)).trans (w96_37), (g105.i _ _ (by decide)).trans (w96_38), (g105.i _ _ (by decide)).trans (w96_41), e105_k0, (g105.i _ _ (by decide)).trans (w96_51), (g105.i _ _ (by decide)).trans (w96_53), (g105.i _ _ (by decide)).trans (w96_50), (w96_n.fr g105 (by decide) (by decide))⟩, ⟨(CA1.em ca96 (by omega) p103_1 rfl), (RA1.em ra96 (by omega) p105_1 rfl), (lc96.fr g103 (by decide)), (lr96.fr g105 (by decide)), (cu96.fr g103 (by decide)), (ru96.fr g105 (by decide))⟩, ⟨by omega, by omega, by omega, by omega, by omega, by omega, by omega, by omega, by omega, by omega, by omega, by omega⟩, ⟨by omega, by omega, by omega, by omega, by omega, by omega⟩, (Ag.pu (Ag.t (Ag.t Ag.r ag30 (by omega)) ag96 (by omega)) (by omega)), (Ag.t (Ag.t Ag.r au30 (by omega)) au96 (by omega)), (AgL.t (AgL.t AgL.r ax30 (by omega)) ax96 (by omega)), ty101, du102, (ku96.fr g103 (by decide))⟩)
                ·
                  have FL96 : Fr W_cp Mc Mx96 := Fr.t (Fr.sI (by decide) (Fr.sI (by decide) FL30)) fl96
                  have FR96 : Fr W_rp Mr Nx96 := Fr.t (Fr.m f95 W_rx_p) fr96
                  obtain ⟨ti96, tz96, tn96, tu96, t1396, t1096, t1196, t1296, t996, t1696, t1996, tb96⟩ := tc96
                  obtain ⟨re96, rn96, ru96, rm96, rt96, u4196, u4296, u4396, u5196, u5396, u4896, u4996, ub96⟩ := tr96
                  refine rsl (cV_e rfl) ?_
                  refine rsr (cV_e rfl) ?_
                  refine rsl (vC_e (ck_65 (hC.fr FL96))) ?_
                  refine RlI (y87 (by omega) (hC.fr FL96) (hTk.fr (WL := W_cp) FL96 (by decide)) (t1296) (t1396) (t1096) (t1196) (t996) (t1696) (t1996) (rfl) (li_0) (by omega)) fun v Ma107 h107 => ?_
                  obtain ⟨rv106, sz106, sn106, uc106, rfl, g107, e107_sz106, e107_sn106, e107_uc106, e107_k0, e107_k1, e107_k2, e107_k3, p107_0, p107_1, p107_2, p107_3⟩ := h107
                  have f107 : Fr W_cp Mc Ma107 := Fr.t FL96 (Fr.m g107 (by decide))
                  refine rsl (cI_e rfl) ?_
                  refine rsl (if_pos (eqI_p (rfl) (li_3) (by omega))) ?_
                  refine rsl (jv_e) ?_
                  refine rsr (vC_e (rk_160 (hR.fr FR96))) ?_
                  refine RrI (x196_s (by omega) (hR.fr FR96) (u4196) (u4296) (u4396) (u5196) (u5396) (u4896) (u4996) (li_18) (li_0) (by omega)) fun v Ma109 h109 => ?_
                  obtain ⟨rv108, em108, rfl, g109, e109_em108, e109_k0, e109_k1, e109_k2, e109_k3, e109_k4, p109_0, p109_1⟩ := h109
                  have f109 : Fr W_rp Mr Ma109 := Fr.t FR96 (Fr.m g109 (by decide))
                  refine rsr (cI_e rfl) ?_
                  refine rsr (jv_e) ?_
                  exact Rs.ok (Or.inr ⟨F96, P96, f107, f109, ⟨ti96, sz106, sn106, uc106, e107_k0, e107_k1, e107_k2, e107_k3, e107_sz106, e107_sn106, e107_uc106, by omega⟩, ⟨em108, rn96, ru96, rm96, rt96, e109_k0, e109_k1, e109_em108, e109_k2, e109_k3, e109_k4, (g109.i _ _ (by decide)).trans (u4996), by omega⟩⟩)
              ·
                refine RlI (lv_3 (by omega) (rfl) (by omega)) fun v Ml110 hl110 => ?_
                obtain ⟨rl110, rfl, rfl, nl110, bl110⟩ := hl110
                refine rsl (cI_e rfl) ?_
                refine rsl (if_neg (eqI_n (rfl) (rfl) (by omega))) ?_
                refine rsl (jv_e) ?_
                refine rsr (gtI_q (w := iI ((kr (kd i30)))) (rk_160 (hR.fr FR30)) (w30_36)) ?_
                refine rsr (jn_v) ?_
                refine rsr (if_neg (krI_n (k := 60) (rfl) (li_60) (hS.ok i30 (by omega) (by omega)) (by unfold KdOK sgk; omega) (by decide +kernel) (by omega) (by omega))) ?_
                refine rsr (gtI_q (w := iI ((kr (kd i30)))) (rk_160 (hR.fr FR30)) (w30_36)) ?_
                refine rsr (if_neg (krI_n (k := 128) (rfl) (li_300) (hS.ok i30 (by omega) (by omega)) (by unfold KdOK sgk; omega) (by decide +kernel) (by omega) (by omega))) ?_
                refine rsr (gtI_q (w := iI ((kr (kd i30)))) (rk_160 (hR.fr FR30)) (w30_36)) ?_
                refine rsr (if_neg (krI_n (k := 129) (rfl) (li_301) (hS.ok i30 (by omega) (by omega)) (by unfold KdOK sgk; omega) (by decide +kernel) (by omega) (by omega))) ?_
                refine rsr (gtI_q (w := iI ((kr (kd i30)))) (rk_160 (hR.fr FR30)) (w30_36)) ?_
                refine rsr (if_neg (krI_n (k := 130) (rfl) (li_302) (hS.ok i30 (by omega) (by omega)) (by unfold KdOK sgk; omega) (by decide +kernel) (by omega) (by omega))) ?_
                refine rsr (jv_e) ?_
                refine rsr (gtI_q (w := iI 0) (rk_160 (hR.fr FR30)) (w30_41)) ?_
                refine rsr (jn_v) ?_
                refine rsr (if_pos (eqI_p (rfl) (li_0) (by omega))) ?_
                refine rsr (if_pos (lsI_p (li_m1) (li_0) (by omega))) ?_
                refine rsr (jv_e) ?_
                exact Rs.ok (Or.inl ⟨i30, e30, u30, uc30, G30, U30, X30, FL30, FR30, ⟨q30_12, q30_13, q30_10, q30_9, q30_16, q30_19⟩, ⟨w30_36, w30_37, w30_38, w30_41, w30_43, w30_51, w30_53, w30_50, w30_n⟩, ⟨ca30, ra30, lc30, lr30, cu30, ru30⟩, ⟨by omega, by omega, by omega, by omega, by omega, by omega, by omega, by omega, by omega, by omega, by omega, by omega⟩, ⟨by omega, by omega, by omega, by omega, by omega, by omega⟩, (Ag.t Ag.r ag30 (by omega)), (Ag.t Ag.r au30 (by omega)), (AgL.t AgL.r ax30 (by omega)), ty32, du33, ku30⟩)
      ·
        have FL30 : Fr W_cp Mc Mx30 := Fr.t Fr.r fl30
        have FR30 : Fr W_rp Mr Nx30 := Fr.t (Fr.m Fr.r W_rx_p) fr30
        obtain ⟨ti30, tz30, tn30, tu30, t1330, t1030, t1130, t1230, t930, t1630, t1930, tb30⟩ := tc30
        obtain ⟨re30, rn30, ru30, rm30, rt30, u4130, u4230, u4330, u5130, u5330, u4830, u4930, ub30⟩ := tr30
        refine rsl (cV_e rfl) ?_
        refine rsr (cV_e rfl) ?_
        refine rsl (jn_v) ?_
        refine rsl (jn_v) ?_
        refine rsl (lp_e) ?_
        unfold c99_61
        refine rsl (if_neg (leI_n (li_3000) (li_0) (by omega))) ?_
        refine rsl (gtI_q (w := iI 2) (ck_65 (hC.fr FL30)) (t1330)) ?_
        refine rsl (cI_e (y102 (by omega) (rfl))) ?_
        refine rsl (if_neg (eqI_n (rfl) (rfl) (by omega))) ?_
        refine rsl (jv_e) ?_
        have b111 := V_r (M := Nx30) (a := 160) (j := 36)
        refine rsr (gtI_q (w := iI ((V Nx30 160 36))) (rk_160 (hR.fr FR30)) (eV)) ?_
        refine rsr (jn_v) ?_
        by_cases c112 : ((V Nx30 160 36)) = 60
        · refine rsr (if_pos (eqI_p (rfl) (li_60) (by omega))) ?_
          refine rsr (jv_e) ?_
          refine rsr (gtI_q (w := iI F30) (rk_160 (hR.fr FR30)) (u4130)) ?_
          refine rsr (jn_v) ?_
          refine rsr (if_neg (eqI_n (rfl) (li_0) (by omega))) ?_
          refine rsr (jv_e) ?_
          exact Rs.ok (Or.inr ⟨F30, P30, FL30, FR30, ⟨ti30, tz30, tn30, tu30, t1330, t1030, t1130, t1230, t930, t1630, t1930, by omega⟩, ⟨re30, rn30, ru30, rm30, rt30, u4130, u4230, u4330, u5130, u5330, u4830, u4930, by omega⟩⟩)
        · refine rsr (if_neg (eqI_n (rfl) (li_60) (by omega))) ?_
          refine rsr (gtI_q (w := iI ((V Nx30 160 36))) (rk_160 (hR.fr FR30)) (eV)) ?_
          by_cases c113 : ((V Nx30 160 36)) = 300
          · refine rsr (if_pos (eqI_p (rfl) (li_300) (by omega))) ?_
            refine rsr (jv_e) ?_
            refine rsr (gtI_q (w := iI F30) (rk_160 (hR.fr FR30)) (u4130)) ?_
            refine rsr (jn_v) ?_
            refine rsr (if_neg (eqI_n (rfl) (li_0) (by omega))) ?_
            refine rsr (jv_e) ?_
            exact Rs.ok (Or.inr ⟨F30, P30, FL30, FR30, ⟨ti30, tz30, tn30, tu30, t1330, t1030, t1130, t1230, t930, t1630, t1930, by omega⟩, ⟨re30, rn30, ru30, rm30, rt30, u4130, u4230, u4330, u5130, u5330, u4830, u4930, by omega⟩⟩)
          · refine rsr (if_neg (eqI_n (rfl) (li_300) (by omega))) ?_
            refine rsr (gtI_q (w := iI ((V Nx30 160 36))) (rk_160 (hR.fr FR30)) (eV)) ?_
            by_cases c114 : ((V Nx30 160 36)) = 301
            · refine rsr (if_pos (eqI_p (rfl) (li_301) (by omega))) ?_
              refine rsr (jv_e) ?_
              refine rsr (gtI_q (w := iI F30) (rk_160 (hR.fr FR30)) (u4130)) ?_
              refine rsr (jn_v) ?_
              refine rsr (if_neg (eqI_n (rfl) (li_0) (by omega))) ?_
              refine rsr (jv_e) ?_
              exact Rs.ok (Or.inr ⟨F30, P30, FL30, FR30, ⟨ti30, tz30, tn30, tu30, t1330, t1030, t1130, t1230, t930, t1630, t1930, by omega⟩, ⟨re30, rn30, ru30, rm30, rt30, u4130, u4230, u4330, u5130, u5330, u4830, u4930, by omega⟩⟩)
            · refine rsr (if_neg (eqI_n (rfl) (li_301) (by omega))) ?_
              refine rsr (gtI_q (w := iI ((V Nx30 160 36))) (rk_160 (hR.fr FR30)) (eV)) ?_
              by_cases c115 : ((V Nx30 160 36)) = 302
              · refine rsr (if_pos (eqI_p (rfl) (li_302) (by omega))) ?_
                refine rsr (jv_e) ?_
                refine rsr (gtI_q (w := iI F30) (rk_160 (hR.fr FR30)) (u4130)) ?_
                refine rsr (jn_v) ?_
                refine rsr (if_neg (eqI_n (rfl) (li_0) (by omega))) ?_
                refine rsr (jv_e) ?_
                exact Rs.ok (Or.inr ⟨F30, P30, FL30, FR30, ⟨ti30, tz30, tn30, tu30, t1330, t1030, t1130, t1230, t930, t1630, t1930, by omega⟩, ⟨re30, rn30, ru30, rm30, rt30, u4130, u4230, u4330, u5130, u5330, u4830, u4930, by omega⟩⟩)
              · refine rsr (if_neg (eqI_n (rfl) (li_302) (by omega))) ?_
                refine rsr (jv_e) ?_
                refine rsr (gtI_q (w := iI F30) (rk_160 (hR.fr FR30)) (u4130)) ?_
                refine rsr (jn_v) ?_
                refine rsr (if_neg (eqI_n (rfl) (li_0) (by omega))) ?_
                refine rsr (jv_e) ?_
                exact Rs.ok (Or.inr ⟨F30, P30, FL30, FR30, ⟨ti30, tz30, tn30, tu30, t1330, t1030, t1130, t1230, t930, t1630, t1930, by omega⟩, ⟨re30, rn30, ru30, rm30, rt30, u4130, u4230, u4330, u5130, u5330, u4830, u4930, by omega⟩⟩)
    ·
      rcases hx29 with ⟨i29, e29, u29, uc29, G29, U29, X29, FL29, FR29, sc29, sr29, rw29, bd29, ⟨mv29_0, mv29_1, mv29_2, mv29_3, mv29_4, mv29_5⟩, ag29, au29, ax29, tp29, dp29, ku29⟩ | ⟨F29, P29, FL29, FR29, tc29, tr29⟩
      ·
        obtain ⟨bb29_0, bb29_1, bb29_2, bb29_3, bb29_4, bb29_5, bb29_6, bb29_7, bb29_8, bb29_9, bb29_10, bb29_11⟩ := bd29
        obtain ⟨q29_12, q29_13, q29_10, q29_9, q29_16, q29_19⟩ := sc29
        obtain ⟨w29_36, w29_37, w29_38, w29_41, w29_43, w29_51, w29_53, w29_50, w29_n⟩ := sr29
        obtain ⟨ca29, ra29, lc29, lr29, cu29, ru29⟩ := rw29
        have hk116 := (hS.ok i29 (by omega) (by omega)).r
        refine rs1 (jn_v) ?_
        refine rs1 (jn_v) ?_
        refine rs1 (lp_e) ?_
        unfold c99_61
        refine rs1 (if_neg (leI_n (li_3000) (li_0) (by omega))) ?_
        refine rs1 (gtI_q (w := iI ((kd i29))) (ck_65 (hC.fr FL29)) (q29_13)) ?_
        refine Rc_I (lv_2 (by omega) (rfl) (by omega)) fun v Ml117 hl117 => ?_
        obtain ⟨rl117, rfl, rfl, nl117, bl117⟩ := hl117
        refine rs1 (cI_e rfl) ?_
        refine rs1 (if_neg (eqI_n (rfl) (rfl) (by omega))) ?_
        refine rs1 (jv_e) ?_
        exact Rt.ok (Or.inl ⟨i29, e29, u29, uc29, G29, U29, X29, FL29, FR29, ⟨q29_12, q29_13, q29_10, q29_9, q29_16, q29_19⟩, ⟨w29_36, w29_37, w29_38, w29_41, w29_43, w29_51, w29_53, w29_50, w29_n⟩, ⟨ca29, ra29, lc29, lr29, cu29, ru29⟩, ⟨by omega, by omega, by omega, by omega, by omega, by omega, by omega, by omega, by omega, by omega, by omega, by omega⟩, ⟨by omega, by omega, by omega, by omega, by omega, by omega⟩, ag29, au29, ax29, tp29, dp29, ku29⟩)
      ·
        obtain ⟨ti29, tz29, tn29, tu29, t1329, t1029, t1129, t1229, t929, t1629, t1929, tb29⟩ := tc29
        obtain ⟨re29, rn29, ru29, rm29, rt29, u4129, u4229, u4329, u5129, u5329, u4829, u4929, ub29⟩ := tr29
        refine rs1 (jn_v) ?_
        refine rs1 (jn_v) ?_
        refine rs1 (lp_e) ?_
        unfold c99_61
        refine rs1 (if_neg (leI_n (li_3000) (li_0) (by omega))) ?_
        refine rs1 (gtI_q (w := iI 2) (ck_65 (hC.fr FL29)) (t1329)) ?_
        refine rs1 (cI_e (y102 (by omega) (rfl))) ?_
        refine rs1 (if_neg (eqI_n (rfl) (rfl) (by omega))) ?_
        refine rs1 (jv_e) ?_
        exact Rt.ok (Or.inr ⟨F29, P29, FL29, FR29, ⟨ti29, tz29, tn29, tu29, t1329, t1029, t1129, t1229, t929, t1629, t1929, by omega⟩, ⟨re29, rn29, ru29, rm29, rt29, u4129, u4229, u4329, u5129, u5329, u4829, u4929, by omega⟩⟩)
theorem p_1 {D : Nat} {dp : Int} (hD : 20 ≤ D) (hp : Pair D 99 [2] 209 16 dp) : Pair (D + 1) 99 [1] 210 15 dp := by
  intro d d2 hd hd2 T n m kd pl E tx ua ut mu Mc Mr G U Hl X i e s u uc vs hS hx hsc hsr hrw hbd hvs
  subst hvs
  obtain ⟨d, rfl⟩ : ∃ e, d = e + 1 := ⟨d - 1, by omega⟩
  obtain ⟨d2, rfl⟩ : ∃ e, d2 = e + 1 := ⟨d2 - 1, by omega⟩
  show Rs (runX (d + 1) 99 [va_rf (some 65), .int (iI 1), .int (iI dp)] Mc) (runX (d2 + 1) 210 [va_rf (some 160)] Mr) _
  rw [r99]; unfold b99; rw [aR_e, aI_e, aI_e, aZ_e]; unfold c99; rw [r210]; unfold b210; rw [aR_e, aZ_e]; unfold c210
  have hCx := hx
  obtain ⟨hC, hR, hTk, hT, hW, ⟨hu1, hu2, hu3, hu4⟩, h49, h48, ⟨hb1, hb2, hb3, hb4⟩⟩ := hx
  obtain ⟨bb_0, bb_1, bb_2, bb_3, bb_4, bb_5, bb_6, bb_7, bb_8, bb_9, bb_10, bb_11⟩ := hbd
  have kua : KU uc Mc Mc := KU.r
  obtain ⟨qa_12, qa_13, qa_10, qa_9, qa_16, qa_19⟩ := hsc
  obtain ⟨wa_36, wa_37, wa_38, wa_41, wa_43, wa_51, wa_53, wa_50, wa_n⟩ := hsr
  obtain ⟨caa, raa, lca, lra, cua, rua⟩ := hrw
  have hk1 := (hS.ok i (by omega) (by omega)).r
  have ty2 := (Tye.r (G := G) (a := e) (s := s))
  have du3 := (DU.r (ut := ut) (mu := mu) (c := uc) (G := G) (U := U) (X := X) (a := e) (u := u))
  refine rsl (if_pos (leI_p (rfl) (li_5) (by omega))) ?_
  refine rsl (jn_v) ?_
  refine rsl (if_neg (eqI_n (rfl) (li_2) (by omega))) ?_
  refine rsl (jv_e) ?_
  refine rsl (vC_e (ck_65 hC)) ?_
  refine rsr (vC_e (rk_160 hR)) ?_
  refine Rb_VV (hp _ _ (by omega) (by omega) T n m kd pl E tx ua ut mu _ _ G U Hl X i e s u uc _ hS (hCx.fr Fr.r Fr.r) ⟨qa_12, qa_13, qa_10, qa_9, qa_16, qa_19⟩ ⟨wa_36, wa_37, wa_38, wa_41, wa_43, wa_51, wa_53, wa_50, wa_n⟩ ⟨caa, raa, lca, lra, cua, rua⟩ ⟨by omega, by omega, by omega, by omega, by omega, by omega, by omega, by omega, by omega, by omega, by omega, by omega⟩ (vs2 (adI (rfl) (li_1)) (rfl))) fun v Mx4 w Nx4 hx4 => ?_
  rcases hx4 with ⟨i4, e4, u4, uc4, G4, U4, X4, fl4, fr4, sc4, sr4, rw4, bd4, mv4, ag4, au4, ax4, tp4, dp4, kv4⟩ | ⟨F4, P4, fl4, fr4, tc4, tr4⟩
  ·
    have FL4 : Fr W_cp Mc Mx4 := Fr.t Fr.r fl4
    have FR4 : Fr W_rx Mr Nx4 := Fr.t Fr.r fr4
    obtain ⟨bb4_0, bb4_1, bb4_2, bb4_3, bb4_4, bb4_5, bb4_6, bb4_7, bb4_8, bb4_9, bb4_10, bb4_11⟩ := bd4
    obtain ⟨q4_12, q4_13, q4_10, q4_9, q4_16, q4_19⟩ := sc4
    obtain ⟨w4_36, w4_37, w4_38, w4_41, w4_43, w4_51, w4_53, w4_50, w4_n⟩ := sr4
    obtain ⟨ca4, ra4, lc4, lr4, cu4, ru4⟩ := rw4
    have hk5 := (hS.ok i4 (by omega) (by omega)).r
    have ku4 := KU.t kua kv4 (by omega)
    have ty6 := Tye.t (d3 := 1) ty2 ag4 tp4 (by omega)
    have du7 := DU.t du3 ag4 au4 ax4 dp4 (by omega)
    refine rsl (cV_e rfl) ?_
    refine rsr (cV_e rfl) ?_
    refine rsl (jn_v) ?_
    refine rsl (jn_v) ?_
    refine rsr (jn_v) ?_
    refine Rb_lp (fun m2 q t => (∃ (k i2 : Int), q.1 = iI k ∧ (0 ≤ k ∧ k ≤ i2) ∧ PK 1 ut mu m kd pl E tx Mc Mr G U Hl X i e s u uc dp q.2 t i2 ∧ (m2 : Int) = m - i2 + 1) ∨ ∃ (k F P : Int), q.1 = iI k ∧ (0 ≤ k ∧ k ≤ 1500) ∧ Fr W_cp Mc q.2 ∧ Fr W_rp Mr t ∧ FTc m F P q.2 ∧ FTr (2500 - 30 * dp - 15) F P t ∧ m2 = 0) (fun m2 q t gl gr hq hgo => ?_) (m - i4 + 1).toNat _ _ _ _ (by omega) (by omega) (Or.inl ⟨0, i4, li_0, by omega, ⟨e4, u4, uc4, G4, U4, X4, FL4, FR4, ⟨q4_12, q4_13, q4_10, q4_9, q4_16, q4_19⟩, ⟨w4_36, w4_37, w4_38, w4_41, w4_43, w4_51, w4_53, w4_50, w4_n⟩, ⟨ca4, ra4, lc4, lr4, cu4, ru4⟩, ⟨by omega, by omega, by omega, by omega, by omega, by omega, by omega, by omega, by omega, by omega, by omega, by omega⟩, ⟨by omega, by omega, by omega, by omega, by omega, by omega⟩, (Ag.t Ag.r ag4 (by omega)), (Ag.t Ag.r au4 (by omega)), (AgL.t AgL.r ax4 (by omega)), ty6, du7, ku4⟩, by omega⟩)
    obtain ⟨qk8, qm8⟩ := q
    dsimp only at hq
    try dsimp only
    rcases hq with hq | hq
    ·
      obtain ⟨k8, i8, hk8, ⟨hka8, hkb8⟩, ⟨e8, u8, uc8, G8, U8, X8, FL8, FR8, sc8, sr8, rw8, bd8, ⟨mv8_0, mv8_1, mv8_2, mv8_3, mv8_4, mv8_5⟩, ag8, au8, ax8, tp8, dp8, ku8⟩, hm8⟩ := hq
      obtain ⟨bb8_0, bb8_1, bb8_2, bb8_3, bb8_4, bb8_5, bb8_6, bb8_7, bb8_8, bb8_9, bb8_10, bb8_11⟩ := bd8
      obtain ⟨q8_12, q8_13, q8_10, q8_9, q8_16, q8_19⟩ := sc8
      obtain ⟨w8_36, w8_37, w8_38, w8_41, w8_43, w8_51, w8_53, w8_50, w8_n⟩ := sr8
      obtain ⟨ca8, ra8, lc8, lr8, cu8, ru8⟩ := rw8
      have hk9 := (hS.ok i8 (by omega) (by omega)).r
      unfold c99_61 c210_4
      refine rsl (if_neg (leI_n (li_3000) (hk8) (by omega))) ?_
      refine rsl (gtI_q (w := iI ((kd i8))) (ck_65 (hC.fr FL8)) (q8_13)) ?_
      by_cases c10 : ((kd i8)) = 225
      ·
        refine rsl (cI_e (lk_225 (by omega) ((rfl).trans (congrArg iI (by omega))))) ?_
        refine rsl (if_pos (eqI_p (rfl) (rfl) (by omega))) ?_
        refine rsl (gtI_q (w := iI ((kd i8))) (ck_65 (hC.fr FL8)) (q8_13)) ?_
        refine rsl (cI_e (ok_225 (by omega) ((rfl).trans (congrArg iI (by omega))))) ?_
        refine rsl (vC_e (ck_65 (hC.fr FL8))) ?_
        have hm11 : i8 + 1 < m := hS.more i8 (by omega) (by omega) (by omega)
        refine rsl (cV_e (a63q (by omega) hS (hC.fr FL8) (hTk.fr (WL := W_cp) FL8 (by decide)) (q8_12) (q8_13) (q8_10) (i2 := (i8 + 1)) (by omega) (by omega))) ?_
        have hk12 := (hS.ok (i8 + 1) (by omega) (by omega)).r
        refine rsl (vC_e (ck_65 (hC.fr FL8).sI.sI)) ?_
        refine rsr (gtI_q (w := iI 0) (rk_160 (hR.fr FR8)) (w8_41)) ?_
        refine rsr (if_pos (eqI_p (rfl) (li_0) (by omega))) ?_
        refine rsr (gtI_q (w := iI ((kr (kd i8)))) (rk_160 (hR.fr FR8)) (w8_36)) ?_
        refine rsr (if_pos (krI_p (k := 225) (rfl) (li_426) (by omega) (by decide +kernel))) ?_
        refine rsr (vC_e (rk_160 (hR.fr FR8))) ?_
        refine RrV (nx_ok (by omega) hS (hR.fr FR8) (hT.fr (W := W_rx) FR8 (by decide) (by decide)) (fun i a b => (Fr.lc (W := W_rx) FR8 _ (by decide) _).trans (hW i a b)) (i := i8) (w8_41) (w8_38) (by omega) (by omega)) fun v Ma14 h14 => ?_
        obtain ⟨g14, e14_k0, e14_k1, e14_k2, p14_0⟩ := h14
        have f14 : Fr W_rx Mr Ma14 := Fr.t FR8 (Fr.m g14 (by decide))
        refine rsr (cV_e rfl) ?_
        refine rsr (vC_e (rk_160 (hR.fr f14))) ?_
        refine Rb_VV (hp _ _ (by omega) (by omega) T n m kd pl E tx ua ut mu _ _ G8 U8 Hl X8 (i8 + 1) e8 s u8 uc8 _ hS (hCx.fr (Fr.sI (by decide) (Fr.sI (by decide) FL8)) f14) ⟨(sI_nej (by decide)).trans (sI_eq), sI_eq, (sI_nej (by decide)).trans ((sI_nej (by decide)).trans (q8_10)), (sI_nej (by decide)).trans ((sI_nej (by decide)).trans (q8_9)), (sI_nej (by decide)).trans ((sI_nej (by decide)).trans (q8_16)), (sI_nej (by decide)).trans ((sI_nej (by decide)).trans (q8_19))⟩ ⟨e14_k0, e14_k1, e14_k2, (g14.i _ _ (by decide)).trans (w8_41), (g14.i _ _ (by decide)).trans (w8_43), (g14.i _ _ (by decide)).trans (w8_51), (g14.i _ _ (by decide)).trans (w8_53), (g14.i _ _ (by decide)).trans (w8_50), p14_0⟩ ⟨(ca8.fr (W := W_c0) (Fr.sI (by decide) (Fr.sI (by decide) Fr.r)) (by decide)), (ra8.fr g14 (by decide)), (lc8.fr (W := W_c0) (Fr.sI (by decide) (Fr.sI (by decide) Fr.r)) (by decide)), (lr8.fr g14 (by decide)), (cu8.fr (W := W_c0) (Fr.sI (by decide) (Fr.sI (by decide) Fr.r)) (by decide)), (ru8.fr g14 (by decide))⟩ ⟨by omega, by omega, by omega, by omega, by omega, by omega, by omega, by omega, by omega, by omega, by omega, by omega⟩ (vs2 (adI (rfl) (li_1)) (rfl))) fun v Mx15 w Nx15 hx15 => ?_
        rcases hx15 with ⟨i15, e15, u15, uc15, G15, U15, X15, fl15, fr15, sc15, sr15, rw15, bd15, mv15, ag15, au15, ax15, tp15, dp15, kv15⟩ | ⟨F15, P15, fl15, fr15, tc15, tr15⟩
        ·
          have FL15 : Fr W_cp Mc Mx15 := Fr.t (Fr.sI (by decide) (Fr.sI (by decide) FL8)) fl15
          have FR15 : Fr W_rx Mr Nx15 := Fr.t f14 fr15
          obtain ⟨bb15_0, bb15_1, bb15_2, bb15_3, bb15_4, bb15_5, bb15_6, bb15_7, bb15_8, bb15_9, bb15_10, bb15_11⟩ := bd15
          obtain ⟨q15_12, q15_13, q15_10, q15_9, q15_16, q15_19⟩ := sc15
          obtain ⟨w15_36, w15_37, w15_38, w15_41, w15_43, w15_51, w15_53, w15_50, w15_n⟩ := sr15
          obtain ⟨ca15, ra15, lc15, lr15, cu15, ru15⟩ := rw15
          have hk16 := (hS.ok i15 (by omega) (by omega)).r
          have ku15 := KU.t (ku8.fr (W := W_c0) (Fr.sI (by decide) (Fr.sI (by decide) Fr.r)) (by decide)) kv15 (by omega)
          have ty17 := Tye.t (d3 := 2) tp8 ag15 tp15 (by omega)
          have du18 := DU.t dp8 ag15 au15 ax15 dp15 (by omega)
          refine rsl (cV_e rfl) ?_
          refine rsr (cV_e rfl) ?_
          refine rsl (vC_e (ck_65 (hC.fr FL15))) ?_
          have ty20 := Tye.em (d := 2) (d' := 1) (q := (e15 + 1)) (n1 := 0) (ut := ut) (mu := mu) (l := []) ty17 (Or.inr (Or.inr (Or.inr (Or.inr (Or.inr (Or.inr (Or.inr (Or.inl (by omega)))))))) : Eff 19 0 0 2 s 1 s) (by omega) ⟨by omega, by omega⟩ (by omega)
          have du21 := DU.em (q := (e15 + 1)) (o := 19) (n := 0) (p := -2) (l := [0]) du18 (by omega) (by omega)
          refine RlI (a87 (by omega) (hC.fr FL15) (q15_9) (rfl) (li_0) (by omega)) fun v Ma22 h22 => ?_
          obtain ⟨r19, rfl, g22, e22_k0, p22_0, p22_1⟩ := h22
          have f22 : Fr W_cp Mc Ma22 := Fr.t FL15 (Fr.m g22 (by decide))
          refine rsl (cI_e rfl) ?_
          refine rsl (if_neg (eqI_n (rfl) (li_3) (by omega))) ?_
          refine rsl (ltI_q (z := (k8 + 1)) (adI (hk8) (li_1))) ?_
          refine rsr (vC_e (rk_160 (hR.fr FR15))) ?_
          refine RrI (a196 (by omega) (hR.fr FR15) (w15_43) ((FR15.i _ _ (by decide)).trans h49) ((FR15.i _ _ (by decide)).trans h48) (li_19) (li_0) (by omega)) fun v Ma24 h24 => ?_
          obtain ⟨r23, rfl, g24, e24_k0, p24_0, p24_1⟩ := h24
          have f24 : Fr W_rx Mr Ma24 := Fr.t FR15 (Fr.m g24 (by decide))
          refine rsr (cI_e rfl) ?_
          exact hgo (m - i15 + 1).toNat _ _ (by omega) (Or.inl ⟨(k8 + 1), i15, rfl, by omega, ⟨(e15 + 1), u15, uc15, (pu G15 e15 [19, 0, -2, 0, ut, mu, 0]), U15, X15, f22, f24, ⟨(g22.i _ _ (by decide)).trans (q15_12), (g22.i _ _ (by decide)).trans (q15_13), (g22.i _ _ (by decide)).trans (q15_10), e22_k0, (g22.i _ _ (by decide)).trans (q15_16), (g22.i _ _ (by decide)).trans (q15_19)⟩, ⟨(g24.i _ _ (by decide)).trans (w15_36), (g24.i _ _ (by decide)).trans (w15_37), (g24.i _ _ (by decide)).trans (w15_38), (g24.i _ _ (by decide)).trans (w15_41), e24_k0, (g24.i _ _ (by decide)).trans (w15_51), (g24.i _ _ (by decide)).trans (w15_53), (g24.i _ _ (by decide)).trans (w15_50), (w15_n.fr g24 (by decide) (by decide))⟩, ⟨(CA1.em ca15 (by omega) p22_1 rfl), (RA1.em ra15 (by omega) p24_1 rfl), (lc15.fr g22 (by decide)), (lr15.fr g24 (by decide)), (cu15.fr g22 (by decide)), (ru15.fr g24 (by decide))⟩, ⟨by omega, by omega, by omega, by omega, by omega, by omega, by omega, by omega, by omega, by omega, by omega, by omega⟩, ⟨by omega, by omega, by omega, by omega, by omega, by omega⟩, (Ag.pu (Ag.t ag8 ag15 (by omega)) (by omega)), (Ag.t au8 au15 (by omega)), (AgL.t ax8 ax15 (by omega)), ty20, du21, (ku15.fr g22 (by decide))⟩, by omega⟩)
        ·
          have FL15 : Fr W_cp Mc Mx15 := Fr.t (Fr.sI (by decide) (Fr.sI (by decide) FL8)) fl15
          have FR15 : Fr W_rp Mr Nx15 := Fr.t (Fr.m f14 W_rx_p) fr15
          obtain ⟨ti15, tz15, tn15, tu15, t1315, t1015, t1115, t1215, t915, t1615, t1915, tb15⟩ := tc15
          obtain ⟨re15, rn15, ru15, rm15, rt15, u4115, u4215, u4315, u5115, u5315, u4815, u4915, ub15⟩ := tr15
          refine rsl (cV_e rfl) ?_
          refine rsr (cV_e rfl) ?_
          refine rsl (vC_e (ck_65 (hC.fr FL15))) ?_
          refine RlI (y87 (by omega) (hC.fr FL15) (hTk.fr (WL := W_cp) FL15 (by decide)) (t1215) (t1315) (t1015) (t1115) (t915) (t1615) (t1915) (rfl) (li_0) (by omega)) fun v Ma26 h26 => ?_
          obtain ⟨rv25, sz25, sn25, uc25, rfl, g26, e26_sz25, e26_sn25, e26_uc25, e26_k0, e26_k1, e26_k2, e26_k3, p26_0, p26_1, p26_2, p26_3⟩ := h26
          have f26 : Fr W_cp Mc Ma26 := Fr.t FL15 (Fr.m g26 (by decide))
          refine rsl (cI_e rfl) ?_
          refine rsl (if_neg (eqI_n (rfl) (li_3) (by omega))) ?_
          refine rsl (ltI_q (z := (k8 + 1)) (adI (hk8) (li_1))) ?_
          refine rsr (vC_e (rk_160 (hR.fr FR15))) ?_
          refine RrI (x196_s (by omega) (hR.fr FR15) (u4115) (u4215) (u4315) (u5115) (u5315) (u4815) (u4915) (li_19) (li_0) (by omega)) fun v Ma28 h28 => ?_
          obtain ⟨rv27, em27, rfl, g28, e28_em27, e28_k0, e28_k1, e28_k2, e28_k3, e28_k4, p28_0, p28_1⟩ := h28
          have f28 : Fr W_rp Mr Ma28 := Fr.t FR15 (Fr.m g28 (by decide))
          refine rsr (cI_e rfl) ?_
          exact hgo 0 _ _ (by omega) (Or.inr ⟨(k8 + 1), F15, P15, rfl, by omega, f26, f28, ⟨ti15, sz25, sn25, uc25, e26_k0, e26_k1, e26_k2, e26_k3, e26_sz25, e26_sn25, e26_uc25, by omega⟩, ⟨em27, rn15, ru15, rm15, rt15, e28_k0, e28_k1, e28_em27, e28_k2, e28_k3, e28_k4, (g28.i _ _ (by decide)).trans (u4915), by omega⟩, rfl⟩)
      ·
        refine RlI (lv_1 (by omega) (rfl) (by omega)) fun v Ml29 hl29 => ?_
        obtain ⟨rl29, rfl, rfl, nl29, bl29⟩ := hl29
        refine rsl (cI_e rfl) ?_
        refine rsl (if_neg (eqI_n (rfl) (rfl) (by omega))) ?_
        refine rsl (jv_e) ?_
        refine rsr (gtI_q (w := iI 0) (rk_160 (hR.fr FR8)) (w8_41)) ?_
        refine rsr (if_pos (eqI_p (rfl) (li_0) (by omega))) ?_
        refine rsr (gtI_q (w := iI ((kr (kd i8)))) (rk_160 (hR.fr FR8)) (w8_36)) ?_
        refine rsr (if_neg (krI_n (k := 225) (rfl) (li_426) (hS.ok i8 (by omega) (by omega)) (by unfold KdOK sgk; omega) (by decide +kernel) (by omega) (by omega))) ?_
        refine rsr (jv_e) ?_
        exact Rs.ok (Or.inl ⟨i8, e8, u8, uc8, G8, U8, X8, FL8, FR8, ⟨q8_12, q8_13, q8_10, q8_9, q8_16, q8_19⟩, ⟨w8_36, w8_37, w8_38, w8_41, w8_43, w8_51, w8_53, w8_50, w8_n⟩, ⟨ca8, ra8, lc8, lr8, cu8, ru8⟩, ⟨by omega, by omega, by omega, by omega, by omega, by omega, by omega, by omega, by omega, by omega, by omega, by omega⟩, ⟨by omega, by omega, by omega, by omega, by omega, by omega⟩, ag8, au8, ax8, tp8, dp8, ku8⟩)
    ·
      obtain ⟨k8, F8, P8, hk8, ⟨hka8, hkb8⟩, FL8, FR8, tc8, tr8, hm8⟩ := hq
      obtain ⟨ti8, tz8, tn8, tu8, t138, t108, t118, t128, t98, t168, t198, tb8⟩ := tc8
      obtain ⟨re8, rn8, ru8, rm8, rt8, u418, u428, u438, u518, u538, u488, u498, ub8⟩ := tr8
      unfold c99_61 c210_4
      refine rsl (if_neg (leI_n (li_3000) (hk8) (by omega))) ?_
      refine rsl (gtI_q (w := iI 2) (ck_65 (hC.fr FL8)) (t138)) ?_
      refine rsl (cI_e (y102 (by omega) (rfl))) ?_
      refine rsl (if_neg (eqI_n (rfl) (rfl) (by omega))) ?_
      refine rsl (jv_e) ?_
      refine rsr (gtI_q (w := iI F8) (rk_160 (hR.fr FR8)) (u418)) ?_
      refine rsr (if_neg (eqI_n (rfl) (li_0) (by omega))) ?_
      refine rsr (jv_e) ?_
      exact Rs.ok (Or.inr ⟨F8, P8, FL8, FR8, ⟨ti8, tz8, tn8, tu8, t138, t108, t118, t128, t98, t168, t198, by omega⟩, ⟨re8, rn8, ru8, rm8, rt8, u418, u428, u438, u518, u538, u488, u498, by omega⟩⟩)
  ·
    have FL4 : Fr W_cp Mc Mx4 := Fr.t Fr.r fl4
    have FR4 : Fr W_rp Mr Nx4 := Fr.t (Fr.m Fr.r W_rx_p) fr4
    obtain ⟨ti4, tz4, tn4, tu4, t134, t104, t114, t124, t94, t164, t194, tb4⟩ := tc4
    obtain ⟨re4, rn4, ru4, rm4, rt4, u414, u424, u434, u514, u534, u484, u494, ub4⟩ := tr4
    refine rsl (cV_e rfl) ?_
    refine rsr (cV_e rfl) ?_
    refine rsl (jn_v) ?_
    refine rsl (jn_v) ?_
    refine rsl (lp_e) ?_
    unfold c99_61
    refine rsl (if_neg (leI_n (li_3000) (li_0) (by omega))) ?_
    refine rsl (gtI_q (w := iI 2) (ck_65 (hC.fr FL4)) (t134)) ?_
    refine rsl (cI_e (y102 (by omega) (rfl))) ?_
    refine rsl (if_neg (eqI_n (rfl) (rfl) (by omega))) ?_
    refine rsl (jv_e) ?_
    refine rsr (jn_v) ?_
    refine rsr (lp_e) ?_
    unfold c210_4
    refine rsr (gtI_q (w := iI F4) (rk_160 (hR.fr FR4)) (u414)) ?_
    refine rsr (if_neg (eqI_n (rfl) (li_0) (by omega))) ?_
    refine rsr (jv_e) ?_
    exact Rs.ok (Or.inr ⟨F4, P4, FL4, FR4, ⟨ti4, tz4, tn4, tu4, t134, t104, t114, t124, t94, t164, t194, by omega⟩, ⟨re4, rn4, ru4, rm4, rt4, u414, u424, u434, u514, u534, u484, u494, by omega⟩⟩)
theorem p_0 {D : Nat} {dp : Int} (hD : 20 ≤ D) (hp : Pair D 99 [1] 210 15 dp) : Pair (D + 1) 99 [0] 211 14 dp := by
  intro d d2 hd hd2 T n m kd pl E tx ua ut mu Mc Mr G U Hl X i e s u uc vs hS hx hsc hsr hrw hbd hvs
  subst hvs
  obtain ⟨d, rfl⟩ : ∃ e, d = e + 1 := ⟨d - 1, by omega⟩
  obtain ⟨d2, rfl⟩ : ∃ e, d2 = e + 1 := ⟨d2 - 1, by omega⟩
  show Rs (runX (d + 1) 99 [va_rf (some 65), .int (iI 0), .int (iI dp)] Mc) (runX (d2 + 1) 211 [va_rf (some 160)] Mr) _
  rw [r99]; unfold b99; rw [aR_e, aI_e, aI_e, aZ_e]; unfold c99; rw [r211]; unfold b211; rw [aR_e, aZ_e]; unfold c211
  have hCx := hx
  obtain ⟨hC, hR, hTk, hT, hW, ⟨hu1, hu2, hu3, hu4⟩, h49, h48, ⟨hb1, hb2, hb3, hb4⟩⟩ := hx
  obtain ⟨bb_0, bb_1, bb_2, bb_3, bb_4, bb_5, bb_6, bb_7, bb_8, bb_9, bb_10, bb_11⟩ := hbd
  have kua : KU uc Mc Mc := KU.r
  obtain ⟨qa_12, qa_13, qa_10, qa_9, qa_16, qa_19⟩ := hsc
  obtain ⟨wa_36, wa_37, wa_38, wa_41, wa_43, wa_51, wa_53, wa_50, wa_n⟩ := hsr
  obtain ⟨caa, raa, lca, lra, cua, rua⟩ := hrw
  have hk1 := (hS.ok i (by omega) (by omega)).r
  have ty2 := (Tye.r (G := G) (a := e) (s := s))
  have du3 := (DU.r (ut := ut) (mu := mu) (c := uc) (G := G) (U := U) (X := X) (a := e) (u := u))
  refine rsl (if_pos (leI_p (rfl) (li_5) (by omega))) ?_
  refine rsl (jn_v) ?_
  refine rsl (if_neg (eqI_n (rfl) (li_2) (by omega))) ?_
  refine rsl (jv_e) ?_
  refine rsl (vC_e (ck_65 hC)) ?_
  refine rsr (vC_e (rk_160 hR)) ?_
  refine Rb_VV (hp _ _ (by omega) (by omega) T n m kd pl E tx ua ut mu _ _ G U Hl X i e s u uc _ hS (hCx.fr Fr.r Fr.r) ⟨qa_12, qa_13, qa_10, qa_9, qa_16, qa_19⟩ ⟨wa_36, wa_37, wa_38, wa_41, wa_43, wa_51, wa_53, wa_50, wa_n⟩ ⟨caa, raa, lca, lra, cua, rua⟩ ⟨by omega, by omega, by omega, by omega, by omega, by omega, by omega, by omega, by omega, by omega, by omega, by omega⟩ (vs2 (adI (rfl) (li_1)) (rfl))) fun v Mx4 w Nx4 hx4 => ?_
  rcases hx4 with ⟨i4, e4, u4, uc4, G4, U4, X4, fl4, fr4, sc4, sr4, rw4, bd4, mv4, ag4, au4, ax4, tp4, dp4, kv4⟩ | ⟨F4, P4, fl4, fr4, tc4, tr4⟩
  ·
    have FL4 : Fr W_cp Mc Mx4 := Fr.t Fr.r fl4
    have FR4 : Fr W_rx Mr Nx4 := Fr.t Fr.r fr4
    obtain ⟨bb4_0, bb4_1, bb4_2, bb4_3, bb4_4, bb4_5, bb4_6, bb4_7, bb4_8, bb4_9, bb4_10, bb4_11⟩ := bd4
    obtain ⟨q4_12, q4_13, q4_10, q4_9, q4_16, q4_19⟩ := sc4
    obtain ⟨w4_36, w4_37, w4_38, w4_41, w4_43, w4_51, w4_53, w4_50, w4_n⟩ := sr4
    obtain ⟨ca4, ra4, lc4, lr4, cu4, ru4⟩ := rw4
    have hk5 := (hS.ok i4 (by omega) (by omega)).r
    have ku4 := KU.t kua kv4 (by omega)
    have ty6 := Tye.t (d3 := 1) ty2 ag4 tp4 (by omega)
    have du7 := DU.t du3 ag4 au4 ax4 dp4 (by omega)
    refine rsl (cV_e rfl) ?_
    refine rsr (cV_e rfl) ?_
    refine rsl (jn_v) ?_
    refine rsl (jn_v) ?_
    refine rsr (jn_v) ?_
    refine Rb_lp (fun m2 q t => (∃ (k i2 : Int), q.1 = iI k ∧ (0 ≤ k ∧ k ≤ i2) ∧ PK 1 ut mu m kd pl E tx Mc Mr G U Hl X i e s u uc dp q.2 t i2 ∧ (m2 : Int) = m - i2 + 1) ∨ ∃ (k F P : Int), q.1 = iI k ∧ (0 ≤ k ∧ k ≤ 1500) ∧ Fr W_cp Mc q.2 ∧ Fr W_rp Mr t ∧ FTc m F P q.2 ∧ FTr (2500 - 30 * dp - 14) F P t ∧ m2 = 0) (fun m2 q t gl gr hq hgo => ?_) (m - i4 + 1).toNat _ _ _ _ (by omega) (by omega) (Or.inl ⟨0, i4, li_0, by omega, ⟨e4, u4, uc4, G4, U4, X4, FL4, FR4, ⟨q4_12, q4_13, q4_10, q4_9, q4_16, q4_19⟩, ⟨w4_36, w4_37, w4_38, w4_41, w4_43, w4_51, w4_53, w4_50, w4_n⟩, ⟨ca4, ra4, lc4, lr4, cu4, ru4⟩, ⟨by omega, by omega, by omega, by omega, by omega, by omega, by omega, by omega, by omega, by omega, by omega, by omega⟩, ⟨by omega, by omega, by omega, by omega, by omega, by omega⟩, (Ag.t Ag.r ag4 (by omega)), (Ag.t Ag.r au4 (by omega)), (AgL.t AgL.r ax4 (by omega)), ty6, du7, ku4⟩, by omega⟩)
    obtain ⟨qk8, qm8⟩ := q
    dsimp only at hq
    try dsimp only
    rcases hq with hq | hq
    ·
      obtain ⟨k8, i8, hk8, ⟨hka8, hkb8⟩, ⟨e8, u8, uc8, G8, U8, X8, FL8, FR8, sc8, sr8, rw8, bd8, ⟨mv8_0, mv8_1, mv8_2, mv8_3, mv8_4, mv8_5⟩, ag8, au8, ax8, tp8, dp8, ku8⟩, hm8⟩ := hq
      obtain ⟨bb8_0, bb8_1, bb8_2, bb8_3, bb8_4, bb8_5, bb8_6, bb8_7, bb8_8, bb8_9, bb8_10, bb8_11⟩ := bd8
      obtain ⟨q8_12, q8_13, q8_10, q8_9, q8_16, q8_19⟩ := sc8
      obtain ⟨w8_36, w8_37, w8_38, w8_41, w8_43, w8_51, w8_53, w8_50, w8_n⟩ := sr8
      obtain ⟨ca8, ra8, lc8, lr8, cu8, ru8⟩ := rw8
      have hk9 := (hS.ok i8 (by omega) (by omega)).r
      unfold c99_61 c211_4
      refine rsl (if_neg (leI_n (li_3000) (hk8) (by omega))) ?_
      refine rsl (gtI_q (w := iI ((kd i8))) (ck_65 (hC.fr FL8)) (q8_13)) ?_
      by_cases c10 : ((kd i8)) = 226
      ·
        refine rsl (cI_e (lk_226 (by omega) ((rfl).trans (congrArg iI (by omega))))) ?_
        refine rsl (if_pos (eqI_p (rfl) (rfl) (by omega))) ?_
        refine rsl (gtI_q (w := iI ((kd i8))) (ck_65 (hC.fr FL8)) (q8_13)) ?_
        refine rsl (cI_e (ok_226 (by omega) ((rfl).trans (congrArg iI (by omega))))) ?_
        refine rsl (vC_e (ck_65 (hC.fr FL8))) ?_
        have hm11 : i8 + 1 < m := hS.more i8 (by omega) (by omega) (by omega)
        refine rsl (cV_e (a63q (by omega) hS (hC.fr FL8) (hTk.fr (WL := W_cp) FL8 (by decide)) (q8_12) (q8_13) (q8_10) (i2 := (i8 + 1)) (by omega) (by omega))) ?_
        have hk12 := (hS.ok (i8 + 1) (by omega) (by omega)).r
        refine rsl (vC_e (ck_65 (hC.fr FL8).sI.sI)) ?_
        refine rsr (gtI_q (w := iI 0) (rk_160 (hR.fr FR8)) (w8_41)) ?_
        refine rsr (if_pos (eqI_p (rfl) (li_0) (by omega))) ?_
        refine rsr (gtI_q (w := iI ((kr (kd i8)))) (rk_160 (hR.fr FR8)) (w8_36)) ?_
        refine rsr (if_pos (krI_p (k := 226) (rfl) (li_427) (by omega) (by decide +kernel))) ?_
        refine rsr (vC_e (rk_160 (hR.fr FR8))) ?_
        refine RrV (nx_ok (by omega) hS (hR.fr FR8) (hT.fr (W := W_rx) FR8 (by decide) (by decide)) (fun i a b => (Fr.lc (W := W_rx) FR8 _ (by decide) _).trans (hW i a b)) (i := i8) (w8_41) (w8_38) (by omega) (by omega)) fun v Ma14 h14 => ?_
        obtain ⟨g14, e14_k0, e14_k1, e14_k2, p14_0⟩ := h14
        have f14 : Fr W_rx Mr Ma14 := Fr.t FR8 (Fr.m g14 (by decide))
        refine rsr (cV_e rfl) ?_
        refine rsr (vC_e (rk_160 (hR.fr f14))) ?_
        refine Rb_VV (hp _ _ (by omega) (by omega) T n m kd pl E tx ua ut mu _ _ G8 U8 Hl X8 (i8 + 1) e8 s u8 uc8 _ hS (hCx.fr (Fr.sI (by decide) (Fr.sI (by decide) FL8)) f14) ⟨(sI_nej (by decide)).trans (sI_eq), sI_eq, (sI_nej (by decide)).trans ((sI_nej (by decide)).trans (q8_10)), (sI_nej (by decide)).trans ((sI_nej (by decide)).trans (q8_9)), (sI_nej (by decide)).trans ((sI_nej (by decide)).trans (q8_16)), (sI_nej (by decide)).trans ((sI_nej (by decide)).trans (q8_19))⟩ ⟨e14_k0, e14_k1, e14_k2, (g14.i _ _ (by decide)).trans (w8_41), (g14.i _ _ (by decide)).trans (w8_43), (g14.i _ _ (by decide)).trans (w8_51), (g14.i _ _ (by decide)).trans (w8_53), (g14.i _ _ (by decide)).trans (w8_50), p14_0⟩ ⟨(ca8.fr (W := W_c0) (Fr.sI (by decide) (Fr.sI (by decide) Fr.r)) (by decide)), (ra8.fr g14 (by decide)), (lc8.fr (W := W_c0) (Fr.sI (by decide) (Fr.sI (by decide) Fr.r)) (by decide)), (lr8.fr g14 (by decide)), (cu8.fr (W := W_c0) (Fr.sI (by decide) (Fr.sI (by decide) Fr.r)) (by decide)), (ru8.fr g14 (by decide))⟩ ⟨by omega, by omega, by omega, by omega, by omega, by omega, by omega, by omega, by omega, by omega, by omega, by omega⟩ (vs2 (adI (rfl) (li_1)) (rfl))) fun v Mx15 w Nx15 hx15 => ?_
        rcases hx15 with ⟨i15, e15, u15, uc15, G15, U15, X15, fl15, fr15, sc15, sr15, rw15, bd15, mv15, ag15, au15, ax15, tp15, dp15, kv15⟩ | ⟨F15, P15, fl15, fr15, tc15, tr15⟩
        ·
          have FL15 : Fr W_cp Mc Mx15 := Fr.t (Fr.sI (by decide) (Fr.sI (by decide) FL8)) fl15
          have FR15 : Fr W_rx Mr Nx15 := Fr.t f14 fr15
          obtain ⟨bb15_0, bb15_1, bb15_2, bb15_3, bb15_4, bb15_5, bb15_6, bb15_7, bb15_8, bb15_9, bb15_10, bb15_11⟩ := bd15
          obtain ⟨q15_12, q15_13, q15_10, q15_9, q15_16, q15_19⟩ := sc15
          obtain ⟨w15_36, w15_37, w15_38, w15_41, w15_43, w15_51, w15_53, w15_50, w15_n⟩ := sr15
          obtain ⟨ca15, ra15, lc15, lr15, cu15, ru15⟩ := rw15
          have hk16 := (hS.ok i15 (by omega) (by omega)).r
          have ku15 := KU.t (ku8.fr (W := W_c0) (Fr.sI (by decide) (Fr.sI (by decide) Fr.r)) (by decide)) kv15 (by omega)
          have ty17 := Tye.t (d3 := 2) tp8 ag15 tp15 (by omega)
          have du18 := DU.t dp8 ag15 au15 ax15 dp15 (by omega)
          refine rsl (cV_e rfl) ?_
          refine rsr (cV_e rfl) ?_
          refine rsl (vC_e (ck_65 (hC.fr FL15))) ?_
          have ty20 := Tye.em (d := 2) (d' := 1) (q := (e15 + 1)) (n1 := 0) (ut := ut) (mu := mu) (l := []) ty17 (Or.inr (Or.inr (Or.inr (Or.inr (Or.inr (Or.inr (Or.inr (Or.inl (by omega)))))))) : Eff 20 0 0 2 s 1 s) (by omega) ⟨by omega, by omega⟩ (by omega)
          have du21 := DU.em (q := (e15 + 1)) (o := 20) (n := 0) (p := -2) (l := [0]) du18 (by omega) (by omega)
          refine RlI (a87 (by omega) (hC.fr FL15) (q15_9) (rfl) (li_0) (by omega)) fun v Ma22 h22 => ?_
          obtain ⟨r19, rfl, g22, e22_k0, p22_0, p22_1⟩ := h22
          have f22 : Fr W_cp Mc Ma22 := Fr.t FL15 (Fr.m g22 (by decide))
          refine rsl (cI_e rfl) ?_
          refine rsl (if_neg (eqI_n (rfl) (li_3) (by omega))) ?_
          refine rsl (ltI_q (z := (k8 + 1)) (adI (hk8) (li_1))) ?_
          refine rsr (vC_e (rk_160 (hR.fr FR15))) ?_
          refine RrI (a196 (by omega) (hR.fr FR15) (w15_43) ((FR15.i _ _ (by decide)).trans h49) ((FR15.i _ _ (by decide)).trans h48) (li_20) (li_0) (by omega)) fun v Ma24 h24 => ?_
          obtain ⟨r23, rfl, g24, e24_k0, p24_0, p24_1⟩ := h24
          have f24 : Fr W_rx Mr Ma24 := Fr.t FR15 (Fr.m g24 (by decide))
          refine rsr (cI_e rfl) ?_
          exact hgo (m - i15 + 1).toNat _ _ (by omega) (Or.inl ⟨(k8 + 1), i15, rfl, by omega, ⟨(e15 + 1), u15, uc15, (pu G15 e15 [20, 0, -2, 0, ut, mu, 0]), U15, X15, f22, f24, ⟨(g22.i _ _ (by decide)).trans (q15_12), (g22.i _ _ (by decide)).trans (q15_13), (g22.i _ _ (by decide)).trans (q15_10), e22_k0, (g22.i _ _ (by decide)).trans (q15_16), (g22.i _ _ (by decide)).trans (q15_19)⟩, ⟨(g24.i _ _ (by decide)).trans (w15_36), (g24.i _ _ (by decide)).trans (w15_37), (g24.i _ _ (by decide)).trans (w15_38), (g24.i _ _ (by decide)).trans (w15_41), e24_k0, (g24.i _ _ (by decide)).trans (w15_51), (g24.i _ _ (by decide)).trans (w15_53), (g24.i _ _ (by decide)).trans (w15_50), (w15_n.fr g24 (by decide) (by decide))⟩, ⟨(CA1.em ca15 (by omega) p22_1 rfl), (RA1.em ra15 (by omega) p24_1 rfl), (lc15.fr g22 (by decide)), (lr15.fr g24 (by decide)), (cu15.fr g22 (by decide)), (ru15.fr g24 (by decide))⟩, ⟨by omega, by omega, by omega, by omega, by omega, by omega, by omega, by omega, by omega, by omega, by omega, by omega⟩, ⟨by omega, by omega, by omega, by omega, by omega, by omega⟩, (Ag.pu (Ag.t ag8 ag15 (by omega)) (by omega)), (Ag.t au8 au15 (by omega)), (AgL.t ax8 ax15 (by omega)), ty20, du21, (ku15.fr g22 (by decide))⟩, by omega⟩)
        ·
          have FL15 : Fr W_cp Mc Mx15 := Fr.t (Fr.sI (by decide) (Fr.sI (by decide) FL8)) fl15
          have FR15 : Fr W_rp Mr Nx15 := Fr.t (Fr.m f14 W_rx_p) fr15
          obtain ⟨ti15, tz15, tn15, tu15, t1315, t1015, t1115, t1215, t915, t1615, t1915, tb15⟩ := tc15
          obtain ⟨re15, rn15, ru15, rm15, rt15, u4115, u4215, u4315, u5115, u5315, u4815, u4915, ub15⟩ := tr15
          refine rsl (cV_e rfl) ?_
          refine rsr (cV_e rfl) ?_
          refine rsl (vC_e (ck_65 (hC.fr FL15))) ?_
          refine RlI (y87 (by omega) (hC.fr FL15) (hTk.fr (WL := W_cp) FL15 (by decide)) (t1215) (t1315) (t1015) (t1115) (t915) (t1615) (t1915) (rfl) (li_0) (by omega)) fun v Ma26 h26 => ?_
          obtain ⟨rv25, sz25, sn25, uc25, rfl, g26, e26_sz25, e26_sn25, e26_uc25, e26_k0, e26_k1, e26_k2, e26_k3, p26_0, p26_1, p26_2, p26_3⟩ := h26
          have f26 : Fr W_cp Mc Ma26 := Fr.t FL15 (Fr.m g26 (by decide))
          refine rsl (cI_e rfl) ?_
          refine rsl (if_neg (eqI_n (rfl) (li_3) (by omega))) ?_
          refine rsl (ltI_q (z := (k8 + 1)) (adI (hk8) (li_1))) ?_
          refine rsr (vC_e (rk_160 (hR.fr FR15))) ?_
          refine RrI (x196_s (by omega) (hR.fr FR15) (u4115) (u4215) (u4315) (u5115) (u5315) (u4815) (u4915) (li_20) (li_0) (by omega)) fun v Ma28 h28 => ?_
          obtain ⟨rv27, em27, rfl, g28, e28_em27, e28_k0, e28_k1, e28_k2, e28_k3, e28_k4, p28_0, p28_1⟩ := h28
          have f28 : Fr W_rp Mr Ma28 := Fr.t FR15 (Fr.m g28 (by decide))
          refine rsr (cI_e rfl) ?_
          exact hgo 0 _ _ (by omega) (Or.inr ⟨(k8 + 1), F15, P15, rfl, by omega, f26, f28, ⟨ti15, sz25, sn25, uc25, e26_k0, e26_k1, e26_k2, e26_k3, e26_sz25, e26_sn25, e26_uc25, by omega⟩, ⟨em27, rn15, ru15, rm15, rt15, e28_k0, e28_k1, e28_em27, e28_k2, e28_k3, e28_k4, (g28.i _ _ (by decide)).trans (u4915), by omega⟩, rfl⟩)
      ·
        refine RlI (lv_0 (by omega) (rfl) (by omega)) fun v Ml29 hl29 => ?_
        obtain ⟨rl29, rfl, rfl, nl29, bl29⟩ := hl29
        refine rsl (cI_e rfl) ?_
        refine rsl (if_neg (eqI_n (rfl) (rfl) (by omega))) ?_
        refine rsl (jv_e) ?_
        refine rsr (gtI_q (w := iI 0) (rk_160 (hR.fr FR8)) (w8_41)) ?_
        refine rsr (if_pos (eqI_p (rfl) (li_0) (by omega))) ?_
        refine rsr (gtI_q (w := iI ((kr (kd i8)))) (rk_160 (hR.fr FR8)) (w8_36)) ?_
        refine rsr (if_neg (krI_n (k := 226) (rfl) (li_427) (hS.ok i8 (by omega) (by omega)) (by unfold KdOK sgk; omega) (by decide +kernel) (by omega) (by omega))) ?_
        refine rsr (jv_e) ?_
        exact Rs.ok (Or.inl ⟨i8, e8, u8, uc8, G8, U8, X8, FL8, FR8, ⟨q8_12, q8_13, q8_10, q8_9, q8_16, q8_19⟩, ⟨w8_36, w8_37, w8_38, w8_41, w8_43, w8_51, w8_53, w8_50, w8_n⟩, ⟨ca8, ra8, lc8, lr8, cu8, ru8⟩, ⟨by omega, by omega, by omega, by omega, by omega, by omega, by omega, by omega, by omega, by omega, by omega, by omega⟩, ⟨by omega, by omega, by omega, by omega, by omega, by omega⟩, ag8, au8, ax8, tp8, dp8, ku8⟩)
    ·
      obtain ⟨k8, F8, P8, hk8, ⟨hka8, hkb8⟩, FL8, FR8, tc8, tr8, hm8⟩ := hq
      obtain ⟨ti8, tz8, tn8, tu8, t138, t108, t118, t128, t98, t168, t198, tb8⟩ := tc8
      obtain ⟨re8, rn8, ru8, rm8, rt8, u418, u428, u438, u518, u538, u488, u498, ub8⟩ := tr8
      unfold c99_61 c211_4
      refine rsl (if_neg (leI_n (li_3000) (hk8) (by omega))) ?_
      refine rsl (gtI_q (w := iI 2) (ck_65 (hC.fr FL8)) (t138)) ?_
      refine rsl (cI_e (y102 (by omega) (rfl))) ?_
      refine rsl (if_neg (eqI_n (rfl) (rfl) (by omega))) ?_
      refine rsl (jv_e) ?_
      refine rsr (gtI_q (w := iI F8) (rk_160 (hR.fr FR8)) (u418)) ?_
      refine rsr (if_neg (eqI_n (rfl) (li_0) (by omega))) ?_
      refine rsr (jv_e) ?_
      exact Rs.ok (Or.inr ⟨F8, P8, FL8, FR8, ⟨ti8, tz8, tn8, tu8, t138, t108, t118, t128, t98, t168, t198, by omega⟩, ⟨re8, rn8, ru8, rm8, rt8, u418, u428, u438, u518, u538, u488, u498, by omega⟩⟩)
  ·
    have FL4 : Fr W_cp Mc Mx4 := Fr.t Fr.r fl4
    have FR4 : Fr W_rp Mr Nx4 := Fr.t (Fr.m Fr.r W_rx_p) fr4
    obtain ⟨ti4, tz4, tn4, tu4, t134, t104, t114, t124, t94, t164, t194, tb4⟩ := tc4
    obtain ⟨re4, rn4, ru4, rm4, rt4, u414, u424, u434, u514, u534, u484, u494, ub4⟩ := tr4
    refine rsl (cV_e rfl) ?_
    refine rsr (cV_e rfl) ?_
    refine rsl (jn_v) ?_
    refine rsl (jn_v) ?_
    refine rsl (lp_e) ?_
    unfold c99_61
    refine rsl (if_neg (leI_n (li_3000) (li_0) (by omega))) ?_
    refine rsl (gtI_q (w := iI 2) (ck_65 (hC.fr FL4)) (t134)) ?_
    refine rsl (cI_e (y102 (by omega) (rfl))) ?_
    refine rsl (if_neg (eqI_n (rfl) (rfl) (by omega))) ?_
    refine rsl (jv_e) ?_
    refine rsr (jn_v) ?_
    refine rsr (lp_e) ?_
    unfold c211_4
    refine rsr (gtI_q (w := iI F4) (rk_160 (hR.fr FR4)) (u414)) ?_
    refine rsr (if_neg (eqI_n (rfl) (li_0) (by omega))) ?_
    refine rsr (jv_e) ?_
    exact Rs.ok (Or.inr ⟨F4, P4, FL4, FR4, ⟨ti4, tz4, tn4, tu4, t134, t104, t114, t124, t94, t164, t194, by omega⟩, ⟨re4, rn4, ru4, rm4, rt4, u414, u424, u434, u514, u534, u484, u494, by omega⟩⟩)
