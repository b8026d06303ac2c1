theorem p_st219 {D : Nat} {dp : Int} (hD : 20 ≤ D) (hE : Pair D 99 [0] 211 14 dp) : PairT 219 91 [.int (iI 8)] (D + 10) dp := by
  intro d d2 hd hd2 T n m kd pl E tx ua ut mu Mc Mr G U Hl X i e s u uc v0 hS hx hsc hsr hrw hbd hK hv0
  obtain ⟨d, rfl⟩ : ∃ e, d = e + 1 := ⟨d - 1, by omega⟩
  obtain ⟨d2, rfl⟩ : ∃ e, d2 = e + 1 := ⟨d2 - 1, by omega⟩
  show Rs (runX (d + 1) 91 [va_rf (some 65), .int (iI 8), .int v0] Mc) (runX (d2 + 1) 214 [va_rf (some 160)] Mr) _
  rw [r91]; unfold b91; rw [aR_e, aI_e, aI_e, aZ_e]; unfold c91; rw [r214]; unfold b214; rw [aR_e, aZ_e]; unfold c214
  have hCx := hx
  obtain ⟨hC, hR, hTk, hT, hW, ⟨hu1, hu2, hu3, hu4⟩, h49, h48, ⟨hb1, hb2, hb3, hb4⟩⟩ := hx
  obtain ⟨bb_0, bb_1, bb_2, bb_3, bb_4, bb_5, bb_6, bb_7, bb_8, bb_9, bb_10, bb_11⟩ := hbd
  have kua : KU uc Mc Mc := KU.r
  obtain ⟨qa_12, qa_13, qa_10, qa_9, qa_16, qa_19⟩ := hsc
  obtain ⟨wa_36, wa_37, wa_38, wa_41, wa_43, wa_51, wa_53, wa_50, wa_n⟩ := hsr
  obtain ⟨caa, raa, lca, lra, cua, rua⟩ := hrw
  have hk1 := (hS.ok i (by omega) (by omega)).r
  have ty2 := (Tye.r (G := G) (a := e) (s := s))
  have du3 := (DU.r (ut := ut) (mu := mu) (c := uc) (G := G) (U := U) (X := X) (a := e) (u := u))
  refine rsl (vC_e (ck_65 hC)) ?_
  have hm4 : i + 1 < m := hS.more i (by omega) (by omega) (by omega)
  refine rsl (cV_e (a63q (by omega) hS hC (hTk.fr (WL := W_cp) Fr.r (by decide)) (qa_12) (qa_13) (qa_10) (i2 := (i + 1)) (by omega) (by omega))) ?_
  have hk5 := (hS.ok (i + 1) (by omega) (by omega)).r
  refine rsl (vC_e (ck_65 hC.sI.sI)) ?_
  refine rsr (gtI_q (w := iI ((kr (kd i)))) (rk_160 hR) (wa_36)) ?_
  refine rsr (jn_v) ?_
  refine rsr (swI_c) ?_
  refine rsr (if_neg (krI_n (k := 215) (rfl) (li_416) (hS.ok i (by omega) (by omega)) (by unfold KdOK sgk; omega) (by decide +kernel) (by omega) (by omega))) ?_
  refine rsr (swI_c) ?_
  refine rsr (if_neg (krI_n (k := 216) (rfl) (li_417) (hS.ok i (by omega) (by omega)) (by unfold KdOK sgk; omega) (by decide +kernel) (by omega) (by omega))) ?_
  refine rsr (swI_c) ?_
  refine rsr (if_neg (krI_n (k := 217) (rfl) (li_418) (hS.ok i (by omega) (by omega)) (by unfold KdOK sgk; omega) (by decide +kernel) (by omega) (by omega))) ?_
  refine rsr (swI_c) ?_
  refine rsr (if_neg (krI_n (k := 218) (rfl) (li_419) (hS.ok i (by omega) (by omega)) (by unfold KdOK sgk; omega) (by decide +kernel) (by omega) (by omega))) ?_
  refine rsr (swI_c) ?_
  refine rsr (if_pos (krI_p (k := 219) (rfl) (li_420) (by omega) (by decide +kernel))) ?_
  refine rsr (gtI_q (w := iI ((kr (kd i)))) (rk_160 hR) (wa_36)) ?_
  refine rsr (jn_v) ?_
  refine rsr (if_pos (krI_p (k := 219) (rfl) (li_420) (by omega) (by decide +kernel))) ?_
  refine rsr (jv_e) ?_
  refine rsr (vC_e (rk_160 hR)) ?_
  refine RrV (nx_ok (by omega) hS hR (hT.fr (W := W_rx) Fr.r (by decide) (by decide)) (fun i a b => (Fr.lc (W := W_rx) Fr.r _ (by decide) _).trans (hW i a b)) (i := i) (wa_41) (wa_38) (by omega) (by omega)) fun v Ma7 h7 => ?_
  obtain ⟨g7, e7_k0, e7_k1, e7_k2, p7_0⟩ := h7
  have f7 : Fr W_rx Mr Ma7 := Fr.t Fr.r (Fr.m g7 (by decide))
  refine rsr (cV_e rfl) ?_
  refine rsr (vC_e (rk_160 (hR.fr f7))) ?_
  refine Rb_VV (hE _ _ (by omega) (by omega) T n m kd pl E tx ua ut mu _ _ G U Hl X (i + 1) e s u uc _ hS (hCx.fr (Fr.sI (by decide) (Fr.sI (by decide) Fr.r)) f7) ⟨(sI_nej (by decide)).trans (sI_eq), sI_eq, (sI_nej (by decide)).trans ((sI_nej (by decide)).trans (qa_10)), (sI_nej (by decide)).trans ((sI_nej (by decide)).trans (qa_9)), (sI_nej (by decide)).trans ((sI_nej (by decide)).trans (qa_16)), (sI_nej (by decide)).trans ((sI_nej (by decide)).trans (qa_19))⟩ ⟨e7_k0, e7_k1, e7_k2, (g7.i _ _ (by decide)).trans (wa_41), (g7.i _ _ (by decide)).trans (wa_43), (g7.i _ _ (by decide)).trans (wa_51), (g7.i _ _ (by decide)).trans (wa_53), (g7.i _ _ (by decide)).trans (wa_50), p7_0⟩ ⟨(caa.fr (W := W_c0) (Fr.sI (by decide) (Fr.sI (by decide) Fr.r)) (by decide)), (raa.fr g7 (by decide)), (lca.fr (W := W_c0) (Fr.sI (by decide) (Fr.sI (by decide) Fr.r)) (by decide)), (lra.fr g7 (by decide)), (cua.fr (W := W_c0) (Fr.sI (by decide) (Fr.sI (by decide) Fr.r)) (by decide)), (rua.fr g7 (by decide))⟩ ⟨by omega, by omega, by omega, by omega, by omega, by omega, by omega, by omega, by omega, by omega, by omega, by omega⟩ (vs2 (li_0) (hv0))) fun v Mx8 w Nx8 hx8 => ?_
  rcases hx8 with ⟨i8, e8, u8, uc8, G8, U8, X8, fl8, fr8, sc8, sr8, rw8, bd8, mv8, ag8, au8, ax8, tp8, dp8, kv8⟩ | ⟨F8, P8, fl8, fr8, tc8, tr8⟩
  ·
    have FL8 : Fr W_cp Mc Mx8 := Fr.t (Fr.sI (by decide) (Fr.sI (by decide) Fr.r)) fl8
    have FR8 : Fr W_rx Mr Nx8 := Fr.t f7 fr8
    obtain ⟨bb8_0, bb8_1, bb8_2, bb8_3, bb8_4, bb8_5, bb8_6, bb8_7, bb8_8, bb8_9, bb8_10, bb8_11⟩ := bd8
    obtain ⟨q8_12, q8_13, q8_10, q8_9, q8_16, q8_19⟩ := sc8
    obtain ⟨w8_36, w8_37, w8_38, w8_41, w8_43, w8_51, w8_53, w8_50, w8_n⟩ := sr8
    obtain ⟨ca8, ra8, lc8, lr8, cu8, ru8⟩ := rw8
    have hk9 := (hS.ok i8 (by omega) (by omega)).r
    have ku8 := KU.t (kua.fr (W := W_c0) (Fr.sI (by decide) (Fr.sI (by decide) Fr.r)) (by decide)) kv8 (by omega)
    have ty10 := Tye.t (d3 := 1) ty2 ag8 tp8 (by omega)
    have du11 := DU.t du3 ag8 au8 ax8 dp8 (by omega)
    refine rsl (cV_e rfl) ?_
    refine rsr (cV_e rfl) ?_
    refine rsl (vC_e (ck_65 (hC.fr FL8))) ?_
    by_cases c12 : ((kd i8)) = 59
    ·
      have hm13 : i8 + 1 < m := hS.more i8 (by omega) (by omega) (by omega)
      refine rsl (cV_e (a64q (by omega) hS (hC.fr FL8) (hTk.fr (WL := W_cp) FL8 (by decide)) (q8_12) (q8_13) (q8_10) (li_59) (i2 := (i8 + 1)) (by omega) (by omega))) ?_
      have hk14 := (hS.ok (i8 + 1) (by omega) (by omega)).r
      refine rsl (vC_e (ck_65 (hC.fr FL8).sI.sI)) ?_
      have tb16 := Tyb.ex (dp := dp) (d := 1) (s' := s) (q := (e8 + 1)) (n1 := 0) (ut := ut) (mu := mu) (l := []) ty10 (Or.inr (Or.inr (Or.inr (Or.inr (Or.inr (Or.inr (Or.inr (Or.inr (by omega)))))))) : Eff 8 0 0 1 s 0 s) (by omega) ⟨by omega, by omega⟩ (by omega)
      have du17 := DU.em (q := (e8 + 1)) (o := 8) (n := 0) (p := -2) (l := [0]) du11 (by omega) (by omega)
      refine RlI (a87 (by omega) (hC.fr FL8).sI.sI ((sI_nej (by decide)).trans ((sI_nej (by decide)).trans (q8_9))) (rfl) (li_0) (by omega)) fun v Ma18 h18 => ?_
      obtain ⟨r15, rfl, g18, e18_k0, p18_0, p18_1⟩ := h18
      have f18 : Fr W_cp Mc Ma18 := Fr.t (Fr.sI (by decide) (Fr.sI (by decide) FL8)) (Fr.m g18 (by decide))
      refine rsl (cI_e rfl) ?_
      refine rsr (vC_e (rk_160 (hR.fr FR8))) ?_
      refine RrI (a196 (by omega) (hR.fr FR8) (w8_43) ((FR8.i _ _ (by decide)).trans h49) ((FR8.i _ _ (by decide)).trans h48) (li_8) (li_0) (by omega)) fun v Ma20 h20 => ?_
      obtain ⟨r19, rfl, g20, e20_k0, p20_0, p20_1⟩ := h20
      have f20 : Fr W_rx Mr Ma20 := Fr.t FR8 (Fr.m g20 (by decide))
      refine rsr (cI_e rfl) ?_
      refine rsr (vC_e (rk_160 (hR.fr f20))) ?_
      refine RrI (a195_59 (by omega) hS (hR.fr f20) (hT.fr (W := W_rx) f20 (by decide) (by decide)) (fun i a b => (Fr.lc (W := W_rx) f20 _ (by decide) _).trans (hW i a b)) ((g20.i _ _ (by decide)).trans (w8_36)) ((g20.i _ _ (by decide)).trans (w8_37)) ((g20.i _ _ (by decide)).trans (w8_38)) ((g20.i _ _ (by decide)).trans (w8_41)) (li_59) (i2 := (i8 + 1)) (by omega) (by omega)) fun v Ma22 h22 => ?_
      obtain ⟨r21, rfl, g22, e22_k0, e22_k1, e22_k2, p22_0, p22_1⟩ := h22
      have f22 : Fr W_rx Mr Ma22 := Fr.t f20 (Fr.m g22 (by decide))
      refine rsr (cI_e rfl) ?_
      refine rsr (jv_e) ?_
      exact Rs.ok (Or.inl ⟨(i8 + 1), s, Hl, ⟨(e8 + 1), u8, uc8, (pu G8 e8 [8, 0, -2, 0, ut, mu, 0]), U8, X8, f18, f22, ⟨(g18.i _ _ (by decide)).trans ((sI_nej (by decide)).trans (sI_eq)), (g18.i _ _ (by decide)).trans (sI_eq), (g18.i _ _ (by decide)).trans ((sI_nej (by decide)).trans ((sI_nej (by decide)).trans (q8_10))), e18_k0, (g18.i _ _ (by decide)).trans ((sI_nej (by decide)).trans ((sI_nej (by decide)).trans (q8_16))), (g18.i _ _ (by decide)).trans ((sI_nej (by decide)).trans ((sI_nej (by decide)).trans (q8_19)))⟩, ⟨e22_k0, e22_k1, e22_k2, (g22.i _ _ (by decide)).trans ((g20.i _ _ (by decide)).trans (w8_41)), (g22.i _ _ (by decide)).trans (e20_k0), (g22.i _ _ (by decide)).trans ((g20.i _ _ (by decide)).trans (w8_51)), (g22.i _ _ (by decide)).trans ((g20.i _ _ (by decide)).trans (w8_53)), (g22.i _ _ (by decide)).trans ((g20.i _ _ (by decide)).trans (w8_50)), p22_1⟩, ⟨(CA1.em (ca8.fr (W := W_c0) (Fr.sI (by decide) (Fr.sI (by decide) Fr.r)) (by decide)) (by omega) p18_1 rfl), ((RA1.em ra8 (by omega) p20_1 rfl).fr g22 (by decide)), ((lc8.fr (W := W_c0) (Fr.sI (by decide) (Fr.sI (by decide) Fr.r)) (by decide)).fr g18 (by decide)), ((lr8.fr g20 (by decide)).fr g22 (by decide)), ((cu8.fr (W := W_c0) (Fr.sI (by decide) (Fr.sI (by decide) Fr.r)) (by decide)).fr g18 (by decide)), ((ru8.fr g20 (by decide)).fr g22 (by decide))⟩, ⟨by omega, by omega, by omega, by omega, by omega, by omega, by omega, by omega, by omega, by omega, by omega, by omega⟩, ⟨by omega, by omega, by omega, by omega, by omega, by omega⟩, (Ag.pu (Ag.t Ag.r ag8 (by omega)) (by omega)), (Ag.t Ag.r au8 (by omega)), (AgL.t AgL.r ax8 (by omega)), tb16, du17, ((ku8.fr (W := W_c0) (Fr.sI (by decide) (Fr.sI (by decide) Fr.r)) (by decide)).fr g18 (by decide)), ⟨by omega, fun _ _ _ => rfl⟩⟩⟩)
    ·
      by_cases c23 : ((kd i8)) = 1
      ·
        refine rsl (cV_e (a64_1 (by omega) hS (hC.fr FL8) (hTk.fr (WL := W_cp) FL8 (by decide)) (q8_12) (q8_13) (q8_10) (li_59) (by omega))) ?_
        refine rsl (vC_e (ck_65 (hC.fr FL8).sI.sI.sI)) ?_
        refine RlI (y87 (by omega) (hC.fr FL8).sI.sI.sI (hTk.fr (WL := W_cp) (Fr.sI (by decide) (Fr.sI (by decide) (Fr.sI (by decide) FL8))) (by decide)) ((sI_nej (by decide)).trans ((sI_nej (by decide)).trans ((sI_nej (by decide)).trans (q8_12)))) (sI_eq) ((sI_nej (by decide)).trans ((sI_nej (by decide)).trans (sI_eq))) ((sI_nej (by decide)).trans (sI_eq)) ((sI_nej (by decide)).trans ((sI_nej (by decide)).trans ((sI_nej (by decide)).trans (q8_9)))) ((sI_nej (by decide)).trans ((sI_nej (by decide)).trans ((sI_nej (by decide)).trans (q8_16)))) ((sI_nej (by decide)).trans ((sI_nej (by decide)).trans ((sI_nej (by decide)).trans (q8_19)))) (rfl) (li_0) (by omega)) fun v Ma25 h25 => ?_
        obtain ⟨rv24, sz24, sn24, uc24, rfl, g25, e25_sz24, e25_sn24, e25_uc24, e25_k0, e25_k1, e25_k2, e25_k3, p25_0, p25_1, p25_2, p25_3⟩ := h25
        have f25 : Fr W_cp Mc Ma25 := Fr.t (Fr.sI (by decide) (Fr.sI (by decide) (Fr.sI (by decide) FL8))) (Fr.m g25 (by decide))
        refine rsl (cI_e rfl) ?_
        refine rsr (vC_e (rk_160 (hR.fr FR8))) ?_
        refine RrI (a196 (by omega) (hR.fr FR8) (w8_43) ((FR8.i _ _ (by decide)).trans h49) ((FR8.i _ _ (by decide)).trans h48) (li_8) (li_0) (by omega)) fun v Ma27 h27 => ?_
        obtain ⟨r26, rfl, g27, e27_k0, p27_0, p27_1⟩ := h27
        have f27 : Fr W_rx Mr Ma27 := Fr.t FR8 (Fr.m g27 (by decide))
        refine rsr (cI_e rfl) ?_
        refine rsr (vC_e (rk_160 (hR.fr f27))) ?_
        refine rsr (cI_e (a195_59_1 (by omega) hS (hR.fr f27) ((g27.i _ _ (by decide)).trans (w8_36)) ((g27.i _ _ (by decide)).trans (w8_37)) ((g27.i _ _ (by decide)).trans (w8_41)) (li_59) (by omega))) ?_
        refine rsr (jv_e) ?_
        exact Rs.ok (Or.inr ⟨1, ((pl i8)), f25, (Fr.sI (by decide) (Fr.sI (by decide) (Fr.m f27 (by decide)))), ⟨i8, sz24, sn24, uc24, e25_k0, e25_k1, e25_k2, e25_k3, e25_sz24, e25_sn24, e25_uc24, by omega⟩, ⟨(e8 + 1), s, u8, mu, ut, (sI_nej (by decide)).trans (sI_eq), sI_eq, (sI_nej (by decide)).trans ((sI_nej (by decide)).trans (e27_k0)), (sI_nej (by decide)).trans ((sI_nej (by decide)).trans ((g27.i _ _ (by decide)).trans (w8_51))), (sI_nej (by decide)).trans ((sI_nej (by decide)).trans ((g27.i _ _ (by decide)).trans (w8_53))), (sI_nej (by decide)).trans ((sI_nej (by decide)).trans ((g27.i _ _ (by decide)).trans ((FR8.i _ _ (by decide)).trans h48))), (sI_nej (by decide)).trans ((sI_nej (by decide)).trans ((g27.i _ _ (by decide)).trans ((FR8.i _ _ (by decide)).trans h49))), by omega⟩⟩)
      ·
        refine rsl (cV_e (a64_2 (by omega) hS (hC.fr FL8) (hTk.fr (WL := W_cp) FL8 (by decide)) (q8_12) (q8_13) (q8_10) (li_59) (by omega))) ?_
        refine rsl (vC_e (ck_65 (hC.fr FL8).sI.sI.sI)) ?_
        refine RlI (y87 (by omega) (hC.fr FL8).sI.sI.sI (hTk.fr (WL := W_cp) (Fr.sI (by decide) (Fr.sI (by decide) (Fr.sI (by decide) FL8))) (by decide)) ((sI_nej (by decide)).trans ((sI_nej (by decide)).trans ((sI_nej (by decide)).trans (q8_12)))) (sI_eq) ((sI_nej (by decide)).trans ((sI_nej (by decide)).trans (sI_eq))) ((sI_nej (by decide)).trans (sI_eq)) ((sI_nej (by decide)).trans ((sI_nej (by decide)).trans ((sI_nej (by decide)).trans (q8_9)))) ((sI_nej (by decide)).trans ((sI_nej (by decide)).trans ((sI_nej (by decide)).trans (q8_16)))) ((sI_nej (by decide)).trans ((sI_nej (by decide)).trans ((sI_nej (by decide)).trans (q8_19)))) (rfl) (li_0) (by omega)) fun v Ma29 h29 => ?_
        obtain ⟨rv28, sz28, sn28, uc28, rfl, g29, e29_sz28, e29_sn28, e29_uc28, e29_k0, e29_k1, e29_k2, e29_k3, p29_0, p29_1, p29_2, p29_3⟩ := h29
        have f29 : Fr W_cp Mc Ma29 := Fr.t (Fr.sI (by decide) (Fr.sI (by decide) (Fr.sI (by decide) FL8))) (Fr.m g29 (by decide))
        refine rsl (cI_e rfl) ?_
        refine rsr (vC_e (rk_160 (hR.fr FR8))) ?_
        refine RrI (a196 (by omega) (hR.fr FR8) (w8_43) ((FR8.i _ _ (by decide)).trans h49) ((FR8.i _ _ (by decide)).trans h48) (li_8) (li_0) (by omega)) fun v Ma31 h31 => ?_
        obtain ⟨r30, rfl, g31, e31_k0, p31_0, p31_1⟩ := h31
        have f31 : Fr W_rx Mr Ma31 := Fr.t FR8 (Fr.m g31 (by decide))
        refine rsr (cI_e rfl) ?_
        refine rsr (vC_e (rk_160 (hR.fr f31))) ?_
        refine rsr (cI_e (a195_59_2 (by omega) hS (hR.fr f31) ((g31.i _ _ (by decide)).trans (w8_36)) ((g31.i _ _ (by decide)).trans (w8_37)) ((g31.i _ _ (by decide)).trans (w8_41)) (li_59) (by omega))) ?_
        refine rsr (jv_e) ?_
        exact Rs.ok (Or.inr ⟨2, ((pl i8)), f29, (Fr.sI (by decide) (Fr.sI (by decide) (Fr.m f31 (by decide)))), ⟨i8, sz28, sn28, uc28, e29_k0, e29_k1, e29_k2, e29_k3, e29_sz28, e29_sn28, e29_uc28, by omega⟩, ⟨(e8 + 1), s, u8, mu, ut, (sI_nej (by decide)).trans (sI_eq), sI_eq, (sI_nej (by decide)).trans ((sI_nej (by decide)).trans (e31_k0)), (sI_nej (by decide)).trans ((sI_nej (by decide)).trans ((g31.i _ _ (by decide)).trans (w8_51))), (sI_nej (by decide)).trans ((sI_nej (by decide)).trans ((g31.i _ _ (by decide)).trans (w8_53))), (sI_nej (by decide)).trans ((sI_nej (by decide)).trans ((g31.i _ _ (by decide)).trans ((FR8.i _ _ (by decide)).trans h48))), (sI_nej (by decide)).trans ((sI_nej (by decide)).trans ((g31.i _ _ (by decide)).trans ((FR8.i _ _ (by decide)).trans h49))), by omega⟩⟩)
  ·
    have FL8 : Fr W_cp Mc Mx8 := Fr.t (Fr.sI (by decide) (Fr.sI (by decide) Fr.r)) fl8
    have FR8 : Fr W_rp Mr Nx8 := Fr.t (Fr.m f7 W_rx_p) fr8
    obtain ⟨ti8, tz8, tn8, tu8, t138, t108, t118, t128, t98, t168, t198, tb8⟩ := tc8
    obtain ⟨re8, rn8, ru8, rm8, rt8, u418, u428, u438, u518, u538, u488, u498, ub8⟩ := tr8
    refine rsl (cV_e rfl) ?_
    refine rsr (cV_e rfl) ?_
    refine rsl (vC_e (ck_65 (hC.fr FL8))) ?_
    refine RlV (y64 (by omega) (hC.fr FL8) (hTk.fr (WL := W_cp) FL8 (by decide)) (t128) (t138) (t108) (t118) (t98) (t168) (t198) (li_59) (by omega)) fun v Ma33 h33 => ?_
    obtain ⟨sz32, sn32, uc32, g33, e33_sz32, e33_sn32, e33_uc32, e33_k0, e33_k1, e33_k2, e33_k3, p33_0, p33_1, p33_2⟩ := h33
    have f33 : Fr W_cp Mc Ma33 := Fr.t FL8 (Fr.m g33 (by decide))
    refine rsl (cV_e rfl) ?_
    refine rsl (vC_e (ck_65 (hC.fr f33))) ?_
    refine RlI (y87 (by omega) (hC.fr f33) (hTk.fr (WL := W_cp) f33 (by decide)) (e33_k3) (e33_k0) (e33_k1) (e33_k2) (e33_sz32) (e33_sn32) (e33_uc32) (rfl) (li_0) (by omega)) fun v Ma35 h35 => ?_
    obtain ⟨rv34, sz34, sn34, uc34, rfl, g35, e35_sz34, e35_sn34, e35_uc34, e35_k0, e35_k1, e35_k2, e35_k3, p35_0, p35_1, p35_2, p35_3⟩ := h35
    have f35 : Fr W_cp Mc Ma35 := Fr.t f33 (Fr.m g35 (by decide))
    refine rsl (cI_e rfl) ?_
    refine rsr (vC_e (rk_160 (hR.fr FR8))) ?_
    refine RrI (x196_s (by omega) (hR.fr FR8) (u418) (u428) (u438) (u518) (u538) (u488) (u498) (li_8) (li_0) (by omega)) fun v Ma37 h37 => ?_
    obtain ⟨rv36, em36, rfl, g37, e37_em36, e37_k0, e37_k1, e37_k2, e37_k3, e37_k4, p37_0, p37_1⟩ := h37
    have f37 : Fr W_rp Mr Ma37 := Fr.t FR8 (Fr.m g37 (by decide))
    refine rsr (cI_e rfl) ?_
    refine rsr (vC_e (rk_160 (hR.fr f37))) ?_
    refine RrI (x195_s (by omega) (hR.fr f37) (e37_k0) (e37_k1) (e37_em36) (e37_k2) (e37_k3) (e37_k4) ((g37.i _ _ (by decide)).trans (u498)) (li_59) (by omega)) fun v Ma39 h39 => ?_
    obtain ⟨rv38, em38, rfl, g39, e39_em38, e39_k0, e39_k1, e39_k2, e39_k3, e39_k4, p39_0, p39_1⟩ := h39
    have f39 : Fr W_rp Mr Ma39 := Fr.t f37 (Fr.m g39 (by decide))
    refine rsr (cI_e rfl) ?_
    refine rsr (jv_e) ?_
    exact Rs.ok (Or.inr ⟨F8, P8, f35, f39, ⟨ti8, sz34, sn34, uc34, e35_k0, e35_k1, e35_k2, e35_k3, e35_sz34, e35_sn34, e35_uc34, by omega⟩, ⟨em38, rn8, ru8, rm8, rt8, e39_k0, e39_k1, e39_em38, e39_k2, e39_k3, e39_k4, (g39.i _ _ (by decide)).trans ((g37.i _ _ (by decide)).trans (u498)), by omega⟩⟩)
theorem p_st220 {D : Nat} {dp : Int} (hD : 20 ≤ D) (hE : Pair D 99 [0] 211 14 dp) : PairT 220 91 [.int (iI 28)] (D + 10) dp := by
  intro d d2 hd hd2 T n m kd pl E tx ua ut mu Mc Mr G U Hl X i e s u uc v0 hS hx hsc hsr hrw hbd hK hv0
  obtain ⟨d, rfl⟩ : ∃ e, d = e + 1 := ⟨d - 1, by omega⟩
  obtain ⟨d2, rfl⟩ : ∃ e, d2 = e + 1 := ⟨d2 - 1, by omega⟩
  show Rs (runX (d + 1) 91 [va_rf (some 65), .int (iI 28), .int v0] Mc) (runX (d2 + 1) 214 [va_rf (some 160)] Mr) _
  rw [r91]; unfold b91; rw [aR_e, aI_e, aI_e, aZ_e]; unfold c91; rw [r214]; unfold b214; rw [aR_e, aZ_e]; unfold c214
  have hCx := hx
  obtain ⟨hC, hR, hTk, hT, hW, ⟨hu1, hu2, hu3, hu4⟩, h49, h48, ⟨hb1, hb2, hb3, hb4⟩⟩ := hx
  obtain ⟨bb_0, bb_1, bb_2, bb_3, bb_4, bb_5, bb_6, bb_7, bb_8, bb_9, bb_10, bb_11⟩ := hbd
  have kua : KU uc Mc Mc := KU.r
  obtain ⟨qa_12, qa_13, qa_10, qa_9, qa_16, qa_19⟩ := hsc
  obtain ⟨wa_36, wa_37, wa_38, wa_41, wa_43, wa_51, wa_53, wa_50, wa_n⟩ := hsr
  obtain ⟨caa, raa, lca, lra, cua, rua⟩ := hrw
  have hk1 := (hS.ok i (by omega) (by omega)).r
  have ty2 := (Tye.r (G := G) (a := e) (s := s))
  have du3 := (DU.r (ut := ut) (mu := mu) (c := uc) (G := G) (U := U) (X := X) (a := e) (u := u))
  refine rsl (vC_e (ck_65 hC)) ?_
  have hm4 : i + 1 < m := hS.more i (by omega) (by omega) (by omega)
  refine rsl (cV_e (a63q (by omega) hS hC (hTk.fr (WL := W_cp) Fr.r (by decide)) (qa_12) (qa_13) (qa_10) (i2 := (i + 1)) (by omega) (by omega))) ?_
  have hk5 := (hS.ok (i + 1) (by omega) (by omega)).r
  refine rsl (vC_e (ck_65 hC.sI.sI)) ?_
  refine rsr (gtI_q (w := iI ((kr (kd i)))) (rk_160 hR) (wa_36)) ?_
  refine rsr (jn_v) ?_
  refine rsr (swI_c) ?_
  refine rsr (if_neg (krI_n (k := 215) (rfl) (li_416) (hS.ok i (by omega) (by omega)) (by unfold KdOK sgk; omega) (by decide +kernel) (by omega) (by omega))) ?_
  refine rsr (swI_c) ?_
  refine rsr (if_neg (krI_n (k := 216) (rfl) (li_417) (hS.ok i (by omega) (by omega)) (by unfold KdOK sgk; omega) (by decide +kernel) (by omega) (by omega))) ?_
  refine rsr (swI_c) ?_
  refine rsr (if_neg (krI_n (k := 217) (rfl) (li_418) (hS.ok i (by omega) (by omega)) (by unfold KdOK sgk; omega) (by decide +kernel) (by omega) (by omega))) ?_
  refine rsr (swI_c) ?_
  refine rsr (if_neg (krI_n (k := 218) (rfl) (li_419) (hS.ok i (by omega) (by omega)) (by unfold KdOK sgk; omega) (by decide +kernel) (by omega) (by omega))) ?_
  refine rsr (swI_c) ?_
  refine rsr (if_neg (krI_n (k := 219) (rfl) (li_420) (hS.ok i (by omega) (by omega)) (by unfold KdOK sgk; omega) (by decide +kernel) (by omega) (by omega))) ?_
  refine rsr (swI_c) ?_
  refine rsr (if_pos (krI_p (k := 220) (rfl) (li_421) (by omega) (by decide +kernel))) ?_
  refine rsr (gtI_q (w := iI ((kr (kd i)))) (rk_160 hR) (wa_36)) ?_
  refine rsr (jn_v) ?_
  refine rsr (if_neg (krI_n (k := 219) (rfl) (li_420) (hS.ok i (by omega) (by omega)) (by unfold KdOK sgk; omega) (by decide +kernel) (by omega) (by omega))) ?_
  refine rsr (gtI_q (w := iI ((kr (kd i)))) (rk_160 hR) (wa_36)) ?_
  refine rsr (if_pos (krI_p (k := 220) (rfl) (li_421) (by omega) (by decide +kernel))) ?_
  refine rsr (jv_e) ?_
  refine rsr (vC_e (rk_160 hR)) ?_
  refine RrV (nx_ok (by omega) hS hR (hT.fr (W := W_rx) Fr.r (by decide) (by decide)) (fun i a b => (Fr.lc (W := W_rx) Fr.r _ (by decide) _).trans (hW i a b)) (i := i) (wa_41) (wa_38) (by omega) (by omega)) fun v Ma7 h7 => ?_
  obtain ⟨g7, e7_k0, e7_k1, e7_k2, p7_0⟩ := h7
  have f7 : Fr W_rx Mr Ma7 := Fr.t Fr.r (Fr.m g7 (by decide))
  refine rsr (cV_e rfl) ?_
  refine rsr (vC_e (rk_160 (hR.fr f7))) ?_
  refine Rb_VV (hE _ _ (by omega) (by omega) T n m kd pl E tx ua ut mu _ _ G U Hl X (i + 1) e s u uc _ hS (hCx.fr (Fr.sI (by decide) (Fr.sI (by decide) Fr.r)) f7) ⟨(sI_nej (by decide)).trans (sI_eq), sI_eq, (sI_nej (by decide)).trans ((sI_nej (by decide)).trans (qa_10)), (sI_nej (by decide)).trans ((sI_nej (by decide)).trans (qa_9)), (sI_nej (by decide)).trans ((sI_nej (by decide)).trans (qa_16)), (sI_nej (by decide)).trans ((sI_nej (by decide)).trans (qa_19))⟩ ⟨e7_k0, e7_k1, e7_k2, (g7.i _ _ (by decide)).trans (wa_41), (g7.i _ _ (by decide)).trans (wa_43), (g7.i _ _ (by decide)).trans (wa_51), (g7.i _ _ (by decide)).trans (wa_53), (g7.i _ _ (by decide)).trans (wa_50), p7_0⟩ ⟨(caa.fr (W := W_c0) (Fr.sI (by decide) (Fr.sI (by decide) Fr.r)) (by decide)), (raa.fr g7 (by decide)), (lca.fr (W := W_c0) (Fr.sI (by decide) (Fr.sI (by decide) Fr.r)) (by decide)), (lra.fr g7 (by decide)), (cua.fr (W := W_c0) (Fr.sI (by decide) (Fr.sI (by decide) Fr.r)) (by decide)), (rua.fr g7 (by decide))⟩ ⟨by omega, by omega, by omega, by omega, by omega, by omega, by omega, by omega, by omega, by omega, by omega, by omega⟩ (vs2 (li_0) (hv0))) fun v Mx8 w Nx8 hx8 => ?_
  rcases hx8 with ⟨i8, e8, u8, uc8, G8, U8, X8, fl8, fr8, sc8, sr8, rw8, bd8, mv8, ag8, au8, ax8, tp8, dp8, kv8⟩ | ⟨F8, P8, fl8, fr8, tc8, tr8⟩
  ·
    have FL8 : Fr W_cp Mc Mx8 := Fr.t (Fr.sI (by decide) (Fr.sI (by decide) Fr.r)) fl8
    have FR8 : Fr W_rx Mr Nx8 := Fr.t f7 fr8
    obtain ⟨bb8_0, bb8_1, bb8_2, bb8_3, bb8_4, bb8_5, bb8_6, bb8_7, bb8_8, bb8_9, bb8_10, bb8_11⟩ := bd8
    obtain ⟨q8_12, q8_13, q8_10, q8_9, q8_16, q8_19⟩ := sc8
    obtain ⟨w8_36, w8_37, w8_38, w8_41, w8_43, w8_51, w8_53, w8_50, w8_n⟩ := sr8
    obtain ⟨ca8, ra8, lc8, lr8, cu8, ru8⟩ := rw8
    have hk9 := (hS.ok i8 (by omega) (by omega)).r
    have ku8 := KU.t (kua.fr (W := W_c0) (Fr.sI (by decide) (Fr.sI (by decide) Fr.r)) (by decide)) kv8 (by omega)
    have ty10 := Tye.t (d3 := 1) ty2 ag8 tp8 (by omega)
    have du11 := DU.t du3 ag8 au8 ax8 dp8 (by omega)
    refine rsl (cV_e rfl) ?_
    refine rsr (cV_e rfl) ?_
    refine rsl (vC_e (ck_65 (hC.fr FL8))) ?_
    by_cases c12 : ((kd i8)) = 59
    ·
      have hm13 : i8 + 1 < m := hS.more i8 (by omega) (by omega) (by omega)
      refine rsl (cV_e (a64q (by omega) hS (hC.fr FL8) (hTk.fr (WL := W_cp) FL8 (by decide)) (q8_12) (q8_13) (q8_10) (li_59) (i2 := (i8 + 1)) (by omega) (by omega))) ?_
      have hk14 := (hS.ok (i8 + 1) (by omega) (by omega)).r
      refine rsl (vC_e (ck_65 (hC.fr FL8).sI.sI)) ?_
      have tb16 := Tyb.ex (dp := dp) (d := 1) (s' := s) (q := (e8 + 1)) (n1 := 0) (ut := ut) (mu := mu) (l := []) ty10 (Or.inr (Or.inr (Or.inr (Or.inl (by omega)))) : Eff 28 0 0 1 s 0 s) (by omega) ⟨by omega, by omega⟩ (by omega)
      have du17 := DU.em (q := (e8 + 1)) (o := 28) (n := 0) (p := -2) (l := [0]) du11 (by omega) (by omega)
      refine RlI (a87 (by omega) (hC.fr FL8).sI.sI ((sI_nej (by decide)).trans ((sI_nej (by decide)).trans (q8_9))) (rfl) (li_0) (by omega)) fun v Ma18 h18 => ?_
      obtain ⟨r15, rfl, g18, e18_k0, p18_0, p18_1⟩ := h18
      have f18 : Fr W_cp Mc Ma18 := Fr.t (Fr.sI (by decide) (Fr.sI (by decide) FL8)) (Fr.m g18 (by decide))
      refine rsl (cI_e rfl) ?_
      refine rsr (vC_e (rk_160 (hR.fr FR8))) ?_
      refine RrI (a196 (by omega) (hR.fr FR8) (w8_43) ((FR8.i _ _ (by decide)).trans h49) ((FR8.i _ _ (by decide)).trans h48) (li_28) (li_0) (by omega)) fun v Ma20 h20 => ?_
      obtain ⟨r19, rfl, g20, e20_k0, p20_0, p20_1⟩ := h20
      have f20 : Fr W_rx Mr Ma20 := Fr.t FR8 (Fr.m g20 (by decide))
      refine rsr (cI_e rfl) ?_
      refine rsr (vC_e (rk_160 (hR.fr f20))) ?_
      refine RrI (a195_59 (by omega) hS (hR.fr f20) (hT.fr (W := W_rx) f20 (by decide) (by decide)) (fun i a b => (Fr.lc (W := W_rx) f20 _ (by decide) _).trans (hW i a b)) ((g20.i _ _ (by decide)).trans (w8_36)) ((g20.i _ _ (by decide)).trans (w8_37)) ((g20.i _ _ (by decide)).trans (w8_38)) ((g20.i _ _ (by decide)).trans (w8_41)) (li_59) (i2 := (i8 + 1)) (by omega) (by omega)) fun v Ma22 h22 => ?_
      obtain ⟨r21, rfl, g22, e22_k0, e22_k1, e22_k2, p22_0, p22_1⟩ := h22
      have f22 : Fr W_rx Mr Ma22 := Fr.t f20 (Fr.m g22 (by decide))
      refine rsr (cI_e rfl) ?_
      refine rsr (jv_e) ?_
      exact Rs.ok (Or.inl ⟨(i8 + 1), s, Hl, ⟨(e8 + 1), u8, uc8, (pu G8 e8 [28, 0, -2, 0, ut, mu, 0]), U8, X8, f18, f22, ⟨(g18.i _ _ (by decide)).trans ((sI_nej (by decide)).trans (sI_eq)), (g18.i _ _ (by decide)).trans (sI_eq), (g18.i _ _ (by decide)).trans ((sI_nej (by decide)).trans ((sI_nej (by decide)).trans (q8_10))), e18_k0, (g18.i _ _ (by decide)).trans ((sI_nej (by decide)).trans ((sI_nej (by decide)).trans (q8_16))), (g18.i _ _ (by decide)).trans ((sI_nej (by decide)).trans ((sI_nej (by decide)).trans (q8_19)))⟩, ⟨e22_k0, e22_k1, e22_k2, (g22.i _ _ (by decide)).trans ((g20.i _ _ (by decide)).trans (w8_41)), (g22.i _ _ (by decide)).trans (e20_k0), (g22.i _ _ (by decide)).trans ((g20.i _ _ (by decide)).trans (w8_51)), (g22.i _ _ (by decide)).trans ((g20.i _ _ (by decide)).trans (w8_53)), (g22.i _ _ (by decide)).trans ((g20.i _ _ (by decide)).trans (w8_50)), p22_1⟩, ⟨(CA1.em (ca8.fr (W := W_c0) (Fr.sI (by decide) (Fr.sI (by decide) Fr.r)) (by decide)) (by omega) p18_1 rfl), ((RA1.em ra8 (by omega) p20_1 rfl).fr g22 (by decide)), ((lc8.fr (W := W_c0) (Fr.sI (by decide) (Fr.sI (by decide) Fr.r)) (by decide)).fr g18 (by decide)), ((lr8.fr g20 (by decide)).fr g22 (by decide)), ((cu8.fr (W := W_c0) (Fr.sI (by decide) (Fr.sI (by decide) Fr.r)) (by decide)).fr g18 (by decide)), ((ru8.fr g20 (by decide)).fr g22 (by decide))⟩, ⟨by omega, by omega, by omega, by omega, by omega, by omega, by omega, by omega, by omega, by omega, by omega, by omega⟩, ⟨by omega, by omega, by omega, by omega, by omega, by omega⟩, (Ag.pu (Ag.t Ag.r ag8 (by omega)) (by omega)), (Ag.t Ag.r au8 (by omega)), (AgL.t AgL.r ax8 (by omega)), tb16, du17, ((ku8.fr (W := W_c0) (Fr.sI (by decide) (Fr.sI (by decide) Fr.r)) (by decide)).fr g18 (by decide)), ⟨by omega, fun _ _ _ => rfl⟩⟩⟩)
    ·
      by_cases c23 : ((kd i8)) = 1
      ·
        refine rsl (cV_e (a64_1 (by omega) hS (hC.fr FL8) (hTk.fr (WL := W_cp) FL8 (by decide)) (q8_12) (q8_13) (q8_10) (li_59) (by omega))) ?_
        refine rsl (vC_e (ck_65 (hC.fr FL8).sI.sI.sI)) ?_
        refine RlI (y87 (by omega) (hC.fr FL8).sI.sI.sI (hTk.fr (WL := W_cp) (Fr.sI (by decide) (Fr.sI (by decide) (Fr.sI (by decide) FL8))) (by decide)) ((sI_nej (by decide)).trans ((sI_nej (by decide)).trans ((sI_nej (by decide)).trans (q8_12)))) (sI_eq) ((sI_nej (by decide)).trans ((sI_nej (by decide)).trans (sI_eq))) ((sI_nej (by decide)).trans (sI_eq)) ((sI_nej (by decide)).trans ((sI_nej (by decide)).trans ((sI_nej (by decide)).trans (q8_9)))) ((sI_nej (by decide)).trans ((sI_nej (by decide)).trans ((sI_nej (by decide)).trans (q8_16)))) ((sI_nej (by decide)).trans ((sI_nej (by decide)).trans ((sI_nej (by decide)).trans (q8_19)))) (rfl) (li_0) (by omega)) fun v Ma25 h25 => ?_
        obtain ⟨rv24, sz24, sn24, uc24, rfl, g25, e25_sz24, e25_sn24, e25_uc24, e25_k0, e25_k1, e25_k2, e25_k3, p25_0, p25_1, p25_2, p25_3⟩ := h25
        have f25 : Fr W_cp Mc Ma25 := Fr.t (Fr.sI (by decide) (Fr.sI (by decide) (Fr.sI (by decide) FL8))) (Fr.m g25 (by decide))
        refine rsl (cI_e rfl) ?_
        refine rsr (vC_e (rk_160 (hR.fr FR8))) ?_
        refine RrI (a196 (by omega) (hR.fr FR8) (w8_43) ((FR8.i _ _ (by decide)).trans h49) ((FR8.i _ _ (by decide)).trans h48) (li_28) (li_0) (by omega)) fun v Ma27 h27 => ?_
        obtain ⟨r26, rfl, g27, e27_k0, p27_0, p27_1⟩ := h27
        have f27 : Fr W_rx Mr Ma27 := Fr.t FR8 (Fr.m g27 (by decide))
        refine rsr (cI_e rfl) ?_
        refine rsr (vC_e (rk_160 (hR.fr f27))) ?_
        refine rsr (cI_e (a195_59_1 (by omega) hS (hR.fr f27) ((g27.i _ _ (by decide)).trans (w8_36)) ((g27.i _ _ (by decide)).trans (w8_37)) ((g27.i _ _ (by decide)).trans (w8_41)) (li_59) (by omega))) ?_
        refine rsr (jv_e) ?_
        exact Rs.ok (Or.inr ⟨1, ((pl i8)), f25, (Fr.sI (by decide) (Fr.sI (by decide) (Fr.m f27 (by decide)))), ⟨i8, sz24, sn24, uc24, e25_k0, e25_k1, e25_k2, e25_k3, e25_sz24, e25_sn24, e25_uc24, by omega⟩, ⟨(e8 + 1), s, u8, mu, ut, (sI_nej (by decide)).trans (sI_eq), sI_eq, (sI_nej (by decide)).trans ((sI_nej (by decide)).trans (e27_k0)), (sI_nej (by decide)).trans ((sI_nej (by decide)).trans ((g27.i _ _ (by decide)).trans (w8_51))), (sI_nej (by decide)).trans ((sI_nej (by decide)).trans ((g27.i _ _ (by decide)).trans (w8_53))), (sI_nej (by decide)).trans ((sI_nej (by decide)).trans ((g27.i _ _ (by decide)).trans ((FR8.i _ _ (by decide)).trans h48))), (sI_nej (by decide)).trans ((sI_nej (by decide)).trans ((g27.i _ _ (by decide)).trans ((FR8.i _ _ (by decide)).trans h49))), by omega⟩⟩)
      ·
        refine rsl (cV_e (a64_2 (by omega) hS (hC.fr FL8) (hTk.fr (WL := W_cp) FL8 (by decide)) (q8_12) (q8_13) (q8_10) (li_59) (by omega))) ?_
        refine rsl (vC_e (ck_65 (hC.fr FL8).sI.sI.sI)) ?_
        refine RlI (y87 (by omega) (hC.fr FL8).sI.sI.sI (hTk.fr (WL := W_cp) (Fr.sI (by decide) (Fr.sI (by decide) (Fr.sI (by decide) FL8))) (by decide)) ((sI_nej (by decide)).trans ((sI_nej (by decide)).trans ((sI_nej (by decide)).trans (q8_12)))) (sI_eq) ((sI_nej (by decide)).trans ((sI_nej (by decide)).trans (sI_eq))) ((sI_nej (by decide)).trans (sI_eq)) ((sI_nej (by decide)).trans ((sI_nej (by decide)).trans ((sI_nej (by decide)).trans (q8_9)))) ((sI_nej (by decide)).trans ((sI_nej (by decide)).trans ((sI_nej (by decide)).trans (q8_16)))) ((sI_nej (by decide)).trans ((sI_nej (by decide)).trans ((sI_nej (by decide)).trans (q8_19)))) (rfl) (li_0) (by omega)) fun v Ma29 h29 => ?_
        obtain ⟨rv28, sz28, sn28, uc28, rfl, g29, e29_sz28, e29_sn28, e29_uc28, e29_k0, e29_k1, e29_k2, e29_k3, p29_0, p29_1, p29_2, p29_3⟩ := h29
        have f29 : Fr W_cp Mc Ma29 := Fr.t (Fr.sI (by decide) (Fr.sI (by decide) (Fr.sI (by decide) FL8))) (Fr.m g29 (by decide))
        refine rsl (cI_e rfl) ?_
        refine rsr (vC_e (rk_160 (hR.fr FR8))) ?_
        refine RrI (a196 (by omega) (hR.fr FR8) (w8_43) ((FR8.i _ _ (by decide)).trans h49) ((FR8.i _ _ (by decide)).trans h48) (li_28) (li_0) (by omega)) fun v Ma31 h31 => ?_
        obtain ⟨r30, rfl, g31, e31_k0, p31_0, p31_1⟩ := h31
        have f31 : Fr W_rx Mr Ma31 := Fr.t FR8 (Fr.m g31 (by decide))
        refine rsr (cI_e rfl) ?_
        refine rsr (vC_e (rk_160 (hR.fr f31))) ?_
        refine rsr (cI_e (a195_59_2 (by omega) hS (hR.fr f31) ((g31.i _ _ (by decide)).trans (w8_36)) ((g31.i _ _ (by decide)).trans (w8_37)) ((g31.i _ _ (by decide)).trans (w8_41)) (li_59) (by omega))) ?_
        refine rsr (jv_e) ?_
        exact Rs.ok (Or.inr ⟨2, ((pl i8)), f29, (Fr.sI (by decide) (Fr.sI (by decide) (Fr.m f31 (by decide)))), ⟨i8, sz28, sn28, uc28, e29_k0, e29_k1, e29_k2, e29_k3, e29_sz28, e29_sn28, e29_uc28, by omega⟩, ⟨(e8 + 1), s, u8, mu, ut, (sI_nej (by decide)).trans (sI_eq), sI_eq, (sI_nej (by decide)).trans ((sI_nej (by decide)).trans (e31_k0)), (sI_nej (by decide)).trans ((sI_nej (by decide)).trans ((g31.i _ _ (by decide)).trans (w8_51))), (sI_nej (by decide)).trans ((sI_nej (by decide)).trans ((g31.i _ _ (by decide)).trans (w8_53))), (sI_nej (by decide)).trans ((sI_nej (by decide)).trans ((g31.i _ _ (by decide)).trans ((FR8.i _ _ (by decide)).trans h48))), (sI_nej (by decide)).trans ((sI_nej (by decide)).trans ((g31.i _ _ (by decide)).trans ((FR8.i _ _ (by decide)).trans h49))), by omega⟩⟩)
  ·
    have FL8 : Fr W_cp Mc Mx8 := Fr.t (Fr.sI (by decide) (Fr.sI (by decide) Fr.r)) fl8
    have FR8 : Fr W_rp Mr Nx8 := Fr.t (Fr.m f7 W_rx_p) fr8
    obtain ⟨ti8, tz8, tn8, tu8, t138, t108, t118, t128, t98, t168, t198, tb8⟩ := tc8
    obtain ⟨re8, rn8, ru8, rm8, rt8, u418, u428, u438, u518, u538, u488, u498, ub8⟩ := tr8
    refine rsl (cV_e rfl) ?_
    refine rsr (cV_e rfl) ?_
    refine rsl (vC_e (ck_65 (hC.fr FL8))) ?_
    refine RlV (y64 (by omega) (hC.fr FL8) (hTk.fr (WL := W_cp) FL8 (by decide)) (t128) (t138) (t108) (t118) (t98) (t168) (t198) (li_59) (by omega)) fun v Ma33 h33 => ?_
    obtain ⟨sz32, sn32, uc32, g33, e33_sz32, e33_sn32, e33_uc32, e33_k0, e33_k1, e33_k2, e33_k3, p33_0, p33_1, p33_2⟩ := h33
    have f33 : Fr W_cp Mc Ma33 := Fr.t FL8 (Fr.m g33 (by decide))
    refine rsl (cV_e rfl) ?_
    refine rsl (vC_e (ck_65 (hC.fr f33))) ?_
    refine RlI (y87 (by omega) (hC.fr f33) (hTk.fr (WL := W_cp) f33 (by decide)) (e33_k3) (e33_k0) (e33_k1) (e33_k2) (e33_sz32) (e33_sn32) (e33_uc32) (rfl) (li_0) (by omega)) fun v Ma35 h35 => ?_
    obtain ⟨rv34, sz34, sn34, uc34, rfl, g35, e35_sz34, e35_sn34, e35_uc34, e35_k0, e35_k1, e35_k2, e35_k3, p35_0, p35_1, p35_2, p35_3⟩ := h35
    have f35 : Fr W_cp Mc Ma35 := Fr.t f33 (Fr.m g35 (by decide))
    refine rsl (cI_e rfl) ?_
    refine rsr (vC_e (rk_160 (hR.fr FR8))) ?_
    refine RrI (x196_s (by omega) (hR.fr FR8) (u418) (u428) (u438) (u518) (u538) (u488) (u498) (li_28) (li_0) (by omega)) fun v Ma37 h37 => ?_
    obtain ⟨rv36, em36, rfl, g37, e37_em36, e37_k0, e37_k1, e37_k2, e37_k3, e37_k4, p37_0, p37_1⟩ := h37
    have f37 : Fr W_rp Mr Ma37 := Fr.t FR8 (Fr.m g37 (by decide))
    refine rsr (cI_e rfl) ?_
    refine rsr (vC_e (rk_160 (hR.fr f37))) ?_
    refine RrI (x195_s (by omega) (hR.fr f37) (e37_k0) (e37_k1) (e37_em36) (e37_k2) (e37_k3) (e37_k4) ((g37.i _ _ (by decide)).trans (u498)) (li_59) (by omega)) fun v Ma39 h39 => ?_
    obtain ⟨rv38, em38, rfl, g39, e39_em38, e39_k0, e39_k1, e39_k2, e39_k3, e39_k4, p39_0, p39_1⟩ := h39
    have f39 : Fr W_rp Mr Ma39 := Fr.t f37 (Fr.m g39 (by decide))
    refine rsr (cI_e rfl) ?_
    refine rsr (jv_e) ?_
    exact Rs.ok (Or.inr ⟨F8, P8, f35, f39, ⟨ti8, sz34, sn34, uc34, e35_k0, e35_k1, e35_k2, e35_k3, e35_sz34, e35_sn34, e35_uc34, by omega⟩, ⟨em38, rn8, ru8, rm8, rt8, e39_k0, e39_k1, e39_em38, e39_k2, e39_k3, e39_k4, (g39.i _ _ (by decide)).trans ((g37.i _ _ (by decide)).trans (u498)), by omega⟩⟩)
theorem p_st221 {D : Nat} {dp : Int} (hD : 20 ≤ D) (hE : Pair D 99 [0] 211 14 dp) : PairT 221 91 [.int (iI 29)] (D + 10) dp := by
  intro d d2 hd hd2 T n m kd pl E tx ua ut mu Mc Mr G U Hl X i e s u uc v0 hS hx hsc hsr hrw hbd hK hv0
  obtain ⟨d, rfl⟩ : ∃ e, d = e + 1 := ⟨d - 1, by omega⟩
  obtain ⟨d2, rfl⟩ : ∃ e, d2 = e + 1 := ⟨d2 - 1, by omega⟩
  show Rs (runX (d + 1) 91 [va_rf (some 65), .int (iI 29), .int v0] Mc) (runX (d2 + 1) 214 [va_rf (some 160)] Mr) _
  rw [r91]; unfold b91; rw [aR_e, aI_e, aI_e, aZ_e]; unfold c91; rw [r214]; unfold b214; rw [aR_e, aZ_e]; unfold c214
  have hCx := hx
  obtain ⟨hC, hR, hTk, hT, hW, ⟨hu1, hu2, hu3, hu4⟩, h49, h48, ⟨hb1, hb2, hb3, hb4⟩⟩ := hx
  obtain ⟨bb_0, bb_1, bb_2, bb_3, bb_4, bb_5, bb_6, bb_7, bb_8, bb_9, bb_10, bb_11⟩ := hbd
  have kua : KU uc Mc Mc := KU.r
  obtain ⟨qa_12, qa_13, qa_10, qa_9, qa_16, qa_19⟩ := hsc
  obtain ⟨wa_36, wa_37, wa_38, wa_41, wa_43, wa_51, wa_53, wa_50, wa_n⟩ := hsr
  obtain ⟨caa, raa, lca, lra, cua, rua⟩ := hrw
  have hk1 := (hS.ok i (by omega) (by omega)).r
  have ty2 := (Tye.r (G := G) (a := e) (s := s))
  have du3 := (DU.r (ut := ut) (mu := mu) (c := uc) (G := G) (U := U) (X := X) (a := e) (u := u))
  refine rsl (vC_e (ck_65 hC)) ?_
  have hm4 : i + 1 < m := hS.more i (by omega) (by omega) (by omega)
  refine rsl (cV_e (a63q (by omega) hS hC (hTk.fr (WL := W_cp) Fr.r (by decide)) (qa_12) (qa_13) (qa_10) (i2 := (i + 1)) (by omega) (by omega))) ?_
  have hk5 := (hS.ok (i + 1) (by omega) (by omega)).r
  refine rsl (vC_e (ck_65 hC.sI.sI)) ?_
  refine rsr (gtI_q (w := iI ((kr (kd i)))) (rk_160 hR) (wa_36)) ?_
  refine rsr (jn_v) ?_
  refine rsr (swI_c) ?_
  refine rsr (if_neg (krI_n (k := 215) (rfl) (li_416) (hS.ok i (by omega) (by omega)) (by unfold KdOK sgk; omega) (by decide +kernel) (by omega) (by omega))) ?_
  refine rsr (swI_c) ?_
  refine rsr (if_neg (krI_n (k := 216) (rfl) (li_417) (hS.ok i (by omega) (by omega)) (by unfold KdOK sgk; omega) (by decide +kernel) (by omega) (by omega))) ?_
  refine rsr (swI_c) ?_
  refine rsr (if_neg (krI_n (k := 217) (rfl) (li_418) (hS.ok i (by omega) (by omega)) (by unfold KdOK sgk; omega) (by decide +kernel) (by omega) (by omega))) ?_
  refine rsr (swI_c) ?_
  refine rsr (if_neg (krI_n (k := 218) (rfl) (li_419) (hS.ok i (by omega) (by omega)) (by unfold KdOK sgk; omega) (by decide +kernel) (by omega) (by omega))) ?_
  refine rsr (swI_c) ?_
  refine rsr (if_neg (krI_n (k := 219) (rfl) (li_420) (hS.ok i (by omega) (by omega)) (by unfold KdOK sgk; omega) (by decide +kernel) (by omega) (by omega))) ?_
  refine rsr (swI_c) ?_
  refine rsr (if_neg (krI_n (k := 220) (rfl) (li_421) (hS.ok i (by omega) (by omega)) (by unfold KdOK sgk; omega) (by decide +kernel) (by omega) (by omega))) ?_
  refine rsr (swI_c) ?_
  refine rsr (if_pos (krI_p (k := 221) (rfl) (li_422) (by omega) (by decide +kernel))) ?_
  refine rsr (gtI_q (w := iI ((kr (kd i)))) (rk_160 hR) (wa_36)) ?_
  refine rsr (jn_v) ?_
  refine rsr (if_neg (krI_n (k := 219) (rfl) (li_420) (hS.ok i (by omega) (by omega)) (by unfold KdOK sgk; omega) (by decide +kernel) (by omega) (by omega))) ?_
  refine rsr (gtI_q (w := iI ((kr (kd i)))) (rk_160 hR) (wa_36)) ?_
  refine rsr (if_neg (krI_n (k := 220) (rfl) (li_421) (hS.ok i (by omega) (by omega)) (by unfold KdOK sgk; omega) (by decide +kernel) (by omega) (by omega))) ?_
  refine rsr (jv_e) ?_
  refine rsr (vC_e (rk_160 hR)) ?_
  refine RrV (nx_ok (by omega) hS hR (hT.fr (W := W_rx) Fr.r (by decide) (by decide)) (fun i a b => (Fr.lc (W := W_rx) Fr.r _ (by decide) _).trans (hW i a b)) (i := i) (wa_41) (wa_38) (by omega) (by omega)) fun v Ma7 h7 => ?_
  obtain ⟨g7, e7_k0, e7_k1, e7_k2, p7_0⟩ := h7
  have f7 : Fr W_rx Mr Ma7 := Fr.t Fr.r (Fr.m g7 (by decide))
  refine rsr (cV_e rfl) ?_
  refine rsr (vC_e (rk_160 (hR.fr f7))) ?_
  refine Rb_VV (hE _ _ (by omega) (by omega) T n m kd pl E tx ua ut mu _ _ G U Hl X (i + 1) e s u uc _ hS (hCx.fr (Fr.sI (by decide) (Fr.sI (by decide) Fr.r)) f7) ⟨(sI_nej (by decide)).trans (sI_eq), sI_eq, (sI_nej (by decide)).trans ((sI_nej (by decide)).trans (qa_10)), (sI_nej (by decide)).trans ((sI_nej (by decide)).trans (qa_9)), (sI_nej (by decide)).trans ((sI_nej (by decide)).trans (qa_16)), (sI_nej (by decide)).trans ((sI_nej (by decide)).trans (qa_19))⟩ ⟨e7_k0, e7_k1, e7_k2, (g7.i _ _ (by decide)).trans (wa_41), (g7.i _ _ (by decide)).trans (wa_43), (g7.i _ _ (by decide)).trans (wa_51), (g7.i _ _ (by decide)).trans (wa_53), (g7.i _ _ (by decide)).trans (wa_50), p7_0⟩ ⟨(caa.fr (W := W_c0) (Fr.sI (by decide) (Fr.sI (by decide) Fr.r)) (by decide)), (raa.fr g7 (by decide)), (lca.fr (W := W_c0) (Fr.sI (by decide) (Fr.sI (by decide) Fr.r)) (by decide)), (lra.fr g7 (by decide)), (cua.fr (W := W_c0) (Fr.sI (by decide) (Fr.sI (by decide) Fr.r)) (by decide)), (rua.fr g7 (by decide))⟩ ⟨by omega, by omega, by omega, by omega, by omega, by omega, by omega, by omega, by omega, by omega, by omega, by omega⟩ (vs2 (li_0) (hv0))) fun v Mx8 w Nx8 hx8 => ?_
  rcases hx8 with ⟨i8, e8, u8, uc8, G8, U8, X8, fl8, fr8, sc8, sr8, rw8, bd8, mv8, ag8, au8, ax8, tp8, dp8, kv8⟩ | ⟨F8, P8, fl8, fr8, tc8, tr8⟩
  ·
    have FL8 : Fr W_cp Mc Mx8 := Fr.t (Fr.sI (by decide) (Fr.sI (by decide) Fr.r)) fl8
    have FR8 : Fr W_rx Mr Nx8 := Fr.t f7 fr8
    obtain ⟨bb8_0, bb8_1, bb8_2, bb8_3, bb8_4, bb8_5, bb8_6, bb8_7, bb8_8, bb8_9, bb8_10, bb8_11⟩ := bd8
    obtain ⟨q8_12, q8_13, q8_10, q8_9, q8_16, q8_19⟩ := sc8
    obtain ⟨w8_36, w8_37, w8_38, w8_41, w8_43, w8_51, w8_53, w8_50, w8_n⟩ := sr8
    obtain ⟨ca8, ra8, lc8, lr8, cu8, ru8⟩ := rw8
    have hk9 := (hS.ok i8 (by omega) (by omega)).r
    have ku8 := KU.t (kua.fr (W := W_c0) (Fr.sI (by decide) (Fr.sI (by decide) Fr.r)) (by decide)) kv8 (by omega)
    have ty10 := Tye.t (d3 := 1) ty2 ag8 tp8 (by omega)
    have du11 := DU.t du3 ag8 au8 ax8 dp8 (by omega)
    refine rsl (cV_e rfl) ?_
    refine rsr (cV_e rfl) ?_
    refine rsl (vC_e (ck_65 (hC.fr FL8))) ?_
    by_cases c12 : ((kd i8)) = 59
    ·
      have hm13 : i8 + 1 < m := hS.more i8 (by omega) (by omega) (by omega)
      refine rsl (cV_e (a64q (by omega) hS (hC.fr FL8) (hTk.fr (WL := W_cp) FL8 (by decide)) (q8_12) (q8_13) (q8_10) (li_59) (i2 := (i8 + 1)) (by omega) (by omega))) ?_
      have hk14 := (hS.ok (i8 + 1) (by omega) (by omega)).r
      refine rsl (vC_e (ck_65 (hC.fr FL8).sI.sI)) ?_
      have tb16 := Tyb.ex (dp := dp) (d := 1) (s' := s) (q := (e8 + 1)) (n1 := 0) (ut := ut) (mu := mu) (l := []) ty10 (Or.inr (Or.inr (Or.inr (Or.inl (by omega)))) : Eff 29 0 0 1 s 0 s) (by omega) ⟨by omega, by omega⟩ (by omega)
      have du17 := DU.em (q := (e8 + 1)) (o := 29) (n := 0) (p := -2) (l := [0]) du11 (by omega) (by omega)
      refine RlI (a87 (by omega) (hC.fr FL8).sI.sI ((sI_nej (by decide)).trans ((sI_nej (by decide)).trans (q8_9))) (rfl) (li_0) (by omega)) fun v Ma18 h18 => ?_
      obtain ⟨r15, rfl, g18, e18_k0, p18_0, p18_1⟩ := h18
      have f18 : Fr W_cp Mc Ma18 := Fr.t (Fr.sI (by decide) (Fr.sI (by decide) FL8)) (Fr.m g18 (by decide))
      refine rsl (cI_e rfl) ?_
      refine rsr (vC_e (rk_160 (hR.fr FR8))) ?_
      refine RrI (a196 (by omega) (hR.fr FR8) (w8_43) ((FR8.i _ _ (by decide)).trans h49) ((FR8.i _ _ (by decide)).trans h48) (li_29) (li_0) (by omega)) fun v Ma20 h20 => ?_
      obtain ⟨r19, rfl, g20, e20_k0, p20_0, p20_1⟩ := h20
      have f20 : Fr W_rx Mr Ma20 := Fr.t FR8 (Fr.m g20 (by decide))
      refine rsr (cI_e rfl) ?_
      refine rsr (vC_e (rk_160 (hR.fr f20))) ?_
      refine RrI (a195_59 (by omega) hS (hR.fr f20) (hT.fr (W := W_rx) f20 (by decide) (by decide)) (fun i a b => (Fr.lc (W := W_rx) f20 _ (by decide) _).trans (hW i a b)) ((g20.i _ _ (by decide)).trans (w8_36)) ((g20.i _ _ (by decide)).trans (w8_37)) ((g20.i _ _ (by decide)).trans (w8_38)) ((g20.i _ _ (by decide)).trans (w8_41)) (li_59) (i2 := (i8 + 1)) (by omega) (by omega)) fun v Ma22 h22 => ?_
      obtain ⟨r21, rfl, g22, e22_k0, e22_k1, e22_k2, p22_0, p22_1⟩ := h22
      have f22 : Fr W_rx Mr Ma22 := Fr.t f20 (Fr.m g22 (by decide))
      refine rsr (cI_e rfl) ?_
      refine rsr (jv_e) ?_
      exact Rs.ok (Or.inl ⟨(i8 + 1), s, Hl, ⟨(e8 + 1), u8, uc8, (pu G8 e8 [29, 0, -2, 0, ut, mu, 0]), U8, X8, f18, f22, ⟨(g18.i _ _ (by decide)).trans ((sI_nej (by decide)).trans (sI_eq)), (g18.i _ _ (by decide)).trans (sI_eq), (g18.i _ _ (by decide)).trans ((sI_nej (by decide)).trans ((sI_nej (by decide)).trans (q8_10))), e18_k0, (g18.i _ _ (by decide)).trans ((sI_nej (by decide)).trans ((sI_nej (by decide)).trans (q8_16))), (g18.i _ _ (by decide)).trans ((sI_nej (by decide)).trans ((sI_nej (by decide)).trans (q8_19)))⟩, ⟨e22_k0, e22_k1, e22_k2, (g22.i _ _ (by decide)).trans ((g20.i _ _ (by decide)).trans (w8_41)), (g22.i _ _ (by decide)).trans (e20_k0), (g22.i _ _ (by decide)).trans ((g20.i _ _ (by decide)).trans (w8_51)), (g22.i _ _ (by decide)).trans ((g20.i _ _ (by decide)).trans (w8_53)), (g22.i _ _ (by decide)).trans ((g20.i _ _ (by decide)).trans (w8_50)), p22_1⟩, ⟨(CA1.em (ca8.fr (W := W_c0) (Fr.sI (by decide) (Fr.sI (by decide) Fr.r)) (by decide)) (by omega) p18_1 rfl), ((RA1.em ra8 (by omega) p20_1 rfl).fr g22 (by decide)), ((lc8.fr (W := W_c0) (Fr.sI (by decide) (Fr.sI (by decide) Fr.r)) (by decide)).fr g18 (by decide)), ((lr8.fr g20 (by decide)).fr g22 (by decide)), ((cu8.fr (W := W_c0) (Fr.sI (by decide) (Fr.sI (by decide) Fr.r)) (by decide)).fr g18 (by decide)), ((ru8.fr g20 (by decide)).fr g22 (by decide))⟩, ⟨by omega, by omega, by omega, by omega, by omega, by omega, by omega, by omega, by omega, by omega, by omega, by omega⟩, ⟨by omega, by omega, by omega, by omega, by omega, by omega⟩, (Ag.pu (Ag.t Ag.r ag8 (by omega)) (by omega)), (Ag.t Ag.r au8 (by omega)), (AgL.t AgL.r ax8 (by omega)), tb16, du17, ((ku8.fr (W := W_c0) (Fr.sI (by decide) (Fr.sI (by decide) Fr.r)) (by decide)).fr g18 (by decide)), ⟨by omega, fun _ _ _ => rfl⟩⟩⟩)
    ·
      by_cases c23 : ((kd i8)) = 1
      ·
        refine rsl (cV_e (a64_1 (by omega) hS (hC.fr FL8) (hTk.fr (WL := W_cp) FL8 (by decide)) (q8_12) (q8_13) (q8_10) (li_59) (by omega))) ?_
        refine rsl (vC_e (ck_65 (hC.fr FL8).sI.sI.sI)) ?_
        refine RlI (y87 (by omega) (hC.fr FL8).sI.sI.sI (hTk.fr (WL := W_cp) (Fr.sI (by decide) (Fr.sI (by decide) (Fr.sI (by decide) FL8))) (by decide)) ((sI_nej (by decide)).trans ((sI_nej (by decide)).trans ((sI_nej (by decide)).trans (q8_12)))) (sI_eq) ((sI_nej (by decide)).trans ((sI_nej (by decide)).trans (sI_eq))) ((sI_nej (by decide)).trans (sI_eq)) ((sI_nej (by decide)).trans ((sI_nej (by decide)).trans ((sI_nej (by decide)).trans (q8_9)))) ((sI_nej (by decide)).trans ((sI_nej (by decide)).trans ((sI_nej (by decide)).trans (q8_16)))) ((sI_nej (by decide)).trans ((sI_nej (by decide)).trans ((sI_nej (by decide)).trans (q8_19)))) (rfl) (li_0) (by omega)) fun v Ma25 h25 => ?_
        obtain ⟨rv24, sz24, sn24, uc24, rfl, g25, e25_sz24, e25_sn24, e25_uc24, e25_k0, e25_k1, e25_k2, e25_k3, p25_0, p25_1, p25_2, p25_3⟩ := h25
        have f25 : Fr W_cp Mc Ma25 := Fr.t (Fr.sI (by decide) (Fr.sI (by decide) (Fr.sI (by decide) FL8))) (Fr.m g25 (by decide))
        refine rsl (cI_e rfl) ?_
        refine rsr (vC_e (rk_160 (hR.fr FR8))) ?_
        refine RrI (a196 (by omega) (hR.fr FR8) (w8_43) ((FR8.i _ _ (by decide)).trans h49) ((FR8.i _ _ (by decide)).trans h48) (li_29) (li_0) (by omega)) fun v Ma27 h27 => ?_
        obtain ⟨r26, rfl, g27, e27_k0, p27_0, p27_1⟩ := h27
        have f27 : Fr W_rx Mr Ma27 := Fr.t FR8 (Fr.m g27 (by decide))
        refine rsr (cI_e rfl) ?_
        refine rsr (vC_e (rk_160 (hR.fr f27))) ?_
        refine rsr (cI_e (a195_59_1 (by omega) hS (hR.fr f27) ((g27.i _ _ (by decide)).trans (w8_36)) ((g27.i _ _ (by decide)).trans (w8_37)) ((g27.i _ _ (by decide)).trans (w8_41)) (li_59) (by omega))) ?_
        refine rsr (jv_e) ?_
        exact Rs.ok (Or.inr ⟨1, ((pl i8)), f25, (Fr.sI (by decide) (Fr.sI (by decide) (Fr.m f27 (by decide)))), ⟨i8, sz24, sn24, uc24, e25_k0, e25_k1, e25_k2, e25_k3, e25_sz24, e25_sn24, e25_uc24, by omega⟩, ⟨(e8 + 1), s, u8, mu, ut, (sI_nej (by decide)).trans (sI_eq), sI_eq, (sI_nej (by decide)).trans ((sI_nej (by decide)).trans (e27_k0)), (sI_nej (by decide)).trans ((sI_nej (by decide)).trans ((g27.i _ _ (by decide)).trans (w8_51))), (sI_nej (by decide)).trans ((sI_nej (by decide)).trans ((g27.i _ _ (by decide)).trans (w8_53))), (sI_nej (by decide)).trans ((sI_nej (by decide)).trans ((g27.i _ _ (by decide)).trans ((FR8.i _ _ (by decide)).trans h48))), (sI_nej (by decide)).trans ((sI_nej (by decide)).trans ((g27.i _ _ (by decide)).trans ((FR8.i _ _ (by decide)).trans h49))), by omega⟩⟩)
      ·
        refine rsl (cV_e (a64_2 (by omega) hS (hC.fr FL8) (hTk.fr (WL := W_cp) FL8 (by decide)) (q8_12) (q8_13) (q8_10) (li_59) (by omega))) ?_
        refine rsl (vC_e (ck_65 (hC.fr FL8).sI.sI.sI)) ?_
        refine RlI (y87 (by omega) (hC.fr FL8).sI.sI.sI (hTk.fr (WL := W_cp) (Fr.sI (by decide) (Fr.sI (by decide) (Fr.sI (by decide) FL8))) (by decide)) ((sI_nej (by decide)).trans ((sI_nej (by decide)).trans ((sI_nej (by decide)).trans (q8_12)))) (sI_eq) ((sI_nej (by decide)).trans ((sI_nej (by decide)).trans (sI_eq))) ((sI_nej (by decide)).trans (sI_eq)) ((sI_nej (by decide)).trans ((sI_nej (by decide)).trans ((sI_nej (by decide)).trans (q8_9)))) ((sI_nej (by decide)).trans ((sI_nej (by decide)).trans ((sI_nej (by decide)).trans (q8_16)))) ((sI_nej (by decide)).trans ((sI_nej (by decide)).trans ((sI_nej (by decide)).trans (q8_19)))) (rfl) (li_0) (by omega)) fun v Ma29 h29 => ?_
        obtain ⟨rv28, sz28, sn28, uc28, rfl, g29, e29_sz28, e29_sn28, e29_uc28, e29_k0, e29_k1, e29_k2, e29_k3, p29_0, p29_1, p29_2, p29_3⟩ := h29
        have f29 : Fr W_cp Mc Ma29 := Fr.t (Fr.sI (by decide) (Fr.sI (by decide) (Fr.sI (by decide) FL8))) (Fr.m g29 (by decide))
        refine rsl (cI_e rfl) ?_
        refine rsr (vC_e (rk_160 (hR.fr FR8))) ?_
        refine RrI (a196 (by omega) (hR.fr FR8) (w8_43) ((FR8.i _ _ (by decide)).trans h49) ((FR8.i _ _ (by decide)).trans h48) (li_29) (li_0) (by omega)) fun v Ma31 h31 => ?_
        obtain ⟨r30, rfl, g31, e31_k0, p31_0, p31_1⟩ := h31
        have f31 : Fr W_rx Mr Ma31 := Fr.t FR8 (Fr.m g31 (by decide))
        refine rsr (cI_e rfl) ?_
        refine rsr (vC_e (rk_160 (hR.fr f31))) ?_
        refine rsr (cI_e (a195_59_2 (by omega) hS (hR.fr f31) ((g31.i _ _ (by decide)).trans (w8_36)) ((g31.i _ _ (by decide)).trans (w8_37)) ((g31.i _ _ (by decide)).trans (w8_41)) (li_59) (by omega))) ?_
        refine rsr (jv_e) ?_
        exact Rs.ok (Or.inr ⟨2, ((pl i8)), f29, (Fr.sI (by decide) (Fr.sI (by decide) (Fr.m f31 (by decide)))), ⟨i8, sz28, sn28, uc28, e29_k0, e29_k1, e29_k2, e29_k3, e29_sz28, e29_sn28, e29_uc28, by omega⟩, ⟨(e8 + 1), s, u8, mu, ut, (sI_nej (by decide)).trans (sI_eq), sI_eq, (sI_nej (by decide)).trans ((sI_nej (by decide)).trans (e31_k0)), (sI_nej (by decide)).trans ((sI_nej (by decide)).trans ((g31.i _ _ (by decide)).trans (w8_51))), (sI_nej (by decide)).trans ((sI_nej (by decide)).trans ((g31.i _ _ (by decide)).trans (w8_53))), (sI_nej (by decide)).trans ((sI_nej (by decide)).trans ((g31.i _ _ (by decide)).trans ((FR8.i _ _ (by decide)).trans h48))), (sI_nej (by decide)).trans ((sI_nej (by decide)).trans ((g31.i _ _ (by decide)).trans ((FR8.i _ _ (by decide)).trans h49))), by omega⟩⟩)
  ·
    have FL8 : Fr W_cp Mc Mx8 := Fr.t (Fr.sI (by decide) (Fr.sI (by decide) Fr.r)) fl8
    have FR8 : Fr W_rp Mr Nx8 := Fr.t (Fr.m f7 W_rx_p) fr8
    obtain ⟨ti8, tz8, tn8, tu8, t138, t108, t118, t128, t98, t168, t198, tb8⟩ := tc8
    obtain ⟨re8, rn8, ru8, rm8, rt8, u418, u428, u438, u518, u538, u488, u498, ub8⟩ := tr8
    refine rsl (cV_e rfl) ?_
    refine rsr (cV_e rfl) ?_
    refine rsl (vC_e (ck_65 (hC.fr FL8))) ?_
    refine RlV (y64 (by omega) (hC.fr FL8) (hTk.fr (WL := W_cp) FL8 (by decide)) (t128) (t138) (t108) (t118) (t98) (t168) (t198) (li_59) (by omega)) fun v Ma33 h33 => ?_
    obtain ⟨sz32, sn32, uc32, g33, e33_sz32, e33_sn32, e33_uc32, e33_k0, e33_k1, e33_k2, e33_k3, p33_0, p33_1, p33_2⟩ := h33
    have f33 : Fr W_cp Mc Ma33 := Fr.t FL8 (Fr.m g33 (by decide))
    refine rsl (cV_e rfl) ?_
    refine rsl (vC_e (ck_65 (hC.fr f33))) ?_
    refine RlI (y87 (by omega) (hC.fr f33) (hTk.fr (WL := W_cp) f33 (by decide)) (e33_k3) (e33_k0) (e33_k1) (e33_k2) (e33_sz32) (e33_sn32) (e33_uc32) (rfl) (li_0) (by omega)) fun v Ma35 h35 => ?_
    obtain ⟨rv34, sz34, sn34, uc34, rfl, g35, e35_sz34, e35_sn34, e35_uc34, e35_k0, e35_k1, e35_k2, e35_k3, p35_0, p35_1, p35_2, p35_3⟩ := h35
    have f35 : Fr W_cp Mc Ma35 := Fr.t f33 (Fr.m g35 (by decide))
    refine rsl (cI_e rfl) ?_
    refine rsr (vC_e (rk_160 (hR.fr FR8))) ?_
    refine RrI (x196_s (by omega) (hR.fr FR8) (u418) (u428) (u438) (u518) (u538) (u488) (u498) (li_29) (li_0) (by omega)) fun v Ma37 h37 => ?_
    obtain ⟨rv36, em36, rfl, g37, e37_em36, e37_k0, e37_k1, e37_k2, e37_k3, e37_k4, p37_0, p37_1⟩ := h37
    have f37 : Fr W_rp Mr Ma37 := Fr.t FR8 (Fr.m g37 (by decide))
    refine rsr (cI_e rfl) ?_
    refine rsr (vC_e (rk_160 (hR.fr f37))) ?_
    refine RrI (x195_s (by omega) (hR.fr f37) (e37_k0) (e37_k1) (e37_em36) (e37_k2) (e37_k3) (e37_k4) ((g37.i _ _ (by decide)).trans (u498)) (li_59) (by omega)) fun v Ma39 h39 => ?_
    obtain ⟨rv38, em38, rfl, g39, e39_em38, e39_k0, e39_k1, e39_k2, e39_k3, e39_k4, p39_0, p39_1⟩ := h39
    have f39 : Fr W_rp Mr Ma39 := Fr.t f37 (Fr.m g39 (by decide))
    refine rsr (cI_e rfl) ?_
    refine rsr (jv_e) ?_
    exact Rs.ok (Or.inr ⟨F8, P8, f35, f39, ⟨ti8, sz34, sn34, uc34, e35_k0, e35_k1, e35_k2, e35_k3, e35_sz34, e35_sn34, e35_uc34, by omega⟩, ⟨em38, rn8, ru8, rm8, rt8, e39_k0, e39_k1, e39_em38, e39_k2, e39_k3, e39_k4, (g39.i _ _ (by decide)).trans ((g37.i _ _ (by decide)).trans (u498)), by omega⟩⟩)
