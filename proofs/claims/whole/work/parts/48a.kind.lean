theorem p_st219 {D : Nat} {dp : Int} (hD : 20 ≤ D) (hE : Pair D 99 [0] 211 14 dp) : PairT 219 91 [.int (iI 8)] (D + 10) dp := by
  intro d d2 hd hd2 T n m kd pl E tx ua ut mu Mc Mr G U Hl X i e s u uc v0 hS hx hsc hsr hrw hbd hK hv0
  obtain ⟨d, rfl⟩ : ∃ e, d = e + 1 := ⟨d - 1, by omega⟩
  obtain ⟨d2, rfl⟩ : ∃ e, d2 = e + 1 := ⟨d2 - 1, by omega⟩
  show Rs (runX (d + 1) 91 [va_rf (some 65), .int (iI 8), .int v0] Mc) (runX (d2 + 1) 214 [va_rf (some 160)] Mr) _
  rw [r91]; unfold b91; rw [aR_e, aI_e, aI_e, aZ_e]; unfold c91; rw [r214]; unfold b214; rw [aR_e, aZ_e]; unfold c214
  have hCx := hx
  obtain ⟨hC, hR, hTk, hT, hW, ⟨hu1, hu2, hu3, hu4⟩, h49, h48, ⟨hb1, hb2, hb3, hb4⟩⟩ := hx
  obtain ⟨bb_0, bb_1, bb_2, bb_3, bb_4, bb_5, bb_6, bb_7, bb_8, bb_9, bb_10, bb_11⟩ := hbd
  have kua : KU uc Mc Mc := KU.r
  obtain ⟨qa_12, qa_13, qa_10, qa_9, qa_16, qa_19⟩ := hsc
  obtain ⟨wa_36, wa_37, wa_38, wa_41, wa_43, wa_51, wa_53, wa_50, wa_n⟩ := hsr
  obtain ⟨caa, raa, lca, lra, cua, rua⟩ := hrw
  have hk1 := (hS.ok i (by omega) (by omega)).r
  have ty2 := (Tye.r (G := G) (a := e) (s := s))
  have du3 := (DU.r (ut := ut) (mu := mu) (c := uc) (G := G) (U := U) (X := X) (a := e) (u := u))
  refine rsl (vC_e (ck_65 hC)) ?_
  have hm4 : i + 1 < m := hS.more i (by omega) (by omega) (by omega)
  refine rsl (cV_e (a63q (by omega) hS hC (hTk.fr (WL := W_cp) Fr.r (by decide)) (qa_12) (qa_13) (qa_10) (i2 := (i + 1)) (by omega) (by omega))) ?_
  have hk5 := (hS.ok (i + 1) (by omega) (by omega)).r
  refine rsl (vC_e (ck_65 hC.sI.sI)) ?_
  refine rsr (gtI_q (w := iI ((kr (kd i)))) (rk_160 hR) (wa_36)) ?_
  refine rsr (jn_v) ?_
  refine rsr (swI_c) ?_
  refine rsr (if_neg (krI_n (k := 215) (rfl) (li_416) (hS.ok i (by omega) (by omega)) (by unfold KdOK sgk; omega) (by decide +kernel) (by omega) (by omega))) ?_
  refine rsr (swI_c) ?_
  refine rsr (if_neg (krI_n (k := 216) (rfl) (li_417) (hS.ok i (by omega) (by omega)) (by unfold KdOK sgk; omega) (by decide +kernel) (by omega) (by omega))) ?_
  refine rsr (swI_c) ?_
  refine rsr (if_neg (krI_n (k := 217) (rfl) (li_418) (hS.ok i (by omega) (by omega)) (by unfold KdOK sgk; omega) (by decide +kernel) (by omega) (by omega))) ?_
  refine rsr (swI_c) ?_
  refine rsr (if_neg (krI_n (k := 218) (rfl) (li_419) (hS.ok i (by omega) (by omega)) (by unfold KdOK sgk; omega) (by decide +kernel) (by omega) (by omega))) ?_
  refine rsr (swI_c) ?_
  refine rsr (if_pos (krI_p (k := 219) (rfl) (li_420) (by omega) (by decide +kernel))) ?_
  refine rsr (gtI_q (w := iI ((kr (kd i)))) (rk_160 hR) (wa_36)) ?_
  refine rsr (jn_v) ?_
  refine rsr (if_pos (krI_p (k := 219) (rfl) (li_420) (by omega) (by decide +kernel))) ?_
  refine rsr (jv_e) ?_
  refine rsr (vC_e (rk_160 hR)) ?_
  refine RrV (nx_q (by omega) hS hR (hT.fr (W := W_rx) Fr.r (by decide) (by decide)) (fun i a b => (Fr.lc (W := W_rx) Fr.r _ (by decide) _).trans (hW i a b)) (i := i) (i2 := (i + 1)) (wa_41) (wa_38) (by omega) (by omega) (by omega)) fun v Ma6 h6 => ?_
  obtain ⟨g6, e6_k0, e6_k1, e6_k2, p6_0⟩ := h6
  have f6 : Fr W_rx Mr Ma6 := Fr.t Fr.r (Fr.m g6 (by decide))
  refine rsr (cV_e rfl) ?_
  refine rsr (vC_e (rk_160 (hR.fr f6))) ?_
  refine Rb_VV (hE _ _ (by omega) (by omega) T n m kd pl E tx ua ut mu _ _ G U Hl X (i + 1) e s u uc _ hS (hCx.fr (Fr.sI (by decide) (Fr.sI (by decide) Fr.r)) f6) ⟨(sI_nej (by decide)).trans (sI_eq), sI_eq, (sI_nej (by decide)).trans ((sI_nej (by decide)).trans (qa_10)), (sI_nej (by decide)).trans ((sI_nej (by decide)).trans (qa_9)), (sI_nej (by decide)).trans ((sI_nej (by decide)).trans (qa_16)), (sI_nej (by decide)).trans ((sI_nej (by decide)).trans (qa_19))⟩ ⟨e6_k0, e6_k1, e6_k2, (g6.i _ _ (by decide)).trans (wa_41), (g6.i _ _ (by decide)).trans (wa_43), (g6.i _ _ (by decide)).trans (wa_51), (g6.i _ _ (by decide)).trans (wa_53), (g6.i _ _ (by decide)).trans (wa_50), p6_0⟩ ⟨(caa.fr (W := W_c0) (Fr.sI (by decide) (Fr.sI (by decide) Fr.r)) (by decide)), (raa.fr g6 (by decide)), (lca.fr (W := W_c0) (Fr.sI (by decide) (Fr.sI (by decide) Fr.r)) (by decide)), (lra.fr g6 (by decide)), (cua.fr (W := W_c0) (Fr.sI (by decide) (Fr.sI (by decide) Fr.r)) (by decide)), (rua.fr g6 (by decide))⟩ ⟨by omega, by omega, by omega, by omega, by omega, by omega, by omega, by omega, by omega, by omega, by omega, by omega⟩ (vs2 (li_0) (hv0))) fun v Mx7 w Nx7 hx7 => ?_
  rcases hx7 with ⟨i7, e7, u7, uc7, G7, U7, X7, fl7, fr7, sc7, sr7, rw7, bd7, mv7, ag7, au7, ax7, tp7, dp7, kv7⟩ | ⟨F7, P7, fl7, fr7, tc7, tr7⟩
  ·
    have FL7 : Fr W_cp Mc Mx7 := Fr.t (Fr.sI (by decide) (Fr.sI (by decide) Fr.r)) fl7
    have FR7 : Fr W_rx Mr Nx7 := Fr.t f6 fr7
    obtain ⟨bb7_0, bb7_1, bb7_2, bb7_3, bb7_4, bb7_5, bb7_6, bb7_7, bb7_8, bb7_9, bb7_10, bb7_11⟩ := bd7
    obtain ⟨q7_12, q7_13, q7_10, q7_9, q7_16, q7_19⟩ := sc7
    obtain ⟨w7_36, w7_37, w7_38, w7_41, w7_43, w7_51, w7_53, w7_50, w7_n⟩ := sr7
    obtain ⟨ca7, ra7, lc7, lr7, cu7, ru7⟩ := rw7
    have hk8 := (hS.ok i7 (by omega) (by omega)).r
    have ku7 := KU.t (kua.fr (W := W_c0) (Fr.sI (by decide) (Fr.sI (by decide) Fr.r)) (by decide)) kv7 (by omega)
    have ty9 := Tye.t (d3 := 1) ty2 ag7 tp7 (by omega)
    have du10 := DU.t du3 ag7 au7 ax7 dp7 (by omega)
    refine rsl (cV_e rfl) ?_
    refine rsr (cV_e rfl) ?_
    refine rsl (vC_e (ck_65 (hC.fr FL7))) ?_
    by_cases c11 : ((kd i7)) = 59
    ·
      have hm12 : i7 + 1 < m := hS.more i7 (by omega) (by omega) (by omega)
      refine rsl (cV_e (a64q (by omega) hS (hC.fr FL7) (hTk.fr (WL := W_cp) FL7 (by decide)) (q7_12) (q7_13) (q7_10) (li_59) (i2 := (i7 + 1)) (by omega) (by omega))) ?_
      have hk13 := (hS.ok (i7 + 1) (by omega) (by omega)).r
      refine rsl (vC_e (ck_65 (hC.fr FL7).sI.sI)) ?_
      have tb15 := Tyb.ex (dp := dp) (d := 1) (s' := s) (q := (e7 + 1)) (n1 := 0) (ut := ut) (mu := mu) (l := []) ty9 (Or.inr (Or.inr (Or.inr (Or.inr (Or.inr (Or.inr (Or.inr (Or.inr (by omega)))))))) : Eff 8 0 0 1 s 0 s) (by omega) ⟨by omega, by omega⟩ (by omega)
      have du16 := DU.em (q := (e7 + 1)) (o := 8) (n := 0) (p := -2) (l := [0]) du10 (by omega) (by omega)
      refine RlI (a87q (by omega) (hC.fr FL7).sI.sI ((sI_nej (by decide)).trans ((sI_nej (by decide)).trans (q7_9))) (rfl) (li_0) (q := (e7 + 1)) (by omega) (by omega)) fun v Ma17 h17 => ?_
      obtain ⟨r14, rfl, g17, e17_k0, p17_0, p17_1⟩ := h17
      have f17 : Fr W_cp Mc Ma17 := Fr.t (Fr.sI (by decide) (Fr.sI (by decide) FL7)) (Fr.m g17 (by decide))
      refine rsl (cI_e rfl) ?_
      refine rsr (vC_e (rk_160 (hR.fr FR7))) ?_
      refine RrI (a196q (by omega) (hR.fr FR7) (w7_43) ((FR7.i _ _ (by decide)).trans h49) ((FR7.i _ _ (by decide)).trans h48) (li_8) (li_0) (q := (e7 + 1)) (by omega) (by omega)) fun v Ma19 h19 => ?_
      obtain ⟨r18, rfl, g19, e19_k0, p19_0, p19_1⟩ := h19
      have f19 : Fr W_rx Mr Ma19 := Fr.t FR7 (Fr.m g19 (by decide))
      refine rsr (cI_e rfl) ?_
      refine rsr (vC_e (rk_160 (hR.fr f19))) ?_
      refine RrI (a195_59 (by omega) hS (hR.fr f19) (hT.fr (W := W_rx) f19 (by decide) (by decide)) (fun i a b => (Fr.lc (W := W_rx) f19 _ (by decide) _).trans (hW i a b)) ((g19.i _ _ (by decide)).trans (w7_36)) ((g19.i _ _ (by decide)).trans (w7_37)) ((g19.i _ _ (by decide)).trans (w7_38)) ((g19.i _ _ (by decide)).trans (w7_41)) (li_59) (i2 := (i7 + 1)) (by omega) (by omega)) fun v Ma21 h21 => ?_
      obtain ⟨r20, rfl, g21, e21_k0, e21_k1, e21_k2, p21_0, p21_1⟩ := h21
      have f21 : Fr W_rx Mr Ma21 := Fr.t f19 (Fr.m g21 (by decide))
      refine rsr (cI_e rfl) ?_
      refine rsr (jv_e) ?_
      exact Rs.ok (Or.inl ⟨(i7 + 1), s, Hl, ⟨(e7 + 1), u7, uc7, (pu G7 e7 [8, 0, -2, 0, ut, mu, 0]), U7, X7, f17, f21, ⟨(g17.i _ _ (by decide)).trans ((sI_nej (by decide)).trans (sI_eq)), (g17.i _ _ (by decide)).trans (sI_eq), (g17.i _ _ (by decide)).trans ((sI_nej (by decide)).trans ((sI_nej (by decide)).trans (q7_10))), e17_k0, (g17.i _ _ (by decide)).trans ((sI_nej (by decide)).trans ((sI_nej (by decide)).trans (q7_16))), (g17.i _ _ (by decide)).trans ((sI_nej (by decide)).trans ((sI_nej (by decide)).trans (q7_19)))⟩, ⟨e21_k0, e21_k1, e21_k2, (g21.i _ _ (by decide)).trans ((g19.i _ _ (by decide)).trans (w7_41)), (g21.i _ _ (by decide)).trans (e19_k0), (g21.i _ _ (by decide)).trans ((g19.i _ _ (by decide)).trans (w7_51)), (g21.i _ _ (by decide)).trans ((g19.i _ _ (by decide)).trans (w7_53)), (g21.i _ _ (by decide)).trans ((g19.i _ _ (by decide)).trans (w7_50)), p21_1⟩, ⟨(CA1.em (q := (e7 + 1)) (ca7.fr (W := W_c0) (Fr.sI (by decide) (Fr.sI (by decide) Fr.r)) (by decide)) (by omega) p17_1 (by omega)), ((RA1.em (q := (e7 + 1)) ra7 (by omega) p19_1 (by omega)).fr g21 (by decide)), ((lc7.fr (W := W_c0) (Fr.sI (by decide) (Fr.sI (by decide) Fr.r)) (by decide)).fr g17 (by decide)), ((lr7.fr g19 (by decide)).fr g21 (by decide)), ((cu7.fr (W := W_c0) (Fr.sI (by decide) (Fr.sI (by decide) Fr.r)) (by decide)).fr g17 (by decide)), ((ru7.fr g19 (by decide)).fr g21 (by decide))⟩, ⟨by omega, by omega, by omega, by omega, by omega, by omega, by omega, by omega, by omega, by omega, by omega, by omega⟩, ⟨by omega, by omega, by omega, by omega, by omega, by omega⟩, (Ag.pu (Ag.t Ag.r ag7 (by omega)) (by omega)), (Ag.t Ag.r au7 (by omega)), (AgL.t AgL.r ax7 (by omega)), tb15, du16, ((ku7.fr (W := W_c0) (Fr.sI (by decide) (Fr.sI (by decide) Fr.r)) (by decide)).fr g17 (by decide)), ⟨by omega, fun _ _ _ => rfl⟩⟩⟩)
    ·
      by_cases c22 : ((kd i7)) = 1
      ·
        refine rsl (cV_e (a64_1 (by omega) hS (hC.fr FL7) (hTk.fr (WL := W_cp) FL7 (by decide)) (q7_12) (q7_13) (q7_10) (li_59) (by omega))) ?_
        refine rsl (vC_e (ck_65 (hC.fr FL7).sI.sI.sI)) ?_
        refine RlI (y87 (by omega) (hC.fr FL7).sI.sI.sI (hTk.fr (WL := W_cp) (Fr.sI (by decide) (Fr.sI (by decide) (Fr.sI (by decide) FL7))) (by decide)) ((sI_nej (by decide)).trans ((sI_nej (by decide)).trans ((sI_nej (by decide)).trans (q7_12)))) (sI_eq) ((sI_nej (by decide)).trans ((sI_nej (by decide)).trans (sI_eq))) ((sI_nej (by decide)).trans (sI_eq)) ((sI_nej (by decide)).trans ((sI_nej (by decide)).trans ((sI_nej (by decide)).trans (q7_9)))) ((sI_nej (by decide)).trans ((sI_nej (by decide)).trans ((sI_nej (by decide)).trans (q7_16)))) ((sI_nej (by decide)).trans ((sI_nej (by decide)).trans ((sI_nej (by decide)).trans (q7_19)))) (rfl) (li_0) (by omega)) fun v Ma24 h24 => ?_
        obtain ⟨rv23, sz23, sn23, uc23, rfl, g24, e24_sz23, e24_sn23, e24_uc23, e24_k0, e24_k1, e24_k2, e24_k3, p24_0, p24_1, p24_2, p24_3⟩ := h24
        have f24 : Fr W_cp Mc Ma24 := Fr.t (Fr.sI (by decide) (Fr.sI (by decide) (Fr.sI (by decide) FL7))) (Fr.m g24 (by decide))
        refine rsl (cI_e rfl) ?_
        refine rsr (vC_e (rk_160 (hR.fr FR7))) ?_
        refine RrI (a196q (by omega) (hR.fr FR7) (w7_43) ((FR7.i _ _ (by decide)).trans h49) ((FR7.i _ _ (by decide)).trans h48) (li_8) (li_0) (q := (e7 + 1)) (by omega) (by omega)) fun v Ma26 h26 => ?_
        obtain ⟨r25, rfl, g26, e26_k0, p26_0, p26_1⟩ := h26
        have f26 : Fr W_rx Mr Ma26 := Fr.t FR7 (Fr.m g26 (by decide))
        refine rsr (cI_e rfl) ?_
        refine rsr (vC_e (rk_160 (hR.fr f26))) ?_
        refine rsr (cI_e (a195_59_1 (by omega) hS (hR.fr f26) ((g26.i _ _ (by decide)).trans (w7_36)) ((g26.i _ _ (by decide)).trans (w7_37)) ((g26.i _ _ (by decide)).trans (w7_41)) (li_59) (by omega))) ?_
        refine rsr (jv_e) ?_
        exact Rs.ok (Or.inr ⟨1, ((pl i7)), f24, (Fr.sI (by decide) (Fr.sI (by decide) (Fr.m f26 (by decide)))), ⟨i7, sz23, sn23, uc23, e24_k0, e24_k1, e24_k2, e24_k3, e24_sz23, e24_sn23, e24_uc23, by omega⟩, ⟨(e7 + 1), s, u7, mu, ut, (sI_nej (by decide)).trans (sI_eq), sI_eq, (sI_nej (by decide)).trans ((sI_nej (by decide)).trans (e26_k0)), (sI_nej (by decide)).trans ((sI_nej (by decide)).trans ((g26.i _ _ (by decide)).trans (w7_51))), (sI_nej (by decide)).trans ((sI_nej (by decide)).trans ((g26.i _ _ (by decide)).trans (w7_53))), (sI_nej (by decide)).trans ((sI_nej (by decide)).trans ((g26.i _ _ (by decide)).trans ((FR7.i _ _ (by decide)).trans h48))), (sI_nej (by decide)).trans ((sI_nej (by decide)).trans ((g26.i _ _ (by decide)).trans ((FR7.i _ _ (by decide)).trans h49))), by omega⟩⟩)
      ·
        refine rsl (cV_e (a64_2 (by omega) hS (hC.fr FL7) (hTk.fr (WL := W_cp) FL7 (by decide)) (q7_12) (q7_13) (q7_10) (li_59) (by omega))) ?_
        refine rsl (vC_e (ck_65 (hC.fr FL7).sI.sI.sI)) ?_
        refine RlI (y87 (by omega) (hC.fr FL7).sI.sI.sI (hTk.fr (WL := W_cp) (Fr.sI (by decide) (Fr.sI (by decide) (Fr.sI (by decide) FL7))) (by decide)) ((sI_nej (by decide)).trans ((sI_nej (by decide)).trans ((sI_nej (by decide)).trans (q7_12)))) (sI_eq) ((sI_nej (by decide)).trans ((sI_nej (by decide)).trans (sI_eq))) ((sI_nej (by decide)).trans (sI_eq)) ((sI_nej (by decide)).trans ((sI_nej (by decide)).trans ((sI_nej (by decide)).trans (q7_9)))) ((sI_nej (by decide)).trans ((sI_nej (by decide)).trans ((sI_nej (by decide)).trans (q7_16)))) ((sI_nej (by decide)).trans ((sI_nej (by decide)).trans ((sI_nej (by decide)).trans (q7_19)))) (rfl) (li_0) (by omega)) fun v Ma28 h28 => ?_
        obtain ⟨rv27, sz27, sn27, uc27, rfl, g28, e28_sz27, e28_sn27, e28_uc27, e28_k0, e28_k1, e28_k2, e28_k3, p28_0, p28_1, p28_2, p28_3⟩ := h28
        have f28 : Fr W_cp Mc Ma28 := Fr.t (Fr.sI (by decide) (Fr.sI (by decide) (Fr.sI (by decide) FL7))) (Fr.m g28 (by decide))
        refine rsl (cI_e rfl) ?_
        refine rsr (vC_e (rk_160 (hR.fr FR7))) ?_
        refine RrI (a196q (by omega) (hR.fr FR7) (w7_43) ((FR7.i _ _ (by decide)).trans h49) ((FR7.i _ _ (by decide)).trans h48) (li_8) (li_0) (q := (e7 + 1)) (by omega) (by omega)) fun v Ma30 h30 => ?_
        obtain ⟨r29, rfl, g30, e30_k0, p30_0, p30_1⟩ := h30
        have f30 : Fr W_rx Mr Ma30 := Fr.t FR7 (Fr.m g30 (by decide))
        refine rsr (cI_e rfl) ?_
        refine rsr (vC_e (rk_160 (hR.fr f30))) ?_
        refine rsr (cI_e (a195_59_2 (by omega) hS (hR.fr f30) ((g30.i _ _ (by decide)).trans (w7_36)) ((g30.i _ _ (by decide)).trans (w7_37)) ((g30.i _ _ (by decide)).trans (w7_41)) (li_59) (by omega))) ?_
        refine rsr (jv_e) ?_
        exact Rs.ok (Or.inr ⟨2, ((pl i7)), f28, (Fr.sI (by decide) (Fr.sI (by decide) (Fr.m f30 (by decide)))), ⟨i7, sz27, sn27, uc27, e28_k0, e28_k1, e28_k2, e28_k3, e28_sz27, e28_sn27, e28_uc27, by omega⟩, ⟨(e7 + 1), s, u7, mu, ut, (sI_nej (by decide)).trans (sI_eq), sI_eq, (sI_nej (by decide)).trans ((sI_nej (by decide)).trans (e30_k0)), (sI_nej (by decide)).trans ((sI_nej (by decide)).trans ((g30.i _ _ (by decide)).trans (w7_51))), (sI_nej (by decide)).trans ((sI_nej (by decide)).trans ((g30.i _ _ (by decide)).trans (w7_53))), (sI_nej (by decide)).trans ((sI_nej (by decide)).trans ((g30.i _ _ (by decide)).trans ((FR7.i _ _ (by decide)).trans h48))), (sI_nej (by decide)).trans ((sI_nej (by decide)).trans ((g30.i _ _ (by decide)).trans ((FR7.i _ _ (by decide)).trans h49))), by omega⟩⟩)
  ·
    have FL7 : Fr W_cp Mc Mx7 := Fr.t (Fr.sI (by decide) (Fr.sI (by decide) Fr.r)) fl7
    have FR7 : Fr W_rp Mr Nx7 := Fr.t (Fr.m f6 W_rx_p) fr7
    obtain ⟨ti7, tz7, tn7, tu7, t137, t107, t117, t127, t97, t167, t197, tb7⟩ := tc7
    obtain ⟨re7, rn7, ru7, rm7, rt7, u417, u427, u437, u517, u537, u487, u497, ub7⟩ := tr7
    refine rsl (cV_e rfl) ?_
    refine rsr (cV_e rfl) ?_
    refine rsl (vC_e (ck_65 (hC.fr FL7))) ?_
    refine RlV (y64 (by omega) (hC.fr FL7) (hTk.fr (WL := W_cp) FL7 (by decide)) (t127) (t137) (t107) (t117) (t97) (t167) (t197) (li_59) (by omega)) fun v Ma32 h32 => ?_
    obtain ⟨sz31, sn31, uc31, g32, e32_sz31, e32_sn31, e32_uc31, e32_k0, e32_k1, e32_k2, e32_k3, p32_0, p32_1, p32_2⟩ := h32
    have f32 : Fr W_cp Mc Ma32 := Fr.t FL7 (Fr.m g32 (by decide))
    refine rsl (cV_e rfl) ?_
    refine rsl (vC_e (ck_65 (hC.fr f32))) ?_
    refine RlI (y87 (by omega) (hC.fr f32) (hTk.fr (WL := W_cp) f32 (by decide)) (e32_k3) (e32_k0) (e32_k1) (e32_k2) (e32_sz31) (e32_sn31) (e32_uc31) (rfl) (li_0) (by omega)) fun v Ma34 h34 => ?_
    obtain ⟨rv33, sz33, sn33, uc33, rfl, g34, e34_sz33, e34_sn33, e34_uc33, e34_k0, e34_k1, e34_k2, e34_k3, p34_0, p34_1, p34_2, p34_3⟩ := h34
    have f34 : Fr W_cp Mc Ma34 := Fr.t f32 (Fr.m g34 (by decide))
    refine rsl (cI_e rfl) ?_
    refine rsr (vC_e (rk_160 (hR.fr FR7))) ?_
    refine RrI (x196_s (by omega) (hR.fr FR7) (u417) (u427) (u437) (u517) (u537) (u487) (u497) (li_8) (li_0) (by omega)) fun v Ma36 h36 => ?_
    obtain ⟨rv35, em35, rfl, g36, e36_em35, e36_k0, e36_k1, e36_k2, e36_k3, e36_k4, p36_0, p36_1⟩ := h36
    have f36 : Fr W_rp Mr Ma36 := Fr.t FR7 (Fr.m g36 (by decide))
    refine rsr (cI_e rfl) ?_
    refine rsr (vC_e (rk_160 (hR.fr f36))) ?_
    refine RrI (x195_s (by omega) (hR.fr f36) (e36_k0) (e36_k1) (e36_em35) (e36_k2) (e36_k3) (e36_k4) ((g36.i _ _ (by decide)).trans (u497)) (li_59) (by omega)) fun v Ma38 h38 => ?_
    obtain ⟨rv37, em37, rfl, g38, e38_em37, e38_k0, e38_k1, e38_k2, e38_k3, e38_k4, p38_0, p38_1⟩ := h38
    have f38 : Fr W_rp Mr Ma38 := Fr.t f36 (Fr.m g38 (by decide))
    refine rsr (cI_e rfl) ?_
    refine rsr (jv_e) ?_
    exact Rs.ok (Or.inr ⟨F7, P7, f34, f38, ⟨ti7, sz33, sn33, uc33, e34_k0, e34_k1, e34_k2, e34_k3, e34_sz33, e34_sn33, e34_uc33, by omega⟩, ⟨em37, rn7, ru7, rm7, rt7, e38_k0, e38_k1, e38_em37, e38_k2, e38_k3, e38_k4, (g38.i _ _ (by decide)).trans ((g36.i _ _ (by decide)).trans (u497)), by omega⟩⟩)
theorem p_st220 {D : Nat} {dp : Int} (hD : 20 ≤ D) (hE : Pair D 99 [0] 211 14 dp) : PairT 220 91 [.int (iI 28)] (D + 10) dp := by
  intro d d2 hd hd2 T n m kd pl E tx ua ut mu Mc Mr G U Hl X i e s u uc v0 hS hx hsc hsr hrw hbd hK hv0
  obtain ⟨d, rfl⟩ : ∃ e, d = e + 1 := ⟨d - 1, by omega⟩
  obtain ⟨d2, rfl⟩ : ∃ e, d2 = e + 1 := ⟨d2 - 1, by omega⟩
  show Rs (runX (d + 1) 91 [va_rf (some 65), .int (iI 28), .int v0] Mc) (runX (d2 + 1) 214 [va_rf (some 160)] Mr) _
  rw [r91]; unfold b91; rw [aR_e, aI_e, aI_e, aZ_e]; unfold c91; rw [r214]; unfold b214; rw [aR_e, aZ_e]; unfold c214
  have hCx := hx
  obtain ⟨hC, hR, hTk, hT, hW, ⟨hu1, hu2, hu3, hu4⟩, h49, h48, ⟨hb1, hb2, hb3, hb4⟩⟩ := hx
  obtain ⟨bb_0, bb_1, bb_2, bb_3, bb_4, bb_5, bb_6, bb_7, bb_8, bb_9, bb_10, bb_11⟩ := hbd
  have kua : KU uc Mc Mc := KU.r
  obtain ⟨qa_12, qa_13, qa_10, qa_9, qa_16, qa_19⟩ := hsc
  obtain ⟨wa_36, wa_37, wa_38, wa_41, wa_43, wa_51, wa_53, wa_50, wa_n⟩ := hsr
  obtain ⟨caa, raa, lca, lra, cua, rua⟩ := hrw
  have hk1 := (hS.ok i (by omega) (by omega)).r
  have ty2 := (Tye.r (G := G) (a := e) (s := s))
  have du3 := (DU.r (ut := ut) (mu := mu) (c := uc) (G := G) (U := U) (X := X) (a := e) (u := u))
  refine rsl (vC_e (ck_65 hC)) ?_
  have hm4 : i + 1 < m := hS.more i (by omega) (by omega) (by omega)
  refine rsl (cV_e (a63q (by omega) hS hC (hTk.fr (WL := W_cp) Fr.r (by decide)) (qa_12) (qa_13) (qa_10) (i2 := (i + 1)) (by omega) (by omega))) ?_
  have hk5 := (hS.ok (i + 1) (by omega) (by omega)).r
  refine rsl (vC_e (ck_65 hC.sI.sI)) ?_
  refine rsr (gtI_q (w := iI ((kr (kd i)))) (rk_160 hR) (wa_36)) ?_
  refine rsr (jn_v) ?_
  refine rsr (swI_c) ?_
  refine rsr (if_neg (krI_n (k := 215) (rfl) (li_416) (hS.ok i (by omega) (by omega)) (by unfold KdOK sgk; omega) (by decide +kernel) (by omega) (by omega))) ?_
  refine rsr (swI_c) ?_
  refine rsr (if_neg (krI_n (k := 216) (rfl) (li_417) (hS.ok i (by omega) (by omega)) (by unfold KdOK sgk; omega) (by decide +kernel) (by omega) (by omega))) ?_
  refine rsr (swI_c) ?_
  refine rsr (if_neg (krI_n (k := 217) (rfl) (li_418) (hS.ok i (by omega) (by omega)) (by unfold KdOK sgk; omega) (by decide +kernel) (by omega) (by omega))) ?_
  refine rsr (swI_c) ?_
  refine rsr (if_neg (krI_n (k := 218) (rfl) (li_419) (hS.ok i (by omega) (by omega)) (by unfold KdOK sgk; omega) (by decide +kernel) (by omega) (by omega))) ?_
  refine rsr (swI_c) ?_
  refine rsr (if_neg (krI_n (k := 219) (rfl) (li_420) (hS.ok i (by omega) (by omega)) (by unfold KdOK sgk; omega) (by decide +kernel) (by omega) (by omega))) ?_
  refine rsr (swI_c) ?_
  refine rsr (if_pos (krI_p (k := 220) (rfl) (li_421) (by omega) (by decide +kernel))) ?_
  refine rsr (gtI_q (w := iI ((kr (kd i)))) (rk_160 hR) (wa_36)) ?_
  refine rsr (jn_v) ?_
  refine rsr (if_neg (krI_n (k := 219) (rfl) (li_420) (hS.ok i (by omega) (by omega)) (by unfold KdOK sgk; omega) (by decide +kernel) (by omega) (by omega))) ?_
  refine rsr (gtI_q (w := iI ((kr (kd i)))) (rk_160 hR) (wa_36)) ?_
  refine rsr (if_pos (krI_p (k := 220) (rfl) (li_421) (by omega) (by decide +kernel))) ?_
  refine rsr (jv_e) ?_
  refine rsr (vC_e (rk_160 hR)) ?_
  refine RrV (nx_q (by omega) hS hR (hT.fr (W := W_rx) Fr.r (by decide) (by decide)) (fun i a b => (Fr.lc (W := W_rx) Fr.r _ (by decide) _).trans (hW i a b)) (i := i) (i2 := (i + 1)) (wa_41) (wa_38) (by omega) (by omega) (by omega)) fun v Ma6 h6 => ?_
  obtain ⟨g6, e6_k0, e6_k1, e6_k2, p6_0⟩ := h6
  have f6 : Fr W_rx Mr Ma6 := Fr.t Fr.r (Fr.m g6 (by decide))
  refine rsr (cV_e rfl) ?_
  refine rsr (vC_e (rk_160 (hR.fr f6))) ?_
  refine Rb_VV (hE _ _ (by omega) (by omega) T n m kd pl E tx ua ut mu _ _ G U Hl X (i + 1) e s u uc _ hS (hCx.fr (Fr.sI (by decide) (Fr.sI (by decide) Fr.r)) f6) ⟨(sI_nej (by decide)).trans (sI_eq), sI_eq, (sI_nej (by decide)).trans ((sI_nej (by decide)).trans (qa_10)), (sI_nej (by decide)).trans ((sI_nej (by decide)).trans (qa_9)), (sI_nej (by decide)).trans ((sI_nej (by decide)).trans (qa_16)), (sI_nej (by decide)).trans ((sI_nej (by decide)).trans (qa_19))⟩ ⟨e6_k0, e6_k1, e6_k2, (g6.i _ _ (by decide)).trans (wa_41), (g6.i _ _ (by decide)).trans (wa_43), (g6.i _ _ (by decide)).trans (wa_51), (g6.i _ _ (by decide)).trans (wa_53), (g6.i _ _ (by decide)).trans (wa_50), p6_0⟩ ⟨(caa.fr (W := W_c0) (Fr.sI (by decide) (Fr.sI (by decide) Fr.r)) (by decide)), (raa.fr g6 (by decide)), (lca.fr (W := W_c0) (Fr.sI (by decide) (Fr.sI (by decide) Fr.r)) (by decide)), (lra.fr g6 (by decide)), (cua.fr (W := W_c0) (Fr.sI (by decide) (Fr.sI (by decide) Fr.r)) (by decide)), (rua.fr g6 (by decide))⟩ ⟨by omega, by omega, by omega, by omega, by omega, by omega, by omega, by omega, by omega, by omega, by omega, by omega⟩ (vs2 (li_0) (hv0))) fun v Mx7 w Nx7 hx7 => ?_
  rcases hx7 with ⟨i7, e7, u7, uc7, G7, U7, X7, fl7, fr7, sc7, sr7, rw7, bd7, mv7, ag7, au7, ax7, tp7, dp7, kv7⟩ | ⟨F7, P7, fl7, fr7, tc7, tr7⟩
  ·
    have FL7 : Fr W_cp Mc Mx7 := Fr.t (Fr.sI (by decide) (Fr.sI (by decide) Fr.r)) fl7
    have FR7 : Fr W_rx Mr Nx7 := Fr.t f6 fr7
    obtain ⟨bb7_0, bb7_1, bb7_2, bb7_3, bb7_4, bb7_5, bb7_6, bb7_7, bb7_8, bb7_9, bb7_10, bb7_11⟩ := bd7
    obtain ⟨q7_12, q7_13, q7_10, q7_9, q7_16, q7_19⟩ := sc7
    obtain ⟨w7_36, w7_37, w7_38, w7_41, w7_43, w7_51, w7_53, w7_50, w7_n⟩ := sr7
    obtain ⟨ca7, ra7, lc7, lr7, cu7, ru7⟩ := rw7
    have hk8 := (hS.ok i7 (by omega) (by omega)).r
    have ku7 := KU.t (kua.fr (W := W_c0) (Fr.sI (by decide) (Fr.sI (by decide) Fr.r)) (by decide)) kv7 (by omega)
    have ty9 := Tye.t (d3 := 1) ty2 ag7 tp7 (by omega)
    have du10 := DU.t du3 ag7 au7 ax7 dp7 (by omega)
    refine rsl (cV_e rfl) ?_
    refine rsr (cV_e rfl) ?_
    refine rsl (vC_e (ck_65 (hC.fr FL7))) ?_
    by_cases c11 : ((kd i7)) = 59
    ·
      have hm12 : i7 + 1 < m := hS.more i7 (by omega) (by omega) (by omega)
      refine rsl (cV_e (a64q (by omega) hS (hC.fr FL7) (hTk.fr (WL := W_cp) FL7 (by decide)) (q7_12) (q7_13) (q7_10) (li_59) (i2 := (i7 + 1)) (by omega) (by omega))) ?_
      have hk13 := (hS.ok (i7 + 1) (by omega) (by omega)).r
      refine rsl (vC_e (ck_65 (hC.fr FL7).sI.sI)) ?_
      have tb15 := Tyb.ex (dp := dp) (d := 1) (s' := s) (q := (e7 + 1)) (n1 := 0) (ut := ut) (mu := mu) (l := []) ty9 (Or.inr (Or.inr (Or.inr (Or.inl (by omega)))) : Eff 28 0 0 1 s 0 s) (by omega) ⟨by omega, by omega⟩ (by omega)
      have du16 := DU.em (q := (e7 + 1)) (o := 28) (n := 0) (p := -2) (l := [0]) du10 (by omega) (by omega)
      refine RlI (a87q (by omega) (hC.fr FL7).sI.sI ((sI_nej (by decide)).trans ((sI_nej (by decide)).trans (q7_9))) (rfl) (li_0) (q := (e7 + 1)) (by omega) (by omega)) fun v Ma17 h17 => ?_
      obtain ⟨r14, rfl, g17, e17_k0, p17_0, p17_1⟩ := h17
      have f17 : Fr W_cp Mc Ma17 := Fr.t (Fr.sI (by decide) (Fr.sI (by decide) FL7)) (Fr.m g17 (by decide))
      refine rsl (cI_e rfl) ?_
      refine rsr (vC_e (rk_160 (hR.fr FR7))) ?_
      refine RrI (a196q (by omega) (hR.fr FR7) (w7_43) ((FR7.i _ _ (by decide)).trans h49) ((FR7.i _ _ (by decide)).trans h48) (li_28) (li_0) (q := (e7 + 1)) (by omega) (by omega)) fun v Ma19 h19 => ?_
      obtain ⟨r18, rfl, g19, e19_k0, p19_0, p19_1⟩ := h19
      have f19 : Fr W_rx Mr Ma19 := Fr.t FR7 (Fr.m g19 (by decide))
      refine rsr (cI_e rfl) ?_
      refine rsr (vC_e (rk_160 (hR.fr f19))) ?_
      refine RrI (a195_59 (by omega) hS (hR.fr f19) (hT.fr (W := W_rx) f19 (by decide) (by decide)) (fun i a b => (Fr.lc (W := W_rx) f19 _ (by decide) _).trans (hW i a b)) ((g19.i _ _ (by decide)).trans (w7_36)) ((g19.i _ _ (by decide)).trans (w7_37)) ((g19.i _ _ (by decide)).trans (w7_38)) ((g19.i _ _ (by decide)).trans (w7_41)) (li_59) (i2 := (i7 + 1)) (by omega) (by omega)) fun v Ma21 h21 => ?_
      obtain ⟨r20, rfl, g21, e21_k0, e21_k1, e21_k2, p21_0, p21_1⟩ := h21
      have f21 : Fr W_rx Mr Ma21 := Fr.t f19 (Fr.m g21 (by decide))
      refine rsr (cI_e rfl) ?_
      refine rsr (jv_e) ?_
      exact Rs.ok (Or.inl ⟨(i7 + 1), s, Hl, ⟨(e7 + 1), u7, uc7, (pu G7 e7 [28, 0, -2, 0, ut, mu, 0]), U7, X7, f17, f21, ⟨(g17.i _ _ (by decide)).trans ((sI_nej (by decide)).trans (sI_eq)), (g17.i _ _ (by decide)).trans (sI_eq), (g17.i _ _ (by decide)).trans ((sI_nej (by decide)).trans ((sI_nej (by decide)).trans (q7_10))), e17_k0, (g17.i _ _ (by decide)).trans ((sI_nej (by decide)).trans ((sI_nej (by decide)).trans (q7_16))), (g17.i _ _ (by decide)).trans ((sI_nej (by decide)).trans ((sI_nej (by decide)).trans (q7_19)))⟩, ⟨e21_k0, e21_k1, e21_k2, (g21.i _ _ (by decide)).trans ((g19.i _ _ (by decide)).trans (w7_41)), (g21.i _ _ (by decide)).trans (e19_k0), (g21.i _ _ (by decide)).trans ((g19.i _ _ (by decide)).trans (w7_51)), (g21.i _ _ (by decide)).trans ((g19.i _ _ (by decide)).trans (w7_53)), (g21.i _ _ (by decide)).trans ((g19.i _ _ (by decide)).trans (w7_50)), p21_1⟩, ⟨(CA1.em (q := (e7 + 1)) (ca7.fr (W := W_c0) (Fr.sI (by decide) (Fr.sI (by decide) Fr.r)) (by decide)) (by omega) p17_1 (by omega)), ((RA1.em (q := (e7 + 1)) ra7 (by omega) p19_1 (by omega)).fr g21 (by decide)), ((lc7.fr (W := W_c0) (Fr.sI (by decide) (Fr.sI (by decide) Fr.r)) (by decide)).fr g17 (by decide)), ((lr7.fr g19 (by decide)).fr g21 (by decide)), ((cu7.fr (W := W_c0) (Fr.sI (by decide) (Fr.sI (by decide) Fr.r)) (by decide)).fr g17 (by decide)), ((ru7.fr g19 (by decide)).fr g21 (by decide))⟩, ⟨by omega, by omega, by omega, by omega, by omega, by omega, by omega, by omega, by omega, by omega, by omega, by omega⟩, ⟨by omega, by omega, by omega, by omega, by omega, by omega⟩, (Ag.pu (Ag.t Ag.r ag7 (by omega)) (by omega)), (Ag.t Ag.r au7 (by omega)), (AgL.t AgL.r ax7 (by omega)), tb15, du16, ((ku7.fr (W := W_c0) (Fr.sI (by decide) (Fr.sI (by decide) Fr.r)) (by decide)).fr g17 (by decide)), ⟨by omega, fun _ _ _ => rfl⟩⟩⟩)
    ·
      by_cases c22 : ((kd i7)) = 1
      ·
        refine rsl (cV_e (a64_1 (by omega) hS (hC.fr FL7) (hTk.fr (WL := W_cp) FL7 (by decide)) (q7_12) (q7_13) (q7_10) (li_59) (by omega))) ?_
        refine rsl (vC_e (ck_65 (hC.fr FL7).sI.sI.sI)) ?_
        refine RlI (y87 (by omega) (hC.fr FL7).sI.sI.sI (hTk.fr (WL := W_cp) (Fr.sI (by decide) (Fr.sI (by decide) (Fr.sI (by decide) FL7))) (by decide)) ((sI_nej (by decide)).trans ((sI_nej (by decide)).trans ((sI_nej (by decide)).trans (q7_12)))) (sI_eq) ((sI_nej (by decide)).trans ((sI_nej (by decide)).trans (sI_eq))) ((sI_nej (by decide)).trans (sI_eq)) ((sI_nej (by decide)).trans ((sI_nej (by decide)).trans ((sI_nej (by decide)).trans (q7_9)))) ((sI_nej (by decide)).trans ((sI_nej (by decide)).trans ((sI_nej (by decide)).trans (q7_16)))) ((sI_nej (by decide)).trans ((sI_nej (by decide)).trans ((sI_nej (by decide)).trans (q7_19)))) (rfl) (li_0) (by omega)) fun v Ma24 h24 => ?_
        obtain ⟨rv23, sz23, sn23, uc23, rfl, g24, e24_sz23, e24_sn23, e24_uc23, e24_k0, e24_k1, e24_k2, e24_k3, p24_0, p24_1, p24_2, p24_3⟩ := h24
        have f24 : Fr W_cp Mc Ma24 := Fr.t (Fr.sI (by decide) (Fr.sI (by decide) (Fr.sI (by decide) FL7))) (Fr.m g24 (by decide))
        refine rsl (cI_e rfl) ?_
        refine rsr (vC_e (rk_160 (hR.fr FR7))) ?_
        refine RrI (a196q (by omega) (hR.fr FR7) (w7_43) ((FR7.i _ _ (by decide)).trans h49) ((FR7.i _ _ (by decide)).trans h48) (li_28) (li_0) (q := (e7 + 1)) (by omega) (by omega)) fun v Ma26 h26 => ?_
        obtain ⟨r25, rfl, g26, e26_k0, p26_0, p26_1⟩ := h26
        have f26 : Fr W_rx Mr Ma26 := Fr.t FR7 (Fr.m g26 (by decide))
        refine rsr (cI_e rfl) ?_
        refine rsr (vC_e (rk_160 (hR.fr f26))) ?_
        refine rsr (cI_e (a195_59_1 (by omega) hS (hR.fr f26) ((g26.i _ _ (by decide)).trans (w7_36)) ((g26.i _ _ (by decide)).trans (w7_37)) ((g26.i _ _ (by decide)).trans (w7_41)) (li_59) (by omega))) ?_
        refine rsr (jv_e) ?_
        exact Rs.ok (Or.inr ⟨1, ((pl i7)), f24, (Fr.sI (by decide) (Fr.sI (by decide) (Fr.m f26 (by decide)))), ⟨i7, sz23, sn23, uc23, e24_k0, e24_k1, e24_k2, e24_k3, e24_sz23, e24_sn23, e24_uc23, by omega⟩, ⟨(e7 + 1), s, u7, mu, ut, (sI_nej (by decide)).trans (sI_eq), sI_eq, (sI_nej (by decide)).trans ((sI_nej (by decide)).trans (e26_k0)), (sI_nej (by decide)).trans ((sI_nej (by decide)).trans ((g26.i _ _ (by decide)).trans (w7_51))), (sI_nej (by decide)).trans ((sI_nej (by decide)).trans ((g26.i _ _ (by decide)).trans (w7_53))), (sI_nej (by decide)).trans ((sI_nej (by decide)).trans ((g26.i _ _ (by decide)).trans ((FR7.i _ _ (by decide)).trans h48))), (sI_nej (by decide)).trans ((sI_nej (by decide)).trans ((g26.i _ _ (by decide)).trans ((FR7.i _ _ (by decide)).trans h49))), by omega⟩⟩)
      ·
        refine rsl (cV_e (a64_2 (by omega) hS (hC.fr FL7) (hTk.fr (WL := W_cp) FL7 (by decide)) (q7_12) (q7_13) (q7_10) (li_59) (by omega))) ?_
        refine rsl (vC_e (ck_65 (hC.fr FL7).sI.sI.sI)) ?_
        refine RlI (y87 (by omega) (hC.fr FL7).sI.sI.sI (hTk.fr (WL := W_cp) (Fr.sI (by decide) (Fr.sI (by decide) (Fr.sI (by decide) FL7))) (by decide)) ((sI_nej (by decide)).trans ((sI_nej (by decide)).trans ((sI_nej (by decide)).trans (q7_12)))) (sI_eq) ((sI_nej (by decide)).trans ((sI_nej (by decide)).trans (sI_eq))) ((sI_nej (by decide)).trans (sI_eq)) ((sI_nej (by decide)).trans ((sI_nej (by decide)).trans ((sI_nej (by decide)).trans (q7_9)))) ((sI_nej (by decide)).trans ((sI_nej (by decide)).trans ((sI_nej (by decide)).trans (q7_16)))) ((sI_nej (by decide)).trans ((sI_nej (by decide)).trans ((sI_nej (by decide)).trans (q7_19)))) (rfl) (li_0) (by omega)) fun v Ma28 h28 => ?_
        obtain ⟨rv27, sz27, sn27, uc27, rfl, g28, e28_sz27, e28_sn27, e28_uc27, e28_k0, e28_k1, e28_k2, e28_k3, p28_0, p28_1, p28_2, p28_3⟩ := h28
        have f28 : Fr W_cp Mc Ma28 := Fr.t (Fr.sI (by decide) (Fr.sI (by decide) (Fr.sI (by decide) FL7))) (Fr.m g28 (by decide))
        refine rsl (cI_e rfl) ?_
        refine rsr (vC_e (rk_160 (hR.fr FR7))) ?_
        refine RrI (a196q (by omega) (hR.fr FR7) (w7_43) ((FR7.i _ _ (by decide)).trans h49) ((FR7.i _ _ (by decide)).trans h48) (li_28) (li_0) (q := (e7 + 1)) (by omega) (by omega)) fun v Ma30 h30 => ?_
        obtain ⟨r29, rfl, g30, e30_k0, p30_0, p30_1⟩ := h30
        have f30 : Fr W_rx Mr Ma30 := Fr.t FR7 (Fr.m g30 (by decide))
        refine rsr (cI_e rfl) ?_
        refine rsr (vC_e (rk_160 (hR.fr f30))) ?_
        refine rsr (cI_e (a195_59_2 (by omega) hS (hR.fr f30) ((g30.i _ _ (by decide)).trans (w7_36)) ((g30.i _ _ (by decide)).trans (w7_37)) ((g30.i _ _ (by decide)).trans (w7_41)) (li_59) (by omega))) ?_
        refine rsr (jv_e) ?_
        exact Rs.ok (Or.inr ⟨2, ((pl i7)), f28, (Fr.sI (by decide) (Fr.sI (by decide) (Fr.m f30 (by decide)))), ⟨i7, sz27, sn27, uc27, e28_k0, e28_k1, e28_k2, e28_k3, e28_sz27, e28_sn27, e28_uc27, by omega⟩, ⟨(e7 + 1), s, u7, mu, ut, (sI_nej (by decide)).trans (sI_eq), sI_eq, (sI_nej (by decide)).trans ((sI_nej (by decide)).trans (e30_k0)), (sI_nej (by decide)).trans ((sI_nej (by decide)).trans ((g30.i _ _ (by decide)).trans (w7_51))), (sI_nej (by decide)).trans ((sI_nej (by decide)).trans ((g30.i _ _ (by decide)).trans (w7_53))), (sI_nej (by decide)).trans ((sI_nej (by decide)).trans ((g30.i _ _ (by decide)).trans ((FR7.i _ _ (by decide)).trans h48))), (sI_nej (by decide)).trans ((sI_nej (by decide)).trans ((g30.i _ _ (by decide)).trans ((FR7.i _ _ (by decide)).trans h49))), by omega⟩⟩)
  ·
    have FL7 : Fr W_cp Mc Mx7 := Fr.t (Fr.sI (by decide) (Fr.sI (by decide) Fr.r)) fl7
    have FR7 : Fr W_rp Mr Nx7 := Fr.t (Fr.m f6 W_rx_p) fr7
    obtain ⟨ti7, tz7, tn7, tu7, t137, t107, t117, t127, t97, t167, t197, tb7⟩ := tc7
    obtain ⟨re7, rn7, ru7, rm7, rt7, u417, u427, u437, u517, u537, u487, u497, ub7⟩ := tr7
    refine rsl (cV_e rfl) ?_
    refine rsr (cV_e rfl) ?_
    refine rsl (vC_e (ck_65 (hC.fr FL7))) ?_
    refine RlV (y64 (by omega) (hC.fr FL7) (hTk.fr (WL := W_cp) FL7 (by decide)) (t127) (t137) (t107) (t117) (t97) (t167) (t197) (li_59) (by omega)) fun v Ma32 h32 => ?_
    obtain ⟨sz31, sn31, uc31, g32, e32_sz31, e32_sn31, e32_uc31, e32_k0, e32_k1, e32_k2, e32_k3, p32_0, p32_1, p32_2⟩ := h32
    have f32 : Fr W_cp Mc Ma32 := Fr.t FL7 (Fr.m g32 (by decide))
    refine rsl (cV_e rfl) ?_
    refine rsl (vC_e (ck_65 (hC.fr f32))) ?_
    refine RlI (y87 (by omega) (hC.fr f32) (hTk.fr (WL := W_cp) f32 (by decide)) (e32_k3) (e32_k0) (e32_k1) (e32_k2) (e32_sz31) (e32_sn31) (e32_uc31) (rfl) (li_0) (by omega)) fun v Ma34 h34 => ?_
    obtain ⟨rv33, sz33, sn33, uc33, rfl, g34, e34_sz33, e34_sn33, e34_uc33, e34_k0, e34_k1, e34_k2, e34_k3, p34_0, p34_1, p34_2, p34_3⟩ := h34
    have f34 : Fr W_cp Mc Ma34 := Fr.t f32 (Fr.m g34 (by decide))
    refine rsl (cI_e rfl) ?_
    refine rsr (vC_e (rk_160 (hR.fr FR7))) ?_
    refine RrI (x196_s (by omega) (hR.fr FR7) (u417) (u427) (u437) (u517) (u537) (u487) (u497) (li_28) (li_0) (by omega)) fun v Ma36 h36 => ?_
    obtain ⟨rv35, em35, rfl, g36, e36_em35, e36_k0, e36_k1, e36_k2, e36_k3, e36_k4, p36_0, p36_1⟩ := h36
    have f36 : Fr W_rp Mr Ma36 := Fr.t FR7 (Fr.m g36 (by decide))
    refine rsr (cI_e rfl) ?_
    refine rsr (vC_e (rk_160 (hR.fr f36))) ?_
    refine RrI (x195_s (by omega) (hR.fr f36) (e36_k0) (e36_k1) (e36_em35) (e36_k2) (e36_k3) (e36_k4) ((g36.i _ _ (by decide)).trans (u497)) (li_59) (by omega)) fun v Ma38 h38 => ?_
    obtain ⟨rv37, em37, rfl, g38, e38_em37, e38_k0, e38_k1, e38_k2, e38_k3, e38_k4, p38_0, p38_1⟩ := h38
    have f38 : Fr W_rp Mr Ma38 := Fr.t f36 (Fr.m g38 (by decide))
    refine rsr (cI_e rfl) ?_
    refine rsr (jv_e) ?_
    exact Rs.ok (Or.inr ⟨F7, P7, f34, f38, ⟨ti7, sz33, sn33, uc33, e34_k0, e34_k1, e34_k2, e34_k3, e34_sz33, e34_sn33, e34_uc33, by omega⟩, ⟨em37, rn7, ru7, rm7, rt7, e38_k0, e38_k1, e38_em37, e38_k2, e38_k3, e38_k4, (g38.i _ _ (by decide)).trans ((g36.i _ _ (by decide)).trans (u497)), by omega⟩⟩)
theorem p_st221 {D : Nat} {dp : Int} (hD : 20 ≤ D) (hE : Pair D 99 [0] 211 14 dp) : PairT 221 91 [.int (iI 29)] (D + 10) dp := by
  intro d d2 hd hd2 T n m kd pl E tx ua ut mu Mc Mr G U Hl X i e s u uc v0 hS hx hsc hsr hrw hbd hK hv0
  obtain ⟨d, rfl⟩ : ∃ e, d = e + 1 := ⟨d - 1, by omega⟩
  obtain ⟨d2, rfl⟩ : ∃ e, d2 = e + 1 := ⟨d2 - 1, by omega⟩
  show Rs (runX (d + 1) 91 [va_rf (some 65), .int (iI 29), .int v0] Mc) (runX (d2 + 1) 214 [va_rf (some 160)] Mr) _
  rw [r91]; unfold b91; rw [aR_e, aI_e, aI_e, aZ_e]; unfold c91; rw [r214]; unfold b214; rw [aR_e, aZ_e]; unfold c214
  have hCx := hx
  obtain ⟨hC, hR, hTk, hT, hW, ⟨hu1, hu2, hu3, hu4⟩, h49, h48, ⟨hb1, hb2, hb3, hb4⟩⟩ := hx
  obtain ⟨bb_0, bb_1, bb_2, bb_3, bb_4, bb_5, bb_6, bb_7, bb_8, bb_9, bb_10, bb_11⟩ := hbd
  have kua : KU uc Mc Mc := KU.r
  obtain ⟨qa_12, qa_13, qa_10, qa_9, qa_16, qa_19⟩ := hsc
  obtain ⟨wa_36, wa_37, wa_38, wa_41, wa_43, wa_51, wa_53, wa_50, wa_n⟩ := hsr
  obtain ⟨caa, raa, lca, lra, cua, rua⟩ := hrw
  have hk1 := (hS.ok i (by omega) (by omega)).r
  have ty2 := (Tye.r (G := G) (a := e) (s := s))
  have du3 := (DU.r (ut := ut) (mu := mu) (c := uc) (G := G) (U := U) (X := X) (a := e) (u := u))
  refine rsl (vC_e (ck_65 hC)) ?_
  have hm4 : i + 1 < m := hS.more i (by omega) (by omega) (by omega)
  refine rsl (cV_e (a63q (by omega) hS hC (hTk.fr (WL := W_cp) Fr.r (by decide)) (qa_12) (qa_13) (qa_10) (i2 := (i + 1)) (by omega) (by omega))) ?_
  have hk5 := (hS.ok (i + 1) (by omega) (by omega)).r
  refine rsl (vC_e (ck_65 hC.sI.sI)) ?_
  refine rsr (gtI_q (w := iI ((kr (kd i)))) (rk_160 hR) (wa_36)) ?_
  refine rsr (jn_v) ?_
  refine rsr (swI_c) ?_
  refine rsr (if_neg (krI_n (k := 215) (rfl) (li_416) (hS.ok i (by omega) (by omega)) (by unfold KdOK sgk; omega) (by decide +kernel) (by omega) (by omega))) ?_
  refine rsr (swI_c) ?_
  refine rsr (if_neg (krI_n (k := 216) (rfl) (li_417) (hS.ok i (by omega) (by omega)) (by unfold KdOK sgk; omega) (by decide +kernel) (by omega) (by omega))) ?_
  refine rsr (swI_c) ?_
  refine rsr (if_neg (krI_n (k := 217) (rfl) (li_418) (hS.ok i (by omega) (by omega)) (by unfold KdOK sgk; omega) (by decide +kernel) (by omega) (by omega))) ?_
  refine rsr (swI_c) ?_
  refine rsr (if_neg (krI_n (k := 218) (rfl) (li_419) (hS.ok i (by omega) (by omega)) (by unfold KdOK sgk; omega) (by decide +kernel) (by omega) (by omega))) ?_
  refine rsr (swI_c) ?_
  refine rsr (if_neg (krI_n (k := 219) (rfl) (li_420) (hS.ok i (by omega) (by omega)) (by unfold KdOK sgk; omega) (by decide +kernel) (by omega) (by omega))) ?_
  refine rsr (swI_c) ?_
  refine rsr (if_neg (krI_n (k := 220) (rfl) (li_421) (hS.ok i (by omega) (by omega)) (by unfold KdOK sgk; omega) (by decide +kernel) (by omega) (by omega))) ?_
  refine rsr (swI_c) ?_
  refine rsr (if_pos (krI_p (k := 221) (rfl) (li_422) (by omega) (by decide +kernel))) ?_
  refine rsr (gtI_q (w := iI ((kr (kd i)))) (rk_160 hR) (wa_36)) ?_
  refine rsr (jn_v) ?_
  refine rsr (if_neg (krI_n (k := 219) (rfl) (li_420) (hS.ok i (by omega) (by omega)) (by unfold KdOK sgk; omega) (by decide +kernel) (by omega) (by omega))) ?_
  refine rsr (gtI_q (w := iI ((kr (kd i)))) (rk_160 hR) (wa_36)) ?_
  refine rsr (if_neg (krI_n (k := 220) (rfl) (li_421) (hS.ok i (by omega) (by omega)) (by unfold KdOK sgk; omega) (by decide +kernel) (by omega) (by omega))) ?_
  refine rsr (jv_e) ?_
  refine rsr (vC_e (rk_160 hR)) ?_
  refine RrV (nx_q (by omega) hS hR (hT.fr (W := W_rx) Fr.r (by decide) (by decide)) (fun i a b => (Fr.lc (W := W_rx) Fr.r _ (by decide) _).trans (hW i a b)) (i := i) (i2 := (i + 1)) (wa_41) (wa_38) (by omega) (by omega) (by omega)) fun v Ma6 h6 => ?_
  obtain ⟨g6, e6_k0, e6_k1, e6_k2, p6_0⟩ := h6
  have f6 : Fr W_rx Mr Ma6 := Fr.t Fr.r (Fr.m g6 (by decide))
  refine rsr (cV_e rfl) ?_
  refine rsr (vC_e (rk_160 (hR.fr f6))) ?_
  refine Rb_VV (hE _ _ (by omega) (by omega) T n m kd pl E tx ua ut mu _ _ G U Hl X (i + 1) e s u uc _ hS (hCx.fr (Fr.sI (by decide) (Fr.sI (by decide) Fr.r)) f6) ⟨(sI_nej (by decide)).trans (sI_eq), sI_eq, (sI_nej (by decide)).trans ((sI_nej (by decide)).trans (qa_10)), (sI_nej (by decide)).trans ((sI_nej (by decide)).trans (qa_9)), (sI_nej (by decide)).trans ((sI_nej (by decide)).trans (qa_16)), (sI_nej (by decide)).trans ((sI_nej (by decide)).trans (qa_19))⟩ ⟨e6_k0, e6_k1, e6_k2, (g6.i _ _ (by decide)).trans (wa_41), (g6.i _ _ (by decide)).trans (wa_43), (g6.i _ _ (by decide)).trans (wa_51), (g6.i _ _ (by decide)).trans (wa_53), (g6.i _ _ (by decide)).trans (wa_50), p6_0⟩ ⟨(caa.fr (W := W_c0) (Fr.sI (by decide) (Fr.sI (by decide) Fr.r)) (by decide)), (raa.fr g6 (by decide)), (lca.fr (W := W_c0) (Fr.sI (by decide) (Fr.sI (by decide) Fr.r)) (by decide)), (lra.fr g6 (by decide)), (cua.fr (W := W_c0) (Fr.sI (by decide) (Fr.sI (by decide) Fr.r)) (by decide)), (rua.fr g6 (by decide))⟩ ⟨by omega, by omega, by omega, by omega, by omega, by omega, by omega, by omega, by omega, by omega, by omega, by omega⟩ (vs2 (li_0) (hv0))) fun v Mx7 w Nx7 hx7 => ?_
  rcases hx7 with ⟨i7, e7, u7, uc7, G7, U7, X7, fl7, fr7, sc7, sr7, rw7, bd7, mv7, ag7, au7, ax7, tp7, dp7, kv7⟩ | ⟨F7, P7, fl7, fr7, tc7, tr7⟩
  ·
    have FL7 : Fr W_cp Mc Mx7 := Fr.t (Fr.sI (by decide) (Fr.sI (by decide) Fr.r)) fl7
    have FR7 : Fr W_rx Mr Nx7 := Fr.t f6 fr7
    obtain ⟨bb7_0, bb7_1, bb7_2, bb7_3, bb7_4, bb7_5, bb7_6, bb7_7, bb7_8, bb7_9, bb7_10, bb7_11⟩ := bd7
    obtain ⟨q7_12, q7_13, q7_10, q7_9, q7_16, q7_19⟩ := sc7
    obtain ⟨w7_36, w7_37, w7_38, w7_41, w7_43, w7_51, w7_53, w7_50, w7_n⟩ := sr7
    obtain ⟨ca7, ra7, lc7, lr7, cu7, ru7⟩ := rw7
    have hk8 := (hS.ok i7 (by omega) (by omega)).r
    have ku7 := KU.t (kua.fr (W := W_c0) (Fr.sI (by decide) (Fr.sI (by decide) Fr.r)) (by decide)) kv7 (by omega)
    have ty9 := Tye.t (d3 := 1) ty2 ag7 tp7 (by omega)
    have du10 := DU.t du3 ag7 au7 ax7 dp7 (by omega)
    refine rsl (cV_e rfl) ?_
    refine rsr (cV_e rfl) ?_
    refine rsl (vC_e (ck_65 (hC.fr FL7))) ?_
    by_cases c11 : ((kd i7)) = 59
    ·
      have hm12 : i7 + 1 < m := hS.more i7 (by omega) (by omega) (by omega)
      refine rsl (cV_e (a64q (by omega) hS (hC.fr FL7) (hTk.fr (WL := W_cp) FL7 (by decide)) (q7_12) (q7_13) (q7_10) (li_59) (i2 := (i7 + 1)) (by omega) (by omega))) ?_
      have hk13 := (hS.ok (i7 + 1) (by omega) (by omega)).r
      refine rsl (vC_e (ck_65 (hC.fr FL7).sI.sI)) ?_
      have tb15 := Tyb.ex (dp := dp) (d := 1) (s' := s) (q := (e7 + 1)) (n1 := 0) (ut := ut) (mu := mu) (l := []) ty9 (Or.inr (Or.inr (Or.inr (Or.inl (by omega)))) : Eff 29 0 0 1 s 0 s) (by omega) ⟨by omega, by omega⟩ (by omega)
      have du16 := DU.em (q := (e7 + 1)) (o := 29) (n := 0) (p := -2) (l := [0]) du10 (by omega) (by omega)
      refine RlI (a87q (by omega) (hC.fr FL7).sI.sI ((sI_nej (by decide)).trans ((sI_nej (by decide)).trans (q7_9))) (rfl) (li_0) (q := (e7 + 1)) (by omega) (by omega)) fun v Ma17 h17 => ?_
      obtain ⟨r14, rfl, g17, e17_k0, p17_0, p17_1⟩ := h17
      have f17 : Fr W_cp Mc Ma17 := Fr.t (Fr.sI (by decide) (Fr.sI (by decide) FL7)) (Fr.m g17 (by decide))
      refine rsl (cI_e rfl) ?_
      refine rsr (vC_e (rk_160 (hR.fr FR7))) ?_
      refine RrI (a196q (by omega) (hR.fr FR7) (w7_43) ((FR7.i _ _ (by decide)).trans h49) ((FR7.i _ _ (by decide)).trans h48) (li_29) (li_0) (q := (e7 + 1)) (by omega) (by omega)) fun v Ma19 h19 => ?_
      obtain ⟨r18, rfl, g19, e19_k0, p19_0, p19_1⟩ := h19
      have f19 : Fr W_rx Mr Ma19 := Fr.t FR7 (Fr.m g19 (by decide))
      refine rsr (cI_e rfl) ?_
      refine rsr (vC_e (rk_160 (hR.fr f19))) ?_
      refine RrI (a195_59 (by omega) hS (hR.fr f19) (hT.fr (W := W_rx) f19 (by decide) (by decide)) (fun i a b => (Fr.lc (W := W_rx) f19 _ (by decide) _).trans (hW i a b)) ((g19.i _ _ (by decide)).trans (w7_36)) ((g19.i _ _ (by decide)).trans (w7_37)) ((g19.i _ _ (by decide)).trans (w7_38)) ((g19.i _ _ (by decide)).trans (w7_41)) (li_59) (i2 := (i7 + 1)) (by omega) (by omega)) fun v Ma21 h21 => ?_
      obtain ⟨r20, rfl, g21, e21_k0, e21_k1, e21_k2, p21_0, p21_1⟩ := h21
      have f21 : Fr W_rx Mr Ma21 := Fr.t f19 (Fr.m g21 (by decide))
      refine rsr (cI_e rfl) ?_
      refine rsr (jv_e) ?_
      exact Rs.ok (Or.inl ⟨(i7 + 1), s, Hl, ⟨(e7 + 1), u7, uc7, (pu G7 e7 [29, 0, -2, 0, ut, mu, 0]), U7, X7, f17, f21, ⟨(g17.i _ _ (by decide)).trans ((sI_nej (by decide)).trans (sI_eq)), (g17.i _ _ (by decide)).trans (sI_eq), (g17.i _ _ (by decide)).trans ((sI_nej (by decide)).trans ((sI_nej (by decide)).trans (q7_10))), e17_k0, (g17.i _ _ (by decide)).trans ((sI_nej (by decide)).trans ((sI_nej (by decide)).trans (q7_16))), (g17.i _ _ (by decide)).trans ((sI_nej (by decide)).trans ((sI_nej (by decide)).trans (q7_19)))⟩, ⟨e21_k0, e21_k1, e21_k2, (g21.i _ _ (by decide)).trans ((g19.i _ _ (by decide)).trans (w7_41)), (g21.i _ _ (by decide)).trans (e19_k0), (g21.i _ _ (by decide)).trans ((g19.i _ _ (by decide)).trans (w7_51)), (g21.i _ _ (by decide)).trans ((g19.i _ _ (by decide)).trans (w7_53)), (g21.i _ _ (by decide)).trans ((g19.i _ _ (by decide)).trans (w7_50)), p21_1⟩, ⟨(CA1.em (q := (e7 + 1)) (ca7.fr (W := W_c0) (Fr.sI (by decide) (Fr.sI (by decide) Fr.r)) (by decide)) (by omega) p17_1 (by omega)), ((RA1.em (q := (e7 + 1)) ra7 (by omega) p19_1 (by omega)).fr g21 (by decide)), ((lc7.fr (W := W_c0) (Fr.sI (by decide) (Fr.sI (by decide) Fr.r)) (by decide)).fr g17 (by decide)), ((lr7.fr g19 (by decide)).fr g21 (by decide)), ((cu7.fr (W := W_c0) (Fr.sI (by decide) (Fr.sI (by decide) Fr.r)) (by decide)).fr g17 (by decide)), ((ru7.fr g19 (by decide)).fr g21 (by decide))⟩, ⟨by omega, by omega, by omega, by omega, by omega, by omega, by omega, by omega, by omega, by omega, by omega, by omega⟩, ⟨by omega, by omega, by omega, by omega, by omega, by omega⟩, (Ag.pu (Ag.t Ag.r ag7 (by omega)) (by omega)), (Ag.t Ag.r au7 (by omega)), (AgL.t AgL.r ax7 (by omega)), tb15, du16, ((ku7.fr (W := W_c0) (Fr.sI (by decide) (Fr.sI (by decide) Fr.r)) (by decide)).fr g17 (by decide)), ⟨by omega, fun _ _ _ => rfl⟩⟩⟩)
    ·
      by_cases c22 : ((kd i7)) = 1
      ·
        refine rsl (cV_e (a64_1 (by omega) hS (hC.fr FL7) (hTk.fr (WL := W_cp) FL7 (by decide)) (q7_12) (q7_13) (q7_10) (li_59) (by omega))) ?_
        refine rsl (vC_e (ck_65 (hC.fr FL7).sI.sI.sI)) ?_
        refine RlI (y87 (by omega) (hC.fr FL7).sI.sI.sI (hTk.fr (WL := W_cp) (Fr.sI (by decide) (Fr.sI (by decide) (Fr.sI (by decide) FL7))) (by decide)) ((sI_nej (by decide)).trans ((sI_nej (by decide)).trans ((sI_nej (by decide)).trans (q7_12)))) (sI_eq) ((sI_nej (by decide)).trans ((sI_nej (by decide)).trans (sI_eq))) ((sI_nej (by decide)).trans (sI_eq)) ((sI_nej (by decide)).trans ((sI_nej (by decide)).trans ((sI_nej (by decide)).trans (q7_9)))) ((sI_nej (by decide)).trans ((sI_nej (by decide)).trans ((sI_nej (by decide)).trans (q7_16)))) ((sI_nej (by decide)).trans ((sI_nej (by decide)).trans ((sI_nej (by decide)).trans (q7_19)))) (rfl) (li_0) (by omega)) fun v Ma24 h24 => ?_
        obtain ⟨rv23, sz23, sn23, uc23, rfl, g24, e24_sz23, e24_sn23, e24_uc23, e24_k0, e24_k1, e24_k2, e24_k3, p24_0, p24_1, p24_2, p24_3⟩ := h24
        have f24 : Fr W_cp Mc Ma24 := Fr.t (Fr.sI (by decide) (Fr.sI (by decide) (Fr.sI (by decide) FL7))) (Fr.m g24 (by decide))
        refine rsl (cI_e rfl) ?_
        refine rsr (vC_e (rk_160 (hR.fr FR7))) ?_
        refine RrI (a196q (by omega) (hR.fr FR7) (w7_43) ((FR7.i _ _ (by decide)).trans h49) ((FR7.i _ _ (by decide)).trans h48) (li_29) (li_0) (q := (e7 + 1)) (by omega) (by omega)) fun v Ma26 h26 => ?_
        obtain ⟨r25, rfl, g26, e26_k0, p26_0, p26_1⟩ := h26
        have f26 : Fr W_rx Mr Ma26 := Fr.t FR7 (Fr.m g26 (by decide))
        refine rsr (cI_e rfl) ?_
        refine rsr (vC_e (rk_160 (hR.fr f26))) ?_
        refine rsr (cI_e (a195_59_1 (by omega) hS (hR.fr f26) ((g26.i _ _ (by decide)).trans (w7_36)) ((g26.i _ _ (by decide)).trans (w7_37)) ((g26.i _ _ (by decide)).trans (w7_41)) (li_59) (by omega))) ?_
        refine rsr (jv_e) ?_
        exact Rs.ok (Or.inr ⟨1, ((pl i7)), f24, (Fr.sI (by decide) (Fr.sI (by decide) (Fr.m f26 (by decide)))), ⟨i7, sz23, sn23, uc23, e24_k0, e24_k1, e24_k2, e24_k3, e24_sz23, e24_sn23, e24_uc23, by omega⟩, ⟨(e7 + 1), s, u7, mu, ut, (sI_nej (by decide)).trans (sI_eq), sI_eq, (sI_nej (by decide)).trans ((sI_nej (by decide)).trans (e26_k0)), (sI_nej (by decide)).trans ((sI_nej (by decide)).trans ((g26.i _ _ (by decide)).trans (w7_51))), (sI_nej (by decide)).trans ((sI_nej (by decide)).trans ((g26.i _ _ (by decide)).trans (w7_53))), (sI_nej (by decide)).trans ((sI_nej (by decide)).trans ((g26.i _ _ (by decide)).trans ((FR7.i _ _ (by decide)).trans h48))), (sI_nej (by decide)).trans ((sI_nej (by decide)).trans ((g26.i _ _ (by decide)).trans ((FR7.i _ _ (by decide)).trans h49))), by omega⟩⟩)
      ·
        refine rsl (cV_e (a64_2 (by omega) hS (hC.fr FL7) (hTk.fr (WL := W_cp) FL7 (by decide)) (q7_12) (q7_13) (q7_10) (li_59) (by omega))) ?_
        refine rsl (vC_e (ck_65 (hC.fr FL7).sI.sI.sI)) ?_
        refine RlI (y87 (by omega) (hC.fr FL7).sI.sI.sI (hTk.fr (WL := W_cp) (Fr.sI (by decide) (Fr.sI (by decide) (Fr.sI (by decide) FL7))) (by decide)) ((sI_nej (by decide)).trans ((sI_nej (by decide)).trans ((sI_nej (by decide)).trans (q7_12)))) (sI_eq) ((sI_nej (by decide)).trans ((sI_nej (by decide)).trans (sI_eq))) ((sI_nej (by decide)).trans (sI_eq)) ((sI_nej (by decide)).trans ((sI_nej (by decide)).trans ((sI_nej (by decide)).trans (q7_9)))) ((sI_nej (by decide)).trans ((sI_nej (by decide)).trans ((sI_nej (by decide)).trans (q7_16)))) ((sI_nej (by decide)).trans ((sI_nej (by decide)).trans ((sI_nej (by decide)).trans (q7_19)))) (rfl) (li_0) (by omega)) fun v Ma28 h28 => ?_
        obtain ⟨rv27, sz27, sn27, uc27, rfl, g28, e28_sz27, e28_sn27, e28_uc27, e28_k0, e28_k1, e28_k2, e28_k3, p28_0, p28_1, p28_2, p28_3⟩ := h28
        have f28 : Fr W_cp Mc Ma28 := Fr.t (Fr.sI (by decide) (Fr.sI (by decide) (Fr.sI (by decide) FL7))) (Fr.m g28 (by decide))
        refine rsl (cI_e rfl) ?_
        refine rsr (vC_e (rk_160 (hR.fr FR7))) ?_
        refine RrI (a196q (by omega) (hR.fr FR7) (w7_43) ((FR7.i _ _ (by decide)).trans h49) ((FR7.i _ _ (by decide)).trans h48) (li_29) (li_0) (q := (e7 + 1)) (by omega) (by omega)) fun v Ma30 h30 => ?_
        obtain ⟨r29, rfl, g30, e30_k0, p30_0, p30_1⟩ := h30
        have f30 : Fr W_rx Mr Ma30 := Fr.t FR7 (Fr.m g30 (by decide))
        refine rsr (cI_e rfl) ?_
        refine rsr (vC_e (rk_160 (hR.fr f30))) ?_
        refine rsr (cI_e (a195_59_2 (by omega) hS (hR.fr f30) ((g30.i _ _ (by decide)).trans (w7_36)) ((g30.i _ _ (by decide)).trans (w7_37)) ((g30.i _ _ (by decide)).trans (w7_41)) (li_59) (by omega))) ?_
        refine rsr (jv_e) ?_
        exact Rs.ok (Or.inr ⟨2, ((pl i7)), f28, (Fr.sI (by decide) (Fr.sI (by decide) (Fr.m f30 (by decide)))), ⟨i7, sz27, sn27, uc27, e28_k0, e28_k1, e28_k2, e28_k3, e28_sz27, e28_sn27, e28_uc27, by omega⟩, ⟨(e7 + 1), s, u7, mu, ut, (sI_nej (by decide)).trans (sI_eq), sI_eq, (sI_nej (by decide)).trans ((sI_nej (by decide)).trans (e30_k0)), (sI_nej (by decide)).trans ((sI_nej (by decide)).trans ((g30.i _ _ (by decide)).trans (w7_51))), (sI_nej (by decide)).trans ((sI_nej (by decide)).trans ((g30.i _ _ (by decide)).trans (w7_53))), (sI_nej (by decide)).trans ((sI_nej (by decide)).trans ((g30.i _ _ (by decide)).trans ((FR7.i _ _ (by decide)).trans h48))), (sI_nej (by decide)).trans ((sI_nej (by decide)).trans ((g30.i _ _ (by decide)).trans ((FR7.i _ _ (by decide)).trans h49))), by omega⟩⟩)
  ·
    have FL7 : Fr W_cp Mc Mx7 := Fr.t (Fr.sI (by decide) (Fr.sI (by decide) Fr.r)) fl7
    have FR7 : Fr W_rp Mr Nx7 := Fr.t (Fr.m f6 W_rx_p) fr7
    obtain ⟨ti7, tz7, tn7, tu7, t137, t107, t117, t127, t97, t167, t197, tb7⟩ := tc7
    obtain ⟨re7, rn7, ru7, rm7, rt7, u417, u427, u437, u517, u537, u487, u497, ub7⟩ := tr7
    refine rsl (cV_e rfl) ?_
    refine rsr (cV_e rfl) ?_
    refine rsl (vC_e (ck_65 (hC.fr FL7))) ?_
    refine RlV (y64 (by omega) (hC.fr FL7) (hTk.fr (WL := W_cp) FL7 (by decide)) (t127) (t137) (t107) (t117) (t97) (t167) (t197) (li_59) (by omega)) fun v Ma32 h32 => ?_
    obtain ⟨sz31, sn31, uc31, g32, e32_sz31, e32_sn31, e32_uc31, e32_k0, e32_k1, e32_k2, e32_k3, p32_0, p32_1, p32_2⟩ := h32
    have f32 : Fr W_cp Mc Ma32 := Fr.t FL7 (Fr.m g32 (by decide))
    refine rsl (cV_e rfl) ?_
    refine rsl (vC_e (ck_65 (hC.fr f32))) ?_
    refine RlI (y87 (by omega) (hC.fr f32) (hTk.fr (WL := W_cp) f32 (by decide)) (e32_k3) (e32_k0) (e32_k1) (e32_k2) (e32_sz31) (e32_sn31) (e32_uc31) (rfl) (li_0) (by omega)) fun v Ma34 h34 => ?_
    obtain ⟨rv33, sz33, sn33, uc33, rfl, g34, e34_sz33, e34_sn33, e34_uc33, e34_k0, e34_k1, e34_k2, e34_k3, p34_0, p34_1, p34_2, p34_3⟩ := h34
    have f34 : Fr W_cp Mc Ma34 := Fr.t f32 (Fr.m g34 (by decide))
    refine rsl (cI_e rfl) ?_
    refine rsr (vC_e (rk_160 (hR.fr FR7))) ?_
    refine RrI (x196_s (by omega) (hR.fr FR7) (u417) (u427) (u437) (u517) (u537) (u487) (u497) (li_29) (li_0) (by omega)) fun v Ma36 h36 => ?_
    obtain ⟨rv35, em35, rfl, g36, e36_em35, e36_k0, e36_k1, e36_k2, e36_k3, e36_k4, p36_0, p36_1⟩ := h36
    have f36 : Fr W_rp Mr Ma36 := Fr.t FR7 (Fr.m g36 (by decide))
    refine rsr (cI_e rfl) ?_
    refine rsr (vC_e (rk_160 (hR.fr f36))) ?_
    refine RrI (x195_s (by omega) (hR.fr f36) (e36_k0) (e36_k1) (e36_em35) (e36_k2) (e36_k3) (e36_k4) ((g36.i _ _ (by decide)).trans (u497)) (li_59) (by omega)) fun v Ma38 h38 => ?_
    obtain ⟨rv37, em37, rfl, g38, e38_em37, e38_k0, e38_k1, e38_k2, e38_k3, e38_k4, p38_0, p38_1⟩ := h38
    have f38 : Fr W_rp Mr Ma38 := Fr.t f36 (Fr.m g38 (by decide))
    refine rsr (cI_e rfl) ?_
    refine rsr (jv_e) ?_
    exact Rs.ok (Or.inr ⟨F7, P7, f34, f38, ⟨ti7, sz33, sn33, uc33, e34_k0, e34_k1, e34_k2, e34_k3, e34_sz33, e34_sn33, e34_uc33, by omega⟩, ⟨em37, rn7, ru7, rm7, rt7, e38_k0, e38_k1, e38_em37, e38_k2, e38_k3, e38_k4, (g38.i _ _ (by decide)).trans ((g36.i _ _ (by decide)).trans (u497)), by omega⟩⟩)
