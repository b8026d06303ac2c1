set_option maxHeartbeats 8000000 in
theorem p_st3 {D : Nat} {dp : Int} (hD : 20 ≤ D) (hE : Pair D 99 [0] 211 14 dp) (hX : PairK 91 D 98 [] 203 24 dp) (hCl : PairC D 24 dp) : PairT 3 96 [] (D + 10) dp := by
  intro d d2 hd hd2 T n m kd pl E tx ua ut mu Mc Mr G U Hl X i e s u uc v0 hS hx hsc hsr hrw hbd hK hv0
  obtain ⟨d, rfl⟩ : ∃ e, d = e + 1 := ⟨d - 1, by omega⟩
  obtain ⟨d2, rfl⟩ : ∃ e, d2 = e + 1 := ⟨d2 - 1, by omega⟩
  show Rs (runX (d + 1) 96 [va_rf (some 65), .int v0] Mc) (runX (d2 + 1) 214 [va_rf (some 160)] Mr) _
  rw [r96]; unfold b96; rw [aR_e, aI_e, aZ_e]; unfold c96; rw [r214]; unfold b214; rw [aR_e, aZ_e]; unfold c214
  have hCx := hx
  obtain ⟨hC, hR, hTk, hT, hW, ⟨hu1, hu2, hu3, hu4⟩, h49, h48, ⟨hb1, hb2, hb3, hb4⟩⟩ := hx
  obtain ⟨bb_0, bb_1, bb_2, bb_3, bb_4, bb_5, bb_6, bb_7, bb_8, bb_9, bb_10, bb_11⟩ := hbd
  have kua : KU uc Mc Mc := KU.r
  obtain ⟨qa_12, qa_13, qa_10, qa_9, qa_16, qa_19⟩ := hsc
  obtain ⟨wa_36, wa_37, wa_38, wa_41, wa_43, wa_51, wa_53, wa_50, wa_n⟩ := hsr
  obtain ⟨caa, raa, lca, lra, cua, rua⟩ := hrw
  have hk1 := (hS.ok i (by omega) (by omega)).r
  have ty2 := (Tye.r (G := G) (a := e) (s := s))
  have du3 := (DU.r (ut := ut) (mu := mu) (c := uc) (G := G) (U := U) (X := X) (a := e) (u := u))
  refine rsl (vC_e (ck_65 hC)) ?_
  have hm4 : i + 1 < m := hS.more i (by omega) (by omega) (by omega)
  have hk5 := (hS.ok (i + 1) (by omega) (by omega)).r
  by_cases c6 : ((kd (i + 1))) = 46
  ·
    have hm7 : (i + 1) + 1 < m := hS.more (i + 1) (by omega) (by omega) (by omega)
    have hk8 := (hS.ok (i + 2) (by omega) (by omega)).r
    by_cases c9 : ((kd (i + 2))) = 3
    ·
      have hm10 : (i + 2) + 1 < m := hS.more (i + 2) (by omega) (by omega) (by omega)
      have hk11 := (hS.ok (i + 3) (by omega) (by omega)).r
      have hlt : ∀ j, 0 ≤ j → j < u → U 0 j < uc := fun j a b => (cua.1 j a b).1.2
      refine RlI (a104_d (by omega) hS hC (hTk.fr (WL := W_cp) Fr.r (by decide)) hu1 (by rw [(Fr.r : Fr W_cp Mc _).p]; exact hu2) (Fr.kd (W := W_cp) Fr.r hu3) ((Fr.i (W := W_cp) Fr.r _ _ (inW_hi (by decide) hu1 _)).trans hu4) (qa_12) (qa_13) (qa_10) (qa_19) (by omega)) fun v Ma13 h13 => ?_
      obtain ⟨r12, rfl, g13, e13_k0, e13_k1, e13_k2, e13_k3, p13_0, p13_1⟩ := h13
      have f13 : Fr W_cp Mc Ma13 := Fr.t Fr.r (Fr.m g13 (by decide))
      refine rsl (cI_e rfl) ?_
      refine rsl (gtI_q (w := iI ((kd (i + 3)))) (ck_65 (hC.fr f13)) (e13_k2)) ?_
      by_cases c14 : ((kd (i + 3))) = 40
      · refine rsl (if_pos (eqI_p (rfl) (li_40) (by omega))) ?_
        refine rsl (vC_e (ck_65 (hC.fr f13))) ?_
        refine rsr (gtI_q (w := iI ((kr (kd i)))) (rk_160 hR) (wa_36)) ?_
        refine rsr (jn_v) ?_
        refine rsr (swI_c) ?_
        refine rsr (if_neg (krI_n (k := 215) (rfl) (li_416) (hS.ok i (by omega) (by omega)) (by unfold KdOK sgk; omega) (by decide +kernel) (by omega) (by omega))) ?_
        refine rsr (swI_c) ?_
        refine rsr (if_neg (krI_n (k := 216) (rfl) (li_417) (hS.ok i (by omega) (by omega)) (by unfold KdOK sgk; omega) (by decide +kernel) (by omega) (by omega))) ?_
        refine rsr (swI_c) ?_
        refine rsr (if_neg (krI_n (k := 217) (rfl) (li_418) (hS.ok i (by omega) (by omega)) (by unfold KdOK sgk; omega) (by decide +kernel) (by omega) (by omega))) ?_
        refine rsr (swI_c) ?_
        refine rsr (if_neg (krI_n (k := 218) (rfl) (li_419) (hS.ok i (by omega) (by omega)) (by unfold KdOK sgk; omega) (by decide +kernel) (by omega) (by omega))) ?_
        refine rsr (swI_c) ?_
        refine rsr (if_neg (krI_n (k := 219) (rfl) (li_420) (hS.ok i (by omega) (by omega)) (by unfold KdOK sgk; omega) (by decide +kernel) (by omega) (by omega))) ?_
        refine rsr (swI_c) ?_
        refine rsr (if_neg (krI_n (k := 220) (rfl) (li_421) (hS.ok i (by omega) (by omega)) (by unfold KdOK sgk; omega) (by decide +kernel) (by omega) (by omega))) ?_
        refine rsr (swI_c) ?_
        refine rsr (if_neg (krI_n (k := 221) (rfl) (li_422) (hS.ok i (by omega) (by omega)) (by unfold KdOK sgk; omega) (by decide +kernel) (by omega) (by omega))) ?_
        refine rsr (swI_c) ?_
        refine rsr (if_neg (krI_n (k := 222) (rfl) (li_423) (hS.ok i (by omega) (by omega)) (by unfold KdOK sgk; omega) (by decide +kernel) (by omega) (by omega))) ?_
        refine rsr (swI_n) ?_
        refine rsr (gtI_q (w := iI ((kr (kd i)))) (rk_160 hR) (wa_36)) ?_
        refine rsr (jn_v) ?_
        refine rsr (if_pos (krI_p (k := 3) (rfl) (li_1) (by omega) (by decide +kernel))) ?_
        refine rsr (jv_e) ?_
        refine rsr (vC_e (rk_160 hR)) ?_
        refine rsr (cI_e (ar193_p (by omega) hS hR (wa_36) (wa_37) (wa_41) (li_1) (by omega))) ?_
        refine rsr (if_neg (eqI_n (rfl) (li_0) (by omega))) ?_
        refine rsr (vC_e (rk_160 hR)) ?_
        refine Rs_cVr ?_ (fun v M w N h => rs1 jv_e (Rt.ok h))
        obtain ⟨d2, rfl⟩ : ∃ e, d2 = e + 1 := ⟨d2 - 1, by omega⟩
        rw [r217]; unfold b217; rw [aR_e, aZ_e]; unfold c217
        refine rsr (vC_e (rk_160 hR)) ?_
        refine RrI (a201_d (by omega) hS hR (hT.fr (W := W_rx) Fr.r (by decide) (by decide)) (fun i a b => (Fr.lc (W := W_rx) Fr.r _ (by decide) _).trans (hW i a b)) (wa_36) (wa_37) (wa_38) (wa_41) (h49) (wa_53) wa_n (by omega)) fun v Ma16 h16 => ?_
        obtain ⟨r15, rfl, g16, e16_k0, e16_k1, e16_k2, e16_k3, e16_k4, p16_0, p16_1, p16_2⟩ := h16
        have f16 : Fr W_rx Mr Ma16 := Fr.t Fr.r (Fr.m g16 (by decide))
        refine rsr (cI_e rfl) ?_
        refine rsr (gtI_q (w := iI 0) (rk_160 (hR.fr f16)) (e16_k4)) ?_
        refine rsr (if_pos (eqI_p (rfl) (li_0) (by omega))) ?_
        refine rsr (gtP_q (w := some 202) (rk_160 (hR.fr f16)) (rf_56 (hR.fr f16))) ?_
        refine rsr (alL_q (n := 2000) (z := u) (w := (tx i)) (rk_202 (hR.fr f16)) (congrArg iI p16_0) (by omega) (p16_1.2.2.2.1)) ?_
        refine rsr (jn_v) ?_
        by_cases c17 : (tx i) = (0 : Int64)
        ·
          refine rsr (if_pos (lgc_p (rfl) (rfl) c17)) ?_
          refine rsr (gtP_q (w := some 204) (rk_160 (hR.fr f16)) (rf_58 (hR.fr f16))) ?_
          refine rsr (alL_q (n := 2000) (z := u) (w := (tx (i + 2))) (rk_204 (hR.fr f16)) (congrArg iI p16_0) (by omega) (p16_1.2.2.2.2.2.1)) ?_
          refine rsr (vC_e (rk_160 (hR.fr f16))) ?_
          obtain ⟨rl, hrl⟩ : ∃ r, LcF Hl s (tx (i + 2)) r := by have q := LcF_ex (Hl := Hl) (y := (tx (i + 2))) s.toNat; rw [show ((s.toNat : Nat) : Int) = s by omega] at q; exact q
          have brl := hrl.bd
          by_cases crl : rl = -1
          ·
            subst crl
            refine RrI (a197 (by omega) (hR.fr f16) ((g16.i _ _ (by decide)).trans (wa_51)) (lra.fr g16 (by decide)) (by omega)) fun v Nl18 hl18 => ?_
            obtain ⟨r9, rfl, hMl, hr9⟩ := hl18
            rw [hMl]
            have q9 := LcF.one hr9 hrl
            rw [q9]
            refine rsr (cI_e rfl) ?_
            refine rsr (jv_e) ?_
            try dsimp only
            refine rsr (gtI_q (w := iI ((kr (kd (i + 3))))) (rk_160 (hR.fr f16)) (e16_k1)) ?_
            refine rsr (jn_v) ?_
            refine rsr (if_pos (krI_p (k := 40) (rfl) (li_40) (by omega) (by decide +kernel))) ?_
            refine rsr (vC_e (rk_160 (hR.fr f16))) ?_
            refine Rb_VV (hCl _ _ (by omega) (by omega) T n m kd pl E tx ua ut mu _ _ G (pu U u [uc, (V Mr 201 u.toNat), (V Mr 200 u.toNat), (pl i), (pl (i + 2)), (V Mr 206 u.toNat), ut, 0, (V Mc 79 uc.toNat), (V Mc 80 uc.toNat), (pl i)]) Hl (pux X u [(tx i), (tx (i + 2))]) (i + 3) e s (u + 1) (uc + 1) _ _ _ hS (hCx.fr f13 f16) ⟨e13_k0, e13_k2, e13_k3, (g13.i _ _ (by decide)).trans (qa_9), (g13.i _ _ (by decide)).trans (qa_16), e13_k1⟩ ⟨e16_k1, e16_k2, e16_k3, e16_k4, (g16.i _ _ (by decide)).trans (wa_43), (g16.i _ _ (by decide)).trans (wa_51), e16_k0, (g16.i _ _ (by decide)).trans (wa_50), p16_2⟩ ⟨(caa.fr g13 (by decide)), (raa.fr g16 (by decide)), (lca.fr g13 (by decide)), (lra.fr g16 (by decide)), (CU.add cua (by omega) (by omega) p13_1 rfl rfl), (RU.add rua (by omega) p16_1 rfl)⟩ ⟨by omega, by omega, by omega, by omega, by omega, by omega, by omega, by omega, by omega, by omega, by omega, by omega⟩ (x := uc) (by omega) (by omega) (pu_e (by omega)) (pu_e (by omega)) (Or.inr (pu_310 (by omega) rfl)) (congrArg iI p13_0) (hv0) (cvI (congrArg iI p16_0) (by omega))) fun v Mx19 w Nx19 hx19 => ?_
            rcases hx19 with ⟨i19, e19, u19, uc19, G19, U19, X19, fl19, fr19, sc19, sr19, rw19, bd19, mv19, ag19, au19, ax19, tp19, dp19, kv19⟩ | ⟨F19, P19, fl19, fr19, tc19, tr19⟩
            ·
              have FL19 : Fr W_cp Mc Mx19 := Fr.t f13 fl19
              have FR19 : Fr W_rx Mr Nx19 := Fr.t f16 fr19
              obtain ⟨bb19_0, bb19_1, bb19_2, bb19_3, bb19_4, bb19_5, bb19_6, bb19_7, bb19_8, bb19_9, bb19_10, bb19_11⟩ := bd19
              obtain ⟨q19_12, q19_13, q19_10, q19_9, q19_16, q19_19⟩ := sc19
              obtain ⟨w19_36, w19_37, w19_38, w19_41, w19_43, w19_51, w19_53, w19_50, w19_n⟩ := sr19
              obtain ⟨ca19, ra19, lc19, lr19, cu19, ru19⟩ := rw19
              have hk20 := (hS.ok i19 (by omega) (by omega)).r
              have ku19 := KU.t (KU.us kua p13_1 g13 (by decide) (by omega)) kv19 (by omega)
              have ty21 := Tye.t (d3 := 1) ty2 ag19 tp19 (by omega)
              have du22 := DU.cu (w := u) dp19 (by omega)
              refine rsl (cV_e rfl) ?_
              refine rsr (cV_e rfl) ?_
              refine rsl (vC_e (ck_65 (hC.fr FL19))) ?_
              by_cases c23 : ((kd i19)) = 59
              ·
                have hm24 : i19 + 1 < m := hS.more i19 (by omega) (by omega) (by omega)
                refine rsl (cV_e (a64q (by omega) hS (hC.fr FL19) (hTk.fr (WL := W_cp) FL19 (by decide)) (q19_12) (q19_13) (q19_10) (li_59) (i2 := (i19 + 1)) (by omega) (by omega))) ?_
                have hk25 := (hS.ok (i19 + 1) (by omega) (by omega)).r
                refine rsl (vC_e (ck_65 (hC.fr FL19).sI.sI)) ?_
                have tb27 := Tyb.ex (dp := dp) (d := 1) (s' := s) (q := (e19 + 1)) (n1 := 0) (ut := ut) (mu := mu) (l := []) ty21 (Or.inr (Or.inr (Or.inr (Or.inl (by omega)))) : Eff 9 0 0 1 s 0 s) (by omega) ⟨by omega, by omega⟩ (by omega)
                have du28 := DU.em (q := (e19 + 1)) (o := 9) (n := 0) (p := -2) (l := [0]) du22 (by omega) (by omega)
                refine RlI (a87q (by omega) (hC.fr FL19).sI.sI ((sI_nej (by decide)).trans ((sI_nej (by decide)).trans (q19_9))) (li_9) (li_0) (q := (e19 + 1)) (by omega) (by omega)) fun v Ma29 h29 => ?_
                obtain ⟨r26, rfl, g29, e29_k0, p29_0, p29_1⟩ := h29
                have f29 : Fr W_cp Mc Ma29 := Fr.t (Fr.sI (by decide) (Fr.sI (by decide) FL19)) (Fr.m g29 (by decide))
                refine rsl (cI_e rfl) ?_
                refine rsr (vC_e (rk_160 (hR.fr FR19))) ?_
                refine RrI (a195_59 (by omega) hS (hR.fr FR19) (hT.fr (W := W_rx) FR19 (by decide) (by decide)) (fun i a b => (Fr.lc (W := W_rx) FR19 _ (by decide) _).trans (hW i a b)) (w19_36) (w19_37) (w19_38) (w19_41) (li_59) (i2 := (i19 + 1)) (by omega) (by omega)) fun v Ma31 h31 => ?_
                obtain ⟨r30, rfl, g31, e31_k0, e31_k1, e31_k2, p31_0, p31_1⟩ := h31
                have f31 : Fr W_rx Mr Ma31 := Fr.t FR19 (Fr.m g31 (by decide))
                refine rsr (cI_e rfl) ?_
                refine rsr (vC_e (rk_160 (hR.fr f31))) ?_
                refine RrI (a196q (by omega) (hR.fr f31) ((g31.i _ _ (by decide)).trans (w19_43)) ((g31.i _ _ (by decide)).trans ((FR19.i _ _ (by decide)).trans h49)) ((g31.i _ _ (by decide)).trans ((FR19.i _ _ (by decide)).trans h48)) (li_9) (li_0) (q := (e19 + 1)) (by omega) (by omega)) fun v Ma33 h33 => ?_
                obtain ⟨r32, rfl, g33, e33_k0, p33_0, p33_1⟩ := h33
                have f33 : Fr W_rx Mr Ma33 := Fr.t f31 (Fr.m g33 (by decide))
                refine rsr (cI_e rfl) ?_
                refine rsr (jv_e) ?_
                exact Rs.ok (Or.inl ⟨(i19 + 1), s, Hl, ⟨(e19 + 1), u19, uc19, (pu G19 e19 [9, 0, -2, 0, ut, mu, 0]), U19, X19, f29, f33, ⟨(g29.i _ _ (by decide)).trans ((sI_nej (by decide)).trans (sI_eq)), (g29.i _ _ (by decide)).trans (sI_eq), (g29.i _ _ (by decide)).trans ((sI_nej (by decide)).trans ((sI_nej (by decide)).trans (q19_10))), e29_k0, (g29.i _ _ (by decide)).trans ((sI_nej (by decide)).trans ((sI_nej (by decide)).trans (q19_16))), (g29.i _ _ (by decide)).trans ((sI_nej (by decide)).trans ((sI_nej (by decide)).trans (q19_19)))⟩, ⟨(g33.i _ _ (by decide)).trans (e31_k0), (g33.i _ _ (by decide)).trans (e31_k1), (g33.i _ _ (by decide)).trans (e31_k2), (g33.i _ _ (by decide)).trans ((g31.i _ _ (by decide)).trans (w19_41)), e33_k0, (g33.i _ _ (by decide)).trans ((g31.i _ _ (by decide)).trans (w19_51)), (g33.i _ _ (by decide)).trans ((g31.i _ _ (by decide)).trans (w19_53)), (g33.i _ _ (by decide)).trans ((g31.i _ _ (by decide)).trans (w19_50)), (p31_1.fr g33 (by decide) (by decide))⟩, ⟨(CA1.em (q := (e19 + 1)) (ca19.fr (W := W_c0) (Fr.sI (by decide) (Fr.sI (by decide) Fr.r)) (by decide)) (by omega) p29_1 (by omega)), (RA1.em (q := (e19 + 1)) (ra19.fr g31 (by decide)) (by omega) p33_1 (by omega)), ((lc19.fr (W := W_c0) (Fr.sI (by decide) (Fr.sI (by decide) Fr.r)) (by decide)).fr g29 (by decide)), ((lr19.fr g31 (by decide)).fr g33 (by decide)), ((cu19.fr (W := W_c0) (Fr.sI (by decide) (Fr.sI (by decide) Fr.r)) (by decide)).fr g29 (by decide)), ((ru19.fr g31 (by decide)).fr g33 (by decide))⟩, ⟨by omega, by omega, by omega, by omega, by omega, by omega, by omega, by omega, by omega, by omega, by omega, by omega⟩, ⟨by omega, by omega, by omega, by omega, by omega, by omega⟩, (Ag.pu (Ag.t Ag.r ag19 (by omega)) (by omega)), (Ag.t (Ag.pu Ag.r (by omega)) au19 (by omega)), (AgL.t (AgL.pu AgL.r (by omega)) ax19 (by omega)), tb27, du28, ((ku19.fr (W := W_c0) (Fr.sI (by decide) (Fr.sI (by decide) Fr.r)) (by decide)).fr g29 (by decide)), ⟨by omega, fun _ _ _ => rfl⟩⟩⟩)
              ·
                by_cases c34 : ((kd i19)) = 1
                ·
                  refine rsl (cV_e (a64_1 (by omega) hS (hC.fr FL19) (hTk.fr (WL := W_cp) FL19 (by decide)) (q19_12) (q19_13) (q19_10) (li_59) (by omega))) ?_
                  refine rsl (vC_e (ck_65 (hC.fr FL19).sI.sI.sI)) ?_
                  refine RlI (y87 (by omega) (hC.fr FL19).sI.sI.sI (hTk.fr (WL := W_cp) (Fr.sI (by decide) (Fr.sI (by decide) (Fr.sI (by decide) FL19))) (by decide)) ((sI_nej (by decide)).trans ((sI_nej (by decide)).trans ((sI_nej (by decide)).trans (q19_12)))) (sI_eq) ((sI_nej (by decide)).trans ((sI_nej (by decide)).trans (sI_eq))) ((sI_nej (by decide)).trans (sI_eq)) ((sI_nej (by decide)).trans ((sI_nej (by decide)).trans ((sI_nej (by decide)).trans (q19_9)))) ((sI_nej (by decide)).trans ((sI_nej (by decide)).trans ((sI_nej (by decide)).trans (q19_16)))) ((sI_nej (by decide)).trans ((sI_nej (by decide)).trans ((sI_nej (by decide)).trans (q19_19)))) (li_9) (li_0) (by omega)) fun v Ma36 h36 => ?_
                  obtain ⟨rv35, sz35, sn35, uc35, rfl, g36, e36_sz35, e36_sn35, e36_uc35, e36_k0, e36_k1, e36_k2, e36_k3, p36_0, p36_1, p36_2, p36_3⟩ := h36
                  have f36 : Fr W_cp Mc Ma36 := Fr.t (Fr.sI (by decide) (Fr.sI (by decide) (Fr.sI (by decide) FL19))) (Fr.m g36 (by decide))
                  refine rsl (cI_e rfl) ?_
                  refine rsr (vC_e (rk_160 (hR.fr FR19))) ?_
                  refine rsr (cI_e (a195_59_1 (by omega) hS (hR.fr FR19) (w19_36) (w19_37) (w19_41) (li_59) (by omega))) ?_
                  refine rsr (vC_e (rk_160 (hR.fr FR19).sI.sI)) ?_
                  refine RrI (x196_s (by omega) (hR.fr FR19).sI.sI ((sI_nej (by decide)).trans (sI_eq)) (sI_eq) ((sI_nej (by decide)).trans ((sI_nej (by decide)).trans (w19_43))) ((sI_nej (by decide)).trans ((sI_nej (by decide)).trans (w19_51))) ((sI_nej (by decide)).trans ((sI_nej (by decide)).trans (w19_53))) ((sI_nej (by decide)).trans ((sI_nej (by decide)).trans ((FR19.i _ _ (by decide)).trans h48))) ((sI_nej (by decide)).trans ((sI_nej (by decide)).trans ((FR19.i _ _ (by decide)).trans h49))) (li_9) (li_0) (by omega)) fun v Ma38 h38 => ?_
                  obtain ⟨rv37, em37, rfl, g38, e38_em37, e38_k0, e38_k1, e38_k2, e38_k3, e38_k4, p38_0, p38_1⟩ := h38
                  have f38 : Fr W_rp Mr Ma38 := Fr.t (Fr.sI (by decide) (Fr.sI (by decide) (Fr.m FR19 (by decide)))) (Fr.m g38 (by decide))
                  refine rsr (cI_e rfl) ?_
                  refine rsr (jv_e) ?_
                  exact Rs.ok (Or.inr ⟨1, ((pl i19)), f36, f38, ⟨i19, sz35, sn35, uc35, e36_k0, e36_k1, e36_k2, e36_k3, e36_sz35, e36_sn35, e36_uc35, by omega⟩, ⟨em37, s, u19, mu, ut, e38_k0, e38_k1, e38_em37, e38_k2, e38_k3, e38_k4, (g38.i _ _ (by decide)).trans ((sI_nej (by decide)).trans ((sI_nej (by decide)).trans ((FR19.i _ _ (by decide)).trans h49))), by omega⟩⟩)
                ·
                  refine rsl (cV_e (a64_2 (by omega) hS (hC.fr FL19) (hTk.fr (WL := W_cp) FL19 (by decide)) (q19_12) (q19_13) (q19_10) (li_59) (by omega))) ?_
                  refine rsl (vC_e (ck_65 (hC.fr FL19).sI.sI.sI)) ?_
                  refine RlI (y87 (by omega) (hC.fr FL19).sI.sI.sI (hTk.fr (WL := W_cp) (Fr.sI (by decide) (Fr.sI (by decide) (Fr.sI (by decide) FL19))) (by decide)) ((sI_nej (by decide)).trans ((sI_nej (by decide)).trans ((sI_nej (by decide)).trans (q19_12)))) (sI_eq) ((sI_nej (by decide)).trans ((sI_nej (by decide)).trans (sI_eq))) ((sI_nej (by decide)).trans (sI_eq)) ((sI_nej (by decide)).trans ((sI_nej (by decide)).trans ((sI_nej (by decide)).trans (q19_9)))) ((sI_nej (by decide)).trans ((sI_nej (by decide)).trans ((sI_nej (by decide)).trans (q19_16)))) ((sI_nej (by decide)).trans ((sI_nej (by decide)).trans ((sI_nej (by decide)).trans (q19_19)))) (li_9) (li_0) (by omega)) fun v Ma40 h40 => ?_
                  obtain ⟨rv39, sz39, sn39, uc39, rfl, g40, e40_sz39, e40_sn39, e40_uc39, e40_k0, e40_k1, e40_k2, e40_k3, p40_0, p40_1, p40_2, p40_3⟩ := h40
                  have f40 : Fr W_cp Mc Ma40 := Fr.t (Fr.sI (by decide) (Fr.sI (by decide) (Fr.sI (by decide) FL19))) (Fr.m g40 (by decide))
                  refine rsl (cI_e rfl) ?_
                  refine rsr (vC_e (rk_160 (hR.fr FR19))) ?_
                  refine rsr (cI_e (a195_59_2 (by omega) hS (hR.fr FR19) (w19_36) (w19_37) (w19_41) (li_59) (by omega))) ?_
                  refine rsr (vC_e (rk_160 (hR.fr FR19).sI.sI)) ?_
                  refine RrI (x196_s (by omega) (hR.fr FR19).sI.sI ((sI_nej (by decide)).trans (sI_eq)) (sI_eq) ((sI_nej (by decide)).trans ((sI_nej (by decide)).trans (w19_43))) ((sI_nej (by decide)).trans ((sI_nej (by decide)).trans (w19_51))) ((sI_nej (by decide)).trans ((sI_nej (by decide)).trans (w19_53))) ((sI_nej (by decide)).trans ((sI_nej (by decide)).trans ((FR19.i _ _ (by decide)).trans h48))) ((sI_nej (by decide)).trans ((sI_nej (by decide)).trans ((FR19.i _ _ (by decide)).trans h49))) (li_9) (li_0) (by omega)) fun v Ma42 h42 => ?_
                  obtain ⟨rv41, em41, rfl, g42, e42_em41, e42_k0, e42_k1, e42_k2, e42_k3, e42_k4, p42_0, p42_1⟩ := h42
                  have f42 : Fr W_rp Mr Ma42 := Fr.t (Fr.sI (by decide) (Fr.sI (by decide) (Fr.m FR19 (by decide)))) (Fr.m g42 (by decide))
                  refine rsr (cI_e rfl) ?_
                  refine rsr (jv_e) ?_
                  exact Rs.ok (Or.inr ⟨2, ((pl i19)), f40, f42, ⟨i19, sz39, sn39, uc39, e40_k0, e40_k1, e40_k2, e40_k3, e40_sz39, e40_sn39, e40_uc39, by omega⟩, ⟨em41, s, u19, mu, ut, e42_k0, e42_k1, e42_em41, e42_k2, e42_k3, e42_k4, (g42.i _ _ (by decide)).trans ((sI_nej (by decide)).trans ((sI_nej (by decide)).trans ((FR19.i _ _ (by decide)).trans h49))), by omega⟩⟩)
            ·
              have FL19 : Fr W_cp Mc Mx19 := Fr.t f13 fl19
              have FR19 : Fr W_rp Mr Nx19 := Fr.t (Fr.m f16 W_rx_p) fr19
              obtain ⟨ti19, tz19, tn19, tu19, t1319, t1019, t1119, t1219, t919, t1619, t1919, tb19⟩ := tc19
              obtain ⟨re19, rn19, ru19, rm19, rt19, u4119, u4219, u4319, u5119, u5319, u4819, u4919, ub19⟩ := tr19
              refine rsl (cV_e rfl) ?_
              refine rsr (cV_e rfl) ?_
              refine rsl (vC_e (ck_65 (hC.fr FL19))) ?_
              refine RlV (y64 (by omega) (hC.fr FL19) (hTk.fr (WL := W_cp) FL19 (by decide)) (t1219) (t1319) (t1019) (t1119) (t919) (t1619) (t1919) (li_59) (by omega)) fun v Ma44 h44 => ?_
              obtain ⟨sz43, sn43, uc43, g44, e44_sz43, e44_sn43, e44_uc43, e44_k0, e44_k1, e44_k2, e44_k3, p44_0, p44_1, p44_2⟩ := h44
              have f44 : Fr W_cp Mc Ma44 := Fr.t FL19 (Fr.m g44 (by decide))
              refine rsl (cV_e rfl) ?_
              refine rsl (vC_e (ck_65 (hC.fr f44))) ?_
              refine RlI (y87 (by omega) (hC.fr f44) (hTk.fr (WL := W_cp) f44 (by decide)) (e44_k3) (e44_k0) (e44_k1) (e44_k2) (e44_sz43) (e44_sn43) (e44_uc43) (li_9) (li_0) (by omega)) fun v Ma46 h46 => ?_
              obtain ⟨rv45, sz45, sn45, uc45, rfl, g46, e46_sz45, e46_sn45, e46_uc45, e46_k0, e46_k1, e46_k2, e46_k3, p46_0, p46_1, p46_2, p46_3⟩ := h46
              have f46 : Fr W_cp Mc Ma46 := Fr.t f44 (Fr.m g46 (by decide))
              refine rsl (cI_e rfl) ?_
              refine rsr (vC_e (rk_160 (hR.fr FR19))) ?_
              refine RrI (x195_s (by omega) (hR.fr FR19) (u4119) (u4219) (u4319) (u5119) (u5319) (u4819) (u4919) (li_59) (by omega)) fun v Ma48 h48 => ?_
              obtain ⟨rv47, em47, rfl, g48, e48_em47, e48_k0, e48_k1, e48_k2, e48_k3, e48_k4, p48_0, p48_1⟩ := h48
              have f48 : Fr W_rp Mr Ma48 := Fr.t FR19 (Fr.m g48 (by decide))
              refine rsr (cI_e rfl) ?_
              refine rsr (vC_e (rk_160 (hR.fr f48))) ?_
              refine RrI (x196_s (by omega) (hR.fr f48) (e48_k0) (e48_k1) (e48_em47) (e48_k2) (e48_k3) (e48_k4) ((g48.i _ _ (by decide)).trans (u4919)) (li_9) (li_0) (by omega)) fun v Ma50 h50 => ?_
              obtain ⟨rv49, em49, rfl, g50, e50_em49, e50_k0, e50_k1, e50_k2, e50_k3, e50_k4, p50_0, p50_1⟩ := h50
              have f50 : Fr W_rp Mr Ma50 := Fr.t f48 (Fr.m g50 (by decide))
              refine rsr (cI_e rfl) ?_
              refine rsr (jv_e) ?_
              exact Rs.ok (Or.inr ⟨F19, P19, f46, f50, ⟨ti19, sz45, sn45, uc45, e46_k0, e46_k1, e46_k2, e46_k3, e46_sz45, e46_sn45, e46_uc45, by omega⟩, ⟨em49, rn19, ru19, rm19, rt19, e50_k0, e50_k1, e50_em49, e50_k2, e50_k3, e50_k4, (g50.i _ _ (by decide)).trans ((g48.i _ _ (by decide)).trans (u4919)), by omega⟩⟩)
          ·
            refine RrI (a197 (by omega) (hR.fr f16) ((g16.i _ _ (by decide)).trans (wa_51)) (lra.fr g16 (by decide)) (by omega)) fun v Nl18 hl18 => ?_
            obtain ⟨r9, rfl, hMl, hr9⟩ := hl18
            rw [hMl]
            have q9 := LcF.one hr9 hrl
            rw [q9]
            refine rsr (cI_e rfl) ?_
            refine rsr (jv_e) ?_
            try dsimp only
            refine rsr (gtI_q (w := iI ((kr (kd (i + 3))))) (rk_160 (hR.fr f16)) (e16_k1)) ?_
            refine rsr (jn_v) ?_
            refine rsr (if_pos (krI_p (k := 40) (rfl) (li_40) (by omega) (by decide +kernel))) ?_
            refine rsr (vC_e (rk_160 (hR.fr f16))) ?_
            refine Rb_VV (hCl _ _ (by omega) (by omega) T n m kd pl E tx ua ut mu _ _ G (pu U u [uc, (V Mr 201 u.toNat), (V Mr 200 u.toNat), (pl i), (pl (i + 2)), (V Mr 206 u.toNat), ut, 0, (V Mc 79 uc.toNat), (V Mc 80 uc.toNat), (pl i)]) Hl (pux X u [(tx i), (tx (i + 2))]) (i + 3) e s (u + 1) (uc + 1) _ _ _ hS (hCx.fr f13 f16) ⟨e13_k0, e13_k2, e13_k3, (g13.i _ _ (by decide)).trans (qa_9), (g13.i _ _ (by decide)).trans (qa_16), e13_k1⟩ ⟨e16_k1, e16_k2, e16_k3, e16_k4, (g16.i _ _ (by decide)).trans (wa_43), (g16.i _ _ (by decide)).trans (wa_51), e16_k0, (g16.i _ _ (by decide)).trans (wa_50), p16_2⟩ ⟨(caa.fr g13 (by decide)), (raa.fr g16 (by decide)), (lca.fr g13 (by decide)), (lra.fr g16 (by decide)), (CU.add cua (by omega) (by omega) p13_1 rfl rfl), (RU.add rua (by omega) p16_1 rfl)⟩ ⟨by omega, by omega, by omega, by omega, by omega, by omega, by omega, by omega, by omega, by omega, by omega, by omega⟩ (x := uc) (by omega) (by omega) (pu_e (by omega)) (pu_e (by omega)) (Or.inr (pu_310 (by omega) rfl)) (congrArg iI p13_0) (hv0) (cvI (congrArg iI p16_0) (by omega))) fun v Mx51 w Nx51 hx51 => ?_
            rcases hx51 with ⟨i51, e51, u51, uc51, G51, U51, X51, fl51, fr51, sc51, sr51, rw51, bd51, mv51, ag51, au51, ax51, tp51, dp51, kv51⟩ | ⟨F51, P51, fl51, fr51, tc51, tr51⟩
            ·
              have FL51 : Fr W_cp Mc Mx51 := Fr.t f13 fl51
              have FR51 : Fr W_rx Mr Nx51 := Fr.t f16 fr51
              obtain ⟨bb51_0, bb51_1, bb51_2, bb51_3, bb51_4, bb51_5, bb51_6, bb51_7, bb51_8, bb51_9, bb51_10, bb51_11⟩ := bd51
              obtain ⟨q51_12, q51_13, q51_10, q51_9, q51_16, q51_19⟩ := sc51
              obtain ⟨w51_36, w51_37, w51_38, w51_41, w51_43, w51_51, w51_53, w51_50, w51_n⟩ := sr51
              obtain ⟨ca51, ra51, lc51, lr51, cu51, ru51⟩ := rw51
              have hk52 := (hS.ok i51 (by omega) (by omega)).r
              have ku51 := KU.t (KU.us kua p13_1 g13 (by decide) (by omega)) kv51 (by omega)
              have ty53 := Tye.t (d3 := 1) ty2 ag51 tp51 (by omega)
              have du54 := DU.cu (w := u) dp51 (by omega)
              refine rsl (cV_e rfl) ?_
              refine rsr (cV_e rfl) ?_
              refine rsl (vC_e (ck_65 (hC.fr FL51))) ?_
              by_cases c55 : ((kd i51)) = 59
              ·
                have hm56 : i51 + 1 < m := hS.more i51 (by omega) (by omega) (by omega)
                refine rsl (cV_e (a64q (by omega) hS (hC.fr FL51) (hTk.fr (WL := W_cp) FL51 (by decide)) (q51_12) (q51_13) (q51_10) (li_59) (i2 := (i51 + 1)) (by omega) (by omega))) ?_
                have hk57 := (hS.ok (i51 + 1) (by omega) (by omega)).r
                refine rsl (vC_e (ck_65 (hC.fr FL51).sI.sI)) ?_
                have tb59 := Tyb.ex (dp := dp) (d := 1) (s' := s) (q := (e51 + 1)) (n1 := 0) (ut := ut) (mu := mu) (l := []) ty53 (Or.inr (Or.inr (Or.inr (Or.inl (by omega)))) : Eff 9 0 0 1 s 0 s) (by omega) ⟨by omega, by omega⟩ (by omega)
                have du60 := DU.em (q := (e51 + 1)) (o := 9) (n := 0) (p := -2) (l := [0]) du54 (by omega) (by omega)
                refine RlI (a87q (by omega) (hC.fr FL51).sI.sI ((sI_nej (by decide)).trans ((sI_nej (by decide)).trans (q51_9))) (li_9) (li_0) (q := (e51 + 1)) (by omega) (by omega)) fun v Ma61 h61 => ?_
                obtain ⟨r58, rfl, g61, e61_k0, p61_0, p61_1⟩ := h61
                have f61 : Fr W_cp Mc Ma61 := Fr.t (Fr.sI (by decide) (Fr.sI (by decide) FL51)) (Fr.m g61 (by decide))
                refine rsl (cI_e rfl) ?_
                refine rsr (vC_e (rk_160 (hR.fr FR51))) ?_
                refine RrI (a195_59 (by omega) hS (hR.fr FR51) (hT.fr (W := W_rx) FR51 (by decide) (by decide)) (fun i a b => (Fr.lc (W := W_rx) FR51 _ (by decide) _).trans (hW i a b)) (w51_36) (w51_37) (w51_38) (w51_41) (li_59) (i2 := (i51 + 1)) (by omega) (by omega)) fun v Ma63 h63 => ?_
                obtain ⟨r62, rfl, g63, e63_k0, e63_k1, e63_k2, p63_0, p63_1⟩ := h63
                have f63 : Fr W_rx Mr Ma63 := Fr.t FR51 (Fr.m g63 (by decide))
                refine rsr (cI_e rfl) ?_
                refine rsr (vC_e (rk_160 (hR.fr f63))) ?_
                refine RrI (a196q (by omega) (hR.fr f63) ((g63.i _ _ (by decide)).trans (w51_43)) ((g63.i _ _ (by decide)).trans ((FR51.i _ _ (by decide)).trans h49)) ((g63.i _ _ (by decide)).trans ((FR51.i _ _ (by decide)).trans h48)) (li_9) (li_0) (q := (e51 + 1)) (by omega) (by omega)) fun v Ma65 h65 => ?_
                obtain ⟨r64, rfl, g65, e65_k0, p65_0, p65_1⟩ := h65
                have f65 : Fr W_rx Mr Ma65 := Fr.t f63 (Fr.m g65 (by decide))
                refine rsr (cI_e rfl) ?_
                refine rsr (jv_e) ?_
                exact Rs.ok (Or.inl ⟨(i51 + 1), s, Hl, ⟨(e51 + 1), u51, uc51, (pu G51 e51 [9, 0, -2, 0, ut, mu, 0]), U51, X51, f61, f65, ⟨(g61.i _ _ (by decide)).trans ((sI_nej (by decide)).trans (sI_eq)), (g61.i _ _ (by decide)).trans (sI_eq), (g61.i _ _ (by decide)).trans ((sI_nej (by decide)).trans ((sI_nej (by decide)).trans (q51_10))), e61_k0, (g61.i _ _ (by decide)).trans ((sI_nej (by decide)).trans ((sI_nej (by decide)).trans (q51_16))), (g61.i _ _ (by decide)).trans ((sI_nej (by decide)).trans ((sI_nej (by decide)).trans (q51_19)))⟩, ⟨(g65.i _ _ (by decide)).trans (e63_k0), (g65.i _ _ (by decide)).trans (e63_k1), (g65.i _ _ (by decide)).trans (e63_k2), (g65.i _ _ (by decide)).trans ((g63.i _ _ (by decide)).trans (w51_41)), e65_k0, (g65.i _ _ (by decide)).trans ((g63.i _ _ (by decide)).trans (w51_51)), (g65.i _ _ (by decide)).trans ((g63.i _ _ (by decide)).trans (w51_53)), (g65.i _ _ (by decide)).trans ((g63.i _ _ (by decide)).trans (w51_50)), (p63_1.fr g65 (by decide) (by decide))⟩, ⟨(CA1.em (q := (e51 + 1)) (ca51.fr (W := W_c0) (Fr.sI (by decide) (Fr.sI (by decide) Fr.r)) (by decide)) (by omega) p61_1 (by omega)), (RA1.em (q := (e51 + 1)) (ra51.fr g63 (by decide)) (by omega) p65_1 (by omega)), ((lc51.fr (W := W_c0) (Fr.sI (by decide) (Fr.sI (by decide) Fr.r)) (by decide)).fr g61 (by decide)), ((lr51.fr g63 (by decide)).fr g65 (by decide)), ((cu51.fr (W := W_c0) (Fr.sI (by decide) (Fr.sI (by decide) Fr.r)) (by decide)).fr g61 (by decide)), ((ru51.fr g63 (by decide)).fr g65 (by decide))⟩, ⟨by omega, by omega, by omega, by omega, by omega, by omega, by omega, by omega, by omega, by omega, by omega, by omega⟩, ⟨by omega, by omega, by omega, by omega, by omega, by omega⟩, (Ag.pu (Ag.t Ag.r ag51 (by omega)) (by omega)), (Ag.t (Ag.pu Ag.r (by omega)) au51 (by omega)), (AgL.t (AgL.pu AgL.r (by omega)) ax51 (by omega)), tb59, du60, ((ku51.fr (W := W_c0) (Fr.sI (by decide) (Fr.sI (by decide) Fr.r)) (by decide)).fr g61 (by decide)), ⟨by omega, fun _ _ _ => rfl⟩⟩⟩)
              ·
                by_cases c66 : ((kd i51)) = 1
                ·
                  refine rsl (cV_e (a64_1 (by omega) hS (hC.fr FL51) (hTk.fr (WL := W_cp) FL51 (by decide)) (q51_12) (q51_13) (q51_10) (li_59) (by omega))) ?_
                  refine rsl (vC_e (ck_65 (hC.fr FL51).sI.sI.sI)) ?_
                  refine RlI (y87 (by omega) (hC.fr FL51).sI.sI.sI (hTk.fr (WL := W_cp) (Fr.sI (by decide) (Fr.sI (by decide) (Fr.sI (by decide) FL51))) (by decide)) ((sI_nej (by decide)).trans ((sI_nej (by decide)).trans ((sI_nej (by decide)).trans (q51_12)))) (sI_eq) ((sI_nej (by decide)).trans ((sI_nej (by decide)).trans (sI_eq))) ((sI_nej (by decide)).trans (sI_eq)) ((sI_nej (by decide)).trans ((sI_nej (by decide)).trans ((sI_nej (by decide)).trans (q51_9)))) ((sI_nej (by decide)).trans ((sI_nej (by decide)).trans ((sI_nej (by decide)).trans (q51_16)))) ((sI_nej (by decide)).trans ((sI_nej (by decide)).trans ((sI_nej (by decide)).trans (q51_19)))) (li_9) (li_0) (by omega)) fun v Ma68 h68 => ?_
                  obtain ⟨rv67, sz67, sn67, uc67, rfl, g68, e68_sz67, e68_sn67, e68_uc67, e68_k0, e68_k1, e68_k2, e68_k3, p68_0, p68_1, p68_2, p68_3⟩ := h68
                  have f68 : Fr W_cp Mc Ma68 := Fr.t (Fr.sI (by decide) (Fr.sI (by decide) (Fr.sI (by decide) FL51))) (Fr.m g68 (by decide))
                  refine rsl (cI_e rfl) ?_
                  refine rsr (vC_e (rk_160 (hR.fr FR51))) ?_
                  refine rsr (cI_e (a195_59_1 (by omega) hS (hR.fr FR51) (w51_36) (w51_37) (w51_41) (li_59) (by omega))) ?_
                  refine rsr (vC_e (rk_160 (hR.fr FR51).sI.sI)) ?_
                  refine RrI (x196_s (by omega) (hR.fr FR51).sI.sI ((sI_nej (by decide)).trans (sI_eq)) (sI_eq) ((sI_nej (by decide)).trans ((sI_nej (by decide)).trans (w51_43))) ((sI_nej (by decide)).trans ((sI_nej (by decide)).trans (w51_51))) ((sI_nej (by decide)).trans ((sI_nej (by decide)).trans (w51_53))) ((sI_nej (by decide)).trans ((sI_nej (by decide)).trans ((FR51.i _ _ (by decide)).trans h48))) ((sI_nej (by decide)).trans ((sI_nej (by decide)).trans ((FR51.i _ _ (by decide)).trans h49))) (li_9) (li_0) (by omega)) fun v Ma70 h70 => ?_
                  obtain ⟨rv69, em69, rfl, g70, e70_em69, e70_k0, e70_k1, e70_k2, e70_k3, e70_k4, p70_0, p70_1⟩ := h70
                  have f70 : Fr W_rp Mr Ma70 := Fr.t (Fr.sI (by decide) (Fr.sI (by decide) (Fr.m FR51 (by decide)))) (Fr.m g70 (by decide))
                  refine rsr (cI_e rfl) ?_
                  refine rsr (jv_e) ?_
                  exact Rs.ok (Or.inr ⟨1, ((pl i51)), f68, f70, ⟨i51, sz67, sn67, uc67, e68_k0, e68_k1, e68_k2, e68_k3, e68_sz67, e68_sn67, e68_uc67, by omega⟩, ⟨em69, s, u51, mu, ut, e70_k0, e70_k1, e70_em69, e70_k2, e70_k3, e70_k4, (g70.i _ _ (by decide)).trans ((sI_nej (by decide)).trans ((sI_nej (by decide)).trans ((FR51.i _ _ (by decide)).trans h49))), by omega⟩⟩)
                ·
                  refine rsl (cV_e (a64_2 (by omega) hS (hC.fr FL51) (hTk.fr (WL := W_cp) FL51 (by decide)) (q51_12) (q51_13) (q51_10) (li_59) (by omega))) ?_
                  refine rsl (vC_e (ck_65 (hC.fr FL51).sI.sI.sI)) ?_
                  refine RlI (y87 (by omega) (hC.fr FL51).sI.sI.sI (hTk.fr (WL := W_cp) (Fr.sI (by decide) (Fr.sI (by decide) (Fr.sI (by decide) FL51))) (by decide)) ((sI_nej (by decide)).trans ((sI_nej (by decide)).trans ((sI_nej (by decide)).trans (q51_12)))) (sI_eq) ((sI_nej (by decide)).trans ((sI_nej (by decide)).trans (sI_eq))) ((sI_nej (by decide)).trans (sI_eq)) ((sI_nej (by decide)).trans ((sI_nej (by decide)).trans ((sI_nej (by decide)).trans (q51_9)))) ((sI_nej (by decide)).trans ((sI_nej (by decide)).trans ((sI_nej (by decide)).trans (q51_16)))) ((sI_nej (by decide)).trans ((sI_nej (by decide)).trans ((sI_nej (by decide)).trans (q51_19)))) (li_9) (li_0) (by omega)) fun v Ma72 h72 => ?_
                  obtain ⟨rv71, sz71, sn71, uc71, rfl, g72, e72_sz71, e72_sn71, e72_uc71, e72_k0, e72_k1, e72_k2, e72_k3, p72_0, p72_1, p72_2, p72_3⟩ := h72
                  have f72 : Fr W_cp Mc Ma72 := Fr.t (Fr.sI (by decide) (Fr.sI (by decide) (Fr.sI (by decide) FL51))) (Fr.m g72 (by decide))
                  refine rsl (cI_e rfl) ?_
                  refine rsr (vC_e (rk_160 (hR.fr FR51))) ?_
                  refine rsr (cI_e (a195_59_2 (by omega) hS (hR.fr FR51) (w51_36) (w51_37) (w51_41) (li_59) (by omega))) ?_
                  refine rsr (vC_e (rk_160 (hR.fr FR51).sI.sI)) ?_
                  refine RrI (x196_s (by omega) (hR.fr FR51).sI.sI ((sI_nej (by decide)).trans (sI_eq)) (sI_eq) ((sI_nej (by decide)).trans ((sI_nej (by decide)).trans (w51_43))) ((sI_nej (by decide)).trans ((sI_nej (by decide)).trans (w51_51))) ((sI_nej (by decide)).trans ((sI_nej (by decide)).trans (w51_53))) ((sI_nej (by decide)).trans ((sI_nej (by decide)).trans ((FR51.i _ _ (by decide)).trans h48))) ((sI_nej (by decide)).trans ((sI_nej (by decide)).trans ((FR51.i _ _ (by decide)).trans h49))) (li_9) (li_0) (by omega)) fun v Ma74 h74 => ?_
                  obtain ⟨rv73, em73, rfl, g74, e74_em73, e74_k0, e74_k1, e74_k2, e74_k3, e74_k4, p74_0, p74_1⟩ := h74
                  have f74 : Fr W_rp Mr Ma74 := Fr.t (Fr.sI (by decide) (Fr.sI (by decide) (Fr.m FR51 (by decide)))) (Fr.m g74 (by decide))
                  refine rsr (cI_e rfl) ?_
                  refine rsr (jv_e) ?_
                  exact Rs.ok (Or.inr ⟨2, ((pl i51)), f72, f74, ⟨i51, sz71, sn71, uc71, e72_k0, e72_k1, e72_k2, e72_k3, e72_sz71, e72_sn71, e72_uc71, by omega⟩, ⟨em73, s, u51, mu, ut, e74_k0, e74_k1, e74_em73, e74_k2, e74_k3, e74_k4, (g74.i _ _ (by decide)).trans ((sI_nej (by decide)).trans ((sI_nej (by decide)).trans ((FR51.i _ _ (by decide)).trans h49))), by omega⟩⟩)
            ·
              have FL51 : Fr W_cp Mc Mx51 := Fr.t f13 fl51
              have FR51 : Fr W_rp Mr Nx51 := Fr.t (Fr.m f16 W_rx_p) fr51
              obtain ⟨ti51, tz51, tn51, tu51, t1351, t1051, t1151, t1251, t951, t1651, t1951, tb51⟩ := tc51
              obtain ⟨re51, rn51, ru51, rm51, rt51, u4151, u4251, u4351, u5151, u5351, u4851, u4951, ub51⟩ := tr51
              refine rsl (cV_e rfl) ?_
              refine rsr (cV_e rfl) ?_
              refine rsl (vC_e (ck_65 (hC.fr FL51))) ?_
              refine RlV (y64 (by omega) (hC.fr FL51) (hTk.fr (WL := W_cp) FL51 (by decide)) (t1251) (t1351) (t1051) (t1151) (t951) (t1651) (t1951) (li_59) (by omega)) fun v Ma76 h76 => ?_
              obtain ⟨sz75, sn75, uc75, g76, e76_sz75, e76_sn75, e76_uc75, e76_k0, e76_k1, e76_k2, e76_k3, p76_0, p76_1, p76_2⟩ := h76
              have f76 : Fr W_cp Mc Ma76 := Fr.t FL51 (Fr.m g76 (by decide))
              refine rsl (cV_e rfl) ?_
              refine rsl (vC_e (ck_65 (hC.fr f76))) ?_
              refine RlI (y87 (by omega) (hC.fr f76) (hTk.fr (WL := W_cp) f76 (by decide)) (e76_k3) (e76_k0) (e76_k1) (e76_k2) (e76_sz75) (e76_sn75) (e76_uc75) (li_9) (li_0) (by omega)) fun v Ma78 h78 => ?_
              obtain ⟨rv77, sz77, sn77, uc77, rfl, g78, e78_sz77, e78_sn77, e78_uc77, e78_k0, e78_k1, e78_k2, e78_k3, p78_0, p78_1, p78_2, p78_3⟩ := h78
              have f78 : Fr W_cp Mc Ma78 := Fr.t f76 (Fr.m g78 (by decide))
              refine rsl (cI_e rfl) ?_
              refine rsr (vC_e (rk_160 (hR.fr FR51))) ?_
              refine RrI (x195_s (by omega) (hR.fr FR51) (u4151) (u4251) (u4351) (u5151) (u5351) (u4851) (u4951) (li_59) (by omega)) fun v Ma80 h80 => ?_
              obtain ⟨rv79, em79, rfl, g80, e80_em79, e80_k0, e80_k1, e80_k2, e80_k3, e80_k4, p80_0, p80_1⟩ := h80
              have f80 : Fr W_rp Mr Ma80 := Fr.t FR51 (Fr.m g80 (by decide))
              refine rsr (cI_e rfl) ?_
              refine rsr (vC_e (rk_160 (hR.fr f80))) ?_
              refine RrI (x196_s (by omega) (hR.fr f80) (e80_k0) (e80_k1) (e80_em79) (e80_k2) (e80_k3) (e80_k4) ((g80.i _ _ (by decide)).trans (u4951)) (li_9) (li_0) (by omega)) fun v Ma82 h82 => ?_
              obtain ⟨rv81, em81, rfl, g82, e82_em81, e82_k0, e82_k1, e82_k2, e82_k3, e82_k4, p82_0, p82_1⟩ := h82
              have f82 : Fr W_rp Mr Ma82 := Fr.t f80 (Fr.m g82 (by decide))
              refine rsr (cI_e rfl) ?_
              refine rsr (jv_e) ?_
              exact Rs.ok (Or.inr ⟨F51, P51, f78, f82, ⟨ti51, sz77, sn77, uc77, e78_k0, e78_k1, e78_k2, e78_k3, e78_sz77, e78_sn77, e78_uc77, by omega⟩, ⟨em81, rn51, ru51, rm51, rt51, e82_k0, e82_k1, e82_em81, e82_k2, e82_k3, e82_k4, (g82.i _ _ (by decide)).trans ((g80.i _ _ (by decide)).trans (u4951)), by omega⟩⟩)
        ·
          refine rsr (if_neg (lgc_n (rfl) (rfl) c17)) ?_
          refine rsr (jv_e) ?_
          try dsimp only
          refine rsr (gtI_q (w := iI ((kr (kd (i + 3))))) (rk_160 (hR.fr f16)) (e16_k1)) ?_
          refine rsr (jn_v) ?_
          refine rsr (if_pos (krI_p (k := 40) (rfl) (li_40) (by omega) (by decide +kernel))) ?_
          refine rsr (vC_e (rk_160 (hR.fr f16))) ?_
          refine Rb_VV (hCl _ _ (by omega) (by omega) T n m kd pl E tx ua ut mu _ _ G (pu U u [uc, (V Mr 201 u.toNat), (V Mr 200 u.toNat), (pl i), (pl (i + 2)), (V Mr 206 u.toNat), ut, 0, (V Mc 79 uc.toNat), (V Mc 80 uc.toNat), (pl i)]) Hl (pux X u [(tx i), (tx (i + 2))]) (i + 3) e s (u + 1) (uc + 1) _ _ _ hS (hCx.fr f13 f16) ⟨e13_k0, e13_k2, e13_k3, (g13.i _ _ (by decide)).trans (qa_9), (g13.i _ _ (by decide)).trans (qa_16), e13_k1⟩ ⟨e16_k1, e16_k2, e16_k3, e16_k4, (g16.i _ _ (by decide)).trans (wa_43), (g16.i _ _ (by decide)).trans (wa_51), e16_k0, (g16.i _ _ (by decide)).trans (wa_50), p16_2⟩ ⟨(caa.fr g13 (by decide)), (raa.fr g16 (by decide)), (lca.fr g13 (by decide)), (lra.fr g16 (by decide)), (CU.add cua (by omega) (by omega) p13_1 rfl rfl), (RU.add rua (by omega) p16_1 rfl)⟩ ⟨by omega, by omega, by omega, by omega, by omega, by omega, by omega, by omega, by omega, by omega, by omega, by omega⟩ (x := uc) (by omega) (by omega) (pu_e (by omega)) (pu_e (by omega)) (Or.inr (pu_310 (by omega) rfl)) (congrArg iI p13_0) (hv0) (cvI (congrArg iI p16_0) (by omega))) fun v Mx83 w Nx83 hx83 => ?_
          rcases hx83 with ⟨i83, e83, u83, uc83, G83, U83, X83, fl83, fr83, sc83, sr83, rw83, bd83, mv83, ag83, au83, ax83, tp83, dp83, kv83⟩ | ⟨F83, P83, fl83, fr83, tc83, tr83⟩
          ·
            have FL83 : Fr W_cp Mc Mx83 := Fr.t f13 fl83
            have FR83 : Fr W_rx Mr Nx83 := Fr.t f16 fr83
            obtain ⟨bb83_0, bb83_1, bb83_2, bb83_3, bb83_4, bb83_5, bb83_6, bb83_7, bb83_8, bb83_9, bb83_10, bb83_11⟩ := bd83
            obtain ⟨q83_12, q83_13, q83_10, q83_9, q83_16, q83_19⟩ := sc83
            obtain ⟨w83_36, w83_37, w83_38, w83_41, w83_43, w83_51, w83_53, w83_50, w83_n⟩ := sr83
            obtain ⟨ca83, ra83, lc83, lr83, cu83, ru83⟩ := rw83
            have hk84 := (hS.ok i83 (by omega) (by omega)).r
            have ku83 := KU.t (KU.us kua p13_1 g13 (by decide) (by omega)) kv83 (by omega)
            have ty85 := Tye.t (d3 := 1) ty2 ag83 tp83 (by omega)
            have du86 := DU.cu (w := u) dp83 (by omega)
            refine rsl (cV_e rfl) ?_
            refine rsr (cV_e rfl) ?_
            refine rsl (vC_e (ck_65 (hC.fr FL83))) ?_
            by_cases c87 : ((kd i83)) = 59
            ·
              have hm88 : i83 + 1 < m := hS.more i83 (by omega) (by omega) (by omega)
              refine rsl (cV_e (a64q (by omega) hS (hC.fr FL83) (hTk.fr (WL := W_cp) FL83 (by decide)) (q83_12) (q83_13) (q83_10) (li_59) (i2 := (i83 + 1)) (by omega) (by omega))) ?_
              have hk89 := (hS.ok (i83 + 1) (by omega) (by omega)).r
              refine rsl (vC_e (ck_65 (hC.fr FL83).sI.sI)) ?_
              have tb91 := Tyb.ex (dp := dp) (d := 1) (s' := s) (q := (e83 + 1)) (n1 := 0) (ut := ut) (mu := mu) (l := []) ty85 (Or.inr (Or.inr (Or.inr (Or.inl (by omega)))) : Eff 9 0 0 1 s 0 s) (by omega) ⟨by omega, by omega⟩ (by omega)
              have du92 := DU.em (q := (e83 + 1)) (o := 9) (n := 0) (p := -2) (l := [0]) du86 (by omega) (by omega)
              refine RlI (a87q (by omega) (hC.fr FL83).sI.sI ((sI_nej (by decide)).trans ((sI_nej (by decide)).trans (q83_9))) (li_9) (li_0) (q := (e83 + 1)) (by omega) (by omega)) fun v Ma93 h93 => ?_
              obtain ⟨r90, rfl, g93, e93_k0, p93_0, p93_1⟩ := h93
              have f93 : Fr W_cp Mc Ma93 := Fr.t (Fr.sI (by decide) (Fr.sI (by decide) FL83)) (Fr.m g93 (by decide))
              refine rsl (cI_e rfl) ?_
              refine rsr (vC_e (rk_160 (hR.fr FR83))) ?_
              refine RrI (a195_59 (by omega) hS (hR.fr FR83) (hT.fr (W := W_rx) FR83 (by decide) (by decide)) (fun i a b => (Fr.lc (W := W_rx) FR83 _ (by decide) _).trans (hW i a b)) (w83_36) (w83_37) (w83_38) (w83_41) (li_59) (i2 := (i83 + 1)) (by omega) (by omega)) fun v Ma95 h95 => ?_
              obtain ⟨r94, rfl, g95, e95_k0, e95_k1, e95_k2, p95_0, p95_1⟩ := h95
              have f95 : Fr W_rx Mr Ma95 := Fr.t FR83 (Fr.m g95 (by decide))
              refine rsr (cI_e rfl) ?_
              refine rsr (vC_e (rk_160 (hR.fr f95))) ?_
              refine RrI (a196q (by omega) (hR.fr f95) ((g95.i _ _ (by decide)).trans (w83_43)) ((g95.i _ _ (by decide)).trans ((FR83.i _ _ (by decide)).trans h49)) ((g95.i _ _ (by decide)).trans ((FR83.i _ _ (by decide)).trans h48)) (li_9) (li_0) (q := (e83 + 1)) (by omega) (by omega)) fun v Ma97 h97 => ?_
              obtain ⟨r96, rfl, g97, e97_k0, p97_0, p97_1⟩ := h97
              have f97 : Fr W_rx Mr Ma97 := Fr.t f95 (Fr.m g97 (by decide))
              refine rsr (cI_e rfl) ?_
              refine rsr (jv_e) ?_
              exact Rs.ok (Or.inl ⟨(i83 + 1), s, Hl, ⟨(e83 + 1), u83, uc83, (pu G83 e83 [9, 0, -2, 0, ut, mu, 0]), U83, X83, f93, f97, ⟨(g93.i _ _ (by decide)).trans ((sI_nej (by decide)).trans (sI_eq)), (g93.i _ _ (by decide)).trans (sI_eq), (g93.i _ _ (by decide)).trans ((sI_nej (by decide)).trans ((sI_nej (by decide)).trans (q83_10))), e93_k0, (g93.i _ _ (by decide)).trans ((sI_nej (by decide)).trans ((sI_nej (by decide)).trans (q83_16))), (g93.i _ _ (by decide)).trans ((sI_nej (by decide)).trans ((sI_nej (by decide)).trans (q83_19)))⟩, ⟨(g97.i _ _ (by decide)).trans (e95_k0), (g97.i _ _ (by decide)).trans (e95_k1), (g97.i _ _ (by decide)).trans (e95_k2), (g97.i _ _ (by decide)).trans ((g95.i _ _ (by decide)).trans (w83_41)), e97_k0, (g97.i _ _ (by decide)).trans ((g95.i _ _ (by decide)).trans (w83_51)), (g97.i _ _ (by decide)).trans ((g95.i _ _ (by decide)).trans (w83_53)), (g97.i _ _ (by decide)).trans ((g95.i _ _ (by decide)).trans (w83_50)), (p95_1.fr g97 (by decide) (by decide))⟩, ⟨(CA1.em (q := (e83 + 1)) (ca83.fr (W := W_c0) (Fr.sI (by decide) (Fr.sI (by decide) Fr.r)) (by decide)) (by omega) p93_1 (by omega)), (RA1.em (q := (e83 + 1)) (ra83.fr g95 (by decide)) (by omega) p97_1 (by omega)), ((lc83.fr (W := W_c0) (Fr.sI (by decide) (Fr.sI (by decide) Fr.r)) (by decide)).fr g93 (by decide)), ((lr83.fr g95 (by decide)).fr g97 (by decide)), ((cu83.fr (W := W_c0) (Fr.sI (by decide) (Fr.sI (by decide) Fr.r)) (by decide)).fr g93 (by decide)), ((ru83.fr g95 (by decide)).fr g97 (by decide))⟩, ⟨by omega, by omega, by omega, by omega, by omega, by omega, by omega, by omega, by omega, by omega, by omega, by omega⟩, ⟨by omega, by omega, by omega, by omega, by omega, by omega⟩, (Ag.pu (Ag.t Ag.r ag83 (by omega)) (by omega)), (Ag.t (Ag.pu Ag.r (by omega)) au83 (by omega)), (AgL.t (AgL.pu AgL.r (by omega)) ax83 (by omega)), tb91, du92, ((ku83.fr (W := W_c0) (Fr.sI (by decide) (Fr.sI (by decide) Fr.r)) (by decide)).fr g93 (by decide)), ⟨by omega, fun _ _ _ => rfl⟩⟩⟩)
            ·
              by_cases c98 : ((kd i83)) = 1
              ·
                refine rsl (cV_e (a64_1 (by omega) hS (hC.fr FL83) (hTk.fr (WL := W_cp) FL83 (by decide)) (q83_12) (q83_13) (q83_10) (li_59) (by omega))) ?_
                refine rsl (vC_e (ck_65 (hC.fr FL83).sI.sI.sI)) ?_
                refine RlI (y87 (by omega) (hC.fr FL83).sI.sI.sI (hTk.fr (WL := W_cp) (Fr.sI (by decide) (Fr.sI (by decide) (Fr.sI (by decide) FL83))) (by decide)) ((sI_nej (by decide)).trans ((sI_nej (by decide)).trans ((sI_nej (by decide)).trans (q83_12)))) (sI_eq) ((sI_nej (by decide)).trans ((sI_nej (by decide)).trans (sI_eq))) ((sI_nej (by decide)).trans (sI_eq)) ((sI_nej (by decide)).trans ((sI_nej (by decide)).trans ((sI_nej (by decide)).trans (q83_9)))) ((sI_nej (by decide)).trans ((sI_nej (by decide)).trans ((sI_nej (by decide)).trans (q83_16)))) ((sI_nej (by decide)).trans ((sI_nej (by decide)).trans ((sI_nej (by decide)).trans (q83_19)))) (li_9) (li_0) (by omega)) fun v Ma100 h100 => ?_
                obtain ⟨rv99, sz99, sn99, uc99, rfl, g100, e100_sz99, e100_sn99, e100_uc99, e100_k0, e100_k1, e100_k2, e100_k3, p100_0, p100_1, p100_2, p100_3⟩ := h100
                have f100 : Fr W_cp Mc Ma100 := Fr.t (Fr.sI (by decide) (Fr.sI (by decide) (Fr.sI (by decide) FL83))) (Fr.m g100 (by decide))
                refine rsl (cI_e rfl) ?_
                refine rsr (vC_e (rk_160 (hR.fr FR83))) ?_
                refine rsr (cI_e (a195_59_1 (by omega) hS (hR.fr FR83) (w83_36) (w83_37) (w83_41) (li_59) (by omega))) ?_
                refine rsr (vC_e (rk_160 (hR.fr FR83).sI.sI)) ?_
                refine RrI (x196_s (by omega) (hR.fr FR83).sI.sI ((sI_nej (by decide)).trans (sI_eq)) (sI_eq) ((sI_nej (by decide)).trans ((sI_nej (by decide)).trans (w83_43))) ((sI_nej (by decide)).trans ((sI_nej (by decide)).trans (w83_51))) ((sI_nej (by decide)).trans ((sI_nej (by decide)).trans (w83_53))) ((sI_nej (by decide)).trans ((sI_nej (by decide)).trans ((FR83.i _ _ (by decide)).trans h48))) ((sI_nej (by decide)).trans ((sI_nej (by decide)).trans ((FR83.i _ _ (by decide)).trans h49))) (li_9) (li_0) (by omega)) fun v Ma102 h102 => ?_
                obtain ⟨rv101, em101, rfl, g102, e102_em101, e102_k0, e102_k1, e102_k2, e102_k3, e102_k4, p102_0, p102_1⟩ := h102
                have f102 : Fr W_rp Mr Ma102 := Fr.t (Fr.sI (by decide) (Fr.sI (by decide) (Fr.m FR83 (by decide)))) (Fr.m g102 (by decide))
                refine rsr (cI_e rfl) ?_
                refine rsr (jv_e) ?_
                exact Rs.ok (Or.inr ⟨1, ((pl i83)), f100, f102, ⟨i83, sz99, sn99, uc99, e100_k0, e100_k1, e100_k2, e100_k3, e100_sz99, e100_sn99, e100_uc99, by omega⟩, ⟨em101, s, u83, mu, ut, e102_k0, e102_k1, e102_em101, e102_k2, e102_k3, e102_k4, (g102.i _ _ (by decide)).trans ((sI_nej (by decide)).trans ((sI_nej (by decide)).trans ((FR83.i _ _ (by decide)).trans h49))), by omega⟩⟩)
              ·
                refine rsl (cV_e (a64_2 (by omega) hS (hC.fr FL83) (hTk.fr (WL := W_cp) FL83 (by decide)) (q83_12) (q83_13) (q83_10) (li_59) (by omega))) ?_
                refine rsl (vC_e (ck_65 (hC.fr FL83).sI.sI.sI)) ?_
                refine RlI (y87 (by omega) (hC.fr FL83).sI.sI.sI (hTk.fr (WL := W_cp) (Fr.sI (by decide) (Fr.sI (by decide) (Fr.sI (by decide) FL83))) (by decide)) ((sI_nej (by decide)).trans ((sI_nej (by decide)).trans ((sI_nej (by decide)).trans (q83_12)))) (sI_eq) ((sI_nej (by decide)).trans ((sI_nej (by decide)).trans (sI_eq))) ((sI_nej (by decide)).trans (sI_eq)) ((sI_nej (by decide)).trans ((sI_nej (by decide)).trans ((sI_nej (by decide)).trans (q83_9)))) ((sI_nej (by decide)).trans ((sI_nej (by decide)).trans ((sI_nej (by decide)).trans (q83_16)))) ((sI_nej (by decide)).trans ((sI_nej (by decide)).trans ((sI_nej (by decide)).trans (q83_19)))) (li_9) (li_0) (by omega)) fun v Ma104 h104 => ?_
                obtain ⟨rv103, sz103, sn103, uc103, rfl, g104, e104_sz103, e104_sn103, e104_uc103, e104_k0, e104_k1, e104_k2, e104_k3, p104_0, p104_1, p104_2, p104_3⟩ := h104
                have f104 : Fr W_cp Mc Ma104 := Fr.t (Fr.sI (by decide) (Fr.sI (by decide) (Fr.sI (by decide) FL83))) (Fr.m g104 (by decide))
                refine rsl (cI_e rfl) ?_
                refine rsr (vC_e (rk_160 (hR.fr FR83))) ?_
                refine rsr (cI_e (a195_59_2 (by omega) hS (hR.fr FR83) (w83_36) (w83_37) (w83_41) (li_59) (by omega))) ?_
                refine rsr (vC_e (rk_160 (hR.fr FR83).sI.sI)) ?_
                refine RrI (x196_s (by omega) (hR.fr FR83).sI.sI ((sI_nej (by decide)).trans (sI_eq)) (sI_eq) ((sI_nej (by decide)).trans ((sI_nej (by decide)).trans (w83_43))) ((sI_nej (by decide)).trans ((sI_nej (by decide)).trans (w83_51))) ((sI_nej (by decide)).trans ((sI_nej (by decide)).trans (w83_53))) ((sI_nej (by decide)).trans ((sI_nej (by decide)).trans ((FR83.i _ _ (by decide)).trans h48))) ((sI_nej (by decide)).trans ((sI_nej (by decide)).trans ((FR83.i _ _ (by decide)).trans h49))) (li_9) (li_0) (by omega)) fun v Ma106 h106 => ?_
                obtain ⟨rv105, em105, rfl, g106, e106_em105, e106_k0, e106_k1, e106_k2, e106_k3, e106_k4, p106_0, p106_1⟩ := h106
                have f106 : Fr W_rp Mr Ma106 := Fr.t (Fr.sI (by decide) (Fr.sI (by decide) (Fr.m FR83 (by decide)))) (Fr.m g106 (by decide))
                refine rsr (cI_e rfl) ?_
                refine rsr (jv_e) ?_
                exact Rs.ok (Or.inr ⟨2, ((pl i83)), f104, f106, ⟨i83, sz103, sn103, uc103, e104_k0, e104_k1, e104_k2, e104_k3, e104_sz103, e104_sn103, e104_uc103, by omega⟩, ⟨em105, s, u83, mu, ut, e106_k0, e106_k1, e106_em105, e106_k2, e106_k3, e106_k4, (g106.i _ _ (by decide)).trans ((sI_nej (by decide)).trans ((sI_nej (by decide)).trans ((FR83.i _ _ (by decide)).trans h49))), by omega⟩⟩)
          ·
            have FL83 : Fr W_cp Mc Mx83 := Fr.t f13 fl83
            have FR83 : Fr W_rp Mr Nx83 := Fr.t (Fr.m f16 W_rx_p) fr83
            obtain ⟨ti83, tz83, tn83, tu83, t1383, t1083, t1183, t1283, t983, t1683, t1983, tb83⟩ := tc83
            obtain ⟨re83, rn83, ru83, rm83, rt83, u4183, u4283, u4383, u5183, u5383, u4883, u4983, ub83⟩ := tr83
            refine rsl (cV_e rfl) ?_
            refine rsr (cV_e rfl) ?_
            refine rsl (vC_e (ck_65 (hC.fr FL83))) ?_
            refine RlV (y64 (by omega) (hC.fr FL83) (hTk.fr (WL := W_cp) FL83 (by decide)) (t1283) (t1383) (t1083) (t1183) (t983) (t1683) (t1983) (li_59) (by omega)) fun v Ma108 h108 => ?_
            obtain ⟨sz107, sn107, uc107, g108, e108_sz107, e108_sn107, e108_uc107, e108_k0, e108_k1, e108_k2, e108_k3, p108_0, p108_1, p108_2⟩ := h108
            have f108 : Fr W_cp Mc Ma108 := Fr.t FL83 (Fr.m g108 (by decide))
            refine rsl (cV_e rfl) ?_
            refine rsl (vC_e (ck_65 (hC.fr f108))) ?_
            refine RlI (y87 (by omega) (hC.fr f108) (hTk.fr (WL := W_cp) f108 (by decide)) (e108_k3) (e108_k0) (e108_k1) (e108_k2) (e108_sz107) (e108_sn107) (e108_uc107) (li_9) (li_0) (by omega)) fun v Ma110 h110 => ?_
            obtain ⟨rv109, sz109, sn109, uc109, rfl, g110, e110_sz109, e110_sn109, e110_uc109, e110_k0, e110_k1, e110_k2, e110_k3, p110_0, p110_1, p110_2, p110_3⟩ := h110
            have f110 : Fr W_cp Mc Ma110 := Fr.t f108 (Fr.m g110 (by decide))
            refine rsl (cI_e rfl) ?_
            refine rsr (vC_e (rk_160 (hR.fr FR83))) ?_
            refine RrI (x195_s (by omega) (hR.fr FR83) (u4183) (u4283) (u4383) (u5183) (u5383) (u4883) (u4983) (li_59) (by omega)) fun v Ma112 h112 => ?_
            obtain ⟨rv111, em111, rfl, g112, e112_em111, e112_k0, e112_k1, e112_k2, e112_k3, e112_k4, p112_0, p112_1⟩ := h112
            have f112 : Fr W_rp Mr Ma112 := Fr.t FR83 (Fr.m g112 (by decide))
            refine rsr (cI_e rfl) ?_
            refine rsr (vC_e (rk_160 (hR.fr f112))) ?_
            refine RrI (x196_s (by omega) (hR.fr f112) (e112_k0) (e112_k1) (e112_em111) (e112_k2) (e112_k3) (e112_k4) ((g112.i _ _ (by decide)).trans (u4983)) (li_9) (li_0) (by omega)) fun v Ma114 h114 => ?_
            obtain ⟨rv113, em113, rfl, g114, e114_em113, e114_k0, e114_k1, e114_k2, e114_k3, e114_k4, p114_0, p114_1⟩ := h114
            have f114 : Fr W_rp Mr Ma114 := Fr.t f112 (Fr.m g114 (by decide))
            refine rsr (cI_e rfl) ?_
            refine rsr (jv_e) ?_
            exact Rs.ok (Or.inr ⟨F83, P83, f110, f114, ⟨ti83, sz109, sn109, uc109, e110_k0, e110_k1, e110_k2, e110_k3, e110_sz109, e110_sn109, e110_uc109, by omega⟩, ⟨em113, rn83, ru83, rm83, rt83, e114_k0, e114_k1, e114_em113, e114_k2, e114_k3, e114_k4, (g114.i _ _ (by decide)).trans ((g112.i _ _ (by decide)).trans (u4983)), by omega⟩⟩)
      · refine rsl (if_neg (eqI_n (rfl) (li_40) (by omega))) ?_
        refine rsl (gtI_q (w := iI ((kd (i + 3)))) (ck_65 (hC.fr f13)) (e13_k2)) ?_
        refine rsl (jn_v) ?_
        by_cases c115 : ((kd (i + 3))) = 91
        · refine rsl (if_pos (eqI_p (rfl) (li_91) (by omega))) ?_
          refine rsl (jv_e) ?_
          refine rsl (jn_v) ?_
          refine rsl (if_neg (eqI_n (li_1) (li_0) (by omega))) ?_
          refine rsl (vC_e (ck_65 (hC.fr f13))) ?_
          refine rsr (gtI_q (w := iI ((kr (kd i)))) (rk_160 hR) (wa_36)) ?_
          refine rsr (jn_v) ?_
          refine rsr (swI_c) ?_
          refine rsr (if_neg (krI_n (k := 215) (rfl) (li_416) (hS.ok i (by omega) (by omega)) (by unfold KdOK sgk; omega) (by decide +kernel) (by omega) (by omega))) ?_
          refine rsr (swI_c) ?_
          refine rsr (if_neg (krI_n (k := 216) (rfl) (li_417) (hS.ok i (by omega) (by omega)) (by unfold KdOK sgk; omega) (by decide +kernel) (by omega) (by omega))) ?_
          refine rsr (swI_c) ?_
          refine rsr (if_neg (krI_n (k := 217) (rfl) (li_418) (hS.ok i (by omega) (by omega)) (by unfold KdOK sgk; omega) (by decide +kernel) (by omega) (by omega))) ?_
          refine rsr (swI_c) ?_
          refine rsr (if_neg (krI_n (k := 218) (rfl) (li_419) (hS.ok i (by omega) (by omega)) (by unfold KdOK sgk; omega) (by decide +kernel) (by omega) (by omega))) ?_
          refine rsr (swI_c) ?_
          refine rsr (if_neg (krI_n (k := 219) (rfl) (li_420) (hS.ok i (by omega) (by omega)) (by unfold KdOK sgk; omega) (by decide +kernel) (by omega) (by omega))) ?_
          refine rsr (swI_c) ?_
          refine rsr (if_neg (krI_n (k := 220) (rfl) (li_421) (hS.ok i (by omega) (by omega)) (by unfold KdOK sgk; omega) (by decide +kernel) (by omega) (by omega))) ?_
          refine rsr (swI_c) ?_
          refine rsr (if_neg (krI_n (k := 221) (rfl) (li_422) (hS.ok i (by omega) (by omega)) (by unfold KdOK sgk; omega) (by decide +kernel) (by omega) (by omega))) ?_
          refine rsr (swI_c) ?_
          refine rsr (if_neg (krI_n (k := 222) (rfl) (li_423) (hS.ok i (by omega) (by omega)) (by unfold KdOK sgk; omega) (by decide +kernel) (by omega) (by omega))) ?_
          refine rsr (swI_n) ?_
          refine rsr (gtI_q (w := iI ((kr (kd i)))) (rk_160 hR) (wa_36)) ?_
          refine rsr (jn_v) ?_
          refine rsr (if_pos (krI_p (k := 3) (rfl) (li_1) (by omega) (by decide +kernel))) ?_
          refine rsr (jv_e) ?_
          refine rsr (vC_e (rk_160 hR)) ?_
          refine rsr (cI_e (ar193_p (by omega) hS hR (wa_36) (wa_37) (wa_41) (li_1) (by omega))) ?_
          refine rsr (if_neg (eqI_n (rfl) (li_0) (by omega))) ?_
          refine rsr (vC_e (rk_160 hR)) ?_
          refine Rs_cVr ?_ (fun v M w N h => rs1 jv_e (Rt.ok h))
          obtain ⟨d2, rfl⟩ : ∃ e, d2 = e + 1 := ⟨d2 - 1, by omega⟩
          rw [r217]; unfold b217; rw [aR_e, aZ_e]; unfold c217
          refine rsr (vC_e (rk_160 hR)) ?_
          refine RrI (a201_d (by omega) hS hR (hT.fr (W := W_rx) Fr.r (by decide) (by decide)) (fun i a b => (Fr.lc (W := W_rx) Fr.r _ (by decide) _).trans (hW i a b)) (wa_36) (wa_37) (wa_38) (wa_41) (h49) (wa_53) wa_n (by omega)) fun v Ma117 h117 => ?_
          obtain ⟨r116, rfl, g117, e117_k0, e117_k1, e117_k2, e117_k3, e117_k4, p117_0, p117_1, p117_2⟩ := h117
          have f117 : Fr W_rx Mr Ma117 := Fr.t Fr.r (Fr.m g117 (by decide))
          refine rsr (cI_e rfl) ?_
          refine rsr (gtI_q (w := iI 0) (rk_160 (hR.fr f117)) (e117_k4)) ?_
          refine rsr (if_pos (eqI_p (rfl) (li_0) (by omega))) ?_
          refine rsr (gtP_q (w := some 202) (rk_160 (hR.fr f117)) (rf_56 (hR.fr f117))) ?_
          refine rsr (alL_q (n := 2000) (z := u) (w := (tx i)) (rk_202 (hR.fr f117)) (congrArg iI p117_0) (by omega) (p117_1.2.2.2.1)) ?_
          refine rsr (jn_v) ?_
          by_cases c118 : (tx i) = (0 : Int64)
          ·
            refine rsr (if_pos (lgc_p (rfl) (rfl) c118)) ?_
            refine rsr (gtP_q (w := some 204) (rk_160 (hR.fr f117)) (rf_58 (hR.fr f117))) ?_
            refine rsr (alL_q (n := 2000) (z := u) (w := (tx (i + 2))) (rk_204 (hR.fr f117)) (congrArg iI p117_0) (by omega) (p117_1.2.2.2.2.2.1)) ?_
            refine rsr (vC_e (rk_160 (hR.fr f117))) ?_
            obtain ⟨rl, hrl⟩ : ∃ r, LcF Hl s (tx (i + 2)) r := by have q := LcF_ex (Hl := Hl) (y := (tx (i + 2))) s.toNat; rw [show ((s.toNat : Nat) : Int) = s by omega] at q; exact q
            have brl := hrl.bd
            by_cases crl : rl = -1
            ·
              subst crl
              refine RrI (a197 (by omega) (hR.fr f117) ((g117.i _ _ (by decide)).trans (wa_51)) (lra.fr g117 (by decide)) (by omega)) fun v Nl119 hl119 => ?_
              obtain ⟨r9, rfl, hMl, hr9⟩ := hl119
              rw [hMl]
              have q9 := LcF.one hr9 hrl
              rw [q9]
              refine rsr (cI_e rfl) ?_
              refine rsr (jv_e) ?_
              try dsimp only
              refine rsr (gtI_q (w := iI ((kr (kd (i + 3))))) (rk_160 (hR.fr f117)) (e117_k1)) ?_
              refine rsr (jn_v) ?_
              refine rsr (if_neg (krI_n (k := 40) (rfl) (li_40) (hS.ok (i + 3) (by omega) (by omega)) (by unfold KdOK sgk; omega) (by decide +kernel) (by omega) (by omega))) ?_
              refine rsr (gtI_q (w := iI ((kr (kd (i + 3))))) (rk_160 (hR.fr f117)) (e117_k1)) ?_
              refine rsr (if_pos (krI_p (k := 91) (rfl) (li_91) (by omega) (by decide +kernel))) ?_
              refine rsr (vC_e (rk_160 (hR.fr f117))) ?_
              refine Rb_VV (hX _ _ (by omega) (by omega) T n m kd pl E tx ua ut mu _ _ G (pu U u [uc, (V Mr 201 u.toNat), (V Mr 200 u.toNat), (pl i), (pl (i + 2)), (V Mr 206 u.toNat), ut, 0, (V Mc 79 uc.toNat), (V Mc 80 uc.toNat), (pl i)]) Hl (pux X u [(tx i), (tx (i + 2))]) (i + 3) e s (u + 1) (uc + 1) _ hS (hCx.fr f13 f117) ⟨e13_k0, e13_k2, e13_k3, (g13.i _ _ (by decide)).trans (qa_9), (g13.i _ _ (by decide)).trans (qa_16), e13_k1⟩ ⟨e117_k1, e117_k2, e117_k3, e117_k4, (g117.i _ _ (by decide)).trans (wa_43), (g117.i _ _ (by decide)).trans (wa_51), e117_k0, (g117.i _ _ (by decide)).trans (wa_50), p117_2⟩ ⟨(caa.fr g13 (by decide)), (raa.fr g117 (by decide)), (lca.fr g13 (by decide)), (lra.fr g117 (by decide)), (CU.add cua (by omega) (by omega) p13_1 rfl rfl), (RU.add rua (by omega) p117_1 rfl)⟩ ⟨by omega, by omega, by omega, by omega, by omega, by omega, by omega, by omega, by omega, by omega, by omega, by omega⟩ (by omega) (vs1 (hv0))) fun v Mx120 w Nx120 hx120 => ?_
              rcases hx120 with ⟨i120, e120, u120, uc120, G120, U120, X120, fl120, fr120, sc120, sr120, rw120, bd120, mv120, ag120, au120, ax120, tp120, dp120, kv120⟩ | ⟨F120, P120, fl120, fr120, tc120, tr120⟩
              ·
                have FL120 : Fr W_cp Mc Mx120 := Fr.t f13 fl120
                have FR120 : Fr W_rx Mr Nx120 := Fr.t f117 fr120
                obtain ⟨bb120_0, bb120_1, bb120_2, bb120_3, bb120_4, bb120_5, bb120_6, bb120_7, bb120_8, bb120_9, bb120_10, bb120_11⟩ := bd120
                obtain ⟨q120_12, q120_13, q120_10, q120_9, q120_16, q120_19⟩ := sc120
                obtain ⟨w120_36, w120_37, w120_38, w120_41, w120_43, w120_51, w120_53, w120_50, w120_n⟩ := sr120
                obtain ⟨ca120, ra120, lc120, lr120, cu120, ru120⟩ := rw120
                have hk121 := (hS.ok i120 (by omega) (by omega)).r
                have ku120 := KU.t (KU.us kua p13_1 g13 (by decide) (by omega)) kv120 (by omega)
                have ty122 := Tye.t (d3 := 1) ty2 ag120 tp120 (by omega)
                have du123 := DU.t (DU.r (ut := ut) (mu := mu) (c := uc) (G := G) (a := e) (u := (u + 1))) ag120 au120 ax120 dp120 (by omega)
                refine rsl (cV_e rfl) ?_
                refine rsr (cV_e rfl) ?_
                refine rsl (jv_e) ?_
                refine rsl (vC_e (ck_65 (hC.fr FL120))) ?_
                by_cases c124 : ((kd i120)) = 61
                ·
                  have hm125 : i120 + 1 < m := hS.more i120 (by omega) (by omega) (by omega)
                  refine rsl (cV_e (a64q (by omega) hS (hC.fr FL120) (hTk.fr (WL := W_cp) FL120 (by decide)) (q120_12) (q120_13) (q120_10) (li_61) (i2 := (i120 + 1)) (by omega) (by omega))) ?_
                  have hk126 := (hS.ok (i120 + 1) (by omega) (by omega)).r
                  refine rsl (vC_e (ck_65 (hC.fr FL120).sI.sI)) ?_
                  refine rsr (vC_e (rk_160 (hR.fr FR120))) ?_
                  refine RrI (a195_61 (by omega) hS (hR.fr FR120) (hT.fr (W := W_rx) FR120 (by decide) (by decide)) (fun i a b => (Fr.lc (W := W_rx) FR120 _ (by decide) _).trans (hW i a b)) (w120_36) (w120_37) (w120_38) (w120_41) (li_61) (i2 := (i120 + 1)) (by omega) (by omega)) fun v Ma128 h128 => ?_
                  obtain ⟨r127, rfl, g128, e128_k0, e128_k1, e128_k2, p128_0, p128_1⟩ := h128
                  have f128 : Fr W_rx Mr Ma128 := Fr.t FR120 (Fr.m g128 (by decide))
                  refine rsr (cI_e rfl) ?_
                  refine rsr (vC_e (rk_160 (hR.fr f128))) ?_
                  refine Rb_VV (hE _ _ (by omega) (by omega) T n m kd pl E tx ua ut mu _ _ G120 U120 Hl X120 (i120 + 1) e120 s u120 uc120 _ hS (hCx.fr (Fr.sI (by decide) (Fr.sI (by decide) FL120)) f128) ⟨(sI_nej (by decide)).trans (sI_eq), sI_eq, (sI_nej (by decide)).trans ((sI_nej (by decide)).trans (q120_10)), (sI_nej (by decide)).trans ((sI_nej (by decide)).trans (q120_9)), (sI_nej (by decide)).trans ((sI_nej (by decide)).trans (q120_16)), (sI_nej (by decide)).trans ((sI_nej (by decide)).trans (q120_19))⟩ ⟨e128_k0, e128_k1, e128_k2, (g128.i _ _ (by decide)).trans (w120_41), (g128.i _ _ (by decide)).trans (w120_43), (g128.i _ _ (by decide)).trans (w120_51), (g128.i _ _ (by decide)).trans (w120_53), (g128.i _ _ (by decide)).trans (w120_50), p128_1⟩ ⟨(ca120.fr (W := W_c0) (Fr.sI (by decide) (Fr.sI (by decide) Fr.r)) (by decide)), (ra120.fr g128 (by decide)), (lc120.fr (W := W_c0) (Fr.sI (by decide) (Fr.sI (by decide) Fr.r)) (by decide)), (lr120.fr g128 (by decide)), (cu120.fr (W := W_c0) (Fr.sI (by decide) (Fr.sI (by decide) Fr.r)) (by decide)), (ru120.fr g128 (by decide))⟩ ⟨by omega, by omega, by omega, by omega, by omega, by omega, by omega, by omega, by omega, by omega, by omega, by omega⟩ (vs2 (li_0) (hv0))) fun v Mx129 w Nx129 hx129 => ?_
                  rcases hx129 with ⟨i129, e129, u129, uc129, G129, U129, X129, fl129, fr129, sc129, sr129, rw129, bd129, mv129, ag129, au129, ax129, tp129, dp129, kv129⟩ | ⟨F129, P129, fl129, fr129, tc129, tr129⟩
                  ·
                    have FL129 : Fr W_cp Mc Mx129 := Fr.t (Fr.sI (by decide) (Fr.sI (by decide) FL120)) fl129
                    have FR129 : Fr W_rx Mr Nx129 := Fr.t f128 fr129
                    obtain ⟨bb129_0, bb129_1, bb129_2, bb129_3, bb129_4, bb129_5, bb129_6, bb129_7, bb129_8, bb129_9, bb129_10, bb129_11⟩ := bd129
                    obtain ⟨q129_12, q129_13, q129_10, q129_9, q129_16, q129_19⟩ := sc129
                    obtain ⟨w129_36, w129_37, w129_38, w129_41, w129_43, w129_51, w129_53, w129_50, w129_n⟩ := sr129
                    obtain ⟨ca129, ra129, lc129, lr129, cu129, ru129⟩ := rw129
                    have hk130 := (hS.ok i129 (by omega) (by omega)).r
                    have ku129 := KU.t (ku120.fr (W := W_c0) (Fr.sI (by decide) (Fr.sI (by decide) Fr.r)) (by decide)) kv129 (by omega)
                    have ty131 := Tye.t (d3 := 2) ty122 ag129 tp129 (by omega)
                    have du132 := DU.t du123 ag129 au129 ax129 dp129 (by omega)
                    refine rsl (cV_e rfl) ?_
                    refine rsr (cV_e rfl) ?_
                    refine rsl (vC_e (ck_65 (hC.fr FL129))) ?_
                    by_cases c133 : ((kd i129)) = 59
                    ·
                      have hm134 : i129 + 1 < m := hS.more i129 (by omega) (by omega) (by omega)
                      refine rsl (cV_e (a64q (by omega) hS (hC.fr FL129) (hTk.fr (WL := W_cp) FL129 (by decide)) (q129_12) (q129_13) (q129_10) (li_59) (i2 := (i129 + 1)) (by omega) (by omega))) ?_
                      have hk135 := (hS.ok (i129 + 1) (by omega) (by omega)).r
                      refine rsl (jn_v) ?_
                      refine rsl (if_neg (eqI_n (li_1) (li_0) (by omega))) ?_
                      refine rsl (vC_e (ck_65 (hC.fr FL129).sI.sI)) ?_
                      have tb137 := Tyb.ex (dp := dp) (d := 2) (s' := s) (q := (e129 + 1)) (n1 := 0) (ut := ut) (mu := mu) (l := []) ty131 (Or.inr (Or.inr (Or.inr (Or.inr (Or.inr (Or.inl (by omega)))))) : Eff 6 u 0 2 s 0 s) (by omega) ⟨by omega, by omega⟩ (by omega)
                      have du138 := DU.set (U := U129) (X := X129) (c := uc) (b1 := 3) (p := 3) (q := (e129 + 1)) (u := u) (o := 6) (n1 := 0) (p1 := -2) (n3 := u) (l := []) (g := 0) du132 (by omega) (by omega) (by omega) (by omega) (fun q => absurd q (by decide)) (Int.le_of_eq (Eq.symm ((au129 0 _ (by omega)).trans ((au120 0 _ (by omega)).trans (pu_e rfl))))) ((au129 6 _ (by omega)).trans ((au120 6 _ (by omega)).trans (pu_e (by omega)))) (U3tr (ax129 0 _ (by omega)) (au129 3 _ (by omega)) (au129 10 _ (by omega)) (U3tr (ax120 0 _ (by omega)) (au120 3 _ (by omega)) (au120 10 _ (by omega)) (Or.inr (pu_310 (by omega) rfl)))) (by omega) (by omega)
                      refine RlV (a105 (by omega) (hC.fr FL129).sI.sI ((sI_nej (by decide)).trans ((sI_nej (by decide)).trans (q129_9))) (congrArg iI p13_0) (li_3) (li_6) (by omega)) fun v Ma139 h139 => ?_
                      obtain ⟨g139, e139_k0, p139_0, p139_1⟩ := h139
                      have f139 : Fr W_cp Mc Ma139 := Fr.t (Fr.sI (by decide) (Fr.sI (by decide) FL129)) (Fr.m g139 (by decide))
                      refine rsl (cV_e rfl) ?_
                      refine rsl (jv_e) ?_
                      refine rsr (vC_e (rk_160 (hR.fr FR129))) ?_
                      refine RrV (a202 (by omega) (hR.fr FR129) (w129_43) ((FR129.i _ _ (by decide)).trans h49) ((FR129.i _ _ (by decide)).trans h48) (congrArg iI p117_0) (li_3) (li_6) (by omega)) fun v Ma140 h140 => ?_
                      obtain ⟨g140, e140_k0, p140_0, p140_1⟩ := h140
                      have f140 : Fr W_rx Mr Ma140 := Fr.t FR129 (Fr.m g140 (by decide))
                      refine rsr (cV_e rfl) ?_
                      refine rsr (vC_e (rk_160 (hR.fr f140))) ?_
                      refine RrI (a195_59 (by omega) hS (hR.fr f140) (hT.fr (W := W_rx) f140 (by decide) (by decide)) (fun i a b => (Fr.lc (W := W_rx) f140 _ (by decide) _).trans (hW i a b)) ((g140.i _ _ (by decide)).trans (w129_36)) ((g140.i _ _ (by decide)).trans (w129_37)) ((g140.i _ _ (by decide)).trans (w129_38)) ((g140.i _ _ (by decide)).trans (w129_41)) (li_59) (i2 := (i129 + 1)) (by omega) (by omega)) fun v Ma142 h142 => ?_
                      obtain ⟨r141, rfl, g142, e142_k0, e142_k1, e142_k2, p142_0, p142_1⟩ := h142
                      have f142 : Fr W_rx Mr Ma142 := Fr.t f140 (Fr.m g142 (by decide))
                      refine rsr (cI_e rfl) ?_
                      refine rsr (jv_e) ?_
                      exact Rs.ok (Or.inl ⟨(i129 + 1), s, Hl, ⟨(e129 + 1), u129, uc129, (pu G129 e129 [6, 0, -2, u, ut, mu, 0]), (ps U129 u 3 3 e129), X129, f139, f142, ⟨(g139.i _ _ (by decide)).trans ((sI_nej (by decide)).trans (sI_eq)), (g139.i _ _ (by decide)).trans (sI_eq), (g139.i _ _ (by decide)).trans ((sI_nej (by decide)).trans ((sI_nej (by decide)).trans (q129_10))), e139_k0, (g139.i _ _ (by decide)).trans ((sI_nej (by decide)).trans ((sI_nej (by decide)).trans (q129_16))), (g139.i _ _ (by decide)).trans ((sI_nej (by decide)).trans ((sI_nej (by decide)).trans (q129_19)))⟩, ⟨e142_k0, e142_k1, e142_k2, (g142.i _ _ (by decide)).trans ((g140.i _ _ (by decide)).trans (w129_41)), (g142.i _ _ (by decide)).trans (e140_k0), (g142.i _ _ (by decide)).trans ((g140.i _ _ (by decide)).trans (w129_51)), (g142.i _ _ (by decide)).trans ((g140.i _ _ (by decide)).trans (w129_53)), (g142.i _ _ (by decide)).trans ((g140.i _ _ (by decide)).trans (w129_50)), p142_1⟩, ⟨(CA1.em (ca129.fr (W := W_c0) (Fr.sI (by decide) (Fr.sI (by decide) Fr.r)) (by decide)) (by omega) p139_0 rfl), ((RA1.em ra129 (by omega) p140_0 rfl).fr g142 (by decide)), ((lc129.fr (W := W_c0) (Fr.sI (by decide) (Fr.sI (by decide) Fr.r)) (by decide)).fr g139 (by decide)), ((lr129.fr g140 (by decide)).fr g142 (by decide)), (CU.set (b := 3) (cu129.fr (W := W_c0) (Fr.sI (by decide) (Fr.sI (by decide) Fr.r)) (by decide)) ⟨by omega, by omega⟩ ((au129 0 _ (by omega)).trans ((au120 0 _ (by omega)).trans (pu_e rfl))) p139_1 g139 (by decide)), ((RU.set ru129 ⟨by omega, by omega⟩ p140_1 g140 (by decide)).fr g142 (by decide))⟩, ⟨by omega, by omega, by omega, by omega, by omega, by omega, by omega, by omega, by omega, by omega, by omega, by omega⟩, ⟨by omega, by omega, by omega, by omega, by omega, by omega⟩, (Ag.pu (Ag.t (Ag.t Ag.r ag120 (by omega)) ag129 (by omega)) (by omega)), (Ag.ps (Ag.t (Ag.t (Ag.pu Ag.r (by omega)) au120 (by omega)) au129 (by omega)) (by omega)), (AgL.t (AgL.t (AgL.pu AgL.r (by omega)) ax120 (by omega)) ax129 (by omega)), tb137, du138, ((ku129.fr (W := W_c0) (Fr.sI (by decide) (Fr.sI (by decide) Fr.r)) (by decide)).fr g139 (by decide)), ⟨by omega, fun _ _ _ => rfl⟩⟩⟩)
                    ·
                      by_cases c143 : ((kd i129)) = 1
                      ·
                        refine rsl (cV_e (a64_1 (by omega) hS (hC.fr FL129) (hTk.fr (WL := W_cp) FL129 (by decide)) (q129_12) (q129_13) (q129_10) (li_59) (by omega))) ?_
                        refine rsl (jn_v) ?_
                        refine rsl (if_neg (eqI_n (li_1) (li_0) (by omega))) ?_
                        refine rsl (vC_e (ck_65 (hC.fr FL129).sI.sI.sI)) ?_
                        refine RlV (y105 (by omega) (hC.fr FL129).sI.sI.sI (hTk.fr (WL := W_cp) (Fr.sI (by decide) (Fr.sI (by decide) (Fr.sI (by decide) FL129))) (by decide)) ((sI_nej (by decide)).trans ((sI_nej (by decide)).trans ((sI_nej (by decide)).trans (q129_12)))) (sI_eq) ((sI_nej (by decide)).trans ((sI_nej (by decide)).trans (sI_eq))) ((sI_nej (by decide)).trans (sI_eq)) ((sI_nej (by decide)).trans ((sI_nej (by decide)).trans ((sI_nej (by decide)).trans (q129_9)))) ((sI_nej (by decide)).trans ((sI_nej (by decide)).trans ((sI_nej (by decide)).trans (q129_16)))) ((sI_nej (by decide)).trans ((sI_nej (by decide)).trans ((sI_nej (by decide)).trans (q129_19)))) (congrArg iI p13_0) (li_3) (li_6) (by omega)) fun v Ma145 h145 => ?_
                        obtain ⟨sz144, sn144, uc144, g145, e145_sz144, e145_sn144, e145_uc144, e145_k0, e145_k1, e145_k2, e145_k3, p145_0, p145_1, p145_2⟩ := h145
                        have f145 : Fr W_cp Mc Ma145 := Fr.t (Fr.sI (by decide) (Fr.sI (by decide) (Fr.sI (by decide) FL129))) (Fr.m g145 (by decide))
                        refine rsl (cV_e rfl) ?_
                        refine rsl (jv_e) ?_
                        refine rsr (vC_e (rk_160 (hR.fr FR129))) ?_
                        refine RrV (a202 (by omega) (hR.fr FR129) (w129_43) ((FR129.i _ _ (by decide)).trans h49) ((FR129.i _ _ (by decide)).trans h48) (congrArg iI p117_0) (li_3) (li_6) (by omega)) fun v Ma146 h146 => ?_
                        obtain ⟨g146, e146_k0, p146_0, p146_1⟩ := h146
                        have f146 : Fr W_rx Mr Ma146 := Fr.t FR129 (Fr.m g146 (by decide))
                        refine rsr (cV_e rfl) ?_
                        refine rsr (vC_e (rk_160 (hR.fr f146))) ?_
                        refine rsr (cI_e (a195_59_1 (by omega) hS (hR.fr f146) ((g146.i _ _ (by decide)).trans (w129_36)) ((g146.i _ _ (by decide)).trans (w129_37)) ((g146.i _ _ (by decide)).trans (w129_41)) (li_59) (by omega))) ?_
                        refine rsr (jv_e) ?_
                        exact Rs.ok (Or.inr ⟨1, ((pl i129)), f145, (Fr.sI (by decide) (Fr.sI (by decide) (Fr.m f146 (by decide)))), ⟨i129, sz144, sn144, uc144, e145_k0, e145_k1, e145_k2, e145_k3, e145_sz144, e145_sn144, e145_uc144, by omega⟩, ⟨(e129 + 1), s, u129, mu, ut, (sI_nej (by decide)).trans (sI_eq), sI_eq, (sI_nej (by decide)).trans ((sI_nej (by decide)).trans (e146_k0)), (sI_nej (by decide)).trans ((sI_nej (by decide)).trans ((g146.i _ _ (by decide)).trans (w129_51))), (sI_nej (by decide)).trans ((sI_nej (by decide)).trans ((g146.i _ _ (by decide)).trans (w129_53))), (sI_nej (by decide)).trans ((sI_nej (by decide)).trans ((g146.i _ _ (by decide)).trans ((FR129.i _ _ (by decide)).trans h48))), (sI_nej (by decide)).trans ((sI_nej (by decide)).trans ((g146.i _ _ (by decide)).trans ((FR129.i _ _ (by decide)).trans h49))), by omega⟩⟩)
                      ·
                        refine rsl (cV_e (a64_2 (by omega) hS (hC.fr FL129) (hTk.fr (WL := W_cp) FL129 (by decide)) (q129_12) (q129_13) (q129_10) (li_59) (by omega))) ?_
                        refine rsl (jn_v) ?_
                        refine rsl (if_neg (eqI_n (li_1) (li_0) (by omega))) ?_
                        refine rsl (vC_e (ck_65 (hC.fr FL129).sI.sI.sI)) ?_
                        refine RlV (y105 (by omega) (hC.fr FL129).sI.sI.sI (hTk.fr (WL := W_cp) (Fr.sI (by decide) (Fr.sI (by decide) (Fr.sI (by decide) FL129))) (by decide)) ((sI_nej (by decide)).trans ((sI_nej (by decide)).trans ((sI_nej (by decide)).trans (q129_12)))) (sI_eq) ((sI_nej (by decide)).trans ((sI_nej (by decide)).trans (sI_eq))) ((sI_nej (by decide)).trans (sI_eq)) ((sI_nej (by decide)).trans ((sI_nej (by decide)).trans ((sI_nej (by decide)).trans (q129_9)))) ((sI_nej (by decide)).trans ((sI_nej (by decide)).trans ((sI_nej (by decide)).trans (q129_16)))) ((sI_nej (by decide)).trans ((sI_nej (by decide)).trans ((sI_nej (by decide)).trans (q129_19)))) (congrArg iI p13_0) (li_3) (li_6) (by omega)) fun v Ma148 h148 => ?_
                        obtain ⟨sz147, sn147, uc147, g148, e148_sz147, e148_sn147, e148_uc147, e148_k0, e148_k1, e148_k2, e148_k3, p148_0, p148_1, p148_2⟩ := h148
                        have f148 : Fr W_cp Mc Ma148 := Fr.t (Fr.sI (by decide) (Fr.sI (by decide) (Fr.sI (by decide) FL129))) (Fr.m g148 (by decide))
                        refine rsl (cV_e rfl) ?_
                        refine rsl (jv_e) ?_
                        refine rsr (vC_e (rk_160 (hR.fr FR129))) ?_
                        refine RrV (a202 (by omega) (hR.fr FR129) (w129_43) ((FR129.i _ _ (by decide)).trans h49) ((FR129.i _ _ (by decide)).trans h48) (congrArg iI p117_0) (li_3) (li_6) (by omega)) fun v Ma149 h149 => ?_
                        obtain ⟨g149, e149_k0, p149_0, p149_1⟩ := h149
                        have f149 : Fr W_rx Mr Ma149 := Fr.t FR129 (Fr.m g149 (by decide))
                        refine rsr (cV_e rfl) ?_
                        refine rsr (vC_e (rk_160 (hR.fr f149))) ?_
                        refine rsr (cI_e (a195_59_2 (by omega) hS (hR.fr f149) ((g149.i _ _ (by decide)).trans (w129_36)) ((g149.i _ _ (by decide)).trans (w129_37)) ((g149.i _ _ (by decide)).trans (w129_41)) (li_59) (by omega))) ?_
                        refine rsr (jv_e) ?_
                        exact Rs.ok (Or.inr ⟨2, ((pl i129)), f148, (Fr.sI (by decide) (Fr.sI (by decide) (Fr.m f149 (by decide)))), ⟨i129, sz147, sn147, uc147, e148_k0, e148_k1, e148_k2, e148_k3, e148_sz147, e148_sn147, e148_uc147, by omega⟩, ⟨(e129 + 1), s, u129, mu, ut, (sI_nej (by decide)).trans (sI_eq), sI_eq, (sI_nej (by decide)).trans ((sI_nej (by decide)).trans (e149_k0)), (sI_nej (by decide)).trans ((sI_nej (by decide)).trans ((g149.i _ _ (by decide)).trans (w129_51))), (sI_nej (by decide)).trans ((sI_nej (by decide)).trans ((g149.i _ _ (by decide)).trans (w129_53))), (sI_nej (by decide)).trans ((sI_nej (by decide)).trans ((g149.i _ _ (by decide)).trans ((FR129.i _ _ (by decide)).trans h48))), (sI_nej (by decide)).trans ((sI_nej (by decide)).trans ((g149.i _ _ (by decide)).trans ((FR129.i _ _ (by decide)).trans h49))), by omega⟩⟩)
                  ·
                    have FL129 : Fr W_cp Mc Mx129 := Fr.t (Fr.sI (by decide) (Fr.sI (by decide) FL120)) fl129
                    have FR129 : Fr W_rp Mr Nx129 := Fr.t (Fr.m f128 W_rx_p) fr129
                    obtain ⟨ti129, tz129, tn129, tu129, t13129, t10129, t11129, t12129, t9129, t16129, t19129, tb129⟩ := tc129
                    obtain ⟨re129, rn129, ru129, rm129, rt129, u41129, u42129, u43129, u51129, u53129, u48129, u49129, ub129⟩ := tr129
                    refine rsl (cV_e rfl) ?_
                    refine rsr (cV_e rfl) ?_
                    refine rsl (vC_e (ck_65 (hC.fr FL129))) ?_
                    refine RlV (y64 (by omega) (hC.fr FL129) (hTk.fr (WL := W_cp) FL129 (by decide)) (t12129) (t13129) (t10129) (t11129) (t9129) (t16129) (t19129) (li_59) (by omega)) fun v Ma151 h151 => ?_
                    obtain ⟨sz150, sn150, uc150, g151, e151_sz150, e151_sn150, e151_uc150, e151_k0, e151_k1, e151_k2, e151_k3, p151_0, p151_1, p151_2⟩ := h151
                    have f151 : Fr W_cp Mc Ma151 := Fr.t FL129 (Fr.m g151 (by decide))
                    refine rsl (cV_e rfl) ?_
                    refine rsl (jn_v) ?_
                    refine rsl (if_neg (eqI_n (li_1) (li_0) (by omega))) ?_
                    refine rsl (vC_e (ck_65 (hC.fr f151))) ?_
                    refine RlV (y105 (by omega) (hC.fr f151) (hTk.fr (WL := W_cp) f151 (by decide)) (e151_k3) (e151_k0) (e151_k1) (e151_k2) (e151_sz150) (e151_sn150) (e151_uc150) (congrArg iI p13_0) (li_3) (li_6) (by omega)) fun v Ma153 h153 => ?_
                    obtain ⟨sz152, sn152, uc152, g153, e153_sz152, e153_sn152, e153_uc152, e153_k0, e153_k1, e153_k2, e153_k3, p153_0, p153_1, p153_2⟩ := h153
                    have f153 : Fr W_cp Mc Ma153 := Fr.t f151 (Fr.m g153 (by decide))
                    refine rsl (cV_e rfl) ?_
                    refine rsl (jv_e) ?_
                    refine rsr (vC_e (rk_160 (hR.fr FR129))) ?_
                    refine RrV (x202_s (by omega) (hR.fr FR129) (u41129) (u42129) (u43129) (u51129) (u53129) (u48129) (u49129) (congrArg iI p117_0) (li_3) (li_6) (by omega)) fun v Ma155 h155 => ?_
                    obtain ⟨em154, g155, e155_em154, e155_k0, e155_k1, e155_k2, e155_k3, e155_k4, p155_0⟩ := h155
                    have f155 : Fr W_rp Mr Ma155 := Fr.t FR129 (Fr.m g155 (by decide))
                    refine rsr (cV_e rfl) ?_
                    refine rsr (vC_e (rk_160 (hR.fr f155))) ?_
                    refine RrI (x195_s (by omega) (hR.fr f155) (e155_k0) (e155_k1) (e155_em154) (e155_k2) (e155_k3) (e155_k4) ((g155.i _ _ (by decide)).trans (u49129)) (li_59) (by omega)) fun v Ma157 h157 => ?_
                    obtain ⟨rv156, em156, rfl, g157, e157_em156, e157_k0, e157_k1, e157_k2, e157_k3, e157_k4, p157_0, p157_1⟩ := h157
                    have f157 : Fr W_rp Mr Ma157 := Fr.t f155 (Fr.m g157 (by decide))
                    refine rsr (cI_e rfl) ?_
                    refine rsr (jv_e) ?_
                    exact Rs.ok (Or.inr ⟨F129, P129, f153, f157, ⟨ti129, sz152, sn152, uc152, e153_k0, e153_k1, e153_k2, e153_k3, e153_sz152, e153_sn152, e153_uc152, by omega⟩, ⟨em156, rn129, ru129, rm129, rt129, e157_k0, e157_k1, e157_em156, e157_k2, e157_k3, e157_k4, (g157.i _ _ (by decide)).trans ((g155.i _ _ (by decide)).trans (u49129)), by omega⟩⟩)
                ·
                  by_cases c158 : ((kd i120)) = 1
                  ·
                    refine rsl (cV_e (a64_1 (by omega) hS (hC.fr FL120) (hTk.fr (WL := W_cp) FL120 (by decide)) (q120_12) (q120_13) (q120_10) (li_61) (by omega))) ?_
                    refine rsl (vC_e (ck_65 (hC.fr FL120).sI.sI.sI)) ?_
                    refine RlV (y99_0 (by omega) (hC.fr FL120).sI.sI.sI (hTk.fr (WL := W_cp) (Fr.sI (by decide) (Fr.sI (by decide) (Fr.sI (by decide) FL120))) (by decide)) ((sI_nej (by decide)).trans ((sI_nej (by decide)).trans ((sI_nej (by decide)).trans (q120_12)))) (sI_eq) ((sI_nej (by decide)).trans ((sI_nej (by decide)).trans (sI_eq))) ((sI_nej (by decide)).trans (sI_eq)) ((sI_nej (by decide)).trans ((sI_nej (by decide)).trans ((sI_nej (by decide)).trans (q120_9)))) ((sI_nej (by decide)).trans ((sI_nej (by decide)).trans ((sI_nej (by decide)).trans (q120_16)))) ((sI_nej (by decide)).trans ((sI_nej (by decide)).trans ((sI_nej (by decide)).trans (q120_19)))) (li_0) (hv0) (by omega)) fun v Ma160 h160 => ?_
                    obtain ⟨sz159, sn159, uc159, g160, e160_sz159, e160_sn159, e160_uc159, e160_k0, e160_k1, e160_k2, e160_k3, p160_0, p160_1, p160_2⟩ := h160
                    have f160 : Fr W_cp Mc Ma160 := Fr.t (Fr.sI (by decide) (Fr.sI (by decide) (Fr.sI (by decide) FL120))) (Fr.m g160 (by decide))
                    refine rsl (cV_e rfl) ?_
                    refine rsl (vC_e (ck_65 (hC.fr f160))) ?_
                    refine RlV (y64 (by omega) (hC.fr f160) (hTk.fr (WL := W_cp) f160 (by decide)) (e160_k3) (e160_k0) (e160_k1) (e160_k2) (e160_sz159) (e160_sn159) (e160_uc159) (li_59) (by omega)) fun v Ma162 h162 => ?_
                    obtain ⟨sz161, sn161, uc161, g162, e162_sz161, e162_sn161, e162_uc161, e162_k0, e162_k1, e162_k2, e162_k3, p162_0, p162_1, p162_2⟩ := h162
                    have f162 : Fr W_cp Mc Ma162 := Fr.t f160 (Fr.m g162 (by decide))
                    refine rsl (cV_e rfl) ?_
                    refine rsl (jn_v) ?_
                    refine rsl (if_neg (eqI_n (li_1) (li_0) (by omega))) ?_
                    refine rsl (vC_e (ck_65 (hC.fr f162))) ?_
                    refine RlV (y105 (by omega) (hC.fr f162) (hTk.fr (WL := W_cp) f162 (by decide)) (e162_k3) (e162_k0) (e162_k1) (e162_k2) (e162_sz161) (e162_sn161) (e162_uc161) (congrArg iI p13_0) (li_3) (li_6) (by omega)) fun v Ma164 h164 => ?_
                    obtain ⟨sz163, sn163, uc163, g164, e164_sz163, e164_sn163, e164_uc163, e164_k0, e164_k1, e164_k2, e164_k3, p164_0, p164_1, p164_2⟩ := h164
                    have f164 : Fr W_cp Mc Ma164 := Fr.t f162 (Fr.m g164 (by decide))
                    refine rsl (cV_e rfl) ?_
                    refine rsl (jv_e) ?_
                    refine rsr (vC_e (rk_160 (hR.fr FR120))) ?_
                    refine rsr (cI_e (a195_61_1 (by omega) hS (hR.fr FR120) (w120_36) (w120_37) (w120_41) (li_61) (by omega))) ?_
                    refine rsr (vC_e (rk_160 (hR.fr FR120).sI.sI)) ?_
                    refine RrV (x211_s (by omega) (hR.fr FR120).sI.sI ((sI_nej (by decide)).trans (sI_eq)) (sI_eq) ((sI_nej (by decide)).trans ((sI_nej (by decide)).trans (w120_43))) ((sI_nej (by decide)).trans ((sI_nej (by decide)).trans (w120_51))) ((sI_nej (by decide)).trans ((sI_nej (by decide)).trans (w120_53))) ((sI_nej (by decide)).trans ((sI_nej (by decide)).trans ((FR120.i _ _ (by decide)).trans h48))) ((sI_nej (by decide)).trans ((sI_nej (by decide)).trans ((FR120.i _ _ (by decide)).trans h49)))  (by omega)) fun v Ma166 h166 => ?_
                    obtain ⟨em165, g166, e166_em165, e166_k0, e166_k1, e166_k2, e166_k3, e166_k4, p166_0⟩ := h166
                    have f166 : Fr W_rp Mr Ma166 := Fr.t (Fr.sI (by decide) (Fr.sI (by decide) (Fr.m FR120 (by decide)))) (Fr.m g166 (by decide))
                    refine rsr (cV_e rfl) ?_
                    refine rsr (vC_e (rk_160 (hR.fr f166))) ?_
                    refine RrV (x202_s (by omega) (hR.fr f166) (e166_k0) (e166_k1) (e166_em165) (e166_k2) (e166_k3) (e166_k4) ((g166.i _ _ (by decide)).trans ((sI_nej (by decide)).trans ((sI_nej (by decide)).trans ((FR120.i _ _ (by decide)).trans h49)))) (congrArg iI p117_0) (li_3) (li_6) (by omega)) fun v Ma168 h168 => ?_
                    obtain ⟨em167, g168, e168_em167, e168_k0, e168_k1, e168_k2, e168_k3, e168_k4, p168_0⟩ := h168
                    have f168 : Fr W_rp Mr Ma168 := Fr.t f166 (Fr.m g168 (by decide))
                    refine rsr (cV_e rfl) ?_
                    refine rsr (vC_e (rk_160 (hR.fr f168))) ?_
                    refine RrI (x195_s (by omega) (hR.fr f168) (e168_k0) (e168_k1) (e168_em167) (e168_k2) (e168_k3) (e168_k4) ((g168.i _ _ (by decide)).trans ((g166.i _ _ (by decide)).trans ((sI_nej (by decide)).trans ((sI_nej (by decide)).trans ((FR120.i _ _ (by decide)).trans h49))))) (li_59) (by omega)) fun v Ma170 h170 => ?_
                    obtain ⟨rv169, em169, rfl, g170, e170_em169, e170_k0, e170_k1, e170_k2, e170_k3, e170_k4, p170_0, p170_1⟩ := h170
                    have f170 : Fr W_rp Mr Ma170 := Fr.t f168 (Fr.m g170 (by decide))
                    refine rsr (cI_e rfl) ?_
                    refine rsr (jv_e) ?_
                    exact Rs.ok (Or.inr ⟨1, ((pl i120)), f164, f170, ⟨i120, sz163, sn163, uc163, e164_k0, e164_k1, e164_k2, e164_k3, e164_sz163, e164_sn163, e164_uc163, by omega⟩, ⟨em169, s, u120, mu, ut, e170_k0, e170_k1, e170_em169, e170_k2, e170_k3, e170_k4, (g170.i _ _ (by decide)).trans ((g168.i _ _ (by decide)).trans ((g166.i _ _ (by decide)).trans ((sI_nej (by decide)).trans ((sI_nej (by decide)).trans ((FR120.i _ _ (by decide)).trans h49))))), by omega⟩⟩)
                  ·
                    refine rsl (cV_e (a64_2 (by omega) hS (hC.fr FL120) (hTk.fr (WL := W_cp) FL120 (by decide)) (q120_12) (q120_13) (q120_10) (li_61) (by omega))) ?_
                    refine rsl (vC_e (ck_65 (hC.fr FL120).sI.sI.sI)) ?_
                    refine RlV (y99_0 (by omega) (hC.fr FL120).sI.sI.sI (hTk.fr (WL := W_cp) (Fr.sI (by decide) (Fr.sI (by decide) (Fr.sI (by decide) FL120))) (by decide)) ((sI_nej (by decide)).trans ((sI_nej (by decide)).trans ((sI_nej (by decide)).trans (q120_12)))) (sI_eq) ((sI_nej (by decide)).trans ((sI_nej (by decide)).trans (sI_eq))) ((sI_nej (by decide)).trans (sI_eq)) ((sI_nej (by decide)).trans ((sI_nej (by decide)).trans ((sI_nej (by decide)).trans (q120_9)))) ((sI_nej (by decide)).trans ((sI_nej (by decide)).trans ((sI_nej (by decide)).trans (q120_16)))) ((sI_nej (by decide)).trans ((sI_nej (by decide)).trans ((sI_nej (by decide)).trans (q120_19)))) (li_0) (hv0) (by omega)) fun v Ma172 h172 => ?_
                    obtain ⟨sz171, sn171, uc171, g172, e172_sz171, e172_sn171, e172_uc171, e172_k0, e172_k1, e172_k2, e172_k3, p172_0, p172_1, p172_2⟩ := h172
                    have f172 : Fr W_cp Mc Ma172 := Fr.t (Fr.sI (by decide) (Fr.sI (by decide) (Fr.sI (by decide) FL120))) (Fr.m g172 (by decide))
                    refine rsl (cV_e rfl) ?_
                    refine rsl (vC_e (ck_65 (hC.fr f172))) ?_
                    refine RlV (y64 (by omega) (hC.fr f172) (hTk.fr (WL := W_cp) f172 (by decide)) (e172_k3) (e172_k0) (e172_k1) (e172_k2) (e172_sz171) (e172_sn171) (e172_uc171) (li_59) (by omega)) fun v Ma174 h174 => ?_
                    obtain ⟨sz173, sn173, uc173, g174, e174_sz173, e174_sn173, e174_uc173, e174_k0, e174_k1, e174_k2, e174_k3, p174_0, p174_1, p174_2⟩ := h174
                    have f174 : Fr W_cp Mc Ma174 := Fr.t f172 (Fr.m g174 (by decide))
                    refine rsl (cV_e rfl) ?_
                    refine rsl (jn_v) ?_
                    refine rsl (if_neg (eqI_n (li_1) (li_0) (by omega))) ?_
                    refine rsl (vC_e (ck_65 (hC.fr f174))) ?_
                    refine RlV (y105 (by omega) (hC.fr f174) (hTk.fr (WL := W_cp) f174 (by decide)) (e174_k3) (e174_k0) (e174_k1) (e174_k2) (e174_sz173) (e174_sn173) (e174_uc173) (congrArg iI p13_0) (li_3) (li_6) (by omega)) fun v Ma176 h176 => ?_
                    obtain ⟨sz175, sn175, uc175, g176, e176_sz175, e176_sn175, e176_uc175, e176_k0, e176_k1, e176_k2, e176_k3, p176_0, p176_1, p176_2⟩ := h176
                    have f176 : Fr W_cp Mc Ma176 := Fr.t f174 (Fr.m g176 (by decide))
                    refine rsl (cV_e rfl) ?_
                    refine rsl (jv_e) ?_
                    refine rsr (vC_e (rk_160 (hR.fr FR120))) ?_
                    refine rsr (cI_e (a195_61_2 (by omega) hS (hR.fr FR120) (w120_36) (w120_37) (w120_41) (li_61) (by omega))) ?_
                    refine rsr (vC_e (rk_160 (hR.fr FR120).sI.sI)) ?_
                    refine RrV (x211_s (by omega) (hR.fr FR120).sI.sI ((sI_nej (by decide)).trans (sI_eq)) (sI_eq) ((sI_nej (by decide)).trans ((sI_nej (by decide)).trans (w120_43))) ((sI_nej (by decide)).trans ((sI_nej (by decide)).trans (w120_51))) ((sI_nej (by decide)).trans ((sI_nej (by decide)).trans (w120_53))) ((sI_nej (by decide)).trans ((sI_nej (by decide)).trans ((FR120.i _ _ (by decide)).trans h48))) ((sI_nej (by decide)).trans ((sI_nej (by decide)).trans ((FR120.i _ _ (by decide)).trans h49)))  (by omega)) fun v Ma178 h178 => ?_
                    obtain ⟨em177, g178, e178_em177, e178_k0, e178_k1, e178_k2, e178_k3, e178_k4, p178_0⟩ := h178
                    have f178 : Fr W_rp Mr Ma178 := Fr.t (Fr.sI (by decide) (Fr.sI (by decide) (Fr.m FR120 (by decide)))) (Fr.m g178 (by decide))
                    refine rsr (cV_e rfl) ?_
                    refine rsr (vC_e (rk_160 (hR.fr f178))) ?_
                    refine RrV (x202_s (by omega) (hR.fr f178) (e178_k0) (e178_k1) (e178_em177) (e178_k2) (e178_k3) (e178_k4) ((g178.i _ _ (by decide)).trans ((sI_nej (by decide)).trans ((sI_nej (by decide)).trans ((FR120.i _ _ (by decide)).trans h49)))) (congrArg iI p117_0) (li_3) (li_6) (by omega)) fun v Ma180 h180 => ?_
                    obtain ⟨em179, g180, e180_em179, e180_k0, e180_k1, e180_k2, e180_k3, e180_k4, p180_0⟩ := h180
                    have f180 : Fr W_rp Mr Ma180 := Fr.t f178 (Fr.m g180 (by decide))
                    refine rsr (cV_e rfl) ?_
                    refine rsr (vC_e (rk_160 (hR.fr f180))) ?_
                    refine RrI (x195_s (by omega) (hR.fr f180) (e180_k0) (e180_k1) (e180_em179) (e180_k2) (e180_k3) (e180_k4) ((g180.i _ _ (by decide)).trans ((g178.i _ _ (by decide)).trans ((sI_nej (by decide)).trans ((sI_nej (by decide)).trans ((FR120.i _ _ (by decide)).trans h49))))) (li_59) (by omega)) fun v Ma182 h182 => ?_
                    obtain ⟨rv181, em181, rfl, g182, e182_em181, e182_k0, e182_k1, e182_k2, e182_k3, e182_k4, p182_0, p182_1⟩ := h182
                    have f182 : Fr W_rp Mr Ma182 := Fr.t f180 (Fr.m g182 (by decide))
                    refine rsr (cI_e rfl) ?_
                    refine rsr (jv_e) ?_
                    exact Rs.ok (Or.inr ⟨2, ((pl i120)), f176, f182, ⟨i120, sz175, sn175, uc175, e176_k0, e176_k1, e176_k2, e176_k3, e176_sz175, e176_sn175, e176_uc175, by omega⟩, ⟨em181, s, u120, mu, ut, e182_k0, e182_k1, e182_em181, e182_k2, e182_k3, e182_k4, (g182.i _ _ (by decide)).trans ((g180.i _ _ (by decide)).trans ((g178.i _ _ (by decide)).trans ((sI_nej (by decide)).trans ((sI_nej (by decide)).trans ((FR120.i _ _ (by decide)).trans h49))))), by omega⟩⟩)
              ·
                have FL120 : Fr W_cp Mc Mx120 := Fr.t f13 fl120
                have FR120 : Fr W_rp Mr Nx120 := Fr.t (Fr.m f117 W_rx_p) fr120
                obtain ⟨ti120, tz120, tn120, tu120, t13120, t10120, t11120, t12120, t9120, t16120, t19120, tb120⟩ := tc120
                obtain ⟨re120, rn120, ru120, rm120, rt120, u41120, u42120, u43120, u51120, u53120, u48120, u49120, ub120⟩ := tr120
                refine rsl (cV_e rfl) ?_
                refine rsr (cV_e rfl) ?_
                refine rsl (jv_e) ?_
                refine rsl (vC_e (ck_65 (hC.fr FL120))) ?_
                refine RlV (y64 (by omega) (hC.fr FL120) (hTk.fr (WL := W_cp) FL120 (by decide)) (t12120) (t13120) (t10120) (t11120) (t9120) (t16120) (t19120) (li_61) (by omega)) fun v Ma184 h184 => ?_
                obtain ⟨sz183, sn183, uc183, g184, e184_sz183, e184_sn183, e184_uc183, e184_k0, e184_k1, e184_k2, e184_k3, p184_0, p184_1, p184_2⟩ := h184
                have f184 : Fr W_cp Mc Ma184 := Fr.t FL120 (Fr.m g184 (by decide))
                refine rsl (cV_e rfl) ?_
                refine rsl (vC_e (ck_65 (hC.fr f184))) ?_
                refine RlV (y99_0 (by omega) (hC.fr f184) (hTk.fr (WL := W_cp) f184 (by decide)) (e184_k3) (e184_k0) (e184_k1) (e184_k2) (e184_sz183) (e184_sn183) (e184_uc183) (li_0) (hv0) (by omega)) fun v Ma186 h186 => ?_
                obtain ⟨sz185, sn185, uc185, g186, e186_sz185, e186_sn185, e186_uc185, e186_k0, e186_k1, e186_k2, e186_k3, p186_0, p186_1, p186_2⟩ := h186
                have f186 : Fr W_cp Mc Ma186 := Fr.t f184 (Fr.m g186 (by decide))
                refine rsl (cV_e rfl) ?_
                refine rsl (vC_e (ck_65 (hC.fr f186))) ?_
                refine RlV (y64 (by omega) (hC.fr f186) (hTk.fr (WL := W_cp) f186 (by decide)) (e186_k3) (e186_k0) (e186_k1) (e186_k2) (e186_sz185) (e186_sn185) (e186_uc185) (li_59) (by omega)) fun v Ma188 h188 => ?_
                obtain ⟨sz187, sn187, uc187, g188, e188_sz187, e188_sn187, e188_uc187, e188_k0, e188_k1, e188_k2, e188_k3, p188_0, p188_1, p188_2⟩ := h188
                have f188 : Fr W_cp Mc Ma188 := Fr.t f186 (Fr.m g188 (by decide))
                refine rsl (cV_e rfl) ?_
                refine rsl (jn_v) ?_
                refine rsl (if_neg (eqI_n (li_1) (li_0) (by omega))) ?_
                refine rsl (vC_e (ck_65 (hC.fr f188))) ?_
                refine RlV (y105 (by omega) (hC.fr f188) (hTk.fr (WL := W_cp) f188 (by decide)) (e188_k3) (e188_k0) (e188_k1) (e188_k2) (e188_sz187) (e188_sn187) (e188_uc187) (congrArg iI p13_0) (li_3) (li_6) (by omega)) fun v Ma190 h190 => ?_
                obtain ⟨sz189, sn189, uc189, g190, e190_sz189, e190_sn189, e190_uc189, e190_k0, e190_k1, e190_k2, e190_k3, p190_0, p190_1, p190_2⟩ := h190
                have f190 : Fr W_cp Mc Ma190 := Fr.t f188 (Fr.m g190 (by decide))
                refine rsl (cV_e rfl) ?_
                refine rsl (jv_e) ?_
                refine rsr (vC_e (rk_160 (hR.fr FR120))) ?_
                refine RrI (x195_s (by omega) (hR.fr FR120) (u41120) (u42120) (u43120) (u51120) (u53120) (u48120) (u49120) (li_61) (by omega)) fun v Ma192 h192 => ?_
                obtain ⟨rv191, em191, rfl, g192, e192_em191, e192_k0, e192_k1, e192_k2, e192_k3, e192_k4, p192_0, p192_1⟩ := h192
                have f192 : Fr W_rp Mr Ma192 := Fr.t FR120 (Fr.m g192 (by decide))
                refine rsr (cI_e rfl) ?_
                refine rsr (vC_e (rk_160 (hR.fr f192))) ?_
                refine RrV (x211_s (by omega) (hR.fr f192) (e192_k0) (e192_k1) (e192_em191) (e192_k2) (e192_k3) (e192_k4) ((g192.i _ _ (by decide)).trans (u49120))  (by omega)) fun v Ma194 h194 => ?_
                obtain ⟨em193, g194, e194_em193, e194_k0, e194_k1, e194_k2, e194_k3, e194_k4, p194_0⟩ := h194
                have f194 : Fr W_rp Mr Ma194 := Fr.t f192 (Fr.m g194 (by decide))
                refine rsr (cV_e rfl) ?_
                refine rsr (vC_e (rk_160 (hR.fr f194))) ?_
                refine RrV (x202_s (by omega) (hR.fr f194) (e194_k0) (e194_k1) (e194_em193) (e194_k2) (e194_k3) (e194_k4) ((g194.i _ _ (by decide)).trans ((g192.i _ _ (by decide)).trans (u49120))) (congrArg iI p117_0) (li_3) (li_6) (by omega)) fun v Ma196 h196 => ?_
                obtain ⟨em195, g196, e196_em195, e196_k0, e196_k1, e196_k2, e196_k3, e196_k4, p196_0⟩ := h196
                have f196 : Fr W_rp Mr Ma196 := Fr.t f194 (Fr.m g196 (by decide))
                refine rsr (cV_e rfl) ?_
                refine rsr (vC_e (rk_160 (hR.fr f196))) ?_
                refine RrI (x195_s (by omega) (hR.fr f196) (e196_k0) (e196_k1) (e196_em195) (e196_k2) (e196_k3) (e196_k4) ((g196.i _ _ (by decide)).trans ((g194.i _ _ (by decide)).trans ((g192.i _ _ (by decide)).trans (u49120)))) (li_59) (by omega)) fun v Ma198 h198 => ?_
                obtain ⟨rv197, em197, rfl, g198, e198_em197, e198_k0, e198_k1, e198_k2, e198_k3, e198_k4, p198_0, p198_1⟩ := h198
                have f198 : Fr W_rp Mr Ma198 := Fr.t f196 (Fr.m g198 (by decide))
                refine rsr (cI_e rfl) ?_
                refine rsr (jv_e) ?_
                exact Rs.ok (Or.inr ⟨F120, P120, f190, f198, ⟨ti120, sz189, sn189, uc189, e190_k0, e190_k1, e190_k2, e190_k3, e190_sz189, e190_sn189, e190_uc189, by omega⟩, ⟨em197, rn120, ru120, rm120, rt120, e198_k0, e198_k1, e198_em197, e198_k2, e198_k3, e198_k4, (g198.i _ _ (by decide)).trans ((g196.i _ _ (by decide)).trans ((g194.i _ _ (by decide)).trans ((g192.i _ _ (by decide)).trans (u49120)))), by omega⟩⟩)
            ·
              refine RrI (a197 (by omega) (hR.fr f117) ((g117.i _ _ (by decide)).trans (wa_51)) (lra.fr g117 (by decide)) (by omega)) fun v Nl119 hl119 => ?_
              obtain ⟨r9, rfl, hMl, hr9⟩ := hl119
              rw [hMl]
              have q9 := LcF.one hr9 hrl
              rw [q9]
              refine rsr (cI_e rfl) ?_
              refine rsr (jv_e) ?_
              try dsimp only
              refine rsr (gtI_q (w := iI ((kr (kd (i + 3))))) (rk_160 (hR.fr f117)) (e117_k1)) ?_
              refine rsr (jn_v) ?_
              refine rsr (if_neg (krI_n (k := 40) (rfl) (li_40) (hS.ok (i + 3) (by omega) (by omega)) (by unfold KdOK sgk; omega) (by decide +kernel) (by omega) (by omega))) ?_
              refine rsr (gtI_q (w := iI ((kr (kd (i + 3))))) (rk_160 (hR.fr f117)) (e117_k1)) ?_
              refine rsr (if_pos (krI_p (k := 91) (rfl) (li_91) (by omega) (by decide +kernel))) ?_
              refine rsr (vC_e (rk_160 (hR.fr f117))) ?_
              refine Rb_VV (hX _ _ (by omega) (by omega) T n m kd pl E tx ua ut mu _ _ G (pu U u [uc, (V Mr 201 u.toNat), (V Mr 200 u.toNat), (pl i), (pl (i + 2)), (V Mr 206 u.toNat), ut, 0, (V Mc 79 uc.toNat), (V Mc 80 uc.toNat), (pl i)]) Hl (pux X u [(tx i), (tx (i + 2))]) (i + 3) e s (u + 1) (uc + 1) _ hS (hCx.fr f13 f117) ⟨e13_k0, e13_k2, e13_k3, (g13.i _ _ (by decide)).trans (qa_9), (g13.i _ _ (by decide)).trans (qa_16), e13_k1⟩ ⟨e117_k1, e117_k2, e117_k3, e117_k4, (g117.i _ _ (by decide)).trans (wa_43), (g117.i _ _ (by decide)).trans (wa_51), e117_k0, (g117.i _ _ (by decide)).trans (wa_50), p117_2⟩ ⟨(caa.fr g13 (by decide)), (raa.fr g117 (by decide)), (lca.fr g13 (by decide)), (lra.fr g117 (by decide)), (CU.add cua (by omega) (by omega) p13_1 rfl rfl), (RU.add rua (by omega) p117_1 rfl)⟩ ⟨by omega, by omega, by omega, by omega, by omega, by omega, by omega, by omega, by omega, by omega, by omega, by omega⟩ (by omega) (vs1 (hv0))) fun v Mx199 w Nx199 hx199 => ?_
              rcases hx199 with ⟨i199, e199, u199, uc199, G199, U199, X199, fl199, fr199, sc199, sr199, rw199, bd199, mv199, ag199, au199, ax199, tp199, dp199, kv199⟩ | ⟨F199, P199, fl199, fr199, tc199, tr199⟩
              ·
                have FL199 : Fr W_cp Mc Mx199 := Fr.t f13 fl199
                have FR199 : Fr W_rx Mr Nx199 := Fr.t f117 fr199
                obtain ⟨bb199_0, bb199_1, bb199_2, bb199_3, bb199_4, bb199_5, bb199_6, bb199_7, bb199_8, bb199_9, bb199_10, bb199_11⟩ := bd199
                obtain ⟨q199_12, q199_13, q199_10, q199_9, q199_16, q199_19⟩ := sc199
                obtain ⟨w199_36, w199_37, w199_38, w199_41, w199_43, w199_51, w199_53, w199_50, w199_n⟩ := sr199
                obtain ⟨ca199, ra199, lc199, lr199, cu199, ru199⟩ := rw199
                have hk200 := (hS.ok i199 (by omega) (by omega)).r
                have ku199 := KU.t (KU.us kua p13_1 g13 (by decide) (by omega)) kv199 (by omega)
                have ty201 := Tye.t (d3 := 1) ty2 ag199 tp199 (by omega)
                have du202 := DU.t (DU.r (ut := ut) (mu := mu) (c := uc) (G := G) (a := e) (u := (u + 1))) ag199 au199 ax199 dp199 (by omega)
                refine rsl (cV_e rfl) ?_
                refine rsr (cV_e rfl) ?_
                refine rsl (jv_e) ?_
                refine rsl (vC_e (ck_65 (hC.fr FL199))) ?_
                by_cases c203 : ((kd i199)) = 61
                ·
                  have hm204 : i199 + 1 < m := hS.more i199 (by omega) (by omega) (by omega)
                  refine rsl (cV_e (a64q (by omega) hS (hC.fr FL199) (hTk.fr (WL := W_cp) FL199 (by decide)) (q199_12) (q199_13) (q199_10) (li_61) (i2 := (i199 + 1)) (by omega) (by omega))) ?_
                  have hk205 := (hS.ok (i199 + 1) (by omega) (by omega)).r
                  refine rsl (vC_e (ck_65 (hC.fr FL199).sI.sI)) ?_
                  refine rsr (vC_e (rk_160 (hR.fr FR199))) ?_
                  refine RrI (a195_61 (by omega) hS (hR.fr FR199) (hT.fr (W := W_rx) FR199 (by decide) (by decide)) (fun i a b => (Fr.lc (W := W_rx) FR199 _ (by decide) _).trans (hW i a b)) (w199_36) (w199_37) (w199_38) (w199_41) (li_61) (i2 := (i199 + 1)) (by omega) (by omega)) fun v Ma207 h207 => ?_
                  obtain ⟨r206, rfl, g207, e207_k0, e207_k1, e207_k2, p207_0, p207_1⟩ := h207
                  have f207 : Fr W_rx Mr Ma207 := Fr.t FR199 (Fr.m g207 (by decide))
                  refine rsr (cI_e rfl) ?_
                  refine rsr (vC_e (rk_160 (hR.fr f207))) ?_
                  refine Rb_VV (hE _ _ (by omega) (by omega) T n m kd pl E tx ua ut mu _ _ G199 U199 Hl X199 (i199 + 1) e199 s u199 uc199 _ hS (hCx.fr (Fr.sI (by decide) (Fr.sI (by decide) FL199)) f207) ⟨(sI_nej (by decide)).trans (sI_eq), sI_eq, (sI_nej (by decide)).trans ((sI_nej (by decide)).trans (q199_10)), (sI_nej (by decide)).trans ((sI_nej (by decide)).trans (q199_9)), (sI_nej (by decide)).trans ((sI_nej (by decide)).trans (q199_16)), (sI_nej (by decide)).trans ((sI_nej (by decide)).trans (q199_19))⟩ ⟨e207_k0, e207_k1, e207_k2, (g207.i _ _ (by decide)).trans (w199_41), (g207.i _ _ (by decide)).trans (w199_43), (g207.i _ _ (by decide)).trans (w199_51), (g207.i _ _ (by decide)).trans (w199_53), (g207.i _ _ (by decide)).trans (w199_50), p207_1⟩ ⟨(ca199.fr (W := W_c0) (Fr.sI (by decide) (Fr.sI (by decide) Fr.r)) (by decide)), (ra199.fr g207 (by decide)), (lc199.fr (W := W_c0) (Fr.sI (by decide) (Fr.sI (by decide) Fr.r)) (by decide)), (lr199.fr g207 (by decide)), (cu199.fr (W := W_c0) (Fr.sI (by decide) (Fr.sI (by decide) Fr.r)) (by decide)), (ru199.fr g207 (by decide))⟩ ⟨by omega, by omega, by omega, by omega, by omega, by omega, by omega, by omega, by omega, by omega, by omega, by omega⟩ (vs2 (li_0) (hv0))) fun v Mx208 w Nx208 hx208 => ?_
                  rcases hx208 with ⟨i208, e208, u208, uc208, G208, U208, X208, fl208, fr208, sc208, sr208, rw208, bd208, mv208, ag208, au208, ax208, tp208, dp208, kv208⟩ | ⟨F208, P208, fl208, fr208, tc208, tr208⟩
                  ·
                    have FL208 : Fr W_cp Mc Mx208 := Fr.t (Fr.sI (by decide) (Fr.sI (by decide) FL199)) fl208
                    have FR208 : Fr W_rx Mr Nx208 := Fr.t f207 fr208
                    obtain ⟨bb208_0, bb208_1, bb208_2, bb208_3, bb208_4, bb208_5, bb208_6, bb208_7, bb208_8, bb208_9, bb208_10, bb208_11⟩ := bd208
                    obtain ⟨q208_12, q208_13, q208_10, q208_9, q208_16, q208_19⟩ := sc208
                    obtain ⟨w208_36, w208_37, w208_38, w208_41, w208_43, w208_51, w208_53, w208_50, w208_n⟩ := sr208
                    obtain ⟨ca208, ra208, lc208, lr208, cu208, ru208⟩ := rw208
                    have hk209 := (hS.ok i208 (by omega) (by omega)).r
                    have ku208 := KU.t (ku199.fr (W := W_c0) (Fr.sI (by decide) (Fr.sI (by decide) Fr.r)) (by decide)) kv208 (by omega)
                    have ty210 := Tye.t (d3 := 2) ty201 ag208 tp208 (by omega)
                    have du211 := DU.t du202 ag208 au208 ax208 dp208 (by omega)
                    refine rsl (cV_e rfl) ?_
                    refine rsr (cV_e rfl) ?_
                    refine rsl (vC_e (ck_65 (hC.fr FL208))) ?_
                    by_cases c212 : ((kd i208)) = 59
                    ·
                      have hm213 : i208 + 1 < m := hS.more i208 (by omega) (by omega) (by omega)
                      refine rsl (cV_e (a64q (by omega) hS (hC.fr FL208) (hTk.fr (WL := W_cp) FL208 (by decide)) (q208_12) (q208_13) (q208_10) (li_59) (i2 := (i208 + 1)) (by omega) (by omega))) ?_
                      have hk214 := (hS.ok (i208 + 1) (by omega) (by omega)).r
                      refine rsl (jn_v) ?_
                      refine rsl (if_neg (eqI_n (li_1) (li_0) (by omega))) ?_
                      refine rsl (vC_e (ck_65 (hC.fr FL208).sI.sI)) ?_
                      have tb216 := Tyb.ex (dp := dp) (d := 2) (s' := s) (q := (e208 + 1)) (n1 := 0) (ut := ut) (mu := mu) (l := []) ty210 (Or.inr (Or.inr (Or.inr (Or.inr (Or.inr (Or.inl (by omega)))))) : Eff 6 u 0 2 s 0 s) (by omega) ⟨by omega, by omega⟩ (by omega)
                      have du217 := DU.set (U := U208) (X := X208) (c := uc) (b1 := 3) (p := 3) (q := (e208 + 1)) (u := u) (o := 6) (n1 := 0) (p1 := -2) (n3 := u) (l := []) (g := 0) du211 (by omega) (by omega) (by omega) (by omega) (fun q => absurd q (by decide)) (Int.le_of_eq (Eq.symm ((au208 0 _ (by omega)).trans ((au199 0 _ (by omega)).trans (pu_e rfl))))) ((au208 6 _ (by omega)).trans ((au199 6 _ (by omega)).trans (pu_e (by omega)))) (U3tr (ax208 0 _ (by omega)) (au208 3 _ (by omega)) (au208 10 _ (by omega)) (U3tr (ax199 0 _ (by omega)) (au199 3 _ (by omega)) (au199 10 _ (by omega)) (Or.inr (pu_310 (by omega) rfl)))) (by omega) (by omega)
                      refine RlV (a105 (by omega) (hC.fr FL208).sI.sI ((sI_nej (by decide)).trans ((sI_nej (by decide)).trans (q208_9))) (congrArg iI p13_0) (li_3) (li_6) (by omega)) fun v Ma218 h218 => ?_
                      obtain ⟨g218, e218_k0, p218_0, p218_1⟩ := h218
                      have f218 : Fr W_cp Mc Ma218 := Fr.t (Fr.sI (by decide) (Fr.sI (by decide) FL208)) (Fr.m g218 (by decide))
                      refine rsl (cV_e rfl) ?_
                      refine rsl (jv_e) ?_
                      refine rsr (vC_e (rk_160 (hR.fr FR208))) ?_
                      refine RrV (a202 (by omega) (hR.fr FR208) (w208_43) ((FR208.i _ _ (by decide)).trans h49) ((FR208.i _ _ (by decide)).trans h48) (congrArg iI p117_0) (li_3) (li_6) (by omega)) fun v Ma219 h219 => ?_
                      obtain ⟨g219, e219_k0, p219_0, p219_1⟩ := h219
                      have f219 : Fr W_rx Mr Ma219 := Fr.t FR208 (Fr.m g219 (by decide))
                      refine rsr (cV_e rfl) ?_
                      refine rsr (vC_e (rk_160 (hR.fr f219))) ?_
                      refine RrI (a195_59 (by omega) hS (hR.fr f219) (hT.fr (W := W_rx) f219 (by decide) (by decide)) (fun i a b => (Fr.lc (W := W_rx) f219 _ (by decide) _).trans (hW i a b)) ((g219.i _ _ (by decide)).trans (w208_36)) ((g219.i _ _ (by decide)).trans (w208_37)) ((g219.i _ _ (by decide)).trans (w208_38)) ((g219.i _ _ (by decide)).trans (w208_41)) (li_59) (i2 := (i208 + 1)) (by omega) (by omega)) fun v Ma221 h221 => ?_
                      obtain ⟨r220, rfl, g221, e221_k0, e221_k1, e221_k2, p221_0, p221_1⟩ := h221
                      have f221 : Fr W_rx Mr Ma221 := Fr.t f219 (Fr.m g221 (by decide))
                      refine rsr (cI_e rfl) ?_
                      refine rsr (jv_e) ?_
                      exact Rs.ok (Or.inl ⟨(i208 + 1), s, Hl, ⟨(e208 + 1), u208, uc208, (pu G208 e208 [6, 0, -2, u, ut, mu, 0]), (ps U208 u 3 3 e208), X208, f218, f221, ⟨(g218.i _ _ (by decide)).trans ((sI_nej (by decide)).trans (sI_eq)), (g218.i _ _ (by decide)).trans (sI_eq), (g218.i _ _ (by decide)).trans ((sI_nej (by decide)).trans ((sI_nej (by decide)).trans (q208_10))), e218_k0, (g218.i _ _ (by decide)).trans ((sI_nej (by decide)).trans ((sI_nej (by decide)).trans (q208_16))), (g218.i _ _ (by decide)).trans ((sI_nej (by decide)).trans ((sI_nej (by decide)).trans (q208_19)))⟩, ⟨e221_k0, e221_k1, e221_k2, (g221.i _ _ (by decide)).trans ((g219.i _ _ (by decide)).trans (w208_41)), (g221.i _ _ (by decide)).trans (e219_k0), (g221.i _ _ (by decide)).trans ((g219.i _ _ (by decide)).trans (w208_51)), (g221.i _ _ (by decide)).trans ((g219.i _ _ (by decide)).trans (w208_53)), (g221.i _ _ (by decide)).trans ((g219.i _ _ (by decide)).trans (w208_50)), p221_1⟩, ⟨(CA1.em (ca208.fr (W := W_c0) (Fr.sI (by decide) (Fr.sI (by decide) Fr.r)) (by decide)) (by omega) p218_0 rfl), ((RA1.em ra208 (by omega) p219_0 rfl).fr g221 (by decide)), ((lc208.fr (W := W_c0) (Fr.sI (by decide) (Fr.sI (by decide) Fr.r)) (by decide)).fr g218 (by decide)), ((lr208.fr g219 (by decide)).fr g221 (by decide)), (CU.set (b := 3) (cu208.fr (W := W_c0) (Fr.sI (by decide) (Fr.sI (by decide) Fr.r)) (by decide)) ⟨by omega, by omega⟩ ((au208 0 _ (by omega)).trans ((au199 0 _ (by omega)).trans (pu_e rfl))) p218_1 g218 (by decide)), ((RU.set ru208 ⟨by omega, by omega⟩ p219_1 g219 (by decide)).fr g221 (by decide))⟩, ⟨by omega, by omega, by omega, by omega, by omega, by omega, by omega, by omega, by omega, by omega, by omega, by omega⟩, ⟨by omega, by omega, by omega, by omega, by omega, by omega⟩, (Ag.pu (Ag.t (Ag.t Ag.r ag199 (by omega)) ag208 (by omega)) (by omega)), (Ag.ps (Ag.t (Ag.t (Ag.pu Ag.r (by omega)) au199 (by omega)) au208 (by omega)) (by omega)), (AgL.t (AgL.t (AgL.pu AgL.r (by omega)) ax199 (by omega)) ax208 (by omega)), tb216, du217, ((ku208.fr (W := W_c0) (Fr.sI (by decide) (Fr.sI (by decide) Fr.r)) (by decide)).fr g218 (by decide)), ⟨by omega, fun _ _ _ => rfl⟩⟩⟩)
                    ·
                      by_cases c222 : ((kd i208)) = 1
                      ·
                        refine rsl (cV_e (a64_1 (by omega) hS (hC.fr FL208) (hTk.fr (WL := W_cp) FL208 (by decide)) (q208_12) (q208_13) (q208_10) (li_59) (by omega))) ?_
                        refine rsl (jn_v) ?_
                        refine rsl (if_neg (eqI_n (li_1) (li_0) (by omega))) ?_
                        refine rsl (vC_e (ck_65 (hC.fr FL208).sI.sI.sI)) ?_
                        refine RlV (y105 (by omega) (hC.fr FL208).sI.sI.sI (hTk.fr (WL := W_cp) (Fr.sI (by decide) (Fr.sI (by decide) (Fr.sI (by decide) FL208))) (by decide)) ((sI_nej (by decide)).trans ((sI_nej (by decide)).trans ((sI_nej (by decide)).trans (q208_12)))) (sI_eq) ((sI_nej (by decide)).trans ((sI_nej (by decide)).trans (sI_eq))) ((sI_nej (by decide)).trans (sI_eq)) ((sI_nej (by decide)).trans ((sI_nej (by decide)).trans ((sI_nej (by decide)).trans (q208_9)))) ((sI_nej (by decide)).trans ((sI_nej (by decide)).trans ((sI_nej (by decide)).trans (q208_16)))) ((sI_nej (by decide)).trans ((sI_nej (by decide)).trans ((sI_nej (by decide)).trans (q208_19)))) (congrArg iI p13_0) (li_3) (li_6) (by omega)) fun v Ma224 h224 => ?_
                        obtain ⟨sz223, sn223, uc223, g224, e224_sz223, e224_sn223, e224_uc223, e224_k0, e224_k1, e224_k2, e224_k3, p224_0, p224_1, p224_2⟩ := h224
                        have f224 : Fr W_cp Mc Ma224 := Fr.t (Fr.sI (by decide) (Fr.sI (by decide) (Fr.sI (by decide) FL208))) (Fr.m g224 (by decide))
                        refine rsl (cV_e rfl) ?_
                        refine rsl (jv_e) ?_
                        refine rsr (vC_e (rk_160 (hR.fr FR208))) ?_
                        refine RrV (a202 (by omega) (hR.fr FR208) (w208_43) ((FR208.i _ _ (by decide)).trans h49) ((FR208.i _ _ (by decide)).trans h48) (congrArg iI p117_0) (li_3) (li_6) (by omega)) fun v Ma225 h225 => ?_
                        obtain ⟨g225, e225_k0, p225_0, p225_1⟩ := h225
                        have f225 : Fr W_rx Mr Ma225 := Fr.t FR208 (Fr.m g225 (by decide))
                        refine rsr (cV_e rfl) ?_
                        refine rsr (vC_e (rk_160 (hR.fr f225))) ?_
                        refine rsr (cI_e (a195_59_1 (by omega) hS (hR.fr f225) ((g225.i _ _ (by decide)).trans (w208_36)) ((g225.i _ _ (by decide)).trans (w208_37)) ((g225.i _ _ (by decide)).trans (w208_41)) (li_59) (by omega))) ?_
                        refine rsr (jv_e) ?_
                        exact Rs.ok (Or.inr ⟨1, ((pl i208)), f224, (Fr.sI (by decide) (Fr.sI (by decide) (Fr.m f225 (by decide)))), ⟨i208, sz223, sn223, uc223, e224_k0, e224_k1, e224_k2, e224_k3, e224_sz223, e224_sn223, e224_uc223, by omega⟩, ⟨(e208 + 1), s, u208, mu, ut, (sI_nej (by decide)).trans (sI_eq), sI_eq, (sI_nej (by decide)).trans ((sI_nej (by decide)).trans (e225_k0)), (sI_nej (by decide)).trans ((sI_nej (by decide)).trans ((g225.i _ _ (by decide)).trans (w208_51))), (sI_nej (by decide)).trans ((sI_nej (by decide)).trans ((g225.i _ _ (by decide)).trans (w208_53))), (sI_nej (by decide)).trans ((sI_nej (by decide)).trans ((g225.i _ _ (by decide)).trans ((FR208.i _ _ (by decide)).trans h48))), (sI_nej (by decide)).trans ((sI_nej (by decide)).trans ((g225.i _ _ (by decide)).trans ((FR208.i _ _ (by decide)).trans h49))), by omega⟩⟩)
                      ·
                        refine rsl (cV_e (a64_2 (by omega) hS (hC.fr FL208) (hTk.fr (WL := W_cp) FL208 (by decide)) (q208_12) (q208_13) (q208_10) (li_59) (by omega))) ?_
                        refine rsl (jn_v) ?_
                        refine rsl (if_neg (eqI_n (li_1) (li_0) (by omega))) ?_
                        refine rsl (vC_e (ck_65 (hC.fr FL208).sI.sI.sI)) ?_
                        refine RlV (y105 (by omega) (hC.fr FL208).sI.sI.sI (hTk.fr (WL := W_cp) (Fr.sI (by decide) (Fr.sI (by decide) (Fr.sI (by decide) FL208))) (by decide)) ((sI_nej (by decide)).trans ((sI_nej (by decide)).trans ((sI_nej (by decide)).trans (q208_12)))) (sI_eq) ((sI_nej (by decide)).trans ((sI_nej (by decide)).trans (sI_eq))) ((sI_nej (by decide)).trans (sI_eq)) ((sI_nej (by decide)).trans ((sI_nej (by decide)).trans ((sI_nej (by decide)).trans (q208_9)))) ((sI_nej (by decide)).trans ((sI_nej (by decide)).trans ((sI_nej (by decide)).trans (q208_16)))) ((sI_nej (by decide)).trans ((sI_nej (by decide)).trans ((sI_nej (by decide)).trans (q208_19)))) (congrArg iI p13_0) (li_3) (li_6) (by omega)) fun v Ma227 h227 => ?_
                        obtain ⟨sz226, sn226, uc226, g227, e227_sz226, e227_sn226, e227_uc226, e227_k0, e227_k1, e227_k2, e227_k3, p227_0, p227_1, p227_2⟩ := h227
                        have f227 : Fr W_cp Mc Ma227 := Fr.t (Fr.sI (by decide) (Fr.sI (by decide) (Fr.sI (by decide) FL208))) (Fr.m g227 (by decide))
                        refine rsl (cV_e rfl) ?_
                        refine rsl (jv_e) ?_
                        refine rsr (vC_e (rk_160 (hR.fr FR208))) ?_
                        refine RrV (a202 (by omega) (hR.fr FR208) (w208_43) ((FR208.i _ _ (by decide)).trans h49) ((FR208.i _ _ (by decide)).trans h48) (congrArg iI p117_0) (li_3) (li_6) (by omega)) fun v Ma228 h228 => ?_
                        obtain ⟨g228, e228_k0, p228_0, p228_1⟩ := h228
                        have f228 : Fr W_rx Mr Ma228 := Fr.t FR208 (Fr.m g228 (by decide))
                        refine rsr (cV_e rfl) ?_
                        refine rsr (vC_e (rk_160 (hR.fr f228))) ?_
                        refine rsr (cI_e (a195_59_2 (by omega) hS (hR.fr f228) ((g228.i _ _ (by decide)).trans (w208_36)) ((g228.i _ _ (by decide)).trans (w208_37)) ((g228.i _ _ (by decide)).trans (w208_41)) (li_59) (by omega))) ?_
                        refine rsr (jv_e) ?_
                        exact Rs.ok (Or.inr ⟨2, ((pl i208)), f227, (Fr.sI (by decide) (Fr.sI (by decide) (Fr.m f228 (by decide)))), ⟨i208, sz226, sn226, uc226, e227_k0, e227_k1, e227_k2, e227_k3, e227_sz226, e227_sn226, e227_uc226, by omega⟩, ⟨(e208 + 1), s, u208, mu, ut, (sI_nej (by decide)).trans (sI_eq), sI_eq, (sI_nej (by decide)).trans ((sI_nej (by decide)).trans (e228_k0)), (sI_nej (by decide)).trans ((sI_nej (by decide)).trans ((g228.i _ _ (by decide)).trans (w208_51))), (sI_nej (by decide)).trans ((sI_nej (by decide)).trans ((g228.i _ _ (by decide)).trans (w208_53))), (sI_nej (by decide)).trans ((sI_nej (by decide)).trans ((g228.i _ _ (by decide)).trans ((FR208.i _ _ (by decide)).trans h48))), (sI_nej (by decide)).trans ((sI_nej (by decide)).trans ((g228.i _ _ (by decide)).trans ((FR208.i _ _ (by decide)).trans h49))), by omega⟩⟩)
                  ·
                    have FL208 : Fr W_cp Mc Mx208 := Fr.t (Fr.sI (by decide) (Fr.sI (by decide) FL199)) fl208
                    have FR208 : Fr W_rp Mr Nx208 := Fr.t (Fr.m f207 W_rx_p) fr208
                    obtain ⟨ti208, tz208, tn208, tu208, t13208, t10208, t11208, t12208, t9208, t16208, t19208, tb208⟩ := tc208
                    obtain ⟨re208, rn208, ru208, rm208, rt208, u41208, u42208, u43208, u51208, u53208, u48208, u49208, ub208⟩ := tr208
                    refine rsl (cV_e rfl) ?_
                    refine rsr (cV_e rfl) ?_
                    refine rsl (vC_e (ck_65 (hC.fr FL208))) ?_
                    refine RlV (y64 (by omega) (hC.fr FL208) (hTk.fr (WL := W_cp) FL208 (by decide)) (t12208) (t13208) (t10208) (t11208) (t9208) (t16208) (t19208) (li_59) (by omega)) fun v Ma230 h230 => ?_
                    obtain ⟨sz229, sn229, uc229, g230, e230_sz229, e230_sn229, e230_uc229, e230_k0, e230_k1, e230_k2, e230_k3, p230_0, p230_1, p230_2⟩ := h230
                    have f230 : Fr W_cp Mc Ma230 := Fr.t FL208 (Fr.m g230 (by decide))
                    refine rsl (cV_e rfl) ?_
                    refine rsl (jn_v) ?_
                    refine rsl (if_neg (eqI_n (li_1) (li_0) (by omega))) ?_
                    refine rsl (vC_e (ck_65 (hC.fr f230))) ?_
                    refine RlV (y105 (by omega) (hC.fr f230) (hTk.fr (WL := W_cp) f230 (by decide)) (e230_k3) (e230_k0) (e230_k1) (e230_k2) (e230_sz229) (e230_sn229) (e230_uc229) (congrArg iI p13_0) (li_3) (li_6) (by omega)) fun v Ma232 h232 => ?_
                    obtain ⟨sz231, sn231, uc231, g232, e232_sz231, e232_sn231, e232_uc231, e232_k0, e232_k1, e232_k2, e232_k3, p232_0, p232_1, p232_2⟩ := h232
                    have f232 : Fr W_cp Mc Ma232 := Fr.t f230 (Fr.m g232 (by decide))
                    refine rsl (cV_e rfl) ?_
                    refine rsl (jv_e) ?_
                    refine rsr (vC_e (rk_160 (hR.fr FR208))) ?_
                    refine RrV (x202_s (by omega) (hR.fr FR208) (u41208) (u42208) (u43208) (u51208) (u53208) (u48208) (u49208) (congrArg iI p117_0) (li_3) (li_6) (by omega)) fun v Ma234 h234 => ?_
                    obtain ⟨em233, g234, e234_em233, e234_k0, e234_k1, e234_k2, e234_k3, e234_k4, p234_0⟩ := h234
                    have f234 : Fr W_rp Mr Ma234 := Fr.t FR208 (Fr.m g234 (by decide))
                    refine rsr (cV_e rfl) ?_
                    refine rsr (vC_e (rk_160 (hR.fr f234))) ?_
                    refine RrI (x195_s (by omega) (hR.fr f234) (e234_k0) (e234_k1) (e234_em233) (e234_k2) (e234_k3) (e234_k4) ((g234.i _ _ (by decide)).trans (u49208)) (li_59) (by omega)) fun v Ma236 h236 => ?_
                    obtain ⟨rv235, em235, rfl, g236, e236_em235, e236_k0, e236_k1, e236_k2, e236_k3, e236_k4, p236_0, p236_1⟩ := h236
                    have f236 : Fr W_rp Mr Ma236 := Fr.t f234 (Fr.m g236 (by decide))
                    refine rsr (cI_e rfl) ?_
                    refine rsr (jv_e) ?_
                    exact Rs.ok (Or.inr ⟨F208, P208, f232, f236, ⟨ti208, sz231, sn231, uc231, e232_k0, e232_k1, e232_k2, e232_k3, e232_sz231, e232_sn231, e232_uc231, by omega⟩, ⟨em235, rn208, ru208, rm208, rt208, e236_k0, e236_k1, e236_em235, e236_k2, e236_k3, e236_k4, (g236.i _ _ (by decide)).trans ((g234.i _ _ (by decide)).trans (u49208)), by omega⟩⟩)
                ·
                  by_cases c237 : ((kd i199)) = 1
                  ·
                    refine rsl (cV_e (a64_1 (by omega) hS (hC.fr FL199) (hTk.fr (WL := W_cp) FL199 (by decide)) (q199_12) (q199_13) (q199_10) (li_61) (by omega))) ?_
                    refine rsl (vC_e (ck_65 (hC.fr FL199).sI.sI.sI)) ?_
                    refine RlV (y99_0 (by omega) (hC.fr FL199).sI.sI.sI (hTk.fr (WL := W_cp) (Fr.sI (by decide) (Fr.sI (by decide) (Fr.sI (by decide) FL199))) (by decide)) ((sI_nej (by decide)).trans ((sI_nej (by decide)).trans ((sI_nej (by decide)).trans (q199_12)))) (sI_eq) ((sI_nej (by decide)).trans ((sI_nej (by decide)).trans (sI_eq))) ((sI_nej (by decide)).trans (sI_eq)) ((sI_nej (by decide)).trans ((sI_nej (by decide)).trans ((sI_nej (by decide)).trans (q199_9)))) ((sI_nej (by decide)).trans ((sI_nej (by decide)).trans ((sI_nej (by decide)).trans (q199_16)))) ((sI_nej (by decide)).trans ((sI_nej (by decide)).trans ((sI_nej (by decide)).trans (q199_19)))) (li_0) (hv0) (by omega)) fun v Ma239 h239 => ?_
                    obtain ⟨sz238, sn238, uc238, g239, e239_sz238, e239_sn238, e239_uc238, e239_k0, e239_k1, e239_k2, e239_k3, p239_0, p239_1, p239_2⟩ := h239
                    have f239 : Fr W_cp Mc Ma239 := Fr.t (Fr.sI (by decide) (Fr.sI (by decide) (Fr.sI (by decide) FL199))) (Fr.m g239 (by decide))
                    refine rsl (cV_e rfl) ?_
                    refine rsl (vC_e (ck_65 (hC.fr f239))) ?_
                    refine RlV (y64 (by omega) (hC.fr f239) (hTk.fr (WL := W_cp) f239 (by decide)) (e239_k3) (e239_k0) (e239_k1) (e239_k2) (e239_sz238) (e239_sn238) (e239_uc238) (li_59) (by omega)) fun v Ma241 h241 => ?_
                    obtain ⟨sz240, sn240, uc240, g241, e241_sz240, e241_sn240, e241_uc240, e241_k0, e241_k1, e241_k2, e241_k3, p241_0, p241_1, p241_2⟩ := h241
                    have f241 : Fr W_cp Mc Ma241 := Fr.t f239 (Fr.m g241 (by decide))
                    refine rsl (cV_e rfl) ?_
                    refine rsl (jn_v) ?_
                    refine rsl (if_neg (eqI_n (li_1) (li_0) (by omega))) ?_
                    refine rsl (vC_e (ck_65 (hC.fr f241))) ?_
                    refine RlV (y105 (by omega) (hC.fr f241) (hTk.fr (WL := W_cp) f241 (by decide)) (e241_k3) (e241_k0) (e241_k1) (e241_k2) (e241_sz240) (e241_sn240) (e241_uc240) (congrArg iI p13_0) (li_3) (li_6) (by omega)) fun v Ma243 h243 => ?_
                    obtain ⟨sz242, sn242, uc242, g243, e243_sz242, e243_sn242, e243_uc242, e243_k0, e243_k1, e243_k2, e243_k3, p243_0, p243_1, p243_2⟩ := h243
                    have f243 : Fr W_cp Mc Ma243 := Fr.t f241 (Fr.m g243 (by decide))
                    refine rsl (cV_e rfl) ?_
                    refine rsl (jv_e) ?_
                    refine rsr (vC_e (rk_160 (hR.fr FR199))) ?_
                    refine rsr (cI_e (a195_61_1 (by omega) hS (hR.fr FR199) (w199_36) (w199_37) (w199_41) (li_61) (by omega))) ?_
                    refine rsr (vC_e (rk_160 (hR.fr FR199).sI.sI)) ?_
                    refine RrV (x211_s (by omega) (hR.fr FR199).sI.sI ((sI_nej (by decide)).trans (sI_eq)) (sI_eq) ((sI_nej (by decide)).trans ((sI_nej (by decide)).trans (w199_43))) ((sI_nej (by decide)).trans ((sI_nej (by decide)).trans (w199_51))) ((sI_nej (by decide)).trans ((sI_nej (by decide)).trans (w199_53))) ((sI_nej (by decide)).trans ((sI_nej (by decide)).trans ((FR199.i _ _ (by decide)).trans h48))) ((sI_nej (by decide)).trans ((sI_nej (by decide)).trans ((FR199.i _ _ (by decide)).trans h49)))  (by omega)) fun v Ma245 h245 => ?_
                    obtain ⟨em244, g245, e245_em244, e245_k0, e245_k1, e245_k2, e245_k3, e245_k4, p245_0⟩ := h245
                    have f245 : Fr W_rp Mr Ma245 := Fr.t (Fr.sI (by decide) (Fr.sI (by decide) (Fr.m FR199 (by decide)))) (Fr.m g245 (by decide))
                    refine rsr (cV_e rfl) ?_
                    refine rsr (vC_e (rk_160 (hR.fr f245))) ?_
                    refine RrV (x202_s (by omega) (hR.fr f245) (e245_k0) (e245_k1) (e245_em244) (e245_k2) (e245_k3) (e245_k4) ((g245.i _ _ (by decide)).trans ((sI_nej (by decide)).trans ((sI_nej (by decide)).trans ((FR199.i _ _ (by decide)).trans h49)))) (congrArg iI p117_0) (li_3) (li_6) (by omega)) fun v Ma247 h247 => ?_
                    obtain ⟨em246, g247, e247_em246, e247_k0, e247_k1, e247_k2, e247_k3, e247_k4, p247_0⟩ := h247
                    have f247 : Fr W_rp Mr Ma247 := Fr.t f245 (Fr.m g247 (by decide))
                    refine rsr (cV_e rfl) ?_
                    refine rsr (vC_e (rk_160 (hR.fr f247))) ?_
                    refine RrI (x195_s (by omega) (hR.fr f247) (e247_k0) (e247_k1) (e247_em246) (e247_k2) (e247_k3) (e247_k4) ((g247.i _ _ (by decide)).trans ((g245.i _ _ (by decide)).trans ((sI_nej (by decide)).trans ((sI_nej (by decide)).trans ((FR199.i _ _ (by decide)).trans h49))))) (li_59) (by omega)) fun v Ma249 h249 => ?_
                    obtain ⟨rv248, em248, rfl, g249, e249_em248, e249_k0, e249_k1, e249_k2, e249_k3, e249_k4, p249_0, p249_1⟩ := h249
                    have f249 : Fr W_rp Mr Ma249 := Fr.t f247 (Fr.m g249 (by decide))
                    refine rsr (cI_e rfl) ?_
                    refine rsr (jv_e) ?_
                    exact Rs.ok (Or.inr ⟨1, ((pl i199)), f243, f249, ⟨i199, sz242, sn242, uc242, e243_k0, e243_k1, e243_k2, e243_k3, e243_sz242, e243_sn242, e243_uc242, by omega⟩, ⟨em248, s, u199, mu, ut, e249_k0, e249_k1, e249_em248, e249_k2, e249_k3, e249_k4, (g249.i _ _ (by decide)).trans ((g247.i _ _ (by decide)).trans ((g245.i _ _ (by decide)).trans ((sI_nej (by decide)).trans ((sI_nej (by decide)).trans ((FR199.i _ _ (by decide)).trans h49))))), by omega⟩⟩)
                  ·
                    refine rsl (cV_e (a64_2 (by omega) hS (hC.fr FL199) (hTk.fr (WL := W_cp) FL199 (by decide)) (q199_12) (q199_13) (q199_10) (li_61) (by omega))) ?_
                    refine rsl (vC_e (ck_65 (hC.fr FL199).sI.sI.sI)) ?_
                    refine RlV (y99_0 (by omega) (hC.fr FL199).sI.sI.sI (hTk.fr (WL := W_cp) (Fr.sI (by decide) (Fr.sI (by decide) (Fr.sI (by decide) FL199))) (by decide)) ((sI_nej (by decide)).trans ((sI_nej (by decide)).trans ((sI_nej (by decide)).trans (q199_12)))) (sI_eq) ((sI_nej (by decide)).trans ((sI_nej (by decide)).trans (sI_eq))) ((sI_nej (by decide)).trans (sI_eq)) ((sI_nej (by decide)).trans ((sI_nej (by decide)).trans ((sI_nej (by decide)).trans (q199_9)))) ((sI_nej (by decide)).trans ((sI_nej (by decide)).trans ((sI_nej (by decide)).trans (q199_16)))) ((sI_nej (by decide)).trans ((sI_nej (by decide)).trans ((sI_nej (by decide)).trans (q199_19)))) (li_0) (hv0) (by omega)) fun v Ma251 h251 => ?_
                    obtain ⟨sz250, sn250, uc250, g251, e251_sz250, e251_sn250, e251_uc250, e251_k0, e251_k1, e251_k2, e251_k3, p251_0, p251_1, p251_2⟩ := h251
                    have f251 : Fr W_cp Mc Ma251 := Fr.t (Fr.sI (by decide) (Fr.sI (by decide) (Fr.sI (by decide) FL199))) (Fr.m g251 (by decide))
                    refine rsl (cV_e rfl) ?_
                    refine rsl (vC_e (ck_65 (hC.fr f251))) ?_
                    refine RlV (y64 (by omega) (hC.fr f251) (hTk.fr (WL := W_cp) f251 (by decide)) (e251_k3) (e251_k0) (e251_k1) (e251_k2) (e251_sz250) (e251_sn250) (e251_uc250) (li_59) (by omega)) fun v Ma253 h253 => ?_
                    obtain ⟨sz252, sn252, uc252, g253, e253_sz252, e253_sn252, e253_uc252, e253_k0, e253_k1, e253_k2, e253_k3, p253_0, p253_1, p253_2⟩ := h253
                    have f253 : Fr W_cp Mc Ma253 := Fr.t f251 (Fr.m g253 (by decide))
                    refine rsl (cV_e rfl) ?_
                    refine rsl (jn_v) ?_
                    refine rsl (if_neg (eqI_n (li_1) (li_0) (by omega))) ?_
                    refine rsl (vC_e (ck_65 (hC.fr f253))) ?_
                    refine RlV (y105 (by omega) (hC.fr f253) (hTk.fr (WL := W_cp) f253 (by decide)) (e253_k3) (e253_k0) (e253_k1) (e253_k2) (e253_sz252) (e253_sn252) (e253_uc252) (congrArg iI p13_0) (li_3) (li_6) (by omega)) fun v Ma255 h255 => ?_
                    obtain ⟨sz254, sn254, uc254, g255, e255_sz254, e255_sn254, e255_uc254, e255_k0, e255_k1, e255_k2, e255_k3, p255_0, p255_1, p255_2⟩ := h255
                    have f255 : Fr W_cp Mc Ma255 := Fr.t f253 (Fr.m g255 (by decide))
                    refine rsl (cV_e rfl) ?_
                    refine rsl (jv_e) ?_
                    refine rsr (vC_e (rk_160 (hR.fr FR199))) ?_
                    refine rsr (cI_e (a195_61_2 (by omega) hS (hR.fr FR199) (w199_36) (w199_37) (w199_41) (li_61) (by omega))) ?_
                    refine rsr (vC_e (rk_160 (hR.fr FR199).sI.sI)) ?_
                    refine RrV (x211_s (by omega) (hR.fr FR199).sI.sI ((sI_nej (by decide)).trans (sI_eq)) (sI_eq) ((sI_nej (by decide)).trans ((sI_nej (by decide)).trans (w199_43))) ((sI_nej (by decide)).trans ((sI_nej (by decide)).trans (w199_51))) ((sI_nej (by decide)).trans ((sI_nej (by decide)).trans (w199_53))) ((sI_nej (by decide)).trans ((sI_nej (by decide)).trans ((FR199.i _ _ (by decide)).trans h48))) ((sI_nej (by decide)).trans ((sI_nej (by decide)).trans ((FR199.i _ _ (by decide)).trans h49)))  (by omega)) fun v Ma257 h257 => ?_
                    obtain ⟨em256, g257, e257_em256, e257_k0, e257_k1, e257_k2, e257_k3, e257_k4, p257_0⟩ := h257
                    have f257 : Fr W_rp Mr Ma257 := Fr.t (Fr.sI (by decide) (Fr.sI (by decide) (Fr.m FR199 (by decide)))) (Fr.m g257 (by decide))
                    refine rsr (cV_e rfl) ?_
                    refine rsr (vC_e (rk_160 (hR.fr f257))) ?_
                    refine RrV (x202_s (by omega) (hR.fr f257) (e257_k0) (e257_k1) (e257_em256) (e257_k2) (e257_k3) (e257_k4) ((g257.i _ _ (by decide)).trans ((sI_nej (by decide)).trans ((sI_nej (by decide)).trans ((FR199.i _ _ (by decide)).trans h49)))) (congrArg iI p117_0) (li_3) (li_6) (by omega)) fun v Ma259 h259 => ?_
                    obtain ⟨em258, g259, e259_em258, e259_k0, e259_k1, e259_k2, e259_k3, e259_k4, p259_0⟩ := h259
                    have f259 : Fr W_rp Mr Ma259 := Fr.t f257 (Fr.m g259 (by decide))
                    refine rsr (cV_e rfl) ?_
                    refine rsr (vC_e (rk_160 (hR.fr f259))) ?_
                    refine RrI (x195_s (by omega) (hR.fr f259) (e259_k0) (e259_k1) (e259_em258) (e259_k2) (e259_k3) (e259_k4) ((g259.i _ _ (by decide)).trans ((g257.i _ _ (by decide)).trans ((sI_nej (by decide)).trans ((sI_nej (by decide)).trans ((FR199.i _ _ (by decide)).trans h49))))) (li_59) (by omega)) fun v Ma261 h261 => ?_
                    obtain ⟨rv260, em260, rfl, g261, e261_em260, e261_k0, e261_k1, e261_k2, e261_k3, e261_k4, p261_0, p261_1⟩ := h261
                    have f261 : Fr W_rp Mr Ma261 := Fr.t f259 (Fr.m g261 (by decide))
                    refine rsr (cI_e rfl) ?_
                    refine rsr (jv_e) ?_
                    exact Rs.ok (Or.inr ⟨2, ((pl i199)), f255, f261, ⟨i199, sz254, sn254, uc254, e255_k0, e255_k1, e255_k2, e255_k3, e255_sz254, e255_sn254, e255_uc254, by omega⟩, ⟨em260, s, u199, mu, ut, e261_k0, e261_k1, e261_em260, e261_k2, e261_k3, e261_k4, (g261.i _ _ (by decide)).trans ((g259.i _ _ (by decide)).trans ((g257.i _ _ (by decide)).trans ((sI_nej (by decide)).trans ((sI_nej (by decide)).trans ((FR199.i _ _ (by decide)).trans h49))))), by omega⟩⟩)
              ·
                have FL199 : Fr W_cp Mc Mx199 := Fr.t f13 fl199
                have FR199 : Fr W_rp Mr Nx199 := Fr.t (Fr.m f117 W_rx_p) fr199
                obtain ⟨ti199, tz199, tn199, tu199, t13199, t10199, t11199, t12199, t9199, t16199, t19199, tb199⟩ := tc199
                obtain ⟨re199, rn199, ru199, rm199, rt199, u41199, u42199, u43199, u51199, u53199, u48199, u49199, ub199⟩ := tr199
                refine rsl (cV_e rfl) ?_
                refine rsr (cV_e rfl) ?_
                refine rsl (jv_e) ?_
                refine rsl (vC_e (ck_65 (hC.fr FL199))) ?_
                refine RlV (y64 (by omega) (hC.fr FL199) (hTk.fr (WL := W_cp) FL199 (by decide)) (t12199) (t13199) (t10199) (t11199) (t9199) (t16199) (t19199) (li_61) (by omega)) fun v Ma263 h263 => ?_
                obtain ⟨sz262, sn262, uc262, g263, e263_sz262, e263_sn262, e263_uc262, e263_k0, e263_k1, e263_k2, e263_k3, p263_0, p263_1, p263_2⟩ := h263
                have f263 : Fr W_cp Mc Ma263 := Fr.t FL199 (Fr.m g263 (by decide))
                refine rsl (cV_e rfl) ?_
                refine rsl (vC_e (ck_65 (hC.fr f263))) ?_
                refine RlV (y99_0 (by omega) (hC.fr f263) (hTk.fr (WL := W_cp) f263 (by decide)) (e263_k3) (e263_k0) (e263_k1) (e263_k2) (e263_sz262) (e263_sn262) (e263_uc262) (li_0) (hv0) (by omega)) fun v Ma265 h265 => ?_
                obtain ⟨sz264, sn264, uc264, g265, e265_sz264, e265_sn264, e265_uc264, e265_k0, e265_k1, e265_k2, e265_k3, p265_0, p265_1, p265_2⟩ := h265
                have f265 : Fr W_cp Mc Ma265 := Fr.t f263 (Fr.m g265 (by decide))
                refine rsl (cV_e rfl) ?_
                refine rsl (vC_e (ck_65 (hC.fr f265))) ?_
                refine RlV (y64 (by omega) (hC.fr f265) (hTk.fr (WL := W_cp) f265 (by decide)) (e265_k3) (e265_k0) (e265_k1) (e265_k2) (e265_sz264) (e265_sn264) (e265_uc264) (li_59) (by omega)) fun v Ma267 h267 => ?_
                obtain ⟨sz266, sn266, uc266, g267, e267_sz266, e267_sn266, e267_uc266, e267_k0, e267_k1, e267_k2, e267_k3, p267_0, p267_1, p267_2⟩ := h267
                have f267 : Fr W_cp Mc Ma267 := Fr.t f265 (Fr.m g267 (by decide))
                refine rsl (cV_e rfl) ?_
                refine rsl (jn_v) ?_
                refine rsl (if_neg (eqI_n (li_1) (li_0) (by omega))) ?_
                refine rsl (vC_e (ck_65 (hC.fr f267))) ?_
                refine RlV (y105 (by omega) (hC.fr f267) (hTk.fr (WL := W_cp) f267 (by decide)) (e267_k3) (e267_k0) (e267_k1) (e267_k2) (e267_sz266) (e267_sn266) (e267_uc266) (congrArg iI p13_0) (li_3) (li_6) (by omega)) fun v Ma269 h269 => ?_
                obtain ⟨sz268, sn268, uc268, g269, e269_sz268, e269_sn268, e269_uc268, e269_k0, e269_k1, e269_k2, e269_k3, p269_0, p269_1, p269_2⟩ := h269
                have f269 : Fr W_cp Mc Ma269 := Fr.t f267 (Fr.m g269 (by decide))
                refine rsl (cV_e rfl) ?_
                refine rsl (jv_e) ?_
                refine rsr (vC_e (rk_160 (hR.fr FR199))) ?_
                refine RrI (x195_s (by omega) (hR.fr FR199) (u41199) (u42199) (u43199) (u51199) (u53199) (u48199) (u49199) (li_61) (by omega)) fun v Ma271 h271 => ?_
                obtain ⟨rv270, em270, rfl, g271, e271_em270, e271_k0, e271_k1, e271_k2, e271_k3, e271_k4, p271_0, p271_1⟩ := h271
                have f271 : Fr W_rp Mr Ma271 := Fr.t FR199 (Fr.m g271 (by decide))
                refine rsr (cI_e rfl) ?_
                refine rsr (vC_e (rk_160 (hR.fr f271))) ?_
                refine RrV (x211_s (by omega) (hR.fr f271) (e271_k0) (e271_k1) (e271_em270) (e271_k2) (e271_k3) (e271_k4) ((g271.i _ _ (by decide)).trans (u49199))  (by omega)) fun v Ma273 h273 => ?_
                obtain ⟨em272, g273, e273_em272, e273_k0, e273_k1, e273_k2, e273_k3, e273_k4, p273_0⟩ := h273
                have f273 : Fr W_rp Mr Ma273 := Fr.t f271 (Fr.m g273 (by decide))
                refine rsr (cV_e rfl) ?_
                refine rsr (vC_e (rk_160 (hR.fr f273))) ?_
                refine RrV (x202_s (by omega) (hR.fr f273) (e273_k0) (e273_k1) (e273_em272) (e273_k2) (e273_k3) (e273_k4) ((g273.i _ _ (by decide)).trans ((g271.i _ _ (by decide)).trans (u49199))) (congrArg iI p117_0) (li_3) (li_6) (by omega)) fun v Ma275 h275 => ?_
                obtain ⟨em274, g275, e275_em274, e275_k0, e275_k1, e275_k2, e275_k3, e275_k4, p275_0⟩ := h275
                have f275 : Fr W_rp Mr Ma275 := Fr.t f273 (Fr.m g275 (by decide))
                refine rsr (cV_e rfl) ?_
                refine rsr (vC_e (rk_160 (hR.fr f275))) ?_
                refine RrI (x195_s (by omega) (hR.fr f275) (e275_k0) (e275_k1) (e275_em274) (e275_k2) (e275_k3) (e275_k4) ((g275.i _ _ (by decide)).trans ((g273.i _ _ (by decide)).trans ((g271.i _ _ (by decide)).trans (u49199)))) (li_59) (by omega)) fun v Ma277 h277 => ?_
                obtain ⟨rv276, em276, rfl, g277, e277_em276, e277_k0, e277_k1, e277_k2, e277_k3, e277_k4, p277_0, p277_1⟩ := h277
                have f277 : Fr W_rp Mr Ma277 := Fr.t f275 (Fr.m g277 (by decide))
                refine rsr (cI_e rfl) ?_
                refine rsr (jv_e) ?_
                exact Rs.ok (Or.inr ⟨F199, P199, f269, f277, ⟨ti199, sz268, sn268, uc268, e269_k0, e269_k1, e269_k2, e269_k3, e269_sz268, e269_sn268, e269_uc268, by omega⟩, ⟨em276, rn199, ru199, rm199, rt199, e277_k0, e277_k1, e277_em276, e277_k2, e277_k3, e277_k4, (g277.i _ _ (by decide)).trans ((g275.i _ _ (by decide)).trans ((g273.i _ _ (by decide)).trans ((g271.i _ _ (by decide)).trans (u49199)))), by omega⟩⟩)
          ·
            refine rsr (if_neg (lgc_n (rfl) (rfl) c118)) ?_
            refine rsr (jv_e) ?_
            try dsimp only
            refine rsr (gtI_q (w := iI ((kr (kd (i + 3))))) (rk_160 (hR.fr f117)) (e117_k1)) ?_
            refine rsr (jn_v) ?_
            refine rsr (if_neg (krI_n (k := 40) (rfl) (li_40) (hS.ok (i + 3) (by omega) (by omega)) (by unfold KdOK sgk; omega) (by decide +kernel) (by omega) (by omega))) ?_
            refine rsr (gtI_q (w := iI ((kr (kd (i + 3))))) (rk_160 (hR.fr f117)) (e117_k1)) ?_
            refine rsr (if_pos (krI_p (k := 91) (rfl) (li_91) (by omega) (by decide +kernel))) ?_
            refine rsr (vC_e (rk_160 (hR.fr f117))) ?_
            refine Rb_VV (hX _ _ (by omega) (by omega) T n m kd pl E tx ua ut mu _ _ G (pu U u [uc, (V Mr 201 u.toNat), (V Mr 200 u.toNat), (pl i), (pl (i + 2)), (V Mr 206 u.toNat), ut, 0, (V Mc 79 uc.toNat), (V Mc 80 uc.toNat), (pl i)]) Hl (pux X u [(tx i), (tx (i + 2))]) (i + 3) e s (u + 1) (uc + 1) _ hS (hCx.fr f13 f117) ⟨e13_k0, e13_k2, e13_k3, (g13.i _ _ (by decide)).trans (qa_9), (g13.i _ _ (by decide)).trans (qa_16), e13_k1⟩ ⟨e117_k1, e117_k2, e117_k3, e117_k4, (g117.i _ _ (by decide)).trans (wa_43), (g117.i _ _ (by decide)).trans (wa_51), e117_k0, (g117.i _ _ (by decide)).trans (wa_50), p117_2⟩ ⟨(caa.fr g13 (by decide)), (raa.fr g117 (by decide)), (lca.fr g13 (by decide)), (lra.fr g117 (by decide)), (CU.add cua (by omega) (by omega) p13_1 rfl rfl), (RU.add rua (by omega) p117_1 rfl)⟩ ⟨by omega, by omega, by omega, by omega, by omega, by omega, by omega, by omega, by omega, by omega, by omega, by omega⟩ (by omega) (vs1 (hv0))) fun v Mx278 w Nx278 hx278 => ?_
            rcases hx278 with ⟨i278, e278, u278, uc278, G278, U278, X278, fl278, fr278, sc278, sr278, rw278, bd278, mv278, ag278, au278, ax278, tp278, dp278, kv278⟩ | ⟨F278, P278, fl278, fr278, tc278, tr278⟩
            ·
              have FL278 : Fr W_cp Mc Mx278 := Fr.t f13 fl278
              have FR278 : Fr W_rx Mr Nx278 := Fr.t f117 fr278
              obtain ⟨bb278_0, bb278_1, bb278_2, bb278_3, bb278_4, bb278_5, bb278_6, bb278_7, bb278_8, bb278_9, bb278_10, bb278_11⟩ := bd278
              obtain ⟨q278_12, q278_13, q278_10, q278_9, q278_16, q278_19⟩ := sc278
              obtain ⟨w278_36, w278_37, w278_38, w278_41, w278_43, w278_51, w278_53, w278_50, w278_n⟩ := sr278
              obtain ⟨ca278, ra278, lc278, lr278, cu278, ru278⟩ := rw278
              have hk279 := (hS.ok i278 (by omega) (by omega)).r
              have ku278 := KU.t (KU.us kua p13_1 g13 (by decide) (by omega)) kv278 (by omega)
              have ty280 := Tye.t (d3 := 1) ty2 ag278 tp278 (by omega)
              have du281 := DU.t (DU.r (ut := ut) (mu := mu) (c := uc) (G := G) (a := e) (u := (u + 1))) ag278 au278 ax278 dp278 (by omega)
              refine rsl (cV_e rfl) ?_
              refine rsr (cV_e rfl) ?_
              refine rsl (jv_e) ?_
              refine rsl (vC_e (ck_65 (hC.fr FL278))) ?_
              by_cases c282 : ((kd i278)) = 61
              ·
                have hm283 : i278 + 1 < m := hS.more i278 (by omega) (by omega) (by omega)
                refine rsl (cV_e (a64q (by omega) hS (hC.fr FL278) (hTk.fr (WL := W_cp) FL278 (by decide)) (q278_12) (q278_13) (q278_10) (li_61) (i2 := (i278 + 1)) (by omega) (by omega))) ?_
                have hk284 := (hS.ok (i278 + 1) (by omega) (by omega)).r
                refine rsl (vC_e (ck_65 (hC.fr FL278).sI.sI)) ?_
                refine rsr (vC_e (rk_160 (hR.fr FR278))) ?_
                refine RrI (a195_61 (by omega) hS (hR.fr FR278) (hT.fr (W := W_rx) FR278 (by decide) (by decide)) (fun i a b => (Fr.lc (W := W_rx) FR278 _ (by decide) _).trans (hW i a b)) (w278_36) (w278_37) (w278_38) (w278_41) (li_61) (i2 := (i278 + 1)) (by omega) (by omega)) fun v Ma286 h286 => ?_
                obtain ⟨r285, rfl, g286, e286_k0, e286_k1, e286_k2, p286_0, p286_1⟩ := h286
                have f286 : Fr W_rx Mr Ma286 := Fr.t FR278 (Fr.m g286 (by decide))
                refine rsr (cI_e rfl) ?_
                refine rsr (vC_e (rk_160 (hR.fr f286))) ?_
                refine Rb_VV (hE _ _ (by omega) (by omega) T n m kd pl E tx ua ut mu _ _ G278 U278 Hl X278 (i278 + 1) e278 s u278 uc278 _ hS (hCx.fr (Fr.sI (by decide) (Fr.sI (by decide) FL278)) f286) ⟨(sI_nej (by decide)).trans (sI_eq), sI_eq, (sI_nej (by decide)).trans ((sI_nej (by decide)).trans (q278_10)), (sI_nej (by decide)).trans ((sI_nej (by decide)).trans (q278_9)), (sI_nej (by decide)).trans ((sI_nej (by decide)).trans (q278_16)), (sI_nej (by decide)).trans ((sI_nej (by decide)).trans (q278_19))⟩ ⟨e286_k0, e286_k1, e286_k2, (g286.i _ _ (by decide)).trans (w278_41), (g286.i _ _ (by decide)).trans (w278_43), (g286.i _ _ (by decide)).trans (w278_51), (g286.i _ _ (by decide)).trans (w278_53), (g286.i _ _ (by decide)).trans (w278_50), p286_1⟩ ⟨(ca278.fr (W := W_c0) (Fr.sI (by decide) (Fr.sI (by decide) Fr.r)) (by decide)), (ra278.fr g286 (by decide)), (lc278.fr (W := W_c0) (Fr.sI (by decide) (Fr.sI (by decide) Fr.r)) (by decide)), (lr278.fr g286 (by decide)), (cu278.fr (W := W_c0) (Fr.sI (by decide) (Fr.sI (by decide) Fr.r)) (by decide)), (ru278.fr g286 (by decide))⟩ ⟨by omega, by omega, by omega, by omega, by omega, by omega, by omega, by omega, by omega, by omega, by omega, by omega⟩ (vs2 (li_0) (hv0))) fun v Mx287 w Nx287 hx287 => ?_
                rcases hx287 with ⟨i287, e287, u287, uc287, G287, U287, X287, fl287, fr287, sc287, sr287, rw287, bd287, mv287, ag287, au287, ax287, tp287, dp287, kv287⟩ | ⟨F287, P287, fl287, fr287, tc287, tr287⟩
                ·
                  have FL287 : Fr W_cp Mc Mx287 := Fr.t (Fr.sI (by decide) (Fr.sI (by decide) FL278)) fl287
                  have FR287 : Fr W_rx Mr Nx287 := Fr.t f286 fr287
                  obtain ⟨bb287_0, bb287_1, bb287_2, bb287_3, bb287_4, bb287_5, bb287_6, bb287_7, bb287_8, bb287_9, bb287_10, bb287_11⟩ := bd287
                  obtain ⟨q287_12, q287_13, q287_10, q287_9, q287_16, q287_19⟩ := sc287
                  obtain ⟨w287_36, w287_37, w287_38, w287_41, w287_43, w287_51, w287_53, w287_50, w287_n⟩ := sr287
                  obtain ⟨ca287, ra287, lc287, lr287, cu287, ru287⟩ := rw287
                  have hk288 := (hS.ok i287 (by omega) (by omega)).r
                  have ku287 := KU.t (ku278.fr (W := W_c0) (Fr.sI (by decide) (Fr.sI (by decide) Fr.r)) (by decide)) kv287 (by omega)
                  have ty289 := Tye.t (d3 := 2) ty280 ag287 tp287 (by omega)
                  have du290 := DU.t du281 ag287 au287 ax287 dp287 (by omega)
                  refine rsl (cV_e rfl) ?_
                  refine rsr (cV_e rfl) ?_
                  refine rsl (vC_e (ck_65 (hC.fr FL287))) ?_
                  by_cases c291 : ((kd i287)) = 59
                  ·
                    have hm292 : i287 + 1 < m := hS.more i287 (by omega) (by omega) (by omega)
                    refine rsl (cV_e (a64q (by omega) hS (hC.fr FL287) (hTk.fr (WL := W_cp) FL287 (by decide)) (q287_12) (q287_13) (q287_10) (li_59) (i2 := (i287 + 1)) (by omega) (by omega))) ?_
                    have hk293 := (hS.ok (i287 + 1) (by omega) (by omega)).r
                    refine rsl (jn_v) ?_
                    refine rsl (if_neg (eqI_n (li_1) (li_0) (by omega))) ?_
                    refine rsl (vC_e (ck_65 (hC.fr FL287).sI.sI)) ?_
                    have tb295 := Tyb.ex (dp := dp) (d := 2) (s' := s) (q := (e287 + 1)) (n1 := 0) (ut := ut) (mu := mu) (l := []) ty289 (Or.inr (Or.inr (Or.inr (Or.inr (Or.inr (Or.inl (by omega)))))) : Eff 6 u 0 2 s 0 s) (by omega) ⟨by omega, by omega⟩ (by omega)
                    have du296 := DU.set (U := U287) (X := X287) (c := uc) (b1 := 3) (p := 3) (q := (e287 + 1)) (u := u) (o := 6) (n1 := 0) (p1 := -2) (n3 := u) (l := []) (g := 0) du290 (by omega) (by omega) (by omega) (by omega) (fun q => absurd q (by decide)) (Int.le_of_eq (Eq.symm ((au287 0 _ (by omega)).trans ((au278 0 _ (by omega)).trans (pu_e rfl))))) ((au287 6 _ (by omega)).trans ((au278 6 _ (by omega)).trans (pu_e (by omega)))) (U3tr (ax287 0 _ (by omega)) (au287 3 _ (by omega)) (au287 10 _ (by omega)) (U3tr (ax278 0 _ (by omega)) (au278 3 _ (by omega)) (au278 10 _ (by omega)) (Or.inr (pu_310 (by omega) rfl)))) (by omega) (by omega)
                    refine RlV (a105 (by omega) (hC.fr FL287).sI.sI ((sI_nej (by decide)).trans ((sI_nej (by decide)).trans (q287_9))) (congrArg iI p13_0) (li_3) (li_6) (by omega)) fun v Ma297 h297 => ?_
                    obtain ⟨g297, e297_k0, p297_0, p297_1⟩ := h297
                    have f297 : Fr W_cp Mc Ma297 := Fr.t (Fr.sI (by decide) (Fr.sI (by decide) FL287)) (Fr.m g297 (by decide))
                    refine rsl (cV_e rfl) ?_
                    refine rsl (jv_e) ?_
                    refine rsr (vC_e (rk_160 (hR.fr FR287))) ?_
                    refine RrV (a202 (by omega) (hR.fr FR287) (w287_43) ((FR287.i _ _ (by decide)).trans h49) ((FR287.i _ _ (by decide)).trans h48) (congrArg iI p117_0) (li_3) (li_6) (by omega)) fun v Ma298 h298 => ?_
                    obtain ⟨g298, e298_k0, p298_0, p298_1⟩ := h298
                    have f298 : Fr W_rx Mr Ma298 := Fr.t FR287 (Fr.m g298 (by decide))
                    refine rsr (cV_e rfl) ?_
                    refine rsr (vC_e (rk_160 (hR.fr f298))) ?_
                    refine RrI (a195_59 (by omega) hS (hR.fr f298) (hT.fr (W := W_rx) f298 (by decide) (by decide)) (fun i a b => (Fr.lc (W := W_rx) f298 _ (by decide) _).trans (hW i a b)) ((g298.i _ _ (by decide)).trans (w287_36)) ((g298.i _ _ (by decide)).trans (w287_37)) ((g298.i _ _ (by decide)).trans (w287_38)) ((g298.i _ _ (by decide)).trans (w287_41)) (li_59) (i2 := (i287 + 1)) (by omega) (by omega)) fun v Ma300 h300 => ?_
                    obtain ⟨r299, rfl, g300, e300_k0, e300_k1, e300_k2, p300_0, p300_1⟩ := h300
                    have f300 : Fr W_rx Mr Ma300 := Fr.t f298 (Fr.m g300 (by decide))
                    refine rsr (cI_e rfl) ?_
                    refine rsr (jv_e) ?_
                    exact Rs.ok (Or.inl ⟨(i287 + 1), s, Hl, ⟨(e287 + 1), u287, uc287, (pu G287 e287 [6, 0, -2, u, ut, mu, 0]), (ps U287 u 3 3 e287), X287, f297, f300, ⟨(g297.i _ _ (by decide)).trans ((sI_nej (by decide)).trans (sI_eq)), (g297.i _ _ (by decide)).trans (sI_eq), (g297.i _ _ (by decide)).trans ((sI_nej (by decide)).trans ((sI_nej (by decide)).trans (q287_10))), e297_k0, (g297.i _ _ (by decide)).trans ((sI_nej (by decide)).trans ((sI_nej (by decide)).trans (q287_16))), (g297.i _ _ (by decide)).trans ((sI_nej (by decide)).trans ((sI_nej (by decide)).trans (q287_19)))⟩, ⟨e300_k0, e300_k1, e300_k2, (g300.i _ _ (by decide)).trans ((g298.i _ _ (by decide)).trans (w287_41)), (g300.i _ _ (by decide)).trans (e298_k0), (g300.i _ _ (by decide)).trans ((g298.i _ _ (by decide)).trans (w287_51)), (g300.i _ _ (by decide)).trans ((g298.i _ _ (by decide)).trans (w287_53)), (g300.i _ _ (by decide)).trans ((g298.i _ _ (by decide)).trans (w287_50)), p300_1⟩, ⟨(CA1.em (ca287.fr (W := W_c0) (Fr.sI (by decide) (Fr.sI (by decide) Fr.r)) (by decide)) (by omega) p297_0 rfl), ((RA1.em ra287 (by omega) p298_0 rfl).fr g300 (by decide)), ((lc287.fr (W := W_c0) (Fr.sI (by decide) (Fr.sI (by decide) Fr.r)) (by decide)).fr g297 (by decide)), ((lr287.fr g298 (by decide)).fr g300 (by decide)), (CU.set (b := 3) (cu287.fr (W := W_c0) (Fr.sI (by decide) (Fr.sI (by decide) Fr.r)) (by decide)) ⟨by omega, by omega⟩ ((au287 0 _ (by omega)).trans ((au278 0 _ (by omega)).trans (pu_e rfl))) p297_1 g297 (by decide)), ((RU.set ru287 ⟨by omega, by omega⟩ p298_1 g298 (by decide)).fr g300 (by decide))⟩, ⟨by omega, by omega, by omega, by omega, by omega, by omega, by omega, by omega, by omega, by omega, by omega, by omega⟩, ⟨by omega, by omega, by omega, by omega, by omega, by omega⟩, (Ag.pu (Ag.t (Ag.t Ag.r ag278 (by omega)) ag287 (by omega)) (by omega)), (Ag.ps (Ag.t (Ag.t (Ag.pu Ag.r (by omega)) au278 (by omega)) au287 (by omega)) (by omega)), (AgL.t (AgL.t (AgL.pu AgL.r (by omega)) ax278 (by omega)) ax287 (by omega)), tb295, du296, ((ku287.fr (W := W_c0) (Fr.sI (by decide) (Fr.sI (by decide) Fr.r)) (by decide)).fr g297 (by decide)), ⟨by omega, fun _ _ _ => rfl⟩⟩⟩)
                  ·
                    by_cases c301 : ((kd i287)) = 1
                    ·
                      refine rsl (cV_e (a64_1 (by omega) hS (hC.fr FL287) (hTk.fr (WL := W_cp) FL287 (by decide)) (q287_12) (q287_13) (q287_10) (li_59) (by omega))) ?_
                      refine rsl (jn_v) ?_
                      refine rsl (if_neg (eqI_n (li_1) (li_0) (by omega))) ?_
                      refine rsl (vC_e (ck_65 (hC.fr FL287).sI.sI.sI)) ?_
                      refine RlV (y105 (by omega) (hC.fr FL287).sI.sI.sI (hTk.fr (WL := W_cp) (Fr.sI (by decide) (Fr.sI (by decide) (Fr.sI (by decide) FL287))) (by decide)) ((sI_nej (by decide)).trans ((sI_nej (by decide)).trans ((sI_nej (by decide)).trans (q287_12)))) (sI_eq) ((sI_nej (by decide)).trans ((sI_nej (by decide)).trans (sI_eq))) ((sI_nej (by decide)).trans (sI_eq)) ((sI_nej (by decide)).trans ((sI_nej (by decide)).trans ((sI_nej (by decide)).trans (q287_9)))) ((sI_nej (by decide)).trans ((sI_nej (by decide)).trans ((sI_nej (by decide)).trans (q287_16)))) ((sI_nej (by decide)).trans ((sI_nej (by decide)).trans ((sI_nej (by decide)).trans (q287_19)))) (congrArg iI p13_0) (li_3) (li_6) (by omega)) fun v Ma303 h303 => ?_
                      obtain ⟨sz302, sn302, uc302, g303, e303_sz302, e303_sn302, e303_uc302, e303_k0, e303_k1, e303_k2, e303_k3, p303_0, p303_1, p303_2⟩ := h303
                      have f303 : Fr W_cp Mc Ma303 := Fr.t (Fr.sI (by decide) (Fr.sI (by decide) (Fr.sI (by decide) FL287))) (Fr.m g303 (by decide))
                      refine rsl (cV_e rfl) ?_
                      refine rsl (jv_e) ?_
                      refine rsr (vC_e (rk_160 (hR.fr FR287))) ?_
                      refine RrV (a202 (by omega) (hR.fr FR287) (w287_43) ((FR287.i _ _ (by decide)).trans h49) ((FR287.i _ _ (by decide)).trans h48) (congrArg iI p117_0) (li_3) (li_6) (by omega)) fun v Ma304 h304 => ?_
                      obtain ⟨g304, e304_k0, p304_0, p304_1⟩ := h304
                      have f304 : Fr W_rx Mr Ma304 := Fr.t FR287 (Fr.m g304 (by decide))
                      refine rsr (cV_e rfl) ?_
                      refine rsr (vC_e (rk_160 (hR.fr f304))) ?_
                      refine rsr (cI_e (a195_59_1 (by omega) hS (hR.fr f304) ((g304.i _ _ (by decide)).trans (w287_36)) ((g304.i _ _ (by decide)).trans (w287_37)) ((g304.i _ _ (by decide)).trans (w287_41)) (li_59) (by omega))) ?_
                      refine rsr (jv_e) ?_
                      exact Rs.ok (Or.inr ⟨1, ((pl i287)), f303, (Fr.sI (by decide) (Fr.sI (by decide) (Fr.m f304 (by decide)))), ⟨i287, sz302, sn302, uc302, e303_k0, e303_k1, e303_k2, e303_k3, e303_sz302, e303_sn302, e303_uc302, by omega⟩, ⟨(e287 + 1), s, u287, mu, ut, (sI_nej (by decide)).trans (sI_eq), sI_eq, (sI_nej (by decide)).trans ((sI_nej (by decide)).trans (e304_k0)), (sI_nej (by decide)).trans ((sI_nej (by decide)).trans ((g304.i _ _ (by decide)).trans (w287_51))), (sI_nej (by decide)).trans ((sI_nej (by decide)).trans ((g304.i _ _ (by decide)).trans (w287_53))), (sI_nej (by decide)).trans ((sI_nej (by decide)).trans ((g304.i _ _ (by decide)).trans ((FR287.i _ _ (by decide)).trans h48))), (sI_nej (by decide)).trans ((sI_nej (by decide)).trans ((g304.i _ _ (by decide)).trans ((FR287.i _ _ (by decide)).trans h49))), by omega⟩⟩)
                    ·
                      refine rsl (cV_e (a64_2 (by omega) hS (hC.fr FL287) (hTk.fr (WL := W_cp) FL287 (by decide)) (q287_12) (q287_13) (q287_10) (li_59) (by omega))) ?_
                      refine rsl (jn_v) ?_
                      refine rsl (if_neg (eqI_n (li_1) (li_0) (by omega))) ?_
                      refine rsl (vC_e (ck_65 (hC.fr FL287).sI.sI.sI)) ?_
                      refine RlV (y105 (by omega) (hC.fr FL287).sI.sI.sI (hTk.fr (WL := W_cp) (Fr.sI (by decide) (Fr.sI (by decide) (Fr.sI (by decide) FL287))) (by decide)) ((sI_nej (by decide)).trans ((sI_nej (by decide)).trans ((sI_nej (by decide)).trans (q287_12)))) (sI_eq) ((sI_nej (by decide)).trans ((sI_nej (by decide)).trans (sI_eq))) ((sI_nej (by decide)).trans (sI_eq)) ((sI_nej (by decide)).trans ((sI_nej (by decide)).trans ((sI_nej (by decide)).trans (q287_9)))) ((sI_nej (by decide)).trans ((sI_nej (by decide)).trans ((sI_nej (by decide)).trans (q287_16)))) ((sI_nej (by decide)).trans ((sI_nej (by decide)).trans ((sI_nej (by decide)).trans (q287_19)))) (congrArg iI p13_0) (li_3) (li_6) (by omega)) fun v Ma306 h306 => ?_
                      obtain ⟨sz305, sn305, uc305, g306, e306_sz305, e306_sn305, e306_uc305, e306_k0, e306_k1, e306_k2, e306_k3, p306_0, p306_1, p306_2⟩ := h306
                      have f306 : Fr W_cp Mc Ma306 := Fr.t (Fr.sI (by decide) (Fr.sI (by decide) (Fr.sI (by decide) FL287))) (Fr.m g306 (by decide))
                      refine rsl (cV_e rfl) ?_
                      refine rsl (jv_e) ?_
                      refine rsr (vC_e (rk_160 (hR.fr FR287))) ?_
                      refine RrV (a202 (by omega) (hR.fr FR287) (w287_43) ((FR287.i _ _ (by decide)).trans h49) ((FR287.i _ _ (by decide)).trans h48) (congrArg iI p117_0) (li_3) (li_6) (by omega)) fun v Ma307 h307 => ?_
                      obtain ⟨g307, e307_k0, p307_0, p307_1⟩ := h307
                      have f307 : Fr W_rx Mr Ma307 := Fr.t FR287 (Fr.m g307 (by decide))
                      refine rsr (cV_e rfl) ?_
                      refine rsr (vC_e (rk_160 (hR.fr f307))) ?_
                      refine rsr (cI_e (a195_59_2 (by omega) hS (hR.fr f307) ((g307.i _ _ (by decide)).trans (w287_36)) ((g307.i _ _ (by decide)).trans (w287_37)) ((g307.i _ _ (by decide)).trans (w287_41)) (li_59) (by omega))) ?_
                      refine rsr (jv_e) ?_
                      exact Rs.ok (Or.inr ⟨2, ((pl i287)), f306, (Fr.sI (by decide) (Fr.sI (by decide) (Fr.m f307 (by decide)))), ⟨i287, sz305, sn305, uc305, e306_k0, e306_k1, e306_k2, e306_k3, e306_sz305, e306_sn305, e306_uc305, by omega⟩, ⟨(e287 + 1), s, u287, mu, ut, (sI_nej (by decide)).trans (sI_eq), sI_eq, (sI_nej (by decide)).trans ((sI_nej (by decide)).trans (e307_k0)), (sI_nej (by decide)).trans ((sI_nej (by decide)).trans ((g307.i _ _ (by decide)).trans (w287_51))), (sI_nej (by decide)).trans ((sI_nej (by decide)).trans ((g307.i _ _ (by decide)).trans (w287_53))), (sI_nej (by decide)).trans ((sI_nej (by decide)).trans ((g307.i _ _ (by decide)).trans ((FR287.i _ _ (by decide)).trans h48))), (sI_nej (by decide)).trans ((sI_nej (by decide)).trans ((g307.i _ _ (by decide)).trans ((FR287.i _ _ (by decide)).trans h49))), by omega⟩⟩)
                ·
                  have FL287 : Fr W_cp Mc Mx287 := Fr.t (Fr.sI (by decide) (Fr.sI (by decide) FL278)) fl287
                  have FR287 : Fr W_rp Mr Nx287 := Fr.t (Fr.m f286 W_rx_p) fr287
                  obtain ⟨ti287, tz287, tn287, tu287, t13287, t10287, t11287, t12287, t9287, t16287, t19287, tb287⟩ := tc287
                  obtain ⟨re287, rn287, ru287, rm287, rt287, u41287, u42287, u43287, u51287, u53287, u48287, u49287, ub287⟩ := tr287
                  refine rsl (cV_e rfl) ?_
                  refine rsr (cV_e rfl) ?_
                  refine rsl (vC_e (ck_65 (hC.fr FL287))) ?_
                  refine RlV (y64 (by omega) (hC.fr FL287) (hTk.fr (WL := W_cp) FL287 (by decide)) (t12287) (t13287) (t10287) (t11287) (t9287) (t16287) (t19287) (li_59) (by omega)) fun v Ma309 h309 => ?_
                  obtain ⟨sz308, sn308, uc308, g309, e309_sz308, e309_sn308, e309_uc308, e309_k0, e309_k1, e309_k2, e309_k3, p309_0, p309_1, p309_2⟩ := h309
                  have f309 : Fr W_cp Mc Ma309 := Fr.t FL287 (Fr.m g309 (by decide))
                  refine rsl (cV_e rfl) ?_
                  refine rsl (jn_v) ?_
                  refine rsl (if_neg (eqI_n (li_1) (li_0) (by omega))) ?_
                  refine rsl (vC_e (ck_65 (hC.fr f309))) ?_
                  refine RlV (y105 (by omega) (hC.fr f309) (hTk.fr (WL := W_cp) f309 (by decide)) (e309_k3) (e309_k0) (e309_k1) (e309_k2) (e309_sz308) (e309_sn308) (e309_uc308) (congrArg iI p13_0) (li_3) (li_6) (by omega)) fun v Ma311 h311 => ?_
                  obtain ⟨sz310, sn310, uc310, g311, e311_sz310, e311_sn310, e311_uc310, e311_k0, e311_k1, e311_k2, e311_k3, p311_0, p311_1, p311_2⟩ := h311
                  have f311 : Fr W_cp Mc Ma311 := Fr.t f309 (Fr.m g311 (by decide))
                  refine rsl (cV_e rfl) ?_
                  refine rsl (jv_e) ?_
                  refine rsr (vC_e (rk_160 (hR.fr FR287))) ?_
                  refine RrV (x202_s (by omega) (hR.fr FR287) (u41287) (u42287) (u43287) (u51287) (u53287) (u48287) (u49287) (congrArg iI p117_0) (li_3) (li_6) (by omega)) fun v Ma313 h313 => ?_
                  obtain ⟨em312, g313, e313_em312, e313_k0, e313_k1, e313_k2, e313_k3, e313_k4, p313_0⟩ := h313
                  have f313 : Fr W_rp Mr Ma313 := Fr.t FR287 (Fr.m g313 (by decide))
                  refine rsr (cV_e rfl) ?_
                  refine rsr (vC_e (rk_160 (hR.fr f313))) ?_
                  refine RrI (x195_s (by omega) (hR.fr f313) (e313_k0) (e313_k1) (e313_em312) (e313_k2) (e313_k3) (e313_k4) ((g313.i _ _ (by decide)).trans (u49287)) (li_59) (by omega)) fun v Ma315 h315 => ?_
                  obtain ⟨rv314, em314, rfl, g315, e315_em314, e315_k0, e315_k1, e315_k2, e315_k3, e315_k4, p315_0, p315_1⟩ := h315
                  have f315 : Fr W_rp Mr Ma315 := Fr.t f313 (Fr.m g315 (by decide))
                  refine rsr (cI_e rfl) ?_
                  refine rsr (jv_e) ?_
                  exact Rs.ok (Or.inr ⟨F287, P287, f311, f315, ⟨ti287, sz310, sn310, uc310, e311_k0, e311_k1, e311_k2, e311_k3, e311_sz310, e311_sn310, e311_uc310, by omega⟩, ⟨em314, rn287, ru287, rm287, rt287, e315_k0, e315_k1, e315_em314, e315_k2, e315_k3, e315_k4, (g315.i _ _ (by decide)).trans ((g313.i _ _ (by decide)).trans (u49287)), by omega⟩⟩)
              ·
                by_cases c316 : ((kd i278)) = 1
                ·
                  refine rsl (cV_e (a64_1 (by omega) hS (hC.fr FL278) (hTk.fr (WL := W_cp) FL278 (by decide)) (q278_12) (q278_13) (q278_10) (li_61) (by omega))) ?_
                  refine rsl (vC_e (ck_65 (hC.fr FL278).sI.sI.sI)) ?_
                  refine RlV (y99_0 (by omega) (hC.fr FL278).sI.sI.sI (hTk.fr (WL := W_cp) (Fr.sI (by decide) (Fr.sI (by decide) (Fr.sI (by decide) FL278))) (by decide)) ((sI_nej (by decide)).trans ((sI_nej (by decide)).trans ((sI_nej (by decide)).trans (q278_12)))) (sI_eq) ((sI_nej (by decide)).trans ((sI_nej (by decide)).trans (sI_eq))) ((sI_nej (by decide)).trans (sI_eq)) ((sI_nej (by decide)).trans ((sI_nej (by decide)).trans ((sI_nej (by decide)).trans (q278_9)))) ((sI_nej (by decide)).trans ((sI_nej (by decide)).trans ((sI_nej (by decide)).trans (q278_16)))) ((sI_nej (by decide)).trans ((sI_nej (by decide)).trans ((sI_nej (by decide)).trans (q278_19)))) (li_0) (hv0) (by omega)) fun v Ma318 h318 => ?_
                  obtain ⟨sz317, sn317, uc317, g318, e318_sz317, e318_sn317, e318_uc317, e318_k0, e318_k1, e318_k2, e318_k3, p318_0, p318_1, p318_2⟩ := h318
                  have f318 : Fr W_cp Mc Ma318 := Fr.t (Fr.sI (by decide) (Fr.sI (by decide) (Fr.sI (by decide) FL278))) (Fr.m g318 (by decide))
                  refine rsl (cV_e rfl) ?_
                  refine rsl (vC_e (ck_65 (hC.fr f318))) ?_
                  refine RlV (y64 (by omega) (hC.fr f318) (hTk.fr (WL := W_cp) f318 (by decide)) (e318_k3) (e318_k0) (e318_k1) (e318_k2) (e318_sz317) (e318_sn317) (e318_uc317) (li_59) (by omega)) fun v Ma320 h320 => ?_
                  obtain ⟨sz319, sn319, uc319, g320, e320_sz319, e320_sn319, e320_uc319, e320_k0, e320_k1, e320_k2, e320_k3, p320_0, p320_1, p320_2⟩ := h320
                  have f320 : Fr W_cp Mc Ma320 := Fr.t f318 (Fr.m g320 (by decide))
                  refine rsl (cV_e rfl) ?_
                  refine rsl (jn_v) ?_
                  refine rsl (if_neg (eqI_n (li_1) (li_0) (by omega))) ?_
                  refine rsl (vC_e (ck_65 (hC.fr f320))) ?_
                  refine RlV (y105 (by omega) (hC.fr f320) (hTk.fr (WL := W_cp) f320 (by decide)) (e320_k3) (e320_k0) (e320_k1) (e320_k2) (e320_sz319) (e320_sn319) (e320_uc319) (congrArg iI p13_0) (li_3) (li_6) (by omega)) fun v Ma322 h322 => ?_
                  obtain ⟨sz321, sn321, uc321, g322, e322_sz321, e322_sn321, e322_uc321, e322_k0, e322_k1, e322_k2, e322_k3, p322_0, p322_1, p322_2⟩ := h322
                  have f322 : Fr W_cp Mc Ma322 := Fr.t f320 (Fr.m g322 (by decide))
                  refine rsl (cV_e rfl) ?_
                  refine rsl (jv_e) ?_
                  refine rsr (vC_e (rk_160 (hR.fr FR278))) ?_
                  refine rsr (cI_e (a195_61_1 (by omega) hS (hR.fr FR278) (w278_36) (w278_37) (w278_41) (li_61) (by omega))) ?_
                  refine rsr (vC_e (rk_160 (hR.fr FR278).sI.sI)) ?_
                  refine RrV (x211_s (by omega) (hR.fr FR278).sI.sI ((sI_nej (by decide)).trans (sI_eq)) (sI_eq) ((sI_nej (by decide)).trans ((sI_nej (by decide)).trans (w278_43))) ((sI_nej (by decide)).trans ((sI_nej (by decide)).trans (w278_51))) ((sI_nej (by decide)).trans ((sI_nej (by decide)).trans (w278_53))) ((sI_nej (by decide)).trans ((sI_nej (by decide)).trans ((FR278.i _ _ (by decide)).trans h48))) ((sI_nej (by decide)).trans ((sI_nej (by decide)).trans ((FR278.i _ _ (by decide)).trans h49)))  (by omega)) fun v Ma324 h324 => ?_
                  obtain ⟨em323, g324, e324_em323, e324_k0, e324_k1, e324_k2, e324_k3, e324_k4, p324_0⟩ := h324
                  have f324 : Fr W_rp Mr Ma324 := Fr.t (Fr.sI (by decide) (Fr.sI (by decide) (Fr.m FR278 (by decide)))) (Fr.m g324 (by decide))
                  refine rsr (cV_e rfl) ?_
                  refine rsr (vC_e (rk_160 (hR.fr f324))) ?_
                  refine RrV (x202_s (by omega) (hR.fr f324) (e324_k0) (e324_k1) (e324_em323) (e324_k2) (e324_k3) (e324_k4) ((g324.i _ _ (by decide)).trans ((sI_nej (by decide)).trans ((sI_nej (by decide)).trans ((FR278.i _ _ (by decide)).trans h49)))) (congrArg iI p117_0) (li_3) (li_6) (by omega)) fun v Ma326 h326 => ?_
                  obtain ⟨em325, g326, e326_em325, e326_k0, e326_k1, e326_k2, e326_k3, e326_k4, p326_0⟩ := h326
                  have f326 : Fr W_rp Mr Ma326 := Fr.t f324 (Fr.m g326 (by decide))
                  refine rsr (cV_e rfl) ?_
                  refine rsr (vC_e (rk_160 (hR.fr f326))) ?_
                  refine RrI (x195_s (by omega) (hR.fr f326) (e326_k0) (e326_k1) (e326_em325) (e326_k2) (e326_k3) (e326_k4) ((g326.i _ _ (by decide)).trans ((g324.i _ _ (by decide)).trans ((sI_nej (by decide)).trans ((sI_nej (by decide)).trans ((FR278.i _ _ (by decide)).trans h49))))) (li_59) (by omega)) fun v Ma328 h328 => ?_
                  obtain ⟨rv327, em327, rfl, g328, e328_em327, e328_k0, e328_k1, e328_k2, e328_k3, e328_k4, p328_0, p328_1⟩ := h328
                  have f328 : Fr W_rp Mr Ma328 := Fr.t f326 (Fr.m g328 (by decide))
                  refine rsr (cI_e rfl) ?_
                  refine rsr (jv_e) ?_
                  exact Rs.ok (Or.inr ⟨1, ((pl i278)), f322, f328, ⟨i278, sz321, sn321, uc321, e322_k0, e322_k1, e322_k2, e322_k3, e322_sz321, e322_sn321, e322_uc321, by omega⟩, ⟨em327, s, u278, mu, ut, e328_k0, e328_k1, e328_em327, e328_k2, e328_k3, e328_k4, (g328.i _ _ (by decide)).trans ((g326.i _ _ (by decide)).trans ((g324.i _ _ (by decide)).trans ((sI_nej (by decide)).trans ((sI_nej (by decide)).trans ((FR278.i _ _ (by decide)).trans h49))))), by omega⟩⟩)
                ·
                  refine rsl (cV_e (a64_2 (by omega) hS (hC.fr FL278) (hTk.fr (WL := W_cp) FL278 (by decide)) (q278_12) (q278_13) (q278_10) (li_61) (by omega))) ?_
                  refine rsl (vC_e (ck_65 (hC.fr FL278).sI.sI.sI)) ?_
                  refine RlV (y99_0 (by omega) (hC.fr FL278).sI.sI.sI (hTk.fr (WL := W_cp) (Fr.sI (by decide) (Fr.sI (by decide) (Fr.sI (by decide) FL278))) (by decide)) ((sI_nej (by decide)).trans ((sI_nej (by decide)).trans ((sI_nej (by decide)).trans (q278_12)))) (sI_eq) ((sI_nej (by decide)).trans ((sI_nej (by decide)).trans (sI_eq))) ((sI_nej (by decide)).trans (sI_eq)) ((sI_nej (by decide)).trans ((sI_nej (by decide)).trans ((sI_nej (by decide)).trans (q278_9)))) ((sI_nej (by decide)).trans ((sI_nej (by decide)).trans ((sI_nej (by decide)).trans (q278_16)))) ((sI_nej (by decide)).trans ((sI_nej (by decide)).trans ((sI_nej (by decide)).trans (q278_19)))) (li_0) (hv0) (by omega)) fun v Ma330 h330 => ?_
                  obtain ⟨sz329, sn329, uc329, g330, e330_sz329, e330_sn329, e330_uc329, e330_k0, e330_k1, e330_k2, e330_k3, p330_0, p330_1, p330_2⟩ := h330
                  have f330 : Fr W_cp Mc Ma330 := Fr.t (Fr.sI (by decide) (Fr.sI (by decide) (Fr.sI (by decide) FL278))) (Fr.m g330 (by decide))
                  refine rsl (cV_e rfl) ?_
                  refine rsl (vC_e (ck_65 (hC.fr f330))) ?_
                  refine RlV (y64 (by omega) (hC.fr f330) (hTk.fr (WL := W_cp) f330 (by decide)) (e330_k3) (e330_k0) (e330_k1) (e330_k2) (e330_sz329) (e330_sn329) (e330_uc329) (li_59) (by omega)) fun v Ma332 h332 => ?_
                  obtain ⟨sz331, sn331, uc331, g332, e332_sz331, e332_sn331, e332_uc331, e332_k0, e332_k1, e332_k2, e332_k3, p332_0, p332_1, p332_2⟩ := h332
                  have f332 : Fr W_cp Mc Ma332 := Fr.t f330 (Fr.m g332 (by decide))
                  refine rsl (cV_e rfl) ?_
                  refine rsl (jn_v) ?_
                  refine rsl (if_neg (eqI_n (li_1) (li_0) (by omega))) ?_
                  refine rsl (vC_e (ck_65 (hC.fr f332))) ?_
                  refine RlV (y105 (by omega) (hC.fr f332) (hTk.fr (WL := W_cp) f332 (by decide)) (e332_k3) (e332_k0) (e332_k1) (e332_k2) (e332_sz331) (e332_sn331) (e332_uc331) (congrArg iI p13_0) (li_3) (li_6) (by omega)) fun v Ma334 h334 => ?_
                  obtain ⟨sz333, sn333, uc333, g334, e334_sz333, e334_sn333, e334_uc333, e334_k0, e334_k1, e334_k2, e334_k3, p334_0, p334_1, p334_2⟩ := h334
                  have f334 : Fr W_cp Mc Ma334 := Fr.t f332 (Fr.m g334 (by decide))
                  refine rsl (cV_e rfl) ?_
                  refine rsl (jv_e) ?_
                  refine rsr (vC_e (rk_160 (hR.fr FR278))) ?_
                  refine rsr (cI_e (a195_61_2 (by omega) hS (hR.fr FR278) (w278_36) (w278_37) (w278_41) (li_61) (by omega))) ?_
                  refine rsr (vC_e (rk_160 (hR.fr FR278).sI.sI)) ?_
                  refine RrV (x211_s (by omega) (hR.fr FR278).sI.sI ((sI_nej (by decide)).trans (sI_eq)) (sI_eq) ((sI_nej (by decide)).trans ((sI_nej (by decide)).trans (w278_43))) ((sI_nej (by decide)).trans ((sI_nej (by decide)).trans (w278_51))) ((sI_nej (by decide)).trans ((sI_nej (by decide)).trans (w278_53))) ((sI_nej (by decide)).trans ((sI_nej (by decide)).trans ((FR278.i _ _ (by decide)).trans h48))) ((sI_nej (by decide)).trans ((sI_nej (by decide)).trans ((FR278.i _ _ (by decide)).trans h49)))  (by omega)) fun v Ma336 h336 => ?_
                  obtain ⟨em335, g336, e336_em335, e336_k0, e336_k1, e336_k2, e336_k3, e336_k4, p336_0⟩ := h336
                  have f336 : Fr W_rp Mr Ma336 := Fr.t (Fr.sI (by decide) (Fr.sI (by decide) (Fr.m FR278 (by decide)))) (Fr.m g336 (by decide))
                  refine rsr (cV_e rfl) ?_
                  refine rsr (vC_e (rk_160 (hR.fr f336))) ?_
                  refine RrV (x202_s (by omega) (hR.fr f336) (e336_k0) (e336_k1) (e336_em335) (e336_k2) (e336_k3) (e336_k4) ((g336.i _ _ (by decide)).trans ((sI_nej (by decide)).trans ((sI_nej (by decide)).trans ((FR278.i _ _ (by decide)).trans h49)))) (congrArg iI p117_0) (li_3) (li_6) (by omega)) fun v Ma338 h338 => ?_
                  obtain ⟨em337, g338, e338_em337, e338_k0, e338_k1, e338_k2, e338_k3, e338_k4, p338_0⟩ := h338
                  have f338 : Fr W_rp Mr Ma338 := Fr.t f336 (Fr.m g338 (by decide))
                  refine rsr (cV_e rfl) ?_
                  refine rsr (vC_e (rk_160 (hR.fr f338))) ?_
                  refine RrI (x195_s (by omega) (hR.fr f338) (e338_k0) (e338_k1) (e338_em337) (e338_k2) (e338_k3) (e338_k4) ((g338.i _ _ (by decide)).trans ((g336.i _ _ (by decide)).trans ((sI_nej (by decide)).trans ((sI_nej (by decide)).trans ((FR278.i _ _ (by decide)).trans h49))))) (li_59) (by omega)) fun v Ma340 h340 => ?_
                  obtain ⟨rv339, em339, rfl, g340, e340_em339, e340_k0, e340_k1, e340_k2, e340_k3, e340_k4, p340_0, p340_1⟩ := h340
                  have f340 : Fr W_rp Mr Ma340 := Fr.t f338 (Fr.m g340 (by decide))
                  refine rsr (cI_e rfl) ?_
                  refine rsr (jv_e) ?_
                  exact Rs.ok (Or.inr ⟨2, ((pl i278)), f334, f340, ⟨i278, sz333, sn333, uc333, e334_k0, e334_k1, e334_k2, e334_k3, e334_sz333, e334_sn333, e334_uc333, by omega⟩, ⟨em339, s, u278, mu, ut, e340_k0, e340_k1, e340_em339, e340_k2, e340_k3, e340_k4, (g340.i _ _ (by decide)).trans ((g338.i _ _ (by decide)).trans ((g336.i _ _ (by decide)).trans ((sI_nej (by decide)).trans ((sI_nej (by decide)).trans ((FR278.i _ _ (by decide)).trans h49))))), by omega⟩⟩)
            ·
              have FL278 : Fr W_cp Mc Mx278 := Fr.t f13 fl278
              have FR278 : Fr W_rp Mr Nx278 := Fr.t (Fr.m f117 W_rx_p) fr278
              obtain ⟨ti278, tz278, tn278, tu278, t13278, t10278, t11278, t12278, t9278, t16278, t19278, tb278⟩ := tc278
              obtain ⟨re278, rn278, ru278, rm278, rt278, u41278, u42278, u43278, u51278, u53278, u48278, u49278, ub278⟩ := tr278
              refine rsl (cV_e rfl) ?_
              refine rsr (cV_e rfl) ?_
              refine rsl (jv_e) ?_
              refine rsl (vC_e (ck_65 (hC.fr FL278))) ?_
              refine RlV (y64 (by omega) (hC.fr FL278) (hTk.fr (WL := W_cp) FL278 (by decide)) (t12278) (t13278) (t10278) (t11278) (t9278) (t16278) (t19278) (li_61) (by omega)) fun v Ma342 h342 => ?_
              obtain ⟨sz341, sn341, uc341, g342, e342_sz341, e342_sn341, e342_uc341, e342_k0, e342_k1, e342_k2, e342_k3, p342_0, p342_1, p342_2⟩ := h342
              have f342 : Fr W_cp Mc Ma342 := Fr.t FL278 (Fr.m g342 (by decide))
              refine rsl (cV_e rfl) ?_
              refine rsl (vC_e (ck_65 (hC.fr f342))) ?_
              refine RlV (y99_0 (by omega) (hC.fr f342) (hTk.fr (WL := W_cp) f342 (by decide)) (e342_k3) (e342_k0) (e342_k1) (e342_k2) (e342_sz341) (e342_sn341) (e342_uc341) (li_0) (hv0) (by omega)) fun v Ma344 h344 => ?_
              obtain ⟨sz343, sn343, uc343, g344, e344_sz343, e344_sn343, e344_uc343, e344_k0, e344_k1, e344_k2, e344_k3, p344_0, p344_1, p344_2⟩ := h344
              have f344 : Fr W_cp Mc Ma344 := Fr.t f342 (Fr.m g344 (by decide))
              refine rsl (cV_e rfl) ?_
              refine rsl (vC_e (ck_65 (hC.fr f344))) ?_
              refine RlV (y64 (by omega) (hC.fr f344) (hTk.fr (WL := W_cp) f344 (by decide)) (e344_k3) (e344_k0) (e344_k1) (e344_k2) (e344_sz343) (e344_sn343) (e344_uc343) (li_59) (by omega)) fun v Ma346 h346 => ?_
              obtain ⟨sz345, sn345, uc345, g346, e346_sz345, e346_sn345, e346_uc345, e346_k0, e346_k1, e346_k2, e346_k3, p346_0, p346_1, p346_2⟩ := h346
              have f346 : Fr W_cp Mc Ma346 := Fr.t f344 (Fr.m g346 (by decide))
              refine rsl (cV_e rfl) ?_
              refine rsl (jn_v) ?_
              refine rsl (if_neg (eqI_n (li_1) (li_0) (by omega))) ?_
              refine rsl (vC_e (ck_65 (hC.fr f346))) ?_
              refine RlV (y105 (by omega) (hC.fr f346) (hTk.fr (WL := W_cp) f346 (by decide)) (e346_k3) (e346_k0) (e346_k1) (e346_k2) (e346_sz345) (e346_sn345) (e346_uc345) (congrArg iI p13_0) (li_3) (li_6) (by omega)) fun v Ma348 h348 => ?_
              obtain ⟨sz347, sn347, uc347, g348, e348_sz347, e348_sn347, e348_uc347, e348_k0, e348_k1, e348_k2, e348_k3, p348_0, p348_1, p348_2⟩ := h348
              have f348 : Fr W_cp Mc Ma348 := Fr.t f346 (Fr.m g348 (by decide))
              refine rsl (cV_e rfl) ?_
              refine rsl (jv_e) ?_
              refine rsr (vC_e (rk_160 (hR.fr FR278))) ?_
              refine RrI (x195_s (by omega) (hR.fr FR278) (u41278) (u42278) (u43278) (u51278) (u53278) (u48278) (u49278) (li_61) (by omega)) fun v Ma350 h350 => ?_
              obtain ⟨rv349, em349, rfl, g350, e350_em349, e350_k0, e350_k1, e350_k2, e350_k3, e350_k4, p350_0, p350_1⟩ := h350
              have f350 : Fr W_rp Mr Ma350 := Fr.t FR278 (Fr.m g350 (by decide))
              refine rsr (cI_e rfl) ?_
              refine rsr (vC_e (rk_160 (hR.fr f350))) ?_
              refine RrV (x211_s (by omega) (hR.fr f350) (e350_k0) (e350_k1) (e350_em349) (e350_k2) (e350_k3) (e350_k4) ((g350.i _ _ (by decide)).trans (u49278))  (by omega)) fun v Ma352 h352 => ?_
              obtain ⟨em351, g352, e352_em351, e352_k0, e352_k1, e352_k2, e352_k3, e352_k4, p352_0⟩ := h352
              have f352 : Fr W_rp Mr Ma352 := Fr.t f350 (Fr.m g352 (by decide))
              refine rsr (cV_e rfl) ?_
              refine rsr (vC_e (rk_160 (hR.fr f352))) ?_
              refine RrV (x202_s (by omega) (hR.fr f352) (e352_k0) (e352_k1) (e352_em351) (e352_k2) (e352_k3) (e352_k4) ((g352.i _ _ (by decide)).trans ((g350.i _ _ (by decide)).trans (u49278))) (congrArg iI p117_0) (li_3) (li_6) (by omega)) fun v Ma354 h354 => ?_
              obtain ⟨em353, g354, e354_em353, e354_k0, e354_k1, e354_k2, e354_k3, e354_k4, p354_0⟩ := h354
              have f354 : Fr W_rp Mr Ma354 := Fr.t f352 (Fr.m g354 (by decide))
              refine rsr (cV_e rfl) ?_
              refine rsr (vC_e (rk_160 (hR.fr f354))) ?_
              refine RrI (x195_s (by omega) (hR.fr f354) (e354_k0) (e354_k1) (e354_em353) (e354_k2) (e354_k3) (e354_k4) ((g354.i _ _ (by decide)).trans ((g352.i _ _ (by decide)).trans ((g350.i _ _ (by decide)).trans (u49278)))) (li_59) (by omega)) fun v Ma356 h356 => ?_
              obtain ⟨rv355, em355, rfl, g356, e356_em355, e356_k0, e356_k1, e356_k2, e356_k3, e356_k4, p356_0, p356_1⟩ := h356
              have f356 : Fr W_rp Mr Ma356 := Fr.t f354 (Fr.m g356 (by decide))
              refine rsr (cI_e rfl) ?_
              refine rsr (jv_e) ?_
              exact Rs.ok (Or.inr ⟨F278, P278, f348, f356, ⟨ti278, sz347, sn347, uc347, e348_k0, e348_k1, e348_k2, e348_k3, e348_sz347, e348_sn347, e348_uc347, by omega⟩, ⟨em355, rn278, ru278, rm278, rt278, e356_k0, e356_k1, e356_em355, e356_k2, e356_k3, e356_k4, (g356.i _ _ (by decide)).trans ((g354.i _ _ (by decide)).trans ((g352.i _ _ (by decide)).trans ((g350.i _ _ (by decide)).trans (u49278)))), by omega⟩⟩)
        · refine rsl (if_neg (eqI_n (rfl) (li_91) (by omega))) ?_
          refine rsl (jv_e) ?_
          refine rsl (jn_v) ?_
          refine rsl (if_pos (eqI_p (li_0) (li_0) (by omega))) ?_
          refine rsl (jv_e) ?_
          refine rsl (vC_e (ck_65 (hC.fr f13))) ?_
          by_cases c357 : ((kd (i + 3))) = 61
          ·
            have hm358 : (i + 3) + 1 < m := hS.more (i + 3) (by omega) (by omega) (by omega)
            refine rsl (cV_e (a64q (by omega) hS (hC.fr f13) (hTk.fr (WL := W_cp) f13 (by decide)) (e13_k0) (e13_k2) (e13_k3) (li_61) (i2 := (i + 4)) (by omega) (by omega))) ?_
            have hk359 := (hS.ok (i + 4) (by omega) (by omega)).r
            refine rsl (vC_e (ck_65 (hC.fr f13).sI.sI)) ?_
            refine rsr (gtI_q (w := iI ((kr (kd i)))) (rk_160 hR) (wa_36)) ?_
            refine rsr (jn_v) ?_
            refine rsr (swI_c) ?_
            refine rsr (if_neg (krI_n (k := 215) (rfl) (li_416) (hS.ok i (by omega) (by omega)) (by unfold KdOK sgk; omega) (by decide +kernel) (by omega) (by omega))) ?_
            refine rsr (swI_c) ?_
            refine rsr (if_neg (krI_n (k := 216) (rfl) (li_417) (hS.ok i (by omega) (by omega)) (by unfold KdOK sgk; omega) (by decide +kernel) (by omega) (by omega))) ?_
            refine rsr (swI_c) ?_
            refine rsr (if_neg (krI_n (k := 217) (rfl) (li_418) (hS.ok i (by omega) (by omega)) (by unfold KdOK sgk; omega) (by decide +kernel) (by omega) (by omega))) ?_
            refine rsr (swI_c) ?_
            refine rsr (if_neg (krI_n (k := 218) (rfl) (li_419) (hS.ok i (by omega) (by omega)) (by unfold KdOK sgk; omega) (by decide +kernel) (by omega) (by omega))) ?_
            refine rsr (swI_c) ?_
            refine rsr (if_neg (krI_n (k := 219) (rfl) (li_420) (hS.ok i (by omega) (by omega)) (by unfold KdOK sgk; omega) (by decide +kernel) (by omega) (by omega))) ?_
            refine rsr (swI_c) ?_
            refine rsr (if_neg (krI_n (k := 220) (rfl) (li_421) (hS.ok i (by omega) (by omega)) (by unfold KdOK sgk; omega) (by decide +kernel) (by omega) (by omega))) ?_
            refine rsr (swI_c) ?_
            refine rsr (if_neg (krI_n (k := 221) (rfl) (li_422) (hS.ok i (by omega) (by omega)) (by unfold KdOK sgk; omega) (by decide +kernel) (by omega) (by omega))) ?_
            refine rsr (swI_c) ?_
            refine rsr (if_neg (krI_n (k := 222) (rfl) (li_423) (hS.ok i (by omega) (by omega)) (by unfold KdOK sgk; omega) (by decide +kernel) (by omega) (by omega))) ?_
            refine rsr (swI_n) ?_
            refine rsr (gtI_q (w := iI ((kr (kd i)))) (rk_160 hR) (wa_36)) ?_
            refine rsr (jn_v) ?_
            refine rsr (if_pos (krI_p (k := 3) (rfl) (li_1) (by omega) (by decide +kernel))) ?_
            refine rsr (jv_e) ?_
            refine rsr (vC_e (rk_160 hR)) ?_
            refine rsr (cI_e (ar193_p (by omega) hS hR (wa_36) (wa_37) (wa_41) (li_1) (by omega))) ?_
            refine rsr (if_neg (eqI_n (rfl) (li_0) (by omega))) ?_
            refine rsr (vC_e (rk_160 hR)) ?_
            refine Rs_cVr ?_ (fun v M w N h => rs1 jv_e (Rt.ok h))
            obtain ⟨d2, rfl⟩ : ∃ e, d2 = e + 1 := ⟨d2 - 1, by omega⟩
            rw [r217]; unfold b217; rw [aR_e, aZ_e]; unfold c217
            refine rsr (vC_e (rk_160 hR)) ?_
            refine RrI (a201_d (by omega) hS hR (hT.fr (W := W_rx) Fr.r (by decide) (by decide)) (fun i a b => (Fr.lc (W := W_rx) Fr.r _ (by decide) _).trans (hW i a b)) (wa_36) (wa_37) (wa_38) (wa_41) (h49) (wa_53) wa_n (by omega)) fun v Ma361 h361 => ?_
            obtain ⟨r360, rfl, g361, e361_k0, e361_k1, e361_k2, e361_k3, e361_k4, p361_0, p361_1, p361_2⟩ := h361
            have f361 : Fr W_rx Mr Ma361 := Fr.t Fr.r (Fr.m g361 (by decide))
            refine rsr (cI_e rfl) ?_
            refine rsr (gtI_q (w := iI 0) (rk_160 (hR.fr f361)) (e361_k4)) ?_
            refine rsr (if_pos (eqI_p (rfl) (li_0) (by omega))) ?_
            refine rsr (gtP_q (w := some 202) (rk_160 (hR.fr f361)) (rf_56 (hR.fr f361))) ?_
            refine rsr (alL_q (n := 2000) (z := u) (w := (tx i)) (rk_202 (hR.fr f361)) (congrArg iI p361_0) (by omega) (p361_1.2.2.2.1)) ?_
            refine rsr (jn_v) ?_
            by_cases c362 : (tx i) = (0 : Int64)
            ·
              refine rsr (if_pos (lgc_p (rfl) (rfl) c362)) ?_
              refine rsr (gtP_q (w := some 204) (rk_160 (hR.fr f361)) (rf_58 (hR.fr f361))) ?_
              refine rsr (alL_q (n := 2000) (z := u) (w := (tx (i + 2))) (rk_204 (hR.fr f361)) (congrArg iI p361_0) (by omega) (p361_1.2.2.2.2.2.1)) ?_
              refine rsr (vC_e (rk_160 (hR.fr f361))) ?_
              obtain ⟨rl, hrl⟩ : ∃ r, LcF Hl s (tx (i + 2)) r := by have q := LcF_ex (Hl := Hl) (y := (tx (i + 2))) s.toNat; rw [show ((s.toNat : Nat) : Int) = s by omega] at q; exact q
              have brl := hrl.bd
              by_cases crl : rl = -1
              ·
                subst crl
                refine RrI (a197 (by omega) (hR.fr f361) ((g361.i _ _ (by decide)).trans (wa_51)) (lra.fr g361 (by decide)) (by omega)) fun v Nl363 hl363 => ?_
                obtain ⟨r9, rfl, hMl, hr9⟩ := hl363
                rw [hMl]
                have q9 := LcF.one hr9 hrl
                rw [q9]
                refine rsr (cI_e rfl) ?_
                refine rsr (jv_e) ?_
                try dsimp only
                refine rsr (gtI_q (w := iI ((kr (kd (i + 3))))) (rk_160 (hR.fr f361)) (e361_k1)) ?_
                refine rsr (jn_v) ?_
                refine rsr (if_neg (krI_n (k := 40) (rfl) (li_40) (hS.ok (i + 3) (by omega) (by omega)) (by unfold KdOK sgk; omega) (by decide +kernel) (by omega) (by omega))) ?_
                refine rsr (gtI_q (w := iI ((kr (kd (i + 3))))) (rk_160 (hR.fr f361)) (e361_k1)) ?_
                refine rsr (if_neg (krI_n (k := 91) (rfl) (li_91) (hS.ok (i + 3) (by omega) (by omega)) (by unfold KdOK sgk; omega) (by decide +kernel) (by omega) (by omega))) ?_
                refine rsr (vC_e (rk_160 (hR.fr f361))) ?_
                refine RrI (a195_61 (by omega) hS (hR.fr f361) (hT.fr (W := W_rx) f361 (by decide) (by decide)) (fun i a b => (Fr.lc (W := W_rx) f361 _ (by decide) _).trans (hW i a b)) (e361_k1) (e361_k2) (e361_k3) (e361_k4) (li_61) (i2 := (i + 4)) (by omega) (by omega)) fun v Ma365 h365 => ?_
                obtain ⟨r364, rfl, g365, e365_k0, e365_k1, e365_k2, p365_0, p365_1⟩ := h365
                have f365 : Fr W_rx Mr Ma365 := Fr.t f361 (Fr.m g365 (by decide))
                refine rsr (cI_e rfl) ?_
                refine rsr (if_neg (eqI_n (congrArg iI p365_0) (li_0) (by omega))) ?_
                refine rsr (jn_v) ?_
                refine rsr (if_pos (lsI_p (congrArg iI (if_pos rfl)) (li_0) (by omega))) ?_
                refine rsr (jv_e) ?_
                refine rsr (vC_e (rk_160 (hR.fr f365))) ?_
                refine Rb_VV (hE _ _ (by omega) (by omega) T n m kd pl E tx ua ut mu _ _ G (pu U u [uc, (V Mr 201 u.toNat), (V Mr 200 u.toNat), (pl i), (pl (i + 2)), (V Mr 206 u.toNat), ut, 0, (V Mc 79 uc.toNat), (V Mc 80 uc.toNat), (pl i)]) Hl (pux X u [(tx i), (tx (i + 2))]) (i + 4) e s (u + 1) (uc + 1) _ hS (hCx.fr (Fr.sI (by decide) (Fr.sI (by decide) f13)) f365) ⟨(sI_nej (by decide)).trans (sI_eq), sI_eq, (sI_nej (by decide)).trans ((sI_nej (by decide)).trans (e13_k3)), (sI_nej (by decide)).trans ((sI_nej (by decide)).trans ((g13.i _ _ (by decide)).trans (qa_9))), (sI_nej (by decide)).trans ((sI_nej (by decide)).trans ((g13.i _ _ (by decide)).trans (qa_16))), (sI_nej (by decide)).trans ((sI_nej (by decide)).trans (e13_k1))⟩ ⟨e365_k0, e365_k1, e365_k2, (g365.i _ _ (by decide)).trans (e361_k4), (g365.i _ _ (by decide)).trans ((g361.i _ _ (by decide)).trans (wa_43)), (g365.i _ _ (by decide)).trans ((g361.i _ _ (by decide)).trans (wa_51)), (g365.i _ _ (by decide)).trans (e361_k0), (g365.i _ _ (by decide)).trans ((g361.i _ _ (by decide)).trans (wa_50)), p365_1⟩ ⟨((caa.fr g13 (by decide)).fr (W := W_c0) (Fr.sI (by decide) (Fr.sI (by decide) Fr.r)) (by decide)), ((raa.fr g361 (by decide)).fr g365 (by decide)), ((lca.fr g13 (by decide)).fr (W := W_c0) (Fr.sI (by decide) (Fr.sI (by decide) Fr.r)) (by decide)), ((lra.fr g361 (by decide)).fr g365 (by decide)), ((CU.add cua (by omega) (by omega) p13_1 rfl rfl).fr (W := W_c0) (Fr.sI (by decide) (Fr.sI (by decide) Fr.r)) (by decide)), ((RU.add rua (by omega) p361_1 rfl).fr g365 (by decide))⟩ ⟨by omega, by omega, by omega, by omega, by omega, by omega, by omega, by omega, by omega, by omega, by omega, by omega⟩ (vs2 (li_0) (hv0))) fun v Mx366 w Nx366 hx366 => ?_
                rcases hx366 with ⟨i366, e366, u366, uc366, G366, U366, X366, fl366, fr366, sc366, sr366, rw366, bd366, mv366, ag366, au366, ax366, tp366, dp366, kv366⟩ | ⟨F366, P366, fl366, fr366, tc366, tr366⟩
                ·
                  have FL366 : Fr W_cp Mc Mx366 := Fr.t (Fr.sI (by decide) (Fr.sI (by decide) f13)) fl366
                  have FR366 : Fr W_rx Mr Nx366 := Fr.t f365 fr366
                  obtain ⟨bb366_0, bb366_1, bb366_2, bb366_3, bb366_4, bb366_5, bb366_6, bb366_7, bb366_8, bb366_9, bb366_10, bb366_11⟩ := bd366
                  obtain ⟨q366_12, q366_13, q366_10, q366_9, q366_16, q366_19⟩ := sc366
                  obtain ⟨w366_36, w366_37, w366_38, w366_41, w366_43, w366_51, w366_53, w366_50, w366_n⟩ := sr366
                  obtain ⟨ca366, ra366, lc366, lr366, cu366, ru366⟩ := rw366
                  have hk367 := (hS.ok i366 (by omega) (by omega)).r
                  have ku366 := KU.t ((KU.us kua p13_1 g13 (by decide) (by omega)).fr (W := W_c0) (Fr.sI (by decide) (Fr.sI (by decide) Fr.r)) (by decide)) kv366 (by omega)
                  have ty368 := Tye.t (d3 := 1) ty2 ag366 tp366 (by omega)
                  have du369 := DU.t (DU.r (ut := ut) (mu := mu) (c := uc) (G := G) (a := e) (u := (u + 1))) ag366 au366 ax366 dp366 (by omega)
                  refine rsl (cV_e rfl) ?_
                  refine rsr (cV_e rfl) ?_
                  refine rsl (vC_e (ck_65 (hC.fr FL366))) ?_
                  by_cases c370 : ((kd i366)) = 59
                  ·
                    have hm371 : i366 + 1 < m := hS.more i366 (by omega) (by omega) (by omega)
                    refine rsl (cV_e (a64q (by omega) hS (hC.fr FL366) (hTk.fr (WL := W_cp) FL366 (by decide)) (q366_12) (q366_13) (q366_10) (li_59) (i2 := (i366 + 1)) (by omega) (by omega))) ?_
                    have hk372 := (hS.ok (i366 + 1) (by omega) (by omega)).r
                    refine rsl (jn_v) ?_
                    refine rsl (if_pos (eqI_p (li_0) (li_0) (by omega))) ?_
                    refine rsl (vC_e (ck_65 (hC.fr FL366).sI.sI)) ?_
                    have tb373 := Tyb.ex (dp := dp) (d := 1) (s' := s) (q := (e366 + 1)) (n1 := 0) (ut := ut) (mu := mu) (l := []) ty368 (Or.inr (Or.inr (Or.inr (Or.inl (by omega)))) : Eff 4 u 0 1 s 0 s) (by omega) ⟨by omega, by omega⟩ (by omega)
                    have du374 := DU.set (U := U366) (X := X366) (c := uc) (b1 := 1) (p := 2) (q := (e366 + 1)) (u := u) (o := 4) (n1 := 0) (p1 := -2) (n3 := u) (l := []) (g := 0) du369 (by omega) (by omega) (by omega) (by omega) (fun q => absurd q (by decide)) (Int.le_of_eq (Eq.symm ((au366 0 _ (by omega)).trans (pu_e rfl)))) ((au366 6 _ (by omega)).trans (pu_e (by omega))) (U3tr (ax366 0 _ (by omega)) (au366 3 _ (by omega)) (au366 10 _ (by omega)) (Or.inr (pu_310 (by omega) rfl))) (by omega) (by omega)
                    refine RlV (a106_n (by omega) (hC.fr FL366).sI.sI ((sI_nej (by decide)).trans ((sI_nej (by decide)).trans (q366_9))) (congrArg iI p13_0) (li_2) (li_2) (li_4) ((sI_nej (by decide)).trans ((sI_nej (by decide)).trans (q366_16))) (lc366.fr (W := W_c0) (Fr.sI (by decide) (Fr.sI (by decide) Fr.r)) (by decide)) ((K2.ku ((K2.mk p13_1).fr (W := W_c0) (Fr.sI (by decide) (Fr.sI (by decide) Fr.r)) (by decide)) kv366 (by omega)).fr (W := W_c0) (Fr.sI (by decide) (Fr.sI (by decide) Fr.r)) (by decide)).1 ((K2.ku ((K2.mk p13_1).fr (W := W_c0) (Fr.sI (by decide) (Fr.sI (by decide) Fr.r)) (by decide)) kv366 (by omega)).fr (W := W_c0) (Fr.sI (by decide) (Fr.sI (by decide) Fr.r)) (by decide)).2 hrl c362 (by omega)) fun v Ma375 h375 => ?_
                    obtain ⟨g375, e375_k0, p375_0, p375_1⟩ := h375
                    have f375 : Fr W_cp Mc Ma375 := Fr.t (Fr.sI (by decide) (Fr.sI (by decide) FL366)) (Fr.m g375 (by decide))
                    refine rsl (cV_e rfl) ?_
                    refine rsl (jv_e) ?_
                    refine rsr (jn_v) ?_
                    refine rsr (if_pos (lsI_p (congrArg iI (if_pos rfl)) (li_0) (by omega))) ?_
                    refine rsr (vC_e (rk_160 (hR.fr FR366))) ?_
                    refine RrV (a202 (by omega) (hR.fr FR366) (w366_43) ((FR366.i _ _ (by decide)).trans h49) ((FR366.i _ _ (by decide)).trans h48) (congrArg iI p361_0) (li_1) (li_4) (by omega)) fun v Ma376 h376 => ?_
                    obtain ⟨g376, e376_k0, p376_0, p376_1⟩ := h376
                    have f376 : Fr W_rx Mr Ma376 := Fr.t FR366 (Fr.m g376 (by decide))
                    refine rsr (cV_e rfl) ?_
                    refine rsr (jv_e) ?_
                    refine rsr (vC_e (rk_160 (hR.fr f376))) ?_
                    refine RrI (a195_59 (by omega) hS (hR.fr f376) (hT.fr (W := W_rx) f376 (by decide) (by decide)) (fun i a b => (Fr.lc (W := W_rx) f376 _ (by decide) _).trans (hW i a b)) ((g376.i _ _ (by decide)).trans (w366_36)) ((g376.i _ _ (by decide)).trans (w366_37)) ((g376.i _ _ (by decide)).trans (w366_38)) ((g376.i _ _ (by decide)).trans (w366_41)) (li_59) (i2 := (i366 + 1)) (by omega) (by omega)) fun v Ma378 h378 => ?_
                    obtain ⟨r377, rfl, g378, e378_k0, e378_k1, e378_k2, p378_0, p378_1⟩ := h378
                    have f378 : Fr W_rx Mr Ma378 := Fr.t f376 (Fr.m g378 (by decide))
                    refine rsr (cI_e rfl) ?_
                    refine rsr (jv_e) ?_
                    exact Rs.ok (Or.inl ⟨(i366 + 1), s, Hl, ⟨(e366 + 1), u366, uc366, (pu G366 e366 [4, 0, -2, u, ut, mu, 0]), (ps U366 u 1 2 e366), X366, f375, f378, ⟨(g375.i _ _ (by decide)).trans ((sI_nej (by decide)).trans (sI_eq)), (g375.i _ _ (by decide)).trans (sI_eq), (g375.i _ _ (by decide)).trans ((sI_nej (by decide)).trans ((sI_nej (by decide)).trans (q366_10))), e375_k0, (g375.i _ _ (by decide)).trans ((sI_nej (by decide)).trans ((sI_nej (by decide)).trans (q366_16))), (g375.i _ _ (by decide)).trans ((sI_nej (by decide)).trans ((sI_nej (by decide)).trans (q366_19)))⟩, ⟨e378_k0, e378_k1, e378_k2, (g378.i _ _ (by decide)).trans ((g376.i _ _ (by decide)).trans (w366_41)), (g378.i _ _ (by decide)).trans (e376_k0), (g378.i _ _ (by decide)).trans ((g376.i _ _ (by decide)).trans (w366_51)), (g378.i _ _ (by decide)).trans ((g376.i _ _ (by decide)).trans (w366_53)), (g378.i _ _ (by decide)).trans ((g376.i _ _ (by decide)).trans (w366_50)), p378_1⟩, ⟨(CA1.em (ca366.fr (W := W_c0) (Fr.sI (by decide) (Fr.sI (by decide) Fr.r)) (by decide)) (by omega) p375_0 rfl), ((RA1.em ra366 (by omega) p376_0 rfl).fr g378 (by decide)), ((lc366.fr (W := W_c0) (Fr.sI (by decide) (Fr.sI (by decide) Fr.r)) (by decide)).fr g375 (by decide)), ((lr366.fr g376 (by decide)).fr g378 (by decide)), (CU.set (b := 1) (cu366.fr (W := W_c0) (Fr.sI (by decide) (Fr.sI (by decide) Fr.r)) (by decide)) ⟨by omega, by omega⟩ ((au366 0 _ (by omega)).trans (pu_e rfl)) p375_1 g375 (by decide)), ((RU.set ru366 ⟨by omega, by omega⟩ p376_1 g376 (by decide)).fr g378 (by decide))⟩, ⟨by omega, by omega, by omega, by omega, by omega, by omega, by omega, by omega, by omega, by omega, by omega, by omega⟩, ⟨by omega, by omega, by omega, by omega, by omega, by omega⟩, (Ag.pu (Ag.t Ag.r ag366 (by omega)) (by omega)), (Ag.ps (Ag.t (Ag.pu Ag.r (by omega)) au366 (by omega)) (by omega)), (AgL.t (AgL.pu AgL.r (by omega)) ax366 (by omega)), tb373, du374, ((ku366.fr (W := W_c0) (Fr.sI (by decide) (Fr.sI (by decide) Fr.r)) (by decide)).fr g375 (by decide)), ⟨by omega, fun _ _ _ => rfl⟩⟩⟩)
                  ·
                    by_cases c379 : ((kd i366)) = 1
                    ·
                      refine rsl (cV_e (a64_1 (by omega) hS (hC.fr FL366) (hTk.fr (WL := W_cp) FL366 (by decide)) (q366_12) (q366_13) (q366_10) (li_59) (by omega))) ?_
                      refine rsl (jn_v) ?_
                      refine rsl (if_pos (eqI_p (li_0) (li_0) (by omega))) ?_
                      refine rsl (vC_e (ck_65 (hC.fr FL366).sI.sI.sI)) ?_
                      refine RlV (y106 (by omega) (hC.fr FL366).sI.sI.sI (hTk.fr (WL := W_cp) (Fr.sI (by decide) (Fr.sI (by decide) (Fr.sI (by decide) FL366))) (by decide)) ((sI_nej (by decide)).trans ((sI_nej (by decide)).trans ((sI_nej (by decide)).trans (q366_12)))) (sI_eq) ((sI_nej (by decide)).trans ((sI_nej (by decide)).trans (sI_eq))) ((sI_nej (by decide)).trans (sI_eq)) ((sI_nej (by decide)).trans ((sI_nej (by decide)).trans ((sI_nej (by decide)).trans (q366_9)))) ((sI_nej (by decide)).trans ((sI_nej (by decide)).trans ((sI_nej (by decide)).trans (q366_16)))) ((sI_nej (by decide)).trans ((sI_nej (by decide)).trans ((sI_nej (by decide)).trans (q366_19)))) (congrArg iI p13_0) (li_2) (li_2) (li_4) (by omega)) fun v Ma381 h381 => ?_
                      obtain ⟨sz380, sn380, uc380, g381, e381_sz380, e381_sn380, e381_uc380, e381_k0, e381_k1, e381_k2, e381_k3, p381_0, p381_1, p381_2⟩ := h381
                      have f381 : Fr W_cp Mc Ma381 := Fr.t (Fr.sI (by decide) (Fr.sI (by decide) (Fr.sI (by decide) FL366))) (Fr.m g381 (by decide))
                      refine rsl (cV_e rfl) ?_
                      refine rsl (jv_e) ?_
                      refine rsr (jn_v) ?_
                      refine rsr (if_pos (lsI_p (congrArg iI (if_pos rfl)) (li_0) (by omega))) ?_
                      refine rsr (vC_e (rk_160 (hR.fr FR366))) ?_
                      refine RrV (a202 (by omega) (hR.fr FR366) (w366_43) ((FR366.i _ _ (by decide)).trans h49) ((FR366.i _ _ (by decide)).trans h48) (congrArg iI p361_0) (li_1) (li_4) (by omega)) fun v Ma382 h382 => ?_
                      obtain ⟨g382, e382_k0, p382_0, p382_1⟩ := h382
                      have f382 : Fr W_rx Mr Ma382 := Fr.t FR366 (Fr.m g382 (by decide))
                      refine rsr (cV_e rfl) ?_
                      refine rsr (jv_e) ?_
                      refine rsr (vC_e (rk_160 (hR.fr f382))) ?_
                      refine rsr (cI_e (a195_59_1 (by omega) hS (hR.fr f382) ((g382.i _ _ (by decide)).trans (w366_36)) ((g382.i _ _ (by decide)).trans (w366_37)) ((g382.i _ _ (by decide)).trans (w366_41)) (li_59) (by omega))) ?_
                      refine rsr (jv_e) ?_
                      exact Rs.ok (Or.inr ⟨1, ((pl i366)), f381, (Fr.sI (by decide) (Fr.sI (by decide) (Fr.m f382 (by decide)))), ⟨i366, sz380, sn380, uc380, e381_k0, e381_k1, e381_k2, e381_k3, e381_sz380, e381_sn380, e381_uc380, by omega⟩, ⟨(e366 + 1), s, u366, mu, ut, (sI_nej (by decide)).trans (sI_eq), sI_eq, (sI_nej (by decide)).trans ((sI_nej (by decide)).trans (e382_k0)), (sI_nej (by decide)).trans ((sI_nej (by decide)).trans ((g382.i _ _ (by decide)).trans (w366_51))), (sI_nej (by decide)).trans ((sI_nej (by decide)).trans ((g382.i _ _ (by decide)).trans (w366_53))), (sI_nej (by decide)).trans ((sI_nej (by decide)).trans ((g382.i _ _ (by decide)).trans ((FR366.i _ _ (by decide)).trans h48))), (sI_nej (by decide)).trans ((sI_nej (by decide)).trans ((g382.i _ _ (by decide)).trans ((FR366.i _ _ (by decide)).trans h49))), by omega⟩⟩)
                    ·
                      refine rsl (cV_e (a64_2 (by omega) hS (hC.fr FL366) (hTk.fr (WL := W_cp) FL366 (by decide)) (q366_12) (q366_13) (q366_10) (li_59) (by omega))) ?_
                      refine rsl (jn_v) ?_
                      refine rsl (if_pos (eqI_p (li_0) (li_0) (by omega))) ?_
                      refine rsl (vC_e (ck_65 (hC.fr FL366).sI.sI.sI)) ?_
                      refine RlV (y106 (by omega) (hC.fr FL366).sI.sI.sI (hTk.fr (WL := W_cp) (Fr.sI (by decide) (Fr.sI (by decide) (Fr.sI (by decide) FL366))) (by decide)) ((sI_nej (by decide)).trans ((sI_nej (by decide)).trans ((sI_nej (by decide)).trans (q366_12)))) (sI_eq) ((sI_nej (by decide)).trans ((sI_nej (by decide)).trans (sI_eq))) ((sI_nej (by decide)).trans (sI_eq)) ((sI_nej (by decide)).trans ((sI_nej (by decide)).trans ((sI_nej (by decide)).trans (q366_9)))) ((sI_nej (by decide)).trans ((sI_nej (by decide)).trans ((sI_nej (by decide)).trans (q366_16)))) ((sI_nej (by decide)).trans ((sI_nej (by decide)).trans ((sI_nej (by decide)).trans (q366_19)))) (congrArg iI p13_0) (li_2) (li_2) (li_4) (by omega)) fun v Ma384 h384 => ?_
                      obtain ⟨sz383, sn383, uc383, g384, e384_sz383, e384_sn383, e384_uc383, e384_k0, e384_k1, e384_k2, e384_k3, p384_0, p384_1, p384_2⟩ := h384
                      have f384 : Fr W_cp Mc Ma384 := Fr.t (Fr.sI (by decide) (Fr.sI (by decide) (Fr.sI (by decide) FL366))) (Fr.m g384 (by decide))
                      refine rsl (cV_e rfl) ?_
                      refine rsl (jv_e) ?_
                      refine rsr (jn_v) ?_
                      refine rsr (if_pos (lsI_p (congrArg iI (if_pos rfl)) (li_0) (by omega))) ?_
                      refine rsr (vC_e (rk_160 (hR.fr FR366))) ?_
                      refine RrV (a202 (by omega) (hR.fr FR366) (w366_43) ((FR366.i _ _ (by decide)).trans h49) ((FR366.i _ _ (by decide)).trans h48) (congrArg iI p361_0) (li_1) (li_4) (by omega)) fun v Ma385 h385 => ?_
                      obtain ⟨g385, e385_k0, p385_0, p385_1⟩ := h385
                      have f385 : Fr W_rx Mr Ma385 := Fr.t FR366 (Fr.m g385 (by decide))
                      refine rsr (cV_e rfl) ?_
                      refine rsr (jv_e) ?_
                      refine rsr (vC_e (rk_160 (hR.fr f385))) ?_
                      refine rsr (cI_e (a195_59_2 (by omega) hS (hR.fr f385) ((g385.i _ _ (by decide)).trans (w366_36)) ((g385.i _ _ (by decide)).trans (w366_37)) ((g385.i _ _ (by decide)).trans (w366_41)) (li_59) (by omega))) ?_
                      refine rsr (jv_e) ?_
                      exact Rs.ok (Or.inr ⟨2, ((pl i366)), f384, (Fr.sI (by decide) (Fr.sI (by decide) (Fr.m f385 (by decide)))), ⟨i366, sz383, sn383, uc383, e384_k0, e384_k1, e384_k2, e384_k3, e384_sz383, e384_sn383, e384_uc383, by omega⟩, ⟨(e366 + 1), s, u366, mu, ut, (sI_nej (by decide)).trans (sI_eq), sI_eq, (sI_nej (by decide)).trans ((sI_nej (by decide)).trans (e385_k0)), (sI_nej (by decide)).trans ((sI_nej (by decide)).trans ((g385.i _ _ (by decide)).trans (w366_51))), (sI_nej (by decide)).trans ((sI_nej (by decide)).trans ((g385.i _ _ (by decide)).trans (w366_53))), (sI_nej (by decide)).trans ((sI_nej (by decide)).trans ((g385.i _ _ (by decide)).trans ((FR366.i _ _ (by decide)).trans h48))), (sI_nej (by decide)).trans ((sI_nej (by decide)).trans ((g385.i _ _ (by decide)).trans ((FR366.i _ _ (by decide)).trans h49))), by omega⟩⟩)
                ·
                  have FL366 : Fr W_cp Mc Mx366 := Fr.t (Fr.sI (by decide) (Fr.sI (by decide) f13)) fl366
                  have FR366 : Fr W_rp Mr Nx366 := Fr.t (Fr.m f365 W_rx_p) fr366
                  obtain ⟨ti366, tz366, tn366, tu366, t13366, t10366, t11366, t12366, t9366, t16366, t19366, tb366⟩ := tc366
                  obtain ⟨re366, rn366, ru366, rm366, rt366, u41366, u42366, u43366, u51366, u53366, u48366, u49366, ub366⟩ := tr366
                  refine rsl (cV_e rfl) ?_
                  refine rsr (cV_e rfl) ?_
                  refine rsl (vC_e (ck_65 (hC.fr FL366))) ?_
                  refine RlV (y64 (by omega) (hC.fr FL366) (hTk.fr (WL := W_cp) FL366 (by decide)) (t12366) (t13366) (t10366) (t11366) (t9366) (t16366) (t19366) (li_59) (by omega)) fun v Ma387 h387 => ?_
                  obtain ⟨sz386, sn386, uc386, g387, e387_sz386, e387_sn386, e387_uc386, e387_k0, e387_k1, e387_k2, e387_k3, p387_0, p387_1, p387_2⟩ := h387
                  have f387 : Fr W_cp Mc Ma387 := Fr.t FL366 (Fr.m g387 (by decide))
                  refine rsl (cV_e rfl) ?_
                  refine rsl (jn_v) ?_
                  refine rsl (if_pos (eqI_p (li_0) (li_0) (by omega))) ?_
                  refine rsl (vC_e (ck_65 (hC.fr f387))) ?_
                  refine RlV (y106 (by omega) (hC.fr f387) (hTk.fr (WL := W_cp) f387 (by decide)) (e387_k3) (e387_k0) (e387_k1) (e387_k2) (e387_sz386) (e387_sn386) (e387_uc386) (congrArg iI p13_0) (li_2) (li_2) (li_4) (by omega)) fun v Ma389 h389 => ?_
                  obtain ⟨sz388, sn388, uc388, g389, e389_sz388, e389_sn388, e389_uc388, e389_k0, e389_k1, e389_k2, e389_k3, p389_0, p389_1, p389_2⟩ := h389
                  have f389 : Fr W_cp Mc Ma389 := Fr.t f387 (Fr.m g389 (by decide))
                  refine rsl (cV_e rfl) ?_
                  refine rsl (jv_e) ?_
                  refine rsr (jn_v) ?_
                  refine rsr (if_pos (lsI_p (congrArg iI (if_pos rfl)) (li_0) (by omega))) ?_
                  refine rsr (vC_e (rk_160 (hR.fr FR366))) ?_
                  refine RrV (x202_s (by omega) (hR.fr FR366) (u41366) (u42366) (u43366) (u51366) (u53366) (u48366) (u49366) (congrArg iI p361_0) (li_1) (li_4) (by omega)) fun v Ma391 h391 => ?_
                  obtain ⟨em390, g391, e391_em390, e391_k0, e391_k1, e391_k2, e391_k3, e391_k4, p391_0⟩ := h391
                  have f391 : Fr W_rp Mr Ma391 := Fr.t FR366 (Fr.m g391 (by decide))
                  refine rsr (cV_e rfl) ?_
                  refine rsr (jv_e) ?_
                  refine rsr (vC_e (rk_160 (hR.fr f391))) ?_
                  refine RrI (x195_s (by omega) (hR.fr f391) (e391_k0) (e391_k1) (e391_em390) (e391_k2) (e391_k3) (e391_k4) ((g391.i _ _ (by decide)).trans (u49366)) (li_59) (by omega)) fun v Ma393 h393 => ?_
                  obtain ⟨rv392, em392, rfl, g393, e393_em392, e393_k0, e393_k1, e393_k2, e393_k3, e393_k4, p393_0, p393_1⟩ := h393
                  have f393 : Fr W_rp Mr Ma393 := Fr.t f391 (Fr.m g393 (by decide))
                  refine rsr (cI_e rfl) ?_
                  refine rsr (jv_e) ?_
                  exact Rs.ok (Or.inr ⟨F366, P366, f389, f393, ⟨ti366, sz388, sn388, uc388, e389_k0, e389_k1, e389_k2, e389_k3, e389_sz388, e389_sn388, e389_uc388, by omega⟩, ⟨em392, rn366, ru366, rm366, rt366, e393_k0, e393_k1, e393_em392, e393_k2, e393_k3, e393_k4, (g393.i _ _ (by decide)).trans ((g391.i _ _ (by decide)).trans (u49366)), by omega⟩⟩)
              ·
                refine RrI (a197 (by omega) (hR.fr f361) ((g361.i _ _ (by decide)).trans (wa_51)) (lra.fr g361 (by decide)) (by omega)) fun v Nl363 hl363 => ?_
                obtain ⟨r9, rfl, hMl, hr9⟩ := hl363
                rw [hMl]
                have q9 := LcF.one hr9 hrl
                rw [q9]
                refine rsr (cI_e rfl) ?_
                refine rsr (jv_e) ?_
                try dsimp only
                refine rsr (gtI_q (w := iI ((kr (kd (i + 3))))) (rk_160 (hR.fr f361)) (e361_k1)) ?_
                refine rsr (jn_v) ?_
                refine rsr (if_neg (krI_n (k := 40) (rfl) (li_40) (hS.ok (i + 3) (by omega) (by omega)) (by unfold KdOK sgk; omega) (by decide +kernel) (by omega) (by omega))) ?_
                refine rsr (gtI_q (w := iI ((kr (kd (i + 3))))) (rk_160 (hR.fr f361)) (e361_k1)) ?_
                refine rsr (if_neg (krI_n (k := 91) (rfl) (li_91) (hS.ok (i + 3) (by omega) (by omega)) (by unfold KdOK sgk; omega) (by decide +kernel) (by omega) (by omega))) ?_
                refine rsr (vC_e (rk_160 (hR.fr f361))) ?_
                refine RrI (a195_61 (by omega) hS (hR.fr f361) (hT.fr (W := W_rx) f361 (by decide) (by decide)) (fun i a b => (Fr.lc (W := W_rx) f361 _ (by decide) _).trans (hW i a b)) (e361_k1) (e361_k2) (e361_k3) (e361_k4) (li_61) (i2 := (i + 4)) (by omega) (by omega)) fun v Ma395 h395 => ?_
                obtain ⟨r394, rfl, g395, e395_k0, e395_k1, e395_k2, p395_0, p395_1⟩ := h395
                have f395 : Fr W_rx Mr Ma395 := Fr.t f361 (Fr.m g395 (by decide))
                refine rsr (cI_e rfl) ?_
                refine rsr (if_neg (eqI_n (congrArg iI p395_0) (li_0) (by omega))) ?_
                refine rsr (jn_v) ?_
                refine rsr (if_neg (lsI_n (congrArg iI (if_neg (by omega))) (li_0) (by omega))) ?_
                refine rsr (gtI_q (w := iI (u + 1)) (rk_160 (hR.fr f395)) ((g395.i _ _ (by decide)).trans (e361_k0))) ?_
                refine rsr (ptI_q (z := u) (rk_160 (hR.fr f395)) (cvI (sbI (rfl) (li_1)) (by omega))) ?_
                refine rsr (jv_e) ?_
                refine rsr (vC_e (rk_160 (hR.fr f395).sI)) ?_
                refine Rb_VV (hE _ _ (by omega) (by omega) T n m kd pl E tx ua ut mu _ _ G U Hl X (i + 4) e s u (uc + 1) _ hS (hCx.fr (Fr.sI (by decide) (Fr.sI (by decide) f13)) (Fr.sI (by decide) f395)) ⟨(sI_nej (by decide)).trans (sI_eq), sI_eq, (sI_nej (by decide)).trans ((sI_nej (by decide)).trans (e13_k3)), (sI_nej (by decide)).trans ((sI_nej (by decide)).trans ((g13.i _ _ (by decide)).trans (qa_9))), (sI_nej (by decide)).trans ((sI_nej (by decide)).trans ((g13.i _ _ (by decide)).trans (qa_16))), (sI_nej (by decide)).trans ((sI_nej (by decide)).trans (e13_k1))⟩ ⟨(sI_nej (by decide)).trans (e395_k0), (sI_nej (by decide)).trans (e395_k1), (sI_nej (by decide)).trans (e395_k2), (sI_nej (by decide)).trans ((g395.i _ _ (by decide)).trans (e361_k4)), (sI_nej (by decide)).trans ((g395.i _ _ (by decide)).trans ((g361.i _ _ (by decide)).trans (wa_43))), (sI_nej (by decide)).trans ((g395.i _ _ (by decide)).trans ((g361.i _ _ (by decide)).trans (wa_51))), sI_eq, (sI_nej (by decide)).trans ((g395.i _ _ (by decide)).trans ((g361.i _ _ (by decide)).trans (wa_50))), (p395_1.fr (W := W_r0) (Fr.sI (by decide) Fr.r) (by decide) (by decide))⟩ ⟨((caa.fr g13 (by decide)).fr (W := W_c0) (Fr.sI (by decide) (Fr.sI (by decide) Fr.r)) (by decide)), (((raa.fr g361 (by decide)).fr g395 (by decide)).fr (W := W_r0) (Fr.sI (by decide) Fr.r) (by decide)), ((lca.fr g13 (by decide)).fr (W := W_c0) (Fr.sI (by decide) (Fr.sI (by decide) Fr.r)) (by decide)), (((lra.fr g361 (by decide)).fr g395 (by decide)).fr (W := W_r0) (Fr.sI (by decide) Fr.r) (by decide)), ((CU.keep cua (by omega) p13_1 rfl).fr (W := W_c0) (Fr.sI (by decide) (Fr.sI (by decide) Fr.r)) (by decide)), (((RU.keep rua p361_1).fr g395 (by decide)).fr (W := W_r0) (Fr.sI (by decide) Fr.r) (by decide))⟩ ⟨by omega, by omega, by omega, by omega, by omega, by omega, by omega, by omega, by omega, by omega, by omega, by omega⟩ (vs2 (li_0) (hv0))) fun v Mx396 w Nx396 hx396 => ?_
                rcases hx396 with ⟨i396, e396, u396, uc396, G396, U396, X396, fl396, fr396, sc396, sr396, rw396, bd396, mv396, ag396, au396, ax396, tp396, dp396, kv396⟩ | ⟨F396, P396, fl396, fr396, tc396, tr396⟩
                ·
                  have FL396 : Fr W_cp Mc Mx396 := Fr.t (Fr.sI (by decide) (Fr.sI (by decide) f13)) fl396
                  have FR396 : Fr W_rx Mr Nx396 := Fr.t (Fr.sI (by decide) f395) fr396
                  obtain ⟨bb396_0, bb396_1, bb396_2, bb396_3, bb396_4, bb396_5, bb396_6, bb396_7, bb396_8, bb396_9, bb396_10, bb396_11⟩ := bd396
                  obtain ⟨q396_12, q396_13, q396_10, q396_9, q396_16, q396_19⟩ := sc396
                  obtain ⟨w396_36, w396_37, w396_38, w396_41, w396_43, w396_51, w396_53, w396_50, w396_n⟩ := sr396
                  obtain ⟨ca396, ra396, lc396, lr396, cu396, ru396⟩ := rw396
                  have hk397 := (hS.ok i396 (by omega) (by omega)).r
                  have ku396 := KU.t ((KU.us kua p13_1 g13 (by decide) (by omega)).fr (W := W_c0) (Fr.sI (by decide) (Fr.sI (by decide) Fr.r)) (by decide)) kv396 (by omega)
                  have ty398 := Tye.t (d3 := 1) ty2 ag396 tp396 (by omega)
                  have du399 := DU.t du3 ag396 au396 ax396 dp396 (by omega)
                  have hne400 : ∀ j, 0 ≤ j → j < u396 → U396 0 j ≠ uc := NeL hlt au396 dp396 (by omega)
                  refine rsl (cV_e rfl) ?_
                  refine rsr (cV_e rfl) ?_
                  refine rsl (vC_e (ck_65 (hC.fr FL396))) ?_
                  by_cases c401 : ((kd i396)) = 59
                  ·
                    have hm402 : i396 + 1 < m := hS.more i396 (by omega) (by omega) (by omega)
                    refine rsl (cV_e (a64q (by omega) hS (hC.fr FL396) (hTk.fr (WL := W_cp) FL396 (by decide)) (q396_12) (q396_13) (q396_10) (li_59) (i2 := (i396 + 1)) (by omega) (by omega))) ?_
                    have hk403 := (hS.ok (i396 + 1) (by omega) (by omega)).r
                    refine rsl (jn_v) ?_
                    refine rsl (if_pos (eqI_p (li_0) (li_0) (by omega))) ?_
                    refine rsl (vC_e (ck_65 (hC.fr FL396).sI.sI)) ?_
                    have tb404 := Tyb.ex (dp := dp) (d := 1) (s' := s) (q := (e396 + 1)) (n1 := rl) (ut := ut) (mu := mu) (l := []) ty398 (Or.inr (Or.inr (Or.inl (by omega))) : Eff 2 rl 0 1 s 0 s) (by omega) ⟨by omega, by omega⟩ (by omega)
                    have du405 := DU.em (q := (e396 + 1)) (o := 2) (n := rl) (p := -2) (l := [0]) du399 (by omega) (by omega)
                    refine RlV (a106_l (by omega) (hC.fr FL396).sI.sI ((sI_nej (by decide)).trans ((sI_nej (by decide)).trans (q396_9))) (congrArg iI p13_0) (li_2) (li_2) (li_4) ((sI_nej (by decide)).trans ((sI_nej (by decide)).trans (q396_16))) (lc396.fr (W := W_c0) (Fr.sI (by decide) (Fr.sI (by decide) Fr.r)) (by decide)) ((K2.ku ((K2.mk p13_1).fr (W := W_c0) (Fr.sI (by decide) (Fr.sI (by decide) Fr.r)) (by decide)) kv396 (by omega)).fr (W := W_c0) (Fr.sI (by decide) (Fr.sI (by decide) Fr.r)) (by decide)).1 ((K2.ku ((K2.mk p13_1).fr (W := W_c0) (Fr.sI (by decide) (Fr.sI (by decide) Fr.r)) (by decide)) kv396 (by omega)).fr (W := W_c0) (Fr.sI (by decide) (Fr.sI (by decide) Fr.r)) (by decide)).2 hrl ⟨by omega, by omega⟩ c362 (by omega)) fun v Ma406 h406 => ?_
                    obtain ⟨g406, e406_k0, p406_0, p406_1⟩ := h406
                    have f406 : Fr W_cp Mc Ma406 := Fr.t (Fr.sI (by decide) (Fr.sI (by decide) FL396)) (Fr.m g406 (by decide))
                    refine rsl (cV_e rfl) ?_
                    refine rsl (jv_e) ?_
                    refine rsr (jn_v) ?_
                    refine rsr (if_neg (lsI_n (congrArg iI (if_neg (by omega))) (li_0) (by omega))) ?_
                    refine rsr (vC_e (rk_160 (hR.fr FR396))) ?_
                    refine RrI (a196q (by omega) (hR.fr FR396) (w396_43) ((FR396.i _ _ (by decide)).trans h49) ((FR396.i _ _ (by decide)).trans h48) (li_2) (congrArg iI (if_neg (by omega))) (q := (e396 + 1)) (by omega) (by omega)) fun v Ma408 h408 => ?_
                    obtain ⟨r407, rfl, g408, e408_k0, p408_0, p408_1⟩ := h408
                    have f408 : Fr W_rx Mr Ma408 := Fr.t FR396 (Fr.m g408 (by decide))
                    refine rsr (cI_e rfl) ?_
                    refine rsr (jv_e) ?_
                    refine rsr (vC_e (rk_160 (hR.fr f408))) ?_
                    refine RrI (a195_59 (by omega) hS (hR.fr f408) (hT.fr (W := W_rx) f408 (by decide) (by decide)) (fun i a b => (Fr.lc (W := W_rx) f408 _ (by decide) _).trans (hW i a b)) ((g408.i _ _ (by decide)).trans (w396_36)) ((g408.i _ _ (by decide)).trans (w396_37)) ((g408.i _ _ (by decide)).trans (w396_38)) ((g408.i _ _ (by decide)).trans (w396_41)) (li_59) (i2 := (i396 + 1)) (by omega) (by omega)) fun v Ma410 h410 => ?_
                    obtain ⟨r409, rfl, g410, e410_k0, e410_k1, e410_k2, p410_0, p410_1⟩ := h410
                    have f410 : Fr W_rx Mr Ma410 := Fr.t f408 (Fr.m g410 (by decide))
                    refine rsr (cI_e rfl) ?_
                    refine rsr (jv_e) ?_
                    exact Rs.ok (Or.inl ⟨(i396 + 1), s, Hl, ⟨(e396 + 1), u396, uc396, (pu G396 e396 [2, rl, -2, rl, ut, mu, 0]), U396, X396, f406, f410, ⟨(g406.i _ _ (by decide)).trans ((sI_nej (by decide)).trans (sI_eq)), (g406.i _ _ (by decide)).trans (sI_eq), (g406.i _ _ (by decide)).trans ((sI_nej (by decide)).trans ((sI_nej (by decide)).trans (q396_10))), e406_k0, (g406.i _ _ (by decide)).trans ((sI_nej (by decide)).trans ((sI_nej (by decide)).trans (q396_16))), (g406.i _ _ (by decide)).trans ((sI_nej (by decide)).trans ((sI_nej (by decide)).trans (q396_19)))⟩, ⟨e410_k0, e410_k1, e410_k2, (g410.i _ _ (by decide)).trans ((g408.i _ _ (by decide)).trans (w396_41)), (g410.i _ _ (by decide)).trans (e408_k0), (g410.i _ _ (by decide)).trans ((g408.i _ _ (by decide)).trans (w396_51)), (g410.i _ _ (by decide)).trans ((g408.i _ _ (by decide)).trans (w396_53)), (g410.i _ _ (by decide)).trans ((g408.i _ _ (by decide)).trans (w396_50)), p410_1⟩, ⟨(CA1.em (ca396.fr (W := W_c0) (Fr.sI (by decide) (Fr.sI (by decide) Fr.r)) (by decide)) (by omega) p406_0 rfl), ((RA1.em (q := (e396 + 1)) ra396 (by omega) p408_1 (by omega)).fr g410 (by decide)), ((lc396.fr (W := W_c0) (Fr.sI (by decide) (Fr.sI (by decide) Fr.r)) (by decide)).fr g406 (by decide)), ((lr396.fr g408 (by decide)).fr g410 (by decide)), (CU.loc3 (cu396.fr (W := W_c0) (Fr.sI (by decide) (Fr.sI (by decide) Fr.r)) (by decide)) hne400 (by omega) p406_1 g406 (by decide)), ((ru396.fr g408 (by decide)).fr g410 (by decide))⟩, ⟨by omega, by omega, by omega, by omega, by omega, by omega, by omega, by omega, by omega, by omega, by omega, by omega⟩, ⟨by omega, by omega, by omega, by omega, by omega, by omega⟩, (Ag.pu (Ag.t Ag.r ag396 (by omega)) (by omega)), (Ag.t Ag.r au396 (by omega)), (AgL.t AgL.r ax396 (by omega)), tb404, du405, ((ku396.fr (W := W_c0) (Fr.sI (by decide) (Fr.sI (by decide) Fr.r)) (by decide)).fr g406 (by decide)), ⟨by omega, fun _ _ _ => rfl⟩⟩⟩)
                  ·
                    by_cases c411 : ((kd i396)) = 1
                    ·
                      refine rsl (cV_e (a64_1 (by omega) hS (hC.fr FL396) (hTk.fr (WL := W_cp) FL396 (by decide)) (q396_12) (q396_13) (q396_10) (li_59) (by omega))) ?_
                      refine rsl (jn_v) ?_
                      refine rsl (if_pos (eqI_p (li_0) (li_0) (by omega))) ?_
                      refine rsl (vC_e (ck_65 (hC.fr FL396).sI.sI.sI)) ?_
                      refine RlV (y106 (by omega) (hC.fr FL396).sI.sI.sI (hTk.fr (WL := W_cp) (Fr.sI (by decide) (Fr.sI (by decide) (Fr.sI (by decide) FL396))) (by decide)) ((sI_nej (by decide)).trans ((sI_nej (by decide)).trans ((sI_nej (by decide)).trans (q396_12)))) (sI_eq) ((sI_nej (by decide)).trans ((sI_nej (by decide)).trans (sI_eq))) ((sI_nej (by decide)).trans (sI_eq)) ((sI_nej (by decide)).trans ((sI_nej (by decide)).trans ((sI_nej (by decide)).trans (q396_9)))) ((sI_nej (by decide)).trans ((sI_nej (by decide)).trans ((sI_nej (by decide)).trans (q396_16)))) ((sI_nej (by decide)).trans ((sI_nej (by decide)).trans ((sI_nej (by decide)).trans (q396_19)))) (congrArg iI p13_0) (li_2) (li_2) (li_4) (by omega)) fun v Ma413 h413 => ?_
                      obtain ⟨sz412, sn412, uc412, g413, e413_sz412, e413_sn412, e413_uc412, e413_k0, e413_k1, e413_k2, e413_k3, p413_0, p413_1, p413_2⟩ := h413
                      have f413 : Fr W_cp Mc Ma413 := Fr.t (Fr.sI (by decide) (Fr.sI (by decide) (Fr.sI (by decide) FL396))) (Fr.m g413 (by decide))
                      refine rsl (cV_e rfl) ?_
                      refine rsl (jv_e) ?_
                      refine rsr (jn_v) ?_
                      refine rsr (if_neg (lsI_n (congrArg iI (if_neg (by omega))) (li_0) (by omega))) ?_
                      refine rsr (vC_e (rk_160 (hR.fr FR396))) ?_
                      refine RrI (a196q (by omega) (hR.fr FR396) (w396_43) ((FR396.i _ _ (by decide)).trans h49) ((FR396.i _ _ (by decide)).trans h48) (li_2) (congrArg iI (if_neg (by omega))) (q := (e396 + 1)) (by omega) (by omega)) fun v Ma415 h415 => ?_
                      obtain ⟨r414, rfl, g415, e415_k0, p415_0, p415_1⟩ := h415
                      have f415 : Fr W_rx Mr Ma415 := Fr.t FR396 (Fr.m g415 (by decide))
                      refine rsr (cI_e rfl) ?_
                      refine rsr (jv_e) ?_
                      refine rsr (vC_e (rk_160 (hR.fr f415))) ?_
                      refine rsr (cI_e (a195_59_1 (by omega) hS (hR.fr f415) ((g415.i _ _ (by decide)).trans (w396_36)) ((g415.i _ _ (by decide)).trans (w396_37)) ((g415.i _ _ (by decide)).trans (w396_41)) (li_59) (by omega))) ?_
                      refine rsr (jv_e) ?_
                      exact Rs.ok (Or.inr ⟨1, ((pl i396)), f413, (Fr.sI (by decide) (Fr.sI (by decide) (Fr.m f415 (by decide)))), ⟨i396, sz412, sn412, uc412, e413_k0, e413_k1, e413_k2, e413_k3, e413_sz412, e413_sn412, e413_uc412, by omega⟩, ⟨(e396 + 1), s, u396, mu, ut, (sI_nej (by decide)).trans (sI_eq), sI_eq, (sI_nej (by decide)).trans ((sI_nej (by decide)).trans (e415_k0)), (sI_nej (by decide)).trans ((sI_nej (by decide)).trans ((g415.i _ _ (by decide)).trans (w396_51))), (sI_nej (by decide)).trans ((sI_nej (by decide)).trans ((g415.i _ _ (by decide)).trans (w396_53))), (sI_nej (by decide)).trans ((sI_nej (by decide)).trans ((g415.i _ _ (by decide)).trans ((FR396.i _ _ (by decide)).trans h48))), (sI_nej (by decide)).trans ((sI_nej (by decide)).trans ((g415.i _ _ (by decide)).trans ((FR396.i _ _ (by decide)).trans h49))), by omega⟩⟩)
                    ·
                      refine rsl (cV_e (a64_2 (by omega) hS (hC.fr FL396) (hTk.fr (WL := W_cp) FL396 (by decide)) (q396_12) (q396_13) (q396_10) (li_59) (by omega))) ?_
                      refine rsl (jn_v) ?_
                      refine rsl (if_pos (eqI_p (li_0) (li_0) (by omega))) ?_
                      refine rsl (vC_e (ck_65 (hC.fr FL396).sI.sI.sI)) ?_
                      refine RlV (y106 (by omega) (hC.fr FL396).sI.sI.sI (hTk.fr (WL := W_cp) (Fr.sI (by decide) (Fr.sI (by decide) (Fr.sI (by decide) FL396))) (by decide)) ((sI_nej (by decide)).trans ((sI_nej (by decide)).trans ((sI_nej (by decide)).trans (q396_12)))) (sI_eq) ((sI_nej (by decide)).trans ((sI_nej (by decide)).trans (sI_eq))) ((sI_nej (by decide)).trans (sI_eq)) ((sI_nej (by decide)).trans ((sI_nej (by decide)).trans ((sI_nej (by decide)).trans (q396_9)))) ((sI_nej (by decide)).trans ((sI_nej (by decide)).trans ((sI_nej (by decide)).trans (q396_16)))) ((sI_nej (by decide)).trans ((sI_nej (by decide)).trans ((sI_nej (by decide)).trans (q396_19)))) (congrArg iI p13_0) (li_2) (li_2) (li_4) (by omega)) fun v Ma417 h417 => ?_
                      obtain ⟨sz416, sn416, uc416, g417, e417_sz416, e417_sn416, e417_uc416, e417_k0, e417_k1, e417_k2, e417_k3, p417_0, p417_1, p417_2⟩ := h417
                      have f417 : Fr W_cp Mc Ma417 := Fr.t (Fr.sI (by decide) (Fr.sI (by decide) (Fr.sI (by decide) FL396))) (Fr.m g417 (by decide))
                      refine rsl (cV_e rfl) ?_
                      refine rsl (jv_e) ?_
                      refine rsr (jn_v) ?_
                      refine rsr (if_neg (lsI_n (congrArg iI (if_neg (by omega))) (li_0) (by omega))) ?_
                      refine rsr (vC_e (rk_160 (hR.fr FR396))) ?_
                      refine RrI (a196q (by omega) (hR.fr FR396) (w396_43) ((FR396.i _ _ (by decide)).trans h49) ((FR396.i _ _ (by decide)).trans h48) (li_2) (congrArg iI (if_neg (by omega))) (q := (e396 + 1)) (by omega) (by omega)) fun v Ma419 h419 => ?_
                      obtain ⟨r418, rfl, g419, e419_k0, p419_0, p419_1⟩ := h419
                      have f419 : Fr W_rx Mr Ma419 := Fr.t FR396 (Fr.m g419 (by decide))
                      refine rsr (cI_e rfl) ?_
                      refine rsr (jv_e) ?_
                      refine rsr (vC_e (rk_160 (hR.fr f419))) ?_
                      refine rsr (cI_e (a195_59_2 (by omega) hS (hR.fr f419) ((g419.i _ _ (by decide)).trans (w396_36)) ((g419.i _ _ (by decide)).trans (w396_37)) ((g419.i _ _ (by decide)).trans (w396_41)) (li_59) (by omega))) ?_
                      refine rsr (jv_e) ?_
                      exact Rs.ok (Or.inr ⟨2, ((pl i396)), f417, (Fr.sI (by decide) (Fr.sI (by decide) (Fr.m f419 (by decide)))), ⟨i396, sz416, sn416, uc416, e417_k0, e417_k1, e417_k2, e417_k3, e417_sz416, e417_sn416, e417_uc416, by omega⟩, ⟨(e396 + 1), s, u396, mu, ut, (sI_nej (by decide)).trans (sI_eq), sI_eq, (sI_nej (by decide)).trans ((sI_nej (by decide)).trans (e419_k0)), (sI_nej (by decide)).trans ((sI_nej (by decide)).trans ((g419.i _ _ (by decide)).trans (w396_51))), (sI_nej (by decide)).trans ((sI_nej (by decide)).trans ((g419.i _ _ (by decide)).trans (w396_53))), (sI_nej (by decide)).trans ((sI_nej (by decide)).trans ((g419.i _ _ (by decide)).trans ((FR396.i _ _ (by decide)).trans h48))), (sI_nej (by decide)).trans ((sI_nej (by decide)).trans ((g419.i _ _ (by decide)).trans ((FR396.i _ _ (by decide)).trans h49))), by omega⟩⟩)
                ·
                  have FL396 : Fr W_cp Mc Mx396 := Fr.t (Fr.sI (by decide) (Fr.sI (by decide) f13)) fl396
                  have FR396 : Fr W_rp Mr Nx396 := Fr.t (Fr.m (Fr.sI (by decide) f395) W_rx_p) fr396
                  obtain ⟨ti396, tz396, tn396, tu396, t13396, t10396, t11396, t12396, t9396, t16396, t19396, tb396⟩ := tc396
                  obtain ⟨re396, rn396, ru396, rm396, rt396, u41396, u42396, u43396, u51396, u53396, u48396, u49396, ub396⟩ := tr396
                  refine rsl (cV_e rfl) ?_
                  refine rsr (cV_e rfl) ?_
                  refine rsl (vC_e (ck_65 (hC.fr FL396))) ?_
                  refine RlV (y64 (by omega) (hC.fr FL396) (hTk.fr (WL := W_cp) FL396 (by decide)) (t12396) (t13396) (t10396) (t11396) (t9396) (t16396) (t19396) (li_59) (by omega)) fun v Ma421 h421 => ?_
                  obtain ⟨sz420, sn420, uc420, g421, e421_sz420, e421_sn420, e421_uc420, e421_k0, e421_k1, e421_k2, e421_k3, p421_0, p421_1, p421_2⟩ := h421
                  have f421 : Fr W_cp Mc Ma421 := Fr.t FL396 (Fr.m g421 (by decide))
                  refine rsl (cV_e rfl) ?_
                  refine rsl (jn_v) ?_
                  refine rsl (if_pos (eqI_p (li_0) (li_0) (by omega))) ?_
                  refine rsl (vC_e (ck_65 (hC.fr f421))) ?_
                  refine RlV (y106 (by omega) (hC.fr f421) (hTk.fr (WL := W_cp) f421 (by decide)) (e421_k3) (e421_k0) (e421_k1) (e421_k2) (e421_sz420) (e421_sn420) (e421_uc420) (congrArg iI p13_0) (li_2) (li_2) (li_4) (by omega)) fun v Ma423 h423 => ?_
                  obtain ⟨sz422, sn422, uc422, g423, e423_sz422, e423_sn422, e423_uc422, e423_k0, e423_k1, e423_k2, e423_k3, p423_0, p423_1, p423_2⟩ := h423
                  have f423 : Fr W_cp Mc Ma423 := Fr.t f421 (Fr.m g423 (by decide))
                  refine rsl (cV_e rfl) ?_
                  refine rsl (jv_e) ?_
                  refine rsr (jn_v) ?_
                  refine rsr (if_neg (lsI_n (congrArg iI (if_neg (by omega))) (li_0) (by omega))) ?_
                  refine rsr (vC_e (rk_160 (hR.fr FR396))) ?_
                  refine RrI (x196_s (by omega) (hR.fr FR396) (u41396) (u42396) (u43396) (u51396) (u53396) (u48396) (u49396) (li_2) (congrArg iI (if_neg (by omega))) (by omega)) fun v Ma425 h425 => ?_
                  obtain ⟨rv424, em424, rfl, g425, e425_em424, e425_k0, e425_k1, e425_k2, e425_k3, e425_k4, p425_0, p425_1⟩ := h425
                  have f425 : Fr W_rp Mr Ma425 := Fr.t FR396 (Fr.m g425 (by decide))
                  refine rsr (cI_e rfl) ?_
                  refine rsr (jv_e) ?_
                  refine rsr (vC_e (rk_160 (hR.fr f425))) ?_
                  refine RrI (x195_s (by omega) (hR.fr f425) (e425_k0) (e425_k1) (e425_em424) (e425_k2) (e425_k3) (e425_k4) ((g425.i _ _ (by decide)).trans (u49396)) (li_59) (by omega)) fun v Ma427 h427 => ?_
                  obtain ⟨rv426, em426, rfl, g427, e427_em426, e427_k0, e427_k1, e427_k2, e427_k3, e427_k4, p427_0, p427_1⟩ := h427
                  have f427 : Fr W_rp Mr Ma427 := Fr.t f425 (Fr.m g427 (by decide))
                  refine rsr (cI_e rfl) ?_
                  refine rsr (jv_e) ?_
                  exact Rs.ok (Or.inr ⟨F396, P396, f423, f427, ⟨ti396, sz422, sn422, uc422, e423_k0, e423_k1, e423_k2, e423_k3, e423_sz422, e423_sn422, e423_uc422, by omega⟩, ⟨em426, rn396, ru396, rm396, rt396, e427_k0, e427_k1, e427_em426, e427_k2, e427_k3, e427_k4, (g427.i _ _ (by decide)).trans ((g425.i _ _ (by decide)).trans (u49396)), by omega⟩⟩)
            ·
              refine rsr (if_neg (lgc_n (rfl) (rfl) c362)) ?_
              refine rsr (jv_e) ?_
              try dsimp only
              refine rsr (gtI_q (w := iI ((kr (kd (i + 3))))) (rk_160 (hR.fr f361)) (e361_k1)) ?_
              refine rsr (jn_v) ?_
              refine rsr (if_neg (krI_n (k := 40) (rfl) (li_40) (hS.ok (i + 3) (by omega) (by omega)) (by unfold KdOK sgk; omega) (by decide +kernel) (by omega) (by omega))) ?_
              refine rsr (gtI_q (w := iI ((kr (kd (i + 3))))) (rk_160 (hR.fr f361)) (e361_k1)) ?_
              refine rsr (if_neg (krI_n (k := 91) (rfl) (li_91) (hS.ok (i + 3) (by omega) (by omega)) (by unfold KdOK sgk; omega) (by decide +kernel) (by omega) (by omega))) ?_
              refine rsr (vC_e (rk_160 (hR.fr f361))) ?_
              refine RrI (a195_61 (by omega) hS (hR.fr f361) (hT.fr (W := W_rx) f361 (by decide) (by decide)) (fun i a b => (Fr.lc (W := W_rx) f361 _ (by decide) _).trans (hW i a b)) (e361_k1) (e361_k2) (e361_k3) (e361_k4) (li_61) (i2 := (i + 4)) (by omega) (by omega)) fun v Ma429 h429 => ?_
              obtain ⟨r428, rfl, g429, e429_k0, e429_k1, e429_k2, p429_0, p429_1⟩ := h429
              have f429 : Fr W_rx Mr Ma429 := Fr.t f361 (Fr.m g429 (by decide))
              refine rsr (cI_e rfl) ?_
              refine rsr (if_neg (eqI_n (congrArg iI p429_0) (li_0) (by omega))) ?_
              refine rsr (jn_v) ?_
              refine rsr (if_pos (lsI_p (li_m1) (li_0) (by omega))) ?_
              refine rsr (jv_e) ?_
              refine rsr (vC_e (rk_160 (hR.fr f429))) ?_
              refine Rb_VV (hE _ _ (by omega) (by omega) T n m kd pl E tx ua ut mu _ _ G (pu U u [uc, (V Mr 201 u.toNat), (V Mr 200 u.toNat), (pl i), (pl (i + 2)), (V Mr 206 u.toNat), ut, 0, (V Mc 79 uc.toNat), (V Mc 80 uc.toNat), (pl i)]) Hl (pux X u [(tx i), (tx (i + 2))]) (i + 4) e s (u + 1) (uc + 1) _ hS (hCx.fr (Fr.sI (by decide) (Fr.sI (by decide) f13)) f429) ⟨(sI_nej (by decide)).trans (sI_eq), sI_eq, (sI_nej (by decide)).trans ((sI_nej (by decide)).trans (e13_k3)), (sI_nej (by decide)).trans ((sI_nej (by decide)).trans ((g13.i _ _ (by decide)).trans (qa_9))), (sI_nej (by decide)).trans ((sI_nej (by decide)).trans ((g13.i _ _ (by decide)).trans (qa_16))), (sI_nej (by decide)).trans ((sI_nej (by decide)).trans (e13_k1))⟩ ⟨e429_k0, e429_k1, e429_k2, (g429.i _ _ (by decide)).trans (e361_k4), (g429.i _ _ (by decide)).trans ((g361.i _ _ (by decide)).trans (wa_43)), (g429.i _ _ (by decide)).trans ((g361.i _ _ (by decide)).trans (wa_51)), (g429.i _ _ (by decide)).trans (e361_k0), (g429.i _ _ (by decide)).trans ((g361.i _ _ (by decide)).trans (wa_50)), p429_1⟩ ⟨((caa.fr g13 (by decide)).fr (W := W_c0) (Fr.sI (by decide) (Fr.sI (by decide) Fr.r)) (by decide)), ((raa.fr g361 (by decide)).fr g429 (by decide)), ((lca.fr g13 (by decide)).fr (W := W_c0) (Fr.sI (by decide) (Fr.sI (by decide) Fr.r)) (by decide)), ((lra.fr g361 (by decide)).fr g429 (by decide)), ((CU.add cua (by omega) (by omega) p13_1 rfl rfl).fr (W := W_c0) (Fr.sI (by decide) (Fr.sI (by decide) Fr.r)) (by decide)), ((RU.add rua (by omega) p361_1 rfl).fr g429 (by decide))⟩ ⟨by omega, by omega, by omega, by omega, by omega, by omega, by omega, by omega, by omega, by omega, by omega, by omega⟩ (vs2 (li_0) (hv0))) fun v Mx430 w Nx430 hx430 => ?_
              rcases hx430 with ⟨i430, e430, u430, uc430, G430, U430, X430, fl430, fr430, sc430, sr430, rw430, bd430, mv430, ag430, au430, ax430, tp430, dp430, kv430⟩ | ⟨F430, P430, fl430, fr430, tc430, tr430⟩
              ·
                have FL430 : Fr W_cp Mc Mx430 := Fr.t (Fr.sI (by decide) (Fr.sI (by decide) f13)) fl430
                have FR430 : Fr W_rx Mr Nx430 := Fr.t f429 fr430
                obtain ⟨bb430_0, bb430_1, bb430_2, bb430_3, bb430_4, bb430_5, bb430_6, bb430_7, bb430_8, bb430_9, bb430_10, bb430_11⟩ := bd430
                obtain ⟨q430_12, q430_13, q430_10, q430_9, q430_16, q430_19⟩ := sc430
                obtain ⟨w430_36, w430_37, w430_38, w430_41, w430_43, w430_51, w430_53, w430_50, w430_n⟩ := sr430
                obtain ⟨ca430, ra430, lc430, lr430, cu430, ru430⟩ := rw430
                have hk431 := (hS.ok i430 (by omega) (by omega)).r
                have ku430 := KU.t ((KU.us kua p13_1 g13 (by decide) (by omega)).fr (W := W_c0) (Fr.sI (by decide) (Fr.sI (by decide) Fr.r)) (by decide)) kv430 (by omega)
                have ty432 := Tye.t (d3 := 1) ty2 ag430 tp430 (by omega)
                have du433 := DU.t (DU.r (ut := ut) (mu := mu) (c := uc) (G := G) (a := e) (u := (u + 1))) ag430 au430 ax430 dp430 (by omega)
                refine rsl (cV_e rfl) ?_
                refine rsr (cV_e rfl) ?_
                refine rsl (vC_e (ck_65 (hC.fr FL430))) ?_
                by_cases c434 : ((kd i430)) = 59
                ·
                  have hm435 : i430 + 1 < m := hS.more i430 (by omega) (by omega) (by omega)
                  refine rsl (cV_e (a64q (by omega) hS (hC.fr FL430) (hTk.fr (WL := W_cp) FL430 (by decide)) (q430_12) (q430_13) (q430_10) (li_59) (i2 := (i430 + 1)) (by omega) (by omega))) ?_
                  have hk436 := (hS.ok (i430 + 1) (by omega) (by omega)).r
                  refine rsl (jn_v) ?_
                  refine rsl (if_pos (eqI_p (li_0) (li_0) (by omega))) ?_
                  refine rsl (vC_e (ck_65 (hC.fr FL430).sI.sI)) ?_
                  have tb437 := Tyb.ex (dp := dp) (d := 1) (s' := s) (q := (e430 + 1)) (n1 := 0) (ut := ut) (mu := mu) (l := []) ty432 (Or.inr (Or.inr (Or.inr (Or.inl (by omega)))) : Eff 4 u 0 1 s 0 s) (by omega) ⟨by omega, by omega⟩ (by omega)
                  have du438 := DU.set (U := U430) (X := X430) (c := uc) (b1 := 1) (p := 2) (q := (e430 + 1)) (u := u) (o := 4) (n1 := 0) (p1 := -2) (n3 := u) (l := []) (g := 0) du433 (by omega) (by omega) (by omega) (by omega) (fun q => absurd q (by decide)) (Int.le_of_eq (Eq.symm ((au430 0 _ (by omega)).trans (pu_e rfl)))) ((au430 6 _ (by omega)).trans (pu_e (by omega))) (U3tr (ax430 0 _ (by omega)) (au430 3 _ (by omega)) (au430 10 _ (by omega)) (Or.inr (pu_310 (by omega) rfl))) (by omega) (by omega)
                  refine RlV (a106_q (by omega) (hC.fr FL430).sI.sI ((sI_nej (by decide)).trans ((sI_nej (by decide)).trans (q430_9))) (congrArg iI p13_0) (li_2) (li_2) (li_4) ((sI_nej (by decide)).trans ((sI_nej (by decide)).trans (q430_16))) (lc430.fr (W := W_c0) (Fr.sI (by decide) (Fr.sI (by decide) Fr.r)) (by decide)) ((K2.ku ((K2.mk p13_1).fr (W := W_c0) (Fr.sI (by decide) (Fr.sI (by decide) Fr.r)) (by decide)) kv430 (by omega)).fr (W := W_c0) (Fr.sI (by decide) (Fr.sI (by decide) Fr.r)) (by decide)).1 ((K2.ku ((K2.mk p13_1).fr (W := W_c0) (Fr.sI (by decide) (Fr.sI (by decide) Fr.r)) (by decide)) kv430 (by omega)).fr (W := W_c0) (Fr.sI (by decide) (Fr.sI (by decide) Fr.r)) (by decide)).2 c362 (by omega)) fun v Ma439 h439 => ?_
                  obtain ⟨g439, e439_k0, p439_0, p439_1⟩ := h439
                  have f439 : Fr W_cp Mc Ma439 := Fr.t (Fr.sI (by decide) (Fr.sI (by decide) FL430)) (Fr.m g439 (by decide))
                  refine rsl (cV_e rfl) ?_
                  refine rsl (jv_e) ?_
                  refine rsr (jn_v) ?_
                  refine rsr (if_pos (lsI_p (li_m1) (li_0) (by omega))) ?_
                  refine rsr (vC_e (rk_160 (hR.fr FR430))) ?_
                  refine RrV (a202 (by omega) (hR.fr FR430) (w430_43) ((FR430.i _ _ (by decide)).trans h49) ((FR430.i _ _ (by decide)).trans h48) (congrArg iI p361_0) (li_1) (li_4) (by omega)) fun v Ma440 h440 => ?_
                  obtain ⟨g440, e440_k0, p440_0, p440_1⟩ := h440
                  have f440 : Fr W_rx Mr Ma440 := Fr.t FR430 (Fr.m g440 (by decide))
                  refine rsr (cV_e rfl) ?_
                  refine rsr (jv_e) ?_
                  refine rsr (vC_e (rk_160 (hR.fr f440))) ?_
                  refine RrI (a195_59 (by omega) hS (hR.fr f440) (hT.fr (W := W_rx) f440 (by decide) (by decide)) (fun i a b => (Fr.lc (W := W_rx) f440 _ (by decide) _).trans (hW i a b)) ((g440.i _ _ (by decide)).trans (w430_36)) ((g440.i _ _ (by decide)).trans (w430_37)) ((g440.i _ _ (by decide)).trans (w430_38)) ((g440.i _ _ (by decide)).trans (w430_41)) (li_59) (i2 := (i430 + 1)) (by omega) (by omega)) fun v Ma442 h442 => ?_
                  obtain ⟨r441, rfl, g442, e442_k0, e442_k1, e442_k2, p442_0, p442_1⟩ := h442
                  have f442 : Fr W_rx Mr Ma442 := Fr.t f440 (Fr.m g442 (by decide))
                  refine rsr (cI_e rfl) ?_
                  refine rsr (jv_e) ?_
                  exact Rs.ok (Or.inl ⟨(i430 + 1), s, Hl, ⟨(e430 + 1), u430, uc430, (pu G430 e430 [4, 0, -2, u, ut, mu, 0]), (ps U430 u 1 2 e430), X430, f439, f442, ⟨(g439.i _ _ (by decide)).trans ((sI_nej (by decide)).trans (sI_eq)), (g439.i _ _ (by decide)).trans (sI_eq), (g439.i _ _ (by decide)).trans ((sI_nej (by decide)).trans ((sI_nej (by decide)).trans (q430_10))), e439_k0, (g439.i _ _ (by decide)).trans ((sI_nej (by decide)).trans ((sI_nej (by decide)).trans (q430_16))), (g439.i _ _ (by decide)).trans ((sI_nej (by decide)).trans ((sI_nej (by decide)).trans (q430_19)))⟩, ⟨e442_k0, e442_k1, e442_k2, (g442.i _ _ (by decide)).trans ((g440.i _ _ (by decide)).trans (w430_41)), (g442.i _ _ (by decide)).trans (e440_k0), (g442.i _ _ (by decide)).trans ((g440.i _ _ (by decide)).trans (w430_51)), (g442.i _ _ (by decide)).trans ((g440.i _ _ (by decide)).trans (w430_53)), (g442.i _ _ (by decide)).trans ((g440.i _ _ (by decide)).trans (w430_50)), p442_1⟩, ⟨(CA1.em (ca430.fr (W := W_c0) (Fr.sI (by decide) (Fr.sI (by decide) Fr.r)) (by decide)) (by omega) p439_0 rfl), ((RA1.em ra430 (by omega) p440_0 rfl).fr g442 (by decide)), ((lc430.fr (W := W_c0) (Fr.sI (by decide) (Fr.sI (by decide) Fr.r)) (by decide)).fr g439 (by decide)), ((lr430.fr g440 (by decide)).fr g442 (by decide)), (CU.set (b := 1) (cu430.fr (W := W_c0) (Fr.sI (by decide) (Fr.sI (by decide) Fr.r)) (by decide)) ⟨by omega, by omega⟩ ((au430 0 _ (by omega)).trans (pu_e rfl)) p439_1 g439 (by decide)), ((RU.set ru430 ⟨by omega, by omega⟩ p440_1 g440 (by decide)).fr g442 (by decide))⟩, ⟨by omega, by omega, by omega, by omega, by omega, by omega, by omega, by omega, by omega, by omega, by omega, by omega⟩, ⟨by omega, by omega, by omega, by omega, by omega, by omega⟩, (Ag.pu (Ag.t Ag.r ag430 (by omega)) (by omega)), (Ag.ps (Ag.t (Ag.pu Ag.r (by omega)) au430 (by omega)) (by omega)), (AgL.t (AgL.pu AgL.r (by omega)) ax430 (by omega)), tb437, du438, ((ku430.fr (W := W_c0) (Fr.sI (by decide) (Fr.sI (by decide) Fr.r)) (by decide)).fr g439 (by decide)), ⟨by omega, fun _ _ _ => rfl⟩⟩⟩)
                ·
                  by_cases c443 : ((kd i430)) = 1
                  ·
                    refine rsl (cV_e (a64_1 (by omega) hS (hC.fr FL430) (hTk.fr (WL := W_cp) FL430 (by decide)) (q430_12) (q430_13) (q430_10) (li_59) (by omega))) ?_
                    refine rsl (jn_v) ?_
                    refine rsl (if_pos (eqI_p (li_0) (li_0) (by omega))) ?_
                    refine rsl (vC_e (ck_65 (hC.fr FL430).sI.sI.sI)) ?_
                    refine RlV (y106 (by omega) (hC.fr FL430).sI.sI.sI (hTk.fr (WL := W_cp) (Fr.sI (by decide) (Fr.sI (by decide) (Fr.sI (by decide) FL430))) (by decide)) ((sI_nej (by decide)).trans ((sI_nej (by decide)).trans ((sI_nej (by decide)).trans (q430_12)))) (sI_eq) ((sI_nej (by decide)).trans ((sI_nej (by decide)).trans (sI_eq))) ((sI_nej (by decide)).trans (sI_eq)) ((sI_nej (by decide)).trans ((sI_nej (by decide)).trans ((sI_nej (by decide)).trans (q430_9)))) ((sI_nej (by decide)).trans ((sI_nej (by decide)).trans ((sI_nej (by decide)).trans (q430_16)))) ((sI_nej (by decide)).trans ((sI_nej (by decide)).trans ((sI_nej (by decide)).trans (q430_19)))) (congrArg iI p13_0) (li_2) (li_2) (li_4) (by omega)) fun v Ma445 h445 => ?_
                    obtain ⟨sz444, sn444, uc444, g445, e445_sz444, e445_sn444, e445_uc444, e445_k0, e445_k1, e445_k2, e445_k3, p445_0, p445_1, p445_2⟩ := h445
                    have f445 : Fr W_cp Mc Ma445 := Fr.t (Fr.sI (by decide) (Fr.sI (by decide) (Fr.sI (by decide) FL430))) (Fr.m g445 (by decide))
                    refine rsl (cV_e rfl) ?_
                    refine rsl (jv_e) ?_
                    refine rsr (jn_v) ?_
                    refine rsr (if_pos (lsI_p (li_m1) (li_0) (by omega))) ?_
                    refine rsr (vC_e (rk_160 (hR.fr FR430))) ?_
                    refine RrV (a202 (by omega) (hR.fr FR430) (w430_43) ((FR430.i _ _ (by decide)).trans h49) ((FR430.i _ _ (by decide)).trans h48) (congrArg iI p361_0) (li_1) (li_4) (by omega)) fun v Ma446 h446 => ?_
                    obtain ⟨g446, e446_k0, p446_0, p446_1⟩ := h446
                    have f446 : Fr W_rx Mr Ma446 := Fr.t FR430 (Fr.m g446 (by decide))
                    refine rsr (cV_e rfl) ?_
                    refine rsr (jv_e) ?_
                    refine rsr (vC_e (rk_160 (hR.fr f446))) ?_
                    refine rsr (cI_e (a195_59_1 (by omega) hS (hR.fr f446) ((g446.i _ _ (by decide)).trans (w430_36)) ((g446.i _ _ (by decide)).trans (w430_37)) ((g446.i _ _ (by decide)).trans (w430_41)) (li_59) (by omega))) ?_
                    refine rsr (jv_e) ?_
                    exact Rs.ok (Or.inr ⟨1, ((pl i430)), f445, (Fr.sI (by decide) (Fr.sI (by decide) (Fr.m f446 (by decide)))), ⟨i430, sz444, sn444, uc444, e445_k0, e445_k1, e445_k2, e445_k3, e445_sz444, e445_sn444, e445_uc444, by omega⟩, ⟨(e430 + 1), s, u430, mu, ut, (sI_nej (by decide)).trans (sI_eq), sI_eq, (sI_nej (by decide)).trans ((sI_nej (by decide)).trans (e446_k0)), (sI_nej (by decide)).trans ((sI_nej (by decide)).trans ((g446.i _ _ (by decide)).trans (w430_51))), (sI_nej (by decide)).trans ((sI_nej (by decide)).trans ((g446.i _ _ (by decide)).trans (w430_53))), (sI_nej (by decide)).trans ((sI_nej (by decide)).trans ((g446.i _ _ (by decide)).trans ((FR430.i _ _ (by decide)).trans h48))), (sI_nej (by decide)).trans ((sI_nej (by decide)).trans ((g446.i _ _ (by decide)).trans ((FR430.i _ _ (by decide)).trans h49))), by omega⟩⟩)
                  ·
                    refine rsl (cV_e (a64_2 (by omega) hS (hC.fr FL430) (hTk.fr (WL := W_cp) FL430 (by decide)) (q430_12) (q430_13) (q430_10) (li_59) (by omega))) ?_
                    refine rsl (jn_v) ?_
                    refine rsl (if_pos (eqI_p (li_0) (li_0) (by omega))) ?_
                    refine rsl (vC_e (ck_65 (hC.fr FL430).sI.sI.sI)) ?_
                    refine RlV (y106 (by omega) (hC.fr FL430).sI.sI.sI (hTk.fr (WL := W_cp) (Fr.sI (by decide) (Fr.sI (by decide) (Fr.sI (by decide) FL430))) (by decide)) ((sI_nej (by decide)).trans ((sI_nej (by decide)).trans ((sI_nej (by decide)).trans (q430_12)))) (sI_eq) ((sI_nej (by decide)).trans ((sI_nej (by decide)).trans (sI_eq))) ((sI_nej (by decide)).trans (sI_eq)) ((sI_nej (by decide)).trans ((sI_nej (by decide)).trans ((sI_nej (by decide)).trans (q430_9)))) ((sI_nej (by decide)).trans ((sI_nej (by decide)).trans ((sI_nej (by decide)).trans (q430_16)))) ((sI_nej (by decide)).trans ((sI_nej (by decide)).trans ((sI_nej (by decide)).trans (q430_19)))) (congrArg iI p13_0) (li_2) (li_2) (li_4) (by omega)) fun v Ma448 h448 => ?_
                    obtain ⟨sz447, sn447, uc447, g448, e448_sz447, e448_sn447, e448_uc447, e448_k0, e448_k1, e448_k2, e448_k3, p448_0, p448_1, p448_2⟩ := h448
                    have f448 : Fr W_cp Mc Ma448 := Fr.t (Fr.sI (by decide) (Fr.sI (by decide) (Fr.sI (by decide) FL430))) (Fr.m g448 (by decide))
                    refine rsl (cV_e rfl) ?_
                    refine rsl (jv_e) ?_
                    refine rsr (jn_v) ?_
                    refine rsr (if_pos (lsI_p (li_m1) (li_0) (by omega))) ?_
                    refine rsr (vC_e (rk_160 (hR.fr FR430))) ?_
                    refine RrV (a202 (by omega) (hR.fr FR430) (w430_43) ((FR430.i _ _ (by decide)).trans h49) ((FR430.i _ _ (by decide)).trans h48) (congrArg iI p361_0) (li_1) (li_4) (by omega)) fun v Ma449 h449 => ?_
                    obtain ⟨g449, e449_k0, p449_0, p449_1⟩ := h449
                    have f449 : Fr W_rx Mr Ma449 := Fr.t FR430 (Fr.m g449 (by decide))
                    refine rsr (cV_e rfl) ?_
                    refine rsr (jv_e) ?_
                    refine rsr (vC_e (rk_160 (hR.fr f449))) ?_
                    refine rsr (cI_e (a195_59_2 (by omega) hS (hR.fr f449) ((g449.i _ _ (by decide)).trans (w430_36)) ((g449.i _ _ (by decide)).trans (w430_37)) ((g449.i _ _ (by decide)).trans (w430_41)) (li_59) (by omega))) ?_
                    refine rsr (jv_e) ?_
                    exact Rs.ok (Or.inr ⟨2, ((pl i430)), f448, (Fr.sI (by decide) (Fr.sI (by decide) (Fr.m f449 (by decide)))), ⟨i430, sz447, sn447, uc447, e448_k0, e448_k1, e448_k2, e448_k3, e448_sz447, e448_sn447, e448_uc447, by omega⟩, ⟨(e430 + 1), s, u430, mu, ut, (sI_nej (by decide)).trans (sI_eq), sI_eq, (sI_nej (by decide)).trans ((sI_nej (by decide)).trans (e449_k0)), (sI_nej (by decide)).trans ((sI_nej (by decide)).trans ((g449.i _ _ (by decide)).trans (w430_51))), (sI_nej (by decide)).trans ((sI_nej (by decide)).trans ((g449.i _ _ (by decide)).trans (w430_53))), (sI_nej (by decide)).trans ((sI_nej (by decide)).trans ((g449.i _ _ (by decide)).trans ((FR430.i _ _ (by decide)).trans h48))), (sI_nej (by decide)).trans ((sI_nej (by decide)).trans ((g449.i _ _ (by decide)).trans ((FR430.i _ _ (by decide)).trans h49))), by omega⟩⟩)
              ·
                have FL430 : Fr W_cp Mc Mx430 := Fr.t (Fr.sI (by decide) (Fr.sI (by decide) f13)) fl430
                have FR430 : Fr W_rp Mr Nx430 := Fr.t (Fr.m f429 W_rx_p) fr430
                obtain ⟨ti430, tz430, tn430, tu430, t13430, t10430, t11430, t12430, t9430, t16430, t19430, tb430⟩ := tc430
                obtain ⟨re430, rn430, ru430, rm430, rt430, u41430, u42430, u43430, u51430, u53430, u48430, u49430, ub430⟩ := tr430
                refine rsl (cV_e rfl) ?_
                refine rsr (cV_e rfl) ?_
                refine rsl (vC_e (ck_65 (hC.fr FL430))) ?_
                refine RlV (y64 (by omega) (hC.fr FL430) (hTk.fr (WL := W_cp) FL430 (by decide)) (t12430) (t13430) (t10430) (t11430) (t9430) (t16430) (t19430) (li_59) (by omega)) fun v Ma451 h451 => ?_
                obtain ⟨sz450, sn450, uc450, g451, e451_sz450, e451_sn450, e451_uc450, e451_k0, e451_k1, e451_k2, e451_k3, p451_0, p451_1, p451_2⟩ := h451
                have f451 : Fr W_cp Mc Ma451 := Fr.t FL430 (Fr.m g451 (by decide))
                refine rsl (cV_e rfl) ?_
                refine rsl (jn_v) ?_
                refine rsl (if_pos (eqI_p (li_0) (li_0) (by omega))) ?_
                refine rsl (vC_e (ck_65 (hC.fr f451))) ?_
                refine RlV (y106 (by omega) (hC.fr f451) (hTk.fr (WL := W_cp) f451 (by decide)) (e451_k3) (e451_k0) (e451_k1) (e451_k2) (e451_sz450) (e451_sn450) (e451_uc450) (congrArg iI p13_0) (li_2) (li_2) (li_4) (by omega)) fun v Ma453 h453 => ?_
                obtain ⟨sz452, sn452, uc452, g453, e453_sz452, e453_sn452, e453_uc452, e453_k0, e453_k1, e453_k2, e453_k3, p453_0, p453_1, p453_2⟩ := h453
                have f453 : Fr W_cp Mc Ma453 := Fr.t f451 (Fr.m g453 (by decide))
                refine rsl (cV_e rfl) ?_
                refine rsl (jv_e) ?_
                refine rsr (jn_v) ?_
                refine rsr (if_pos (lsI_p (li_m1) (li_0) (by omega))) ?_
                refine rsr (vC_e (rk_160 (hR.fr FR430))) ?_
                refine RrV (x202_s (by omega) (hR.fr FR430) (u41430) (u42430) (u43430) (u51430) (u53430) (u48430) (u49430) (congrArg iI p361_0) (li_1) (li_4) (by omega)) fun v Ma455 h455 => ?_
                obtain ⟨em454, g455, e455_em454, e455_k0, e455_k1, e455_k2, e455_k3, e455_k4, p455_0⟩ := h455
                have f455 : Fr W_rp Mr Ma455 := Fr.t FR430 (Fr.m g455 (by decide))
                refine rsr (cV_e rfl) ?_
                refine rsr (jv_e) ?_
                refine rsr (vC_e (rk_160 (hR.fr f455))) ?_
                refine RrI (x195_s (by omega) (hR.fr f455) (e455_k0) (e455_k1) (e455_em454) (e455_k2) (e455_k3) (e455_k4) ((g455.i _ _ (by decide)).trans (u49430)) (li_59) (by omega)) fun v Ma457 h457 => ?_
                obtain ⟨rv456, em456, rfl, g457, e457_em456, e457_k0, e457_k1, e457_k2, e457_k3, e457_k4, p457_0, p457_1⟩ := h457
                have f457 : Fr W_rp Mr Ma457 := Fr.t f455 (Fr.m g457 (by decide))
                refine rsr (cI_e rfl) ?_
                refine rsr (jv_e) ?_
                exact Rs.ok (Or.inr ⟨F430, P430, f453, f457, ⟨ti430, sz452, sn452, uc452, e453_k0, e453_k1, e453_k2, e453_k3, e453_sz452, e453_sn452, e453_uc452, by omega⟩, ⟨em456, rn430, ru430, rm430, rt430, e457_k0, e457_k1, e457_em456, e457_k2, e457_k3, e457_k4, (g457.i _ _ (by decide)).trans ((g455.i _ _ (by decide)).trans (u49430)), by omega⟩⟩)
          ·
            by_cases c458 : ((kd (i + 3))) = 1
            ·
              refine rsl (cV_e (a64_1 (by omega) hS (hC.fr f13) (hTk.fr (WL := W_cp) f13 (by decide)) (e13_k0) (e13_k2) (e13_k3) (li_61) (by omega))) ?_
              refine rsl (vC_e (ck_65 (hC.fr f13).sI.sI.sI)) ?_
              refine RlV (y99_0 (by omega) (hC.fr f13).sI.sI.sI (hTk.fr (WL := W_cp) (Fr.sI (by decide) (Fr.sI (by decide) (Fr.sI (by decide) f13))) (by decide)) ((sI_nej (by decide)).trans ((sI_nej (by decide)).trans ((sI_nej (by decide)).trans (e13_k0)))) (sI_eq) ((sI_nej (by decide)).trans ((sI_nej (by decide)).trans (sI_eq))) ((sI_nej (by decide)).trans (sI_eq)) ((sI_nej (by decide)).trans ((sI_nej (by decide)).trans ((sI_nej (by decide)).trans ((g13.i _ _ (by decide)).trans (qa_9))))) ((sI_nej (by decide)).trans ((sI_nej (by decide)).trans ((sI_nej (by decide)).trans ((g13.i _ _ (by decide)).trans (qa_16))))) ((sI_nej (by decide)).trans ((sI_nej (by decide)).trans ((sI_nej (by decide)).trans (e13_k1)))) (li_0) (hv0) (by omega)) fun v Ma460 h460 => ?_
              obtain ⟨sz459, sn459, uc459, g460, e460_sz459, e460_sn459, e460_uc459, e460_k0, e460_k1, e460_k2, e460_k3, p460_0, p460_1, p460_2⟩ := h460
              have f460 : Fr W_cp Mc Ma460 := Fr.t (Fr.sI (by decide) (Fr.sI (by decide) (Fr.sI (by decide) f13))) (Fr.m g460 (by decide))
              refine rsl (cV_e rfl) ?_
              refine rsl (vC_e (ck_65 (hC.fr f460))) ?_
              refine RlV (y64 (by omega) (hC.fr f460) (hTk.fr (WL := W_cp) f460 (by decide)) (e460_k3) (e460_k0) (e460_k1) (e460_k2) (e460_sz459) (e460_sn459) (e460_uc459) (li_59) (by omega)) fun v Ma462 h462 => ?_
              obtain ⟨sz461, sn461, uc461, g462, e462_sz461, e462_sn461, e462_uc461, e462_k0, e462_k1, e462_k2, e462_k3, p462_0, p462_1, p462_2⟩ := h462
              have f462 : Fr W_cp Mc Ma462 := Fr.t f460 (Fr.m g462 (by decide))
              refine rsl (cV_e rfl) ?_
              refine rsl (jn_v) ?_
              refine rsl (if_pos (eqI_p (li_0) (li_0) (by omega))) ?_
              refine rsl (vC_e (ck_65 (hC.fr f462))) ?_
              refine RlV (y106 (by omega) (hC.fr f462) (hTk.fr (WL := W_cp) f462 (by decide)) (e462_k3) (e462_k0) (e462_k1) (e462_k2) (e462_sz461) (e462_sn461) (e462_uc461) (congrArg iI p13_0) (li_2) (li_2) (li_4) (by omega)) fun v Ma464 h464 => ?_
              obtain ⟨sz463, sn463, uc463, g464, e464_sz463, e464_sn463, e464_uc463, e464_k0, e464_k1, e464_k2, e464_k3, p464_0, p464_1, p464_2⟩ := h464
              have f464 : Fr W_cp Mc Ma464 := Fr.t f462 (Fr.m g464 (by decide))
              refine rsl (cV_e rfl) ?_
              refine rsl (jv_e) ?_
              refine rsr (gtI_q (w := iI ((kr (kd i)))) (rk_160 hR) (wa_36)) ?_
              refine rsr (jn_v) ?_
              refine rsr (swI_c) ?_
              refine rsr (if_neg (krI_n (k := 215) (rfl) (li_416) (hS.ok i (by omega) (by omega)) (by unfold KdOK sgk; omega) (by decide +kernel) (by omega) (by omega))) ?_
              refine rsr (swI_c) ?_
              refine rsr (if_neg (krI_n (k := 216) (rfl) (li_417) (hS.ok i (by omega) (by omega)) (by unfold KdOK sgk; omega) (by decide +kernel) (by omega) (by omega))) ?_
              refine rsr (swI_c) ?_
              refine rsr (if_neg (krI_n (k := 217) (rfl) (li_418) (hS.ok i (by omega) (by omega)) (by unfold KdOK sgk; omega) (by decide +kernel) (by omega) (by omega))) ?_
              refine rsr (swI_c) ?_
              refine rsr (if_neg (krI_n (k := 218) (rfl) (li_419) (hS.ok i (by omega) (by omega)) (by unfold KdOK sgk; omega) (by decide +kernel) (by omega) (by omega))) ?_
              refine rsr (swI_c) ?_
              refine rsr (if_neg (krI_n (k := 219) (rfl) (li_420) (hS.ok i (by omega) (by omega)) (by unfold KdOK sgk; omega) (by decide +kernel) (by omega) (by omega))) ?_
              refine rsr (swI_c) ?_
              refine rsr (if_neg (krI_n (k := 220) (rfl) (li_421) (hS.ok i (by omega) (by omega)) (by unfold KdOK sgk; omega) (by decide +kernel) (by omega) (by omega))) ?_
              refine rsr (swI_c) ?_
              refine rsr (if_neg (krI_n (k := 221) (rfl) (li_422) (hS.ok i (by omega) (by omega)) (by unfold KdOK sgk; omega) (by decide +kernel) (by omega) (by omega))) ?_
              refine rsr (swI_c) ?_
              refine rsr (if_neg (krI_n (k := 222) (rfl) (li_423) (hS.ok i (by omega) (by omega)) (by unfold KdOK sgk; omega) (by decide +kernel) (by omega) (by omega))) ?_
              refine rsr (swI_n) ?_
              refine rsr (gtI_q (w := iI ((kr (kd i)))) (rk_160 hR) (wa_36)) ?_
              refine rsr (jn_v) ?_
              refine rsr (if_pos (krI_p (k := 3) (rfl) (li_1) (by omega) (by decide +kernel))) ?_
              refine rsr (jv_e) ?_
              refine rsr (vC_e (rk_160 hR)) ?_
              refine rsr (cI_e (ar193_p (by omega) hS hR (wa_36) (wa_37) (wa_41) (li_1) (by omega))) ?_
              refine rsr (if_neg (eqI_n (rfl) (li_0) (by omega))) ?_
              refine rsr (vC_e (rk_160 hR)) ?_
              refine Rs_cVr ?_ (fun v M w N h => rs1 jv_e (Rt.ok h))
              obtain ⟨d2, rfl⟩ : ∃ e, d2 = e + 1 := ⟨d2 - 1, by omega⟩
              rw [r217]; unfold b217; rw [aR_e, aZ_e]; unfold c217
              refine rsr (vC_e (rk_160 hR)) ?_
              refine RrI (a201_d (by omega) hS hR (hT.fr (W := W_rx) Fr.r (by decide) (by decide)) (fun i a b => (Fr.lc (W := W_rx) Fr.r _ (by decide) _).trans (hW i a b)) (wa_36) (wa_37) (wa_38) (wa_41) (h49) (wa_53) wa_n (by omega)) fun v Ma466 h466 => ?_
              obtain ⟨r465, rfl, g466, e466_k0, e466_k1, e466_k2, e466_k3, e466_k4, p466_0, p466_1, p466_2⟩ := h466
              have f466 : Fr W_rx Mr Ma466 := Fr.t Fr.r (Fr.m g466 (by decide))
              refine rsr (cI_e rfl) ?_
              refine rsr (gtI_q (w := iI 0) (rk_160 (hR.fr f466)) (e466_k4)) ?_
              refine rsr (if_pos (eqI_p (rfl) (li_0) (by omega))) ?_
              refine rsr (gtP_q (w := some 202) (rk_160 (hR.fr f466)) (rf_56 (hR.fr f466))) ?_
              refine rsr (alL_q (n := 2000) (z := u) (w := (tx i)) (rk_202 (hR.fr f466)) (congrArg iI p466_0) (by omega) (p466_1.2.2.2.1)) ?_
              refine rsr (jn_v) ?_
              by_cases c467 : (tx i) = (0 : Int64)
              ·
                refine rsr (if_pos (lgc_p (rfl) (rfl) c467)) ?_
                refine rsr (gtP_q (w := some 204) (rk_160 (hR.fr f466)) (rf_58 (hR.fr f466))) ?_
                refine rsr (alL_q (n := 2000) (z := u) (w := (tx (i + 2))) (rk_204 (hR.fr f466)) (congrArg iI p466_0) (by omega) (p466_1.2.2.2.2.2.1)) ?_
                refine rsr (vC_e (rk_160 (hR.fr f466))) ?_
                obtain ⟨rl, hrl⟩ : ∃ r, LcF Hl s (tx (i + 2)) r := by have q := LcF_ex (Hl := Hl) (y := (tx (i + 2))) s.toNat; rw [show ((s.toNat : Nat) : Int) = s by omega] at q; exact q
                have brl := hrl.bd
                by_cases crl : rl = -1
                ·
                  subst crl
                  refine RrI (a197 (by omega) (hR.fr f466) ((g466.i _ _ (by decide)).trans (wa_51)) (lra.fr g466 (by decide)) (by omega)) fun v Nl468 hl468 => ?_
                  obtain ⟨r9, rfl, hMl, hr9⟩ := hl468
                  rw [hMl]
                  have q9 := LcF.one hr9 hrl
                  rw [q9]
                  refine rsr (cI_e rfl) ?_
                  refine rsr (jv_e) ?_
                  try dsimp only
                  refine rsr (gtI_q (w := iI ((kr (kd (i + 3))))) (rk_160 (hR.fr f466)) (e466_k1)) ?_
                  refine rsr (jn_v) ?_
                  refine rsr (if_neg (krI_n (k := 40) (rfl) (li_40) (hS.ok (i + 3) (by omega) (by omega)) (by unfold KdOK sgk; omega) (by decide +kernel) (by omega) (by omega))) ?_
                  refine rsr (gtI_q (w := iI ((kr (kd (i + 3))))) (rk_160 (hR.fr f466)) (e466_k1)) ?_
                  refine rsr (if_neg (krI_n (k := 91) (rfl) (li_91) (hS.ok (i + 3) (by omega) (by omega)) (by unfold KdOK sgk; omega) (by decide +kernel) (by omega) (by omega))) ?_
                  refine rsr (vC_e (rk_160 (hR.fr f466))) ?_
                  refine rsr (cI_e (a195_61_1 (by omega) hS (hR.fr f466) (e466_k1) (e466_k2) (e466_k4) (li_61) (by omega))) ?_
                  refine rsr (if_pos (eqI_p (rfl) (li_0) (by omega))) ?_
                  refine rsr (jv_e) ?_
                  exact Rs.ok (Or.inr ⟨1, ((pl (i + 3))), f464, (Fr.sI (by decide) (Fr.sI (by decide) (Fr.m f466 (by decide)))), ⟨(i + 3), sz463, sn463, uc463, e464_k0, e464_k1, e464_k2, e464_k3, e464_sz463, e464_sn463, e464_uc463, by omega⟩, ⟨e, s, (u + 1), mu, ut, (sI_nej (by decide)).trans (sI_eq), sI_eq, (sI_nej (by decide)).trans ((sI_nej (by decide)).trans ((g466.i _ _ (by decide)).trans (wa_43))), (sI_nej (by decide)).trans ((sI_nej (by decide)).trans ((g466.i _ _ (by decide)).trans (wa_51))), (sI_nej (by decide)).trans ((sI_nej (by decide)).trans (e466_k0)), (sI_nej (by decide)).trans ((sI_nej (by decide)).trans ((g466.i _ _ (by decide)).trans (h48))), (sI_nej (by decide)).trans ((sI_nej (by decide)).trans ((g466.i _ _ (by decide)).trans (h49))), by omega⟩⟩)
                ·
                  refine RrI (a197 (by omega) (hR.fr f466) ((g466.i _ _ (by decide)).trans (wa_51)) (lra.fr g466 (by decide)) (by omega)) fun v Nl468 hl468 => ?_
                  obtain ⟨r9, rfl, hMl, hr9⟩ := hl468
                  rw [hMl]
                  have q9 := LcF.one hr9 hrl
                  rw [q9]
                  refine rsr (cI_e rfl) ?_
                  refine rsr (jv_e) ?_
                  try dsimp only
                  refine rsr (gtI_q (w := iI ((kr (kd (i + 3))))) (rk_160 (hR.fr f466)) (e466_k1)) ?_
                  refine rsr (jn_v) ?_
                  refine rsr (if_neg (krI_n (k := 40) (rfl) (li_40) (hS.ok (i + 3) (by omega) (by omega)) (by unfold KdOK sgk; omega) (by decide +kernel) (by omega) (by omega))) ?_
                  refine rsr (gtI_q (w := iI ((kr (kd (i + 3))))) (rk_160 (hR.fr f466)) (e466_k1)) ?_
                  refine rsr (if_neg (krI_n (k := 91) (rfl) (li_91) (hS.ok (i + 3) (by omega) (by omega)) (by unfold KdOK sgk; omega) (by decide +kernel) (by omega) (by omega))) ?_
                  refine rsr (vC_e (rk_160 (hR.fr f466))) ?_
                  refine rsr (cI_e (a195_61_1 (by omega) hS (hR.fr f466) (e466_k1) (e466_k2) (e466_k4) (li_61) (by omega))) ?_
                  refine rsr (if_pos (eqI_p (rfl) (li_0) (by omega))) ?_
                  refine rsr (jv_e) ?_
                  exact Rs.ok (Or.inr ⟨1, ((pl (i + 3))), f464, (Fr.sI (by decide) (Fr.sI (by decide) (Fr.m f466 (by decide)))), ⟨(i + 3), sz463, sn463, uc463, e464_k0, e464_k1, e464_k2, e464_k3, e464_sz463, e464_sn463, e464_uc463, by omega⟩, ⟨e, s, (u + 1), mu, ut, (sI_nej (by decide)).trans (sI_eq), sI_eq, (sI_nej (by decide)).trans ((sI_nej (by decide)).trans ((g466.i _ _ (by decide)).trans (wa_43))), (sI_nej (by decide)).trans ((sI_nej (by decide)).trans ((g466.i _ _ (by decide)).trans (wa_51))), (sI_nej (by decide)).trans ((sI_nej (by decide)).trans (e466_k0)), (sI_nej (by decide)).trans ((sI_nej (by decide)).trans ((g466.i _ _ (by decide)).trans (h48))), (sI_nej (by decide)).trans ((sI_nej (by decide)).trans ((g466.i _ _ (by decide)).trans (h49))), by omega⟩⟩)
              ·
                refine rsr (if_neg (lgc_n (rfl) (rfl) c467)) ?_
                refine rsr (jv_e) ?_
                try dsimp only
                refine rsr (gtI_q (w := iI ((kr (kd (i + 3))))) (rk_160 (hR.fr f466)) (e466_k1)) ?_
                refine rsr (jn_v) ?_
                refine rsr (if_neg (krI_n (k := 40) (rfl) (li_40) (hS.ok (i + 3) (by omega) (by omega)) (by unfold KdOK sgk; omega) (by decide +kernel) (by omega) (by omega))) ?_
                refine rsr (gtI_q (w := iI ((kr (kd (i + 3))))) (rk_160 (hR.fr f466)) (e466_k1)) ?_
                refine rsr (if_neg (krI_n (k := 91) (rfl) (li_91) (hS.ok (i + 3) (by omega) (by omega)) (by unfold KdOK sgk; omega) (by decide +kernel) (by omega) (by omega))) ?_
                refine rsr (vC_e (rk_160 (hR.fr f466))) ?_
                refine rsr (cI_e (a195_61_1 (by omega) hS (hR.fr f466) (e466_k1) (e466_k2) (e466_k4) (li_61) (by omega))) ?_
                refine rsr (if_pos (eqI_p (rfl) (li_0) (by omega))) ?_
                refine rsr (jv_e) ?_
                exact Rs.ok (Or.inr ⟨1, ((pl (i + 3))), f464, (Fr.sI (by decide) (Fr.sI (by decide) (Fr.m f466 (by decide)))), ⟨(i + 3), sz463, sn463, uc463, e464_k0, e464_k1, e464_k2, e464_k3, e464_sz463, e464_sn463, e464_uc463, by omega⟩, ⟨e, s, (u + 1), mu, ut, (sI_nej (by decide)).trans (sI_eq), sI_eq, (sI_nej (by decide)).trans ((sI_nej (by decide)).trans ((g466.i _ _ (by decide)).trans (wa_43))), (sI_nej (by decide)).trans ((sI_nej (by decide)).trans ((g466.i _ _ (by decide)).trans (wa_51))), (sI_nej (by decide)).trans ((sI_nej (by decide)).trans (e466_k0)), (sI_nej (by decide)).trans ((sI_nej (by decide)).trans ((g466.i _ _ (by decide)).trans (h48))), (sI_nej (by decide)).trans ((sI_nej (by decide)).trans ((g466.i _ _ (by decide)).trans (h49))), by omega⟩⟩)
            ·
              refine rsl (cV_e (a64_2 (by omega) hS (hC.fr f13) (hTk.fr (WL := W_cp) f13 (by decide)) (e13_k0) (e13_k2) (e13_k3) (li_61) (by omega))) ?_
              refine rsl (vC_e (ck_65 (hC.fr f13).sI.sI.sI)) ?_
              refine RlV (y99_0 (by omega) (hC.fr f13).sI.sI.sI (hTk.fr (WL := W_cp) (Fr.sI (by decide) (Fr.sI (by decide) (Fr.sI (by decide) f13))) (by decide)) ((sI_nej (by decide)).trans ((sI_nej (by decide)).trans ((sI_nej (by decide)).trans (e13_k0)))) (sI_eq) ((sI_nej (by decide)).trans ((sI_nej (by decide)).trans (sI_eq))) ((sI_nej (by decide)).trans (sI_eq)) ((sI_nej (by decide)).trans ((sI_nej (by decide)).trans ((sI_nej (by decide)).trans ((g13.i _ _ (by decide)).trans (qa_9))))) ((sI_nej (by decide)).trans ((sI_nej (by decide)).trans ((sI_nej (by decide)).trans ((g13.i _ _ (by decide)).trans (qa_16))))) ((sI_nej (by decide)).trans ((sI_nej (by decide)).trans ((sI_nej (by decide)).trans (e13_k1)))) (li_0) (hv0) (by omega)) fun v Ma470 h470 => ?_
              obtain ⟨sz469, sn469, uc469, g470, e470_sz469, e470_sn469, e470_uc469, e470_k0, e470_k1, e470_k2, e470_k3, p470_0, p470_1, p470_2⟩ := h470
              have f470 : Fr W_cp Mc Ma470 := Fr.t (Fr.sI (by decide) (Fr.sI (by decide) (Fr.sI (by decide) f13))) (Fr.m g470 (by decide))
              refine rsl (cV_e rfl) ?_
              refine rsl (vC_e (ck_65 (hC.fr f470))) ?_
              refine RlV (y64 (by omega) (hC.fr f470) (hTk.fr (WL := W_cp) f470 (by decide)) (e470_k3) (e470_k0) (e470_k1) (e470_k2) (e470_sz469) (e470_sn469) (e470_uc469) (li_59) (by omega)) fun v Ma472 h472 => ?_
              obtain ⟨sz471, sn471, uc471, g472, e472_sz471, e472_sn471, e472_uc471, e472_k0, e472_k1, e472_k2, e472_k3, p472_0, p472_1, p472_2⟩ := h472
              have f472 : Fr W_cp Mc Ma472 := Fr.t f470 (Fr.m g472 (by decide))
              refine rsl (cV_e rfl) ?_
              refine rsl (jn_v) ?_
              refine rsl (if_pos (eqI_p (li_0) (li_0) (by omega))) ?_
              refine rsl (vC_e (ck_65 (hC.fr f472))) ?_
              refine RlV (y106 (by omega) (hC.fr f472) (hTk.fr (WL := W_cp) f472 (by decide)) (e472_k3) (e472_k0) (e472_k1) (e472_k2) (e472_sz471) (e472_sn471) (e472_uc471) (congrArg iI p13_0) (li_2) (li_2) (li_4) (by omega)) fun v Ma474 h474 => ?_
              obtain ⟨sz473, sn473, uc473, g474, e474_sz473, e474_sn473, e474_uc473, e474_k0, e474_k1, e474_k2, e474_k3, p474_0, p474_1, p474_2⟩ := h474
              have f474 : Fr W_cp Mc Ma474 := Fr.t f472 (Fr.m g474 (by decide))
              refine rsl (cV_e rfl) ?_
              refine rsl (jv_e) ?_
              refine rsr (gtI_q (w := iI ((kr (kd i)))) (rk_160 hR) (wa_36)) ?_
              refine rsr (jn_v) ?_
              refine rsr (swI_c) ?_
              refine rsr (if_neg (krI_n (k := 215) (rfl) (li_416) (hS.ok i (by omega) (by omega)) (by unfold KdOK sgk; omega) (by decide +kernel) (by omega) (by omega))) ?_
              refine rsr (swI_c) ?_
              refine rsr (if_neg (krI_n (k := 216) (rfl) (li_417) (hS.ok i (by omega) (by omega)) (by unfold KdOK sgk; omega) (by decide +kernel) (by omega) (by omega))) ?_
              refine rsr (swI_c) ?_
              refine rsr (if_neg (krI_n (k := 217) (rfl) (li_418) (hS.ok i (by omega) (by omega)) (by unfold KdOK sgk; omega) (by decide +kernel) (by omega) (by omega))) ?_
              refine rsr (swI_c) ?_
              refine rsr (if_neg (krI_n (k := 218) (rfl) (li_419) (hS.ok i (by omega) (by omega)) (by unfold KdOK sgk; omega) (by decide +kernel) (by omega) (by omega))) ?_
              refine rsr (swI_c) ?_
              refine rsr (if_neg (krI_n (k := 219) (rfl) (li_420) (hS.ok i (by omega) (by omega)) (by unfold KdOK sgk; omega) (by decide +kernel) (by omega) (by omega))) ?_
              refine rsr (swI_c) ?_
              refine rsr (if_neg (krI_n (k := 220) (rfl) (li_421) (hS.ok i (by omega) (by omega)) (by unfold KdOK sgk; omega) (by decide +kernel) (by omega) (by omega))) ?_
              refine rsr (swI_c) ?_
              refine rsr (if_neg (krI_n (k := 221) (rfl) (li_422) (hS.ok i (by omega) (by omega)) (by unfold KdOK sgk; omega) (by decide +kernel) (by omega) (by omega))) ?_
              refine rsr (swI_c) ?_
              refine rsr (if_neg (krI_n (k := 222) (rfl) (li_423) (hS.ok i (by omega) (by omega)) (by unfold KdOK sgk; omega) (by decide +kernel) (by omega) (by omega))) ?_
              refine rsr (swI_n) ?_
              refine rsr (gtI_q (w := iI ((kr (kd i)))) (rk_160 hR) (wa_36)) ?_
              refine rsr (jn_v) ?_
              refine rsr (if_pos (krI_p (k := 3) (rfl) (li_1) (by omega) (by decide +kernel))) ?_
              refine rsr (jv_e) ?_
              refine rsr (vC_e (rk_160 hR)) ?_
              refine rsr (cI_e (ar193_p (by omega) hS hR (wa_36) (wa_37) (wa_41) (li_1) (by omega))) ?_
              refine rsr (if_neg (eqI_n (rfl) (li_0) (by omega))) ?_
              refine rsr (vC_e (rk_160 hR)) ?_
              refine Rs_cVr ?_ (fun v M w N h => rs1 jv_e (Rt.ok h))
              obtain ⟨d2, rfl⟩ : ∃ e, d2 = e + 1 := ⟨d2 - 1, by omega⟩
              rw [r217]; unfold b217; rw [aR_e, aZ_e]; unfold c217
              refine rsr (vC_e (rk_160 hR)) ?_
              refine RrI (a201_d (by omega) hS hR (hT.fr (W := W_rx) Fr.r (by decide) (by decide)) (fun i a b => (Fr.lc (W := W_rx) Fr.r _ (by decide) _).trans (hW i a b)) (wa_36) (wa_37) (wa_38) (wa_41) (h49) (wa_53) wa_n (by omega)) fun v Ma476 h476 => ?_
              obtain ⟨r475, rfl, g476, e476_k0, e476_k1, e476_k2, e476_k3, e476_k4, p476_0, p476_1, p476_2⟩ := h476
              have f476 : Fr W_rx Mr Ma476 := Fr.t Fr.r (Fr.m g476 (by decide))
              refine rsr (cI_e rfl) ?_
              refine rsr (gtI_q (w := iI 0) (rk_160 (hR.fr f476)) (e476_k4)) ?_
              refine rsr (if_pos (eqI_p (rfl) (li_0) (by omega))) ?_
              refine rsr (gtP_q (w := some 202) (rk_160 (hR.fr f476)) (rf_56 (hR.fr f476))) ?_
              refine rsr (alL_q (n := 2000) (z := u) (w := (tx i)) (rk_202 (hR.fr f476)) (congrArg iI p476_0) (by omega) (p476_1.2.2.2.1)) ?_
              refine rsr (jn_v) ?_
              by_cases c477 : (tx i) = (0 : Int64)
              ·
                refine rsr (if_pos (lgc_p (rfl) (rfl) c477)) ?_
                refine rsr (gtP_q (w := some 204) (rk_160 (hR.fr f476)) (rf_58 (hR.fr f476))) ?_
                refine rsr (alL_q (n := 2000) (z := u) (w := (tx (i + 2))) (rk_204 (hR.fr f476)) (congrArg iI p476_0) (by omega) (p476_1.2.2.2.2.2.1)) ?_
                refine rsr (vC_e (rk_160 (hR.fr f476))) ?_
                obtain ⟨rl, hrl⟩ : ∃ r, LcF Hl s (tx (i + 2)) r := by have q := LcF_ex (Hl := Hl) (y := (tx (i + 2))) s.toNat; rw [show ((s.toNat : Nat) : Int) = s by omega] at q; exact q
                have brl := hrl.bd
                by_cases crl : rl = -1
                ·
                  subst crl
                  refine RrI (a197 (by omega) (hR.fr f476) ((g476.i _ _ (by decide)).trans (wa_51)) (lra.fr g476 (by decide)) (by omega)) fun v Nl478 hl478 => ?_
                  obtain ⟨r9, rfl, hMl, hr9⟩ := hl478
                  rw [hMl]
                  have q9 := LcF.one hr9 hrl
                  rw [q9]
                  refine rsr (cI_e rfl) ?_
                  refine rsr (jv_e) ?_
                  try dsimp only
                  refine rsr (gtI_q (w := iI ((kr (kd (i + 3))))) (rk_160 (hR.fr f476)) (e476_k1)) ?_
                  refine rsr (jn_v) ?_
                  refine rsr (if_neg (krI_n (k := 40) (rfl) (li_40) (hS.ok (i + 3) (by omega) (by omega)) (by unfold KdOK sgk; omega) (by decide +kernel) (by omega) (by omega))) ?_
                  refine rsr (gtI_q (w := iI ((kr (kd (i + 3))))) (rk_160 (hR.fr f476)) (e476_k1)) ?_
                  refine rsr (if_neg (krI_n (k := 91) (rfl) (li_91) (hS.ok (i + 3) (by omega) (by omega)) (by unfold KdOK sgk; omega) (by decide +kernel) (by omega) (by omega))) ?_
                  refine rsr (vC_e (rk_160 (hR.fr f476))) ?_
                  refine rsr (cI_e (a195_61_2 (by omega) hS (hR.fr f476) (e476_k1) (e476_k2) (e476_k4) (li_61) (by omega))) ?_
                  refine rsr (if_pos (eqI_p (rfl) (li_0) (by omega))) ?_
                  refine rsr (jv_e) ?_
                  exact Rs.ok (Or.inr ⟨2, ((pl (i + 3))), f474, (Fr.sI (by decide) (Fr.sI (by decide) (Fr.m f476 (by decide)))), ⟨(i + 3), sz473, sn473, uc473, e474_k0, e474_k1, e474_k2, e474_k3, e474_sz473, e474_sn473, e474_uc473, by omega⟩, ⟨e, s, (u + 1), mu, ut, (sI_nej (by decide)).trans (sI_eq), sI_eq, (sI_nej (by decide)).trans ((sI_nej (by decide)).trans ((g476.i _ _ (by decide)).trans (wa_43))), (sI_nej (by decide)).trans ((sI_nej (by decide)).trans ((g476.i _ _ (by decide)).trans (wa_51))), (sI_nej (by decide)).trans ((sI_nej (by decide)).trans (e476_k0)), (sI_nej (by decide)).trans ((sI_nej (by decide)).trans ((g476.i _ _ (by decide)).trans (h48))), (sI_nej (by decide)).trans ((sI_nej (by decide)).trans ((g476.i _ _ (by decide)).trans (h49))), by omega⟩⟩)
                ·
                  refine RrI (a197 (by omega) (hR.fr f476) ((g476.i _ _ (by decide)).trans (wa_51)) (lra.fr g476 (by decide)) (by omega)) fun v Nl478 hl478 => ?_
                  obtain ⟨r9, rfl, hMl, hr9⟩ := hl478
                  rw [hMl]
                  have q9 := LcF.one hr9 hrl
                  rw [q9]
                  refine rsr (cI_e rfl) ?_
                  refine rsr (jv_e) ?_
                  try dsimp only
                  refine rsr (gtI_q (w := iI ((kr (kd (i + 3))))) (rk_160 (hR.fr f476)) (e476_k1)) ?_
                  refine rsr (jn_v) ?_
                  refine rsr (if_neg (krI_n (k := 40) (rfl) (li_40) (hS.ok (i + 3) (by omega) (by omega)) (by unfold KdOK sgk; omega) (by decide +kernel) (by omega) (by omega))) ?_
                  refine rsr (gtI_q (w := iI ((kr (kd (i + 3))))) (rk_160 (hR.fr f476)) (e476_k1)) ?_
                  refine rsr (if_neg (krI_n (k := 91) (rfl) (li_91) (hS.ok (i + 3) (by omega) (by omega)) (by unfold KdOK sgk; omega) (by decide +kernel) (by omega) (by omega))) ?_
                  refine rsr (vC_e (rk_160 (hR.fr f476))) ?_
                  refine rsr (cI_e (a195_61_2 (by omega) hS (hR.fr f476) (e476_k1) (e476_k2) (e476_k4) (li_61) (by omega))) ?_
                  refine rsr (if_pos (eqI_p (rfl) (li_0) (by omega))) ?_
                  refine rsr (jv_e) ?_
                  exact Rs.ok (Or.inr ⟨2, ((pl (i + 3))), f474, (Fr.sI (by decide) (Fr.sI (by decide) (Fr.m f476 (by decide)))), ⟨(i + 3), sz473, sn473, uc473, e474_k0, e474_k1, e474_k2, e474_k3, e474_sz473, e474_sn473, e474_uc473, by omega⟩, ⟨e, s, (u + 1), mu, ut, (sI_nej (by decide)).trans (sI_eq), sI_eq, (sI_nej (by decide)).trans ((sI_nej (by decide)).trans ((g476.i _ _ (by decide)).trans (wa_43))), (sI_nej (by decide)).trans ((sI_nej (by decide)).trans ((g476.i _ _ (by decide)).trans (wa_51))), (sI_nej (by decide)).trans ((sI_nej (by decide)).trans (e476_k0)), (sI_nej (by decide)).trans ((sI_nej (by decide)).trans ((g476.i _ _ (by decide)).trans (h48))), (sI_nej (by decide)).trans ((sI_nej (by decide)).trans ((g476.i _ _ (by decide)).trans (h49))), by omega⟩⟩)
              ·
                refine rsr (if_neg (lgc_n (rfl) (rfl) c477)) ?_
                refine rsr (jv_e) ?_
                try dsimp only
                refine rsr (gtI_q (w := iI ((kr (kd (i + 3))))) (rk_160 (hR.fr f476)) (e476_k1)) ?_
                refine rsr (jn_v) ?_
                refine rsr (if_neg (krI_n (k := 40) (rfl) (li_40) (hS.ok (i + 3) (by omega) (by omega)) (by unfold KdOK sgk; omega) (by decide +kernel) (by omega) (by omega))) ?_
                refine rsr (gtI_q (w := iI ((kr (kd (i + 3))))) (rk_160 (hR.fr f476)) (e476_k1)) ?_
                refine rsr (if_neg (krI_n (k := 91) (rfl) (li_91) (hS.ok (i + 3) (by omega) (by omega)) (by unfold KdOK sgk; omega) (by decide +kernel) (by omega) (by omega))) ?_
                refine rsr (vC_e (rk_160 (hR.fr f476))) ?_
                refine rsr (cI_e (a195_61_2 (by omega) hS (hR.fr f476) (e476_k1) (e476_k2) (e476_k4) (li_61) (by omega))) ?_
                refine rsr (if_pos (eqI_p (rfl) (li_0) (by omega))) ?_
                refine rsr (jv_e) ?_
                exact Rs.ok (Or.inr ⟨2, ((pl (i + 3))), f474, (Fr.sI (by decide) (Fr.sI (by decide) (Fr.m f476 (by decide)))), ⟨(i + 3), sz473, sn473, uc473, e474_k0, e474_k1, e474_k2, e474_k3, e474_sz473, e474_sn473, e474_uc473, by omega⟩, ⟨e, s, (u + 1), mu, ut, (sI_nej (by decide)).trans (sI_eq), sI_eq, (sI_nej (by decide)).trans ((sI_nej (by decide)).trans ((g476.i _ _ (by decide)).trans (wa_43))), (sI_nej (by decide)).trans ((sI_nej (by decide)).trans ((g476.i _ _ (by decide)).trans (wa_51))), (sI_nej (by decide)).trans ((sI_nej (by decide)).trans (e476_k0)), (sI_nej (by decide)).trans ((sI_nej (by decide)).trans ((g476.i _ _ (by decide)).trans (h48))), (sI_nej (by decide)).trans ((sI_nej (by decide)).trans ((g476.i _ _ (by decide)).trans (h49))), by omega⟩⟩)
    ·
      by_cases c479 : ((kd (i + 2))) = 1
      ·
        refine RlI (a104_1 (by omega) hS hC (hTk.fr (WL := W_cp) Fr.r (by decide)) hu1 (by rw [(Fr.r : Fr W_cp Mc _).p]; exact hu2) (Fr.kd (W := W_cp) Fr.r hu3) ((Fr.i (W := W_cp) Fr.r _ _ (inW_hi (by decide) hu1 _)).trans hu4) (qa_12) (qa_13) (qa_10) (qa_19) (by omega)) fun v Ma481 h481 => ?_
        obtain ⟨r480, rfl, g481, e481_k0, e481_k1, e481_k2, e481_k3, e481_k4, p481_0, p481_1⟩ := h481
        have f481 : Fr W_cp Mc Ma481 := Fr.t Fr.r (Fr.m g481 (by decide))
        refine rsl (cI_e rfl) ?_
        refine rsl (gtI_q (w := iI 2) (ck_65 (hC.fr f481)) (e481_k2)) ?_
        refine rsl (if_neg (eqI_n (rfl) (li_40) (by omega))) ?_
        refine rsl (gtI_q (w := iI 2) (ck_65 (hC.fr f481)) (e481_k2)) ?_
        refine rsl (jn_v) ?_
        refine rsl (if_neg (eqI_n (rfl) (li_91) (by omega))) ?_
        refine rsl (jv_e) ?_
        refine rsl (jn_v) ?_
        refine rsl (if_pos (eqI_p (li_0) (li_0) (by omega))) ?_
        refine rsl (jv_e) ?_
        refine rsl (vC_e (ck_65 (hC.fr f481))) ?_
        refine RlV (y64 (by omega) (hC.fr f481) (hTk.fr (WL := W_cp) f481 (by decide)) (e481_k0) (e481_k2) (e481_k3) (e481_k4) ((g481.i _ _ (by decide)).trans (qa_9)) ((g481.i _ _ (by decide)).trans (qa_16)) (e481_k1) (li_61) (by omega)) fun v Ma483 h483 => ?_
        obtain ⟨sz482, sn482, uc482, g483, e483_sz482, e483_sn482, e483_uc482, e483_k0, e483_k1, e483_k2, e483_k3, p483_0, p483_1, p483_2⟩ := h483
        have f483 : Fr W_cp Mc Ma483 := Fr.t f481 (Fr.m g483 (by decide))
        refine rsl (cV_e rfl) ?_
        refine rsl (vC_e (ck_65 (hC.fr f483))) ?_
        refine RlV (y99_0 (by omega) (hC.fr f483) (hTk.fr (WL := W_cp) f483 (by decide)) (e483_k3) (e483_k0) (e483_k1) (e483_k2) (e483_sz482) (e483_sn482) (e483_uc482) (li_0) (hv0) (by omega)) fun v Ma485 h485 => ?_
        obtain ⟨sz484, sn484, uc484, g485, e485_sz484, e485_sn484, e485_uc484, e485_k0, e485_k1, e485_k2, e485_k3, p485_0, p485_1, p485_2⟩ := h485
        have f485 : Fr W_cp Mc Ma485 := Fr.t f483 (Fr.m g485 (by decide))
        refine rsl (cV_e rfl) ?_
        refine rsl (vC_e (ck_65 (hC.fr f485))) ?_
        refine RlV (y64 (by omega) (hC.fr f485) (hTk.fr (WL := W_cp) f485 (by decide)) (e485_k3) (e485_k0) (e485_k1) (e485_k2) (e485_sz484) (e485_sn484) (e485_uc484) (li_59) (by omega)) fun v Ma487 h487 => ?_
        obtain ⟨sz486, sn486, uc486, g487, e487_sz486, e487_sn486, e487_uc486, e487_k0, e487_k1, e487_k2, e487_k3, p487_0, p487_1, p487_2⟩ := h487
        have f487 : Fr W_cp Mc Ma487 := Fr.t f485 (Fr.m g487 (by decide))
        refine rsl (cV_e rfl) ?_
        refine rsl (jn_v) ?_
        refine rsl (if_pos (eqI_p (li_0) (li_0) (by omega))) ?_
        refine rsl (vC_e (ck_65 (hC.fr f487))) ?_
        refine RlV (y106 (by omega) (hC.fr f487) (hTk.fr (WL := W_cp) f487 (by decide)) (e487_k3) (e487_k0) (e487_k1) (e487_k2) (e487_sz486) (e487_sn486) (e487_uc486) (congrArg iI p481_0) (li_2) (li_2) (li_4) (by omega)) fun v Ma489 h489 => ?_
        obtain ⟨sz488, sn488, uc488, g489, e489_sz488, e489_sn488, e489_uc488, e489_k0, e489_k1, e489_k2, e489_k3, p489_0, p489_1, p489_2⟩ := h489
        have f489 : Fr W_cp Mc Ma489 := Fr.t f487 (Fr.m g489 (by decide))
        refine rsl (cV_e rfl) ?_
        refine rsl (jv_e) ?_
        refine rsr (gtI_q (w := iI ((kr (kd i)))) (rk_160 hR) (wa_36)) ?_
        refine rsr (jn_v) ?_
        refine rsr (swI_c) ?_
        refine rsr (if_neg (krI_n (k := 215) (rfl) (li_416) (hS.ok i (by omega) (by omega)) (by unfold KdOK sgk; omega) (by decide +kernel) (by omega) (by omega))) ?_
        refine rsr (swI_c) ?_
        refine rsr (if_neg (krI_n (k := 216) (rfl) (li_417) (hS.ok i (by omega) (by omega)) (by unfold KdOK sgk; omega) (by decide +kernel) (by omega) (by omega))) ?_
        refine rsr (swI_c) ?_
        refine rsr (if_neg (krI_n (k := 217) (rfl) (li_418) (hS.ok i (by omega) (by omega)) (by unfold KdOK sgk; omega) (by decide +kernel) (by omega) (by omega))) ?_
        refine rsr (swI_c) ?_
        refine rsr (if_neg (krI_n (k := 218) (rfl) (li_419) (hS.ok i (by omega) (by omega)) (by unfold KdOK sgk; omega) (by decide +kernel) (by omega) (by omega))) ?_
        refine rsr (swI_c) ?_
        refine rsr (if_neg (krI_n (k := 219) (rfl) (li_420) (hS.ok i (by omega) (by omega)) (by unfold KdOK sgk; omega) (by decide +kernel) (by omega) (by omega))) ?_
        refine rsr (swI_c) ?_
        refine rsr (if_neg (krI_n (k := 220) (rfl) (li_421) (hS.ok i (by omega) (by omega)) (by unfold KdOK sgk; omega) (by decide +kernel) (by omega) (by omega))) ?_
        refine rsr (swI_c) ?_
        refine rsr (if_neg (krI_n (k := 221) (rfl) (li_422) (hS.ok i (by omega) (by omega)) (by unfold KdOK sgk; omega) (by decide +kernel) (by omega) (by omega))) ?_
        refine rsr (swI_c) ?_
        refine rsr (if_neg (krI_n (k := 222) (rfl) (li_423) (hS.ok i (by omega) (by omega)) (by unfold KdOK sgk; omega) (by decide +kernel) (by omega) (by omega))) ?_
        refine rsr (swI_n) ?_
        refine rsr (gtI_q (w := iI ((kr (kd i)))) (rk_160 hR) (wa_36)) ?_
        refine rsr (jn_v) ?_
        refine rsr (if_pos (krI_p (k := 3) (rfl) (li_1) (by omega) (by decide +kernel))) ?_
        refine rsr (jv_e) ?_
        refine rsr (vC_e (rk_160 hR)) ?_
        refine rsr (cI_e (ar193_p (by omega) hS hR (wa_36) (wa_37) (wa_41) (li_1) (by omega))) ?_
        refine rsr (if_neg (eqI_n (rfl) (li_0) (by omega))) ?_
        refine rsr (vC_e (rk_160 hR)) ?_
        refine Rs_cVr ?_ (fun v M w N h => rs1 jv_e (Rt.ok h))
        obtain ⟨d2, rfl⟩ : ∃ e, d2 = e + 1 := ⟨d2 - 1, by omega⟩
        rw [r217]; unfold b217; rw [aR_e, aZ_e]; unfold c217
        refine rsr (vC_e (rk_160 hR)) ?_
        refine RrI (a201_1 (by omega) hS hR (hT.fr (W := W_rx) Fr.r (by decide) (by decide)) (fun i a b => (Fr.lc (W := W_rx) Fr.r _ (by decide) _).trans (hW i a b)) (wa_36) (wa_37) (wa_38) (wa_41) (h49) (wa_53) wa_n (by omega)) fun v Ma491 h491 => ?_
        obtain ⟨r490, rfl, g491, e491_k0, e491_k1, e491_k2, e491_k3, e491_k4, e491_k5, p491_0⟩ := h491
        have f491 : Fr W_rx Mr Ma491 := Fr.t Fr.r (Fr.m g491 (by decide))
        refine rsr (cI_e rfl) ?_
        refine rsr (gtI_q (w := iI 1) (rk_160 (hR.fr f491)) (e491_k4)) ?_
        refine rsr (if_neg (eqI_n (rfl) (li_0) (by omega))) ?_
        exact Rs.ok (Or.inr ⟨1, ((pl (i + 2))), f489, (Fr.m f491 (by decide)), ⟨(i + 2), sz488, sn488, uc488, e489_k0, e489_k1, e489_k2, e489_k3, e489_sz488, e489_sn488, e489_uc488, by omega⟩, ⟨e, s, (u + 1), mu, ut, e491_k4, e491_k5, (g491.i _ _ (by decide)).trans (wa_43), (g491.i _ _ (by decide)).trans (wa_51), e491_k0, (g491.i _ _ (by decide)).trans (h48), (g491.i _ _ (by decide)).trans (h49), by omega⟩⟩)
      ·
        refine RlI (a104_2 (by omega) hS hC (hTk.fr (WL := W_cp) Fr.r (by decide)) hu1 (by rw [(Fr.r : Fr W_cp Mc _).p]; exact hu2) (Fr.kd (W := W_cp) Fr.r hu3) ((Fr.i (W := W_cp) Fr.r _ _ (inW_hi (by decide) hu1 _)).trans hu4) (qa_12) (qa_13) (qa_10) (qa_19) (by omega)) fun v Ma493 h493 => ?_
        obtain ⟨r492, rfl, g493, e493_k0, e493_k1, e493_k2, e493_k3, e493_k4, p493_0, p493_1⟩ := h493
        have f493 : Fr W_cp Mc Ma493 := Fr.t Fr.r (Fr.m g493 (by decide))
        refine rsl (cI_e rfl) ?_
        refine rsl (gtI_q (w := iI 2) (ck_65 (hC.fr f493)) (e493_k2)) ?_
        refine rsl (if_neg (eqI_n (rfl) (li_40) (by omega))) ?_
        refine rsl (gtI_q (w := iI 2) (ck_65 (hC.fr f493)) (e493_k2)) ?_
        refine rsl (jn_v) ?_
        refine rsl (if_neg (eqI_n (rfl) (li_91) (by omega))) ?_
        refine rsl (jv_e) ?_
        refine rsl (jn_v) ?_
        refine rsl (if_pos (eqI_p (li_0) (li_0) (by omega))) ?_
        refine rsl (jv_e) ?_
        refine rsl (vC_e (ck_65 (hC.fr f493))) ?_
        refine RlV (y64 (by omega) (hC.fr f493) (hTk.fr (WL := W_cp) f493 (by decide)) (e493_k0) (e493_k2) (e493_k3) (e493_k4) ((g493.i _ _ (by decide)).trans (qa_9)) ((g493.i _ _ (by decide)).trans (qa_16)) (e493_k1) (li_61) (by omega)) fun v Ma495 h495 => ?_
        obtain ⟨sz494, sn494, uc494, g495, e495_sz494, e495_sn494, e495_uc494, e495_k0, e495_k1, e495_k2, e495_k3, p495_0, p495_1, p495_2⟩ := h495
        have f495 : Fr W_cp Mc Ma495 := Fr.t f493 (Fr.m g495 (by decide))
        refine rsl (cV_e rfl) ?_
        refine rsl (vC_e (ck_65 (hC.fr f495))) ?_
        refine RlV (y99_0 (by omega) (hC.fr f495) (hTk.fr (WL := W_cp) f495 (by decide)) (e495_k3) (e495_k0) (e495_k1) (e495_k2) (e495_sz494) (e495_sn494) (e495_uc494) (li_0) (hv0) (by omega)) fun v Ma497 h497 => ?_
        obtain ⟨sz496, sn496, uc496, g497, e497_sz496, e497_sn496, e497_uc496, e497_k0, e497_k1, e497_k2, e497_k3, p497_0, p497_1, p497_2⟩ := h497
        have f497 : Fr W_cp Mc Ma497 := Fr.t f495 (Fr.m g497 (by decide))
        refine rsl (cV_e rfl) ?_
        refine rsl (vC_e (ck_65 (hC.fr f497))) ?_
        refine RlV (y64 (by omega) (hC.fr f497) (hTk.fr (WL := W_cp) f497 (by decide)) (e497_k3) (e497_k0) (e497_k1) (e497_k2) (e497_sz496) (e497_sn496) (e497_uc496) (li_59) (by omega)) fun v Ma499 h499 => ?_
        obtain ⟨sz498, sn498, uc498, g499, e499_sz498, e499_sn498, e499_uc498, e499_k0, e499_k1, e499_k2, e499_k3, p499_0, p499_1, p499_2⟩ := h499
        have f499 : Fr W_cp Mc Ma499 := Fr.t f497 (Fr.m g499 (by decide))
        refine rsl (cV_e rfl) ?_
        refine rsl (jn_v) ?_
        refine rsl (if_pos (eqI_p (li_0) (li_0) (by omega))) ?_
        refine rsl (vC_e (ck_65 (hC.fr f499))) ?_
        refine RlV (y106 (by omega) (hC.fr f499) (hTk.fr (WL := W_cp) f499 (by decide)) (e499_k3) (e499_k0) (e499_k1) (e499_k2) (e499_sz498) (e499_sn498) (e499_uc498) (congrArg iI p493_0) (li_2) (li_2) (li_4) (by omega)) fun v Ma501 h501 => ?_
        obtain ⟨sz500, sn500, uc500, g501, e501_sz500, e501_sn500, e501_uc500, e501_k0, e501_k1, e501_k2, e501_k3, p501_0, p501_1, p501_2⟩ := h501
        have f501 : Fr W_cp Mc Ma501 := Fr.t f499 (Fr.m g501 (by decide))
        refine rsl (cV_e rfl) ?_
        refine rsl (jv_e) ?_
        refine rsr (gtI_q (w := iI ((kr (kd i)))) (rk_160 hR) (wa_36)) ?_
        refine rsr (jn_v) ?_
        refine rsr (swI_c) ?_
        refine rsr (if_neg (krI_n (k := 215) (rfl) (li_416) (hS.ok i (by omega) (by omega)) (by unfold KdOK sgk; omega) (by decide +kernel) (by omega) (by omega))) ?_
        refine rsr (swI_c) ?_
        refine rsr (if_neg (krI_n (k := 216) (rfl) (li_417) (hS.ok i (by omega) (by omega)) (by unfold KdOK sgk; omega) (by decide +kernel) (by omega) (by omega))) ?_
        refine rsr (swI_c) ?_
        refine rsr (if_neg (krI_n (k := 217) (rfl) (li_418) (hS.ok i (by omega) (by omega)) (by unfold KdOK sgk; omega) (by decide +kernel) (by omega) (by omega))) ?_
        refine rsr (swI_c) ?_
        refine rsr (if_neg (krI_n (k := 218) (rfl) (li_419) (hS.ok i (by omega) (by omega)) (by unfold KdOK sgk; omega) (by decide +kernel) (by omega) (by omega))) ?_
        refine rsr (swI_c) ?_
        refine rsr (if_neg (krI_n (k := 219) (rfl) (li_420) (hS.ok i (by omega) (by omega)) (by unfold KdOK sgk; omega) (by decide +kernel) (by omega) (by omega))) ?_
        refine rsr (swI_c) ?_
        refine rsr (if_neg (krI_n (k := 220) (rfl) (li_421) (hS.ok i (by omega) (by omega)) (by unfold KdOK sgk; omega) (by decide +kernel) (by omega) (by omega))) ?_
        refine rsr (swI_c) ?_
        refine rsr (if_neg (krI_n (k := 221) (rfl) (li_422) (hS.ok i (by omega) (by omega)) (by unfold KdOK sgk; omega) (by decide +kernel) (by omega) (by omega))) ?_
        refine rsr (swI_c) ?_
        refine rsr (if_neg (krI_n (k := 222) (rfl) (li_423) (hS.ok i (by omega) (by omega)) (by unfold KdOK sgk; omega) (by decide +kernel) (by omega) (by omega))) ?_
        refine rsr (swI_n) ?_
        refine rsr (gtI_q (w := iI ((kr (kd i)))) (rk_160 hR) (wa_36)) ?_
        refine rsr (jn_v) ?_
        refine rsr (if_pos (krI_p (k := 3) (rfl) (li_1) (by omega) (by decide +kernel))) ?_
        refine rsr (jv_e) ?_
        refine rsr (vC_e (rk_160 hR)) ?_
        refine rsr (cI_e (ar193_p (by omega) hS hR (wa_36) (wa_37) (wa_41) (li_1) (by omega))) ?_
        refine rsr (if_neg (eqI_n (rfl) (li_0) (by omega))) ?_
        refine rsr (vC_e (rk_160 hR)) ?_
        refine Rs_cVr ?_ (fun v M w N h => rs1 jv_e (Rt.ok h))
        obtain ⟨d2, rfl⟩ : ∃ e, d2 = e + 1 := ⟨d2 - 1, by omega⟩
        rw [r217]; unfold b217; rw [aR_e, aZ_e]; unfold c217
        refine rsr (vC_e (rk_160 hR)) ?_
        refine RrI (a201_2 (by omega) hS hR (hT.fr (W := W_rx) Fr.r (by decide) (by decide)) (fun i a b => (Fr.lc (W := W_rx) Fr.r _ (by decide) _).trans (hW i a b)) (wa_36) (wa_37) (wa_38) (wa_41) (h49) (wa_53) wa_n (by omega)) fun v Ma503 h503 => ?_
        obtain ⟨r502, rfl, g503, e503_k0, e503_k1, e503_k2, e503_k3, e503_k4, e503_k5, p503_0⟩ := h503
        have f503 : Fr W_rx Mr Ma503 := Fr.t Fr.r (Fr.m g503 (by decide))
        refine rsr (cI_e rfl) ?_
        refine rsr (gtI_q (w := iI 2) (rk_160 (hR.fr f503)) (e503_k4)) ?_
        refine rsr (if_neg (eqI_n (rfl) (li_0) (by omega))) ?_
        exact Rs.ok (Or.inr ⟨2, ((pl (i + 2))), f501, (Fr.m f503 (by decide)), ⟨(i + 2), sz500, sn500, uc500, e501_k0, e501_k1, e501_k2, e501_k3, e501_sz500, e501_sn500, e501_uc500, by omega⟩, ⟨e, s, (u + 1), mu, ut, e503_k4, e503_k5, (g503.i _ _ (by decide)).trans (wa_43), (g503.i _ _ (by decide)).trans (wa_51), e503_k0, (g503.i _ _ (by decide)).trans (h48), (g503.i _ _ (by decide)).trans (h49), by omega⟩⟩)
  ·
    have hlt : ∀ j, 0 ≤ j → j < u → U 0 j < uc := fun j a b => (cua.1 j a b).1.2
    refine RlI (a104_u (by omega) hS hC (hTk.fr (WL := W_cp) Fr.r (by decide)) hu1 (by rw [(Fr.r : Fr W_cp Mc _).p]; exact hu2) (Fr.kd (W := W_cp) Fr.r hu3) ((Fr.i (W := W_cp) Fr.r _ _ (inW_hi (by decide) hu1 _)).trans hu4) (qa_12) (qa_13) (qa_10) (qa_19) (by omega)) fun v Ma505 h505 => ?_
    obtain ⟨r504, rfl, g505, e505_k0, e505_k1, e505_k2, e505_k3, p505_0, p505_1⟩ := h505
    have f505 : Fr W_cp Mc Ma505 := Fr.t Fr.r (Fr.m g505 (by decide))
    refine rsl (cI_e rfl) ?_
    refine rsl (gtI_q (w := iI ((kd (i + 1)))) (ck_65 (hC.fr f505)) (e505_k2)) ?_
    by_cases c506 : ((kd (i + 1))) = 40
    · refine rsl (if_pos (eqI_p (rfl) (li_40) (by omega))) ?_
      refine rsl (vC_e (ck_65 (hC.fr f505))) ?_
      refine rsr (gtI_q (w := iI ((kr (kd i)))) (rk_160 hR) (wa_36)) ?_
      refine rsr (jn_v) ?_
      refine rsr (swI_c) ?_
      refine rsr (if_neg (krI_n (k := 215) (rfl) (li_416) (hS.ok i (by omega) (by omega)) (by unfold KdOK sgk; omega) (by decide +kernel) (by omega) (by omega))) ?_
      refine rsr (swI_c) ?_
      refine rsr (if_neg (krI_n (k := 216) (rfl) (li_417) (hS.ok i (by omega) (by omega)) (by unfold KdOK sgk; omega) (by decide +kernel) (by omega) (by omega))) ?_
      refine rsr (swI_c) ?_
      refine rsr (if_neg (krI_n (k := 217) (rfl) (li_418) (hS.ok i (by omega) (by omega)) (by unfold KdOK sgk; omega) (by decide +kernel) (by omega) (by omega))) ?_
      refine rsr (swI_c) ?_
      refine rsr (if_neg (krI_n (k := 218) (rfl) (li_419) (hS.ok i (by omega) (by omega)) (by unfold KdOK sgk; omega) (by decide +kernel) (by omega) (by omega))) ?_
      refine rsr (swI_c) ?_
      refine rsr (if_neg (krI_n (k := 219) (rfl) (li_420) (hS.ok i (by omega) (by omega)) (by unfold KdOK sgk; omega) (by decide +kernel) (by omega) (by omega))) ?_
      refine rsr (swI_c) ?_
      refine rsr (if_neg (krI_n (k := 220) (rfl) (li_421) (hS.ok i (by omega) (by omega)) (by unfold KdOK sgk; omega) (by decide +kernel) (by omega) (by omega))) ?_
      refine rsr (swI_c) ?_
      refine rsr (if_neg (krI_n (k := 221) (rfl) (li_422) (hS.ok i (by omega) (by omega)) (by unfold KdOK sgk; omega) (by decide +kernel) (by omega) (by omega))) ?_
      refine rsr (swI_c) ?_
      refine rsr (if_neg (krI_n (k := 222) (rfl) (li_423) (hS.ok i (by omega) (by omega)) (by unfold KdOK sgk; omega) (by decide +kernel) (by omega) (by omega))) ?_
      refine rsr (swI_n) ?_
      refine rsr (gtI_q (w := iI ((kr (kd i)))) (rk_160 hR) (wa_36)) ?_
      refine rsr (jn_v) ?_
      refine rsr (if_pos (krI_p (k := 3) (rfl) (li_1) (by omega) (by decide +kernel))) ?_
      refine rsr (jv_e) ?_
      refine rsr (vC_e (rk_160 hR)) ?_
      refine rsr (cI_e (ar193_p (by omega) hS hR (wa_36) (wa_37) (wa_41) (li_1) (by omega))) ?_
      refine rsr (if_neg (eqI_n (rfl) (li_0) (by omega))) ?_
      refine rsr (vC_e (rk_160 hR)) ?_
      refine Rs_cVr ?_ (fun v M w N h => rs1 jv_e (Rt.ok h))
      obtain ⟨d2, rfl⟩ : ∃ e, d2 = e + 1 := ⟨d2 - 1, by omega⟩
      rw [r217]; unfold b217; rw [aR_e, aZ_e]; unfold c217
      refine rsr (vC_e (rk_160 hR)) ?_
      refine RrI (a201_u (by omega) hS hR (hT.fr (W := W_rx) Fr.r (by decide) (by decide)) (fun i a b => (Fr.lc (W := W_rx) Fr.r _ (by decide) _).trans (hW i a b)) (wa_36) (wa_37) (wa_38) (wa_41) (h49) (wa_53) wa_n (by omega)) fun v Ma508 h508 => ?_
      obtain ⟨r507, rfl, g508, e508_k0, e508_k1, e508_k2, e508_k3, e508_k4, p508_0, p508_1, p508_2⟩ := h508
      have f508 : Fr W_rx Mr Ma508 := Fr.t Fr.r (Fr.m g508 (by decide))
      refine rsr (cI_e rfl) ?_
      refine rsr (gtI_q (w := iI 0) (rk_160 (hR.fr f508)) (e508_k4)) ?_
      refine rsr (if_pos (eqI_p (rfl) (li_0) (by omega))) ?_
      refine rsr (gtP_q (w := some 202) (rk_160 (hR.fr f508)) (rf_56 (hR.fr f508))) ?_
      refine rsr (alL_q (n := 2000) (z := u) (w := (0 : Int64)) (rk_202 (hR.fr f508)) (congrArg iI p508_0) (by omega) (p508_1.2.2.2.1)) ?_
      refine rsr (jn_v) ?_
      refine rsr (if_pos (lgc_p (rfl) (rfl) rfl)) ?_
      refine rsr (gtP_q (w := some 204) (rk_160 (hR.fr f508)) (rf_58 (hR.fr f508))) ?_
      refine rsr (alL_q (n := 2000) (z := u) (w := (tx i)) (rk_204 (hR.fr f508)) (congrArg iI p508_0) (by omega) (p508_1.2.2.2.2.2.1)) ?_
      refine rsr (vC_e (rk_160 (hR.fr f508))) ?_
      obtain ⟨rl, hrl⟩ : ∃ r, LcF Hl s (tx i) r := by have q := LcF_ex (Hl := Hl) (y := (tx i)) s.toNat; rw [show ((s.toNat : Nat) : Int) = s by omega] at q; exact q
      have brl := hrl.bd
      by_cases crl : rl = -1
      ·
        subst crl
        refine RrI (a197 (by omega) (hR.fr f508) ((g508.i _ _ (by decide)).trans (wa_51)) (lra.fr g508 (by decide)) (by omega)) fun v Nl509 hl509 => ?_
        obtain ⟨r9, rfl, hMl, hr9⟩ := hl509
        rw [hMl]
        have q9 := LcF.one hr9 hrl
        rw [q9]
        refine rsr (cI_e rfl) ?_
        refine rsr (jv_e) ?_
        try dsimp only
        refine rsr (gtI_q (w := iI ((kr (kd (i + 1))))) (rk_160 (hR.fr f508)) (e508_k1)) ?_
        refine rsr (jn_v) ?_
        refine rsr (if_pos (krI_p (k := 40) (rfl) (li_40) (by omega) (by decide +kernel))) ?_
        refine rsr (vC_e (rk_160 (hR.fr f508))) ?_
        refine Rb_VV (hCl _ _ (by omega) (by omega) T n m kd pl E tx ua ut mu _ _ G (pu U u [uc, (V Mr 201 u.toNat), (V Mr 200 u.toNat), (V Mr 203 u.toNat), (pl i), (V Mr 206 u.toNat), ut, 0, (V Mc 79 uc.toNat), (V Mc 80 uc.toNat), (V Mc 82 uc.toNat)]) Hl (pux X u [(0 : Int64), (tx i)]) (i + 1) e s (u + 1) (uc + 1) _ _ _ hS (hCx.fr f505 f508) ⟨e505_k0, e505_k2, e505_k3, (g505.i _ _ (by decide)).trans (qa_9), (g505.i _ _ (by decide)).trans (qa_16), e505_k1⟩ ⟨e508_k1, e508_k2, e508_k3, e508_k4, (g508.i _ _ (by decide)).trans (wa_43), (g508.i _ _ (by decide)).trans (wa_51), e508_k0, (g508.i _ _ (by decide)).trans (wa_50), p508_2⟩ ⟨(caa.fr g505 (by decide)), (raa.fr g508 (by decide)), (lca.fr g505 (by decide)), (lra.fr g508 (by decide)), (CU.add cua (by omega) (by omega) p505_1 rfl rfl), (RU.add rua (by omega) p508_1 rfl)⟩ ⟨by omega, by omega, by omega, by omega, by omega, by omega, by omega, by omega, by omega, by omega, by omega, by omega⟩ (x := uc) (by omega) (by omega) (pu_e (by omega)) (pu_e (by omega)) (Or.inl (pux_e (by omega))) (congrArg iI p505_0) (hv0) (cvI (congrArg iI p508_0) (by omega))) fun v Mx510 w Nx510 hx510 => ?_
        rcases hx510 with ⟨i510, e510, u510, uc510, G510, U510, X510, fl510, fr510, sc510, sr510, rw510, bd510, mv510, ag510, au510, ax510, tp510, dp510, kv510⟩ | ⟨F510, P510, fl510, fr510, tc510, tr510⟩
        ·
          have FL510 : Fr W_cp Mc Mx510 := Fr.t f505 fl510
          have FR510 : Fr W_rx Mr Nx510 := Fr.t f508 fr510
          obtain ⟨bb510_0, bb510_1, bb510_2, bb510_3, bb510_4, bb510_5, bb510_6, bb510_7, bb510_8, bb510_9, bb510_10, bb510_11⟩ := bd510
          obtain ⟨q510_12, q510_13, q510_10, q510_9, q510_16, q510_19⟩ := sc510
          obtain ⟨w510_36, w510_37, w510_38, w510_41, w510_43, w510_51, w510_53, w510_50, w510_n⟩ := sr510
          obtain ⟨ca510, ra510, lc510, lr510, cu510, ru510⟩ := rw510
          have hk511 := (hS.ok i510 (by omega) (by omega)).r
          have ku510 := KU.t (KU.us kua p505_1 g505 (by decide) (by omega)) kv510 (by omega)
          have ty512 := Tye.t (d3 := 1) ty2 ag510 tp510 (by omega)
          have du513 := DU.cu (w := u) dp510 (by omega)
          refine rsl (cV_e rfl) ?_
          refine rsr (cV_e rfl) ?_
          refine rsl (vC_e (ck_65 (hC.fr FL510))) ?_
          by_cases c514 : ((kd i510)) = 59
          ·
            have hm515 : i510 + 1 < m := hS.more i510 (by omega) (by omega) (by omega)
            refine rsl (cV_e (a64q (by omega) hS (hC.fr FL510) (hTk.fr (WL := W_cp) FL510 (by decide)) (q510_12) (q510_13) (q510_10) (li_59) (i2 := (i510 + 1)) (by omega) (by omega))) ?_
            have hk516 := (hS.ok (i510 + 1) (by omega) (by omega)).r
            refine rsl (vC_e (ck_65 (hC.fr FL510).sI.sI)) ?_
            have tb518 := Tyb.ex (dp := dp) (d := 1) (s' := s) (q := (e510 + 1)) (n1 := 0) (ut := ut) (mu := mu) (l := []) ty512 (Or.inr (Or.inr (Or.inr (Or.inl (by omega)))) : Eff 9 0 0 1 s 0 s) (by omega) ⟨by omega, by omega⟩ (by omega)
            have du519 := DU.em (q := (e510 + 1)) (o := 9) (n := 0) (p := -2) (l := [0]) du513 (by omega) (by omega)
            refine RlI (a87q (by omega) (hC.fr FL510).sI.sI ((sI_nej (by decide)).trans ((sI_nej (by decide)).trans (q510_9))) (li_9) (li_0) (q := (e510 + 1)) (by omega) (by omega)) fun v Ma520 h520 => ?_
            obtain ⟨r517, rfl, g520, e520_k0, p520_0, p520_1⟩ := h520
            have f520 : Fr W_cp Mc Ma520 := Fr.t (Fr.sI (by decide) (Fr.sI (by decide) FL510)) (Fr.m g520 (by decide))
            refine rsl (cI_e rfl) ?_
            refine rsr (vC_e (rk_160 (hR.fr FR510))) ?_
            refine RrI (a195_59 (by omega) hS (hR.fr FR510) (hT.fr (W := W_rx) FR510 (by decide) (by decide)) (fun i a b => (Fr.lc (W := W_rx) FR510 _ (by decide) _).trans (hW i a b)) (w510_36) (w510_37) (w510_38) (w510_41) (li_59) (i2 := (i510 + 1)) (by omega) (by omega)) fun v Ma522 h522 => ?_
            obtain ⟨r521, rfl, g522, e522_k0, e522_k1, e522_k2, p522_0, p522_1⟩ := h522
            have f522 : Fr W_rx Mr Ma522 := Fr.t FR510 (Fr.m g522 (by decide))
            refine rsr (cI_e rfl) ?_
            refine rsr (vC_e (rk_160 (hR.fr f522))) ?_
            refine RrI (a196q (by omega) (hR.fr f522) ((g522.i _ _ (by decide)).trans (w510_43)) ((g522.i _ _ (by decide)).trans ((FR510.i _ _ (by decide)).trans h49)) ((g522.i _ _ (by decide)).trans ((FR510.i _ _ (by decide)).trans h48)) (li_9) (li_0) (q := (e510 + 1)) (by omega) (by omega)) fun v Ma524 h524 => ?_
            obtain ⟨r523, rfl, g524, e524_k0, p524_0, p524_1⟩ := h524
            have f524 : Fr W_rx Mr Ma524 := Fr.t f522 (Fr.m g524 (by decide))
            refine rsr (cI_e rfl) ?_
            refine rsr (jv_e) ?_
            exact Rs.ok (Or.inl ⟨(i510 + 1), s, Hl, ⟨(e510 + 1), u510, uc510, (pu G510 e510 [9, 0, -2, 0, ut, mu, 0]), U510, X510, f520, f524, ⟨(g520.i _ _ (by decide)).trans ((sI_nej (by decide)).trans (sI_eq)), (g520.i _ _ (by decide)).trans (sI_eq), (g520.i _ _ (by decide)).trans ((sI_nej (by decide)).trans ((sI_nej (by decide)).trans (q510_10))), e520_k0, (g520.i _ _ (by decide)).trans ((sI_nej (by decide)).trans ((sI_nej (by decide)).trans (q510_16))), (g520.i _ _ (by decide)).trans ((sI_nej (by decide)).trans ((sI_nej (by decide)).trans (q510_19)))⟩, ⟨(g524.i _ _ (by decide)).trans (e522_k0), (g524.i _ _ (by decide)).trans (e522_k1), (g524.i _ _ (by decide)).trans (e522_k2), (g524.i _ _ (by decide)).trans ((g522.i _ _ (by decide)).trans (w510_41)), e524_k0, (g524.i _ _ (by decide)).trans ((g522.i _ _ (by decide)).trans (w510_51)), (g524.i _ _ (by decide)).trans ((g522.i _ _ (by decide)).trans (w510_53)), (g524.i _ _ (by decide)).trans ((g522.i _ _ (by decide)).trans (w510_50)), (p522_1.fr g524 (by decide) (by decide))⟩, ⟨(CA1.em (q := (e510 + 1)) (ca510.fr (W := W_c0) (Fr.sI (by decide) (Fr.sI (by decide) Fr.r)) (by decide)) (by omega) p520_1 (by omega)), (RA1.em (q := (e510 + 1)) (ra510.fr g522 (by decide)) (by omega) p524_1 (by omega)), ((lc510.fr (W := W_c0) (Fr.sI (by decide) (Fr.sI (by decide) Fr.r)) (by decide)).fr g520 (by decide)), ((lr510.fr g522 (by decide)).fr g524 (by decide)), ((cu510.fr (W := W_c0) (Fr.sI (by decide) (Fr.sI (by decide) Fr.r)) (by decide)).fr g520 (by decide)), ((ru510.fr g522 (by decide)).fr g524 (by decide))⟩, ⟨by omega, by omega, by omega, by omega, by omega, by omega, by omega, by omega, by omega, by omega, by omega, by omega⟩, ⟨by omega, by omega, by omega, by omega, by omega, by omega⟩, (Ag.pu (Ag.t Ag.r ag510 (by omega)) (by omega)), (Ag.t (Ag.pu Ag.r (by omega)) au510 (by omega)), (AgL.t (AgL.pu AgL.r (by omega)) ax510 (by omega)), tb518, du519, ((ku510.fr (W := W_c0) (Fr.sI (by decide) (Fr.sI (by decide) Fr.r)) (by decide)).fr g520 (by decide)), ⟨by omega, fun _ _ _ => rfl⟩⟩⟩)
          ·
            by_cases c525 : ((kd i510)) = 1
            ·
              refine rsl (cV_e (a64_1 (by omega) hS (hC.fr FL510) (hTk.fr (WL := W_cp) FL510 (by decide)) (q510_12) (q510_13) (q510_10) (li_59) (by omega))) ?_
              refine rsl (vC_e (ck_65 (hC.fr FL510).sI.sI.sI)) ?_
              refine RlI (y87 (by omega) (hC.fr FL510).sI.sI.sI (hTk.fr (WL := W_cp) (Fr.sI (by decide) (Fr.sI (by decide) (Fr.sI (by decide) FL510))) (by decide)) ((sI_nej (by decide)).trans ((sI_nej (by decide)).trans ((sI_nej (by decide)).trans (q510_12)))) (sI_eq) ((sI_nej (by decide)).trans ((sI_nej (by decide)).trans (sI_eq))) ((sI_nej (by decide)).trans (sI_eq)) ((sI_nej (by decide)).trans ((sI_nej (by decide)).trans ((sI_nej (by decide)).trans (q510_9)))) ((sI_nej (by decide)).trans ((sI_nej (by decide)).trans ((sI_nej (by decide)).trans (q510_16)))) ((sI_nej (by decide)).trans ((sI_nej (by decide)).trans ((sI_nej (by decide)).trans (q510_19)))) (li_9) (li_0) (by omega)) fun v Ma527 h527 => ?_
              obtain ⟨rv526, sz526, sn526, uc526, rfl, g527, e527_sz526, e527_sn526, e527_uc526, e527_k0, e527_k1, e527_k2, e527_k3, p527_0, p527_1, p527_2, p527_3⟩ := h527
              have f527 : Fr W_cp Mc Ma527 := Fr.t (Fr.sI (by decide) (Fr.sI (by decide) (Fr.sI (by decide) FL510))) (Fr.m g527 (by decide))
              refine rsl (cI_e rfl) ?_
              refine rsr (vC_e (rk_160 (hR.fr FR510))) ?_
              refine rsr (cI_e (a195_59_1 (by omega) hS (hR.fr FR510) (w510_36) (w510_37) (w510_41) (li_59) (by omega))) ?_
              refine rsr (vC_e (rk_160 (hR.fr FR510).sI.sI)) ?_
              refine RrI (x196_s (by omega) (hR.fr FR510).sI.sI ((sI_nej (by decide)).trans (sI_eq)) (sI_eq) ((sI_nej (by decide)).trans ((sI_nej (by decide)).trans (w510_43))) ((sI_nej (by decide)).trans ((sI_nej (by decide)).trans (w510_51))) ((sI_nej (by decide)).trans ((sI_nej (by decide)).trans (w510_53))) ((sI_nej (by decide)).trans ((sI_nej (by decide)).trans ((FR510.i _ _ (by decide)).trans h48))) ((sI_nej (by decide)).trans ((sI_nej (by decide)).trans ((FR510.i _ _ (by decide)).trans h49))) (li_9) (li_0) (by omega)) fun v Ma529 h529 => ?_
              obtain ⟨rv528, em528, rfl, g529, e529_em528, e529_k0, e529_k1, e529_k2, e529_k3, e529_k4, p529_0, p529_1⟩ := h529
              have f529 : Fr W_rp Mr Ma529 := Fr.t (Fr.sI (by decide) (Fr.sI (by decide) (Fr.m FR510 (by decide)))) (Fr.m g529 (by decide))
              refine rsr (cI_e rfl) ?_
              refine rsr (jv_e) ?_
              exact Rs.ok (Or.inr ⟨1, ((pl i510)), f527, f529, ⟨i510, sz526, sn526, uc526, e527_k0, e527_k1, e527_k2, e527_k3, e527_sz526, e527_sn526, e527_uc526, by omega⟩, ⟨em528, s, u510, mu, ut, e529_k0, e529_k1, e529_em528, e529_k2, e529_k3, e529_k4, (g529.i _ _ (by decide)).trans ((sI_nej (by decide)).trans ((sI_nej (by decide)).trans ((FR510.i _ _ (by decide)).trans h49))), by omega⟩⟩)
            ·
              refine rsl (cV_e (a64_2 (by omega) hS (hC.fr FL510) (hTk.fr (WL := W_cp) FL510 (by decide)) (q510_12) (q510_13) (q510_10) (li_59) (by omega))) ?_
              refine rsl (vC_e (ck_65 (hC.fr FL510).sI.sI.sI)) ?_
              refine RlI (y87 (by omega) (hC.fr FL510).sI.sI.sI (hTk.fr (WL := W_cp) (Fr.sI (by decide) (Fr.sI (by decide) (Fr.sI (by decide) FL510))) (by decide)) ((sI_nej (by decide)).trans ((sI_nej (by decide)).trans ((sI_nej (by decide)).trans (q510_12)))) (sI_eq) ((sI_nej (by decide)).trans ((sI_nej (by decide)).trans (sI_eq))) ((sI_nej (by decide)).trans (sI_eq)) ((sI_nej (by decide)).trans ((sI_nej (by decide)).trans ((sI_nej (by decide)).trans (q510_9)))) ((sI_nej (by decide)).trans ((sI_nej (by decide)).trans ((sI_nej (by decide)).trans (q510_16)))) ((sI_nej (by decide)).trans ((sI_nej (by decide)).trans ((sI_nej (by decide)).trans (q510_19)))) (li_9) (li_0) (by omega)) fun v Ma531 h531 => ?_
              obtain ⟨rv530, sz530, sn530, uc530, rfl, g531, e531_sz530, e531_sn530, e531_uc530, e531_k0, e531_k1, e531_k2, e531_k3, p531_0, p531_1, p531_2, p531_3⟩ := h531
              have f531 : Fr W_cp Mc Ma531 := Fr.t (Fr.sI (by decide) (Fr.sI (by decide) (Fr.sI (by decide) FL510))) (Fr.m g531 (by decide))
              refine rsl (cI_e rfl) ?_
              refine rsr (vC_e (rk_160 (hR.fr FR510))) ?_
              refine rsr (cI_e (a195_59_2 (by omega) hS (hR.fr FR510) (w510_36) (w510_37) (w510_41) (li_59) (by omega))) ?_
              refine rsr (vC_e (rk_160 (hR.fr FR510).sI.sI)) ?_
              refine RrI (x196_s (by omega) (hR.fr FR510).sI.sI ((sI_nej (by decide)).trans (sI_eq)) (sI_eq) ((sI_nej (by decide)).trans ((sI_nej (by decide)).trans (w510_43))) ((sI_nej (by decide)).trans ((sI_nej (by decide)).trans (w510_51))) ((sI_nej (by decide)).trans ((sI_nej (by decide)).trans (w510_53))) ((sI_nej (by decide)).trans ((sI_nej (by decide)).trans ((FR510.i _ _ (by decide)).trans h48))) ((sI_nej (by decide)).trans ((sI_nej (by decide)).trans ((FR510.i _ _ (by decide)).trans h49))) (li_9) (li_0) (by omega)) fun v Ma533 h533 => ?_
              obtain ⟨rv532, em532, rfl, g533, e533_em532, e533_k0, e533_k1, e533_k2, e533_k3, e533_k4, p533_0, p533_1⟩ := h533
              have f533 : Fr W_rp Mr Ma533 := Fr.t (Fr.sI (by decide) (Fr.sI (by decide) (Fr.m FR510 (by decide)))) (Fr.m g533 (by decide))
              refine rsr (cI_e rfl) ?_
              refine rsr (jv_e) ?_
              exact Rs.ok (Or.inr ⟨2, ((pl i510)), f531, f533, ⟨i510, sz530, sn530, uc530, e531_k0, e531_k1, e531_k2, e531_k3, e531_sz530, e531_sn530, e531_uc530, by omega⟩, ⟨em532, s, u510, mu, ut, e533_k0, e533_k1, e533_em532, e533_k2, e533_k3, e533_k4, (g533.i _ _ (by decide)).trans ((sI_nej (by decide)).trans ((sI_nej (by decide)).trans ((FR510.i _ _ (by decide)).trans h49))), by omega⟩⟩)
        ·
          have FL510 : Fr W_cp Mc Mx510 := Fr.t f505 fl510
          have FR510 : Fr W_rp Mr Nx510 := Fr.t (Fr.m f508 W_rx_p) fr510
          obtain ⟨ti510, tz510, tn510, tu510, t13510, t10510, t11510, t12510, t9510, t16510, t19510, tb510⟩ := tc510
          obtain ⟨re510, rn510, ru510, rm510, rt510, u41510, u42510, u43510, u51510, u53510, u48510, u49510, ub510⟩ := tr510
          refine rsl (cV_e rfl) ?_
          refine rsr (cV_e rfl) ?_
          refine rsl (vC_e (ck_65 (hC.fr FL510))) ?_
          refine RlV (y64 (by omega) (hC.fr FL510) (hTk.fr (WL := W_cp) FL510 (by decide)) (t12510) (t13510) (t10510) (t11510) (t9510) (t16510) (t19510) (li_59) (by omega)) fun v Ma535 h535 => ?_
          obtain ⟨sz534, sn534, uc534, g535, e535_sz534, e535_sn534, e535_uc534, e535_k0, e535_k1, e535_k2, e535_k3, p535_0, p535_1, p535_2⟩ := h535
          have f535 : Fr W_cp Mc Ma535 := Fr.t FL510 (Fr.m g535 (by decide))
          refine rsl (cV_e rfl) ?_
          refine rsl (vC_e (ck_65 (hC.fr f535))) ?_
          refine RlI (y87 (by omega) (hC.fr f535) (hTk.fr (WL := W_cp) f535 (by decide)) (e535_k3) (e535_k0) (e535_k1) (e535_k2) (e535_sz534) (e535_sn534) (e535_uc534) (li_9) (li_0) (by omega)) fun v Ma537 h537 => ?_
          obtain ⟨rv536, sz536, sn536, uc536, rfl, g537, e537_sz536, e537_sn536, e537_uc536, e537_k0, e537_k1, e537_k2, e537_k3, p537_0, p537_1, p537_2, p537_3⟩ := h537
          have f537 : Fr W_cp Mc Ma537 := Fr.t f535 (Fr.m g537 (by decide))
          refine rsl (cI_e rfl) ?_
          refine rsr (vC_e (rk_160 (hR.fr FR510))) ?_
          refine RrI (x195_s (by omega) (hR.fr FR510) (u41510) (u42510) (u43510) (u51510) (u53510) (u48510) (u49510) (li_59) (by omega)) fun v Ma539 h539 => ?_
          obtain ⟨rv538, em538, rfl, g539, e539_em538, e539_k0, e539_k1, e539_k2, e539_k3, e539_k4, p539_0, p539_1⟩ := h539
          have f539 : Fr W_rp Mr Ma539 := Fr.t FR510 (Fr.m g539 (by decide))
          refine rsr (cI_e rfl) ?_
          refine rsr (vC_e (rk_160 (hR.fr f539))) ?_
          refine RrI (x196_s (by omega) (hR.fr f539) (e539_k0) (e539_k1) (e539_em538) (e539_k2) (e539_k3) (e539_k4) ((g539.i _ _ (by decide)).trans (u49510)) (li_9) (li_0) (by omega)) fun v Ma541 h541 => ?_
          obtain ⟨rv540, em540, rfl, g541, e541_em540, e541_k0, e541_k1, e541_k2, e541_k3, e541_k4, p541_0, p541_1⟩ := h541
          have f541 : Fr W_rp Mr Ma541 := Fr.t f539 (Fr.m g541 (by decide))
          refine rsr (cI_e rfl) ?_
          refine rsr (jv_e) ?_
          exact Rs.ok (Or.inr ⟨F510, P510, f537, f541, ⟨ti510, sz536, sn536, uc536, e537_k0, e537_k1, e537_k2, e537_k3, e537_sz536, e537_sn536, e537_uc536, by omega⟩, ⟨em540, rn510, ru510, rm510, rt510, e541_k0, e541_k1, e541_em540, e541_k2, e541_k3, e541_k4, (g541.i _ _ (by decide)).trans ((g539.i _ _ (by decide)).trans (u49510)), by omega⟩⟩)
      ·
        refine RrI (a197 (by omega) (hR.fr f508) ((g508.i _ _ (by decide)).trans (wa_51)) (lra.fr g508 (by decide)) (by omega)) fun v Nl509 hl509 => ?_
        obtain ⟨r9, rfl, hMl, hr9⟩ := hl509
        rw [hMl]
        have q9 := LcF.one hr9 hrl
        rw [q9]
        refine rsr (cI_e rfl) ?_
        refine rsr (jv_e) ?_
        try dsimp only
        refine rsr (gtI_q (w := iI ((kr (kd (i + 1))))) (rk_160 (hR.fr f508)) (e508_k1)) ?_
        refine rsr (jn_v) ?_
        refine rsr (if_pos (krI_p (k := 40) (rfl) (li_40) (by omega) (by decide +kernel))) ?_
        refine rsr (vC_e (rk_160 (hR.fr f508))) ?_
        refine Rb_VV (hCl _ _ (by omega) (by omega) T n m kd pl E tx ua ut mu _ _ G (pu U u [uc, (V Mr 201 u.toNat), (V Mr 200 u.toNat), (V Mr 203 u.toNat), (pl i), (V Mr 206 u.toNat), ut, 0, (V Mc 79 uc.toNat), (V Mc 80 uc.toNat), (V Mc 82 uc.toNat)]) Hl (pux X u [(0 : Int64), (tx i)]) (i + 1) e s (u + 1) (uc + 1) _ _ _ hS (hCx.fr f505 f508) ⟨e505_k0, e505_k2, e505_k3, (g505.i _ _ (by decide)).trans (qa_9), (g505.i _ _ (by decide)).trans (qa_16), e505_k1⟩ ⟨e508_k1, e508_k2, e508_k3, e508_k4, (g508.i _ _ (by decide)).trans (wa_43), (g508.i _ _ (by decide)).trans (wa_51), e508_k0, (g508.i _ _ (by decide)).trans (wa_50), p508_2⟩ ⟨(caa.fr g505 (by decide)), (raa.fr g508 (by decide)), (lca.fr g505 (by decide)), (lra.fr g508 (by decide)), (CU.add cua (by omega) (by omega) p505_1 rfl rfl), (RU.add rua (by omega) p508_1 rfl)⟩ ⟨by omega, by omega, by omega, by omega, by omega, by omega, by omega, by omega, by omega, by omega, by omega, by omega⟩ (x := uc) (by omega) (by omega) (pu_e (by omega)) (pu_e (by omega)) (Or.inl (pux_e (by omega))) (congrArg iI p505_0) (hv0) (cvI (congrArg iI p508_0) (by omega))) fun v Mx542 w Nx542 hx542 => ?_
        rcases hx542 with ⟨i542, e542, u542, uc542, G542, U542, X542, fl542, fr542, sc542, sr542, rw542, bd542, mv542, ag542, au542, ax542, tp542, dp542, kv542⟩ | ⟨F542, P542, fl542, fr542, tc542, tr542⟩
        ·
          have FL542 : Fr W_cp Mc Mx542 := Fr.t f505 fl542
          have FR542 : Fr W_rx Mr Nx542 := Fr.t f508 fr542
          obtain ⟨bb542_0, bb542_1, bb542_2, bb542_3, bb542_4, bb542_5, bb542_6, bb542_7, bb542_8, bb542_9, bb542_10, bb542_11⟩ := bd542
          obtain ⟨q542_12, q542_13, q542_10, q542_9, q542_16, q542_19⟩ := sc542
          obtain ⟨w542_36, w542_37, w542_38, w542_41, w542_43, w542_51, w542_53, w542_50, w542_n⟩ := sr542
          obtain ⟨ca542, ra542, lc542, lr542, cu542, ru542⟩ := rw542
          have hk543 := (hS.ok i542 (by omega) (by omega)).r
          have ku542 := KU.t (KU.us kua p505_1 g505 (by decide) (by omega)) kv542 (by omega)
          have ty544 := Tye.t (d3 := 1) ty2 ag542 tp542 (by omega)
          have du545 := DU.cu (w := u) dp542 (by omega)
          refine rsl (cV_e rfl) ?_
          refine rsr (cV_e rfl) ?_
          refine rsl (vC_e (ck_65 (hC.fr FL542))) ?_
          by_cases c546 : ((kd i542)) = 59
          ·
            have hm547 : i542 + 1 < m := hS.more i542 (by omega) (by omega) (by omega)
            refine rsl (cV_e (a64q (by omega) hS (hC.fr FL542) (hTk.fr (WL := W_cp) FL542 (by decide)) (q542_12) (q542_13) (q542_10) (li_59) (i2 := (i542 + 1)) (by omega) (by omega))) ?_
            have hk548 := (hS.ok (i542 + 1) (by omega) (by omega)).r
            refine rsl (vC_e (ck_65 (hC.fr FL542).sI.sI)) ?_
            have tb550 := Tyb.ex (dp := dp) (d := 1) (s' := s) (q := (e542 + 1)) (n1 := 0) (ut := ut) (mu := mu) (l := []) ty544 (Or.inr (Or.inr (Or.inr (Or.inl (by omega)))) : Eff 9 0 0 1 s 0 s) (by omega) ⟨by omega, by omega⟩ (by omega)
            have du551 := DU.em (q := (e542 + 1)) (o := 9) (n := 0) (p := -2) (l := [0]) du545 (by omega) (by omega)
            refine RlI (a87q (by omega) (hC.fr FL542).sI.sI ((sI_nej (by decide)).trans ((sI_nej (by decide)).trans (q542_9))) (li_9) (li_0) (q := (e542 + 1)) (by omega) (by omega)) fun v Ma552 h552 => ?_
            obtain ⟨r549, rfl, g552, e552_k0, p552_0, p552_1⟩ := h552
            have f552 : Fr W_cp Mc Ma552 := Fr.t (Fr.sI (by decide) (Fr.sI (by decide) FL542)) (Fr.m g552 (by decide))
            refine rsl (cI_e rfl) ?_
            refine rsr (vC_e (rk_160 (hR.fr FR542))) ?_
            refine RrI (a195_59 (by omega) hS (hR.fr FR542) (hT.fr (W := W_rx) FR542 (by decide) (by decide)) (fun i a b => (Fr.lc (W := W_rx) FR542 _ (by decide) _).trans (hW i a b)) (w542_36) (w542_37) (w542_38) (w542_41) (li_59) (i2 := (i542 + 1)) (by omega) (by omega)) fun v Ma554 h554 => ?_
            obtain ⟨r553, rfl, g554, e554_k0, e554_k1, e554_k2, p554_0, p554_1⟩ := h554
            have f554 : Fr W_rx Mr Ma554 := Fr.t FR542 (Fr.m g554 (by decide))
            refine rsr (cI_e rfl) ?_
            refine rsr (vC_e (rk_160 (hR.fr f554))) ?_
            refine RrI (a196q (by omega) (hR.fr f554) ((g554.i _ _ (by decide)).trans (w542_43)) ((g554.i _ _ (by decide)).trans ((FR542.i _ _ (by decide)).trans h49)) ((g554.i _ _ (by decide)).trans ((FR542.i _ _ (by decide)).trans h48)) (li_9) (li_0) (q := (e542 + 1)) (by omega) (by omega)) fun v Ma556 h556 => ?_
            obtain ⟨r555, rfl, g556, e556_k0, p556_0, p556_1⟩ := h556
            have f556 : Fr W_rx Mr Ma556 := Fr.t f554 (Fr.m g556 (by decide))
            refine rsr (cI_e rfl) ?_
            refine rsr (jv_e) ?_
            exact Rs.ok (Or.inl ⟨(i542 + 1), s, Hl, ⟨(e542 + 1), u542, uc542, (pu G542 e542 [9, 0, -2, 0, ut, mu, 0]), U542, X542, f552, f556, ⟨(g552.i _ _ (by decide)).trans ((sI_nej (by decide)).trans (sI_eq)), (g552.i _ _ (by decide)).trans (sI_eq), (g552.i _ _ (by decide)).trans ((sI_nej (by decide)).trans ((sI_nej (by decide)).trans (q542_10))), e552_k0, (g552.i _ _ (by decide)).trans ((sI_nej (by decide)).trans ((sI_nej (by decide)).trans (q542_16))), (g552.i _ _ (by decide)).trans ((sI_nej (by decide)).trans ((sI_nej (by decide)).trans (q542_19)))⟩, ⟨(g556.i _ _ (by decide)).trans (e554_k0), (g556.i _ _ (by decide)).trans (e554_k1), (g556.i _ _ (by decide)).trans (e554_k2), (g556.i _ _ (by decide)).trans ((g554.i _ _ (by decide)).trans (w542_41)), e556_k0, (g556.i _ _ (by decide)).trans ((g554.i _ _ (by decide)).trans (w542_51)), (g556.i _ _ (by decide)).trans ((g554.i _ _ (by decide)).trans (w542_53)), (g556.i _ _ (by decide)).trans ((g554.i _ _ (by decide)).trans (w542_50)), (p554_1.fr g556 (by decide) (by decide))⟩, ⟨(CA1.em (q := (e542 + 1)) (ca542.fr (W := W_c0) (Fr.sI (by decide) (Fr.sI (by decide) Fr.r)) (by decide)) (by omega) p552_1 (by omega)), (RA1.em (q := (e542 + 1)) (ra542.fr g554 (by decide)) (by omega) p556_1 (by omega)), ((lc542.fr (W := W_c0) (Fr.sI (by decide) (Fr.sI (by decide) Fr.r)) (by decide)).fr g552 (by decide)), ((lr542.fr g554 (by decide)).fr g556 (by decide)), ((cu542.fr (W := W_c0) (Fr.sI (by decide) (Fr.sI (by decide) Fr.r)) (by decide)).fr g552 (by decide)), ((ru542.fr g554 (by decide)).fr g556 (by decide))⟩, ⟨by omega, by omega, by omega, by omega, by omega, by omega, by omega, by omega, by omega, by omega, by omega, by omega⟩, ⟨by omega, by omega, by omega, by omega, by omega, by omega⟩, (Ag.pu (Ag.t Ag.r ag542 (by omega)) (by omega)), (Ag.t (Ag.pu Ag.r (by omega)) au542 (by omega)), (AgL.t (AgL.pu AgL.r (by omega)) ax542 (by omega)), tb550, du551, ((ku542.fr (W := W_c0) (Fr.sI (by decide) (Fr.sI (by decide) Fr.r)) (by decide)).fr g552 (by decide)), ⟨by omega, fun _ _ _ => rfl⟩⟩⟩)
          ·
            by_cases c557 : ((kd i542)) = 1
            ·
              refine rsl (cV_e (a64_1 (by omega) hS (hC.fr FL542) (hTk.fr (WL := W_cp) FL542 (by decide)) (q542_12) (q542_13) (q542_10) (li_59) (by omega))) ?_
              refine rsl (vC_e (ck_65 (hC.fr FL542).sI.sI.sI)) ?_
              refine RlI (y87 (by omega) (hC.fr FL542).sI.sI.sI (hTk.fr (WL := W_cp) (Fr.sI (by decide) (Fr.sI (by decide) (Fr.sI (by decide) FL542))) (by decide)) ((sI_nej (by decide)).trans ((sI_nej (by decide)).trans ((sI_nej (by decide)).trans (q542_12)))) (sI_eq) ((sI_nej (by decide)).trans ((sI_nej (by decide)).trans (sI_eq))) ((sI_nej (by decide)).trans (sI_eq)) ((sI_nej (by decide)).trans ((sI_nej (by decide)).trans ((sI_nej (by decide)).trans (q542_9)))) ((sI_nej (by decide)).trans ((sI_nej (by decide)).trans ((sI_nej (by decide)).trans (q542_16)))) ((sI_nej (by decide)).trans ((sI_nej (by decide)).trans ((sI_nej (by decide)).trans (q542_19)))) (li_9) (li_0) (by omega)) fun v Ma559 h559 => ?_
              obtain ⟨rv558, sz558, sn558, uc558, rfl, g559, e559_sz558, e559_sn558, e559_uc558, e559_k0, e559_k1, e559_k2, e559_k3, p559_0, p559_1, p559_2, p559_3⟩ := h559
              have f559 : Fr W_cp Mc Ma559 := Fr.t (Fr.sI (by decide) (Fr.sI (by decide) (Fr.sI (by decide) FL542))) (Fr.m g559 (by decide))
              refine rsl (cI_e rfl) ?_
              refine rsr (vC_e (rk_160 (hR.fr FR542))) ?_
              refine rsr (cI_e (a195_59_1 (by omega) hS (hR.fr FR542) (w542_36) (w542_37) (w542_41) (li_59) (by omega))) ?_
              refine rsr (vC_e (rk_160 (hR.fr FR542).sI.sI)) ?_
              refine RrI (x196_s (by omega) (hR.fr FR542).sI.sI ((sI_nej (by decide)).trans (sI_eq)) (sI_eq) ((sI_nej (by decide)).trans ((sI_nej (by decide)).trans (w542_43))) ((sI_nej (by decide)).trans ((sI_nej (by decide)).trans (w542_51))) ((sI_nej (by decide)).trans ((sI_nej (by decide)).trans (w542_53))) ((sI_nej (by decide)).trans ((sI_nej (by decide)).trans ((FR542.i _ _ (by decide)).trans h48))) ((sI_nej (by decide)).trans ((sI_nej (by decide)).trans ((FR542.i _ _ (by decide)).trans h49))) (li_9) (li_0) (by omega)) fun v Ma561 h561 => ?_
              obtain ⟨rv560, em560, rfl, g561, e561_em560, e561_k0, e561_k1, e561_k2, e561_k3, e561_k4, p561_0, p561_1⟩ := h561
              have f561 : Fr W_rp Mr Ma561 := Fr.t (Fr.sI (by decide) (Fr.sI (by decide) (Fr.m FR542 (by decide)))) (Fr.m g561 (by decide))
              refine rsr (cI_e rfl) ?_
              refine rsr (jv_e) ?_
              exact Rs.ok (Or.inr ⟨1, ((pl i542)), f559, f561, ⟨i542, sz558, sn558, uc558, e559_k0, e559_k1, e559_k2, e559_k3, e559_sz558, e559_sn558, e559_uc558, by omega⟩, ⟨em560, s, u542, mu, ut, e561_k0, e561_k1, e561_em560, e561_k2, e561_k3, e561_k4, (g561.i _ _ (by decide)).trans ((sI_nej (by decide)).trans ((sI_nej (by decide)).trans ((FR542.i _ _ (by decide)).trans h49))), by omega⟩⟩)
            ·
              refine rsl (cV_e (a64_2 (by omega) hS (hC.fr FL542) (hTk.fr (WL := W_cp) FL542 (by decide)) (q542_12) (q542_13) (q542_10) (li_59) (by omega))) ?_
              refine rsl (vC_e (ck_65 (hC.fr FL542).sI.sI.sI)) ?_
              refine RlI (y87 (by omega) (hC.fr FL542).sI.sI.sI (hTk.fr (WL := W_cp) (Fr.sI (by decide) (Fr.sI (by decide) (Fr.sI (by decide) FL542))) (by decide)) ((sI_nej (by decide)).trans ((sI_nej (by decide)).trans ((sI_nej (by decide)).trans (q542_12)))) (sI_eq) ((sI_nej (by decide)).trans ((sI_nej (by decide)).trans (sI_eq))) ((sI_nej (by decide)).trans (sI_eq)) ((sI_nej (by decide)).trans ((sI_nej (by decide)).trans ((sI_nej (by decide)).trans (q542_9)))) ((sI_nej (by decide)).trans ((sI_nej (by decide)).trans ((sI_nej (by decide)).trans (q542_16)))) ((sI_nej (by decide)).trans ((sI_nej (by decide)).trans ((sI_nej (by decide)).trans (q542_19)))) (li_9) (li_0) (by omega)) fun v Ma563 h563 => ?_
              obtain ⟨rv562, sz562, sn562, uc562, rfl, g563, e563_sz562, e563_sn562, e563_uc562, e563_k0, e563_k1, e563_k2, e563_k3, p563_0, p563_1, p563_2, p563_3⟩ := h563
              have f563 : Fr W_cp Mc Ma563 := Fr.t (Fr.sI (by decide) (Fr.sI (by decide) (Fr.sI (by decide) FL542))) (Fr.m g563 (by decide))
              refine rsl (cI_e rfl) ?_
              refine rsr (vC_e (rk_160 (hR.fr FR542))) ?_
              refine rsr (cI_e (a195_59_2 (by omega) hS (hR.fr FR542) (w542_36) (w542_37) (w542_41) (li_59) (by omega))) ?_
              refine rsr (vC_e (rk_160 (hR.fr FR542).sI.sI)) ?_
              refine RrI (x196_s (by omega) (hR.fr FR542).sI.sI ((sI_nej (by decide)).trans (sI_eq)) (sI_eq) ((sI_nej (by decide)).trans ((sI_nej (by decide)).trans (w542_43))) ((sI_nej (by decide)).trans ((sI_nej (by decide)).trans (w542_51))) ((sI_nej (by decide)).trans ((sI_nej (by decide)).trans (w542_53))) ((sI_nej (by decide)).trans ((sI_nej (by decide)).trans ((FR542.i _ _ (by decide)).trans h48))) ((sI_nej (by decide)).trans ((sI_nej (by decide)).trans ((FR542.i _ _ (by decide)).trans h49))) (li_9) (li_0) (by omega)) fun v Ma565 h565 => ?_
              obtain ⟨rv564, em564, rfl, g565, e565_em564, e565_k0, e565_k1, e565_k2, e565_k3, e565_k4, p565_0, p565_1⟩ := h565
              have f565 : Fr W_rp Mr Ma565 := Fr.t (Fr.sI (by decide) (Fr.sI (by decide) (Fr.m FR542 (by decide)))) (Fr.m g565 (by decide))
              refine rsr (cI_e rfl) ?_
              refine rsr (jv_e) ?_
              exact Rs.ok (Or.inr ⟨2, ((pl i542)), f563, f565, ⟨i542, sz562, sn562, uc562, e563_k0, e563_k1, e563_k2, e563_k3, e563_sz562, e563_sn562, e563_uc562, by omega⟩, ⟨em564, s, u542, mu, ut, e565_k0, e565_k1, e565_em564, e565_k2, e565_k3, e565_k4, (g565.i _ _ (by decide)).trans ((sI_nej (by decide)).trans ((sI_nej (by decide)).trans ((FR542.i _ _ (by decide)).trans h49))), by omega⟩⟩)
        ·
          have FL542 : Fr W_cp Mc Mx542 := Fr.t f505 fl542
          have FR542 : Fr W_rp Mr Nx542 := Fr.t (Fr.m f508 W_rx_p) fr542
          obtain ⟨ti542, tz542, tn542, tu542, t13542, t10542, t11542, t12542, t9542, t16542, t19542, tb542⟩ := tc542
          obtain ⟨re542, rn542, ru542, rm542, rt542, u41542, u42542, u43542, u51542, u53542, u48542, u49542, ub542⟩ := tr542
          refine rsl (cV_e rfl) ?_
          refine rsr (cV_e rfl) ?_
          refine rsl (vC_e (ck_65 (hC.fr FL542))) ?_
          refine RlV (y64 (by omega) (hC.fr FL542) (hTk.fr (WL := W_cp) FL542 (by decide)) (t12542) (t13542) (t10542) (t11542) (t9542) (t16542) (t19542) (li_59) (by omega)) fun v Ma567 h567 => ?_
          obtain ⟨sz566, sn566, uc566, g567, e567_sz566, e567_sn566, e567_uc566, e567_k0, e567_k1, e567_k2, e567_k3, p567_0, p567_1, p567_2⟩ := h567
          have f567 : Fr W_cp Mc Ma567 := Fr.t FL542 (Fr.m g567 (by decide))
          refine rsl (cV_e rfl) ?_
          refine rsl (vC_e (ck_65 (hC.fr f567))) ?_
          refine RlI (y87 (by omega) (hC.fr f567) (hTk.fr (WL := W_cp) f567 (by decide)) (e567_k3) (e567_k0) (e567_k1) (e567_k2) (e567_sz566) (e567_sn566) (e567_uc566) (li_9) (li_0) (by omega)) fun v Ma569 h569 => ?_
          obtain ⟨rv568, sz568, sn568, uc568, rfl, g569, e569_sz568, e569_sn568, e569_uc568, e569_k0, e569_k1, e569_k2, e569_k3, p569_0, p569_1, p569_2, p569_3⟩ := h569
          have f569 : Fr W_cp Mc Ma569 := Fr.t f567 (Fr.m g569 (by decide))
          refine rsl (cI_e rfl) ?_
          refine rsr (vC_e (rk_160 (hR.fr FR542))) ?_
          refine RrI (x195_s (by omega) (hR.fr FR542) (u41542) (u42542) (u43542) (u51542) (u53542) (u48542) (u49542) (li_59) (by omega)) fun v Ma571 h571 => ?_
          obtain ⟨rv570, em570, rfl, g571, e571_em570, e571_k0, e571_k1, e571_k2, e571_k3, e571_k4, p571_0, p571_1⟩ := h571
          have f571 : Fr W_rp Mr Ma571 := Fr.t FR542 (Fr.m g571 (by decide))
          refine rsr (cI_e rfl) ?_
          refine rsr (vC_e (rk_160 (hR.fr f571))) ?_
          refine RrI (x196_s (by omega) (hR.fr f571) (e571_k0) (e571_k1) (e571_em570) (e571_k2) (e571_k3) (e571_k4) ((g571.i _ _ (by decide)).trans (u49542)) (li_9) (li_0) (by omega)) fun v Ma573 h573 => ?_
          obtain ⟨rv572, em572, rfl, g573, e573_em572, e573_k0, e573_k1, e573_k2, e573_k3, e573_k4, p573_0, p573_1⟩ := h573
          have f573 : Fr W_rp Mr Ma573 := Fr.t f571 (Fr.m g573 (by decide))
          refine rsr (cI_e rfl) ?_
          refine rsr (jv_e) ?_
          exact Rs.ok (Or.inr ⟨F542, P542, f569, f573, ⟨ti542, sz568, sn568, uc568, e569_k0, e569_k1, e569_k2, e569_k3, e569_sz568, e569_sn568, e569_uc568, by omega⟩, ⟨em572, rn542, ru542, rm542, rt542, e573_k0, e573_k1, e573_em572, e573_k2, e573_k3, e573_k4, (g573.i _ _ (by decide)).trans ((g571.i _ _ (by decide)).trans (u49542)), by omega⟩⟩)
    · refine rsl (if_neg (eqI_n (rfl) (li_40) (by omega))) ?_
      refine rsl (gtI_q (w := iI ((kd (i + 1)))) (ck_65 (hC.fr f505)) (e505_k2)) ?_
      refine rsl (jn_v) ?_
      by_cases c574 : ((kd (i + 1))) = 91
      · refine rsl (if_pos (eqI_p (rfl) (li_91) (by omega))) ?_
        refine rsl (jv_e) ?_
        refine rsl (jn_v) ?_
        refine rsl (if_neg (eqI_n (li_1) (li_0) (by omega))) ?_
        refine rsl (vC_e (ck_65 (hC.fr f505))) ?_
        refine rsr (gtI_q (w := iI ((kr (kd i)))) (rk_160 hR) (wa_36)) ?_
        refine rsr (jn_v) ?_
        refine rsr (swI_c) ?_
        refine rsr (if_neg (krI_n (k := 215) (rfl) (li_416) (hS.ok i (by omega) (by omega)) (by unfold KdOK sgk; omega) (by decide +kernel) (by omega) (by omega))) ?_
        refine rsr (swI_c) ?_
        refine rsr (if_neg (krI_n (k := 216) (rfl) (li_417) (hS.ok i (by omega) (by omega)) (by unfold KdOK sgk; omega) (by decide +kernel) (by omega) (by omega))) ?_
        refine rsr (swI_c) ?_
        refine rsr (if_neg (krI_n (k := 217) (rfl) (li_418) (hS.ok i (by omega) (by omega)) (by unfold KdOK sgk; omega) (by decide +kernel) (by omega) (by omega))) ?_
        refine rsr (swI_c) ?_
        refine rsr (if_neg (krI_n (k := 218) (rfl) (li_419) (hS.ok i (by omega) (by omega)) (by unfold KdOK sgk; omega) (by decide +kernel) (by omega) (by omega))) ?_
        refine rsr (swI_c) ?_
        refine rsr (if_neg (krI_n (k := 219) (rfl) (li_420) (hS.ok i (by omega) (by omega)) (by unfold KdOK sgk; omega) (by decide +kernel) (by omega) (by omega))) ?_
        refine rsr (swI_c) ?_
        refine rsr (if_neg (krI_n (k := 220) (rfl) (li_421) (hS.ok i (by omega) (by omega)) (by unfold KdOK sgk; omega) (by decide +kernel) (by omega) (by omega))) ?_
        refine rsr (swI_c) ?_
        refine rsr (if_neg (krI_n (k := 221) (rfl) (li_422) (hS.ok i (by omega) (by omega)) (by unfold KdOK sgk; omega) (by decide +kernel) (by omega) (by omega))) ?_
        refine rsr (swI_c) ?_
        refine rsr (if_neg (krI_n (k := 222) (rfl) (li_423) (hS.ok i (by omega) (by omega)) (by unfold KdOK sgk; omega) (by decide +kernel) (by omega) (by omega))) ?_
        refine rsr (swI_n) ?_
        refine rsr (gtI_q (w := iI ((kr (kd i)))) (rk_160 hR) (wa_36)) ?_
        refine rsr (jn_v) ?_
        refine rsr (if_pos (krI_p (k := 3) (rfl) (li_1) (by omega) (by decide +kernel))) ?_
        refine rsr (jv_e) ?_
        refine rsr (vC_e (rk_160 hR)) ?_
        refine rsr (cI_e (ar193_p (by omega) hS hR (wa_36) (wa_37) (wa_41) (li_1) (by omega))) ?_
        refine rsr (if_neg (eqI_n (rfl) (li_0) (by omega))) ?_
        refine rsr (vC_e (rk_160 hR)) ?_
        refine Rs_cVr ?_ (fun v M w N h => rs1 jv_e (Rt.ok h))
        obtain ⟨d2, rfl⟩ : ∃ e, d2 = e + 1 := ⟨d2 - 1, by omega⟩
        rw [r217]; unfold b217; rw [aR_e, aZ_e]; unfold c217
        refine rsr (vC_e (rk_160 hR)) ?_
        refine RrI (a201_u (by omega) hS hR (hT.fr (W := W_rx) Fr.r (by decide) (by decide)) (fun i a b => (Fr.lc (W := W_rx) Fr.r _ (by decide) _).trans (hW i a b)) (wa_36) (wa_37) (wa_38) (wa_41) (h49) (wa_53) wa_n (by omega)) fun v Ma576 h576 => ?_
        obtain ⟨r575, rfl, g576, e576_k0, e576_k1, e576_k2, e576_k3, e576_k4, p576_0, p576_1, p576_2⟩ := h576
        have f576 : Fr W_rx Mr Ma576 := Fr.t Fr.r (Fr.m g576 (by decide))
        refine rsr (cI_e rfl) ?_
        refine rsr (gtI_q (w := iI 0) (rk_160 (hR.fr f576)) (e576_k4)) ?_
        refine rsr (if_pos (eqI_p (rfl) (li_0) (by omega))) ?_
        refine rsr (gtP_q (w := some 202) (rk_160 (hR.fr f576)) (rf_56 (hR.fr f576))) ?_
        refine rsr (alL_q (n := 2000) (z := u) (w := (0 : Int64)) (rk_202 (hR.fr f576)) (congrArg iI p576_0) (by omega) (p576_1.2.2.2.1)) ?_
        refine rsr (jn_v) ?_
        refine rsr (if_pos (lgc_p (rfl) (rfl) rfl)) ?_
        refine rsr (gtP_q (w := some 204) (rk_160 (hR.fr f576)) (rf_58 (hR.fr f576))) ?_
        refine rsr (alL_q (n := 2000) (z := u) (w := (tx i)) (rk_204 (hR.fr f576)) (congrArg iI p576_0) (by omega) (p576_1.2.2.2.2.2.1)) ?_
        refine rsr (vC_e (rk_160 (hR.fr f576))) ?_
        obtain ⟨rl, hrl⟩ : ∃ r, LcF Hl s (tx i) r := by have q := LcF_ex (Hl := Hl) (y := (tx i)) s.toNat; rw [show ((s.toNat : Nat) : Int) = s by omega] at q; exact q
        have brl := hrl.bd
        by_cases crl : rl = -1
        ·
          subst crl
          refine RrI (a197 (by omega) (hR.fr f576) ((g576.i _ _ (by decide)).trans (wa_51)) (lra.fr g576 (by decide)) (by omega)) fun v Nl577 hl577 => ?_
          obtain ⟨r9, rfl, hMl, hr9⟩ := hl577
          rw [hMl]
          have q9 := LcF.one hr9 hrl
          rw [q9]
          refine rsr (cI_e rfl) ?_
          refine rsr (jv_e) ?_
          try dsimp only
          refine rsr (gtI_q (w := iI ((kr (kd (i + 1))))) (rk_160 (hR.fr f576)) (e576_k1)) ?_
          refine rsr (jn_v) ?_
          refine rsr (if_neg (krI_n (k := 40) (rfl) (li_40) (hS.ok (i + 1) (by omega) (by omega)) (by unfold KdOK sgk; omega) (by decide +kernel) (by omega) (by omega))) ?_
          refine rsr (gtI_q (w := iI ((kr (kd (i + 1))))) (rk_160 (hR.fr f576)) (e576_k1)) ?_
          refine rsr (if_pos (krI_p (k := 91) (rfl) (li_91) (by omega) (by decide +kernel))) ?_
          refine rsr (vC_e (rk_160 (hR.fr f576))) ?_
          refine Rb_VV (hX _ _ (by omega) (by omega) T n m kd pl E tx ua ut mu _ _ G (pu U u [uc, (V Mr 201 u.toNat), (V Mr 200 u.toNat), (V Mr 203 u.toNat), (pl i), (V Mr 206 u.toNat), ut, 0, (V Mc 79 uc.toNat), (V Mc 80 uc.toNat), (V Mc 82 uc.toNat)]) Hl (pux X u [(0 : Int64), (tx i)]) (i + 1) e s (u + 1) (uc + 1) _ hS (hCx.fr f505 f576) ⟨e505_k0, e505_k2, e505_k3, (g505.i _ _ (by decide)).trans (qa_9), (g505.i _ _ (by decide)).trans (qa_16), e505_k1⟩ ⟨e576_k1, e576_k2, e576_k3, e576_k4, (g576.i _ _ (by decide)).trans (wa_43), (g576.i _ _ (by decide)).trans (wa_51), e576_k0, (g576.i _ _ (by decide)).trans (wa_50), p576_2⟩ ⟨(caa.fr g505 (by decide)), (raa.fr g576 (by decide)), (lca.fr g505 (by decide)), (lra.fr g576 (by decide)), (CU.add cua (by omega) (by omega) p505_1 rfl rfl), (RU.add rua (by omega) p576_1 rfl)⟩ ⟨by omega, by omega, by omega, by omega, by omega, by omega, by omega, by omega, by omega, by omega, by omega, by omega⟩ (by omega) (vs1 (hv0))) fun v Mx578 w Nx578 hx578 => ?_
          rcases hx578 with ⟨i578, e578, u578, uc578, G578, U578, X578, fl578, fr578, sc578, sr578, rw578, bd578, mv578, ag578, au578, ax578, tp578, dp578, kv578⟩ | ⟨F578, P578, fl578, fr578, tc578, tr578⟩
          ·
            have FL578 : Fr W_cp Mc Mx578 := Fr.t f505 fl578
            have FR578 : Fr W_rx Mr Nx578 := Fr.t f576 fr578
            obtain ⟨bb578_0, bb578_1, bb578_2, bb578_3, bb578_4, bb578_5, bb578_6, bb578_7, bb578_8, bb578_9, bb578_10, bb578_11⟩ := bd578
            obtain ⟨q578_12, q578_13, q578_10, q578_9, q578_16, q578_19⟩ := sc578
            obtain ⟨w578_36, w578_37, w578_38, w578_41, w578_43, w578_51, w578_53, w578_50, w578_n⟩ := sr578
            obtain ⟨ca578, ra578, lc578, lr578, cu578, ru578⟩ := rw578
            have hk579 := (hS.ok i578 (by omega) (by omega)).r
            have ku578 := KU.t (KU.us kua p505_1 g505 (by decide) (by omega)) kv578 (by omega)
            have ty580 := Tye.t (d3 := 1) ty2 ag578 tp578 (by omega)
            have du581 := DU.t (DU.r (ut := ut) (mu := mu) (c := uc) (G := G) (a := e) (u := (u + 1))) ag578 au578 ax578 dp578 (by omega)
            refine rsl (cV_e rfl) ?_
            refine rsr (cV_e rfl) ?_
            refine rsl (jv_e) ?_
            refine rsl (vC_e (ck_65 (hC.fr FL578))) ?_
            by_cases c582 : ((kd i578)) = 61
            ·
              have hm583 : i578 + 1 < m := hS.more i578 (by omega) (by omega) (by omega)
              refine rsl (cV_e (a64q (by omega) hS (hC.fr FL578) (hTk.fr (WL := W_cp) FL578 (by decide)) (q578_12) (q578_13) (q578_10) (li_61) (i2 := (i578 + 1)) (by omega) (by omega))) ?_
              have hk584 := (hS.ok (i578 + 1) (by omega) (by omega)).r
              refine rsl (vC_e (ck_65 (hC.fr FL578).sI.sI)) ?_
              refine rsr (vC_e (rk_160 (hR.fr FR578))) ?_
              refine RrI (a195_61 (by omega) hS (hR.fr FR578) (hT.fr (W := W_rx) FR578 (by decide) (by decide)) (fun i a b => (Fr.lc (W := W_rx) FR578 _ (by decide) _).trans (hW i a b)) (w578_36) (w578_37) (w578_38) (w578_41) (li_61) (i2 := (i578 + 1)) (by omega) (by omega)) fun v Ma586 h586 => ?_
              obtain ⟨r585, rfl, g586, e586_k0, e586_k1, e586_k2, p586_0, p586_1⟩ := h586
              have f586 : Fr W_rx Mr Ma586 := Fr.t FR578 (Fr.m g586 (by decide))
              refine rsr (cI_e rfl) ?_
              refine rsr (vC_e (rk_160 (hR.fr f586))) ?_
              refine Rb_VV (hE _ _ (by omega) (by omega) T n m kd pl E tx ua ut mu _ _ G578 U578 Hl X578 (i578 + 1) e578 s u578 uc578 _ hS (hCx.fr (Fr.sI (by decide) (Fr.sI (by decide) FL578)) f586) ⟨(sI_nej (by decide)).trans (sI_eq), sI_eq, (sI_nej (by decide)).trans ((sI_nej (by decide)).trans (q578_10)), (sI_nej (by decide)).trans ((sI_nej (by decide)).trans (q578_9)), (sI_nej (by decide)).trans ((sI_nej (by decide)).trans (q578_16)), (sI_nej (by decide)).trans ((sI_nej (by decide)).trans (q578_19))⟩ ⟨e586_k0, e586_k1, e586_k2, (g586.i _ _ (by decide)).trans (w578_41), (g586.i _ _ (by decide)).trans (w578_43), (g586.i _ _ (by decide)).trans (w578_51), (g586.i _ _ (by decide)).trans (w578_53), (g586.i _ _ (by decide)).trans (w578_50), p586_1⟩ ⟨(ca578.fr (W := W_c0) (Fr.sI (by decide) (Fr.sI (by decide) Fr.r)) (by decide)), (ra578.fr g586 (by decide)), (lc578.fr (W := W_c0) (Fr.sI (by decide) (Fr.sI (by decide) Fr.r)) (by decide)), (lr578.fr g586 (by decide)), (cu578.fr (W := W_c0) (Fr.sI (by decide) (Fr.sI (by decide) Fr.r)) (by decide)), (ru578.fr g586 (by decide))⟩ ⟨by omega, by omega, by omega, by omega, by omega, by omega, by omega, by omega, by omega, by omega, by omega, by omega⟩ (vs2 (li_0) (hv0))) fun v Mx587 w Nx587 hx587 => ?_
              rcases hx587 with ⟨i587, e587, u587, uc587, G587, U587, X587, fl587, fr587, sc587, sr587, rw587, bd587, mv587, ag587, au587, ax587, tp587, dp587, kv587⟩ | ⟨F587, P587, fl587, fr587, tc587, tr587⟩
              ·
                have FL587 : Fr W_cp Mc Mx587 := Fr.t (Fr.sI (by decide) (Fr.sI (by decide) FL578)) fl587
                have FR587 : Fr W_rx Mr Nx587 := Fr.t f586 fr587
                obtain ⟨bb587_0, bb587_1, bb587_2, bb587_3, bb587_4, bb587_5, bb587_6, bb587_7, bb587_8, bb587_9, bb587_10, bb587_11⟩ := bd587
                obtain ⟨q587_12, q587_13, q587_10, q587_9, q587_16, q587_19⟩ := sc587
                obtain ⟨w587_36, w587_37, w587_38, w587_41, w587_43, w587_51, w587_53, w587_50, w587_n⟩ := sr587
                obtain ⟨ca587, ra587, lc587, lr587, cu587, ru587⟩ := rw587
                have hk588 := (hS.ok i587 (by omega) (by omega)).r
                have ku587 := KU.t (ku578.fr (W := W_c0) (Fr.sI (by decide) (Fr.sI (by decide) Fr.r)) (by decide)) kv587 (by omega)
                have ty589 := Tye.t (d3 := 2) ty580 ag587 tp587 (by omega)
                have du590 := DU.t du581 ag587 au587 ax587 dp587 (by omega)
                refine rsl (cV_e rfl) ?_
                refine rsr (cV_e rfl) ?_
                refine rsl (vC_e (ck_65 (hC.fr FL587))) ?_
                by_cases c591 : ((kd i587)) = 59
                ·
                  have hm592 : i587 + 1 < m := hS.more i587 (by omega) (by omega) (by omega)
                  refine rsl (cV_e (a64q (by omega) hS (hC.fr FL587) (hTk.fr (WL := W_cp) FL587 (by decide)) (q587_12) (q587_13) (q587_10) (li_59) (i2 := (i587 + 1)) (by omega) (by omega))) ?_
                  have hk593 := (hS.ok (i587 + 1) (by omega) (by omega)).r
                  refine rsl (jn_v) ?_
                  refine rsl (if_neg (eqI_n (li_1) (li_0) (by omega))) ?_
                  refine rsl (vC_e (ck_65 (hC.fr FL587).sI.sI)) ?_
                  have tb595 := Tyb.ex (dp := dp) (d := 2) (s' := s) (q := (e587 + 1)) (n1 := 0) (ut := ut) (mu := mu) (l := []) ty589 (Or.inr (Or.inr (Or.inr (Or.inr (Or.inr (Or.inl (by omega)))))) : Eff 6 u 0 2 s 0 s) (by omega) ⟨by omega, by omega⟩ (by omega)
                  have du596 := DU.set (U := U587) (X := X587) (c := uc) (b1 := 3) (p := 3) (q := (e587 + 1)) (u := u) (o := 6) (n1 := 0) (p1 := -2) (n3 := u) (l := []) (g := 0) du590 (by omega) (by omega) (by omega) (by omega) (fun q => absurd q (by decide)) (Int.le_of_eq (Eq.symm ((au587 0 _ (by omega)).trans ((au578 0 _ (by omega)).trans (pu_e rfl))))) ((au587 6 _ (by omega)).trans ((au578 6 _ (by omega)).trans (pu_e (by omega)))) (U3tr (ax587 0 _ (by omega)) (au587 3 _ (by omega)) (au587 10 _ (by omega)) (U3tr (ax578 0 _ (by omega)) (au578 3 _ (by omega)) (au578 10 _ (by omega)) (Or.inl (pux_e (by omega))))) (by omega) (by omega)
                  refine RlV (a105 (by omega) (hC.fr FL587).sI.sI ((sI_nej (by decide)).trans ((sI_nej (by decide)).trans (q587_9))) (congrArg iI p505_0) (li_3) (li_6) (by omega)) fun v Ma597 h597 => ?_
                  obtain ⟨g597, e597_k0, p597_0, p597_1⟩ := h597
                  have f597 : Fr W_cp Mc Ma597 := Fr.t (Fr.sI (by decide) (Fr.sI (by decide) FL587)) (Fr.m g597 (by decide))
                  refine rsl (cV_e rfl) ?_
                  refine rsl (jv_e) ?_
                  refine rsr (vC_e (rk_160 (hR.fr FR587))) ?_
                  refine RrV (a202 (by omega) (hR.fr FR587) (w587_43) ((FR587.i _ _ (by decide)).trans h49) ((FR587.i _ _ (by decide)).trans h48) (congrArg iI p576_0) (li_3) (li_6) (by omega)) fun v Ma598 h598 => ?_
                  obtain ⟨g598, e598_k0, p598_0, p598_1⟩ := h598
                  have f598 : Fr W_rx Mr Ma598 := Fr.t FR587 (Fr.m g598 (by decide))
                  refine rsr (cV_e rfl) ?_
                  refine rsr (vC_e (rk_160 (hR.fr f598))) ?_
                  refine RrI (a195_59 (by omega) hS (hR.fr f598) (hT.fr (W := W_rx) f598 (by decide) (by decide)) (fun i a b => (Fr.lc (W := W_rx) f598 _ (by decide) _).trans (hW i a b)) ((g598.i _ _ (by decide)).trans (w587_36)) ((g598.i _ _ (by decide)).trans (w587_37)) ((g598.i _ _ (by decide)).trans (w587_38)) ((g598.i _ _ (by decide)).trans (w587_41)) (li_59) (i2 := (i587 + 1)) (by omega) (by omega)) fun v Ma600 h600 => ?_
                  obtain ⟨r599, rfl, g600, e600_k0, e600_k1, e600_k2, p600_0, p600_1⟩ := h600
                  have f600 : Fr W_rx Mr Ma600 := Fr.t f598 (Fr.m g600 (by decide))
                  refine rsr (cI_e rfl) ?_
                  refine rsr (jv_e) ?_
                  exact Rs.ok (Or.inl ⟨(i587 + 1), s, Hl, ⟨(e587 + 1), u587, uc587, (pu G587 e587 [6, 0, -2, u, ut, mu, 0]), (ps U587 u 3 3 e587), X587, f597, f600, ⟨(g597.i _ _ (by decide)).trans ((sI_nej (by decide)).trans (sI_eq)), (g597.i _ _ (by decide)).trans (sI_eq), (g597.i _ _ (by decide)).trans ((sI_nej (by decide)).trans ((sI_nej (by decide)).trans (q587_10))), e597_k0, (g597.i _ _ (by decide)).trans ((sI_nej (by decide)).trans ((sI_nej (by decide)).trans (q587_16))), (g597.i _ _ (by decide)).trans ((sI_nej (by decide)).trans ((sI_nej (by decide)).trans (q587_19)))⟩, ⟨e600_k0, e600_k1, e600_k2, (g600.i _ _ (by decide)).trans ((g598.i _ _ (by decide)).trans (w587_41)), (g600.i _ _ (by decide)).trans (e598_k0), (g600.i _ _ (by decide)).trans ((g598.i _ _ (by decide)).trans (w587_51)), (g600.i _ _ (by decide)).trans ((g598.i _ _ (by decide)).trans (w587_53)), (g600.i _ _ (by decide)).trans ((g598.i _ _ (by decide)).trans (w587_50)), p600_1⟩, ⟨(CA1.em (ca587.fr (W := W_c0) (Fr.sI (by decide) (Fr.sI (by decide) Fr.r)) (by decide)) (by omega) p597_0 rfl), ((RA1.em ra587 (by omega) p598_0 rfl).fr g600 (by decide)), ((lc587.fr (W := W_c0) (Fr.sI (by decide) (Fr.sI (by decide) Fr.r)) (by decide)).fr g597 (by decide)), ((lr587.fr g598 (by decide)).fr g600 (by decide)), (CU.set (b := 3) (cu587.fr (W := W_c0) (Fr.sI (by decide) (Fr.sI (by decide) Fr.r)) (by decide)) ⟨by omega, by omega⟩ ((au587 0 _ (by omega)).trans ((au578 0 _ (by omega)).trans (pu_e rfl))) p597_1 g597 (by decide)), ((RU.set ru587 ⟨by omega, by omega⟩ p598_1 g598 (by decide)).fr g600 (by decide))⟩, ⟨by omega, by omega, by omega, by omega, by omega, by omega, by omega, by omega, by omega, by omega, by omega, by omega⟩, ⟨by omega, by omega, by omega, by omega, by omega, by omega⟩, (Ag.pu (Ag.t (Ag.t Ag.r ag578 (by omega)) ag587 (by omega)) (by omega)), (Ag.ps (Ag.t (Ag.t (Ag.pu Ag.r (by omega)) au578 (by omega)) au587 (by omega)) (by omega)), (AgL.t (AgL.t (AgL.pu AgL.r (by omega)) ax578 (by omega)) ax587 (by omega)), tb595, du596, ((ku587.fr (W := W_c0) (Fr.sI (by decide) (Fr.sI (by decide) Fr.r)) (by decide)).fr g597 (by decide)), ⟨by omega, fun _ _ _ => rfl⟩⟩⟩)
                ·
                  by_cases c601 : ((kd i587)) = 1
                  ·
                    refine rsl (cV_e (a64_1 (by omega) hS (hC.fr FL587) (hTk.fr (WL := W_cp) FL587 (by decide)) (q587_12) (q587_13) (q587_10) (li_59) (by omega))) ?_
                    refine rsl (jn_v) ?_
                    refine rsl (if_neg (eqI_n (li_1) (li_0) (by omega))) ?_
                    refine rsl (vC_e (ck_65 (hC.fr FL587).sI.sI.sI)) ?_
                    refine RlV (y105 (by omega) (hC.fr FL587).sI.sI.sI (hTk.fr (WL := W_cp) (Fr.sI (by decide) (Fr.sI (by decide) (Fr.sI (by decide) FL587))) (by decide)) ((sI_nej (by decide)).trans ((sI_nej (by decide)).trans ((sI_nej (by decide)).trans (q587_12)))) (sI_eq) ((sI_nej (by decide)).trans ((sI_nej (by decide)).trans (sI_eq))) ((sI_nej (by decide)).trans (sI_eq)) ((sI_nej (by decide)).trans ((sI_nej (by decide)).trans ((sI_nej (by decide)).trans (q587_9)))) ((sI_nej (by decide)).trans ((sI_nej (by decide)).trans ((sI_nej (by decide)).trans (q587_16)))) ((sI_nej (by decide)).trans ((sI_nej (by decide)).trans ((sI_nej (by decide)).trans (q587_19)))) (congrArg iI p505_0) (li_3) (li_6) (by omega)) fun v Ma603 h603 => ?_
                    obtain ⟨sz602, sn602, uc602, g603, e603_sz602, e603_sn602, e603_uc602, e603_k0, e603_k1, e603_k2, e603_k3, p603_0, p603_1, p603_2⟩ := h603
                    have f603 : Fr W_cp Mc Ma603 := Fr.t (Fr.sI (by decide) (Fr.sI (by decide) (Fr.sI (by decide) FL587))) (Fr.m g603 (by decide))
                    refine rsl (cV_e rfl) ?_
                    refine rsl (jv_e) ?_
                    refine rsr (vC_e (rk_160 (hR.fr FR587))) ?_
                    refine RrV (a202 (by omega) (hR.fr FR587) (w587_43) ((FR587.i _ _ (by decide)).trans h49) ((FR587.i _ _ (by decide)).trans h48) (congrArg iI p576_0) (li_3) (li_6) (by omega)) fun v Ma604 h604 => ?_
                    obtain ⟨g604, e604_k0, p604_0, p604_1⟩ := h604
                    have f604 : Fr W_rx Mr Ma604 := Fr.t FR587 (Fr.m g604 (by decide))
                    refine rsr (cV_e rfl) ?_
                    refine rsr (vC_e (rk_160 (hR.fr f604))) ?_
                    refine rsr (cI_e (a195_59_1 (by omega) hS (hR.fr f604) ((g604.i _ _ (by decide)).trans (w587_36)) ((g604.i _ _ (by decide)).trans (w587_37)) ((g604.i _ _ (by decide)).trans (w587_41)) (li_59) (by omega))) ?_
                    refine rsr (jv_e) ?_
                    exact Rs.ok (Or.inr ⟨1, ((pl i587)), f603, (Fr.sI (by decide) (Fr.sI (by decide) (Fr.m f604 (by decide)))), ⟨i587, sz602, sn602, uc602, e603_k0, e603_k1, e603_k2, e603_k3, e603_sz602, e603_sn602, e603_uc602, by omega⟩, ⟨(e587 + 1), s, u587, mu, ut, (sI_nej (by decide)).trans (sI_eq), sI_eq, (sI_nej (by decide)).trans ((sI_nej (by decide)).trans (e604_k0)), (sI_nej (by decide)).trans ((sI_nej (by decide)).trans ((g604.i _ _ (by decide)).trans (w587_51))), (sI_nej (by decide)).trans ((sI_nej (by decide)).trans ((g604.i _ _ (by decide)).trans (w587_53))), (sI_nej (by decide)).trans ((sI_nej (by decide)).trans ((g604.i _ _ (by decide)).trans ((FR587.i _ _ (by decide)).trans h48))), (sI_nej (by decide)).trans ((sI_nej (by decide)).trans ((g604.i _ _ (by decide)).trans ((FR587.i _ _ (by decide)).trans h49))), by omega⟩⟩)
                  ·
                    refine rsl (cV_e (a64_2 (by omega) hS (hC.fr FL587) (hTk.fr (WL := W_cp) FL587 (by decide)) (q587_12) (q587_13) (q587_10) (li_59) (by omega))) ?_
                    refine rsl (jn_v) ?_
                    refine rsl (if_neg (eqI_n (li_1) (li_0) (by omega))) ?_
                    refine rsl (vC_e (ck_65 (hC.fr FL587).sI.sI.sI)) ?_
                    refine RlV (y105 (by omega) (hC.fr FL587).sI.sI.sI (hTk.fr (WL := W_cp) (Fr.sI (by decide) (Fr.sI (by decide) (Fr.sI (by decide) FL587))) (by decide)) ((sI_nej (by decide)).trans ((sI_nej (by decide)).trans ((sI_nej (by decide)).trans (q587_12)))) (sI_eq) ((sI_nej (by decide)).trans ((sI_nej (by decide)).trans (sI_eq))) ((sI_nej (by decide)).trans (sI_eq)) ((sI_nej (by decide)).trans ((sI_nej (by decide)).trans ((sI_nej (by decide)).trans (q587_9)))) ((sI_nej (by decide)).trans ((sI_nej (by decide)).trans ((sI_nej (by decide)).trans (q587_16)))) ((sI_nej (by decide)).trans ((sI_nej (by decide)).trans ((sI_nej (by decide)).trans (q587_19)))) (congrArg iI p505_0) (li_3) (li_6) (by omega)) fun v Ma606 h606 => ?_
                    obtain ⟨sz605, sn605, uc605, g606, e606_sz605, e606_sn605, e606_uc605, e606_k0, e606_k1, e606_k2, e606_k3, p606_0, p606_1, p606_2⟩ := h606
                    have f606 : Fr W_cp Mc Ma606 := Fr.t (Fr.sI (by decide) (Fr.sI (by decide) (Fr.sI (by decide) FL587))) (Fr.m g606 (by decide))
                    refine rsl (cV_e rfl) ?_
                    refine rsl (jv_e) ?_
                    refine rsr (vC_e (rk_160 (hR.fr FR587))) ?_
                    refine RrV (a202 (by omega) (hR.fr FR587) (w587_43) ((FR587.i _ _ (by decide)).trans h49) ((FR587.i _ _ (by decide)).trans h48) (congrArg iI p576_0) (li_3) (li_6) (by omega)) fun v Ma607 h607 => ?_
                    obtain ⟨g607, e607_k0, p607_0, p607_1⟩ := h607
                    have f607 : Fr W_rx Mr Ma607 := Fr.t FR587 (Fr.m g607 (by decide))
                    refine rsr (cV_e rfl) ?_
                    refine rsr (vC_e (rk_160 (hR.fr f607))) ?_
                    refine rsr (cI_e (a195_59_2 (by omega) hS (hR.fr f607) ((g607.i _ _ (by decide)).trans (w587_36)) ((g607.i _ _ (by decide)).trans (w587_37)) ((g607.i _ _ (by decide)).trans (w587_41)) (li_59) (by omega))) ?_
                    refine rsr (jv_e) ?_
                    exact Rs.ok (Or.inr ⟨2, ((pl i587)), f606, (Fr.sI (by decide) (Fr.sI (by decide) (Fr.m f607 (by decide)))), ⟨i587, sz605, sn605, uc605, e606_k0, e606_k1, e606_k2, e606_k3, e606_sz605, e606_sn605, e606_uc605, by omega⟩, ⟨(e587 + 1), s, u587, mu, ut, (sI_nej (by decide)).trans (sI_eq), sI_eq, (sI_nej (by decide)).trans ((sI_nej (by decide)).trans (e607_k0)), (sI_nej (by decide)).trans ((sI_nej (by decide)).trans ((g607.i _ _ (by decide)).trans (w587_51))), (sI_nej (by decide)).trans ((sI_nej (by decide)).trans ((g607.i _ _ (by decide)).trans (w587_53))), (sI_nej (by decide)).trans ((sI_nej (by decide)).trans ((g607.i _ _ (by decide)).trans ((FR587.i _ _ (by decide)).trans h48))), (sI_nej (by decide)).trans ((sI_nej (by decide)).trans ((g607.i _ _ (by decide)).trans ((FR587.i _ _ (by decide)).trans h49))), by omega⟩⟩)
              ·
                have FL587 : Fr W_cp Mc Mx587 := Fr.t (Fr.sI (by decide) (Fr.sI (by decide) FL578)) fl587
                have FR587 : Fr W_rp Mr Nx587 := Fr.t (Fr.m f586 W_rx_p) fr587
                obtain ⟨ti587, tz587, tn587, tu587, t13587, t10587, t11587, t12587, t9587, t16587, t19587, tb587⟩ := tc587
                obtain ⟨re587, rn587, ru587, rm587, rt587, u41587, u42587, u43587, u51587, u53587, u48587, u49587, ub587⟩ := tr587
                refine rsl (cV_e rfl) ?_
                refine rsr (cV_e rfl) ?_
                refine rsl (vC_e (ck_65 (hC.fr FL587))) ?_
                refine RlV (y64 (by omega) (hC.fr FL587) (hTk.fr (WL := W_cp) FL587 (by decide)) (t12587) (t13587) (t10587) (t11587) (t9587) (t16587) (t19587) (li_59) (by omega)) fun v Ma609 h609 => ?_
                obtain ⟨sz608, sn608, uc608, g609, e609_sz608, e609_sn608, e609_uc608, e609_k0, e609_k1, e609_k2, e609_k3, p609_0, p609_1, p609_2⟩ := h609
                have f609 : Fr W_cp Mc Ma609 := Fr.t FL587 (Fr.m g609 (by decide))
                refine rsl (cV_e rfl) ?_
                refine rsl (jn_v) ?_
                refine rsl (if_neg (eqI_n (li_1) (li_0) (by omega))) ?_
                refine rsl (vC_e (ck_65 (hC.fr f609))) ?_
                refine RlV (y105 (by omega) (hC.fr f609) (hTk.fr (WL := W_cp) f609 (by decide)) (e609_k3) (e609_k0) (e609_k1) (e609_k2) (e609_sz608) (e609_sn608) (e609_uc608) (congrArg iI p505_0) (li_3) (li_6) (by omega)) fun v Ma611 h611 => ?_
                obtain ⟨sz610, sn610, uc610, g611, e611_sz610, e611_sn610, e611_uc610, e611_k0, e611_k1, e611_k2, e611_k3, p611_0, p611_1, p611_2⟩ := h611
                have f611 : Fr W_cp Mc Ma611 := Fr.t f609 (Fr.m g611 (by decide))
                refine rsl (cV_e rfl) ?_
                refine rsl (jv_e) ?_
                refine rsr (vC_e (rk_160 (hR.fr FR587))) ?_
                refine RrV (x202_s (by omega) (hR.fr FR587) (u41587) (u42587) (u43587) (u51587) (u53587) (u48587) (u49587) (congrArg iI p576_0) (li_3) (li_6) (by omega)) fun v Ma613 h613 => ?_
                obtain ⟨em612, g613, e613_em612, e613_k0, e613_k1, e613_k2, e613_k3, e613_k4, p613_0⟩ := h613
                have f613 : Fr W_rp Mr Ma613 := Fr.t FR587 (Fr.m g613 (by decide))
                refine rsr (cV_e rfl) ?_
                refine rsr (vC_e (rk_160 (hR.fr f613))) ?_
                refine RrI (x195_s (by omega) (hR.fr f613) (e613_k0) (e613_k1) (e613_em612) (e613_k2) (e613_k3) (e613_k4) ((g613.i _ _ (by decide)).trans (u49587)) (li_59) (by omega)) fun v Ma615 h615 => ?_
                obtain ⟨rv614, em614, rfl, g615, e615_em614, e615_k0, e615_k1, e615_k2, e615_k3, e615_k4, p615_0, p615_1⟩ := h615
                have f615 : Fr W_rp Mr Ma615 := Fr.t f613 (Fr.m g615 (by decide))
                refine rsr (cI_e rfl) ?_
                refine rsr (jv_e) ?_
                exact Rs.ok (Or.inr ⟨F587, P587, f611, f615, ⟨ti587, sz610, sn610, uc610, e611_k0, e611_k1, e611_k2, e611_k3, e611_sz610, e611_sn610, e611_uc610, by omega⟩, ⟨em614, rn587, ru587, rm587, rt587, e615_k0, e615_k1, e615_em614, e615_k2, e615_k3, e615_k4, (g615.i _ _ (by decide)).trans ((g613.i _ _ (by decide)).trans (u49587)), by omega⟩⟩)
            ·
              by_cases c616 : ((kd i578)) = 1
              ·
                refine rsl (cV_e (a64_1 (by omega) hS (hC.fr FL578) (hTk.fr (WL := W_cp) FL578 (by decide)) (q578_12) (q578_13) (q578_10) (li_61) (by omega))) ?_
                refine rsl (vC_e (ck_65 (hC.fr FL578).sI.sI.sI)) ?_
                refine RlV (y99_0 (by omega) (hC.fr FL578).sI.sI.sI (hTk.fr (WL := W_cp) (Fr.sI (by decide) (Fr.sI (by decide) (Fr.sI (by decide) FL578))) (by decide)) ((sI_nej (by decide)).trans ((sI_nej (by decide)).trans ((sI_nej (by decide)).trans (q578_12)))) (sI_eq) ((sI_nej (by decide)).trans ((sI_nej (by decide)).trans (sI_eq))) ((sI_nej (by decide)).trans (sI_eq)) ((sI_nej (by decide)).trans ((sI_nej (by decide)).trans ((sI_nej (by decide)).trans (q578_9)))) ((sI_nej (by decide)).trans ((sI_nej (by decide)).trans ((sI_nej (by decide)).trans (q578_16)))) ((sI_nej (by decide)).trans ((sI_nej (by decide)).trans ((sI_nej (by decide)).trans (q578_19)))) (li_0) (hv0) (by omega)) fun v Ma618 h618 => ?_
                obtain ⟨sz617, sn617, uc617, g618, e618_sz617, e618_sn617, e618_uc617, e618_k0, e618_k1, e618_k2, e618_k3, p618_0, p618_1, p618_2⟩ := h618
                have f618 : Fr W_cp Mc Ma618 := Fr.t (Fr.sI (by decide) (Fr.sI (by decide) (Fr.sI (by decide) FL578))) (Fr.m g618 (by decide))
                refine rsl (cV_e rfl) ?_
                refine rsl (vC_e (ck_65 (hC.fr f618))) ?_
                refine RlV (y64 (by omega) (hC.fr f618) (hTk.fr (WL := W_cp) f618 (by decide)) (e618_k3) (e618_k0) (e618_k1) (e618_k2) (e618_sz617) (e618_sn617) (e618_uc617) (li_59) (by omega)) fun v Ma620 h620 => ?_
                obtain ⟨sz619, sn619, uc619, g620, e620_sz619, e620_sn619, e620_uc619, e620_k0, e620_k1, e620_k2, e620_k3, p620_0, p620_1, p620_2⟩ := h620
                have f620 : Fr W_cp Mc Ma620 := Fr.t f618 (Fr.m g620 (by decide))
                refine rsl (cV_e rfl) ?_
                refine rsl (jn_v) ?_
                refine rsl (if_neg (eqI_n (li_1) (li_0) (by omega))) ?_
                refine rsl (vC_e (ck_65 (hC.fr f620))) ?_
                refine RlV (y105 (by omega) (hC.fr f620) (hTk.fr (WL := W_cp) f620 (by decide)) (e620_k3) (e620_k0) (e620_k1) (e620_k2) (e620_sz619) (e620_sn619) (e620_uc619) (congrArg iI p505_0) (li_3) (li_6) (by omega)) fun v Ma622 h622 => ?_
                obtain ⟨sz621, sn621, uc621, g622, e622_sz621, e622_sn621, e622_uc621, e622_k0, e622_k1, e622_k2, e622_k3, p622_0, p622_1, p622_2⟩ := h622
                have f622 : Fr W_cp Mc Ma622 := Fr.t f620 (Fr.m g622 (by decide))
                refine rsl (cV_e rfl) ?_
                refine rsl (jv_e) ?_
                refine rsr (vC_e (rk_160 (hR.fr FR578))) ?_
                refine rsr (cI_e (a195_61_1 (by omega) hS (hR.fr FR578) (w578_36) (w578_37) (w578_41) (li_61) (by omega))) ?_
                refine rsr (vC_e (rk_160 (hR.fr FR578).sI.sI)) ?_
                refine RrV (x211_s (by omega) (hR.fr FR578).sI.sI ((sI_nej (by decide)).trans (sI_eq)) (sI_eq) ((sI_nej (by decide)).trans ((sI_nej (by decide)).trans (w578_43))) ((sI_nej (by decide)).trans ((sI_nej (by decide)).trans (w578_51))) ((sI_nej (by decide)).trans ((sI_nej (by decide)).trans (w578_53))) ((sI_nej (by decide)).trans ((sI_nej (by decide)).trans ((FR578.i _ _ (by decide)).trans h48))) ((sI_nej (by decide)).trans ((sI_nej (by decide)).trans ((FR578.i _ _ (by decide)).trans h49)))  (by omega)) fun v Ma624 h624 => ?_
                obtain ⟨em623, g624, e624_em623, e624_k0, e624_k1, e624_k2, e624_k3, e624_k4, p624_0⟩ := h624
                have f624 : Fr W_rp Mr Ma624 := Fr.t (Fr.sI (by decide) (Fr.sI (by decide) (Fr.m FR578 (by decide)))) (Fr.m g624 (by decide))
                refine rsr (cV_e rfl) ?_
                refine rsr (vC_e (rk_160 (hR.fr f624))) ?_
                refine RrV (x202_s (by omega) (hR.fr f624) (e624_k0) (e624_k1) (e624_em623) (e624_k2) (e624_k3) (e624_k4) ((g624.i _ _ (by decide)).trans ((sI_nej (by decide)).trans ((sI_nej (by decide)).trans ((FR578.i _ _ (by decide)).trans h49)))) (congrArg iI p576_0) (li_3) (li_6) (by omega)) fun v Ma626 h626 => ?_
                obtain ⟨em625, g626, e626_em625, e626_k0, e626_k1, e626_k2, e626_k3, e626_k4, p626_0⟩ := h626
                have f626 : Fr W_rp Mr Ma626 := Fr.t f624 (Fr.m g626 (by decide))
                refine rsr (cV_e rfl) ?_
                refine rsr (vC_e (rk_160 (hR.fr f626))) ?_
                refine RrI (x195_s (by omega) (hR.fr f626) (e626_k0) (e626_k1) (e626_em625) (e626_k2) (e626_k3) (e626_k4) ((g626.i _ _ (by decide)).trans ((g624.i _ _ (by decide)).trans ((sI_nej (by decide)).trans ((sI_nej (by decide)).trans ((FR578.i _ _ (by decide)).trans h49))))) (li_59) (by omega)) fun v Ma628 h628 => ?_
                obtain ⟨rv627, em627, rfl, g628, e628_em627, e628_k0, e628_k1, e628_k2, e628_k3, e628_k4, p628_0, p628_1⟩ := h628
                have f628 : Fr W_rp Mr Ma628 := Fr.t f626 (Fr.m g628 (by decide))
                refine rsr (cI_e rfl) ?_
                refine rsr (jv_e) ?_
                exact Rs.ok (Or.inr ⟨1, ((pl i578)), f622, f628, ⟨i578, sz621, sn621, uc621, e622_k0, e622_k1, e622_k2, e622_k3, e622_sz621, e622_sn621, e622_uc621, by omega⟩, ⟨em627, s, u578, mu, ut, e628_k0, e628_k1, e628_em627, e628_k2, e628_k3, e628_k4, (g628.i _ _ (by decide)).trans ((g626.i _ _ (by decide)).trans ((g624.i _ _ (by decide)).trans ((sI_nej (by decide)).trans ((sI_nej (by decide)).trans ((FR578.i _ _ (by decide)).trans h49))))), by omega⟩⟩)
              ·
                refine rsl (cV_e (a64_2 (by omega) hS (hC.fr FL578) (hTk.fr (WL := W_cp) FL578 (by decide)) (q578_12) (q578_13) (q578_10) (li_61) (by omega))) ?_
                refine rsl (vC_e (ck_65 (hC.fr FL578).sI.sI.sI)) ?_
                refine RlV (y99_0 (by omega) (hC.fr FL578).sI.sI.sI (hTk.fr (WL := W_cp) (Fr.sI (by decide) (Fr.sI (by decide) (Fr.sI (by decide) FL578))) (by decide)) ((sI_nej (by decide)).trans ((sI_nej (by decide)).trans ((sI_nej (by decide)).trans (q578_12)))) (sI_eq) ((sI_nej (by decide)).trans ((sI_nej (by decide)).trans (sI_eq))) ((sI_nej (by decide)).trans (sI_eq)) ((sI_nej (by decide)).trans ((sI_nej (by decide)).trans ((sI_nej (by decide)).trans (q578_9)))) ((sI_nej (by decide)).trans ((sI_nej (by decide)).trans ((sI_nej (by decide)).trans (q578_16)))) ((sI_nej (by decide)).trans ((sI_nej (by decide)).trans ((sI_nej (by decide)).trans (q578_19)))) (li_0) (hv0) (by omega)) fun v Ma630 h630 => ?_
                obtain ⟨sz629, sn629, uc629, g630, e630_sz629, e630_sn629, e630_uc629, e630_k0, e630_k1, e630_k2, e630_k3, p630_0, p630_1, p630_2⟩ := h630
                have f630 : Fr W_cp Mc Ma630 := Fr.t (Fr.sI (by decide) (Fr.sI (by decide) (Fr.sI (by decide) FL578))) (Fr.m g630 (by decide))
                refine rsl (cV_e rfl) ?_
                refine rsl (vC_e (ck_65 (hC.fr f630))) ?_
                refine RlV (y64 (by omega) (hC.fr f630) (hTk.fr (WL := W_cp) f630 (by decide)) (e630_k3) (e630_k0) (e630_k1) (e630_k2) (e630_sz629) (e630_sn629) (e630_uc629) (li_59) (by omega)) fun v Ma632 h632 => ?_
                obtain ⟨sz631, sn631, uc631, g632, e632_sz631, e632_sn631, e632_uc631, e632_k0, e632_k1, e632_k2, e632_k3, p632_0, p632_1, p632_2⟩ := h632
                have f632 : Fr W_cp Mc Ma632 := Fr.t f630 (Fr.m g632 (by decide))
                refine rsl (cV_e rfl) ?_
                refine rsl (jn_v) ?_
                refine rsl (if_neg (eqI_n (li_1) (li_0) (by omega))) ?_
                refine rsl (vC_e (ck_65 (hC.fr f632))) ?_
                refine RlV (y105 (by omega) (hC.fr f632) (hTk.fr (WL := W_cp) f632 (by decide)) (e632_k3) (e632_k0) (e632_k1) (e632_k2) (e632_sz631) (e632_sn631) (e632_uc631) (congrArg iI p505_0) (li_3) (li_6) (by omega)) fun v Ma634 h634 => ?_
                obtain ⟨sz633, sn633, uc633, g634, e634_sz633, e634_sn633, e634_uc633, e634_k0, e634_k1, e634_k2, e634_k3, p634_0, p634_1, p634_2⟩ := h634
                have f634 : Fr W_cp Mc Ma634 := Fr.t f632 (Fr.m g634 (by decide))
                refine rsl (cV_e rfl) ?_
                refine rsl (jv_e) ?_
                refine rsr (vC_e (rk_160 (hR.fr FR578))) ?_
                refine rsr (cI_e (a195_61_2 (by omega) hS (hR.fr FR578) (w578_36) (w578_37) (w578_41) (li_61) (by omega))) ?_
                refine rsr (vC_e (rk_160 (hR.fr FR578).sI.sI)) ?_
                refine RrV (x211_s (by omega) (hR.fr FR578).sI.sI ((sI_nej (by decide)).trans (sI_eq)) (sI_eq) ((sI_nej (by decide)).trans ((sI_nej (by decide)).trans (w578_43))) ((sI_nej (by decide)).trans ((sI_nej (by decide)).trans (w578_51))) ((sI_nej (by decide)).trans ((sI_nej (by decide)).trans (w578_53))) ((sI_nej (by decide)).trans ((sI_nej (by decide)).trans ((FR578.i _ _ (by decide)).trans h48))) ((sI_nej (by decide)).trans ((sI_nej (by decide)).trans ((FR578.i _ _ (by decide)).trans h49)))  (by omega)) fun v Ma636 h636 => ?_
                obtain ⟨em635, g636, e636_em635, e636_k0, e636_k1, e636_k2, e636_k3, e636_k4, p636_0⟩ := h636
                have f636 : Fr W_rp Mr Ma636 := Fr.t (Fr.sI (by decide) (Fr.sI (by decide) (Fr.m FR578 (by decide)))) (Fr.m g636 (by decide))
                refine rsr (cV_e rfl) ?_
                refine rsr (vC_e (rk_160 (hR.fr f636))) ?_
                refine RrV (x202_s (by omega) (hR.fr f636) (e636_k0) (e636_k1) (e636_em635) (e636_k2) (e636_k3) (e636_k4) ((g636.i _ _ (by decide)).trans ((sI_nej (by decide)).trans ((sI_nej (by decide)).trans ((FR578.i _ _ (by decide)).trans h49)))) (congrArg iI p576_0) (li_3) (li_6) (by omega)) fun v Ma638 h638 => ?_
                obtain ⟨em637, g638, e638_em637, e638_k0, e638_k1, e638_k2, e638_k3, e638_k4, p638_0⟩ := h638
                have f638 : Fr W_rp Mr Ma638 := Fr.t f636 (Fr.m g638 (by decide))
                refine rsr (cV_e rfl) ?_
                refine rsr (vC_e (rk_160 (hR.fr f638))) ?_
                refine RrI (x195_s (by omega) (hR.fr f638) (e638_k0) (e638_k1) (e638_em637) (e638_k2) (e638_k3) (e638_k4) ((g638.i _ _ (by decide)).trans ((g636.i _ _ (by decide)).trans ((sI_nej (by decide)).trans ((sI_nej (by decide)).trans ((FR578.i _ _ (by decide)).trans h49))))) (li_59) (by omega)) fun v Ma640 h640 => ?_
                obtain ⟨rv639, em639, rfl, g640, e640_em639, e640_k0, e640_k1, e640_k2, e640_k3, e640_k4, p640_0, p640_1⟩ := h640
                have f640 : Fr W_rp Mr Ma640 := Fr.t f638 (Fr.m g640 (by decide))
                refine rsr (cI_e rfl) ?_
                refine rsr (jv_e) ?_
                exact Rs.ok (Or.inr ⟨2, ((pl i578)), f634, f640, ⟨i578, sz633, sn633, uc633, e634_k0, e634_k1, e634_k2, e634_k3, e634_sz633, e634_sn633, e634_uc633, by omega⟩, ⟨em639, s, u578, mu, ut, e640_k0, e640_k1, e640_em639, e640_k2, e640_k3, e640_k4, (g640.i _ _ (by decide)).trans ((g638.i _ _ (by decide)).trans ((g636.i _ _ (by decide)).trans ((sI_nej (by decide)).trans ((sI_nej (by decide)).trans ((FR578.i _ _ (by decide)).trans h49))))), by omega⟩⟩)
          ·
            have FL578 : Fr W_cp Mc Mx578 := Fr.t f505 fl578
            have FR578 : Fr W_rp Mr Nx578 := Fr.t (Fr.m f576 W_rx_p) fr578
            obtain ⟨ti578, tz578, tn578, tu578, t13578, t10578, t11578, t12578, t9578, t16578, t19578, tb578⟩ := tc578
            obtain ⟨re578, rn578, ru578, rm578, rt578, u41578, u42578, u43578, u51578, u53578, u48578, u49578, ub578⟩ := tr578
            refine rsl (cV_e rfl) ?_
            refine rsr (cV_e rfl) ?_
            refine rsl (jv_e) ?_
            refine rsl (vC_e (ck_65 (hC.fr FL578))) ?_
            refine RlV (y64 (by omega) (hC.fr FL578) (hTk.fr (WL := W_cp) FL578 (by decide)) (t12578) (t13578) (t10578) (t11578) (t9578) (t16578) (t19578) (li_61) (by omega)) fun v Ma642 h642 => ?_
            obtain ⟨sz641, sn641, uc641, g642, e642_sz641, e642_sn641, e642_uc641, e642_k0, e642_k1, e642_k2, e642_k3, p642_0, p642_1, p642_2⟩ := h642
            have f642 : Fr W_cp Mc Ma642 := Fr.t FL578 (Fr.m g642 (by decide))
            refine rsl (cV_e rfl) ?_
            refine rsl (vC_e (ck_65 (hC.fr f642))) ?_
            refine RlV (y99_0 (by omega) (hC.fr f642) (hTk.fr (WL := W_cp) f642 (by decide)) (e642_k3) (e642_k0) (e642_k1) (e642_k2) (e642_sz641) (e642_sn641) (e642_uc641) (li_0) (hv0) (by omega)) fun v Ma644 h644 => ?_
            obtain ⟨sz643, sn643, uc643, g644, e644_sz643, e644_sn643, e644_uc643, e644_k0, e644_k1, e644_k2, e644_k3, p644_0, p644_1, p644_2⟩ := h644
            have f644 : Fr W_cp Mc Ma644 := Fr.t f642 (Fr.m g644 (by decide))
            refine rsl (cV_e rfl) ?_
            refine rsl (vC_e (ck_65 (hC.fr f644))) ?_
            refine RlV (y64 (by omega) (hC.fr f644) (hTk.fr (WL := W_cp) f644 (by decide)) (e644_k3) (e644_k0) (e644_k1) (e644_k2) (e644_sz643) (e644_sn643) (e644_uc643) (li_59) (by omega)) fun v Ma646 h646 => ?_
            obtain ⟨sz645, sn645, uc645, g646, e646_sz645, e646_sn645, e646_uc645, e646_k0, e646_k1, e646_k2, e646_k3, p646_0, p646_1, p646_2⟩ := h646
            have f646 : Fr W_cp Mc Ma646 := Fr.t f644 (Fr.m g646 (by decide))
            refine rsl (cV_e rfl) ?_
            refine rsl (jn_v) ?_
            refine rsl (if_neg (eqI_n (li_1) (li_0) (by omega))) ?_
            refine rsl (vC_e (ck_65 (hC.fr f646))) ?_
            refine RlV (y105 (by omega) (hC.fr f646) (hTk.fr (WL := W_cp) f646 (by decide)) (e646_k3) (e646_k0) (e646_k1) (e646_k2) (e646_sz645) (e646_sn645) (e646_uc645) (congrArg iI p505_0) (li_3) (li_6) (by omega)) fun v Ma648 h648 => ?_
            obtain ⟨sz647, sn647, uc647, g648, e648_sz647, e648_sn647, e648_uc647, e648_k0, e648_k1, e648_k2, e648_k3, p648_0, p648_1, p648_2⟩ := h648
            have f648 : Fr W_cp Mc Ma648 := Fr.t f646 (Fr.m g648 (by decide))
            refine rsl (cV_e rfl) ?_
            refine rsl (jv_e) ?_
            refine rsr (vC_e (rk_160 (hR.fr FR578))) ?_
            refine RrI (x195_s (by omega) (hR.fr FR578) (u41578) (u42578) (u43578) (u51578) (u53578) (u48578) (u49578) (li_61) (by omega)) fun v Ma650 h650 => ?_
            obtain ⟨rv649, em649, rfl, g650, e650_em649, e650_k0, e650_k1, e650_k2, e650_k3, e650_k4, p650_0, p650_1⟩ := h650
            have f650 : Fr W_rp Mr Ma650 := Fr.t FR578 (Fr.m g650 (by decide))
            refine rsr (cI_e rfl) ?_
            refine rsr (vC_e (rk_160 (hR.fr f650))) ?_
            refine RrV (x211_s (by omega) (hR.fr f650) (e650_k0) (e650_k1) (e650_em649) (e650_k2) (e650_k3) (e650_k4) ((g650.i _ _ (by decide)).trans (u49578))  (by omega)) fun v Ma652 h652 => ?_
            obtain ⟨em651, g652, e652_em651, e652_k0, e652_k1, e652_k2, e652_k3, e652_k4, p652_0⟩ := h652
            have f652 : Fr W_rp Mr Ma652 := Fr.t f650 (Fr.m g652 (by decide))
            refine rsr (cV_e rfl) ?_
            refine rsr (vC_e (rk_160 (hR.fr f652))) ?_
            refine RrV (x202_s (by omega) (hR.fr f652) (e652_k0) (e652_k1) (e652_em651) (e652_k2) (e652_k3) (e652_k4) ((g652.i _ _ (by decide)).trans ((g650.i _ _ (by decide)).trans (u49578))) (congrArg iI p576_0) (li_3) (li_6) (by omega)) fun v Ma654 h654 => ?_
            obtain ⟨em653, g654, e654_em653, e654_k0, e654_k1, e654_k2, e654_k3, e654_k4, p654_0⟩ := h654
            have f654 : Fr W_rp Mr Ma654 := Fr.t f652 (Fr.m g654 (by decide))
            refine rsr (cV_e rfl) ?_
            refine rsr (vC_e (rk_160 (hR.fr f654))) ?_
            refine RrI (x195_s (by omega) (hR.fr f654) (e654_k0) (e654_k1) (e654_em653) (e654_k2) (e654_k3) (e654_k4) ((g654.i _ _ (by decide)).trans ((g652.i _ _ (by decide)).trans ((g650.i _ _ (by decide)).trans (u49578)))) (li_59) (by omega)) fun v Ma656 h656 => ?_
            obtain ⟨rv655, em655, rfl, g656, e656_em655, e656_k0, e656_k1, e656_k2, e656_k3, e656_k4, p656_0, p656_1⟩ := h656
            have f656 : Fr W_rp Mr Ma656 := Fr.t f654 (Fr.m g656 (by decide))
            refine rsr (cI_e rfl) ?_
            refine rsr (jv_e) ?_
            exact Rs.ok (Or.inr ⟨F578, P578, f648, f656, ⟨ti578, sz647, sn647, uc647, e648_k0, e648_k1, e648_k2, e648_k3, e648_sz647, e648_sn647, e648_uc647, by omega⟩, ⟨em655, rn578, ru578, rm578, rt578, e656_k0, e656_k1, e656_em655, e656_k2, e656_k3, e656_k4, (g656.i _ _ (by decide)).trans ((g654.i _ _ (by decide)).trans ((g652.i _ _ (by decide)).trans ((g650.i _ _ (by decide)).trans (u49578)))), by omega⟩⟩)
        ·
          refine RrI (a197 (by omega) (hR.fr f576) ((g576.i _ _ (by decide)).trans (wa_51)) (lra.fr g576 (by decide)) (by omega)) fun v Nl577 hl577 => ?_
          obtain ⟨r9, rfl, hMl, hr9⟩ := hl577
          rw [hMl]
          have q9 := LcF.one hr9 hrl
          rw [q9]
          refine rsr (cI_e rfl) ?_
          refine rsr (jv_e) ?_
          try dsimp only
          refine rsr (gtI_q (w := iI ((kr (kd (i + 1))))) (rk_160 (hR.fr f576)) (e576_k1)) ?_
          refine rsr (jn_v) ?_
          refine rsr (if_neg (krI_n (k := 40) (rfl) (li_40) (hS.ok (i + 1) (by omega) (by omega)) (by unfold KdOK sgk; omega) (by decide +kernel) (by omega) (by omega))) ?_
          refine rsr (gtI_q (w := iI ((kr (kd (i + 1))))) (rk_160 (hR.fr f576)) (e576_k1)) ?_
          refine rsr (if_pos (krI_p (k := 91) (rfl) (li_91) (by omega) (by decide +kernel))) ?_
          refine rsr (vC_e (rk_160 (hR.fr f576))) ?_
          refine Rb_VV (hX _ _ (by omega) (by omega) T n m kd pl E tx ua ut mu _ _ G (pu U u [uc, (V Mr 201 u.toNat), (V Mr 200 u.toNat), (V Mr 203 u.toNat), (pl i), (V Mr 206 u.toNat), ut, 0, (V Mc 79 uc.toNat), (V Mc 80 uc.toNat), (V Mc 82 uc.toNat)]) Hl (pux X u [(0 : Int64), (tx i)]) (i + 1) e s (u + 1) (uc + 1) _ hS (hCx.fr f505 f576) ⟨e505_k0, e505_k2, e505_k3, (g505.i _ _ (by decide)).trans (qa_9), (g505.i _ _ (by decide)).trans (qa_16), e505_k1⟩ ⟨e576_k1, e576_k2, e576_k3, e576_k4, (g576.i _ _ (by decide)).trans (wa_43), (g576.i _ _ (by decide)).trans (wa_51), e576_k0, (g576.i _ _ (by decide)).trans (wa_50), p576_2⟩ ⟨(caa.fr g505 (by decide)), (raa.fr g576 (by decide)), (lca.fr g505 (by decide)), (lra.fr g576 (by decide)), (CU.add cua (by omega) (by omega) p505_1 rfl rfl), (RU.add rua (by omega) p576_1 rfl)⟩ ⟨by omega, by omega, by omega, by omega, by omega, by omega, by omega, by omega, by omega, by omega, by omega, by omega⟩ (by omega) (vs1 (hv0))) fun v Mx657 w Nx657 hx657 => ?_
          rcases hx657 with ⟨i657, e657, u657, uc657, G657, U657, X657, fl657, fr657, sc657, sr657, rw657, bd657, mv657, ag657, au657, ax657, tp657, dp657, kv657⟩ | ⟨F657, P657, fl657, fr657, tc657, tr657⟩
          ·
            have FL657 : Fr W_cp Mc Mx657 := Fr.t f505 fl657
            have FR657 : Fr W_rx Mr Nx657 := Fr.t f576 fr657
            obtain ⟨bb657_0, bb657_1, bb657_2, bb657_3, bb657_4, bb657_5, bb657_6, bb657_7, bb657_8, bb657_9, bb657_10, bb657_11⟩ := bd657
            obtain ⟨q657_12, q657_13, q657_10, q657_9, q657_16, q657_19⟩ := sc657
            obtain ⟨w657_36, w657_37, w657_38, w657_41, w657_43, w657_51, w657_53, w657_50, w657_n⟩ := sr657
            obtain ⟨ca657, ra657, lc657, lr657, cu657, ru657⟩ := rw657
            have hk658 := (hS.ok i657 (by omega) (by omega)).r
            have ku657 := KU.t (KU.us kua p505_1 g505 (by decide) (by omega)) kv657 (by omega)
            have ty659 := Tye.t (d3 := 1) ty2 ag657 tp657 (by omega)
            have du660 := DU.t (DU.r (ut := ut) (mu := mu) (c := uc) (G := G) (a := e) (u := (u + 1))) ag657 au657 ax657 dp657 (by omega)
            refine rsl (cV_e rfl) ?_
            refine rsr (cV_e rfl) ?_
            refine rsl (jv_e) ?_
            refine rsl (vC_e (ck_65 (hC.fr FL657))) ?_
            by_cases c661 : ((kd i657)) = 61
            ·
              have hm662 : i657 + 1 < m := hS.more i657 (by omega) (by omega) (by omega)
              refine rsl (cV_e (a64q (by omega) hS (hC.fr FL657) (hTk.fr (WL := W_cp) FL657 (by decide)) (q657_12) (q657_13) (q657_10) (li_61) (i2 := (i657 + 1)) (by omega) (by omega))) ?_
              have hk663 := (hS.ok (i657 + 1) (by omega) (by omega)).r
              refine rsl (vC_e (ck_65 (hC.fr FL657).sI.sI)) ?_
              refine rsr (vC_e (rk_160 (hR.fr FR657))) ?_
              refine RrI (a195_61 (by omega) hS (hR.fr FR657) (hT.fr (W := W_rx) FR657 (by decide) (by decide)) (fun i a b => (Fr.lc (W := W_rx) FR657 _ (by decide) _).trans (hW i a b)) (w657_36) (w657_37) (w657_38) (w657_41) (li_61) (i2 := (i657 + 1)) (by omega) (by omega)) fun v Ma665 h665 => ?_
              obtain ⟨r664, rfl, g665, e665_k0, e665_k1, e665_k2, p665_0, p665_1⟩ := h665
              have f665 : Fr W_rx Mr Ma665 := Fr.t FR657 (Fr.m g665 (by decide))
              refine rsr (cI_e rfl) ?_
              refine rsr (vC_e (rk_160 (hR.fr f665))) ?_
              refine Rb_VV (hE _ _ (by omega) (by omega) T n m kd pl E tx ua ut mu _ _ G657 U657 Hl X657 (i657 + 1) e657 s u657 uc657 _ hS (hCx.fr (Fr.sI (by decide) (Fr.sI (by decide) FL657)) f665) ⟨(sI_nej (by decide)).trans (sI_eq), sI_eq, (sI_nej (by decide)).trans ((sI_nej (by decide)).trans (q657_10)), (sI_nej (by decide)).trans ((sI_nej (by decide)).trans (q657_9)), (sI_nej (by decide)).trans ((sI_nej (by decide)).trans (q657_16)), (sI_nej (by decide)).trans ((sI_nej (by decide)).trans (q657_19))⟩ ⟨e665_k0, e665_k1, e665_k2, (g665.i _ _ (by decide)).trans (w657_41), (g665.i _ _ (by decide)).trans (w657_43), (g665.i _ _ (by decide)).trans (w657_51), (g665.i _ _ (by decide)).trans (w657_53), (g665.i _ _ (by decide)).trans (w657_50), p665_1⟩ ⟨(ca657.fr (W := W_c0) (Fr.sI (by decide) (Fr.sI (by decide) Fr.r)) (by decide)), (ra657.fr g665 (by decide)), (lc657.fr (W := W_c0) (Fr.sI (by decide) (Fr.sI (by decide) Fr.r)) (by decide)), (lr657.fr g665 (by decide)), (cu657.fr (W := W_c0) (Fr.sI (by decide) (Fr.sI (by decide) Fr.r)) (by decide)), (ru657.fr g665 (by decide))⟩ ⟨by omega, by omega, by omega, by omega, by omega, by omega, by omega, by omega, by omega, by omega, by omega, by omega⟩ (vs2 (li_0) (hv0))) fun v Mx666 w Nx666 hx666 => ?_
              rcases hx666 with ⟨i666, e666, u666, uc666, G666, U666, X666, fl666, fr666, sc666, sr666, rw666, bd666, mv666, ag666, au666, ax666, tp666, dp666, kv666⟩ | ⟨F666, P666, fl666, fr666, tc666, tr666⟩
              ·
                have FL666 : Fr W_cp Mc Mx666 := Fr.t (Fr.sI (by decide) (Fr.sI (by decide) FL657)) fl666
                have FR666 : Fr W_rx Mr Nx666 := Fr.t f665 fr666
                obtain ⟨bb666_0, bb666_1, bb666_2, bb666_3, bb666_4, bb666_5, bb666_6, bb666_7, bb666_8, bb666_9, bb666_10, bb666_11⟩ := bd666
                obtain ⟨q666_12, q666_13, q666_10, q666_9, q666_16, q666_19⟩ := sc666
                obtain ⟨w666_36, w666_37, w666_38, w666_41, w666_43, w666_51, w666_53, w666_50, w666_n⟩ := sr666
                obtain ⟨ca666, ra666, lc666, lr666, cu666, ru666⟩ := rw666
                have hk667 := (hS.ok i666 (by omega) (by omega)).r
                have ku666 := KU.t (ku657.fr (W := W_c0) (Fr.sI (by decide) (Fr.sI (by decide) Fr.r)) (by decide)) kv666 (by omega)
                have ty668 := Tye.t (d3 := 2) ty659 ag666 tp666 (by omega)
                have du669 := DU.t du660 ag666 au666 ax666 dp666 (by omega)
                refine rsl (cV_e rfl) ?_
                refine rsr (cV_e rfl) ?_
                refine rsl (vC_e (ck_65 (hC.fr FL666))) ?_
                by_cases c670 : ((kd i666)) = 59
                ·
                  have hm671 : i666 + 1 < m := hS.more i666 (by omega) (by omega) (by omega)
                  refine rsl (cV_e (a64q (by omega) hS (hC.fr FL666) (hTk.fr (WL := W_cp) FL666 (by decide)) (q666_12) (q666_13) (q666_10) (li_59) (i2 := (i666 + 1)) (by omega) (by omega))) ?_
                  have hk672 := (hS.ok (i666 + 1) (by omega) (by omega)).r
                  refine rsl (jn_v) ?_
                  refine rsl (if_neg (eqI_n (li_1) (li_0) (by omega))) ?_
                  refine rsl (vC_e (ck_65 (hC.fr FL666).sI.sI)) ?_
                  have tb674 := Tyb.ex (dp := dp) (d := 2) (s' := s) (q := (e666 + 1)) (n1 := 0) (ut := ut) (mu := mu) (l := []) ty668 (Or.inr (Or.inr (Or.inr (Or.inr (Or.inr (Or.inl (by omega)))))) : Eff 6 u 0 2 s 0 s) (by omega) ⟨by omega, by omega⟩ (by omega)
                  have du675 := DU.set (U := U666) (X := X666) (c := uc) (b1 := 3) (p := 3) (q := (e666 + 1)) (u := u) (o := 6) (n1 := 0) (p1 := -2) (n3 := u) (l := []) (g := 0) du669 (by omega) (by omega) (by omega) (by omega) (fun q => absurd q (by decide)) (Int.le_of_eq (Eq.symm ((au666 0 _ (by omega)).trans ((au657 0 _ (by omega)).trans (pu_e rfl))))) ((au666 6 _ (by omega)).trans ((au657 6 _ (by omega)).trans (pu_e (by omega)))) (U3tr (ax666 0 _ (by omega)) (au666 3 _ (by omega)) (au666 10 _ (by omega)) (U3tr (ax657 0 _ (by omega)) (au657 3 _ (by omega)) (au657 10 _ (by omega)) (Or.inl (pux_e (by omega))))) (by omega) (by omega)
                  refine RlV (a105 (by omega) (hC.fr FL666).sI.sI ((sI_nej (by decide)).trans ((sI_nej (by decide)).trans (q666_9))) (congrArg iI p505_0) (li_3) (li_6) (by omega)) fun v Ma676 h676 => ?_
                  obtain ⟨g676, e676_k0, p676_0, p676_1⟩ := h676
                  have f676 : Fr W_cp Mc Ma676 := Fr.t (Fr.sI (by decide) (Fr.sI (by decide) FL666)) (Fr.m g676 (by decide))
                  refine rsl (cV_e rfl) ?_
                  refine rsl (jv_e) ?_
                  refine rsr (vC_e (rk_160 (hR.fr FR666))) ?_
                  refine RrV (a202 (by omega) (hR.fr FR666) (w666_43) ((FR666.i _ _ (by decide)).trans h49) ((FR666.i _ _ (by decide)).trans h48) (congrArg iI p576_0) (li_3) (li_6) (by omega)) fun v Ma677 h677 => ?_
                  obtain ⟨g677, e677_k0, p677_0, p677_1⟩ := h677
                  have f677 : Fr W_rx Mr Ma677 := Fr.t FR666 (Fr.m g677 (by decide))
                  refine rsr (cV_e rfl) ?_
                  refine rsr (vC_e (rk_160 (hR.fr f677))) ?_
                  refine RrI (a195_59 (by omega) hS (hR.fr f677) (hT.fr (W := W_rx) f677 (by decide) (by decide)) (fun i a b => (Fr.lc (W := W_rx) f677 _ (by decide) _).trans (hW i a b)) ((g677.i _ _ (by decide)).trans (w666_36)) ((g677.i _ _ (by decide)).trans (w666_37)) ((g677.i _ _ (by decide)).trans (w666_38)) ((g677.i _ _ (by decide)).trans (w666_41)) (li_59) (i2 := (i666 + 1)) (by omega) (by omega)) fun v Ma679 h679 => ?_
                  obtain ⟨r678, rfl, g679, e679_k0, e679_k1, e679_k2, p679_0, p679_1⟩ := h679
                  have f679 : Fr W_rx Mr Ma679 := Fr.t f677 (Fr.m g679 (by decide))
                  refine rsr (cI_e rfl) ?_
                  refine rsr (jv_e) ?_
                  exact Rs.ok (Or.inl ⟨(i666 + 1), s, Hl, ⟨(e666 + 1), u666, uc666, (pu G666 e666 [6, 0, -2, u, ut, mu, 0]), (ps U666 u 3 3 e666), X666, f676, f679, ⟨(g676.i _ _ (by decide)).trans ((sI_nej (by decide)).trans (sI_eq)), (g676.i _ _ (by decide)).trans (sI_eq), (g676.i _ _ (by decide)).trans ((sI_nej (by decide)).trans ((sI_nej (by decide)).trans (q666_10))), e676_k0, (g676.i _ _ (by decide)).trans ((sI_nej (by decide)).trans ((sI_nej (by decide)).trans (q666_16))), (g676.i _ _ (by decide)).trans ((sI_nej (by decide)).trans ((sI_nej (by decide)).trans (q666_19)))⟩, ⟨e679_k0, e679_k1, e679_k2, (g679.i _ _ (by decide)).trans ((g677.i _ _ (by decide)).trans (w666_41)), (g679.i _ _ (by decide)).trans (e677_k0), (g679.i _ _ (by decide)).trans ((g677.i _ _ (by decide)).trans (w666_51)), (g679.i _ _ (by decide)).trans ((g677.i _ _ (by decide)).trans (w666_53)), (g679.i _ _ (by decide)).trans ((g677.i _ _ (by decide)).trans (w666_50)), p679_1⟩, ⟨(CA1.em (ca666.fr (W := W_c0) (Fr.sI (by decide) (Fr.sI (by decide) Fr.r)) (by decide)) (by omega) p676_0 rfl), ((RA1.em ra666 (by omega) p677_0 rfl).fr g679 (by decide)), ((lc666.fr (W := W_c0) (Fr.sI (by decide) (Fr.sI (by decide) Fr.r)) (by decide)).fr g676 (by decide)), ((lr666.fr g677 (by decide)).fr g679 (by decide)), (CU.set (b := 3) (cu666.fr (W := W_c0) (Fr.sI (by decide) (Fr.sI (by decide) Fr.r)) (by decide)) ⟨by omega, by omega⟩ ((au666 0 _ (by omega)).trans ((au657 0 _ (by omega)).trans (pu_e rfl))) p676_1 g676 (by decide)), ((RU.set ru666 ⟨by omega, by omega⟩ p677_1 g677 (by decide)).fr g679 (by decide))⟩, ⟨by omega, by omega, by omega, by omega, by omega, by omega, by omega, by omega, by omega, by omega, by omega, by omega⟩, ⟨by omega, by omega, by omega, by omega, by omega, by omega⟩, (Ag.pu (Ag.t (Ag.t Ag.r ag657 (by omega)) ag666 (by omega)) (by omega)), (Ag.ps (Ag.t (Ag.t (Ag.pu Ag.r (by omega)) au657 (by omega)) au666 (by omega)) (by omega)), (AgL.t (AgL.t (AgL.pu AgL.r (by omega)) ax657 (by omega)) ax666 (by omega)), tb674, du675, ((ku666.fr (W := W_c0) (Fr.sI (by decide) (Fr.sI (by decide) Fr.r)) (by decide)).fr g676 (by decide)), ⟨by omega, fun _ _ _ => rfl⟩⟩⟩)
                ·
                  by_cases c680 : ((kd i666)) = 1
                  ·
                    refine rsl (cV_e (a64_1 (by omega) hS (hC.fr FL666) (hTk.fr (WL := W_cp) FL666 (by decide)) (q666_12) (q666_13) (q666_10) (li_59) (by omega))) ?_
                    refine rsl (jn_v) ?_
                    refine rsl (if_neg (eqI_n (li_1) (li_0) (by omega))) ?_
                    refine rsl (vC_e (ck_65 (hC.fr FL666).sI.sI.sI)) ?_
                    refine RlV (y105 (by omega) (hC.fr FL666).sI.sI.sI (hTk.fr (WL := W_cp) (Fr.sI (by decide) (Fr.sI (by decide) (Fr.sI (by decide) FL666))) (by decide)) ((sI_nej (by decide)).trans ((sI_nej (by decide)).trans ((sI_nej (by decide)).trans (q666_12)))) (sI_eq) ((sI_nej (by decide)).trans ((sI_nej (by decide)).trans (sI_eq))) ((sI_nej (by decide)).trans (sI_eq)) ((sI_nej (by decide)).trans ((sI_nej (by decide)).trans ((sI_nej (by decide)).trans (q666_9)))) ((sI_nej (by decide)).trans ((sI_nej (by decide)).trans ((sI_nej (by decide)).trans (q666_16)))) ((sI_nej (by decide)).trans ((sI_nej (by decide)).trans ((sI_nej (by decide)).trans (q666_19)))) (congrArg iI p505_0) (li_3) (li_6) (by omega)) fun v Ma682 h682 => ?_
                    obtain ⟨sz681, sn681, uc681, g682, e682_sz681, e682_sn681, e682_uc681, e682_k0, e682_k1, e682_k2, e682_k3, p682_0, p682_1, p682_2⟩ := h682
                    have f682 : Fr W_cp Mc Ma682 := Fr.t (Fr.sI (by decide) (Fr.sI (by decide) (Fr.sI (by decide) FL666))) (Fr.m g682 (by decide))
                    refine rsl (cV_e rfl) ?_
                    refine rsl (jv_e) ?_
                    refine rsr (vC_e (rk_160 (hR.fr FR666))) ?_
                    refine RrV (a202 (by omega) (hR.fr FR666) (w666_43) ((FR666.i _ _ (by decide)).trans h49) ((FR666.i _ _ (by decide)).trans h48) (congrArg iI p576_0) (li_3) (li_6) (by omega)) fun v Ma683 h683 => ?_
                    obtain ⟨g683, e683_k0, p683_0, p683_1⟩ := h683
                    have f683 : Fr W_rx Mr Ma683 := Fr.t FR666 (Fr.m g683 (by decide))
                    refine rsr (cV_e rfl) ?_
                    refine rsr (vC_e (rk_160 (hR.fr f683))) ?_
                    refine rsr (cI_e (a195_59_1 (by omega) hS (hR.fr f683) ((g683.i _ _ (by decide)).trans (w666_36)) ((g683.i _ _ (by decide)).trans (w666_37)) ((g683.i _ _ (by decide)).trans (w666_41)) (li_59) (by omega))) ?_
                    refine rsr (jv_e) ?_
                    exact Rs.ok (Or.inr ⟨1, ((pl i666)), f682, (Fr.sI (by decide) (Fr.sI (by decide) (Fr.m f683 (by decide)))), ⟨i666, sz681, sn681, uc681, e682_k0, e682_k1, e682_k2, e682_k3, e682_sz681, e682_sn681, e682_uc681, by omega⟩, ⟨(e666 + 1), s, u666, mu, ut, (sI_nej (by decide)).trans (sI_eq), sI_eq, (sI_nej (by decide)).trans ((sI_nej (by decide)).trans (e683_k0)), (sI_nej (by decide)).trans ((sI_nej (by decide)).trans ((g683.i _ _ (by decide)).trans (w666_51))), (sI_nej (by decide)).trans ((sI_nej (by decide)).trans ((g683.i _ _ (by decide)).trans (w666_53))), (sI_nej (by decide)).trans ((sI_nej (by decide)).trans ((g683.i _ _ (by decide)).trans ((FR666.i _ _ (by decide)).trans h48))), (sI_nej (by decide)).trans ((sI_nej (by decide)).trans ((g683.i _ _ (by decide)).trans ((FR666.i _ _ (by decide)).trans h49))), by omega⟩⟩)
                  ·
                    refine rsl (cV_e (a64_2 (by omega) hS (hC.fr FL666) (hTk.fr (WL := W_cp) FL666 (by decide)) (q666_12) (q666_13) (q666_10) (li_59) (by omega))) ?_
                    refine rsl (jn_v) ?_
                    refine rsl (if_neg (eqI_n (li_1) (li_0) (by omega))) ?_
                    refine rsl (vC_e (ck_65 (hC.fr FL666).sI.sI.sI)) ?_
                    refine RlV (y105 (by omega) (hC.fr FL666).sI.sI.sI (hTk.fr (WL := W_cp) (Fr.sI (by decide) (Fr.sI (by decide) (Fr.sI (by decide) FL666))) (by decide)) ((sI_nej (by decide)).trans ((sI_nej (by decide)).trans ((sI_nej (by decide)).trans (q666_12)))) (sI_eq) ((sI_nej (by decide)).trans ((sI_nej (by decide)).trans (sI_eq))) ((sI_nej (by decide)).trans (sI_eq)) ((sI_nej (by decide)).trans ((sI_nej (by decide)).trans ((sI_nej (by decide)).trans (q666_9)))) ((sI_nej (by decide)).trans ((sI_nej (by decide)).trans ((sI_nej (by decide)).trans (q666_16)))) ((sI_nej (by decide)).trans ((sI_nej (by decide)).trans ((sI_nej (by decide)).trans (q666_19)))) (congrArg iI p505_0) (li_3) (li_6) (by omega)) fun v Ma685 h685 => ?_
                    obtain ⟨sz684, sn684, uc684, g685, e685_sz684, e685_sn684, e685_uc684, e685_k0, e685_k1, e685_k2, e685_k3, p685_0, p685_1, p685_2⟩ := h685
                    have f685 : Fr W_cp Mc Ma685 := Fr.t (Fr.sI (by decide) (Fr.sI (by decide) (Fr.sI (by decide) FL666))) (Fr.m g685 (by decide))
                    refine rsl (cV_e rfl) ?_
                    refine rsl (jv_e) ?_
                    refine rsr (vC_e (rk_160 (hR.fr FR666))) ?_
                    refine RrV (a202 (by omega) (hR.fr FR666) (w666_43) ((FR666.i _ _ (by decide)).trans h49) ((FR666.i _ _ (by decide)).trans h48) (congrArg iI p576_0) (li_3) (li_6) (by omega)) fun v Ma686 h686 => ?_
                    obtain ⟨g686, e686_k0, p686_0, p686_1⟩ := h686
                    have f686 : Fr W_rx Mr Ma686 := Fr.t FR666 (Fr.m g686 (by decide))
                    refine rsr (cV_e rfl) ?_
                    refine rsr (vC_e (rk_160 (hR.fr f686))) ?_
                    refine rsr (cI_e (a195_59_2 (by omega) hS (hR.fr f686) ((g686.i _ _ (by decide)).trans (w666_36)) ((g686.i _ _ (by decide)).trans (w666_37)) ((g686.i _ _ (by decide)).trans (w666_41)) (li_59) (by omega))) ?_
                    refine rsr (jv_e) ?_
                    exact Rs.ok (Or.inr ⟨2, ((pl i666)), f685, (Fr.sI (by decide) (Fr.sI (by decide) (Fr.m f686 (by decide)))), ⟨i666, sz684, sn684, uc684, e685_k0, e685_k1, e685_k2, e685_k3, e685_sz684, e685_sn684, e685_uc684, by omega⟩, ⟨(e666 + 1), s, u666, mu, ut, (sI_nej (by decide)).trans (sI_eq), sI_eq, (sI_nej (by decide)).trans ((sI_nej (by decide)).trans (e686_k0)), (sI_nej (by decide)).trans ((sI_nej (by decide)).trans ((g686.i _ _ (by decide)).trans (w666_51))), (sI_nej (by decide)).trans ((sI_nej (by decide)).trans ((g686.i _ _ (by decide)).trans (w666_53))), (sI_nej (by decide)).trans ((sI_nej (by decide)).trans ((g686.i _ _ (by decide)).trans ((FR666.i _ _ (by decide)).trans h48))), (sI_nej (by decide)).trans ((sI_nej (by decide)).trans ((g686.i _ _ (by decide)).trans ((FR666.i _ _ (by decide)).trans h49))), by omega⟩⟩)
              ·
                have FL666 : Fr W_cp Mc Mx666 := Fr.t (Fr.sI (by decide) (Fr.sI (by decide) FL657)) fl666
                have FR666 : Fr W_rp Mr Nx666 := Fr.t (Fr.m f665 W_rx_p) fr666
                obtain ⟨ti666, tz666, tn666, tu666, t13666, t10666, t11666, t12666, t9666, t16666, t19666, tb666⟩ := tc666
                obtain ⟨re666, rn666, ru666, rm666, rt666, u41666, u42666, u43666, u51666, u53666, u48666, u49666, ub666⟩ := tr666
                refine rsl (cV_e rfl) ?_
                refine rsr (cV_e rfl) ?_
                refine rsl (vC_e (ck_65 (hC.fr FL666))) ?_
                refine RlV (y64 (by omega) (hC.fr FL666) (hTk.fr (WL := W_cp) FL666 (by decide)) (t12666) (t13666) (t10666) (t11666) (t9666) (t16666) (t19666) (li_59) (by omega)) fun v Ma688 h688 => ?_
                obtain ⟨sz687, sn687, uc687, g688, e688_sz687, e688_sn687, e688_uc687, e688_k0, e688_k1, e688_k2, e688_k3, p688_0, p688_1, p688_2⟩ := h688
                have f688 : Fr W_cp Mc Ma688 := Fr.t FL666 (Fr.m g688 (by decide))
                refine rsl (cV_e rfl) ?_
                refine rsl (jn_v) ?_
                refine rsl (if_neg (eqI_n (li_1) (li_0) (by omega))) ?_
                refine rsl (vC_e (ck_65 (hC.fr f688))) ?_
                refine RlV (y105 (by omega) (hC.fr f688) (hTk.fr (WL := W_cp) f688 (by decide)) (e688_k3) (e688_k0) (e688_k1) (e688_k2) (e688_sz687) (e688_sn687) (e688_uc687) (congrArg iI p505_0) (li_3) (li_6) (by omega)) fun v Ma690 h690 => ?_
                obtain ⟨sz689, sn689, uc689, g690, e690_sz689, e690_sn689, e690_uc689, e690_k0, e690_k1, e690_k2, e690_k3, p690_0, p690_1, p690_2⟩ := h690
                have f690 : Fr W_cp Mc Ma690 := Fr.t f688 (Fr.m g690 (by decide))
                refine rsl (cV_e rfl) ?_
                refine rsl (jv_e) ?_
                refine rsr (vC_e (rk_160 (hR.fr FR666))) ?_
                refine RrV (x202_s (by omega) (hR.fr FR666) (u41666) (u42666) (u43666) (u51666) (u53666) (u48666) (u49666) (congrArg iI p576_0) (li_3) (li_6) (by omega)) fun v Ma692 h692 => ?_
                obtain ⟨em691, g692, e692_em691, e692_k0, e692_k1, e692_k2, e692_k3, e692_k4, p692_0⟩ := h692
                have f692 : Fr W_rp Mr Ma692 := Fr.t FR666 (Fr.m g692 (by decide))
                refine rsr (cV_e rfl) ?_
                refine rsr (vC_e (rk_160 (hR.fr f692))) ?_
                refine RrI (x195_s (by omega) (hR.fr f692) (e692_k0) (e692_k1) (e692_em691) (e692_k2) (e692_k3) (e692_k4) ((g692.i _ _ (by decide)).trans (u49666)) (li_59) (by omega)) fun v Ma694 h694 => ?_
                obtain ⟨rv693, em693, rfl, g694, e694_em693, e694_k0, e694_k1, e694_k2, e694_k3, e694_k4, p694_0, p694_1⟩ := h694
                have f694 : Fr W_rp Mr Ma694 := Fr.t f692 (Fr.m g694 (by decide))
                refine rsr (cI_e rfl) ?_
                refine rsr (jv_e) ?_
                exact Rs.ok (Or.inr ⟨F666, P666, f690, f694, ⟨ti666, sz689, sn689, uc689, e690_k0, e690_k1, e690_k2, e690_k3, e690_sz689, e690_sn689, e690_uc689, by omega⟩, ⟨em693, rn666, ru666, rm666, rt666, e694_k0, e694_k1, e694_em693, e694_k2, e694_k3, e694_k4, (g694.i _ _ (by decide)).trans ((g692.i _ _ (by decide)).trans (u49666)), by omega⟩⟩)
            ·
              by_cases c695 : ((kd i657)) = 1
              ·
                refine rsl (cV_e (a64_1 (by omega) hS (hC.fr FL657) (hTk.fr (WL := W_cp) FL657 (by decide)) (q657_12) (q657_13) (q657_10) (li_61) (by omega))) ?_
                refine rsl (vC_e (ck_65 (hC.fr FL657).sI.sI.sI)) ?_
                refine RlV (y99_0 (by omega) (hC.fr FL657).sI.sI.sI (hTk.fr (WL := W_cp) (Fr.sI (by decide) (Fr.sI (by decide) (Fr.sI (by decide) FL657))) (by decide)) ((sI_nej (by decide)).trans ((sI_nej (by decide)).trans ((sI_nej (by decide)).trans (q657_12)))) (sI_eq) ((sI_nej (by decide)).trans ((sI_nej (by decide)).trans (sI_eq))) ((sI_nej (by decide)).trans (sI_eq)) ((sI_nej (by decide)).trans ((sI_nej (by decide)).trans ((sI_nej (by decide)).trans (q657_9)))) ((sI_nej (by decide)).trans ((sI_nej (by decide)).trans ((sI_nej (by decide)).trans (q657_16)))) ((sI_nej (by decide)).trans ((sI_nej (by decide)).trans ((sI_nej (by decide)).trans (q657_19)))) (li_0) (hv0) (by omega)) fun v Ma697 h697 => ?_
                obtain ⟨sz696, sn696, uc696, g697, e697_sz696, e697_sn696, e697_uc696, e697_k0, e697_k1, e697_k2, e697_k3, p697_0, p697_1, p697_2⟩ := h697
                have f697 : Fr W_cp Mc Ma697 := Fr.t (Fr.sI (by decide) (Fr.sI (by decide) (Fr.sI (by decide) FL657))) (Fr.m g697 (by decide))
                refine rsl (cV_e rfl) ?_
                refine rsl (vC_e (ck_65 (hC.fr f697))) ?_
                refine RlV (y64 (by omega) (hC.fr f697) (hTk.fr (WL := W_cp) f697 (by decide)) (e697_k3) (e697_k0) (e697_k1) (e697_k2) (e697_sz696) (e697_sn696) (e697_uc696) (li_59) (by omega)) fun v Ma699 h699 => ?_
                obtain ⟨sz698, sn698, uc698, g699, e699_sz698, e699_sn698, e699_uc698, e699_k0, e699_k1, e699_k2, e699_k3, p699_0, p699_1, p699_2⟩ := h699
                have f699 : Fr W_cp Mc Ma699 := Fr.t f697 (Fr.m g699 (by decide))
                refine rsl (cV_e rfl) ?_
                refine rsl (jn_v) ?_
                refine rsl (if_neg (eqI_n (li_1) (li_0) (by omega))) ?_
                refine rsl (vC_e (ck_65 (hC.fr f699))) ?_
                refine RlV (y105 (by omega) (hC.fr f699) (hTk.fr (WL := W_cp) f699 (by decide)) (e699_k3) (e699_k0) (e699_k1) (e699_k2) (e699_sz698) (e699_sn698) (e699_uc698) (congrArg iI p505_0) (li_3) (li_6) (by omega)) fun v Ma701 h701 => ?_
                obtain ⟨sz700, sn700, uc700, g701, e701_sz700, e701_sn700, e701_uc700, e701_k0, e701_k1, e701_k2, e701_k3, p701_0, p701_1, p701_2⟩ := h701
                have f701 : Fr W_cp Mc Ma701 := Fr.t f699 (Fr.m g701 (by decide))
                refine rsl (cV_e rfl) ?_
                refine rsl (jv_e) ?_
                refine rsr (vC_e (rk_160 (hR.fr FR657))) ?_
                refine rsr (cI_e (a195_61_1 (by omega) hS (hR.fr FR657) (w657_36) (w657_37) (w657_41) (li_61) (by omega))) ?_
                refine rsr (vC_e (rk_160 (hR.fr FR657).sI.sI)) ?_
                refine RrV (x211_s (by omega) (hR.fr FR657).sI.sI ((sI_nej (by decide)).trans (sI_eq)) (sI_eq) ((sI_nej (by decide)).trans ((sI_nej (by decide)).trans (w657_43))) ((sI_nej (by decide)).trans ((sI_nej (by decide)).trans (w657_51))) ((sI_nej (by decide)).trans ((sI_nej (by decide)).trans (w657_53))) ((sI_nej (by decide)).trans ((sI_nej (by decide)).trans ((FR657.i _ _ (by decide)).trans h48))) ((sI_nej (by decide)).trans ((sI_nej (by decide)).trans ((FR657.i _ _ (by decide)).trans h49)))  (by omega)) fun v Ma703 h703 => ?_
                obtain ⟨em702, g703, e703_em702, e703_k0, e703_k1, e703_k2, e703_k3, e703_k4, p703_0⟩ := h703
                have f703 : Fr W_rp Mr Ma703 := Fr.t (Fr.sI (by decide) (Fr.sI (by decide) (Fr.m FR657 (by decide)))) (Fr.m g703 (by decide))
                refine rsr (cV_e rfl) ?_
                refine rsr (vC_e (rk_160 (hR.fr f703))) ?_
                refine RrV (x202_s (by omega) (hR.fr f703) (e703_k0) (e703_k1) (e703_em702) (e703_k2) (e703_k3) (e703_k4) ((g703.i _ _ (by decide)).trans ((sI_nej (by decide)).trans ((sI_nej (by decide)).trans ((FR657.i _ _ (by decide)).trans h49)))) (congrArg iI p576_0) (li_3) (li_6) (by omega)) fun v Ma705 h705 => ?_
                obtain ⟨em704, g705, e705_em704, e705_k0, e705_k1, e705_k2, e705_k3, e705_k4, p705_0⟩ := h705
                have f705 : Fr W_rp Mr Ma705 := Fr.t f703 (Fr.m g705 (by decide))
                refine rsr (cV_e rfl) ?_
                refine rsr (vC_e (rk_160 (hR.fr f705))) ?_
                refine RrI (x195_s (by omega) (hR.fr f705) (e705_k0) (e705_k1) (e705_em704) (e705_k2) (e705_k3) (e705_k4) ((g705.i _ _ (by decide)).trans ((g703.i _ _ (by decide)).trans ((sI_nej (by decide)).trans ((sI_nej (by decide)).trans ((FR657.i _ _ (by decide)).trans h49))))) (li_59) (by omega)) fun v Ma707 h707 => ?_
                obtain ⟨rv706, em706, rfl, g707, e707_em706, e707_k0, e707_k1, e707_k2, e707_k3, e707_k4, p707_0, p707_1⟩ := h707
                have f707 : Fr W_rp Mr Ma707 := Fr.t f705 (Fr.m g707 (by decide))
                refine rsr (cI_e rfl) ?_
                refine rsr (jv_e) ?_
                exact Rs.ok (Or.inr ⟨1, ((pl i657)), f701, f707, ⟨i657, sz700, sn700, uc700, e701_k0, e701_k1, e701_k2, e701_k3, e701_sz700, e701_sn700, e701_uc700, by omega⟩, ⟨em706, s, u657, mu, ut, e707_k0, e707_k1, e707_em706, e707_k2, e707_k3, e707_k4, (g707.i _ _ (by decide)).trans ((g705.i _ _ (by decide)).trans ((g703.i _ _ (by decide)).trans ((sI_nej (by decide)).trans ((sI_nej (by decide)).trans ((FR657.i _ _ (by decide)).trans h49))))), by omega⟩⟩)
              ·
                refine rsl (cV_e (a64_2 (by omega) hS (hC.fr FL657) (hTk.fr (WL := W_cp) FL657 (by decide)) (q657_12) (q657_13) (q657_10) (li_61) (by omega))) ?_
                refine rsl (vC_e (ck_65 (hC.fr FL657).sI.sI.sI)) ?_
                refine RlV (y99_0 (by omega) (hC.fr FL657).sI.sI.sI (hTk.fr (WL := W_cp) (Fr.sI (by decide) (Fr.sI (by decide) (Fr.sI (by decide) FL657))) (by decide)) ((sI_nej (by decide)).trans ((sI_nej (by decide)).trans ((sI_nej (by decide)).trans (q657_12)))) (sI_eq) ((sI_nej (by decide)).trans ((sI_nej (by decide)).trans (sI_eq))) ((sI_nej (by decide)).trans (sI_eq)) ((sI_nej (by decide)).trans ((sI_nej (by decide)).trans ((sI_nej (by decide)).trans (q657_9)))) ((sI_nej (by decide)).trans ((sI_nej (by decide)).trans ((sI_nej (by decide)).trans (q657_16)))) ((sI_nej (by decide)).trans ((sI_nej (by decide)).trans ((sI_nej (by decide)).trans (q657_19)))) (li_0) (hv0) (by omega)) fun v Ma709 h709 => ?_
                obtain ⟨sz708, sn708, uc708, g709, e709_sz708, e709_sn708, e709_uc708, e709_k0, e709_k1, e709_k2, e709_k3, p709_0, p709_1, p709_2⟩ := h709
                have f709 : Fr W_cp Mc Ma709 := Fr.t (Fr.sI (by decide) (Fr.sI (by decide) (Fr.sI (by decide) FL657))) (Fr.m g709 (by decide))
                refine rsl (cV_e rfl) ?_
                refine rsl (vC_e (ck_65 (hC.fr f709))) ?_
                refine RlV (y64 (by omega) (hC.fr f709) (hTk.fr (WL := W_cp) f709 (by decide)) (e709_k3) (e709_k0) (e709_k1) (e709_k2) (e709_sz708) (e709_sn708) (e709_uc708) (li_59) (by omega)) fun v Ma711 h711 => ?_
                obtain ⟨sz710, sn710, uc710, g711, e711_sz710, e711_sn710, e711_uc710, e711_k0, e711_k1, e711_k2, e711_k3, p711_0, p711_1, p711_2⟩ := h711
                have f711 : Fr W_cp Mc Ma711 := Fr.t f709 (Fr.m g711 (by decide))
                refine rsl (cV_e rfl) ?_
                refine rsl (jn_v) ?_
                refine rsl (if_neg (eqI_n (li_1) (li_0) (by omega))) ?_
                refine rsl (vC_e (ck_65 (hC.fr f711))) ?_
                refine RlV (y105 (by omega) (hC.fr f711) (hTk.fr (WL := W_cp) f711 (by decide)) (e711_k3) (e711_k0) (e711_k1) (e711_k2) (e711_sz710) (e711_sn710) (e711_uc710) (congrArg iI p505_0) (li_3) (li_6) (by omega)) fun v Ma713 h713 => ?_
                obtain ⟨sz712, sn712, uc712, g713, e713_sz712, e713_sn712, e713_uc712, e713_k0, e713_k1, e713_k2, e713_k3, p713_0, p713_1, p713_2⟩ := h713
                have f713 : Fr W_cp Mc Ma713 := Fr.t f711 (Fr.m g713 (by decide))
                refine rsl (cV_e rfl) ?_
                refine rsl (jv_e) ?_
                refine rsr (vC_e (rk_160 (hR.fr FR657))) ?_
                refine rsr (cI_e (a195_61_2 (by omega) hS (hR.fr FR657) (w657_36) (w657_37) (w657_41) (li_61) (by omega))) ?_
                refine rsr (vC_e (rk_160 (hR.fr FR657).sI.sI)) ?_
                refine RrV (x211_s (by omega) (hR.fr FR657).sI.sI ((sI_nej (by decide)).trans (sI_eq)) (sI_eq) ((sI_nej (by decide)).trans ((sI_nej (by decide)).trans (w657_43))) ((sI_nej (by decide)).trans ((sI_nej (by decide)).trans (w657_51))) ((sI_nej (by decide)).trans ((sI_nej (by decide)).trans (w657_53))) ((sI_nej (by decide)).trans ((sI_nej (by decide)).trans ((FR657.i _ _ (by decide)).trans h48))) ((sI_nej (by decide)).trans ((sI_nej (by decide)).trans ((FR657.i _ _ (by decide)).trans h49)))  (by omega)) fun v Ma715 h715 => ?_
                obtain ⟨em714, g715, e715_em714, e715_k0, e715_k1, e715_k2, e715_k3, e715_k4, p715_0⟩ := h715
                have f715 : Fr W_rp Mr Ma715 := Fr.t (Fr.sI (by decide) (Fr.sI (by decide) (Fr.m FR657 (by decide)))) (Fr.m g715 (by decide))
                refine rsr (cV_e rfl) ?_
                refine rsr (vC_e (rk_160 (hR.fr f715))) ?_
                refine RrV (x202_s (by omega) (hR.fr f715) (e715_k0) (e715_k1) (e715_em714) (e715_k2) (e715_k3) (e715_k4) ((g715.i _ _ (by decide)).trans ((sI_nej (by decide)).trans ((sI_nej (by decide)).trans ((FR657.i _ _ (by decide)).trans h49)))) (congrArg iI p576_0) (li_3) (li_6) (by omega)) fun v Ma717 h717 => ?_
                obtain ⟨em716, g717, e717_em716, e717_k0, e717_k1, e717_k2, e717_k3, e717_k4, p717_0⟩ := h717
                have f717 : Fr W_rp Mr Ma717 := Fr.t f715 (Fr.m g717 (by decide))
                refine rsr (cV_e rfl) ?_
                refine rsr (vC_e (rk_160 (hR.fr f717))) ?_
                refine RrI (x195_s (by omega) (hR.fr f717) (e717_k0) (e717_k1) (e717_em716) (e717_k2) (e717_k3) (e717_k4) ((g717.i _ _ (by decide)).trans ((g715.i _ _ (by decide)).trans ((sI_nej (by decide)).trans ((sI_nej (by decide)).trans ((FR657.i _ _ (by decide)).trans h49))))) (li_59) (by omega)) fun v Ma719 h719 => ?_
                obtain ⟨rv718, em718, rfl, g719, e719_em718, e719_k0, e719_k1, e719_k2, e719_k3, e719_k4, p719_0, p719_1⟩ := h719
                have f719 : Fr W_rp Mr Ma719 := Fr.t f717 (Fr.m g719 (by decide))
                refine rsr (cI_e rfl) ?_
                refine rsr (jv_e) ?_
                exact Rs.ok (Or.inr ⟨2, ((pl i657)), f713, f719, ⟨i657, sz712, sn712, uc712, e713_k0, e713_k1, e713_k2, e713_k3, e713_sz712, e713_sn712, e713_uc712, by omega⟩, ⟨em718, s, u657, mu, ut, e719_k0, e719_k1, e719_em718, e719_k2, e719_k3, e719_k4, (g719.i _ _ (by decide)).trans ((g717.i _ _ (by decide)).trans ((g715.i _ _ (by decide)).trans ((sI_nej (by decide)).trans ((sI_nej (by decide)).trans ((FR657.i _ _ (by decide)).trans h49))))), by omega⟩⟩)
          ·
            have FL657 : Fr W_cp Mc Mx657 := Fr.t f505 fl657
            have FR657 : Fr W_rp Mr Nx657 := Fr.t (Fr.m f576 W_rx_p) fr657
            obtain ⟨ti657, tz657, tn657, tu657, t13657, t10657, t11657, t12657, t9657, t16657, t19657, tb657⟩ := tc657
            obtain ⟨re657, rn657, ru657, rm657, rt657, u41657, u42657, u43657, u51657, u53657, u48657, u49657, ub657⟩ := tr657
            refine rsl (cV_e rfl) ?_
            refine rsr (cV_e rfl) ?_
            refine rsl (jv_e) ?_
            refine rsl (vC_e (ck_65 (hC.fr FL657))) ?_
            refine RlV (y64 (by omega) (hC.fr FL657) (hTk.fr (WL := W_cp) FL657 (by decide)) (t12657) (t13657) (t10657) (t11657) (t9657) (t16657) (t19657) (li_61) (by omega)) fun v Ma721 h721 => ?_
            obtain ⟨sz720, sn720, uc720, g721, e721_sz720, e721_sn720, e721_uc720, e721_k0, e721_k1, e721_k2, e721_k3, p721_0, p721_1, p721_2⟩ := h721
            have f721 : Fr W_cp Mc Ma721 := Fr.t FL657 (Fr.m g721 (by decide))
            refine rsl (cV_e rfl) ?_
            refine rsl (vC_e (ck_65 (hC.fr f721))) ?_
            refine RlV (y99_0 (by omega) (hC.fr f721) (hTk.fr (WL := W_cp) f721 (by decide)) (e721_k3) (e721_k0) (e721_k1) (e721_k2) (e721_sz720) (e721_sn720) (e721_uc720) (li_0) (hv0) (by omega)) fun v Ma723 h723 => ?_
            obtain ⟨sz722, sn722, uc722, g723, e723_sz722, e723_sn722, e723_uc722, e723_k0, e723_k1, e723_k2, e723_k3, p723_0, p723_1, p723_2⟩ := h723
            have f723 : Fr W_cp Mc Ma723 := Fr.t f721 (Fr.m g723 (by decide))
            refine rsl (cV_e rfl) ?_
            refine rsl (vC_e (ck_65 (hC.fr f723))) ?_
            refine RlV (y64 (by omega) (hC.fr f723) (hTk.fr (WL := W_cp) f723 (by decide)) (e723_k3) (e723_k0) (e723_k1) (e723_k2) (e723_sz722) (e723_sn722) (e723_uc722) (li_59) (by omega)) fun v Ma725 h725 => ?_
            obtain ⟨sz724, sn724, uc724, g725, e725_sz724, e725_sn724, e725_uc724, e725_k0, e725_k1, e725_k2, e725_k3, p725_0, p725_1, p725_2⟩ := h725
            have f725 : Fr W_cp Mc Ma725 := Fr.t f723 (Fr.m g725 (by decide))
            refine rsl (cV_e rfl) ?_
            refine rsl (jn_v) ?_
            refine rsl (if_neg (eqI_n (li_1) (li_0) (by omega))) ?_
            refine rsl (vC_e (ck_65 (hC.fr f725))) ?_
            refine RlV (y105 (by omega) (hC.fr f725) (hTk.fr (WL := W_cp) f725 (by decide)) (e725_k3) (e725_k0) (e725_k1) (e725_k2) (e725_sz724) (e725_sn724) (e725_uc724) (congrArg iI p505_0) (li_3) (li_6) (by omega)) fun v Ma727 h727 => ?_
            obtain ⟨sz726, sn726, uc726, g727, e727_sz726, e727_sn726, e727_uc726, e727_k0, e727_k1, e727_k2, e727_k3, p727_0, p727_1, p727_2⟩ := h727
            have f727 : Fr W_cp Mc Ma727 := Fr.t f725 (Fr.m g727 (by decide))
            refine rsl (cV_e rfl) ?_
            refine rsl (jv_e) ?_
            refine rsr (vC_e (rk_160 (hR.fr FR657))) ?_
            refine RrI (x195_s (by omega) (hR.fr FR657) (u41657) (u42657) (u43657) (u51657) (u53657) (u48657) (u49657) (li_61) (by omega)) fun v Ma729 h729 => ?_
            obtain ⟨rv728, em728, rfl, g729, e729_em728, e729_k0, e729_k1, e729_k2, e729_k3, e729_k4, p729_0, p729_1⟩ := h729
            have f729 : Fr W_rp Mr Ma729 := Fr.t FR657 (Fr.m g729 (by decide))
            refine rsr (cI_e rfl) ?_
            refine rsr (vC_e (rk_160 (hR.fr f729))) ?_
            refine RrV (x211_s (by omega) (hR.fr f729) (e729_k0) (e729_k1) (e729_em728) (e729_k2) (e729_k3) (e729_k4) ((g729.i _ _ (by decide)).trans (u49657))  (by omega)) fun v Ma731 h731 => ?_
            obtain ⟨em730, g731, e731_em730, e731_k0, e731_k1, e731_k2, e731_k3, e731_k4, p731_0⟩ := h731
            have f731 : Fr W_rp Mr Ma731 := Fr.t f729 (Fr.m g731 (by decide))
            refine rsr (cV_e rfl) ?_
            refine rsr (vC_e (rk_160 (hR.fr f731))) ?_
            refine RrV (x202_s (by omega) (hR.fr f731) (e731_k0) (e731_k1) (e731_em730) (e731_k2) (e731_k3) (e731_k4) ((g731.i _ _ (by decide)).trans ((g729.i _ _ (by decide)).trans (u49657))) (congrArg iI p576_0) (li_3) (li_6) (by omega)) fun v Ma733 h733 => ?_
            obtain ⟨em732, g733, e733_em732, e733_k0, e733_k1, e733_k2, e733_k3, e733_k4, p733_0⟩ := h733
            have f733 : Fr W_rp Mr Ma733 := Fr.t f731 (Fr.m g733 (by decide))
            refine rsr (cV_e rfl) ?_
            refine rsr (vC_e (rk_160 (hR.fr f733))) ?_
            refine RrI (x195_s (by omega) (hR.fr f733) (e733_k0) (e733_k1) (e733_em732) (e733_k2) (e733_k3) (e733_k4) ((g733.i _ _ (by decide)).trans ((g731.i _ _ (by decide)).trans ((g729.i _ _ (by decide)).trans (u49657)))) (li_59) (by omega)) fun v Ma735 h735 => ?_
            obtain ⟨rv734, em734, rfl, g735, e735_em734, e735_k0, e735_k1, e735_k2, e735_k3, e735_k4, p735_0, p735_1⟩ := h735
            have f735 : Fr W_rp Mr Ma735 := Fr.t f733 (Fr.m g735 (by decide))
            refine rsr (cI_e rfl) ?_
            refine rsr (jv_e) ?_
            exact Rs.ok (Or.inr ⟨F657, P657, f727, f735, ⟨ti657, sz726, sn726, uc726, e727_k0, e727_k1, e727_k2, e727_k3, e727_sz726, e727_sn726, e727_uc726, by omega⟩, ⟨em734, rn657, ru657, rm657, rt657, e735_k0, e735_k1, e735_em734, e735_k2, e735_k3, e735_k4, (g735.i _ _ (by decide)).trans ((g733.i _ _ (by decide)).trans ((g731.i _ _ (by decide)).trans ((g729.i _ _ (by decide)).trans (u49657)))), by omega⟩⟩)
      · refine rsl (if_neg (eqI_n (rfl) (li_91) (by omega))) ?_
        refine rsl (jv_e) ?_
        refine rsl (jn_v) ?_
        refine rsl (if_pos (eqI_p (li_0) (li_0) (by omega))) ?_
        refine rsl (jv_e) ?_
        refine rsl (vC_e (ck_65 (hC.fr f505))) ?_
        by_cases c736 : ((kd (i + 1))) = 61
        ·
          have hm737 : (i + 1) + 1 < m := hS.more (i + 1) (by omega) (by omega) (by omega)
          refine rsl (cV_e (a64q (by omega) hS (hC.fr f505) (hTk.fr (WL := W_cp) f505 (by decide)) (e505_k0) (e505_k2) (e505_k3) (li_61) (i2 := (i + 2)) (by omega) (by omega))) ?_
          have hk738 := (hS.ok (i + 2) (by omega) (by omega)).r
          refine rsl (vC_e (ck_65 (hC.fr f505).sI.sI)) ?_
          refine rsr (gtI_q (w := iI ((kr (kd i)))) (rk_160 hR) (wa_36)) ?_
          refine rsr (jn_v) ?_
          refine rsr (swI_c) ?_
          refine rsr (if_neg (krI_n (k := 215) (rfl) (li_416) (hS.ok i (by omega) (by omega)) (by unfold KdOK sgk; omega) (by decide +kernel) (by omega) (by omega))) ?_
          refine rsr (swI_c) ?_
          refine rsr (if_neg (krI_n (k := 216) (rfl) (li_417) (hS.ok i (by omega) (by omega)) (by unfold KdOK sgk; omega) (by decide +kernel) (by omega) (by omega))) ?_
          refine rsr (swI_c) ?_
          refine rsr (if_neg (krI_n (k := 217) (rfl) (li_418) (hS.ok i (by omega) (by omega)) (by unfold KdOK sgk; omega) (by decide +kernel) (by omega) (by omega))) ?_
          refine rsr (swI_c) ?_
          refine rsr (if_neg (krI_n (k := 218) (rfl) (li_419) (hS.ok i (by omega) (by omega)) (by unfold KdOK sgk; omega) (by decide +kernel) (by omega) (by omega))) ?_
          refine rsr (swI_c) ?_
          refine rsr (if_neg (krI_n (k := 219) (rfl) (li_420) (hS.ok i (by omega) (by omega)) (by unfold KdOK sgk; omega) (by decide +kernel) (by omega) (by omega))) ?_
          refine rsr (swI_c) ?_
          refine rsr (if_neg (krI_n (k := 220) (rfl) (li_421) (hS.ok i (by omega) (by omega)) (by unfold KdOK sgk; omega) (by decide +kernel) (by omega) (by omega))) ?_
          refine rsr (swI_c) ?_
          refine rsr (if_neg (krI_n (k := 221) (rfl) (li_422) (hS.ok i (by omega) (by omega)) (by unfold KdOK sgk; omega) (by decide +kernel) (by omega) (by omega))) ?_
          refine rsr (swI_c) ?_
          refine rsr (if_neg (krI_n (k := 222) (rfl) (li_423) (hS.ok i (by omega) (by omega)) (by unfold KdOK sgk; omega) (by decide +kernel) (by omega) (by omega))) ?_
          refine rsr (swI_n) ?_
          refine rsr (gtI_q (w := iI ((kr (kd i)))) (rk_160 hR) (wa_36)) ?_
          refine rsr (jn_v) ?_
          refine rsr (if_pos (krI_p (k := 3) (rfl) (li_1) (by omega) (by decide +kernel))) ?_
          refine rsr (jv_e) ?_
          refine rsr (vC_e (rk_160 hR)) ?_
          refine rsr (cI_e (ar193_p (by omega) hS hR (wa_36) (wa_37) (wa_41) (li_1) (by omega))) ?_
          refine rsr (if_neg (eqI_n (rfl) (li_0) (by omega))) ?_
          refine rsr (vC_e (rk_160 hR)) ?_
          refine Rs_cVr ?_ (fun v M w N h => rs1 jv_e (Rt.ok h))
          obtain ⟨d2, rfl⟩ : ∃ e, d2 = e + 1 := ⟨d2 - 1, by omega⟩
          rw [r217]; unfold b217; rw [aR_e, aZ_e]; unfold c217
          refine rsr (vC_e (rk_160 hR)) ?_
          refine RrI (a201_u (by omega) hS hR (hT.fr (W := W_rx) Fr.r (by decide) (by decide)) (fun i a b => (Fr.lc (W := W_rx) Fr.r _ (by decide) _).trans (hW i a b)) (wa_36) (wa_37) (wa_38) (wa_41) (h49) (wa_53) wa_n (by omega)) fun v Ma740 h740 => ?_
          obtain ⟨r739, rfl, g740, e740_k0, e740_k1, e740_k2, e740_k3, e740_k4, p740_0, p740_1, p740_2⟩ := h740
          have f740 : Fr W_rx Mr Ma740 := Fr.t Fr.r (Fr.m g740 (by decide))
          refine rsr (cI_e rfl) ?_
          refine rsr (gtI_q (w := iI 0) (rk_160 (hR.fr f740)) (e740_k4)) ?_
          refine rsr (if_pos (eqI_p (rfl) (li_0) (by omega))) ?_
          refine rsr (gtP_q (w := some 202) (rk_160 (hR.fr f740)) (rf_56 (hR.fr f740))) ?_
          refine rsr (alL_q (n := 2000) (z := u) (w := (0 : Int64)) (rk_202 (hR.fr f740)) (congrArg iI p740_0) (by omega) (p740_1.2.2.2.1)) ?_
          refine rsr (jn_v) ?_
          refine rsr (if_pos (lgc_p (rfl) (rfl) rfl)) ?_
          refine rsr (gtP_q (w := some 204) (rk_160 (hR.fr f740)) (rf_58 (hR.fr f740))) ?_
          refine rsr (alL_q (n := 2000) (z := u) (w := (tx i)) (rk_204 (hR.fr f740)) (congrArg iI p740_0) (by omega) (p740_1.2.2.2.2.2.1)) ?_
          refine rsr (vC_e (rk_160 (hR.fr f740))) ?_
          obtain ⟨rl, hrl⟩ : ∃ r, LcF Hl s (tx i) r := by have q := LcF_ex (Hl := Hl) (y := (tx i)) s.toNat; rw [show ((s.toNat : Nat) : Int) = s by omega] at q; exact q
          have brl := hrl.bd
          by_cases crl : rl = -1
          ·
            subst crl
            refine RrI (a197 (by omega) (hR.fr f740) ((g740.i _ _ (by decide)).trans (wa_51)) (lra.fr g740 (by decide)) (by omega)) fun v Nl741 hl741 => ?_
            obtain ⟨r9, rfl, hMl, hr9⟩ := hl741
            rw [hMl]
            have q9 := LcF.one hr9 hrl
            rw [q9]
            refine rsr (cI_e rfl) ?_
            refine rsr (jv_e) ?_
            try dsimp only
            refine rsr (gtI_q (w := iI ((kr (kd (i + 1))))) (rk_160 (hR.fr f740)) (e740_k1)) ?_
            refine rsr (jn_v) ?_
            refine rsr (if_neg (krI_n (k := 40) (rfl) (li_40) (hS.ok (i + 1) (by omega) (by omega)) (by unfold KdOK sgk; omega) (by decide +kernel) (by omega) (by omega))) ?_
            refine rsr (gtI_q (w := iI ((kr (kd (i + 1))))) (rk_160 (hR.fr f740)) (e740_k1)) ?_
            refine rsr (if_neg (krI_n (k := 91) (rfl) (li_91) (hS.ok (i + 1) (by omega) (by omega)) (by unfold KdOK sgk; omega) (by decide +kernel) (by omega) (by omega))) ?_
            refine rsr (vC_e (rk_160 (hR.fr f740))) ?_
            refine RrI (a195_61 (by omega) hS (hR.fr f740) (hT.fr (W := W_rx) f740 (by decide) (by decide)) (fun i a b => (Fr.lc (W := W_rx) f740 _ (by decide) _).trans (hW i a b)) (e740_k1) (e740_k2) (e740_k3) (e740_k4) (li_61) (i2 := (i + 2)) (by omega) (by omega)) fun v Ma743 h743 => ?_
            obtain ⟨r742, rfl, g743, e743_k0, e743_k1, e743_k2, p743_0, p743_1⟩ := h743
            have f743 : Fr W_rx Mr Ma743 := Fr.t f740 (Fr.m g743 (by decide))
            refine rsr (cI_e rfl) ?_
            refine rsr (if_neg (eqI_n (congrArg iI p743_0) (li_0) (by omega))) ?_
            refine rsr (jn_v) ?_
            refine rsr (if_pos (lsI_p (congrArg iI (if_pos rfl)) (li_0) (by omega))) ?_
            refine rsr (jv_e) ?_
            refine rsr (vC_e (rk_160 (hR.fr f743))) ?_
            refine Rb_VV (hE _ _ (by omega) (by omega) T n m kd pl E tx ua ut mu _ _ G (pu U u [uc, (V Mr 201 u.toNat), (V Mr 200 u.toNat), (V Mr 203 u.toNat), (pl i), (V Mr 206 u.toNat), ut, 0, (V Mc 79 uc.toNat), (V Mc 80 uc.toNat), (V Mc 82 uc.toNat)]) Hl (pux X u [(0 : Int64), (tx i)]) (i + 2) e s (u + 1) (uc + 1) _ hS (hCx.fr (Fr.sI (by decide) (Fr.sI (by decide) f505)) f743) ⟨(sI_nej (by decide)).trans (sI_eq), sI_eq, (sI_nej (by decide)).trans ((sI_nej (by decide)).trans (e505_k3)), (sI_nej (by decide)).trans ((sI_nej (by decide)).trans ((g505.i _ _ (by decide)).trans (qa_9))), (sI_nej (by decide)).trans ((sI_nej (by decide)).trans ((g505.i _ _ (by decide)).trans (qa_16))), (sI_nej (by decide)).trans ((sI_nej (by decide)).trans (e505_k1))⟩ ⟨e743_k0, e743_k1, e743_k2, (g743.i _ _ (by decide)).trans (e740_k4), (g743.i _ _ (by decide)).trans ((g740.i _ _ (by decide)).trans (wa_43)), (g743.i _ _ (by decide)).trans ((g740.i _ _ (by decide)).trans (wa_51)), (g743.i _ _ (by decide)).trans (e740_k0), (g743.i _ _ (by decide)).trans ((g740.i _ _ (by decide)).trans (wa_50)), p743_1⟩ ⟨((caa.fr g505 (by decide)).fr (W := W_c0) (Fr.sI (by decide) (Fr.sI (by decide) Fr.r)) (by decide)), ((raa.fr g740 (by decide)).fr g743 (by decide)), ((lca.fr g505 (by decide)).fr (W := W_c0) (Fr.sI (by decide) (Fr.sI (by decide) Fr.r)) (by decide)), ((lra.fr g740 (by decide)).fr g743 (by decide)), ((CU.add cua (by omega) (by omega) p505_1 rfl rfl).fr (W := W_c0) (Fr.sI (by decide) (Fr.sI (by decide) Fr.r)) (by decide)), ((RU.add rua (by omega) p740_1 rfl).fr g743 (by decide))⟩ ⟨by omega, by omega, by omega, by omega, by omega, by omega, by omega, by omega, by omega, by omega, by omega, by omega⟩ (vs2 (li_0) (hv0))) fun v Mx744 w Nx744 hx744 => ?_
            rcases hx744 with ⟨i744, e744, u744, uc744, G744, U744, X744, fl744, fr744, sc744, sr744, rw744, bd744, mv744, ag744, au744, ax744, tp744, dp744, kv744⟩ | ⟨F744, P744, fl744, fr744, tc744, tr744⟩
            ·
              have FL744 : Fr W_cp Mc Mx744 := Fr.t (Fr.sI (by decide) (Fr.sI (by decide) f505)) fl744
              have FR744 : Fr W_rx Mr Nx744 := Fr.t f743 fr744
              obtain ⟨bb744_0, bb744_1, bb744_2, bb744_3, bb744_4, bb744_5, bb744_6, bb744_7, bb744_8, bb744_9, bb744_10, bb744_11⟩ := bd744
              obtain ⟨q744_12, q744_13, q744_10, q744_9, q744_16, q744_19⟩ := sc744
              obtain ⟨w744_36, w744_37, w744_38, w744_41, w744_43, w744_51, w744_53, w744_50, w744_n⟩ := sr744
              obtain ⟨ca744, ra744, lc744, lr744, cu744, ru744⟩ := rw744
              have hk745 := (hS.ok i744 (by omega) (by omega)).r
              have ku744 := KU.t ((KU.us kua p505_1 g505 (by decide) (by omega)).fr (W := W_c0) (Fr.sI (by decide) (Fr.sI (by decide) Fr.r)) (by decide)) kv744 (by omega)
              have ty746 := Tye.t (d3 := 1) ty2 ag744 tp744 (by omega)
              have du747 := DU.t (DU.r (ut := ut) (mu := mu) (c := uc) (G := G) (a := e) (u := (u + 1))) ag744 au744 ax744 dp744 (by omega)
              refine rsl (cV_e rfl) ?_
              refine rsr (cV_e rfl) ?_
              refine rsl (vC_e (ck_65 (hC.fr FL744))) ?_
              by_cases c748 : ((kd i744)) = 59
              ·
                have hm749 : i744 + 1 < m := hS.more i744 (by omega) (by omega) (by omega)
                refine rsl (cV_e (a64q (by omega) hS (hC.fr FL744) (hTk.fr (WL := W_cp) FL744 (by decide)) (q744_12) (q744_13) (q744_10) (li_59) (i2 := (i744 + 1)) (by omega) (by omega))) ?_
                have hk750 := (hS.ok (i744 + 1) (by omega) (by omega)).r
                refine rsl (jn_v) ?_
                refine rsl (if_pos (eqI_p (li_0) (li_0) (by omega))) ?_
                refine rsl (vC_e (ck_65 (hC.fr FL744).sI.sI)) ?_
                have tb751 := Tyb.ex (dp := dp) (d := 1) (s' := s) (q := (e744 + 1)) (n1 := 0) (ut := ut) (mu := mu) (l := []) ty746 (Or.inr (Or.inr (Or.inr (Or.inl (by omega)))) : Eff 4 u 0 1 s 0 s) (by omega) ⟨by omega, by omega⟩ (by omega)
                have du752 := DU.set (U := U744) (X := X744) (c := uc) (b1 := 1) (p := 2) (q := (e744 + 1)) (u := u) (o := 4) (n1 := 0) (p1 := -2) (n3 := u) (l := []) (g := 0) du747 (by omega) (by omega) (by omega) (by omega) (fun q => absurd q (by decide)) (Int.le_of_eq (Eq.symm ((au744 0 _ (by omega)).trans (pu_e rfl)))) ((au744 6 _ (by omega)).trans (pu_e (by omega))) (U3tr (ax744 0 _ (by omega)) (au744 3 _ (by omega)) (au744 10 _ (by omega)) (Or.inl (pux_e (by omega)))) (by omega) (by omega)
                refine RlV (a106_n (by omega) (hC.fr FL744).sI.sI ((sI_nej (by decide)).trans ((sI_nej (by decide)).trans (q744_9))) (congrArg iI p505_0) (li_2) (li_2) (li_4) ((sI_nej (by decide)).trans ((sI_nej (by decide)).trans (q744_16))) (lc744.fr (W := W_c0) (Fr.sI (by decide) (Fr.sI (by decide) Fr.r)) (by decide)) ((K2.ku ((K2.mk p505_1).fr (W := W_c0) (Fr.sI (by decide) (Fr.sI (by decide) Fr.r)) (by decide)) kv744 (by omega)).fr (W := W_c0) (Fr.sI (by decide) (Fr.sI (by decide) Fr.r)) (by decide)).1 ((K2.ku ((K2.mk p505_1).fr (W := W_c0) (Fr.sI (by decide) (Fr.sI (by decide) Fr.r)) (by decide)) kv744 (by omega)).fr (W := W_c0) (Fr.sI (by decide) (Fr.sI (by decide) Fr.r)) (by decide)).2 hrl rfl (by omega)) fun v Ma753 h753 => ?_
                obtain ⟨g753, e753_k0, p753_0, p753_1⟩ := h753
                have f753 : Fr W_cp Mc Ma753 := Fr.t (Fr.sI (by decide) (Fr.sI (by decide) FL744)) (Fr.m g753 (by decide))
                refine rsl (cV_e rfl) ?_
                refine rsl (jv_e) ?_
                refine rsr (jn_v) ?_
                refine rsr (if_pos (lsI_p (congrArg iI (if_pos rfl)) (li_0) (by omega))) ?_
                refine rsr (vC_e (rk_160 (hR.fr FR744))) ?_
                refine RrV (a202 (by omega) (hR.fr FR744) (w744_43) ((FR744.i _ _ (by decide)).trans h49) ((FR744.i _ _ (by decide)).trans h48) (congrArg iI p740_0) (li_1) (li_4) (by omega)) fun v Ma754 h754 => ?_
                obtain ⟨g754, e754_k0, p754_0, p754_1⟩ := h754
                have f754 : Fr W_rx Mr Ma754 := Fr.t FR744 (Fr.m g754 (by decide))
                refine rsr (cV_e rfl) ?_
                refine rsr (jv_e) ?_
                refine rsr (vC_e (rk_160 (hR.fr f754))) ?_
                refine RrI (a195_59 (by omega) hS (hR.fr f754) (hT.fr (W := W_rx) f754 (by decide) (by decide)) (fun i a b => (Fr.lc (W := W_rx) f754 _ (by decide) _).trans (hW i a b)) ((g754.i _ _ (by decide)).trans (w744_36)) ((g754.i _ _ (by decide)).trans (w744_37)) ((g754.i _ _ (by decide)).trans (w744_38)) ((g754.i _ _ (by decide)).trans (w744_41)) (li_59) (i2 := (i744 + 1)) (by omega) (by omega)) fun v Ma756 h756 => ?_
                obtain ⟨r755, rfl, g756, e756_k0, e756_k1, e756_k2, p756_0, p756_1⟩ := h756
                have f756 : Fr W_rx Mr Ma756 := Fr.t f754 (Fr.m g756 (by decide))
                refine rsr (cI_e rfl) ?_
                refine rsr (jv_e) ?_
                exact Rs.ok (Or.inl ⟨(i744 + 1), s, Hl, ⟨(e744 + 1), u744, uc744, (pu G744 e744 [4, 0, -2, u, ut, mu, 0]), (ps U744 u 1 2 e744), X744, f753, f756, ⟨(g753.i _ _ (by decide)).trans ((sI_nej (by decide)).trans (sI_eq)), (g753.i _ _ (by decide)).trans (sI_eq), (g753.i _ _ (by decide)).trans ((sI_nej (by decide)).trans ((sI_nej (by decide)).trans (q744_10))), e753_k0, (g753.i _ _ (by decide)).trans ((sI_nej (by decide)).trans ((sI_nej (by decide)).trans (q744_16))), (g753.i _ _ (by decide)).trans ((sI_nej (by decide)).trans ((sI_nej (by decide)).trans (q744_19)))⟩, ⟨e756_k0, e756_k1, e756_k2, (g756.i _ _ (by decide)).trans ((g754.i _ _ (by decide)).trans (w744_41)), (g756.i _ _ (by decide)).trans (e754_k0), (g756.i _ _ (by decide)).trans ((g754.i _ _ (by decide)).trans (w744_51)), (g756.i _ _ (by decide)).trans ((g754.i _ _ (by decide)).trans (w744_53)), (g756.i _ _ (by decide)).trans ((g754.i _ _ (by decide)).trans (w744_50)), p756_1⟩, ⟨(CA1.em (ca744.fr (W := W_c0) (Fr.sI (by decide) (Fr.sI (by decide) Fr.r)) (by decide)) (by omega) p753_0 rfl), ((RA1.em ra744 (by omega) p754_0 rfl).fr g756 (by decide)), ((lc744.fr (W := W_c0) (Fr.sI (by decide) (Fr.sI (by decide) Fr.r)) (by decide)).fr g753 (by decide)), ((lr744.fr g754 (by decide)).fr g756 (by decide)), (CU.set (b := 1) (cu744.fr (W := W_c0) (Fr.sI (by decide) (Fr.sI (by decide) Fr.r)) (by decide)) ⟨by omega, by omega⟩ ((au744 0 _ (by omega)).trans (pu_e rfl)) p753_1 g753 (by decide)), ((RU.set ru744 ⟨by omega, by omega⟩ p754_1 g754 (by decide)).fr g756 (by decide))⟩, ⟨by omega, by omega, by omega, by omega, by omega, by omega, by omega, by omega, by omega, by omega, by omega, by omega⟩, ⟨by omega, by omega, by omega, by omega, by omega, by omega⟩, (Ag.pu (Ag.t Ag.r ag744 (by omega)) (by omega)), (Ag.ps (Ag.t (Ag.pu Ag.r (by omega)) au744 (by omega)) (by omega)), (AgL.t (AgL.pu AgL.r (by omega)) ax744 (by omega)), tb751, du752, ((ku744.fr (W := W_c0) (Fr.sI (by decide) (Fr.sI (by decide) Fr.r)) (by decide)).fr g753 (by decide)), ⟨by omega, fun _ _ _ => rfl⟩⟩⟩)
              ·
                by_cases c757 : ((kd i744)) = 1
                ·
                  refine rsl (cV_e (a64_1 (by omega) hS (hC.fr FL744) (hTk.fr (WL := W_cp) FL744 (by decide)) (q744_12) (q744_13) (q744_10) (li_59) (by omega))) ?_
                  refine rsl (jn_v) ?_
                  refine rsl (if_pos (eqI_p (li_0) (li_0) (by omega))) ?_
                  refine rsl (vC_e (ck_65 (hC.fr FL744).sI.sI.sI)) ?_
                  refine RlV (y106 (by omega) (hC.fr FL744).sI.sI.sI (hTk.fr (WL := W_cp) (Fr.sI (by decide) (Fr.sI (by decide) (Fr.sI (by decide) FL744))) (by decide)) ((sI_nej (by decide)).trans ((sI_nej (by decide)).trans ((sI_nej (by decide)).trans (q744_12)))) (sI_eq) ((sI_nej (by decide)).trans ((sI_nej (by decide)).trans (sI_eq))) ((sI_nej (by decide)).trans (sI_eq)) ((sI_nej (by decide)).trans ((sI_nej (by decide)).trans ((sI_nej (by decide)).trans (q744_9)))) ((sI_nej (by decide)).trans ((sI_nej (by decide)).trans ((sI_nej (by decide)).trans (q744_16)))) ((sI_nej (by decide)).trans ((sI_nej (by decide)).trans ((sI_nej (by decide)).trans (q744_19)))) (congrArg iI p505_0) (li_2) (li_2) (li_4) (by omega)) fun v Ma759 h759 => ?_
                  obtain ⟨sz758, sn758, uc758, g759, e759_sz758, e759_sn758, e759_uc758, e759_k0, e759_k1, e759_k2, e759_k3, p759_0, p759_1, p759_2⟩ := h759
                  have f759 : Fr W_cp Mc Ma759 := Fr.t (Fr.sI (by decide) (Fr.sI (by decide) (Fr.sI (by decide) FL744))) (Fr.m g759 (by decide))
                  refine rsl (cV_e rfl) ?_
                  refine rsl (jv_e) ?_
                  refine rsr (jn_v) ?_
                  refine rsr (if_pos (lsI_p (congrArg iI (if_pos rfl)) (li_0) (by omega))) ?_
                  refine rsr (vC_e (rk_160 (hR.fr FR744))) ?_
                  refine RrV (a202 (by omega) (hR.fr FR744) (w744_43) ((FR744.i _ _ (by decide)).trans h49) ((FR744.i _ _ (by decide)).trans h48) (congrArg iI p740_0) (li_1) (li_4) (by omega)) fun v Ma760 h760 => ?_
                  obtain ⟨g760, e760_k0, p760_0, p760_1⟩ := h760
                  have f760 : Fr W_rx Mr Ma760 := Fr.t FR744 (Fr.m g760 (by decide))
                  refine rsr (cV_e rfl) ?_
                  refine rsr (jv_e) ?_
                  refine rsr (vC_e (rk_160 (hR.fr f760))) ?_
                  refine rsr (cI_e (a195_59_1 (by omega) hS (hR.fr f760) ((g760.i _ _ (by decide)).trans (w744_36)) ((g760.i _ _ (by decide)).trans (w744_37)) ((g760.i _ _ (by decide)).trans (w744_41)) (li_59) (by omega))) ?_
                  refine rsr (jv_e) ?_
                  exact Rs.ok (Or.inr ⟨1, ((pl i744)), f759, (Fr.sI (by decide) (Fr.sI (by decide) (Fr.m f760 (by decide)))), ⟨i744, sz758, sn758, uc758, e759_k0, e759_k1, e759_k2, e759_k3, e759_sz758, e759_sn758, e759_uc758, by omega⟩, ⟨(e744 + 1), s, u744, mu, ut, (sI_nej (by decide)).trans (sI_eq), sI_eq, (sI_nej (by decide)).trans ((sI_nej (by decide)).trans (e760_k0)), (sI_nej (by decide)).trans ((sI_nej (by decide)).trans ((g760.i _ _ (by decide)).trans (w744_51))), (sI_nej (by decide)).trans ((sI_nej (by decide)).trans ((g760.i _ _ (by decide)).trans (w744_53))), (sI_nej (by decide)).trans ((sI_nej (by decide)).trans ((g760.i _ _ (by decide)).trans ((FR744.i _ _ (by decide)).trans h48))), (sI_nej (by decide)).trans ((sI_nej (by decide)).trans ((g760.i _ _ (by decide)).trans ((FR744.i _ _ (by decide)).trans h49))), by omega⟩⟩)
                ·
                  refine rsl (cV_e (a64_2 (by omega) hS (hC.fr FL744) (hTk.fr (WL := W_cp) FL744 (by decide)) (q744_12) (q744_13) (q744_10) (li_59) (by omega))) ?_
                  refine rsl (jn_v) ?_
                  refine rsl (if_pos (eqI_p (li_0) (li_0) (by omega))) ?_
                  refine rsl (vC_e (ck_65 (hC.fr FL744).sI.sI.sI)) ?_
                  refine RlV (y106 (by omega) (hC.fr FL744).sI.sI.sI (hTk.fr (WL := W_cp) (Fr.sI (by decide) (Fr.sI (by decide) (Fr.sI (by decide) FL744))) (by decide)) ((sI_nej (by decide)).trans ((sI_nej (by decide)).trans ((sI_nej (by decide)).trans (q744_12)))) (sI_eq) ((sI_nej (by decide)).trans ((sI_nej (by decide)).trans (sI_eq))) ((sI_nej (by decide)).trans (sI_eq)) ((sI_nej (by decide)).trans ((sI_nej (by decide)).trans ((sI_nej (by decide)).trans (q744_9)))) ((sI_nej (by decide)).trans ((sI_nej (by decide)).trans ((sI_nej (by decide)).trans (q744_16)))) ((sI_nej (by decide)).trans ((sI_nej (by decide)).trans ((sI_nej (by decide)).trans (q744_19)))) (congrArg iI p505_0) (li_2) (li_2) (li_4) (by omega)) fun v Ma762 h762 => ?_
                  obtain ⟨sz761, sn761, uc761, g762, e762_sz761, e762_sn761, e762_uc761, e762_k0, e762_k1, e762_k2, e762_k3, p762_0, p762_1, p762_2⟩ := h762
                  have f762 : Fr W_cp Mc Ma762 := Fr.t (Fr.sI (by decide) (Fr.sI (by decide) (Fr.sI (by decide) FL744))) (Fr.m g762 (by decide))
                  refine rsl (cV_e rfl) ?_
                  refine rsl (jv_e) ?_
                  refine rsr (jn_v) ?_
                  refine rsr (if_pos (lsI_p (congrArg iI (if_pos rfl)) (li_0) (by omega))) ?_
                  refine rsr (vC_e (rk_160 (hR.fr FR744))) ?_
                  refine RrV (a202 (by omega) (hR.fr FR744) (w744_43) ((FR744.i _ _ (by decide)).trans h49) ((FR744.i _ _ (by decide)).trans h48) (congrArg iI p740_0) (li_1) (li_4) (by omega)) fun v Ma763 h763 => ?_
                  obtain ⟨g763, e763_k0, p763_0, p763_1⟩ := h763
                  have f763 : Fr W_rx Mr Ma763 := Fr.t FR744 (Fr.m g763 (by decide))
                  refine rsr (cV_e rfl) ?_
                  refine rsr (jv_e) ?_
                  refine rsr (vC_e (rk_160 (hR.fr f763))) ?_
                  refine rsr (cI_e (a195_59_2 (by omega) hS (hR.fr f763) ((g763.i _ _ (by decide)).trans (w744_36)) ((g763.i _ _ (by decide)).trans (w744_37)) ((g763.i _ _ (by decide)).trans (w744_41)) (li_59) (by omega))) ?_
                  refine rsr (jv_e) ?_
                  exact Rs.ok (Or.inr ⟨2, ((pl i744)), f762, (Fr.sI (by decide) (Fr.sI (by decide) (Fr.m f763 (by decide)))), ⟨i744, sz761, sn761, uc761, e762_k0, e762_k1, e762_k2, e762_k3, e762_sz761, e762_sn761, e762_uc761, by omega⟩, ⟨(e744 + 1), s, u744, mu, ut, (sI_nej (by decide)).trans (sI_eq), sI_eq, (sI_nej (by decide)).trans ((sI_nej (by decide)).trans (e763_k0)), (sI_nej (by decide)).trans ((sI_nej (by decide)).trans ((g763.i _ _ (by decide)).trans (w744_51))), (sI_nej (by decide)).trans ((sI_nej (by decide)).trans ((g763.i _ _ (by decide)).trans (w744_53))), (sI_nej (by decide)).trans ((sI_nej (by decide)).trans ((g763.i _ _ (by decide)).trans ((FR744.i _ _ (by decide)).trans h48))), (sI_nej (by decide)).trans ((sI_nej (by decide)).trans ((g763.i _ _ (by decide)).trans ((FR744.i _ _ (by decide)).trans h49))), by omega⟩⟩)
            ·
              have FL744 : Fr W_cp Mc Mx744 := Fr.t (Fr.sI (by decide) (Fr.sI (by decide) f505)) fl744
              have FR744 : Fr W_rp Mr Nx744 := Fr.t (Fr.m f743 W_rx_p) fr744
              obtain ⟨ti744, tz744, tn744, tu744, t13744, t10744, t11744, t12744, t9744, t16744, t19744, tb744⟩ := tc744
              obtain ⟨re744, rn744, ru744, rm744, rt744, u41744, u42744, u43744, u51744, u53744, u48744, u49744, ub744⟩ := tr744
              refine rsl (cV_e rfl) ?_
              refine rsr (cV_e rfl) ?_
              refine rsl (vC_e (ck_65 (hC.fr FL744))) ?_
              refine RlV (y64 (by omega) (hC.fr FL744) (hTk.fr (WL := W_cp) FL744 (by decide)) (t12744) (t13744) (t10744) (t11744) (t9744) (t16744) (t19744) (li_59) (by omega)) fun v Ma765 h765 => ?_
              obtain ⟨sz764, sn764, uc764, g765, e765_sz764, e765_sn764, e765_uc764, e765_k0, e765_k1, e765_k2, e765_k3, p765_0, p765_1, p765_2⟩ := h765
              have f765 : Fr W_cp Mc Ma765 := Fr.t FL744 (Fr.m g765 (by decide))
              refine rsl (cV_e rfl) ?_
              refine rsl (jn_v) ?_
              refine rsl (if_pos (eqI_p (li_0) (li_0) (by omega))) ?_
              refine rsl (vC_e (ck_65 (hC.fr f765))) ?_
              refine RlV (y106 (by omega) (hC.fr f765) (hTk.fr (WL := W_cp) f765 (by decide)) (e765_k3) (e765_k0) (e765_k1) (e765_k2) (e765_sz764) (e765_sn764) (e765_uc764) (congrArg iI p505_0) (li_2) (li_2) (li_4) (by omega)) fun v Ma767 h767 => ?_
              obtain ⟨sz766, sn766, uc766, g767, e767_sz766, e767_sn766, e767_uc766, e767_k0, e767_k1, e767_k2, e767_k3, p767_0, p767_1, p767_2⟩ := h767
              have f767 : Fr W_cp Mc Ma767 := Fr.t f765 (Fr.m g767 (by decide))
              refine rsl (cV_e rfl) ?_
              refine rsl (jv_e) ?_
              refine rsr (jn_v) ?_
              refine rsr (if_pos (lsI_p (congrArg iI (if_pos rfl)) (li_0) (by omega))) ?_
              refine rsr (vC_e (rk_160 (hR.fr FR744))) ?_
              refine RrV (x202_s (by omega) (hR.fr FR744) (u41744) (u42744) (u43744) (u51744) (u53744) (u48744) (u49744) (congrArg iI p740_0) (li_1) (li_4) (by omega)) fun v Ma769 h769 => ?_
              obtain ⟨em768, g769, e769_em768, e769_k0, e769_k1, e769_k2, e769_k3, e769_k4, p769_0⟩ := h769
              have f769 : Fr W_rp Mr Ma769 := Fr.t FR744 (Fr.m g769 (by decide))
              refine rsr (cV_e rfl) ?_
              refine rsr (jv_e) ?_
              refine rsr (vC_e (rk_160 (hR.fr f769))) ?_
              refine RrI (x195_s (by omega) (hR.fr f769) (e769_k0) (e769_k1) (e769_em768) (e769_k2) (e769_k3) (e769_k4) ((g769.i _ _ (by decide)).trans (u49744)) (li_59) (by omega)) fun v Ma771 h771 => ?_
              obtain ⟨rv770, em770, rfl, g771, e771_em770, e771_k0, e771_k1, e771_k2, e771_k3, e771_k4, p771_0, p771_1⟩ := h771
              have f771 : Fr W_rp Mr Ma771 := Fr.t f769 (Fr.m g771 (by decide))
              refine rsr (cI_e rfl) ?_
              refine rsr (jv_e) ?_
              exact Rs.ok (Or.inr ⟨F744, P744, f767, f771, ⟨ti744, sz766, sn766, uc766, e767_k0, e767_k1, e767_k2, e767_k3, e767_sz766, e767_sn766, e767_uc766, by omega⟩, ⟨em770, rn744, ru744, rm744, rt744, e771_k0, e771_k1, e771_em770, e771_k2, e771_k3, e771_k4, (g771.i _ _ (by decide)).trans ((g769.i _ _ (by decide)).trans (u49744)), by omega⟩⟩)
          ·
            refine RrI (a197 (by omega) (hR.fr f740) ((g740.i _ _ (by decide)).trans (wa_51)) (lra.fr g740 (by decide)) (by omega)) fun v Nl741 hl741 => ?_
            obtain ⟨r9, rfl, hMl, hr9⟩ := hl741
            rw [hMl]
            have q9 := LcF.one hr9 hrl
            rw [q9]
            refine rsr (cI_e rfl) ?_
            refine rsr (jv_e) ?_
            try dsimp only
            refine rsr (gtI_q (w := iI ((kr (kd (i + 1))))) (rk_160 (hR.fr f740)) (e740_k1)) ?_
            refine rsr (jn_v) ?_
            refine rsr (if_neg (krI_n (k := 40) (rfl) (li_40) (hS.ok (i + 1) (by omega) (by omega)) (by unfold KdOK sgk; omega) (by decide +kernel) (by omega) (by omega))) ?_
            refine rsr (gtI_q (w := iI ((kr (kd (i + 1))))) (rk_160 (hR.fr f740)) (e740_k1)) ?_
            refine rsr (if_neg (krI_n (k := 91) (rfl) (li_91) (hS.ok (i + 1) (by omega) (by omega)) (by unfold KdOK sgk; omega) (by decide +kernel) (by omega) (by omega))) ?_
            refine rsr (vC_e (rk_160 (hR.fr f740))) ?_
            refine RrI (a195_61 (by omega) hS (hR.fr f740) (hT.fr (W := W_rx) f740 (by decide) (by decide)) (fun i a b => (Fr.lc (W := W_rx) f740 _ (by decide) _).trans (hW i a b)) (e740_k1) (e740_k2) (e740_k3) (e740_k4) (li_61) (i2 := (i + 2)) (by omega) (by omega)) fun v Ma773 h773 => ?_
            obtain ⟨r772, rfl, g773, e773_k0, e773_k1, e773_k2, p773_0, p773_1⟩ := h773
            have f773 : Fr W_rx Mr Ma773 := Fr.t f740 (Fr.m g773 (by decide))
            refine rsr (cI_e rfl) ?_
            refine rsr (if_neg (eqI_n (congrArg iI p773_0) (li_0) (by omega))) ?_
            refine rsr (jn_v) ?_
            refine rsr (if_neg (lsI_n (congrArg iI (if_neg (by omega))) (li_0) (by omega))) ?_
            refine rsr (gtI_q (w := iI (u + 1)) (rk_160 (hR.fr f773)) ((g773.i _ _ (by decide)).trans (e740_k0))) ?_
            refine rsr (ptI_q (z := u) (rk_160 (hR.fr f773)) (cvI (sbI (rfl) (li_1)) (by omega))) ?_
            refine rsr (jv_e) ?_
            refine rsr (vC_e (rk_160 (hR.fr f773).sI)) ?_
            refine Rb_VV (hE _ _ (by omega) (by omega) T n m kd pl E tx ua ut mu _ _ G U Hl X (i + 2) e s u (uc + 1) _ hS (hCx.fr (Fr.sI (by decide) (Fr.sI (by decide) f505)) (Fr.sI (by decide) f773)) ⟨(sI_nej (by decide)).trans (sI_eq), sI_eq, (sI_nej (by decide)).trans ((sI_nej (by decide)).trans (e505_k3)), (sI_nej (by decide)).trans ((sI_nej (by decide)).trans ((g505.i _ _ (by decide)).trans (qa_9))), (sI_nej (by decide)).trans ((sI_nej (by decide)).trans ((g505.i _ _ (by decide)).trans (qa_16))), (sI_nej (by decide)).trans ((sI_nej (by decide)).trans (e505_k1))⟩ ⟨(sI_nej (by decide)).trans (e773_k0), (sI_nej (by decide)).trans (e773_k1), (sI_nej (by decide)).trans (e773_k2), (sI_nej (by decide)).trans ((g773.i _ _ (by decide)).trans (e740_k4)), (sI_nej (by decide)).trans ((g773.i _ _ (by decide)).trans ((g740.i _ _ (by decide)).trans (wa_43))), (sI_nej (by decide)).trans ((g773.i _ _ (by decide)).trans ((g740.i _ _ (by decide)).trans (wa_51))), sI_eq, (sI_nej (by decide)).trans ((g773.i _ _ (by decide)).trans ((g740.i _ _ (by decide)).trans (wa_50))), (p773_1.fr (W := W_r0) (Fr.sI (by decide) Fr.r) (by decide) (by decide))⟩ ⟨((caa.fr g505 (by decide)).fr (W := W_c0) (Fr.sI (by decide) (Fr.sI (by decide) Fr.r)) (by decide)), (((raa.fr g740 (by decide)).fr g773 (by decide)).fr (W := W_r0) (Fr.sI (by decide) Fr.r) (by decide)), ((lca.fr g505 (by decide)).fr (W := W_c0) (Fr.sI (by decide) (Fr.sI (by decide) Fr.r)) (by decide)), (((lra.fr g740 (by decide)).fr g773 (by decide)).fr (W := W_r0) (Fr.sI (by decide) Fr.r) (by decide)), ((CU.keep cua (by omega) p505_1 rfl).fr (W := W_c0) (Fr.sI (by decide) (Fr.sI (by decide) Fr.r)) (by decide)), (((RU.keep rua p740_1).fr g773 (by decide)).fr (W := W_r0) (Fr.sI (by decide) Fr.r) (by decide))⟩ ⟨by omega, by omega, by omega, by omega, by omega, by omega, by omega, by omega, by omega, by omega, by omega, by omega⟩ (vs2 (li_0) (hv0))) fun v Mx774 w Nx774 hx774 => ?_
            rcases hx774 with ⟨i774, e774, u774, uc774, G774, U774, X774, fl774, fr774, sc774, sr774, rw774, bd774, mv774, ag774, au774, ax774, tp774, dp774, kv774⟩ | ⟨F774, P774, fl774, fr774, tc774, tr774⟩
            ·
              have FL774 : Fr W_cp Mc Mx774 := Fr.t (Fr.sI (by decide) (Fr.sI (by decide) f505)) fl774
              have FR774 : Fr W_rx Mr Nx774 := Fr.t (Fr.sI (by decide) f773) fr774
              obtain ⟨bb774_0, bb774_1, bb774_2, bb774_3, bb774_4, bb774_5, bb774_6, bb774_7, bb774_8, bb774_9, bb774_10, bb774_11⟩ := bd774
              obtain ⟨q774_12, q774_13, q774_10, q774_9, q774_16, q774_19⟩ := sc774
              obtain ⟨w774_36, w774_37, w774_38, w774_41, w774_43, w774_51, w774_53, w774_50, w774_n⟩ := sr774
              obtain ⟨ca774, ra774, lc774, lr774, cu774, ru774⟩ := rw774
              have hk775 := (hS.ok i774 (by omega) (by omega)).r
              have ku774 := KU.t ((KU.us kua p505_1 g505 (by decide) (by omega)).fr (W := W_c0) (Fr.sI (by decide) (Fr.sI (by decide) Fr.r)) (by decide)) kv774 (by omega)
              have ty776 := Tye.t (d3 := 1) ty2 ag774 tp774 (by omega)
              have du777 := DU.t du3 ag774 au774 ax774 dp774 (by omega)
              have hne778 : ∀ j, 0 ≤ j → j < u774 → U774 0 j ≠ uc := NeL hlt au774 dp774 (by omega)
              refine rsl (cV_e rfl) ?_
              refine rsr (cV_e rfl) ?_
              refine rsl (vC_e (ck_65 (hC.fr FL774))) ?_
              by_cases c779 : ((kd i774)) = 59
              ·
                have hm780 : i774 + 1 < m := hS.more i774 (by omega) (by omega) (by omega)
                refine rsl (cV_e (a64q (by omega) hS (hC.fr FL774) (hTk.fr (WL := W_cp) FL774 (by decide)) (q774_12) (q774_13) (q774_10) (li_59) (i2 := (i774 + 1)) (by omega) (by omega))) ?_
                have hk781 := (hS.ok (i774 + 1) (by omega) (by omega)).r
                refine rsl (jn_v) ?_
                refine rsl (if_pos (eqI_p (li_0) (li_0) (by omega))) ?_
                refine rsl (vC_e (ck_65 (hC.fr FL774).sI.sI)) ?_
                have tb782 := Tyb.ex (dp := dp) (d := 1) (s' := s) (q := (e774 + 1)) (n1 := rl) (ut := ut) (mu := mu) (l := []) ty776 (Or.inr (Or.inr (Or.inl (by omega))) : Eff 2 rl 0 1 s 0 s) (by omega) ⟨by omega, by omega⟩ (by omega)
                have du783 := DU.em (q := (e774 + 1)) (o := 2) (n := rl) (p := -2) (l := [0]) du777 (by omega) (by omega)
                refine RlV (a106_l (by omega) (hC.fr FL774).sI.sI ((sI_nej (by decide)).trans ((sI_nej (by decide)).trans (q774_9))) (congrArg iI p505_0) (li_2) (li_2) (li_4) ((sI_nej (by decide)).trans ((sI_nej (by decide)).trans (q774_16))) (lc774.fr (W := W_c0) (Fr.sI (by decide) (Fr.sI (by decide) Fr.r)) (by decide)) ((K2.ku ((K2.mk p505_1).fr (W := W_c0) (Fr.sI (by decide) (Fr.sI (by decide) Fr.r)) (by decide)) kv774 (by omega)).fr (W := W_c0) (Fr.sI (by decide) (Fr.sI (by decide) Fr.r)) (by decide)).1 ((K2.ku ((K2.mk p505_1).fr (W := W_c0) (Fr.sI (by decide) (Fr.sI (by decide) Fr.r)) (by decide)) kv774 (by omega)).fr (W := W_c0) (Fr.sI (by decide) (Fr.sI (by decide) Fr.r)) (by decide)).2 hrl ⟨by omega, by omega⟩ rfl (by omega)) fun v Ma784 h784 => ?_
                obtain ⟨g784, e784_k0, p784_0, p784_1⟩ := h784
                have f784 : Fr W_cp Mc Ma784 := Fr.t (Fr.sI (by decide) (Fr.sI (by decide) FL774)) (Fr.m g784 (by decide))
                refine rsl (cV_e rfl) ?_
                refine rsl (jv_e) ?_
                refine rsr (jn_v) ?_
                refine rsr (if_neg (lsI_n (congrArg iI (if_neg (by omega))) (li_0) (by omega))) ?_
                refine rsr (vC_e (rk_160 (hR.fr FR774))) ?_
                refine RrI (a196q (by omega) (hR.fr FR774) (w774_43) ((FR774.i _ _ (by decide)).trans h49) ((FR774.i _ _ (by decide)).trans h48) (li_2) (congrArg iI (if_neg (by omega))) (q := (e774 + 1)) (by omega) (by omega)) fun v Ma786 h786 => ?_
                obtain ⟨r785, rfl, g786, e786_k0, p786_0, p786_1⟩ := h786
                have f786 : Fr W_rx Mr Ma786 := Fr.t FR774 (Fr.m g786 (by decide))
                refine rsr (cI_e rfl) ?_
                refine rsr (jv_e) ?_
                refine rsr (vC_e (rk_160 (hR.fr f786))) ?_
                refine RrI (a195_59 (by omega) hS (hR.fr f786) (hT.fr (W := W_rx) f786 (by decide) (by decide)) (fun i a b => (Fr.lc (W := W_rx) f786 _ (by decide) _).trans (hW i a b)) ((g786.i _ _ (by decide)).trans (w774_36)) ((g786.i _ _ (by decide)).trans (w774_37)) ((g786.i _ _ (by decide)).trans (w774_38)) ((g786.i _ _ (by decide)).trans (w774_41)) (li_59) (i2 := (i774 + 1)) (by omega) (by omega)) fun v Ma788 h788 => ?_
                obtain ⟨r787, rfl, g788, e788_k0, e788_k1, e788_k2, p788_0, p788_1⟩ := h788
                have f788 : Fr W_rx Mr Ma788 := Fr.t f786 (Fr.m g788 (by decide))
                refine rsr (cI_e rfl) ?_
                refine rsr (jv_e) ?_
                exact Rs.ok (Or.inl ⟨(i774 + 1), s, Hl, ⟨(e774 + 1), u774, uc774, (pu G774 e774 [2, rl, -2, rl, ut, mu, 0]), U774, X774, f784, f788, ⟨(g784.i _ _ (by decide)).trans ((sI_nej (by decide)).trans (sI_eq)), (g784.i _ _ (by decide)).trans (sI_eq), (g784.i _ _ (by decide)).trans ((sI_nej (by decide)).trans ((sI_nej (by decide)).trans (q774_10))), e784_k0, (g784.i _ _ (by decide)).trans ((sI_nej (by decide)).trans ((sI_nej (by decide)).trans (q774_16))), (g784.i _ _ (by decide)).trans ((sI_nej (by decide)).trans ((sI_nej (by decide)).trans (q774_19)))⟩, ⟨e788_k0, e788_k1, e788_k2, (g788.i _ _ (by decide)).trans ((g786.i _ _ (by decide)).trans (w774_41)), (g788.i _ _ (by decide)).trans (e786_k0), (g788.i _ _ (by decide)).trans ((g786.i _ _ (by decide)).trans (w774_51)), (g788.i _ _ (by decide)).trans ((g786.i _ _ (by decide)).trans (w774_53)), (g788.i _ _ (by decide)).trans ((g786.i _ _ (by decide)).trans (w774_50)), p788_1⟩, ⟨(CA1.em (ca774.fr (W := W_c0) (Fr.sI (by decide) (Fr.sI (by decide) Fr.r)) (by decide)) (by omega) p784_0 rfl), ((RA1.em (q := (e774 + 1)) ra774 (by omega) p786_1 (by omega)).fr g788 (by decide)), ((lc774.fr (W := W_c0) (Fr.sI (by decide) (Fr.sI (by decide) Fr.r)) (by decide)).fr g784 (by decide)), ((lr774.fr g786 (by decide)).fr g788 (by decide)), (CU.loc3 (cu774.fr (W := W_c0) (Fr.sI (by decide) (Fr.sI (by decide) Fr.r)) (by decide)) hne778 (by omega) p784_1 g784 (by decide)), ((ru774.fr g786 (by decide)).fr g788 (by decide))⟩, ⟨by omega, by omega, by omega, by omega, by omega, by omega, by omega, by omega, by omega, by omega, by omega, by omega⟩, ⟨by omega, by omega, by omega, by omega, by omega, by omega⟩, (Ag.pu (Ag.t Ag.r ag774 (by omega)) (by omega)), (Ag.t Ag.r au774 (by omega)), (AgL.t AgL.r ax774 (by omega)), tb782, du783, ((ku774.fr (W := W_c0) (Fr.sI (by decide) (Fr.sI (by decide) Fr.r)) (by decide)).fr g784 (by decide)), ⟨by omega, fun _ _ _ => rfl⟩⟩⟩)
              ·
                by_cases c789 : ((kd i774)) = 1
                ·
                  refine rsl (cV_e (a64_1 (by omega) hS (hC.fr FL774) (hTk.fr (WL := W_cp) FL774 (by decide)) (q774_12) (q774_13) (q774_10) (li_59) (by omega))) ?_
                  refine rsl (jn_v) ?_
                  refine rsl (if_pos (eqI_p (li_0) (li_0) (by omega))) ?_
                  refine rsl (vC_e (ck_65 (hC.fr FL774).sI.sI.sI)) ?_
                  refine RlV (y106 (by omega) (hC.fr FL774).sI.sI.sI (hTk.fr (WL := W_cp) (Fr.sI (by decide) (Fr.sI (by decide) (Fr.sI (by decide) FL774))) (by decide)) ((sI_nej (by decide)).trans ((sI_nej (by decide)).trans ((sI_nej (by decide)).trans (q774_12)))) (sI_eq) ((sI_nej (by decide)).trans ((sI_nej (by decide)).trans (sI_eq))) ((sI_nej (by decide)).trans (sI_eq)) ((sI_nej (by decide)).trans ((sI_nej (by decide)).trans ((sI_nej (by decide)).trans (q774_9)))) ((sI_nej (by decide)).trans ((sI_nej (by decide)).trans ((sI_nej (by decide)).trans (q774_16)))) ((sI_nej (by decide)).trans ((sI_nej (by decide)).trans ((sI_nej (by decide)).trans (q774_19)))) (congrArg iI p505_0) (li_2) (li_2) (li_4) (by omega)) fun v Ma791 h791 => ?_
                  obtain ⟨sz790, sn790, uc790, g791, e791_sz790, e791_sn790, e791_uc790, e791_k0, e791_k1, e791_k2, e791_k3, p791_0, p791_1, p791_2⟩ := h791
                  have f791 : Fr W_cp Mc Ma791 := Fr.t (Fr.sI (by decide) (Fr.sI (by decide) (Fr.sI (by decide) FL774))) (Fr.m g791 (by decide))
                  refine rsl (cV_e rfl) ?_
                  refine rsl (jv_e) ?_
                  refine rsr (jn_v) ?_
                  refine rsr (if_neg (lsI_n (congrArg iI (if_neg (by omega))) (li_0) (by omega))) ?_
                  refine rsr (vC_e (rk_160 (hR.fr FR774))) ?_
                  refine RrI (a196q (by omega) (hR.fr FR774) (w774_43) ((FR774.i _ _ (by decide)).trans h49) ((FR774.i _ _ (by decide)).trans h48) (li_2) (congrArg iI (if_neg (by omega))) (q := (e774 + 1)) (by omega) (by omega)) fun v Ma793 h793 => ?_
                  obtain ⟨r792, rfl, g793, e793_k0, p793_0, p793_1⟩ := h793
                  have f793 : Fr W_rx Mr Ma793 := Fr.t FR774 (Fr.m g793 (by decide))
                  refine rsr (cI_e rfl) ?_
                  refine rsr (jv_e) ?_
                  refine rsr (vC_e (rk_160 (hR.fr f793))) ?_
                  refine rsr (cI_e (a195_59_1 (by omega) hS (hR.fr f793) ((g793.i _ _ (by decide)).trans (w774_36)) ((g793.i _ _ (by decide)).trans (w774_37)) ((g793.i _ _ (by decide)).trans (w774_41)) (li_59) (by omega))) ?_
                  refine rsr (jv_e) ?_
                  exact Rs.ok (Or.inr ⟨1, ((pl i774)), f791, (Fr.sI (by decide) (Fr.sI (by decide) (Fr.m f793 (by decide)))), ⟨i774, sz790, sn790, uc790, e791_k0, e791_k1, e791_k2, e791_k3, e791_sz790, e791_sn790, e791_uc790, by omega⟩, ⟨(e774 + 1), s, u774, mu, ut, (sI_nej (by decide)).trans (sI_eq), sI_eq, (sI_nej (by decide)).trans ((sI_nej (by decide)).trans (e793_k0)), (sI_nej (by decide)).trans ((sI_nej (by decide)).trans ((g793.i _ _ (by decide)).trans (w774_51))), (sI_nej (by decide)).trans ((sI_nej (by decide)).trans ((g793.i _ _ (by decide)).trans (w774_53))), (sI_nej (by decide)).trans ((sI_nej (by decide)).trans ((g793.i _ _ (by decide)).trans ((FR774.i _ _ (by decide)).trans h48))), (sI_nej (by decide)).trans ((sI_nej (by decide)).trans ((g793.i _ _ (by decide)).trans ((FR774.i _ _ (by decide)).trans h49))), by omega⟩⟩)
                ·
                  refine rsl (cV_e (a64_2 (by omega) hS (hC.fr FL774) (hTk.fr (WL := W_cp) FL774 (by decide)) (q774_12) (q774_13) (q774_10) (li_59) (by omega))) ?_
                  refine rsl (jn_v) ?_
                  refine rsl (if_pos (eqI_p (li_0) (li_0) (by omega))) ?_
                  refine rsl (vC_e (ck_65 (hC.fr FL774).sI.sI.sI)) ?_
                  refine RlV (y106 (by omega) (hC.fr FL774).sI.sI.sI (hTk.fr (WL := W_cp) (Fr.sI (by decide) (Fr.sI (by decide) (Fr.sI (by decide) FL774))) (by decide)) ((sI_nej (by decide)).trans ((sI_nej (by decide)).trans ((sI_nej (by decide)).trans (q774_12)))) (sI_eq) ((sI_nej (by decide)).trans ((sI_nej (by decide)).trans (sI_eq))) ((sI_nej (by decide)).trans (sI_eq)) ((sI_nej (by decide)).trans ((sI_nej (by decide)).trans ((sI_nej (by decide)).trans (q774_9)))) ((sI_nej (by decide)).trans ((sI_nej (by decide)).trans ((sI_nej (by decide)).trans (q774_16)))) ((sI_nej (by decide)).trans ((sI_nej (by decide)).trans ((sI_nej (by decide)).trans (q774_19)))) (congrArg iI p505_0) (li_2) (li_2) (li_4) (by omega)) fun v Ma795 h795 => ?_
                  obtain ⟨sz794, sn794, uc794, g795, e795_sz794, e795_sn794, e795_uc794, e795_k0, e795_k1, e795_k2, e795_k3, p795_0, p795_1, p795_2⟩ := h795
                  have f795 : Fr W_cp Mc Ma795 := Fr.t (Fr.sI (by decide) (Fr.sI (by decide) (Fr.sI (by decide) FL774))) (Fr.m g795 (by decide))
                  refine rsl (cV_e rfl) ?_
                  refine rsl (jv_e) ?_
                  refine rsr (jn_v) ?_
                  refine rsr (if_neg (lsI_n (congrArg iI (if_neg (by omega))) (li_0) (by omega))) ?_
                  refine rsr (vC_e (rk_160 (hR.fr FR774))) ?_
                  refine RrI (a196q (by omega) (hR.fr FR774) (w774_43) ((FR774.i _ _ (by decide)).trans h49) ((FR774.i _ _ (by decide)).trans h48) (li_2) (congrArg iI (if_neg (by omega))) (q := (e774 + 1)) (by omega) (by omega)) fun v Ma797 h797 => ?_
                  obtain ⟨r796, rfl, g797, e797_k0, p797_0, p797_1⟩ := h797
                  have f797 : Fr W_rx Mr Ma797 := Fr.t FR774 (Fr.m g797 (by decide))
                  refine rsr (cI_e rfl) ?_
                  refine rsr (jv_e) ?_
                  refine rsr (vC_e (rk_160 (hR.fr f797))) ?_
                  refine rsr (cI_e (a195_59_2 (by omega) hS (hR.fr f797) ((g797.i _ _ (by decide)).trans (w774_36)) ((g797.i _ _ (by decide)).trans (w774_37)) ((g797.i _ _ (by decide)).trans (w774_41)) (li_59) (by omega))) ?_
                  refine rsr (jv_e) ?_
                  exact Rs.ok (Or.inr ⟨2, ((pl i774)), f795, (Fr.sI (by decide) (Fr.sI (by decide) (Fr.m f797 (by decide)))), ⟨i774, sz794, sn794, uc794, e795_k0, e795_k1, e795_k2, e795_k3, e795_sz794, e795_sn794, e795_uc794, by omega⟩, ⟨(e774 + 1), s, u774, mu, ut, (sI_nej (by decide)).trans (sI_eq), sI_eq, (sI_nej (by decide)).trans ((sI_nej (by decide)).trans (e797_k0)), (sI_nej (by decide)).trans ((sI_nej (by decide)).trans ((g797.i _ _ (by decide)).trans (w774_51))), (sI_nej (by decide)).trans ((sI_nej (by decide)).trans ((g797.i _ _ (by decide)).trans (w774_53))), (sI_nej (by decide)).trans ((sI_nej (by decide)).trans ((g797.i _ _ (by decide)).trans ((FR774.i _ _ (by decide)).trans h48))), (sI_nej (by decide)).trans ((sI_nej (by decide)).trans ((g797.i _ _ (by decide)).trans ((FR774.i _ _ (by decide)).trans h49))), by omega⟩⟩)
            ·
              have FL774 : Fr W_cp Mc Mx774 := Fr.t (Fr.sI (by decide) (Fr.sI (by decide) f505)) fl774
              have FR774 : Fr W_rp Mr Nx774 := Fr.t (Fr.m (Fr.sI (by decide) f773) W_rx_p) fr774
              obtain ⟨ti774, tz774, tn774, tu774, t13774, t10774, t11774, t12774, t9774, t16774, t19774, tb774⟩ := tc774
              obtain ⟨re774, rn774, ru774, rm774, rt774, u41774, u42774, u43774, u51774, u53774, u48774, u49774, ub774⟩ := tr774
              refine rsl (cV_e rfl) ?_
              refine rsr (cV_e rfl) ?_
              refine rsl (vC_e (ck_65 (hC.fr FL774))) ?_
              refine RlV (y64 (by omega) (hC.fr FL774) (hTk.fr (WL := W_cp) FL774 (by decide)) (t12774) (t13774) (t10774) (t11774) (t9774) (t16774) (t19774) (li_59) (by omega)) fun v Ma799 h799 => ?_
              obtain ⟨sz798, sn798, uc798, g799, e799_sz798, e799_sn798, e799_uc798, e799_k0, e799_k1, e799_k2, e799_k3, p799_0, p799_1, p799_2⟩ := h799
              have f799 : Fr W_cp Mc Ma799 := Fr.t FL774 (Fr.m g799 (by decide))
              refine rsl (cV_e rfl) ?_
              refine rsl (jn_v) ?_
              refine rsl (if_pos (eqI_p (li_0) (li_0) (by omega))) ?_
              refine rsl (vC_e (ck_65 (hC.fr f799))) ?_
              refine RlV (y106 (by omega) (hC.fr f799) (hTk.fr (WL := W_cp) f799 (by decide)) (e799_k3) (e799_k0) (e799_k1) (e799_k2) (e799_sz798) (e799_sn798) (e799_uc798) (congrArg iI p505_0) (li_2) (li_2) (li_4) (by omega)) fun v Ma801 h801 => ?_
              obtain ⟨sz800, sn800, uc800, g801, e801_sz800, e801_sn800, e801_uc800, e801_k0, e801_k1, e801_k2, e801_k3, p801_0, p801_1, p801_2⟩ := h801
              have f801 : Fr W_cp Mc Ma801 := Fr.t f799 (Fr.m g801 (by decide))
              refine rsl (cV_e rfl) ?_
              refine rsl (jv_e) ?_
              refine rsr (jn_v) ?_
              refine rsr (if_neg (lsI_n (congrArg iI (if_neg (by omega))) (li_0) (by omega))) ?_
              refine rsr (vC_e (rk_160 (hR.fr FR774))) ?_
              refine RrI (x196_s (by omega) (hR.fr FR774) (u41774) (u42774) (u43774) (u51774) (u53774) (u48774) (u49774) (li_2) (congrArg iI (if_neg (by omega))) (by omega)) fun v Ma803 h803 => ?_
              obtain ⟨rv802, em802, rfl, g803, e803_em802, e803_k0, e803_k1, e803_k2, e803_k3, e803_k4, p803_0, p803_1⟩ := h803
              have f803 : Fr W_rp Mr Ma803 := Fr.t FR774 (Fr.m g803 (by decide))
              refine rsr (cI_e rfl) ?_
              refine rsr (jv_e) ?_
              refine rsr (vC_e (rk_160 (hR.fr f803))) ?_
              refine RrI (x195_s (by omega) (hR.fr f803) (e803_k0) (e803_k1) (e803_em802) (e803_k2) (e803_k3) (e803_k4) ((g803.i _ _ (by decide)).trans (u49774)) (li_59) (by omega)) fun v Ma805 h805 => ?_
              obtain ⟨rv804, em804, rfl, g805, e805_em804, e805_k0, e805_k1, e805_k2, e805_k3, e805_k4, p805_0, p805_1⟩ := h805
              have f805 : Fr W_rp Mr Ma805 := Fr.t f803 (Fr.m g805 (by decide))
              refine rsr (cI_e rfl) ?_
              refine rsr (jv_e) ?_
              exact Rs.ok (Or.inr ⟨F774, P774, f801, f805, ⟨ti774, sz800, sn800, uc800, e801_k0, e801_k1, e801_k2, e801_k3, e801_sz800, e801_sn800, e801_uc800, by omega⟩, ⟨em804, rn774, ru774, rm774, rt774, e805_k0, e805_k1, e805_em804, e805_k2, e805_k3, e805_k4, (g805.i _ _ (by decide)).trans ((g803.i _ _ (by decide)).trans (u49774)), by omega⟩⟩)
        ·
          by_cases c806 : ((kd (i + 1))) = 1
          ·
            refine rsl (cV_e (a64_1 (by omega) hS (hC.fr f505) (hTk.fr (WL := W_cp) f505 (by decide)) (e505_k0) (e505_k2) (e505_k3) (li_61) (by omega))) ?_
            refine rsl (vC_e (ck_65 (hC.fr f505).sI.sI.sI)) ?_
            refine RlV (y99_0 (by omega) (hC.fr f505).sI.sI.sI (hTk.fr (WL := W_cp) (Fr.sI (by decide) (Fr.sI (by decide) (Fr.sI (by decide) f505))) (by decide)) ((sI_nej (by decide)).trans ((sI_nej (by decide)).trans ((sI_nej (by decide)).trans (e505_k0)))) (sI_eq) ((sI_nej (by decide)).trans ((sI_nej (by decide)).trans (sI_eq))) ((sI_nej (by decide)).trans (sI_eq)) ((sI_nej (by decide)).trans ((sI_nej (by decide)).trans ((sI_nej (by decide)).trans ((g505.i _ _ (by decide)).trans (qa_9))))) ((sI_nej (by decide)).trans ((sI_nej (by decide)).trans ((sI_nej (by decide)).trans ((g505.i _ _ (by decide)).trans (qa_16))))) ((sI_nej (by decide)).trans ((sI_nej (by decide)).trans ((sI_nej (by decide)).trans (e505_k1)))) (li_0) (hv0) (by omega)) fun v Ma808 h808 => ?_
            obtain ⟨sz807, sn807, uc807, g808, e808_sz807, e808_sn807, e808_uc807, e808_k0, e808_k1, e808_k2, e808_k3, p808_0, p808_1, p808_2⟩ := h808
            have f808 : Fr W_cp Mc Ma808 := Fr.t (Fr.sI (by decide) (Fr.sI (by decide) (Fr.sI (by decide) f505))) (Fr.m g808 (by decide))
            refine rsl (cV_e rfl) ?_
            refine rsl (vC_e (ck_65 (hC.fr f808))) ?_
            refine RlV (y64 (by omega) (hC.fr f808) (hTk.fr (WL := W_cp) f808 (by decide)) (e808_k3) (e808_k0) (e808_k1) (e808_k2) (e808_sz807) (e808_sn807) (e808_uc807) (li_59) (by omega)) fun v Ma810 h810 => ?_
            obtain ⟨sz809, sn809, uc809, g810, e810_sz809, e810_sn809, e810_uc809, e810_k0, e810_k1, e810_k2, e810_k3, p810_0, p810_1, p810_2⟩ := h810
            have f810 : Fr W_cp Mc Ma810 := Fr.t f808 (Fr.m g810 (by decide))
            refine rsl (cV_e rfl) ?_
            refine rsl (jn_v) ?_
            refine rsl (if_pos (eqI_p (li_0) (li_0) (by omega))) ?_
            refine rsl (vC_e (ck_65 (hC.fr f810))) ?_
            refine RlV (y106 (by omega) (hC.fr f810) (hTk.fr (WL := W_cp) f810 (by decide)) (e810_k3) (e810_k0) (e810_k1) (e810_k2) (e810_sz809) (e810_sn809) (e810_uc809) (congrArg iI p505_0) (li_2) (li_2) (li_4) (by omega)) fun v Ma812 h812 => ?_
            obtain ⟨sz811, sn811, uc811, g812, e812_sz811, e812_sn811, e812_uc811, e812_k0, e812_k1, e812_k2, e812_k3, p812_0, p812_1, p812_2⟩ := h812
            have f812 : Fr W_cp Mc Ma812 := Fr.t f810 (Fr.m g812 (by decide))
            refine rsl (cV_e rfl) ?_
            refine rsl (jv_e) ?_
            refine rsr (gtI_q (w := iI ((kr (kd i)))) (rk_160 hR) (wa_36)) ?_
            refine rsr (jn_v) ?_
            refine rsr (swI_c) ?_
            refine rsr (if_neg (krI_n (k := 215) (rfl) (li_416) (hS.ok i (by omega) (by omega)) (by unfold KdOK sgk; omega) (by decide +kernel) (by omega) (by omega))) ?_
            refine rsr (swI_c) ?_
            refine rsr (if_neg (krI_n (k := 216) (rfl) (li_417) (hS.ok i (by omega) (by omega)) (by unfold KdOK sgk; omega) (by decide +kernel) (by omega) (by omega))) ?_
            refine rsr (swI_c) ?_
            refine rsr (if_neg (krI_n (k := 217) (rfl) (li_418) (hS.ok i (by omega) (by omega)) (by unfold KdOK sgk; omega) (by decide +kernel) (by omega) (by omega))) ?_
            refine rsr (swI_c) ?_
            refine rsr (if_neg (krI_n (k := 218) (rfl) (li_419) (hS.ok i (by omega) (by omega)) (by unfold KdOK sgk; omega) (by decide +kernel) (by omega) (by omega))) ?_
            refine rsr (swI_c) ?_
            refine rsr (if_neg (krI_n (k := 219) (rfl) (li_420) (hS.ok i (by omega) (by omega)) (by unfold KdOK sgk; omega) (by decide +kernel) (by omega) (by omega))) ?_
            refine rsr (swI_c) ?_
            refine rsr (if_neg (krI_n (k := 220) (rfl) (li_421) (hS.ok i (by omega) (by omega)) (by unfold KdOK sgk; omega) (by decide +kernel) (by omega) (by omega))) ?_
            refine rsr (swI_c) ?_
            refine rsr (if_neg (krI_n (k := 221) (rfl) (li_422) (hS.ok i (by omega) (by omega)) (by unfold KdOK sgk; omega) (by decide +kernel) (by omega) (by omega))) ?_
            refine rsr (swI_c) ?_
            refine rsr (if_neg (krI_n (k := 222) (rfl) (li_423) (hS.ok i (by omega) (by omega)) (by unfold KdOK sgk; omega) (by decide +kernel) (by omega) (by omega))) ?_
            refine rsr (swI_n) ?_
            refine rsr (gtI_q (w := iI ((kr (kd i)))) (rk_160 hR) (wa_36)) ?_
            refine rsr (jn_v) ?_
            refine rsr (if_pos (krI_p (k := 3) (rfl) (li_1) (by omega) (by decide +kernel))) ?_
            refine rsr (jv_e) ?_
            refine rsr (vC_e (rk_160 hR)) ?_
            refine rsr (cI_e (ar193_p (by omega) hS hR (wa_36) (wa_37) (wa_41) (li_1) (by omega))) ?_
            refine rsr (if_neg (eqI_n (rfl) (li_0) (by omega))) ?_
            refine rsr (vC_e (rk_160 hR)) ?_
            refine Rs_cVr ?_ (fun v M w N h => rs1 jv_e (Rt.ok h))
            obtain ⟨d2, rfl⟩ : ∃ e, d2 = e + 1 := ⟨d2 - 1, by omega⟩
            rw [r217]; unfold b217; rw [aR_e, aZ_e]; unfold c217
            refine rsr (vC_e (rk_160 hR)) ?_
            refine RrI (a201_u (by omega) hS hR (hT.fr (W := W_rx) Fr.r (by decide) (by decide)) (fun i a b => (Fr.lc (W := W_rx) Fr.r _ (by decide) _).trans (hW i a b)) (wa_36) (wa_37) (wa_38) (wa_41) (h49) (wa_53) wa_n (by omega)) fun v Ma814 h814 => ?_
            obtain ⟨r813, rfl, g814, e814_k0, e814_k1, e814_k2, e814_k3, e814_k4, p814_0, p814_1, p814_2⟩ := h814
            have f814 : Fr W_rx Mr Ma814 := Fr.t Fr.r (Fr.m g814 (by decide))
            refine rsr (cI_e rfl) ?_
            refine rsr (gtI_q (w := iI 0) (rk_160 (hR.fr f814)) (e814_k4)) ?_
            refine rsr (if_pos (eqI_p (rfl) (li_0) (by omega))) ?_
            refine rsr (gtP_q (w := some 202) (rk_160 (hR.fr f814)) (rf_56 (hR.fr f814))) ?_
            refine rsr (alL_q (n := 2000) (z := u) (w := (0 : Int64)) (rk_202 (hR.fr f814)) (congrArg iI p814_0) (by omega) (p814_1.2.2.2.1)) ?_
            refine rsr (jn_v) ?_
            refine rsr (if_pos (lgc_p (rfl) (rfl) rfl)) ?_
            refine rsr (gtP_q (w := some 204) (rk_160 (hR.fr f814)) (rf_58 (hR.fr f814))) ?_
            refine rsr (alL_q (n := 2000) (z := u) (w := (tx i)) (rk_204 (hR.fr f814)) (congrArg iI p814_0) (by omega) (p814_1.2.2.2.2.2.1)) ?_
            refine rsr (vC_e (rk_160 (hR.fr f814))) ?_
            obtain ⟨rl, hrl⟩ : ∃ r, LcF Hl s (tx i) r := by have q := LcF_ex (Hl := Hl) (y := (tx i)) s.toNat; rw [show ((s.toNat : Nat) : Int) = s by omega] at q; exact q
            have brl := hrl.bd
            by_cases crl : rl = -1
            ·
              subst crl
              refine RrI (a197 (by omega) (hR.fr f814) ((g814.i _ _ (by decide)).trans (wa_51)) (lra.fr g814 (by decide)) (by omega)) fun v Nl815 hl815 => ?_
              obtain ⟨r9, rfl, hMl, hr9⟩ := hl815
              rw [hMl]
              have q9 := LcF.one hr9 hrl
              rw [q9]
              refine rsr (cI_e rfl) ?_
              refine rsr (jv_e) ?_
              try dsimp only
              refine rsr (gtI_q (w := iI ((kr (kd (i + 1))))) (rk_160 (hR.fr f814)) (e814_k1)) ?_
              refine rsr (jn_v) ?_
              refine rsr (if_neg (krI_n (k := 40) (rfl) (li_40) (hS.ok (i + 1) (by omega) (by omega)) (by unfold KdOK sgk; omega) (by decide +kernel) (by omega) (by omega))) ?_
              refine rsr (gtI_q (w := iI ((kr (kd (i + 1))))) (rk_160 (hR.fr f814)) (e814_k1)) ?_
              refine rsr (if_neg (krI_n (k := 91) (rfl) (li_91) (hS.ok (i + 1) (by omega) (by omega)) (by unfold KdOK sgk; omega) (by decide +kernel) (by omega) (by omega))) ?_
              refine rsr (vC_e (rk_160 (hR.fr f814))) ?_
              refine rsr (cI_e (a195_61_1 (by omega) hS (hR.fr f814) (e814_k1) (e814_k2) (e814_k4) (li_61) (by omega))) ?_
              refine rsr (if_pos (eqI_p (rfl) (li_0) (by omega))) ?_
              refine rsr (jv_e) ?_
              exact Rs.ok (Or.inr ⟨1, ((pl (i + 1))), f812, (Fr.sI (by decide) (Fr.sI (by decide) (Fr.m f814 (by decide)))), ⟨(i + 1), sz811, sn811, uc811, e812_k0, e812_k1, e812_k2, e812_k3, e812_sz811, e812_sn811, e812_uc811, by omega⟩, ⟨e, s, (u + 1), mu, ut, (sI_nej (by decide)).trans (sI_eq), sI_eq, (sI_nej (by decide)).trans ((sI_nej (by decide)).trans ((g814.i _ _ (by decide)).trans (wa_43))), (sI_nej (by decide)).trans ((sI_nej (by decide)).trans ((g814.i _ _ (by decide)).trans (wa_51))), (sI_nej (by decide)).trans ((sI_nej (by decide)).trans (e814_k0)), (sI_nej (by decide)).trans ((sI_nej (by decide)).trans ((g814.i _ _ (by decide)).trans (h48))), (sI_nej (by decide)).trans ((sI_nej (by decide)).trans ((g814.i _ _ (by decide)).trans (h49))), by omega⟩⟩)
            ·
              refine RrI (a197 (by omega) (hR.fr f814) ((g814.i _ _ (by decide)).trans (wa_51)) (lra.fr g814 (by decide)) (by omega)) fun v Nl815 hl815 => ?_
              obtain ⟨r9, rfl, hMl, hr9⟩ := hl815
              rw [hMl]
              have q9 := LcF.one hr9 hrl
              rw [q9]
              refine rsr (cI_e rfl) ?_
              refine rsr (jv_e) ?_
              try dsimp only
              refine rsr (gtI_q (w := iI ((kr (kd (i + 1))))) (rk_160 (hR.fr f814)) (e814_k1)) ?_
              refine rsr (jn_v) ?_
              refine rsr (if_neg (krI_n (k := 40) (rfl) (li_40) (hS.ok (i + 1) (by omega) (by omega)) (by unfold KdOK sgk; omega) (by decide +kernel) (by omega) (by omega))) ?_
              refine rsr (gtI_q (w := iI ((kr (kd (i + 1))))) (rk_160 (hR.fr f814)) (e814_k1)) ?_
              refine rsr (if_neg (krI_n (k := 91) (rfl) (li_91) (hS.ok (i + 1) (by omega) (by omega)) (by unfold KdOK sgk; omega) (by decide +kernel) (by omega) (by omega))) ?_
              refine rsr (vC_e (rk_160 (hR.fr f814))) ?_
              refine rsr (cI_e (a195_61_1 (by omega) hS (hR.fr f814) (e814_k1) (e814_k2) (e814_k4) (li_61) (by omega))) ?_
              refine rsr (if_pos (eqI_p (rfl) (li_0) (by omega))) ?_
              refine rsr (jv_e) ?_
              exact Rs.ok (Or.inr ⟨1, ((pl (i + 1))), f812, (Fr.sI (by decide) (Fr.sI (by decide) (Fr.m f814 (by decide)))), ⟨(i + 1), sz811, sn811, uc811, e812_k0, e812_k1, e812_k2, e812_k3, e812_sz811, e812_sn811, e812_uc811, by omega⟩, ⟨e, s, (u + 1), mu, ut, (sI_nej (by decide)).trans (sI_eq), sI_eq, (sI_nej (by decide)).trans ((sI_nej (by decide)).trans ((g814.i _ _ (by decide)).trans (wa_43))), (sI_nej (by decide)).trans ((sI_nej (by decide)).trans ((g814.i _ _ (by decide)).trans (wa_51))), (sI_nej (by decide)).trans ((sI_nej (by decide)).trans (e814_k0)), (sI_nej (by decide)).trans ((sI_nej (by decide)).trans ((g814.i _ _ (by decide)).trans (h48))), (sI_nej (by decide)).trans ((sI_nej (by decide)).trans ((g814.i _ _ (by decide)).trans (h49))), by omega⟩⟩)
          ·
            refine rsl (cV_e (a64_2 (by omega) hS (hC.fr f505) (hTk.fr (WL := W_cp) f505 (by decide)) (e505_k0) (e505_k2) (e505_k3) (li_61) (by omega))) ?_
            refine rsl (vC_e (ck_65 (hC.fr f505).sI.sI.sI)) ?_
            refine RlV (y99_0 (by omega) (hC.fr f505).sI.sI.sI (hTk.fr (WL := W_cp) (Fr.sI (by decide) (Fr.sI (by decide) (Fr.sI (by decide) f505))) (by decide)) ((sI_nej (by decide)).trans ((sI_nej (by decide)).trans ((sI_nej (by decide)).trans (e505_k0)))) (sI_eq) ((sI_nej (by decide)).trans ((sI_nej (by decide)).trans (sI_eq))) ((sI_nej (by decide)).trans (sI_eq)) ((sI_nej (by decide)).trans ((sI_nej (by decide)).trans ((sI_nej (by decide)).trans ((g505.i _ _ (by decide)).trans (qa_9))))) ((sI_nej (by decide)).trans ((sI_nej (by decide)).trans ((sI_nej (by decide)).trans ((g505.i _ _ (by decide)).trans (qa_16))))) ((sI_nej (by decide)).trans ((sI_nej (by decide)).trans ((sI_nej (by decide)).trans (e505_k1)))) (li_0) (hv0) (by omega)) fun v Ma817 h817 => ?_
            obtain ⟨sz816, sn816, uc816, g817, e817_sz816, e817_sn816, e817_uc816, e817_k0, e817_k1, e817_k2, e817_k3, p817_0, p817_1, p817_2⟩ := h817
            have f817 : Fr W_cp Mc Ma817 := Fr.t (Fr.sI (by decide) (Fr.sI (by decide) (Fr.sI (by decide) f505))) (Fr.m g817 (by decide))
            refine rsl (cV_e rfl) ?_
            refine rsl (vC_e (ck_65 (hC.fr f817))) ?_
            refine RlV (y64 (by omega) (hC.fr f817) (hTk.fr (WL := W_cp) f817 (by decide)) (e817_k3) (e817_k0) (e817_k1) (e817_k2) (e817_sz816) (e817_sn816) (e817_uc816) (li_59) (by omega)) fun v Ma819 h819 => ?_
            obtain ⟨sz818, sn818, uc818, g819, e819_sz818, e819_sn818, e819_uc818, e819_k0, e819_k1, e819_k2, e819_k3, p819_0, p819_1, p819_2⟩ := h819
            have f819 : Fr W_cp Mc Ma819 := Fr.t f817 (Fr.m g819 (by decide))
            refine rsl (cV_e rfl) ?_
            refine rsl (jn_v) ?_
            refine rsl (if_pos (eqI_p (li_0) (li_0) (by omega))) ?_
            refine rsl (vC_e (ck_65 (hC.fr f819))) ?_
            refine RlV (y106 (by omega) (hC.fr f819) (hTk.fr (WL := W_cp) f819 (by decide)) (e819_k3) (e819_k0) (e819_k1) (e819_k2) (e819_sz818) (e819_sn818) (e819_uc818) (congrArg iI p505_0) (li_2) (li_2) (li_4) (by omega)) fun v Ma821 h821 => ?_
            obtain ⟨sz820, sn820, uc820, g821, e821_sz820, e821_sn820, e821_uc820, e821_k0, e821_k1, e821_k2, e821_k3, p821_0, p821_1, p821_2⟩ := h821
            have f821 : Fr W_cp Mc Ma821 := Fr.t f819 (Fr.m g821 (by decide))
            refine rsl (cV_e rfl) ?_
            refine rsl (jv_e) ?_
            refine rsr (gtI_q (w := iI ((kr (kd i)))) (rk_160 hR) (wa_36)) ?_
            refine rsr (jn_v) ?_
            refine rsr (swI_c) ?_
            refine rsr (if_neg (krI_n (k := 215) (rfl) (li_416) (hS.ok i (by omega) (by omega)) (by unfold KdOK sgk; omega) (by decide +kernel) (by omega) (by omega))) ?_
            refine rsr (swI_c) ?_
            refine rsr (if_neg (krI_n (k := 216) (rfl) (li_417) (hS.ok i (by omega) (by omega)) (by unfold KdOK sgk; omega) (by decide +kernel) (by omega) (by omega))) ?_
            refine rsr (swI_c) ?_
            refine rsr (if_neg (krI_n (k := 217) (rfl) (li_418) (hS.ok i (by omega) (by omega)) (by unfold KdOK sgk; omega) (by decide +kernel) (by omega) (by omega))) ?_
            refine rsr (swI_c) ?_
            refine rsr (if_neg (krI_n (k := 218) (rfl) (li_419) (hS.ok i (by omega) (by omega)) (by unfold KdOK sgk; omega) (by decide +kernel) (by omega) (by omega))) ?_
            refine rsr (swI_c) ?_
            refine rsr (if_neg (krI_n (k := 219) (rfl) (li_420) (hS.ok i (by omega) (by omega)) (by unfold KdOK sgk; omega) (by decide +kernel) (by omega) (by omega))) ?_
            refine rsr (swI_c) ?_
            refine rsr (if_neg (krI_n (k := 220) (rfl) (li_421) (hS.ok i (by omega) (by omega)) (by unfold KdOK sgk; omega) (by decide +kernel) (by omega) (by omega))) ?_
            refine rsr (swI_c) ?_
            refine rsr (if_neg (krI_n (k := 221) (rfl) (li_422) (hS.ok i (by omega) (by omega)) (by unfold KdOK sgk; omega) (by decide +kernel) (by omega) (by omega))) ?_
            refine rsr (swI_c) ?_
            refine rsr (if_neg (krI_n (k := 222) (rfl) (li_423) (hS.ok i (by omega) (by omega)) (by unfold KdOK sgk; omega) (by decide +kernel) (by omega) (by omega))) ?_
            refine rsr (swI_n) ?_
            refine rsr (gtI_q (w := iI ((kr (kd i)))) (rk_160 hR) (wa_36)) ?_
            refine rsr (jn_v) ?_
            refine rsr (if_pos (krI_p (k := 3) (rfl) (li_1) (by omega) (by decide +kernel))) ?_
            refine rsr (jv_e) ?_
            refine rsr (vC_e (rk_160 hR)) ?_
            refine rsr (cI_e (ar193_p (by omega) hS hR (wa_36) (wa_37) (wa_41) (li_1) (by omega))) ?_
            refine rsr (if_neg (eqI_n (rfl) (li_0) (by omega))) ?_
            refine rsr (vC_e (rk_160 hR)) ?_
            refine Rs_cVr ?_ (fun v M w N h => rs1 jv_e (Rt.ok h))
            obtain ⟨d2, rfl⟩ : ∃ e, d2 = e + 1 := ⟨d2 - 1, by omega⟩
            rw [r217]; unfold b217; rw [aR_e, aZ_e]; unfold c217
            refine rsr (vC_e (rk_160 hR)) ?_
            refine RrI (a201_u (by omega) hS hR (hT.fr (W := W_rx) Fr.r (by decide) (by decide)) (fun i a b => (Fr.lc (W := W_rx) Fr.r _ (by decide) _).trans (hW i a b)) (wa_36) (wa_37) (wa_38) (wa_41) (h49) (wa_53) wa_n (by omega)) fun v Ma823 h823 => ?_
            obtain ⟨r822, rfl, g823, e823_k0, e823_k1, e823_k2, e823_k3, e823_k4, p823_0, p823_1, p823_2⟩ := h823
            have f823 : Fr W_rx Mr Ma823 := Fr.t Fr.r (Fr.m g823 (by decide))
            refine rsr (cI_e rfl) ?_
            refine rsr (gtI_q (w := iI 0) (rk_160 (hR.fr f823)) (e823_k4)) ?_
            refine rsr (if_pos (eqI_p (rfl) (li_0) (by omega))) ?_
            refine rsr (gtP_q (w := some 202) (rk_160 (hR.fr f823)) (rf_56 (hR.fr f823))) ?_
            refine rsr (alL_q (n := 2000) (z := u) (w := (0 : Int64)) (rk_202 (hR.fr f823)) (congrArg iI p823_0) (by omega) (p823_1.2.2.2.1)) ?_
            refine rsr (jn_v) ?_
            refine rsr (if_pos (lgc_p (rfl) (rfl) rfl)) ?_
            refine rsr (gtP_q (w := some 204) (rk_160 (hR.fr f823)) (rf_58 (hR.fr f823))) ?_
            refine rsr (alL_q (n := 2000) (z := u) (w := (tx i)) (rk_204 (hR.fr f823)) (congrArg iI p823_0) (by omega) (p823_1.2.2.2.2.2.1)) ?_
            refine rsr (vC_e (rk_160 (hR.fr f823))) ?_
            obtain ⟨rl, hrl⟩ : ∃ r, LcF Hl s (tx i) r := by have q := LcF_ex (Hl := Hl) (y := (tx i)) s.toNat; rw [show ((s.toNat : Nat) : Int) = s by omega] at q; exact q
            have brl := hrl.bd
            by_cases crl : rl = -1
            ·
              subst crl
              refine RrI (a197 (by omega) (hR.fr f823) ((g823.i _ _ (by decide)).trans (wa_51)) (lra.fr g823 (by decide)) (by omega)) fun v Nl824 hl824 => ?_
              obtain ⟨r9, rfl, hMl, hr9⟩ := hl824
              rw [hMl]
              have q9 := LcF.one hr9 hrl
              rw [q9]
              refine rsr (cI_e rfl) ?_
              refine rsr (jv_e) ?_
              try dsimp only
              refine rsr (gtI_q (w := iI ((kr (kd (i + 1))))) (rk_160 (hR.fr f823)) (e823_k1)) ?_
              refine rsr (jn_v) ?_
              refine rsr (if_neg (krI_n (k := 40) (rfl) (li_40) (hS.ok (i + 1) (by omega) (by omega)) (by unfold KdOK sgk; omega) (by decide +kernel) (by omega) (by omega))) ?_
              refine rsr (gtI_q (w := iI ((kr (kd (i + 1))))) (rk_160 (hR.fr f823)) (e823_k1)) ?_
              refine rsr (if_neg (krI_n (k := 91) (rfl) (li_91) (hS.ok (i + 1) (by omega) (by omega)) (by unfold KdOK sgk; omega) (by decide +kernel) (by omega) (by omega))) ?_
              refine rsr (vC_e (rk_160 (hR.fr f823))) ?_
              refine rsr (cI_e (a195_61_2 (by omega) hS (hR.fr f823) (e823_k1) (e823_k2) (e823_k4) (li_61) (by omega))) ?_
              refine rsr (if_pos (eqI_p (rfl) (li_0) (by omega))) ?_
              refine rsr (jv_e) ?_
              exact Rs.ok (Or.inr ⟨2, ((pl (i + 1))), f821, (Fr.sI (by decide) (Fr.sI (by decide) (Fr.m f823 (by decide)))), ⟨(i + 1), sz820, sn820, uc820, e821_k0, e821_k1, e821_k2, e821_k3, e821_sz820, e821_sn820, e821_uc820, by omega⟩, ⟨e, s, (u + 1), mu, ut, (sI_nej (by decide)).trans (sI_eq), sI_eq, (sI_nej (by decide)).trans ((sI_nej (by decide)).trans ((g823.i _ _ (by decide)).trans (wa_43))), (sI_nej (by decide)).trans ((sI_nej (by decide)).trans ((g823.i _ _ (by decide)).trans (wa_51))), (sI_nej (by decide)).trans ((sI_nej (by decide)).trans (e823_k0)), (sI_nej (by decide)).trans ((sI_nej (by decide)).trans ((g823.i _ _ (by decide)).trans (h48))), (sI_nej (by decide)).trans ((sI_nej (by decide)).trans ((g823.i _ _ (by decide)).trans (h49))), by omega⟩⟩)
            ·
              refine RrI (a197 (by omega) (hR.fr f823) ((g823.i _ _ (by decide)).trans (wa_51)) (lra.fr g823 (by decide)) (by omega)) fun v Nl824 hl824 => ?_
              obtain ⟨r9, rfl, hMl, hr9⟩ := hl824
              rw [hMl]
              have q9 := LcF.one hr9 hrl
              rw [q9]
              refine rsr (cI_e rfl) ?_
              refine rsr (jv_e) ?_
              try dsimp only
              refine rsr (gtI_q (w := iI ((kr (kd (i + 1))))) (rk_160 (hR.fr f823)) (e823_k1)) ?_
              refine rsr (jn_v) ?_
              refine rsr (if_neg (krI_n (k := 40) (rfl) (li_40) (hS.ok (i + 1) (by omega) (by omega)) (by unfold KdOK sgk; omega) (by decide +kernel) (by omega) (by omega))) ?_
              refine rsr (gtI_q (w := iI ((kr (kd (i + 1))))) (rk_160 (hR.fr f823)) (e823_k1)) ?_
              refine rsr (if_neg (krI_n (k := 91) (rfl) (li_91) (hS.ok (i + 1) (by omega) (by omega)) (by unfold KdOK sgk; omega) (by decide +kernel) (by omega) (by omega))) ?_
              refine rsr (vC_e (rk_160 (hR.fr f823))) ?_
              refine rsr (cI_e (a195_61_2 (by omega) hS (hR.fr f823) (e823_k1) (e823_k2) (e823_k4) (li_61) (by omega))) ?_
              refine rsr (if_pos (eqI_p (rfl) (li_0) (by omega))) ?_
              refine rsr (jv_e) ?_
              exact Rs.ok (Or.inr ⟨2, ((pl (i + 1))), f821, (Fr.sI (by decide) (Fr.sI (by decide) (Fr.m f823 (by decide)))), ⟨(i + 1), sz820, sn820, uc820, e821_k0, e821_k1, e821_k2, e821_k3, e821_sz820, e821_sn820, e821_uc820, by omega⟩, ⟨e, s, (u + 1), mu, ut, (sI_nej (by decide)).trans (sI_eq), sI_eq, (sI_nej (by decide)).trans ((sI_nej (by decide)).trans ((g823.i _ _ (by decide)).trans (wa_43))), (sI_nej (by decide)).trans ((sI_nej (by decide)).trans ((g823.i _ _ (by decide)).trans (wa_51))), (sI_nej (by decide)).trans ((sI_nej (by decide)).trans (e823_k0)), (sI_nej (by decide)).trans ((sI_nej (by decide)).trans ((g823.i _ _ (by decide)).trans (h48))), (sI_nej (by decide)).trans ((sI_nej (by decide)).trans ((g823.i _ _ (by decide)).trans (h49))), by omega⟩⟩)
