theorem p_st3 {D : Nat} {dp : Int} (hD : 20 ≤ D) (hE : Pair D 99 [0] 211 14 dp) (hX : PairK 91 D 98 [] 203 24 dp) (hCl : PairC D 24 dp) : PairT 3 96 [] (D + 10) dp := by
  intro d d2 hd hd2 T n m kd pl E tx ua ut mu Mc Mr G U Hl X i e s u uc v0 hS hx hsc hsr hrw hbd hK hv0
  obtain ⟨d, rfl⟩ : ∃ e, d = e + 1 := ⟨d - 1, by omega⟩
  obtain ⟨d2, rfl⟩ : ∃ e, d2 = e + 1 := ⟨d2 - 1, by omega⟩
  show Rs (runX (d + 1) 96 [va_rf (some 65), .int v0] Mc) (runX (d2 + 1) 214 [va_rf (some 160)] Mr) _
  rw [r96]; unfold b96; rw [aR_e, aI_e, aZ_e]; unfold c96; rw [r214]; unfold b214; rw [aR_e, aZ_e]; unfold c214
  have hCx := hx
  obtain ⟨hC, hR, hTk, hT, hW, ⟨hu1, hu2, hu3, hu4⟩, h49, h48, ⟨hb1, hb2, hb3, hb4⟩⟩ := hx
  obtain ⟨bb_0, bb_1, bb_2, bb_3, bb_4, bb_5, bb_6, bb_7, bb_8, bb_9, bb_10, bb_11⟩ := hbd
  have kua : KU uc Mc Mc := KU.r
  obtain ⟨qa_12, qa_13, qa_10, qa_9, qa_16, qa_19⟩ := hsc
  obtain ⟨wa_36, wa_37, wa_38, wa_41, wa_43, wa_51, wa_53, wa_50, wa_n⟩ := hsr
  obtain ⟨caa, raa, lca, lra, cua, rua⟩ := hrw
  have hk1 := (hS.ok i (by omega) (by omega)).r
  have ty2 := (Tye.r (G := G) (a := e) (s := s))
  have du3 := (DU.r (ut := ut) (mu := mu) (c := uc) (G := G) (U := U) (X := X) (a := e) (u := u))
  refine rsl (vC_e (ck_65 hC)) ?_
  have hm4 : i + 1 < m := hS.more i (by omega) (by omega) (by omega)
  have hk5 := (hS.ok (i + 1) (by omega) (by omega)).r
  by_cases c6 : ((kd (i + 1))) = 46
  ·
    have hm7 : (i + 1) + 1 < m := hS.more (i + 1) (by omega) (by omega) (by omega)
    have hk8 := (hS.ok (i + 2) (by omega) (by omega)).r
    by_cases c9 : ((kd (i + 2))) = 3
    ·
      have hm10 : (i + 2) + 1 < m := hS.more (i + 2) (by omega) (by omega) (by omega)
      have hk11 := (hS.ok (i + 3) (by omega) (by omega)).r
      have hlt : ∀ j, 0 ≤ j → j < u → U 0 j < uc := fun j a b => (cua.1 j a b).1.2
      refine RlI (a104_d (by omega) hS hC (hTk.fr (WL := W_cp) Fr.r (by decide)) hu1 (by rw [(Fr.r : Fr W_cp Mc _).p]; exact hu2) (Fr.kd (W := W_cp) Fr.r hu3) ((Fr.i (W := W_cp) Fr.r _ _ (inW_hi (by decide) hu1 _)).trans hu4) (qa_12) (qa_13) (qa_10) (qa_19) (by omega)) fun v Ma13 h13 => ?_
      obtain ⟨r12, rfl, g13, e13_k0, e13_k1, e13_k2, e13_k3, p13_0, p13_1⟩ := h13
      have f13 : Fr W_cp Mc Ma13 := Fr.t Fr.r (Fr.m g13 (by decide))
      refine rsl (cI_e rfl) ?_
      refine rsl (gtI_q (w := iI ((kd (i + 3)))) (ck_65 (hC.fr f13)) (e13_k2)) ?_
      by_cases c14 : ((kd (i + 3))) = 40
      · refine rsl (if_pos (eqI_p (rfl) (li_40) (by omega))) ?_
        refine rsl (vC_e (ck_65 (hC.fr f13))) ?_
        refine rsr (gtI_q (w := iI ((kr (kd i)))) (rk_160 hR) (wa_36)) ?_
        refine rsr (jn_v) ?_
        refine rsr (swI_c) ?_
        refine rsr (if_neg (krI_n (k := 215) (rfl) (li_416) (hS.ok i (by omega) (by omega)) (by unfold KdOK sgk; omega) (by decide +kernel) (by omega) (by omega))) ?_
        refine rsr (swI_c) ?_
        refine rsr (if_neg (krI_n (k := 216) (rfl) (li_417) (hS.ok i (by omega) (by omega)) (by unfold KdOK sgk; omega) (by decide +kernel) (by omega) (by omega))) ?_
        refine rsr (swI_c) ?_
        refine rsr (if_neg (krI_n (k := 217) (rfl) (li_418) (hS.ok i (by omega) (by omega)) (by unfold KdOK sgk; omega) (by decide +kernel) (by omega) (by omega))) ?_
        refine rsr (swI_c) ?_
        refine rsr (if_neg (krI_n (k := 218) (rfl) (li_419) (hS.ok i (by omega) (by omega)) (by unfold KdOK sgk; omega) (by decide +kernel) (by omega) (by omega))) ?_
        refine rsr (swI_c) ?_
        refine rsr (if_neg (krI_n (k := 219) (rfl) (li_420) (hS.ok i (by omega) (by omega)) (by unfold KdOK sgk; omega) (by decide +kernel) (by omega) (by omega))) ?_
        refine rsr (swI_c) ?_
        refine rsr (if_neg (krI_n (k := 220) (rfl) (li_421) (hS.ok i (by omega) (by omega)) (by unfold KdOK sgk; omega) (by decide +kernel) (by omega) (by omega))) ?_
        refine rsr (swI_c) ?_
        refine rsr (if_neg (krI_n (k := 221) (rfl) (li_422) (hS.ok i (by omega) (by omega)) (by unfold KdOK sgk; omega) (by decide +kernel) (by omega) (by omega))) ?_
        refine rsr (swI_c) ?_
        refine rsr (if_neg (krI_n (k := 222) (rfl) (li_423) (hS.ok i (by omega) (by omega)) (by unfold KdOK sgk; omega) (by decide +kernel) (by omega) (by omega))) ?_
        refine rsr (swI_n) ?_
        refine rsr (gtI_q (w := iI ((kr (kd i)))) (rk_160 hR) (wa_36)) ?_
        refine rsr (jn_v) ?_
        refine rsr (if_pos (krI_p (k := 3) (rfl) (li_1) (by omega) (by decide +kernel))) ?_
        refine rsr (jv_e) ?_
        refine rsr (vC_e (rk_160 hR)) ?_
        refine rsr (cI_e (ar193_p (by omega) hS hR (wa_36) (wa_37) (wa_41) (li_1) (by omega))) ?_
        refine rsr (if_neg (eqI_n (rfl) (li_0) (by omega))) ?_
        refine rsr (vC_e (rk_160 hR)) ?_
        refine Rs_cVr ?_ (fun v M w N h => rs1 jv_e (Rt.ok h))
        obtain ⟨d2, rfl⟩ : ∃ e, d2 = e + 1 := ⟨d2 - 1, by omega⟩
        rw [r217]; unfold b217; rw [aR_e, aZ_e]; unfold c217
        refine rsr (vC_e (rk_160 hR)) ?_
        refine RrI (a201_d (by omega) hS hR (hT.fr (W := W_rx) Fr.r (by decide) (by decide)) (fun i a b => (Fr.lc (W := W_rx) Fr.r _ (by decide) _).trans (hW i a b)) (wa_36) (wa_37) (wa_38) (wa_41) (h49) (wa_53) wa_n (by omega)) fun v Ma16 h16 => ?_
        obtain ⟨r15, rfl, g16, e16_k0, e16_k1, e16_k2, e16_k3, e16_k4, p16_0, p16_1, p16_2⟩ := h16
        have f16 : Fr W_rx Mr Ma16 := Fr.t Fr.r (Fr.m g16 (by decide))
        refine rsr (cI_e rfl) ?_
        refine rsr (gtI_q (w := iI 0) (rk_160 (hR.fr f16)) (e16_k4)) ?_
        refine rsr (if_pos (eqI_p (rfl) (li_0) (by omega))) ?_
        refine rsr (gtP_q (w := some 202) (rk_160 (hR.fr f16)) (rf_56 (hR.fr f16))) ?_
        refine rsr (alL_q (n := 2000) (z := u) (w := (tx i)) (rk_202 (hR.fr f16)) (congrArg iI p16_0) (by omega) (p16_1.2.2.2.1)) ?_
        refine rsr (jn_v) ?_
        by_cases c17 : (tx i) = (0 : Int64)
        ·
          refine rsr (if_pos (lgc_p (rfl) (rfl) c17)) ?_
          refine rsr (gtP_q (w := some 204) (rk_160 (hR.fr f16)) (rf_58 (hR.fr f16))) ?_
          refine rsr (alL_q (n := 2000) (z := u) (w := (tx (i + 2))) (rk_204 (hR.fr f16)) (congrArg iI p16_0) (by omega) (p16_1.2.2.2.2.2.1)) ?_
          refine rsr (vC_e (rk_160 (hR.fr f16))) ?_
          obtain ⟨rl, hrl⟩ : ∃ r, LcF Hl s (tx (i + 2)) r := by have q := LcF_ex (Hl := Hl) (y := (tx (i + 2))) s.toNat; rw [show ((s.toNat : Nat) : Int) = s by omega] at q; exact q
          have brl := hrl.bd
          by_cases crl : rl = -1
          ·
            subst crl
            refine RrI (a197 (by omega) (hR.fr f16) ((g16.i _ _ (by decide)).trans (wa_51)) (lra.fr g16 (by decide)) (by omega)) fun v Nl18 hl18 => ?_
            obtain ⟨r9, rfl, hMl, hr9⟩ := hl18
            rw [hMl]
            have q9 := LcF.one hr9 hrl
            rw [q9]
            refine rsr (cI_e rfl) ?_
            refine rsr (jv_e) ?_
            try dsimp only
            refine rsr (gtI_q (w := iI ((kr (kd (i + 3))))) (rk_160 (hR.fr f16)) (e16_k1)) ?_
            refine rsr (jn_v) ?_
            refine rsr (if_pos (krI_p (k := 40) (rfl) (li_40) (by omega) (by decide +kernel))) ?_
            refine rsr (vC_e (rk_160 (hR.fr f16))) ?_
            refine Rb_VV (hCl _ _ (by omega) (by omega) T n m kd pl E tx ua ut mu _ _ G (pu U u [uc, (V Mr 201 u.toNat), (V Mr 200 u.toNat), (pl i), (pl (i + 2)), (V Mr 206 u.toNat), ut, 0, (V Mc 79 uc.toNat), (V Mc 80 uc.toNat), (pl i)]) Hl (pux X u [(tx i), (tx (i + 2))]) (i + 3) e s (u + 1) (uc + 1) _ _ _ hS (hCx.fr f13 f16) ⟨e13_k0, e13_k2, e13_k3, (g13.i _ _ (by decide)).trans (qa_9), (g13.i _ _ (by decide)).trans (qa_16), e13_k1⟩ ⟨e16_k1, e16_k2, e16_k3, e16_k4, (g16.i _ _ (by decide)).trans (wa_43), (g16.i _ _ (by decide)).trans (wa_51), e16_k0, (g16.i _ _ (by decide)).trans (wa_50), p16_2⟩ ⟨(caa.fr g13 (by decide)), (raa.fr g16 (by decide)), (lca.fr g13 (by decide)), (lra.fr g16 (by decide)), (CU.add cua (by omega) (by omega) p13_1 rfl rfl), (RU.add rua (by omega) p16_1 rfl)⟩ ⟨by omega, by omega, by omega, by omega, by omega, by omega, by omega, by omega, by omega, by omega, by omega, by omega⟩ (x := uc) (by omega) (by omega) (pu_e (by omega)) (pu_e (by omega)) (Or.inr ((pu_e (by omega)).trans (pu_e (by omega)).symm)) (congrArg iI p13_0) (hv0) (cvI (congrArg iI p16_0) (by omega))) fun v Mx19 w Nx19 hx19 => ?_
            rcases hx19 with ⟨i19, e19, u19, uc19, G19, U19, X19, fl19, fr19, sc19, sr19, rw19, bd19, mv19, ag19, au19, ax19, tp19, dp19, kv19⟩ | ⟨F19, P19, fl19, fr19, tc19, tr19⟩
            ·
              have FL19 : Fr W_cp Mc Mx19 := Fr.t f13 fl19
              have FR19 : Fr W_rx Mr Nx19 := Fr.t f16 fr19
              obtain ⟨bb19_0, bb19_1, bb19_2, bb19_3, bb19_4, bb19_5, bb19_6, bb19_7, bb19_8, bb19_9, bb19_10, bb19_11⟩ := bd19
              obtain ⟨q19_12, q19_13, q19_10, q19_9, q19_16, q19_19⟩ := sc19
              obtain ⟨w19_36, w19_37, w19_38, w19_41, w19_43, w19_51, w19_53, w19_50, w19_n⟩ := sr19
              obtain ⟨ca19, ra19, lc19, lr19, cu19, ru19⟩ := rw19
              have hk20 := (hS.ok i19 (by omega) (by omega)).r
              have ku19 := KU.t (KU.us kua p13_1 g13 (by decide) (by omega)) kv19 (by omega)
              have ty21 := Tye.t (d3 := 1) ty2 ag19 tp19 (by omega)
              refine rsl (cV_e rfl) ?_
              refine rsr (cV_e rfl) ?_
              refine rsl (vC_e (ck_65 (hC.fr FL19))) ?_
              by_cases c22 : ((kd i19)) = 59
              ·
                have hm23 : i19 + 1 < m := hS.more i19 (by omega) (by omega) (by omega)
                refine rsl (cV_e (a64q (by omega) hS (hC.fr FL19) (hTk.fr (WL := W_cp) FL19 (by decide)) (q19_12) (q19_13) (q19_10) (li_59) (i2 := (i19 + 1)) (by omega) (by omega))) ?_
                have hk24 := (hS.ok (i19 + 1) (by omega) (by omega)).r
                refine rsl (vC_e (ck_65 (hC.fr FL19).sI.sI)) ?_
                have tb26 := Tyb.ex (dp := dp) (d := 1) (s' := s) (q := (e19 + 1)) (n1 := 0) (ut := ut) (mu := mu) (l := []) ty21 (Or.inr (Or.inr (Or.inr (Or.inl (by omega)))) : Eff 9 0 0 1 s 0 s) (by omega) ⟨by omega, by omega⟩ (by omega)
                have du27 := DU.em (q := (e19 + 1)) (o := 9) (n := 0) (p := -2) (l := [0]) dp19 (by omega) (by omega)
                refine RlI (a87 (by omega) (hC.fr FL19).sI.sI ((sI_nej (by decide)).trans ((sI_nej (by decide)).trans (q19_9))) (li_9) (li_0) (by omega)) fun v Ma28 h28 => ?_
                obtain ⟨r25, rfl, g28, e28_k0, p28_0, p28_1⟩ := h28
                have f28 : Fr W_cp Mc Ma28 := Fr.t (Fr.sI (by decide) (Fr.sI (by decide) FL19)) (Fr.m g28 (by decide))
                refine rsl (cI_e rfl) ?_
                refine rsr (vC_e (rk_160 (hR.fr FR19))) ?_
                refine RrI (a195_59 (by omega) hS (hR.fr FR19) (hT.fr (W := W_rx) FR19 (by decide) (by decide)) (fun i a b => (Fr.lc (W := W_rx) FR19 _ (by decide) _).trans (hW i a b)) (w19_36) (w19_37) (w19_38) (w19_41) (li_59) (i2 := (i19 + 1)) (by omega) (by omega)) fun v Ma30 h30 => ?_
                obtain ⟨r29, rfl, g30, e30_k0, e30_k1, e30_k2, p30_0, p30_1⟩ := h30
                have f30 : Fr W_rx Mr Ma30 := Fr.t FR19 (Fr.m g30 (by decide))
                refine rsr (cI_e rfl) ?_
                refine rsr (vC_e (rk_160 (hR.fr f30))) ?_
                refine RrI (a196 (by omega) (hR.fr f30) ((g30.i _ _ (by decide)).trans (w19_43)) ((g30.i _ _ (by decide)).trans ((FR19.i _ _ (by decide)).trans h49)) ((g30.i _ _ (by decide)).trans ((FR19.i _ _ (by decide)).trans h48)) (li_9) (li_0) (by omega)) fun v Ma32 h32 => ?_
                obtain ⟨r31, rfl, g32, e32_k0, p32_0, p32_1⟩ := h32
                have f32 : Fr W_rx Mr Ma32 := Fr.t f30 (Fr.m g32 (by decide))
                refine rsr (cI_e rfl) ?_
                refine rsr (jv_e) ?_
                exact Rs.ok (Or.inl ⟨(i19 + 1), s, Hl, ⟨(e19 + 1), u19, uc19, (pu G19 e19 [9, 0, -2, 0, ut, mu, 0]), U19, X19, f28, f32, ⟨(g28.i _ _ (by decide)).trans ((sI_nej (by decide)).trans (sI_eq)), (g28.i _ _ (by decide)).trans (sI_eq), (g28.i _ _ (by decide)).trans ((sI_nej (by decide)).trans ((sI_nej (by decide)).trans (q19_10))), e28_k0, (g28.i _ _ (by decide)).trans ((sI_nej (by decide)).trans ((sI_nej (by decide)).trans (q19_16))), (g28.i _ _ (by decide)).trans ((sI_nej (by decide)).trans ((sI_nej (by decide)).trans (q19_19)))⟩, ⟨(g32.i _ _ (by decide)).trans (e30_k0), (g32.i _ _ (by decide)).trans (e30_k1), (g32.i _ _ (by decide)).trans (e30_k2), (g32.i _ _ (by decide)).trans ((g30.i _ _ (by decide)).trans (w19_41)), e32_k0, (g32.i _ _ (by decide)).trans ((g30.i _ _ (by decide)).trans (w19_51)), (g32.i _ _ (by decide)).trans ((g30.i _ _ (by decide)).trans (w19_53)), (g32.i _ _ (by decide)).trans ((g30.i _ _ (by decide)).trans (w19_50)), (p30_1.fr g32 (by decide) (by decide))⟩, ⟨(CA1.em (ca19.fr (W := W_c0) (Fr.sI (by decide) (Fr.sI (by decide) Fr.r)) (by decide)) (by omega) p28_1 rfl), (RA1.em (ra19.fr g30 (by decide)) (by omega) p32_1 rfl), ((lc19.fr (W := W_c0) (Fr.sI (by decide) (Fr.sI (by decide) Fr.r)) (by decide)).fr g28 (by decide)), ((lr19.fr g30 (by decide)).fr g32 (by decide)), ((cu19.fr (W := W_c0) (Fr.sI (by decide) (Fr.sI (by decide) Fr.r)) (by decide)).fr g28 (by decide)), ((ru19.fr g30 (by decide)).fr g32 (by decide))⟩, ⟨by omega, by omega, by omega, by omega, by omega, by omega, by omega, by omega, by omega, by omega, by omega, by omega⟩, ⟨by omega, by omega, by omega, by omega, by omega, by omega⟩, (Ag.pu (Ag.t Ag.r ag19 (by omega)) (by omega)), (Ag.t (Ag.pu Ag.r (by omega)) au19 (by omega)), (AgL.t (AgL.pu AgL.r (by omega)) ax19 (by omega)), tb26, du27, ((ku19.fr (W := W_c0) (Fr.sI (by decide) (Fr.sI (by decide) Fr.r)) (by decide)).fr g28 (by decide)), ⟨by omega, fun _ _ _ => rfl⟩⟩⟩)
              ·
                by_cases c33 : ((kd i19)) = 1
                ·
                  refine rsl (cV_e (a64_1 (by omega) hS (hC.fr FL19) (hTk.fr (WL := W_cp) FL19 (by decide)) (q19_12) (q19_13) (q19_10) (li_59) (by omega))) ?_
                  refine rsl (vC_e (ck_65 (hC.fr FL19).sI.sI.sI)) ?_
                  refine RlI (y87 (by omega) (hC.fr FL19).sI.sI.sI (hTk.fr (WL := W_cp) (Fr.sI (by decide) (Fr.sI (by decide) (Fr.sI (by decide) FL19))) (by decide)) ((sI_nej (by decide)).trans ((sI_nej (by decide)).trans ((sI_nej (by decide)).trans (q19_12)))) (sI_eq) ((sI_nej (by decide)).trans ((sI_nej (by decide)).trans (sI_eq))) ((sI_nej (by decide)).trans (sI_eq)) ((sI_nej (by decide)).trans ((sI_nej (by decide)).trans ((sI_nej (by decide)).trans (q19_9)))) ((sI_nej (by decide)).trans ((sI_nej (by decide)).trans ((sI_nej (by decide)).trans (q19_16)))) ((sI_nej (by decide)).trans ((sI_nej (by decide)).trans ((sI_nej (by decide)).trans (q19_19)))) (li_9) (li_0) (by omega)) fun v Ma35 h35 => ?_
                  obtain ⟨rv34, sz34, sn34, uc34, rfl, g35, e35_sz34, e35_sn34, e35_uc34, e35_k0, e35_k1, e35_k2, e35_k3, p35_0, p35_1, p35_2, p35_3⟩ := h35
                  have f35 : Fr W_cp Mc Ma35 := Fr.t (Fr.sI (by decide) (Fr.sI (by decide) (Fr.sI (by decide) FL19))) (Fr.m g35 (by decide))
                  refine rsl (cI_e rfl) ?_
                  refine rsr (vC_e (rk_160 (hR.fr FR19))) ?_
                  refine rsr (cI_e (a195_59_1 (by omega) hS (hR.fr FR19) (w19_36) (w19_37) (w19_41) (li_59) (by omega))) ?_
                  refine rsr (vC_e (rk_160 (hR.fr FR19).sI.sI)) ?_
                  refine RrI (x196_s (by omega) (hR.fr FR19).sI.sI ((sI_nej (by decide)).trans (sI_eq)) (sI_eq) ((sI_nej (by decide)).trans ((sI_nej (by decide)).trans (w19_43))) ((sI_nej (by decide)).trans ((sI_nej (by decide)).trans (w19_51))) ((sI_nej (by decide)).trans ((sI_nej (by decide)).trans (w19_53))) ((sI_nej (by decide)).trans ((sI_nej (by decide)).trans ((FR19.i _ _ (by decide)).trans h48))) ((sI_nej (by decide)).trans ((sI_nej (by decide)).trans ((FR19.i _ _ (by decide)).trans h49))) (li_9) (li_0) (by omega)) fun v Ma37 h37 => ?_
                  obtain ⟨rv36, em36, rfl, g37, e37_em36, e37_k0, e37_k1, e37_k2, e37_k3, e37_k4, p37_0, p37_1⟩ := h37
                  have f37 : Fr W_rp Mr Ma37 := Fr.t (Fr.sI (by decide) (Fr.sI (by decide) (Fr.m FR19 (by decide)))) (Fr.m g37 (by decide))
                  refine rsr (cI_e rfl) ?_
                  refine rsr (jv_e) ?_
                  exact Rs.ok (Or.inr ⟨1, ((pl i19)), f35, f37, ⟨i19, sz34, sn34, uc34, e35_k0, e35_k1, e35_k2, e35_k3, e35_sz34, e35_sn34, e35_uc34, by omega⟩, ⟨em36, s, u19, mu, ut, e37_k0, e37_k1, e37_em36, e37_k2, e37_k3, e37_k4, (g37.i _ _ (by decide)).trans ((sI_nej (by decide)).trans ((sI_nej (by decide)).trans ((FR19.i _ _ (by decide)).trans h49))), by omega⟩⟩)
                ·
                  refine rsl (cV_e (a64_2 (by omega) hS (hC.fr FL19) (hTk.fr (WL := W_cp) FL19 (by decide)) (q19_12) (q19_13) (q19_10) (li_59) (by omega))) ?_
                  refine rsl (vC_e (ck_65 (hC.fr FL19).sI.sI.sI)) ?_
                  refine RlI (y87 (by omega) (hC.fr FL19).sI.sI.sI (hTk.fr (WL := W_cp) (Fr.sI (by decide) (Fr.sI (by decide) (Fr.sI (by decide) FL19))) (by decide)) ((sI_nej (by decide)).trans ((sI_nej (by decide)).trans ((sI_nej (by decide)).trans (q19_12)))) (sI_eq) ((sI_nej (by decide)).trans ((sI_nej (by decide)).trans (sI_eq))) ((sI_nej (by decide)).trans (sI_eq)) ((sI_nej (by decide)).trans ((sI_nej (by decide)).trans ((sI_nej (by decide)).trans (q19_9)))) ((sI_nej (by decide)).trans ((sI_nej (by decide)).trans ((sI_nej (by decide)).trans (q19_16)))) ((sI_nej (by decide)).trans ((sI_nej (by decide)).trans ((sI_nej (by decide)).trans (q19_19)))) (li_9) (li_0) (by omega)) fun v Ma39 h39 => ?_
                  obtain ⟨rv38, sz38, sn38, uc38, rfl, g39, e39_sz38, e39_sn38, e39_uc38, e39_k0, e39_k1, e39_k2, e39_k3, p39_0, p39_1, p39_2, p39_3⟩ := h39
                  have f39 : Fr W_cp Mc Ma39 := Fr.t (Fr.sI (by decide) (Fr.sI (by decide) (Fr.sI (by decide) FL19))) (Fr.m g39 (by decide))
                  refine rsl (cI_e rfl) ?_
                  refine rsr (vC_e (rk_160 (hR.fr FR19))) ?_
                  refine rsr (cI_e (a195_59_2 (by omega) hS (hR.fr FR19) (w19_36) (w19_37) (w19_41) (li_59) (by omega))) ?_
                  refine rsr (vC_e (rk_160 (hR.fr FR19).sI.sI)) ?_
                  refine RrI (x196_s (by omega) (hR.fr FR19).sI.sI ((sI_nej (by decide)).trans (sI_eq)) (sI_eq) ((sI_nej (by decide)).trans ((sI_nej (by decide)).trans (w19_43))) ((sI_nej (by decide)).trans ((sI_nej (by decide)).trans (w19_51))) ((sI_nej (by decide)).trans ((sI_nej (by decide)).trans (w19_53))) ((sI_nej (by decide)).trans ((sI_nej (by decide)).trans ((FR19.i _ _ (by decide)).trans h48))) ((sI_nej (by decide)).trans ((sI_nej (by decide)).trans ((FR19.i _ _ (by decide)).trans h49))) (li_9) (li_0) (by omega)) fun v Ma41 h41 => ?_
                  obtain ⟨rv40, em40, rfl, g41, e41_em40, e41_k0, e41_k1, e41_k2, e41_k3, e41_k4, p41_0, p41_1⟩ := h41
                  have f41 : Fr W_rp Mr Ma41 := Fr.t (Fr.sI (by decide) (Fr.sI (by decide) (Fr.m FR19 (by decide)))) (Fr.m g41 (by decide))
                  refine rsr (cI_e rfl) ?_
                  refine rsr (jv_e) ?_
                  exact Rs.ok (Or.inr ⟨2, ((pl i19)), f39, f41, ⟨i19, sz38, sn38, uc38, e39_k0, e39_k1, e39_k2, e39_k3, e39_sz38, e39_sn38, e39_uc38, by omega⟩, ⟨em40, s, u19, mu, ut, e41_k0, e41_k1, e41_em40, e41_k2, e41_k3, e41_k4, (g41.i _ _ (by decide)).trans ((sI_nej (by decide)).trans ((sI_nej (by decide)).trans ((FR19.i _ _ (by decide)).trans h49))), by omega⟩⟩)
            ·
              have FL19 : Fr W_cp Mc Mx19 := Fr.t f13 fl19
              have FR19 : Fr W_rp Mr Nx19 := Fr.t (Fr.m f16 W_rx_p) fr19
              obtain ⟨ti19, tz19, tn19, tu19, t1319, t1019, t1119, t1219, t919, t1619, t1919, tb19⟩ := tc19
              obtain ⟨re19, rn19, ru19, rm19, rt19, u4119, u4219, u4319, u5119, u5319, u4819, u4919, ub19⟩ := tr19
              refine rsl (cV_e rfl) ?_
              refine rsr (cV_e rfl) ?_
              refine rsl (vC_e (ck_65 (hC.fr FL19))) ?_
              refine RlV (y64 (by omega) (hC.fr FL19) (hTk.fr (WL := W_cp) FL19 (by decide)) (t1219) (t1319) (t1019) (t1119) (t919) (t1619) (t1919) (li_59) (by omega)) fun v Ma43 h43 => ?_
              obtain ⟨sz42, sn42, uc42, g43, e43_sz42, e43_sn42, e43_uc42, e43_k0, e43_k1, e43_k2, e43_k3, p43_0, p43_1, p43_2⟩ := h43
              have f43 : Fr W_cp Mc Ma43 := Fr.t FL19 (Fr.m g43 (by decide))
              refine rsl (cV_e rfl) ?_
              refine rsl (vC_e (ck_65 (hC.fr f43))) ?_
              refine RlI (y87 (by omega) (hC.fr f43) (hTk.fr (WL := W_cp) f43 (by decide)) (e43_k3) (e43_k0) (e43_k1) (e43_k2) (e43_sz42) (e43_sn42) (e43_uc42) (li_9) (li_0) (by omega)) fun v Ma45 h45 => ?_
              obtain ⟨rv44, sz44, sn44, uc44, rfl, g45, e45_sz44, e45_sn44, e45_uc44, e45_k0, e45_k1, e45_k2, e45_k3, p45_0, p45_1, p45_2, p45_3⟩ := h45
              have f45 : Fr W_cp Mc Ma45 := Fr.t f43 (Fr.m g45 (by decide))
              refine rsl (cI_e rfl) ?_
              refine rsr (vC_e (rk_160 (hR.fr FR19))) ?_
              refine RrI (x195_s (by omega) (hR.fr FR19) (u4119) (u4219) (u4319) (u5119) (u5319) (u4819) (u4919) (li_59) (by omega)) fun v Ma47 h47 => ?_
              obtain ⟨rv46, em46, rfl, g47, e47_em46, e47_k0, e47_k1, e47_k2, e47_k3, e47_k4, p47_0, p47_1⟩ := h47
              have f47 : Fr W_rp Mr Ma47 := Fr.t FR19 (Fr.m g47 (by decide))
              refine rsr (cI_e rfl) ?_
              refine rsr (vC_e (rk_160 (hR.fr f47))) ?_
              refine RrI (x196_s (by omega) (hR.fr f47) (e47_k0) (e47_k1) (e47_em46) (e47_k2) (e47_k3) (e47_k4) ((g47.i _ _ (by decide)).trans (u4919)) (li_9) (li_0) (by omega)) fun v Ma49 h49 => ?_
              obtain ⟨rv48, em48, rfl, g49, e49_em48, e49_k0, e49_k1, e49_k2, e49_k3, e49_k4, p49_0, p49_1⟩ := h49
              have f49 : Fr W_rp Mr Ma49 := Fr.t f47 (Fr.m g49 (by decide))
              refine rsr (cI_e rfl) ?_
              refine rsr (jv_e) ?_
              exact Rs.ok (Or.inr ⟨F19, P19, f45, f49, ⟨ti19, sz44, sn44, uc44, e45_k0, e45_k1, e45_k2, e45_k3, e45_sz44, e45_sn44, e45_uc44, by omega⟩, ⟨em48, rn19, ru19, rm19, rt19, e49_k0, e49_k1, e49_em48, e49_k2, e49_k3, e49_k4, (g49.i _ _ (by decide)).trans ((g47.i _ _ (by decide)).trans (u4919)), by omega⟩⟩)
          ·
            refine RrI (a197 (by omega) (hR.fr f16) ((g16.i _ _ (by decide)).trans (wa_51)) (lra.fr g16 (by decide)) (by omega)) fun v Nl18 hl18 => ?_
            obtain ⟨r9, rfl, hMl, hr9⟩ := hl18
            rw [hMl]
            have q9 := LcF.one hr9 hrl
            rw [q9]
            refine rsr (cI_e rfl) ?_
            refine rsr (jv_e) ?_
            try dsimp only
            refine rsr (gtI_q (w := iI ((kr (kd (i + 3))))) (rk_160 (hR.fr f16)) (e16_k1)) ?_
            refine rsr (jn_v) ?_
            refine rsr (if_pos (krI_p (k := 40) (rfl) (li_40) (by omega) (by decide +kernel))) ?_
            refine rsr (vC_e (rk_160 (hR.fr f16))) ?_
            refine Rb_VV (hCl _ _ (by omega) (by omega) T n m kd pl E tx ua ut mu _ _ G (pu U u [uc, (V Mr 201 u.toNat), (V Mr 200 u.toNat), (pl i), (pl (i + 2)), (V Mr 206 u.toNat), ut, 0, (V Mc 79 uc.toNat), (V Mc 80 uc.toNat), (pl i)]) Hl (pux X u [(tx i), (tx (i + 2))]) (i + 3) e s (u + 1) (uc + 1) _ _ _ hS (hCx.fr f13 f16) ⟨e13_k0, e13_k2, e13_k3, (g13.i _ _ (by decide)).trans (qa_9), (g13.i _ _ (by decide)).trans (qa_16), e13_k1⟩ ⟨e16_k1, e16_k2, e16_k3, e16_k4, (g16.i _ _ (by decide)).trans (wa_43), (g16.i _ _ (by decide)).trans (wa_51), e16_k0, (g16.i _ _ (by decide)).trans (wa_50), p16_2⟩ ⟨(caa.fr g13 (by decide)), (raa.fr g16 (by decide)), (lca.fr g13 (by decide)), (lra.fr g16 (by decide)), (CU.add cua (by omega) (by omega) p13_1 rfl rfl), (RU.add rua (by omega) p16_1 rfl)⟩ ⟨by omega, by omega, by omega, by omega, by omega, by omega, by omega, by omega, by omega, by omega, by omega, by omega⟩ (x := uc) (by omega) (by omega) (pu_e (by omega)) (pu_e (by omega)) (Or.inr ((pu_e (by omega)).trans (pu_e (by omega)).symm)) (congrArg iI p13_0) (hv0) (cvI (congrArg iI p16_0) (by omega))) fun v Mx50 w Nx50 hx50 => ?_
            rcases hx50 with ⟨i50, e50, u50, uc50, G50, U50, X50, fl50, fr50, sc50, sr50, rw50, bd50, mv50, ag50, au50, ax50, tp50, dp50, kv50⟩ | ⟨F50, P50, fl50, fr50, tc50, tr50⟩
            ·
              have FL50 : Fr W_cp Mc Mx50 := Fr.t f13 fl50
              have FR50 : Fr W_rx Mr Nx50 := Fr.t f16 fr50
              obtain ⟨bb50_0, bb50_1, bb50_2, bb50_3, bb50_4, bb50_5, bb50_6, bb50_7, bb50_8, bb50_9, bb50_10, bb50_11⟩ := bd50
              obtain ⟨q50_12, q50_13, q50_10, q50_9, q50_16, q50_19⟩ := sc50
              obtain ⟨w50_36, w50_37, w50_38, w50_41, w50_43, w50_51, w50_53, w50_50, w50_n⟩ := sr50
              obtain ⟨ca50, ra50, lc50, lr50, cu50, ru50⟩ := rw50
              have hk51 := (hS.ok i50 (by omega) (by omega)).r
              have ku50 := KU.t (KU.us kua p13_1 g13 (by decide) (by omega)) kv50 (by omega)
              have ty52 := Tye.t (d3 := 1) ty2 ag50 tp50 (by omega)
              refine rsl (cV_e rfl) ?_
              refine rsr (cV_e rfl) ?_
              refine rsl (vC_e (ck_65 (hC.fr FL50))) ?_
              by_cases c53 : ((kd i50)) = 59
              ·
                have hm54 : i50 + 1 < m := hS.more i50 (by omega) (by omega) (by omega)
                refine rsl (cV_e (a64q (by omega) hS (hC.fr FL50) (hTk.fr (WL := W_cp) FL50 (by decide)) (q50_12) (q50_13) (q50_10) (li_59) (i2 := (i50 + 1)) (by omega) (by omega))) ?_
                have hk55 := (hS.ok (i50 + 1) (by omega) (by omega)).r
                refine rsl (vC_e (ck_65 (hC.fr FL50).sI.sI)) ?_
                have tb57 := Tyb.ex (dp := dp) (d := 1) (s' := s) (q := (e50 + 1)) (n1 := 0) (ut := ut) (mu := mu) (l := []) ty52 (Or.inr (Or.inr (Or.inr (Or.inl (by omega)))) : Eff 9 0 0 1 s 0 s) (by omega) ⟨by omega, by omega⟩ (by omega)
                have du58 := DU.em (q := (e50 + 1)) (o := 9) (n := 0) (p := -2) (l := [0]) dp50 (by omega) (by omega)
                refine RlI (a87 (by omega) (hC.fr FL50).sI.sI ((sI_nej (by decide)).trans ((sI_nej (by decide)).trans (q50_9))) (li_9) (li_0) (by omega)) fun v Ma59 h59 => ?_
                obtain ⟨r56, rfl, g59, e59_k0, p59_0, p59_1⟩ := h59
                have f59 : Fr W_cp Mc Ma59 := Fr.t (Fr.sI (by decide) (Fr.sI (by decide) FL50)) (Fr.m g59 (by decide))
                refine rsl (cI_e rfl) ?_
                refine rsr (vC_e (rk_160 (hR.fr FR50))) ?_
                refine RrI (a195_59 (by omega) hS (hR.fr FR50) (hT.fr (W := W_rx) FR50 (by decide) (by decide)) (fun i a b => (Fr.lc (W := W_rx) FR50 _ (by decide) _).trans (hW i a b)) (w50_36) (w50_37) (w50_38) (w50_41) (li_59) (i2 := (i50 + 1)) (by omega) (by omega)) fun v Ma61 h61 => ?_
                obtain ⟨r60, rfl, g61, e61_k0, e61_k1, e61_k2, p61_0, p61_1⟩ := h61
                have f61 : Fr W_rx Mr Ma61 := Fr.t FR50 (Fr.m g61 (by decide))
                refine rsr (cI_e rfl) ?_
                refine rsr (vC_e (rk_160 (hR.fr f61))) ?_
                refine RrI (a196 (by omega) (hR.fr f61) ((g61.i _ _ (by decide)).trans (w50_43)) ((g61.i _ _ (by decide)).trans ((FR50.i _ _ (by decide)).trans h49)) ((g61.i _ _ (by decide)).trans ((FR50.i _ _ (by decide)).trans h48)) (li_9) (li_0) (by omega)) fun v Ma63 h63 => ?_
                obtain ⟨r62, rfl, g63, e63_k0, p63_0, p63_1⟩ := h63
                have f63 : Fr W_rx Mr Ma63 := Fr.t f61 (Fr.m g63 (by decide))
                refine rsr (cI_e rfl) ?_
                refine rsr (jv_e) ?_
                exact Rs.ok (Or.inl ⟨(i50 + 1), s, Hl, ⟨(e50 + 1), u50, uc50, (pu G50 e50 [9, 0, -2, 0, ut, mu, 0]), U50, X50, f59, f63, ⟨(g59.i _ _ (by decide)).trans ((sI_nej (by decide)).trans (sI_eq)), (g59.i _ _ (by decide)).trans (sI_eq), (g59.i _ _ (by decide)).trans ((sI_nej (by decide)).trans ((sI_nej (by decide)).trans (q50_10))), e59_k0, (g59.i _ _ (by decide)).trans ((sI_nej (by decide)).trans ((sI_nej (by decide)).trans (q50_16))), (g59.i _ _ (by decide)).trans ((sI_nej (by decide)).trans ((sI_nej (by decide)).trans (q50_19)))⟩, ⟨(g63.i _ _ (by decide)).trans (e61_k0), (g63.i _ _ (by decide)).trans (e61_k1), (g63.i _ _ (by decide)).trans (e61_k2), (g63.i _ _ (by decide)).trans ((g61.i _ _ (by decide)).trans (w50_41)), e63_k0, (g63.i _ _ (by decide)).trans ((g61.i _ _ (by decide)).trans (w50_51)), (g63.i _ _ (by decide)).trans ((g61.i _ _ (by decide)).trans (w50_53)), (g63.i _ _ (by decide)).trans ((g61.i _ _ (by decide)).trans (w50_50)), (p61_1.fr g63 (by decide) (by decide))⟩, ⟨(CA1.em (ca50.fr (W := W_c0) (Fr.sI (by decide) (Fr.sI (by decide) Fr.r)) (by decide)) (by omega) p59_1 rfl), (RA1.em (ra50.fr g61 (by decide)) (by omega) p63_1 rfl), ((lc50.fr (W := W_c0) (Fr.sI (by decide) (Fr.sI (by decide) Fr.r)) (by decide)).fr g59 (by decide)), ((lr50.fr g61 (by decide)).fr g63 (by decide)), ((cu50.fr (W := W_c0) (Fr.sI (by decide) (Fr.sI (by decide) Fr.r)) (by decide)).fr g59 (by decide)), ((ru50.fr g61 (by decide)).fr g63 (by decide))⟩, ⟨by omega, by omega, by omega, by omega, by omega, by omega, by omega, by omega, by omega, by omega, by omega, by omega⟩, ⟨by omega, by omega, by omega, by omega, by omega, by omega⟩, (Ag.pu (Ag.t Ag.r ag50 (by omega)) (by omega)), (Ag.t (Ag.pu Ag.r (by omega)) au50 (by omega)), (AgL.t (AgL.pu AgL.r (by omega)) ax50 (by omega)), tb57, du58, ((ku50.fr (W := W_c0) (Fr.sI (by decide) (Fr.sI (by decide) Fr.r)) (by decide)).fr g59 (by decide)), ⟨by omega, fun _ _ _ => rfl⟩⟩⟩)
              ·
                by_cases c64 : ((kd i50)) = 1
                ·
                  refine rsl (cV_e (a64_1 (by omega) hS (hC.fr FL50) (hTk.fr (WL := W_cp) FL50 (by decide)) (q50_12) (q50_13) (q50_10) (li_59) (by omega))) ?_
                  refine rsl (vC_e (ck_65 (hC.fr FL50).sI.sI.sI)) ?_
                  refine RlI (y87 (by omega) (hC.fr FL50).sI.sI.sI (hTk.fr (WL := W_cp) (Fr.sI (by decide) (Fr.sI (by decide) (Fr.sI (by decide) FL50))) (by decide)) ((sI_nej (by decide)).trans ((sI_nej (by decide)).trans ((sI_nej (by decide)).trans (q50_12)))) (sI_eq) ((sI_nej (by decide)).trans ((sI_nej (by decide)).trans (sI_eq))) ((sI_nej (by decide)).trans (sI_eq)) ((sI_nej (by decide)).trans ((sI_nej (by decide)).trans ((sI_nej (by decide)).trans (q50_9)))) ((sI_nej (by decide)).trans ((sI_nej (by decide)).trans ((sI_nej (by decide)).trans (q50_16)))) ((sI_nej (by decide)).trans ((sI_nej (by decide)).trans ((sI_nej (by decide)).trans (q50_19)))) (li_9) (li_0) (by omega)) fun v Ma66 h66 => ?_
                  obtain ⟨rv65, sz65, sn65, uc65, rfl, g66, e66_sz65, e66_sn65, e66_uc65, e66_k0, e66_k1, e66_k2, e66_k3, p66_0, p66_1, p66_2, p66_3⟩ := h66
                  have f66 : Fr W_cp Mc Ma66 := Fr.t (Fr.sI (by decide) (Fr.sI (by decide) (Fr.sI (by decide) FL50))) (Fr.m g66 (by decide))
                  refine rsl (cI_e rfl) ?_
                  refine rsr (vC_e (rk_160 (hR.fr FR50))) ?_
                  refine rsr (cI_e (a195_59_1 (by omega) hS (hR.fr FR50) (w50_36) (w50_37) (w50_41) (li_59) (by omega))) ?_
                  refine rsr (vC_e (rk_160 (hR.fr FR50).sI.sI)) ?_
                  refine RrI (x196_s (by omega) (hR.fr FR50).sI.sI ((sI_nej (by decide)).trans (sI_eq)) (sI_eq) ((sI_nej (by decide)).trans ((sI_nej (by decide)).trans (w50_43))) ((sI_nej (by decide)).trans ((sI_nej (by decide)).trans (w50_51))) ((sI_nej (by decide)).trans ((sI_nej (by decide)).trans (w50_53))) ((sI_nej (by decide)).trans ((sI_nej (by decide)).trans ((FR50.i _ _ (by decide)).trans h48))) ((sI_nej (by decide)).trans ((sI_nej (by decide)).trans ((FR50.i _ _ (by decide)).trans h49))) (li_9) (li_0) (by omega)) fun v Ma68 h68 => ?_
                  obtain ⟨rv67, em67, rfl, g68, e68_em67, e68_k0, e68_k1, e68_k2, e68_k3, e68_k4, p68_0, p68_1⟩ := h68
                  have f68 : Fr W_rp Mr Ma68 := Fr.t (Fr.sI (by decide) (Fr.sI (by decide) (Fr.m FR50 (by decide)))) (Fr.m g68 (by decide))
                  refine rsr (cI_e rfl) ?_
                  refine rsr (jv_e) ?_
                  exact Rs.ok (Or.inr ⟨1, ((pl i50)), f66, f68, ⟨i50, sz65, sn65, uc65, e66_k0, e66_k1, e66_k2, e66_k3, e66_sz65, e66_sn65, e66_uc65, by omega⟩, ⟨em67, s, u50, mu, ut, e68_k0, e68_k1, e68_em67, e68_k2, e68_k3, e68_k4, (g68.i _ _ (by decide)).trans ((sI_nej (by decide)).trans ((sI_nej (by decide)).trans ((FR50.i _ _ (by decide)).trans h49))), by omega⟩⟩)
                ·
                  refine rsl (cV_e (a64_2 (by omega) hS (hC.fr FL50) (hTk.fr (WL := W_cp) FL50 (by decide)) (q50_12) (q50_13) (q50_10) (li_59) (by omega))) ?_
                  refine rsl (vC_e (ck_65 (hC.fr FL50).sI.sI.sI)) ?_
                  refine RlI (y87 (by omega) (hC.fr FL50).sI.sI.sI (hTk.fr (WL := W_cp) (Fr.sI (by decide) (Fr.sI (by decide) (Fr.sI (by decide) FL50))) (by decide)) ((sI_nej (by decide)).trans ((sI_nej (by decide)).trans ((sI_nej (by decide)).trans (q50_12)))) (sI_eq) ((sI_nej (by decide)).trans ((sI_nej (by decide)).trans (sI_eq))) ((sI_nej (by decide)).trans (sI_eq)) ((sI_nej (by decide)).trans ((sI_nej (by decide)).trans ((sI_nej (by decide)).trans (q50_9)))) ((sI_nej (by decide)).trans ((sI_nej (by decide)).trans ((sI_nej (by decide)).trans (q50_16)))) ((sI_nej (by decide)).trans ((sI_nej (by decide)).trans ((sI_nej (by decide)).trans (q50_19)))) (li_9) (li_0) (by omega)) fun v Ma70 h70 => ?_
                  obtain ⟨rv69, sz69, sn69, uc69, rfl, g70, e70_sz69, e70_sn69, e70_uc69, e70_k0, e70_k1, e70_k2, e70_k3, p70_0, p70_1, p70_2, p70_3⟩ := h70
                  have f70 : Fr W_cp Mc Ma70 := Fr.t (Fr.sI (by decide) (Fr.sI (by decide) (Fr.sI (by decide) FL50))) (Fr.m g70 (by decide))
                  refine rsl (cI_e rfl) ?_
                  refine rsr (vC_e (rk_160 (hR.fr FR50))) ?_
                  refine rsr (cI_e (a195_59_2 (by omega) hS (hR.fr FR50) (w50_36) (w50_37) (w50_41) (li_59) (by omega))) ?_
                  refine rsr (vC_e (rk_160 (hR.fr FR50).sI.sI)) ?_
                  refine RrI (x196_s (by omega) (hR.fr FR50).sI.sI ((sI_nej (by decide)).trans (sI_eq)) (sI_eq) ((sI_nej (by decide)).trans ((sI_nej (by decide)).trans (w50_43))) ((sI_nej (by decide)).trans ((sI_nej (by decide)).trans (w50_51))) ((sI_nej (by decide)).trans ((sI_nej (by decide)).trans (w50_53))) ((sI_nej (by decide)).trans ((sI_nej (by decide)).trans ((FR50.i _ _ (by decide)).trans h48))) ((sI_nej (by decide)).trans ((sI_nej (by decide)).trans ((FR50.i _ _ (by decide)).trans h49))) (li_9) (li_0) (by omega)) fun v Ma72 h72 => ?_
                  obtain ⟨rv71, em71, rfl, g72, e72_em71, e72_k0, e72_k1, e72_k2, e72_k3, e72_k4, p72_0, p72_1⟩ := h72
                  have f72 : Fr W_rp Mr Ma72 := Fr.t (Fr.sI (by decide) (Fr.sI (by decide) (Fr.m FR50 (by decide)))) (Fr.m g72 (by decide))
                  refine rsr (cI_e rfl) ?_
                  refine rsr (jv_e) ?_
                  exact Rs.ok (Or.inr ⟨2, ((pl i50)), f70, f72, ⟨i50, sz69, sn69, uc69, e70_k0, e70_k1, e70_k2, e70_k3, e70_sz69, e70_sn69, e70_uc69, by omega⟩, ⟨em71, s, u50, mu, ut, e72_k0, e72_k1, e72_em71, e72_k2, e72_k3, e72_k4, (g72.i _ _ (by decide)).trans ((sI_nej (by decide)).trans ((sI_nej (by decide)).trans ((FR50.i _ _ (by decide)).trans h49))), by omega⟩⟩)
            ·
              have FL50 : Fr W_cp Mc Mx50 := Fr.t f13 fl50
              have FR50 : Fr W_rp Mr Nx50 := Fr.t (Fr.m f16 W_rx_p) fr50
              obtain ⟨ti50, tz50, tn50, tu50, t1350, t1050, t1150, t1250, t950, t1650, t1950, tb50⟩ := tc50
              obtain ⟨re50, rn50, ru50, rm50, rt50, u4150, u4250, u4350, u5150, u5350, u4850, u4950, ub50⟩ := tr50
              refine rsl (cV_e rfl) ?_
              refine rsr (cV_e rfl) ?_
              refine rsl (vC_e (ck_65 (hC.fr FL50))) ?_
              refine RlV (y64 (by omega) (hC.fr FL50) (hTk.fr (WL := W_cp) FL50 (by decide)) (t1250) (t1350) (t1050) (t1150) (t950) (t1650) (t1950) (li_59) (by omega)) fun v Ma74 h74 => ?_
              obtain ⟨sz73, sn73, uc73, g74, e74_sz73, e74_sn73, e74_uc73, e74_k0, e74_k1, e74_k2, e74_k3, p74_0, p74_1, p74_2⟩ := h74
              have f74 : Fr W_cp Mc Ma74 := Fr.t FL50 (Fr.m g74 (by decide))
              refine rsl (cV_e rfl) ?_
              refine rsl (vC_e (ck_65 (hC.fr f74))) ?_
              refine RlI (y87 (by omega) (hC.fr f74) (hTk.fr (WL := W_cp) f74 (by decide)) (e74_k3) (e74_k0) (e74_k1) (e74_k2) (e74_sz73) (e74_sn73) (e74_uc73) (li_9) (li_0) (by omega)) fun v Ma76 h76 => ?_
              obtain ⟨rv75, sz75, sn75, uc75, rfl, g76, e76_sz75, e76_sn75, e76_uc75, e76_k0, e76_k1, e76_k2, e76_k3, p76_0, p76_1, p76_2, p76_3⟩ := h76
              have f76 : Fr W_cp Mc Ma76 := Fr.t f74 (Fr.m g76 (by decide))
              refine rsl (cI_e rfl) ?_
              refine rsr (vC_e (rk_160 (hR.fr FR50))) ?_
              refine RrI (x195_s (by omega) (hR.fr FR50) (u4150) (u4250) (u4350) (u5150) (u5350) (u4850) (u4950) (li_59) (by omega)) fun v Ma78 h78 => ?_
              obtain ⟨rv77, em77, rfl, g78, e78_em77, e78_k0, e78_k1, e78_k2, e78_k3, e78_k4, p78_0, p78_1⟩ := h78
              have f78 : Fr W_rp Mr Ma78 := Fr.t FR50 (Fr.m g78 (by decide))
              refine rsr (cI_e rfl) ?_
              refine rsr (vC_e (rk_160 (hR.fr f78))) ?_
              refine RrI (x196_s (by omega) (hR.fr f78) (e78_k0) (e78_k1) (e78_em77) (e78_k2) (e78_k3) (e78_k4) ((g78.i _ _ (by decide)).trans (u4950)) (li_9) (li_0) (by omega)) fun v Ma80 h80 => ?_
              obtain ⟨rv79, em79, rfl, g80, e80_em79, e80_k0, e80_k1, e80_k2, e80_k3, e80_k4, p80_0, p80_1⟩ := h80
              have f80 : Fr W_rp Mr Ma80 := Fr.t f78 (Fr.m g80 (by decide))
              refine rsr (cI_e rfl) ?_
              refine rsr (jv_e) ?_
              exact Rs.ok (Or.inr ⟨F50, P50, f76, f80, ⟨ti50, sz75, sn75, uc75, e76_k0, e76_k1, e76_k2, e76_k3, e76_sz75, e76_sn75, e76_uc75, by omega⟩, ⟨em79, rn50, ru50, rm50, rt50, e80_k0, e80_k1, e80_em79, e80_k2, e80_k3, e80_k4, (g80.i _ _ (by decide)).trans ((g78.i _ _ (by decide)).trans (u4950)), by omega⟩⟩)
        ·
          refine rsr (if_neg (lgc_n (rfl) (rfl) c17)) ?_
          refine rsr (jv_e) ?_
          try dsimp only
          refine rsr (gtI_q (w := iI ((kr (kd (i + 3))))) (rk_160 (hR.fr f16)) (e16_k1)) ?_
          refine rsr (jn_v) ?_
          refine rsr (if_pos (krI_p (k := 40) (rfl) (li_40) (by omega) (by decide +kernel))) ?_
          refine rsr (vC_e (rk_160 (hR.fr f16))) ?_
          refine Rb_VV (hCl _ _ (by omega) (by omega) T n m kd pl E tx ua ut mu _ _ G (pu U u [uc, (V Mr 201 u.toNat), (V Mr 200 u.toNat), (pl i), (pl (i + 2)), (V Mr 206 u.toNat), ut, 0, (V Mc 79 uc.toNat), (V Mc 80 uc.toNat), (pl i)]) Hl (pux X u [(tx i), (tx (i + 2))]) (i + 3) e s (u + 1) (uc + 1) _ _ _ hS (hCx.fr f13 f16) ⟨e13_k0, e13_k2, e13_k3, (g13.i _ _ (by decide)).trans (qa_9), (g13.i _ _ (by decide)).trans (qa_16), e13_k1⟩ ⟨e16_k1, e16_k2, e16_k3, e16_k4, (g16.i _ _ (by decide)).trans (wa_43), (g16.i _ _ (by decide)).trans (wa_51), e16_k0, (g16.i _ _ (by decide)).trans (wa_50), p16_2⟩ ⟨(caa.fr g13 (by decide)), (raa.fr g16 (by decide)), (lca.fr g13 (by decide)), (lra.fr g16 (by decide)), (CU.add cua (by omega) (by omega) p13_1 rfl rfl), (RU.add rua (by omega) p16_1 rfl)⟩ ⟨by omega, by omega, by omega, by omega, by omega, by omega, by omega, by omega, by omega, by omega, by omega, by omega⟩ (x := uc) (by omega) (by omega) (pu_e (by omega)) (pu_e (by omega)) (Or.inr ((pu_e (by omega)).trans (pu_e (by omega)).symm)) (congrArg iI p13_0) (hv0) (cvI (congrArg iI p16_0) (by omega))) fun v Mx81 w Nx81 hx81 => ?_
          rcases hx81 with ⟨i81, e81, u81, uc81, G81, U81, X81, fl81, fr81, sc81, sr81, rw81, bd81, mv81, ag81, au81, ax81, tp81, dp81, kv81⟩ | ⟨F81, P81, fl81, fr81, tc81, tr81⟩
          ·
            have FL81 : Fr W_cp Mc Mx81 := Fr.t f13 fl81
            have FR81 : Fr W_rx Mr Nx81 := Fr.t f16 fr81
            obtain ⟨bb81_0, bb81_1, bb81_2, bb81_3, bb81_4, bb81_5, bb81_6, bb81_7, bb81_8, bb81_9, bb81_10, bb81_11⟩ := bd81
            obtain ⟨q81_12, q81_13, q81_10, q81_9, q81_16, q81_19⟩ := sc81
            obtain ⟨w81_36, w81_37, w81_38, w81_41, w81_43, w81_51, w81_53, w81_50, w81_n⟩ := sr81
            obtain ⟨ca81, ra81, lc81, lr81, cu81, ru81⟩ := rw81
            have hk82 := (hS.ok i81 (by omega) (by omega)).r
            have ku81 := KU.t (KU.us kua p13_1 g13 (by decide) (by omega)) kv81 (by omega)
            have ty83 := Tye.t (d3 := 1) ty2 ag81 tp81 (by omega)
            refine rsl (cV_e rfl) ?_
            refine rsr (cV_e rfl) ?_
            refine rsl (vC_e (ck_65 (hC.fr FL81))) ?_
            by_cases c84 : ((kd i81)) = 59
            ·
              have hm85 : i81 + 1 < m := hS.more i81 (by omega) (by omega) (by omega)
              refine rsl (cV_e (a64q (by omega) hS (hC.fr FL81) (hTk.fr (WL := W_cp) FL81 (by decide)) (q81_12) (q81_13) (q81_10) (li_59) (i2 := (i81 + 1)) (by omega) (by omega))) ?_
              have hk86 := (hS.ok (i81 + 1) (by omega) (by omega)).r
              refine rsl (vC_e (ck_65 (hC.fr FL81).sI.sI)) ?_
              have tb88 := Tyb.ex (dp := dp) (d := 1) (s' := s) (q := (e81 + 1)) (n1 := 0) (ut := ut) (mu := mu) (l := []) ty83 (Or.inr (Or.inr (Or.inr (Or.inl (by omega)))) : Eff 9 0 0 1 s 0 s) (by omega) ⟨by omega, by omega⟩ (by omega)
              have du89 := DU.em (q := (e81 + 1)) (o := 9) (n := 0) (p := -2) (l := [0]) dp81 (by omega) (by omega)
              refine RlI (a87 (by omega) (hC.fr FL81).sI.sI ((sI_nej (by decide)).trans ((sI_nej (by decide)).trans (q81_9))) (li_9) (li_0) (by omega)) fun v Ma90 h90 => ?_
              obtain ⟨r87, rfl, g90, e90_k0, p90_0, p90_1⟩ := h90
              have f90 : Fr W_cp Mc Ma90 := Fr.t (Fr.sI (by decide) (Fr.sI (by decide) FL81)) (Fr.m g90 (by decide))
              refine rsl (cI_e rfl) ?_
              refine rsr (vC_e (rk_160 (hR.fr FR81))) ?_
              refine RrI (a195_59 (by omega) hS (hR.fr FR81) (hT.fr (W := W_rx) FR81 (by decide) (by decide)) (fun i a b => (Fr.lc (W := W_rx) FR81 _ (by decide) _).trans (hW i a b)) (w81_36) (w81_37) (w81_38) (w81_41) (li_59) (i2 := (i81 + 1)) (by omega) (by omega)) fun v Ma92 h92 => ?_
              obtain ⟨r91, rfl, g92, e92_k0, e92_k1, e92_k2, p92_0, p92_1⟩ := h92
              have f92 : Fr W_rx Mr Ma92 := Fr.t FR81 (Fr.m g92 (by decide))
              refine rsr (cI_e rfl) ?_
              refine rsr (vC_e (rk_160 (hR.fr f92))) ?_
              refine RrI (a196 (by omega) (hR.fr f92) ((g92.i _ _ (by decide)).trans (w81_43)) ((g92.i _ _ (by decide)).trans ((FR81.i _ _ (by decide)).trans h49)) ((g92.i _ _ (by decide)).trans ((FR81.i _ _ (by decide)).trans h48)) (li_9) (li_0) (by omega)) fun v Ma94 h94 => ?_
              obtain ⟨r93, rfl, g94, e94_k0, p94_0, p94_1⟩ := h94
              have f94 : Fr W_rx Mr Ma94 := Fr.t f92 (Fr.m g94 (by decide))
              refine rsr (cI_e rfl) ?_
              refine rsr (jv_e) ?_
              exact Rs.ok (Or.inl ⟨(i81 + 1), s, Hl, ⟨(e81 + 1), u81, uc81, (pu G81 e81 [9, 0, -2, 0, ut, mu, 0]), U81, X81, f90, f94, ⟨(g90.i _ _ (by decide)).trans ((sI_nej (by decide)).trans (sI_eq)), (g90.i _ _ (by decide)).trans (sI_eq), (g90.i _ _ (by decide)).trans ((sI_nej (by decide)).trans ((sI_nej (by decide)).trans (q81_10))), e90_k0, (g90.i _ _ (by decide)).trans ((sI_nej (by decide)).trans ((sI_nej (by decide)).trans (q81_16))), (g90.i _ _ (by decide)).trans ((sI_nej (by decide)).trans ((sI_nej (by decide)).trans (q81_19)))⟩, ⟨(g94.i _ _ (by decide)).trans (e92_k0), (g94.i _ _ (by decide)).trans (e92_k1), (g94.i _ _ (by decide)).trans (e92_k2), (g94.i _ _ (by decide)).trans ((g92.i _ _ (by decide)).trans (w81_41)), e94_k0, (g94.i _ _ (by decide)).trans ((g92.i _ _ (by decide)).trans (w81_51)), (g94.i _ _ (by decide)).trans ((g92.i _ _ (by decide)).trans (w81_53)), (g94.i _ _ (by decide)).trans ((g92.i _ _ (by decide)).trans (w81_50)), (p92_1.fr g94 (by decide) (by decide))⟩, ⟨(CA1.em (ca81.fr (W := W_c0) (Fr.sI (by decide) (Fr.sI (by decide) Fr.r)) (by decide)) (by omega) p90_1 rfl), (RA1.em (ra81.fr g92 (by decide)) (by omega) p94_1 rfl), ((lc81.fr (W := W_c0) (Fr.sI (by decide) (Fr.sI (by decide) Fr.r)) (by decide)).fr g90 (by decide)), ((lr81.fr g92 (by decide)).fr g94 (by decide)), ((cu81.fr (W := W_c0) (Fr.sI (by decide) (Fr.sI (by decide) Fr.r)) (by decide)).fr g90 (by decide)), ((ru81.fr g92 (by decide)).fr g94 (by decide))⟩, ⟨by omega, by omega, by omega, by omega, by omega, by omega, by omega, by omega, by omega, by omega, by omega, by omega⟩, ⟨by omega, by omega, by omega, by omega, by omega, by omega⟩, (Ag.pu (Ag.t Ag.r ag81 (by omega)) (by omega)), (Ag.t (Ag.pu Ag.r (by omega)) au81 (by omega)), (AgL.t (AgL.pu AgL.r (by omega)) ax81 (by omega)), tb88, du89, ((ku81.fr (W := W_c0) (Fr.sI (by decide) (Fr.sI (by decide) Fr.r)) (by decide)).fr g90 (by decide)), ⟨by omega, fun _ _ _ => rfl⟩⟩⟩)
            ·
              by_cases c95 : ((kd i81)) = 1
              ·
                refine rsl (cV_e (a64_1 (by omega) hS (hC.fr FL81) (hTk.fr (WL := W_cp) FL81 (by decide)) (q81_12) (q81_13) (q81_10) (li_59) (by omega))) ?_
                refine rsl (vC_e (ck_65 (hC.fr FL81).sI.sI.sI)) ?_
                refine RlI (y87 (by omega) (hC.fr FL81).sI.sI.sI (hTk.fr (WL := W_cp) (Fr.sI (by decide) (Fr.sI (by decide) (Fr.sI (by decide) FL81))) (by decide)) ((sI_nej (by decide)).trans ((sI_nej (by decide)).trans ((sI_nej (by decide)).trans (q81_12)))) (sI_eq) ((sI_nej (by decide)).trans ((sI_nej (by decide)).trans (sI_eq))) ((sI_nej (by decide)).trans (sI_eq)) ((sI_nej (by decide)).trans ((sI_nej (by decide)).trans ((sI_nej (by decide)).trans (q81_9)))) ((sI_nej (by decide)).trans ((sI_nej (by decide)).trans ((sI_nej (by decide)).trans (q81_16)))) ((sI_nej (by decide)).trans ((sI_nej (by decide)).trans ((sI_nej (by decide)).trans (q81_19)))) (li_9) (li_0) (by omega)) fun v Ma97 h97 => ?_
                obtain ⟨rv96, sz96, sn96, uc96, rfl, g97, e97_sz96, e97_sn96, e97_uc96, e97_k0, e97_k1, e97_k2, e97_k3, p97_0, p97_1, p97_2, p97_3⟩ := h97
                have f97 : Fr W_cp Mc Ma97 := Fr.t (Fr.sI (by decide) (Fr.sI (by decide) (Fr.sI (by decide) FL81))) (Fr.m g97 (by decide))
                refine rsl (cI_e rfl) ?_
                refine rsr (vC_e (rk_160 (hR.fr FR81))) ?_
                refine rsr (cI_e (a195_59_1 (by omega) hS (hR.fr FR81) (w81_36) (w81_37) (w81_41) (li_59) (by omega))) ?_
                refine rsr (vC_e (rk_160 (hR.fr FR81).sI.sI)) ?_
                refine RrI (x196_s (by omega) (hR.fr FR81).sI.sI ((sI_nej (by decide)).trans (sI_eq)) (sI_eq) ((sI_nej (by decide)).trans ((sI_nej (by decide)).trans (w81_43))) ((sI_nej (by decide)).trans ((sI_nej (by decide)).trans (w81_51))) ((sI_nej (by decide)).trans ((sI_nej (by decide)).trans (w81_53))) ((sI_nej (by decide)).trans ((sI_nej (by decide)).trans ((FR81.i _ _ (by decide)).trans h48))) ((sI_nej (by decide)).trans ((sI_nej (by decide)).trans ((FR81.i _ _ (by decide)).trans h49))) (li_9) (li_0) (by omega)) fun v Ma99 h99 => ?_
                obtain ⟨rv98, em98, rfl, g99, e99_em98, e99_k0, e99_k1, e99_k2, e99_k3, e99_k4, p99_0, p99_1⟩ := h99
                have f99 : Fr W_rp Mr Ma99 := Fr.t (Fr.sI (by decide) (Fr.sI (by decide) (Fr.m FR81 (by decide)))) (Fr.m g99 (by decide))
                refine rsr (cI_e rfl) ?_
                refine rsr (jv_e) ?_
                exact Rs.ok (Or.inr ⟨1, ((pl i81)), f97, f99, ⟨i81, sz96, sn96, uc96, e97_k0, e97_k1, e97_k2, e97_k3, e97_sz96, e97_sn96, e97_uc96, by omega⟩, ⟨em98, s, u81, mu, ut, e99_k0, e99_k1, e99_em98, e99_k2, e99_k3, e99_k4, (g99.i _ _ (by decide)).trans ((sI_nej (by decide)).trans ((sI_nej (by decide)).trans ((FR81.i _ _ (by decide)).trans h49))), by omega⟩⟩)
              ·
                refine rsl (cV_e (a64_2 (by omega) hS (hC.fr FL81) (hTk.fr (WL := W_cp) FL81 (by decide)) (q81_12) (q81_13) (q81_10) (li_59) (by omega))) ?_
                refine rsl (vC_e (ck_65 (hC.fr FL81).sI.sI.sI)) ?_
                refine RlI (y87 (by omega) (hC.fr FL81).sI.sI.sI (hTk.fr (WL := W_cp) (Fr.sI (by decide) (Fr.sI (by decide) (Fr.sI (by decide) FL81))) (by decide)) ((sI_nej (by decide)).trans ((sI_nej (by decide)).trans ((sI_nej (by decide)).trans (q81_12)))) (sI_eq) ((sI_nej (by decide)).trans ((sI_nej (by decide)).trans (sI_eq))) ((sI_nej (by decide)).trans (sI_eq)) ((sI_nej (by decide)).trans ((sI_nej (by decide)).trans ((sI_nej (by decide)).trans (q81_9)))) ((sI_nej (by decide)).trans ((sI_nej (by decide)).trans ((sI_nej (by decide)).trans (q81_16)))) ((sI_nej (by decide)).trans ((sI_nej (by decide)).trans ((sI_nej (by decide)).trans (q81_19)))) (li_9) (li_0) (by omega)) fun v Ma101 h101 => ?_
                obtain ⟨rv100, sz100, sn100, uc100, rfl, g101, e101_sz100, e101_sn100, e101_uc100, e101_k0, e101_k1, e101_k2, e101_k3, p101_0, p101_1, p101_2, p101_3⟩ := h101
                have f101 : Fr W_cp Mc Ma101 := Fr.t (Fr.sI (by decide) (Fr.sI (by decide) (Fr.sI (by decide) FL81))) (Fr.m g101 (by decide))
                refine rsl (cI_e rfl) ?_
                refine rsr (vC_e (rk_160 (hR.fr FR81))) ?_
                refine rsr (cI_e (a195_59_2 (by omega) hS (hR.fr FR81) (w81_36) (w81_37) (w81_41) (li_59) (by omega))) ?_
                refine rsr (vC_e (rk_160 (hR.fr FR81).sI.sI)) ?_
                refine RrI (x196_s (by omega) (hR.fr FR81).sI.sI ((sI_nej (by decide)).trans (sI_eq)) (sI_eq) ((sI_nej (by decide)).trans ((sI_nej (by decide)).trans (w81_43))) ((sI_nej (by decide)).trans ((sI_nej (by decide)).trans (w81_51))) ((sI_nej (by decide)).trans ((sI_nej (by decide)).trans (w81_53))) ((sI_nej (by decide)).trans ((sI_nej (by decide)).trans ((FR81.i _ _ (by decide)).trans h48))) ((sI_nej (by decide)).trans ((sI_nej (by decide)).trans ((FR81.i _ _ (by decide)).trans h49))) (li_9) (li_0) (by omega)) fun v Ma103 h103 => ?_
                obtain ⟨rv102, em102, rfl, g103, e103_em102, e103_k0, e103_k1, e103_k2, e103_k3, e103_k4, p103_0, p103_1⟩ := h103
                have f103 : Fr W_rp Mr Ma103 := Fr.t (Fr.sI (by decide) (Fr.sI (by decide) (Fr.m FR81 (by decide)))) (Fr.m g103 (by decide))
                refine rsr (cI_e rfl) ?_
                refine rsr (jv_e) ?_
                exact Rs.ok (Or.inr ⟨2, ((pl i81)), f101, f103, ⟨i81, sz100, sn100, uc100, e101_k0, e101_k1, e101_k2, e101_k3, e101_sz100, e101_sn100, e101_uc100, by omega⟩, ⟨em102, s, u81, mu, ut, e103_k0, e103_k1, e103_em102, e103_k2, e103_k3, e103_k4, (g103.i _ _ (by decide)).trans ((sI_nej (by decide)).trans ((sI_nej (by decide)).trans ((FR81.i _ _ (by decide)).trans h49))), by omega⟩⟩)
          ·
            have FL81 : Fr W_cp Mc Mx81 := Fr.t f13 fl81
            have FR81 : Fr W_rp Mr Nx81 := Fr.t (Fr.m f16 W_rx_p) fr81
            obtain ⟨ti81, tz81, tn81, tu81, t1381, t1081, t1181, t1281, t981, t1681, t1981, tb81⟩ := tc81
            obtain ⟨re81, rn81, ru81, rm81, rt81, u4181, u4281, u4381, u5181, u5381, u4881, u4981, ub81⟩ := tr81
            refine rsl (cV_e rfl) ?_
            refine rsr (cV_e rfl) ?_
            refine rsl (vC_e (ck_65 (hC.fr FL81))) ?_
            refine RlV (y64 (by omega) (hC.fr FL81) (hTk.fr (WL := W_cp) FL81 (by decide)) (t1281) (t1381) (t1081) (t1181) (t981) (t1681) (t1981) (li_59) (by omega)) fun v Ma105 h105 => ?_
            obtain ⟨sz104, sn104, uc104, g105, e105_sz104, e105_sn104, e105_uc104, e105_k0, e105_k1, e105_k2, e105_k3, p105_0, p105_1, p105_2⟩ := h105
            have f105 : Fr W_cp Mc Ma105 := Fr.t FL81 (Fr.m g105 (by decide))
            refine rsl (cV_e rfl) ?_
            refine rsl (vC_e (ck_65 (hC.fr f105))) ?_
            refine RlI (y87 (by omega) (hC.fr f105) (hTk.fr (WL := W_cp) f105 (by decide)) (e105_k3) (e105_k0) (e105_k1) (e105_k2) (e105_sz104) (e105_sn104) (e105_uc104) (li_9) (li_0) (by omega)) fun v Ma107 h107 => ?_
            obtain ⟨rv106, sz106, sn106, uc106, rfl, g107, e107_sz106, e107_sn106, e107_uc106, e107_k0, e107_k1, e107_k2, e107_k3, p107_0, p107_1, p107_2, p107_3⟩ := h107
            have f107 : Fr W_cp Mc Ma107 := Fr.t f105 (Fr.m g107 (by decide))
            refine rsl (cI_e rfl) ?_
            refine rsr (vC_e (rk_160 (hR.fr FR81))) ?_
            refine RrI (x195_s (by omega) (hR.fr FR81) (u4181) (u4281) (u4381) (u5181) (u5381) (u4881) (u4981) (li_59) (by omega)) fun v Ma109 h109 => ?_
            obtain ⟨rv108, em108, rfl, g109, e109_em108, e109_k0, e109_k1, e109_k2, e109_k3, e109_k4, p109_0, p109_1⟩ := h109
            have f109 : Fr W_rp Mr Ma109 := Fr.t FR81 (Fr.m g109 (by decide))
            refine rsr (cI_e rfl) ?_
            refine rsr (vC_e (rk_160 (hR.fr f109))) ?_
            refine RrI (x196_s (by omega) (hR.fr f109) (e109_k0) (e109_k1) (e109_em108) (e109_k2) (e109_k3) (e109_k4) ((g109.i _ _ (by decide)).trans (u4981)) (li_9) (li_0) (by omega)) fun v Ma111 h111 => ?_
            obtain ⟨rv110, em110, rfl, g111, e111_em110, e111_k0, e111_k1, e111_k2, e111_k3, e111_k4, p111_0, p111_1⟩ := h111
            have f111 : Fr W_rp Mr Ma111 := Fr.t f109 (Fr.m g111 (by decide))
            refine rsr (cI_e rfl) ?_
            refine rsr (jv_e) ?_
            exact Rs.ok (Or.inr ⟨F81, P81, f107, f111, ⟨ti81, sz106, sn106, uc106, e107_k0, e107_k1, e107_k2, e107_k3, e107_sz106, e107_sn106, e107_uc106, by omega⟩, ⟨em110, rn81, ru81, rm81, rt81, e111_k0, e111_k1, e111_em110, e111_k2, e111_k3, e111_k4, (g111.i _ _ (by decide)).trans ((g109.i _ _ (by decide)).trans (u4981)), by omega⟩⟩)
      · refine rsl (if_neg (eqI_n (rfl) (li_40) (by omega))) ?_
        refine rsl (gtI_q (w := iI ((kd (i + 3)))) (ck_65 (hC.fr f13)) (e13_k2)) ?_
        refine rsl (jn_v) ?_
        by_cases c112 : ((kd (i + 3))) = 91
        · refine rsl (if_pos (eqI_p (rfl) (li_91) (by omega))) ?_
          refine rsl (jv_e) ?_
          refine rsl (jn_v) ?_
          refine rsl (if_neg (eqI_n (li_1) (li_0) (by omega))) ?_
          refine rsl (vC_e (ck_65 (hC.fr f13))) ?_
          refine rsr (gtI_q (w := iI ((kr (kd i)))) (rk_160 hR) (wa_36)) ?_
          refine rsr (jn_v) ?_
          refine rsr (swI_c) ?_
          refine rsr (if_neg (krI_n (k := 215) (rfl) (li_416) (hS.ok i (by omega) (by omega)) (by unfold KdOK sgk; omega) (by decide +kernel) (by omega) (by omega))) ?_
          refine rsr (swI_c) ?_
          refine rsr (if_neg (krI_n (k := 216) (rfl) (li_417) (hS.ok i (by omega) (by omega)) (by unfold KdOK sgk; omega) (by decide +kernel) (by omega) (by omega))) ?_
          refine rsr (swI_c) ?_
          refine rsr (if_neg (krI_n (k := 217) (rfl) (li_418) (hS.ok i (by omega) (by omega)) (by unfold KdOK sgk; omega) (by decide +kernel) (by omega) (by omega))) ?_
          refine rsr (swI_c) ?_
          refine rsr (if_neg (krI_n (k := 218) (rfl) (li_419) (hS.ok i (by omega) (by omega)) (by unfold KdOK sgk; omega) (by decide +kernel) (by omega) (by omega))) ?_
          refine rsr (swI_c) ?_
          refine rsr (if_neg (krI_n (k := 219) (rfl) (li_420) (hS.ok i (by omega) (by omega)) (by unfold KdOK sgk; omega) (by decide +kernel) (by omega) (by omega))) ?_
          refine rsr (swI_c) ?_
          refine rsr (if_neg (krI_n (k := 220) (rfl) (li_421) (hS.ok i (by omega) (by omega)) (by unfold KdOK sgk; omega) (by decide +kernel) (by omega) (by omega))) ?_
          refine rsr (swI_c) ?_
          refine rsr (if_neg (krI_n (k := 221) (rfl) (li_422) (hS.ok i (by omega) (by omega)) (by unfold KdOK sgk; omega) (by decide +kernel) (by omega) (by omega))) ?_
          refine rsr (swI_c) ?_
          refine rsr (if_neg (krI_n (k := 222) (rfl) (li_423) (hS.ok i (by omega) (by omega)) (by unfold KdOK sgk; omega) (by decide +kernel) (by omega) (by omega))) ?_
          refine rsr (swI_n) ?_
          refine rsr (gtI_q (w := iI ((kr (kd i)))) (rk_160 hR) (wa_36)) ?_
          refine rsr (jn_v) ?_
          refine rsr (if_pos (krI_p (k := 3) (rfl) (li_1) (by omega) (by decide +kernel))) ?_
          refine rsr (jv_e) ?_
          refine rsr (vC_e (rk_160 hR)) ?_
          refine rsr (cI_e (ar193_p (by omega) hS hR (wa_36) (wa_37) (wa_41) (li_1) (by omega))) ?_
          refine rsr (if_neg (eqI_n (rfl) (li_0) (by omega))) ?_
          refine rsr (vC_e (rk_160 hR)) ?_
          refine Rs_cVr ?_ (fun v M w N h => rs1 jv_e (Rt.ok h))
          obtain ⟨d2, rfl⟩ : ∃ e, d2 = e + 1 := ⟨d2 - 1, by omega⟩
          rw [r217]; unfold b217; rw [aR_e, aZ_e]; unfold c217
          refine rsr (vC_e (rk_160 hR)) ?_
          refine RrI (a201_d (by omega) hS hR (hT.fr (W := W_rx) Fr.r (by decide) (by decide)) (fun i a b => (Fr.lc (W := W_rx) Fr.r _ (by decide) _).trans (hW i a b)) (wa_36) (wa_37) (wa_38) (wa_41) (h49) (wa_53) wa_n (by omega)) fun v Ma114 h114 => ?_
          obtain ⟨r113, rfl, g114, e114_k0, e114_k1, e114_k2, e114_k3, e114_k4, p114_0, p114_1, p114_2⟩ := h114
          have f114 : Fr W_rx Mr Ma114 := Fr.t Fr.r (Fr.m g114 (by decide))
          refine rsr (cI_e rfl) ?_
          refine rsr (gtI_q (w := iI 0) (rk_160 (hR.fr f114)) (e114_k4)) ?_
          refine rsr (if_pos (eqI_p (rfl) (li_0) (by omega))) ?_
          refine rsr (gtP_q (w := some 202) (rk_160 (hR.fr f114)) (rf_56 (hR.fr f114))) ?_
          refine rsr (alL_q (n := 2000) (z := u) (w := (tx i)) (rk_202 (hR.fr f114)) (congrArg iI p114_0) (by omega) (p114_1.2.2.2.1)) ?_
          refine rsr (jn_v) ?_
          by_cases c115 : (tx i) = (0 : Int64)
          ·
            refine rsr (if_pos (lgc_p (rfl) (rfl) c115)) ?_
            refine rsr (gtP_q (w := some 204) (rk_160 (hR.fr f114)) (rf_58 (hR.fr f114))) ?_
            refine rsr (alL_q (n := 2000) (z := u) (w := (tx (i + 2))) (rk_204 (hR.fr f114)) (congrArg iI p114_0) (by omega) (p114_1.2.2.2.2.2.1)) ?_
            refine rsr (vC_e (rk_160 (hR.fr f114))) ?_
            obtain ⟨rl, hrl⟩ : ∃ r, LcF Hl s (tx (i + 2)) r := by have q := LcF_ex (Hl := Hl) (y := (tx (i + 2))) s.toNat; rw [show ((s.toNat : Nat) : Int) = s by omega] at q; exact q
            have brl := hrl.bd
            by_cases crl : rl = -1
            ·
              subst crl
              refine RrI (a197 (by omega) (hR.fr f114) ((g114.i _ _ (by decide)).trans (wa_51)) (lra.fr g114 (by decide)) (by omega)) fun v Nl116 hl116 => ?_
              obtain ⟨r9, rfl, hMl, hr9⟩ := hl116
              rw [hMl]
              have q9 := LcF.one hr9 hrl
              rw [q9]
              refine rsr (cI_e rfl) ?_
              refine rsr (jv_e) ?_
              try dsimp only
              refine rsr (gtI_q (w := iI ((kr (kd (i + 3))))) (rk_160 (hR.fr f114)) (e114_k1)) ?_
              refine rsr (jn_v) ?_
              refine rsr (if_neg (krI_n (k := 40) (rfl) (li_40) (hS.ok (i + 3) (by omega) (by omega)) (by unfold KdOK sgk; omega) (by decide +kernel) (by omega) (by omega))) ?_
              refine rsr (gtI_q (w := iI ((kr (kd (i + 3))))) (rk_160 (hR.fr f114)) (e114_k1)) ?_
              refine rsr (if_pos (krI_p (k := 91) (rfl) (li_91) (by omega) (by decide +kernel))) ?_
              refine rsr (vC_e (rk_160 (hR.fr f114))) ?_
              refine Rb_VV (hX _ _ (by omega) (by omega) T n m kd pl E tx ua ut mu _ _ G (pu U u [uc, (V Mr 201 u.toNat), (V Mr 200 u.toNat), (pl i), (pl (i + 2)), (V Mr 206 u.toNat), ut, 0, (V Mc 79 uc.toNat), (V Mc 80 uc.toNat), (pl i)]) Hl (pux X u [(tx i), (tx (i + 2))]) (i + 3) e s (u + 1) (uc + 1) _ hS (hCx.fr f13 f114) ⟨e13_k0, e13_k2, e13_k3, (g13.i _ _ (by decide)).trans (qa_9), (g13.i _ _ (by decide)).trans (qa_16), e13_k1⟩ ⟨e114_k1, e114_k2, e114_k3, e114_k4, (g114.i _ _ (by decide)).trans (wa_43), (g114.i _ _ (by decide)).trans (wa_51), e114_k0, (g114.i _ _ (by decide)).trans (wa_50), p114_2⟩ ⟨(caa.fr g13 (by decide)), (raa.fr g114 (by decide)), (lca.fr g13 (by decide)), (lra.fr g114 (by decide)), (CU.add cua (by omega) (by omega) p13_1 rfl rfl), (RU.add rua (by omega) p114_1 rfl)⟩ ⟨by omega, by omega, by omega, by omega, by omega, by omega, by omega, by omega, by omega, by omega, by omega, by omega⟩ (by omega) (vs1 (hv0))) fun v Mx117 w Nx117 hx117 => ?_
              rcases hx117 with ⟨i117, e117, u117, uc117, G117, U117, X117, fl117, fr117, sc117, sr117, rw117, bd117, mv117, ag117, au117, ax117, tp117, dp117, kv117⟩ | ⟨F117, P117, fl117, fr117, tc117, tr117⟩
              ·
                have FL117 : Fr W_cp Mc Mx117 := Fr.t f13 fl117
                have FR117 : Fr W_rx Mr Nx117 := Fr.t f114 fr117
                obtain ⟨bb117_0, bb117_1, bb117_2, bb117_3, bb117_4, bb117_5, bb117_6, bb117_7, bb117_8, bb117_9, bb117_10, bb117_11⟩ := bd117
                obtain ⟨q117_12, q117_13, q117_10, q117_9, q117_16, q117_19⟩ := sc117
                obtain ⟨w117_36, w117_37, w117_38, w117_41, w117_43, w117_51, w117_53, w117_50, w117_n⟩ := sr117
                obtain ⟨ca117, ra117, lc117, lr117, cu117, ru117⟩ := rw117
                have hk118 := (hS.ok i117 (by omega) (by omega)).r
                have ku117 := KU.t (KU.us kua p13_1 g13 (by decide) (by omega)) kv117 (by omega)
                have ty119 := Tye.t (d3 := 1) ty2 ag117 tp117 (by omega)
                have du120 := DU.t (DU.r (ut := ut) (mu := mu) (c := uc) (G := G) (a := e)) ag117 au117 ax117 dp117 (by omega)
                refine rsl (cV_e rfl) ?_
                refine rsr (cV_e rfl) ?_
                refine rsl (jv_e) ?_
                refine rsl (vC_e (ck_65 (hC.fr FL117))) ?_
                by_cases c121 : ((kd i117)) = 61
                ·
                  have hm122 : i117 + 1 < m := hS.more i117 (by omega) (by omega) (by omega)
                  refine rsl (cV_e (a64q (by omega) hS (hC.fr FL117) (hTk.fr (WL := W_cp) FL117 (by decide)) (q117_12) (q117_13) (q117_10) (li_61) (i2 := (i117 + 1)) (by omega) (by omega))) ?_
                  have hk123 := (hS.ok (i117 + 1) (by omega) (by omega)).r
                  refine rsl (vC_e (ck_65 (hC.fr FL117).sI.sI)) ?_
                  refine rsr (vC_e (rk_160 (hR.fr FR117))) ?_
                  refine RrI (a195_61 (by omega) hS (hR.fr FR117) (hT.fr (W := W_rx) FR117 (by decide) (by decide)) (fun i a b => (Fr.lc (W := W_rx) FR117 _ (by decide) _).trans (hW i a b)) (w117_36) (w117_37) (w117_38) (w117_41) (li_61) (i2 := (i117 + 1)) (by omega) (by omega)) fun v Ma125 h125 => ?_
                  obtain ⟨r124, rfl, g125, e125_k0, e125_k1, e125_k2, p125_0, p125_1⟩ := h125
                  have f125 : Fr W_rx Mr Ma125 := Fr.t FR117 (Fr.m g125 (by decide))
                  refine rsr (cI_e rfl) ?_
                  refine rsr (vC_e (rk_160 (hR.fr f125))) ?_
                  refine Rb_VV (hE _ _ (by omega) (by omega) T n m kd pl E tx ua ut mu _ _ G117 U117 Hl X117 (i117 + 1) e117 s u117 uc117 _ hS (hCx.fr (Fr.sI (by decide) (Fr.sI (by decide) FL117)) f125) ⟨(sI_nej (by decide)).trans (sI_eq), sI_eq, (sI_nej (by decide)).trans ((sI_nej (by decide)).trans (q117_10)), (sI_nej (by decide)).trans ((sI_nej (by decide)).trans (q117_9)), (sI_nej (by decide)).trans ((sI_nej (by decide)).trans (q117_16)), (sI_nej (by decide)).trans ((sI_nej (by decide)).trans (q117_19))⟩ ⟨e125_k0, e125_k1, e125_k2, (g125.i _ _ (by decide)).trans (w117_41), (g125.i _ _ (by decide)).trans (w117_43), (g125.i _ _ (by decide)).trans (w117_51), (g125.i _ _ (by decide)).trans (w117_53), (g125.i _ _ (by decide)).trans (w117_50), p125_1⟩ ⟨(ca117.fr (W := W_c0) (Fr.sI (by decide) (Fr.sI (by decide) Fr.r)) (by decide)), (ra117.fr g125 (by decide)), (lc117.fr (W := W_c0) (Fr.sI (by decide) (Fr.sI (by decide) Fr.r)) (by decide)), (lr117.fr g125 (by decide)), (cu117.fr (W := W_c0) (Fr.sI (by decide) (Fr.sI (by decide) Fr.r)) (by decide)), (ru117.fr g125 (by decide))⟩ ⟨by omega, by omega, by omega, by omega, by omega, by omega, by omega, by omega, by omega, by omega, by omega, by omega⟩ (vs2 (li_0) (hv0))) fun v Mx126 w Nx126 hx126 => ?_
                  rcases hx126 with ⟨i126, e126, u126, uc126, G126, U126, X126, fl126, fr126, sc126, sr126, rw126, bd126, mv126, ag126, au126, ax126, tp126, dp126, kv126⟩ | ⟨F126, P126, fl126, fr126, tc126, tr126⟩
                  ·
                    have FL126 : Fr W_cp Mc Mx126 := Fr.t (Fr.sI (by decide) (Fr.sI (by decide) FL117)) fl126
                    have FR126 : Fr W_rx Mr Nx126 := Fr.t f125 fr126
                    obtain ⟨bb126_0, bb126_1, bb126_2, bb126_3, bb126_4, bb126_5, bb126_6, bb126_7, bb126_8, bb126_9, bb126_10, bb126_11⟩ := bd126
                    obtain ⟨q126_12, q126_13, q126_10, q126_9, q126_16, q126_19⟩ := sc126
                    obtain ⟨w126_36, w126_37, w126_38, w126_41, w126_43, w126_51, w126_53, w126_50, w126_n⟩ := sr126
                    obtain ⟨ca126, ra126, lc126, lr126, cu126, ru126⟩ := rw126
                    have hk127 := (hS.ok i126 (by omega) (by omega)).r
                    have ku126 := KU.t (ku117.fr (W := W_c0) (Fr.sI (by decide) (Fr.sI (by decide) Fr.r)) (by decide)) kv126 (by omega)
                    have ty128 := Tye.t (d3 := 2) ty119 ag126 tp126 (by omega)
                    have du129 := DU.t du120 ag126 au126 ax126 dp126 (by omega)
                    refine rsl (cV_e rfl) ?_
                    refine rsr (cV_e rfl) ?_
                    refine rsl (vC_e (ck_65 (hC.fr FL126))) ?_
                    by_cases c130 : ((kd i126)) = 59
                    ·
                      have hm131 : i126 + 1 < m := hS.more i126 (by omega) (by omega) (by omega)
                      refine rsl (cV_e (a64q (by omega) hS (hC.fr FL126) (hTk.fr (WL := W_cp) FL126 (by decide)) (q126_12) (q126_13) (q126_10) (li_59) (i2 := (i126 + 1)) (by omega) (by omega))) ?_
                      have hk132 := (hS.ok (i126 + 1) (by omega) (by omega)).r
                      refine rsl (jn_v) ?_
                      refine rsl (if_neg (eqI_n (li_1) (li_0) (by omega))) ?_
                      refine rsl (vC_e (ck_65 (hC.fr FL126).sI.sI)) ?_
                      have tb134 := Tyb.ex (dp := dp) (d := 2) (s' := s) (q := (e126 + 1)) (n1 := 0) (ut := ut) (mu := mu) (l := []) ty128 (Or.inr (Or.inr (Or.inr (Or.inr (Or.inr (Or.inl (by omega)))))) : Eff 6 u 0 2 s 0 s) (by omega) ⟨by omega, by omega⟩ (by omega)
                      have du135 := DU.set (b1 := 3) (p := 3) (q := (e126 + 1)) (u := u) (o := 6) (n1 := 0) (p1 := -2) (n3 := u) (l := []) (g := 0) du129 (by omega) (by omega) (by omega) (by omega) (fun q => absurd q (by decide)) (Int.le_of_eq (Eq.symm ((au126 0 _ (by omega)).trans ((au117 0 _ (by omega)).trans (pu_e rfl))))) ((au126 6 _ (by omega)).trans ((au117 6 _ (by omega)).trans (pu_e (by omega)))) (U3tr (ax126 0 _ (by omega)) (au126 3 _ (by omega)) (au126 10 _ (by omega)) (U3tr (ax117 0 _ (by omega)) (au117 3 _ (by omega)) (au117 10 _ (by omega)) (Or.inr ((pu_e (by omega)).trans (pu_e (by omega)).symm)))) (by omega) (by omega)
                      refine RlV (a105 (by omega) (hC.fr FL126).sI.sI ((sI_nej (by decide)).trans ((sI_nej (by decide)).trans (q126_9))) (congrArg iI p13_0) (li_3) (li_6) (by omega)) fun v Ma136 h136 => ?_
                      obtain ⟨g136, e136_k0, p136_0, p136_1⟩ := h136
                      have f136 : Fr W_cp Mc Ma136 := Fr.t (Fr.sI (by decide) (Fr.sI (by decide) FL126)) (Fr.m g136 (by decide))
                      refine rsl (cV_e rfl) ?_
                      refine rsl (jv_e) ?_
                      refine rsr (vC_e (rk_160 (hR.fr FR126))) ?_
                      refine RrV (a202 (by omega) (hR.fr FR126) (w126_43) ((FR126.i _ _ (by decide)).trans h49) ((FR126.i _ _ (by decide)).trans h48) (congrArg iI p114_0) (li_3) (li_6) (by omega)) fun v Ma137 h137 => ?_
                      obtain ⟨g137, e137_k0, p137_0, p137_1⟩ := h137
                      have f137 : Fr W_rx Mr Ma137 := Fr.t FR126 (Fr.m g137 (by decide))
                      refine rsr (cV_e rfl) ?_
                      refine rsr (vC_e (rk_160 (hR.fr f137))) ?_
                      refine RrI (a195_59 (by omega) hS (hR.fr f137) (hT.fr (W := W_rx) f137 (by decide) (by decide)) (fun i a b => (Fr.lc (W := W_rx) f137 _ (by decide) _).trans (hW i a b)) ((g137.i _ _ (by decide)).trans (w126_36)) ((g137.i _ _ (by decide)).trans (w126_37)) ((g137.i _ _ (by decide)).trans (w126_38)) ((g137.i _ _ (by decide)).trans (w126_41)) (li_59) (i2 := (i126 + 1)) (by omega) (by omega)) fun v Ma139 h139 => ?_
                      obtain ⟨r138, rfl, g139, e139_k0, e139_k1, e139_k2, p139_0, p139_1⟩ := h139
                      have f139 : Fr W_rx Mr Ma139 := Fr.t f137 (Fr.m g139 (by decide))
                      refine rsr (cI_e rfl) ?_
                      refine rsr (jv_e) ?_
                      exact Rs.ok (Or.inl ⟨(i126 + 1), s, Hl, ⟨(e126 + 1), u126, uc126, (pu G126 e126 [6, 0, -2, u, ut, mu, 0]), (ps U126 u 3 3 e126), X126, f136, f139, ⟨(g136.i _ _ (by decide)).trans ((sI_nej (by decide)).trans (sI_eq)), (g136.i _ _ (by decide)).trans (sI_eq), (g136.i _ _ (by decide)).trans ((sI_nej (by decide)).trans ((sI_nej (by decide)).trans (q126_10))), e136_k0, (g136.i _ _ (by decide)).trans ((sI_nej (by decide)).trans ((sI_nej (by decide)).trans (q126_16))), (g136.i _ _ (by decide)).trans ((sI_nej (by decide)).trans ((sI_nej (by decide)).trans (q126_19)))⟩, ⟨e139_k0, e139_k1, e139_k2, (g139.i _ _ (by decide)).trans ((g137.i _ _ (by decide)).trans (w126_41)), (g139.i _ _ (by decide)).trans (e137_k0), (g139.i _ _ (by decide)).trans ((g137.i _ _ (by decide)).trans (w126_51)), (g139.i _ _ (by decide)).trans ((g137.i _ _ (by decide)).trans (w126_53)), (g139.i _ _ (by decide)).trans ((g137.i _ _ (by decide)).trans (w126_50)), p139_1⟩, ⟨(CA1.em (ca126.fr (W := W_c0) (Fr.sI (by decide) (Fr.sI (by decide) Fr.r)) (by decide)) (by omega) p136_0 rfl), ((RA1.em ra126 (by omega) p137_0 rfl).fr g139 (by decide)), ((lc126.fr (W := W_c0) (Fr.sI (by decide) (Fr.sI (by decide) Fr.r)) (by decide)).fr g136 (by decide)), ((lr126.fr g137 (by decide)).fr g139 (by decide)), (CU.set (b := 3) (cu126.fr (W := W_c0) (Fr.sI (by decide) (Fr.sI (by decide) Fr.r)) (by decide)) ⟨by omega, by omega⟩ ((au126 0 _ (by omega)).trans ((au117 0 _ (by omega)).trans (pu_e rfl))) p136_1 g136 (by decide)), ((RU.set ru126 ⟨by omega, by omega⟩ p137_1 g137 (by decide)).fr g139 (by decide))⟩, ⟨by omega, by omega, by omega, by omega, by omega, by omega, by omega, by omega, by omega, by omega, by omega, by omega⟩, ⟨by omega, by omega, by omega, by omega, by omega, by omega⟩, (Ag.pu (Ag.t (Ag.t Ag.r ag117 (by omega)) ag126 (by omega)) (by omega)), (Ag.ps (Ag.t (Ag.t (Ag.pu Ag.r (by omega)) au117 (by omega)) au126 (by omega)) (by omega)), (AgL.t (AgL.t (AgL.pu AgL.r (by omega)) ax117 (by omega)) ax126 (by omega)), tb134, du135, ((ku126.fr (W := W_c0) (Fr.sI (by decide) (Fr.sI (by decide) Fr.r)) (by decide)).fr g136 (by decide)), ⟨by omega, fun _ _ _ => rfl⟩⟩⟩)
                    ·
                      by_cases c140 : ((kd i126)) = 1
                      ·
                        refine rsl (cV_e (a64_1 (by omega) hS (hC.fr FL126) (hTk.fr (WL := W_cp) FL126 (by decide)) (q126_12) (q126_13) (q126_10) (li_59) (by omega))) ?_
                        refine rsl (jn_v) ?_
                        refine rsl (if_neg (eqI_n (li_1) (li_0) (by omega))) ?_
                        refine rsl (vC_e (ck_65 (hC.fr FL126).sI.sI.sI)) ?_
                        refine RlV (y105 (by omega) (hC.fr FL126).sI.sI.sI (hTk.fr (WL := W_cp) (Fr.sI (by decide) (Fr.sI (by decide) (Fr.sI (by decide) FL126))) (by decide)) ((sI_nej (by decide)).trans ((sI_nej (by decide)).trans ((sI_nej (by decide)).trans (q126_12)))) (sI_eq) ((sI_nej (by decide)).trans ((sI_nej (by decide)).trans (sI_eq))) ((sI_nej (by decide)).trans (sI_eq)) ((sI_nej (by decide)).trans ((sI_nej (by decide)).trans ((sI_nej (by decide)).trans (q126_9)))) ((sI_nej (by decide)).trans ((sI_nej (by decide)).trans ((sI_nej (by decide)).trans (q126_16)))) ((sI_nej (by decide)).trans ((sI_nej (by decide)).trans ((sI_nej (by decide)).trans (q126_19)))) (congrArg iI p13_0) (li_3) (li_6) (by omega)) fun v Ma142 h142 => ?_
                        obtain ⟨sz141, sn141, uc141, g142, e142_sz141, e142_sn141, e142_uc141, e142_k0, e142_k1, e142_k2, e142_k3, p142_0, p142_1, p142_2⟩ := h142
                        have f142 : Fr W_cp Mc Ma142 := Fr.t (Fr.sI (by decide) (Fr.sI (by decide) (Fr.sI (by decide) FL126))) (Fr.m g142 (by decide))
                        refine rsl (cV_e rfl) ?_
                        refine rsl (jv_e) ?_
                        refine rsr (vC_e (rk_160 (hR.fr FR126))) ?_
                        refine RrV (a202 (by omega) (hR.fr FR126) (w126_43) ((FR126.i _ _ (by decide)).trans h49) ((FR126.i _ _ (by decide)).trans h48) (congrArg iI p114_0) (li_3) (li_6) (by omega)) fun v Ma143 h143 => ?_
                        obtain ⟨g143, e143_k0, p143_0, p143_1⟩ := h143
                        have f143 : Fr W_rx Mr Ma143 := Fr.t FR126 (Fr.m g143 (by decide))
                        refine rsr (cV_e rfl) ?_
                        refine rsr (vC_e (rk_160 (hR.fr f143))) ?_
                        refine rsr (cI_e (a195_59_1 (by omega) hS (hR.fr f143) ((g143.i _ _ (by decide)).trans (w126_36)) ((g143.i _ _ (by decide)).trans (w126_37)) ((g143.i _ _ (by decide)).trans (w126_41)) (li_59) (by omega))) ?_
                        refine rsr (jv_e) ?_
                        exact Rs.ok (Or.inr ⟨1, ((pl i126)), f142, (Fr.sI (by decide) (Fr.sI (by decide) (Fr.m f143 (by decide)))), ⟨i126, sz141, sn141, uc141, e142_k0, e142_k1, e142_k2, e142_k3, e142_sz141, e142_sn141, e142_uc141, by omega⟩, ⟨(e126 + 1), s, u126, mu, ut, (sI_nej (by decide)).trans (sI_eq), sI_eq, (sI_nej (by decide)).trans ((sI_nej (by decide)).trans (e143_k0)), (sI_nej (by decide)).trans ((sI_nej (by decide)).trans ((g143.i _ _ (by decide)).trans (w126_51))), (sI_nej (by decide)).trans ((sI_nej (by decide)).trans ((g143.i _ _ (by decide)).trans (w126_53))), (sI_nej (by decide)).trans ((sI_nej (by decide)).trans ((g143.i _ _ (by decide)).trans ((FR126.i _ _ (by decide)).trans h48))), (sI_nej (by decide)).trans ((sI_nej (by decide)).trans ((g143.i _ _ (by decide)).trans ((FR126.i _ _ (by decide)).trans h49))), by omega⟩⟩)
                      ·
                        refine rsl (cV_e (a64_2 (by omega) hS (hC.fr FL126) (hTk.fr (WL := W_cp) FL126 (by decide)) (q126_12) (q126_13) (q126_10) (li_59) (by omega))) ?_
                        refine rsl (jn_v) ?_
                        refine rsl (if_neg (eqI_n (li_1) (li_0) (by omega))) ?_
                        refine rsl (vC_e (ck_65 (hC.fr FL126).sI.sI.sI)) ?_
                        refine RlV (y105 (by omega) (hC.fr FL126).sI.sI.sI (hTk.fr (WL := W_cp) (Fr.sI (by decide) (Fr.sI (by decide) (Fr.sI (by decide) FL126))) (by decide)) ((sI_nej (by decide)).trans ((sI_nej (by decide)).trans ((sI_nej (by decide)).trans (q126_12)))) (sI_eq) ((sI_nej (by decide)).trans ((sI_nej (by decide)).trans (sI_eq))) ((sI_nej (by decide)).trans (sI_eq)) ((sI_nej (by decide)).trans ((sI_nej (by decide)).trans ((sI_nej (by decide)).trans (q126_9)))) ((sI_nej (by decide)).trans ((sI_nej (by decide)).trans ((sI_nej (by decide)).trans (q126_16)))) ((sI_nej (by decide)).trans ((sI_nej (by decide)).trans ((sI_nej (by decide)).trans (q126_19)))) (congrArg iI p13_0) (li_3) (li_6) (by omega)) fun v Ma145 h145 => ?_
                        obtain ⟨sz144, sn144, uc144, g145, e145_sz144, e145_sn144, e145_uc144, e145_k0, e145_k1, e145_k2, e145_k3, p145_0, p145_1, p145_2⟩ := h145
                        have f145 : Fr W_cp Mc Ma145 := Fr.t (Fr.sI (by decide) (Fr.sI (by decide) (Fr.sI (by decide) FL126))) (Fr.m g145 (by decide))
                        refine rsl (cV_e rfl) ?_
                        refine rsl (jv_e) ?_
                        refine rsr (vC_e (rk_160 (hR.fr FR126))) ?_
                        refine RrV (a202 (by omega) (hR.fr FR126) (w126_43) ((FR126.i _ _ (by decide)).trans h49) ((FR126.i _ _ (by decide)).trans h48) (congrArg iI p114_0) (li_3) (li_6) (by omega)) fun v Ma146 h146 => ?_
                        obtain ⟨g146, e146_k0, p146_0, p146_1⟩ := h146
                        have f146 : Fr W_rx Mr Ma146 := Fr.t FR126 (Fr.m g146 (by decide))
                        refine rsr (cV_e rfl) ?_
                        refine rsr (vC_e (rk_160 (hR.fr f146))) ?_
                        refine rsr (cI_e (a195_59_2 (by omega) hS (hR.fr f146) ((g146.i _ _ (by decide)).trans (w126_36)) ((g146.i _ _ (by decide)).trans (w126_37)) ((g146.i _ _ (by decide)).trans (w126_41)) (li_59) (by omega))) ?_
                        refine rsr (jv_e) ?_
                        exact Rs.ok (Or.inr ⟨2, ((pl i126)), f145, (Fr.sI (by decide) (Fr.sI (by decide) (Fr.m f146 (by decide)))), ⟨i126, sz144, sn144, uc144, e145_k0, e145_k1, e145_k2, e145_k3, e145_sz144, e145_sn144, e145_uc144, by omega⟩, ⟨(e126 + 1), s, u126, mu, ut, (sI_nej (by decide)).trans (sI_eq), sI_eq, (sI_nej (by decide)).trans ((sI_nej (by decide)).trans (e146_k0)), (sI_nej (by decide)).trans ((sI_nej (by decide)).trans ((g146.i _ _ (by decide)).trans (w126_51))), (sI_nej (by decide)).trans ((sI_nej (by decide)).trans ((g146.i _ _ (by decide)).trans (w126_53))), (sI_nej (by decide)).trans ((sI_nej (by decide)).trans ((g146.i _ _ (by decide)).trans ((FR126.i _ _ (by decide)).trans h48))), (sI_nej (by decide)).trans ((sI_nej (by decide)).trans ((g146.i _ _ (by decide)).trans ((FR126.i _ _ (by decide)).trans h49))), by omega⟩⟩)
                  ·
                    have FL126 : Fr W_cp Mc Mx126 := Fr.t (Fr.sI (by decide) (Fr.sI (by decide) FL117)) fl126
                    have FR126 : Fr W_rp Mr Nx126 := Fr.t (Fr.m f125 W_rx_p) fr126
                    obtain ⟨ti126, tz126, tn126, tu126, t13126, t10126, t11126, t12126, t9126, t16126, t19126, tb126⟩ := tc126
                    obtain ⟨re126, rn126, ru126, rm126, rt126, u41126, u42126, u43126, u51126, u53126, u48126, u49126, ub126⟩ := tr126
                    refine rsl (cV_e rfl) ?_
                    refine rsr (cV_e rfl) ?_
                    refine rsl (vC_e (ck_65 (hC.fr FL126))) ?_
                    refine RlV (y64 (by omega) (hC.fr FL126) (hTk.fr (WL := W_cp) FL126 (by decide)) (t12126) (t13126) (t10126) (t11126) (t9126) (t16126) (t19126) (li_59) (by omega)) fun v Ma148 h148 => ?_
                    obtain ⟨sz147, sn147, uc147, g148, e148_sz147, e148_sn147, e148_uc147, e148_k0, e148_k1, e148_k2, e148_k3, p148_0, p148_1, p148_2⟩ := h148
                    have f148 : Fr W_cp Mc Ma148 := Fr.t FL126 (Fr.m g148 (by decide))
                    refine rsl (cV_e rfl) ?_
                    refine rsl (jn_v) ?_
                    refine rsl (if_neg (eqI_n (li_1) (li_0) (by omega))) ?_
                    refine rsl (vC_e (ck_65 (hC.fr f148))) ?_
                    refine RlV (y105 (by omega) (hC.fr f148) (hTk.fr (WL := W_cp) f148 (by decide)) (e148_k3) (e148_k0) (e148_k1) (e148_k2) (e148_sz147) (e148_sn147) (e148_uc147) (congrArg iI p13_0) (li_3) (li_6) (by omega)) fun v Ma150 h150 => ?_
                    obtain ⟨sz149, sn149, uc149, g150, e150_sz149, e150_sn149, e150_uc149, e150_k0, e150_k1, e150_k2, e150_k3, p150_0, p150_1, p150_2⟩ := h150
                    have f150 : Fr W_cp Mc Ma150 := Fr.t f148 (Fr.m g150 (by decide))
                    refine rsl (cV_e rfl) ?_
                    refine rsl (jv_e) ?_
                    refine rsr (vC_e (rk_160 (hR.fr FR126))) ?_
                    refine RrV (x202_s (by omega) (hR.fr FR126) (u41126) (u42126) (u43126) (u51126) (u53126) (u48126) (u49126) (congrArg iI p114_0) (li_3) (li_6) (by omega)) fun v Ma152 h152 => ?_
                    obtain ⟨em151, g152, e152_em151, e152_k0, e152_k1, e152_k2, e152_k3, e152_k4, p152_0⟩ := h152
                    have f152 : Fr W_rp Mr Ma152 := Fr.t FR126 (Fr.m g152 (by decide))
                    refine rsr (cV_e rfl) ?_
                    refine rsr (vC_e (rk_160 (hR.fr f152))) ?_
                    refine RrI (x195_s (by omega) (hR.fr f152) (e152_k0) (e152_k1) (e152_em151) (e152_k2) (e152_k3) (e152_k4) ((g152.i _ _ (by decide)).trans (u49126)) (li_59) (by omega)) fun v Ma154 h154 => ?_
                    obtain ⟨rv153, em153, rfl, g154, e154_em153, e154_k0, e154_k1, e154_k2, e154_k3, e154_k4, p154_0, p154_1⟩ := h154
                    have f154 : Fr W_rp Mr Ma154 := Fr.t f152 (Fr.m g154 (by decide))
                    refine rsr (cI_e rfl) ?_
                    refine rsr (jv_e) ?_
                    exact Rs.ok (Or.inr ⟨F126, P126, f150, f154, ⟨ti126, sz149, sn149, uc149, e150_k0, e150_k1, e150_k2, e150_k3, e150_sz149, e150_sn149, e150_uc149, by omega⟩, ⟨em153, rn126, ru126, rm126, rt126, e154_k0, e154_k1, e154_em153, e154_k2, e154_k3, e154_k4, (g154.i _ _ (by decide)).trans ((g152.i _ _ (by decide)).trans (u49126)), by omega⟩⟩)
                ·
                  by_cases c155 : ((kd i117)) = 1
                  ·
                    refine rsl (cV_e (a64_1 (by omega) hS (hC.fr FL117) (hTk.fr (WL := W_cp) FL117 (by decide)) (q117_12) (q117_13) (q117_10) (li_61) (by omega))) ?_
                    refine rsl (vC_e (ck_65 (hC.fr FL117).sI.sI.sI)) ?_
                    refine RlV (y99_0 (by omega) (hC.fr FL117).sI.sI.sI (hTk.fr (WL := W_cp) (Fr.sI (by decide) (Fr.sI (by decide) (Fr.sI (by decide) FL117))) (by decide)) ((sI_nej (by decide)).trans ((sI_nej (by decide)).trans ((sI_nej (by decide)).trans (q117_12)))) (sI_eq) ((sI_nej (by decide)).trans ((sI_nej (by decide)).trans (sI_eq))) ((sI_nej (by decide)).trans (sI_eq)) ((sI_nej (by decide)).trans ((sI_nej (by decide)).trans ((sI_nej (by decide)).trans (q117_9)))) ((sI_nej (by decide)).trans ((sI_nej (by decide)).trans ((sI_nej (by decide)).trans (q117_16)))) ((sI_nej (by decide)).trans ((sI_nej (by decide)).trans ((sI_nej (by decide)).trans (q117_19)))) (li_0) (hv0) (by omega)) fun v Ma157 h157 => ?_
                    obtain ⟨sz156, sn156, uc156, g157, e157_sz156, e157_sn156, e157_uc156, e157_k0, e157_k1, e157_k2, e157_k3, p157_0, p157_1, p157_2⟩ := h157
                    have f157 : Fr W_cp Mc Ma157 := Fr.t (Fr.sI (by decide) (Fr.sI (by decide) (Fr.sI (by decide) FL117))) (Fr.m g157 (by decide))
                    refine rsl (cV_e rfl) ?_
                    refine rsl (vC_e (ck_65 (hC.fr f157))) ?_
                    refine RlV (y64 (by omega) (hC.fr f157) (hTk.fr (WL := W_cp) f157 (by decide)) (e157_k3) (e157_k0) (e157_k1) (e157_k2) (e157_sz156) (e157_sn156) (e157_uc156) (li_59) (by omega)) fun v Ma159 h159 => ?_
                    obtain ⟨sz158, sn158, uc158, g159, e159_sz158, e159_sn158, e159_uc158, e159_k0, e159_k1, e159_k2, e159_k3, p159_0, p159_1, p159_2⟩ := h159
                    have f159 : Fr W_cp Mc Ma159 := Fr.t f157 (Fr.m g159 (by decide))
                    refine rsl (cV_e rfl) ?_
                    refine rsl (jn_v) ?_
                    refine rsl (if_neg (eqI_n (li_1) (li_0) (by omega))) ?_
                    refine rsl (vC_e (ck_65 (hC.fr f159))) ?_
                    refine RlV (y105 (by omega) (hC.fr f159) (hTk.fr (WL := W_cp) f159 (by decide)) (e159_k3) (e159_k0) (e159_k1) (e159_k2) (e159_sz158) (e159_sn158) (e159_uc158) (congrArg iI p13_0) (li_3) (li_6) (by omega)) fun v Ma161 h161 => ?_
                    obtain ⟨sz160, sn160, uc160, g161, e161_sz160, e161_sn160, e161_uc160, e161_k0, e161_k1, e161_k2, e161_k3, p161_0, p161_1, p161_2⟩ := h161
                    have f161 : Fr W_cp Mc Ma161 := Fr.t f159 (Fr.m g161 (by decide))
                    refine rsl (cV_e rfl) ?_
                    refine rsl (jv_e) ?_
                    refine rsr (vC_e (rk_160 (hR.fr FR117))) ?_
                    refine rsr (cI_e (a195_61_1 (by omega) hS (hR.fr FR117) (w117_36) (w117_37) (w117_41) (li_61) (by omega))) ?_
                    refine rsr (vC_e (rk_160 (hR.fr FR117).sI.sI)) ?_
                    refine RrV (x211_s (by omega) (hR.fr FR117).sI.sI ((sI_nej (by decide)).trans (sI_eq)) (sI_eq) ((sI_nej (by decide)).trans ((sI_nej (by decide)).trans (w117_43))) ((sI_nej (by decide)).trans ((sI_nej (by decide)).trans (w117_51))) ((sI_nej (by decide)).trans ((sI_nej (by decide)).trans (w117_53))) ((sI_nej (by decide)).trans ((sI_nej (by decide)).trans ((FR117.i _ _ (by decide)).trans h48))) ((sI_nej (by decide)).trans ((sI_nej (by decide)).trans ((FR117.i _ _ (by decide)).trans h49)))  (by omega)) fun v Ma163 h163 => ?_
                    obtain ⟨em162, g163, e163_em162, e163_k0, e163_k1, e163_k2, e163_k3, e163_k4, p163_0⟩ := h163
                    have f163 : Fr W_rp Mr Ma163 := Fr.t (Fr.sI (by decide) (Fr.sI (by decide) (Fr.m FR117 (by decide)))) (Fr.m g163 (by decide))
                    refine rsr (cV_e rfl) ?_
                    refine rsr (vC_e (rk_160 (hR.fr f163))) ?_
                    refine RrV (x202_s (by omega) (hR.fr f163) (e163_k0) (e163_k1) (e163_em162) (e163_k2) (e163_k3) (e163_k4) ((g163.i _ _ (by decide)).trans ((sI_nej (by decide)).trans ((sI_nej (by decide)).trans ((FR117.i _ _ (by decide)).trans h49)))) (congrArg iI p114_0) (li_3) (li_6) (by omega)) fun v Ma165 h165 => ?_
                    obtain ⟨em164, g165, e165_em164, e165_k0, e165_k1, e165_k2, e165_k3, e165_k4, p165_0⟩ := h165
                    have f165 : Fr W_rp Mr Ma165 := Fr.t f163 (Fr.m g165 (by decide))
                    refine rsr (cV_e rfl) ?_
                    refine rsr (vC_e (rk_160 (hR.fr f165))) ?_
                    refine RrI (x195_s (by omega) (hR.fr f165) (e165_k0) (e165_k1) (e165_em164) (e165_k2) (e165_k3) (e165_k4) ((g165.i _ _ (by decide)).trans ((g163.i _ _ (by decide)).trans ((sI_nej (by decide)).trans ((sI_nej (by decide)).trans ((FR117.i _ _ (by decide)).trans h49))))) (li_59) (by omega)) fun v Ma167 h167 => ?_
                    obtain ⟨rv166, em166, rfl, g167, e167_em166, e167_k0, e167_k1, e167_k2, e167_k3, e167_k4, p167_0, p167_1⟩ := h167
                    have f167 : Fr W_rp Mr Ma167 := Fr.t f165 (Fr.m g167 (by decide))
                    refine rsr (cI_e rfl) ?_
                    refine rsr (jv_e) ?_
                    exact Rs.ok (Or.inr ⟨1, ((pl i117)), f161, f167, ⟨i117, sz160, sn160, uc160, e161_k0, e161_k1, e161_k2, e161_k3, e161_sz160, e161_sn160, e161_uc160, by omega⟩, ⟨em166, s, u117, mu, ut, e167_k0, e167_k1, e167_em166, e167_k2, e167_k3, e167_k4, (g167.i _ _ (by decide)).trans ((g165.i _ _ (by decide)).trans ((g163.i _ _ (by decide)).trans ((sI_nej (by decide)).trans ((sI_nej (by decide)).trans ((FR117.i _ _ (by decide)).trans h49))))), by omega⟩⟩)
                  ·
                    refine rsl (cV_e (a64_2 (by omega) hS (hC.fr FL117) (hTk.fr (WL := W_cp) FL117 (by decide)) (q117_12) (q117_13) (q117_10) (li_61) (by omega))) ?_
                    refine rsl (vC_e (ck_65 (hC.fr FL117).sI.sI.sI)) ?_
                    refine RlV (y99_0 (by omega) (hC.fr FL117).sI.sI.sI (hTk.fr (WL := W_cp) (Fr.sI (by decide) (Fr.sI (by decide) (Fr.sI (by decide) FL117))) (by decide)) ((sI_nej (by decide)).trans ((sI_nej (by decide)).trans ((sI_nej (by decide)).trans (q117_12)))) (sI_eq) ((sI_nej (by decide)).trans ((sI_nej (by decide)).trans (sI_eq))) ((sI_nej (by decide)).trans (sI_eq)) ((sI_nej (by decide)).trans ((sI_nej (by decide)).trans ((sI_nej (by decide)).trans (q117_9)))) ((sI_nej (by decide)).trans ((sI_nej (by decide)).trans ((sI_nej (by decide)).trans (q117_16)))) ((sI_nej (by decide)).trans ((sI_nej (by decide)).trans ((sI_nej (by decide)).trans (q117_19)))) (li_0) (hv0) (by omega)) fun v Ma169 h169 => ?_
                    obtain ⟨sz168, sn168, uc168, g169, e169_sz168, e169_sn168, e169_uc168, e169_k0, e169_k1, e169_k2, e169_k3, p169_0, p169_1, p169_2⟩ := h169
                    have f169 : Fr W_cp Mc Ma169 := Fr.t (Fr.sI (by decide) (Fr.sI (by decide) (Fr.sI (by decide) FL117))) (Fr.m g169 (by decide))
                    refine rsl (cV_e rfl) ?_
                    refine rsl (vC_e (ck_65 (hC.fr f169))) ?_
                    refine RlV (y64 (by omega) (hC.fr f169) (hTk.fr (WL := W_cp) f169 (by decide)) (e169_k3) (e169_k0) (e169_k1) (e169_k2) (e169_sz168) (e169_sn168) (e169_uc168) (li_59) (by omega)) fun v Ma171 h171 => ?_
                    obtain ⟨sz170, sn170, uc170, g171, e171_sz170, e171_sn170, e171_uc170, e171_k0, e171_k1, e171_k2, e171_k3, p171_0, p171_1, p171_2⟩ := h171
                    have f171 : Fr W_cp Mc Ma171 := Fr.t f169 (Fr.m g171 (by decide))
                    refine rsl (cV_e rfl) ?_
                    refine rsl (jn_v) ?_
                    refine rsl (if_neg (eqI_n (li_1) (li_0) (by omega))) ?_
                    refine rsl (vC_e (ck_65 (hC.fr f171))) ?_
                    refine RlV (y105 (by omega) (hC.fr f171) (hTk.fr (WL := W_cp) f171 (by decide)) (e171_k3) (e171_k0) (e171_k1) (e171_k2) (e171_sz170) (e171_sn170) (e171_uc170) (congrArg iI p13_0) (li_3) (li_6) (by omega)) fun v Ma173 h173 => ?_
                    obtain ⟨sz172, sn172, uc172, g173, e173_sz172, e173_sn172, e173_uc172, e173_k0, e173_k1, e173_k2, e173_k3, p173_0, p173_1, p173_2⟩ := h173
                    have f173 : Fr W_cp Mc Ma173 := Fr.t f171 (Fr.m g173 (by decide))
                    refine rsl (cV_e rfl) ?_
                    refine rsl (jv_e) ?_
                    refine rsr (vC_e (rk_160 (hR.fr FR117))) ?_
                    refine rsr (cI_e (a195_61_2 (by omega) hS (hR.fr FR117) (w117_36) (w117_37) (w117_41) (li_61) (by omega))) ?_
                    refine rsr (vC_e (rk_160 (hR.fr FR117).sI.sI)) ?_
                    refine RrV (x211_s (by omega) (hR.fr FR117).sI.sI ((sI_nej (by decide)).trans (sI_eq)) (sI_eq) ((sI_nej (by decide)).trans ((sI_nej (by decide)).trans (w117_43))) ((sI_nej (by decide)).trans ((sI_nej (by decide)).trans (w117_51))) ((sI_nej (by decide)).trans ((sI_nej (by decide)).trans (w117_53))) ((sI_nej (by decide)).trans ((sI_nej (by decide)).trans ((FR117.i _ _ (by decide)).trans h48))) ((sI_nej (by decide)).trans ((sI_nej (by decide)).trans ((FR117.i _ _ (by decide)).trans h49)))  (by omega)) fun v Ma175 h175 => ?_
                    obtain ⟨em174, g175, e175_em174, e175_k0, e175_k1, e175_k2, e175_k3, e175_k4, p175_0⟩ := h175
                    have f175 : Fr W_rp Mr Ma175 := Fr.t (Fr.sI (by decide) (Fr.sI (by decide) (Fr.m FR117 (by decide)))) (Fr.m g175 (by decide))
                    refine rsr (cV_e rfl) ?_
                    refine rsr (vC_e (rk_160 (hR.fr f175))) ?_
                    refine RrV (x202_s (by omega) (hR.fr f175) (e175_k0) (e175_k1) (e175_em174) (e175_k2) (e175_k3) (e175_k4) ((g175.i _ _ (by decide)).trans ((sI_nej (by decide)).trans ((sI_nej (by decide)).trans ((FR117.i _ _ (by decide)).trans h49)))) (congrArg iI p114_0) (li_3) (li_6) (by omega)) fun v Ma177 h177 => ?_
                    obtain ⟨em176, g177, e177_em176, e177_k0, e177_k1, e177_k2, e177_k3, e177_k4, p177_0⟩ := h177
                    have f177 : Fr W_rp Mr Ma177 := Fr.t f175 (Fr.m g177 (by decide))
                    refine rsr (cV_e rfl) ?_
                    refine rsr (vC_e (rk_160 (hR.fr f177))) ?_
                    refine RrI (x195_s (by omega) (hR.fr f177) (e177_k0) (e177_k1) (e177_em176) (e177_k2) (e177_k3) (e177_k4) ((g177.i _ _ (by decide)).trans ((g175.i _ _ (by decide)).trans ((sI_nej (by decide)).trans ((sI_nej (by decide)).trans ((FR117.i _ _ (by decide)).trans h49))))) (li_59) (by omega)) fun v Ma179 h179 => ?_
                    obtain ⟨rv178, em178, rfl, g179, e179_em178, e179_k0, e179_k1, e179_k2, e179_k3, e179_k4, p179_0, p179_1⟩ := h179
                    have f179 : Fr W_rp Mr Ma179 := Fr.t f177 (Fr.m g179 (by decide))
                    refine rsr (cI_e rfl) ?_
                    refine rsr (jv_e) ?_
                    exact Rs.ok (Or.inr ⟨2, ((pl i117)), f173, f179, ⟨i117, sz172, sn172, uc172, e173_k0, e173_k1, e173_k2, e173_k3, e173_sz172, e173_sn172, e173_uc172, by omega⟩, ⟨em178, s, u117, mu, ut, e179_k0, e179_k1, e179_em178, e179_k2, e179_k3, e179_k4, (g179.i _ _ (by decide)).trans ((g177.i _ _ (by decide)).trans ((g175.i _ _ (by decide)).trans ((sI_nej (by decide)).trans ((sI_nej (by decide)).trans ((FR117.i _ _ (by decide)).trans h49))))), by omega⟩⟩)
              ·
                have FL117 : Fr W_cp Mc Mx117 := Fr.t f13 fl117
                have FR117 : Fr W_rp Mr Nx117 := Fr.t (Fr.m f114 W_rx_p) fr117
                obtain ⟨ti117, tz117, tn117, tu117, t13117, t10117, t11117, t12117, t9117, t16117, t19117, tb117⟩ := tc117
                obtain ⟨re117, rn117, ru117, rm117, rt117, u41117, u42117, u43117, u51117, u53117, u48117, u49117, ub117⟩ := tr117
                refine rsl (cV_e rfl) ?_
                refine rsr (cV_e rfl) ?_
                refine rsl (jv_e) ?_
                refine rsl (vC_e (ck_65 (hC.fr FL117))) ?_
                refine RlV (y64 (by omega) (hC.fr FL117) (hTk.fr (WL := W_cp) FL117 (by decide)) (t12117) (t13117) (t10117) (t11117) (t9117) (t16117) (t19117) (li_61) (by omega)) fun v Ma181 h181 => ?_
                obtain ⟨sz180, sn180, uc180, g181, e181_sz180, e181_sn180, e181_uc180, e181_k0, e181_k1, e181_k2, e181_k3, p181_0, p181_1, p181_2⟩ := h181
                have f181 : Fr W_cp Mc Ma181 := Fr.t FL117 (Fr.m g181 (by decide))
                refine rsl (cV_e rfl) ?_
                refine rsl (vC_e (ck_65 (hC.fr f181))) ?_
                refine RlV (y99_0 (by omega) (hC.fr f181) (hTk.fr (WL := W_cp) f181 (by decide)) (e181_k3) (e181_k0) (e181_k1) (e181_k2) (e181_sz180) (e181_sn180) (e181_uc180) (li_0) (hv0) (by omega)) fun v Ma183 h183 => ?_
                obtain ⟨sz182, sn182, uc182, g183, e183_sz182, e183_sn182, e183_uc182, e183_k0, e183_k1, e183_k2, e183_k3, p183_0, p183_1, p183_2⟩ := h183
                have f183 : Fr W_cp Mc Ma183 := Fr.t f181 (Fr.m g183 (by decide))
                refine rsl (cV_e rfl) ?_
                refine rsl (vC_e (ck_65 (hC.fr f183))) ?_
                refine RlV (y64 (by omega) (hC.fr f183) (hTk.fr (WL := W_cp) f183 (by decide)) (e183_k3) (e183_k0) (e183_k1) (e183_k2) (e183_sz182) (e183_sn182) (e183_uc182) (li_59) (by omega)) fun v Ma185 h185 => ?_
                obtain ⟨sz184, sn184, uc184, g185, e185_sz184, e185_sn184, e185_uc184, e185_k0, e185_k1, e185_k2, e185_k3, p185_0, p185_1, p185_2⟩ := h185
                have f185 : Fr W_cp Mc Ma185 := Fr.t f183 (Fr.m g185 (by decide))
                refine rsl (cV_e rfl) ?_
                refine rsl (jn_v) ?_
                refine rsl (if_neg (eqI_n (li_1) (li_0) (by omega))) ?_
                refine rsl (vC_e (ck_65 (hC.fr f185))) ?_
                refine RlV (y105 (by omega) (hC.fr f185) (hTk.fr (WL := W_cp) f185 (by decide)) (e185_k3) (e185_k0) (e185_k1) (e185_k2) (e185_sz184) (e185_sn184) (e185_uc184) (congrArg iI p13_0) (li_3) (li_6) (by omega)) fun v Ma187 h187 => ?_
                obtain ⟨sz186, sn186, uc186, g187, e187_sz186, e187_sn186, e187_uc186, e187_k0, e187_k1, e187_k2, e187_k3, p187_0, p187_1, p187_2⟩ := h187
                have f187 : Fr W_cp Mc Ma187 := Fr.t f185 (Fr.m g187 (by decide))
                refine rsl (cV_e rfl) ?_
                refine rsl (jv_e) ?_
                refine rsr (vC_e (rk_160 (hR.fr FR117))) ?_
                refine RrI (x195_s (by omega) (hR.fr FR117) (u41117) (u42117) (u43117) (u51117) (u53117) (u48117) (u49117) (li_61) (by omega)) fun v Ma189 h189 => ?_
                obtain ⟨rv188, em188, rfl, g189, e189_em188, e189_k0, e189_k1, e189_k2, e189_k3, e189_k4, p189_0, p189_1⟩ := h189
                have f189 : Fr W_rp Mr Ma189 := Fr.t FR117 (Fr.m g189 (by decide))
                refine rsr (cI_e rfl) ?_
                refine rsr (vC_e (rk_160 (hR.fr f189))) ?_
                refine RrV (x211_s (by omega) (hR.fr f189) (e189_k0) (e189_k1) (e189_em188) (e189_k2) (e189_k3) (e189_k4) ((g189.i _ _ (by decide)).trans (u49117))  (by omega)) fun v Ma191 h191 => ?_
                obtain ⟨em190, g191, e191_em190, e191_k0, e191_k1, e191_k2, e191_k3, e191_k4, p191_0⟩ := h191
                have f191 : Fr W_rp Mr Ma191 := Fr.t f189 (Fr.m g191 (by decide))
                refine rsr (cV_e rfl) ?_
                refine rsr (vC_e (rk_160 (hR.fr f191))) ?_
                refine RrV (x202_s (by omega) (hR.fr f191) (e191_k0) (e191_k1) (e191_em190) (e191_k2) (e191_k3) (e191_k4) ((g191.i _ _ (by decide)).trans ((g189.i _ _ (by decide)).trans (u49117))) (congrArg iI p114_0) (li_3) (li_6) (by omega)) fun v Ma193 h193 => ?_
                obtain ⟨em192, g193, e193_em192, e193_k0, e193_k1, e193_k2, e193_k3, e193_k4, p193_0⟩ := h193
                have f193 : Fr W_rp Mr Ma193 := Fr.t f191 (Fr.m g193 (by decide))
                refine rsr (cV_e rfl) ?_
                refine rsr (vC_e (rk_160 (hR.fr f193))) ?_
                refine RrI (x195_s (by omega) (hR.fr f193) (e193_k0) (e193_k1) (e193_em192) (e193_k2) (e193_k3) (e193_k4) ((g193.i _ _ (by decide)).trans ((g191.i _ _ (by decide)).trans ((g189.i _ _ (by decide)).trans (u49117)))) (li_59) (by omega)) fun v Ma195 h195 => ?_
                obtain ⟨rv194, em194, rfl, g195, e195_em194, e195_k0, e195_k1, e195_k2, e195_k3, e195_k4, p195_0, p195_1⟩ := h195
                have f195 : Fr W_rp Mr Ma195 := Fr.t f193 (Fr.m g195 (by decide))
                refine rsr (cI_e rfl) ?_
                refine rsr (jv_e) ?_
                exact Rs.ok (Or.inr ⟨F117, P117, f187, f195, ⟨ti117, sz186, sn186, uc186, e187_k0, e187_k1, e187_k2, e187_k3, e187_sz186, e187_sn186, e187_uc186, by omega⟩, ⟨em194, rn117, ru117, rm117, rt117, e195_k0, e195_k1, e195_em194, e195_k2, e195_k3, e195_k4, (g195.i _ _ (by decide)).trans ((g193.i _ _ (by decide)).trans ((g191.i _ _ (by decide)).trans ((g189.i _ _ (by decide)).trans (u49117)))), by omega⟩⟩)
            ·
              refine RrI (a197 (by omega) (hR.fr f114) ((g114.i _ _ (by decide)).trans (wa_51)) (lra.fr g114 (by decide)) (by omega)) fun v Nl116 hl116 => ?_
              obtain ⟨r9, rfl, hMl, hr9⟩ := hl116
              rw [hMl]
              have q9 := LcF.one hr9 hrl
              rw [q9]
              refine rsr (cI_e rfl) ?_
              refine rsr (jv_e) ?_
              try dsimp only
              refine rsr (gtI_q (w := iI ((kr (kd (i + 3))))) (rk_160 (hR.fr f114)) (e114_k1)) ?_
              refine rsr (jn_v) ?_
              refine rsr (if_neg (krI_n (k := 40) (rfl) (li_40) (hS.ok (i + 3) (by omega) (by omega)) (by unfold KdOK sgk; omega) (by decide +kernel) (by omega) (by omega))) ?_
              refine rsr (gtI_q (w := iI ((kr (kd (i + 3))))) (rk_160 (hR.fr f114)) (e114_k1)) ?_
              refine rsr (if_pos (krI_p (k := 91) (rfl) (li_91) (by omega) (by decide +kernel))) ?_
              refine rsr (vC_e (rk_160 (hR.fr f114))) ?_
              refine Rb_VV (hX _ _ (by omega) (by omega) T n m kd pl E tx ua ut mu _ _ G (pu U u [uc, (V Mr 201 u.toNat), (V Mr 200 u.toNat), (pl i), (pl (i + 2)), (V Mr 206 u.toNat), ut, 0, (V Mc 79 uc.toNat), (V Mc 80 uc.toNat), (pl i)]) Hl (pux X u [(tx i), (tx (i + 2))]) (i + 3) e s (u + 1) (uc + 1) _ hS (hCx.fr f13 f114) ⟨e13_k0, e13_k2, e13_k3, (g13.i _ _ (by decide)).trans (qa_9), (g13.i _ _ (by decide)).trans (qa_16), e13_k1⟩ ⟨e114_k1, e114_k2, e114_k3, e114_k4, (g114.i _ _ (by decide)).trans (wa_43), (g114.i _ _ (by decide)).trans (wa_51), e114_k0, (g114.i _ _ (by decide)).trans (wa_50), p114_2⟩ ⟨(caa.fr g13 (by decide)), (raa.fr g114 (by decide)), (lca.fr g13 (by decide)), (lra.fr g114 (by decide)), (CU.add cua (by omega) (by omega) p13_1 rfl rfl), (RU.add rua (by omega) p114_1 rfl)⟩ ⟨by omega, by omega, by omega, by omega, by omega, by omega, by omega, by omega, by omega, by omega, by omega, by omega⟩ (by omega) (vs1 (hv0))) fun v Mx196 w Nx196 hx196 => ?_
              rcases hx196 with ⟨i196, e196, u196, uc196, G196, U196, X196, fl196, fr196, sc196, sr196, rw196, bd196, mv196, ag196, au196, ax196, tp196, dp196, kv196⟩ | ⟨F196, P196, fl196, fr196, tc196, tr196⟩
              ·
                have FL196 : Fr W_cp Mc Mx196 := Fr.t f13 fl196
                have FR196 : Fr W_rx Mr Nx196 := Fr.t f114 fr196
                obtain ⟨bb196_0, bb196_1, bb196_2, bb196_3, bb196_4, bb196_5, bb196_6, bb196_7, bb196_8, bb196_9, bb196_10, bb196_11⟩ := bd196
                obtain ⟨q196_12, q196_13, q196_10, q196_9, q196_16, q196_19⟩ := sc196
                obtain ⟨w196_36, w196_37, w196_38, w196_41, w196_43, w196_51, w196_53, w196_50, w196_n⟩ := sr196
                obtain ⟨ca196, ra196, lc196, lr196, cu196, ru196⟩ := rw196
                have hk197 := (hS.ok i196 (by omega) (by omega)).r
                have ku196 := KU.t (KU.us kua p13_1 g13 (by decide) (by omega)) kv196 (by omega)
                have ty198 := Tye.t (d3 := 1) ty2 ag196 tp196 (by omega)
                have du199 := DU.t (DU.r (ut := ut) (mu := mu) (c := uc) (G := G) (a := e)) ag196 au196 ax196 dp196 (by omega)
                refine rsl (cV_e rfl) ?_
                refine rsr (cV_e rfl) ?_
                refine rsl (jv_e) ?_
                refine rsl (vC_e (ck_65 (hC.fr FL196))) ?_
                by_cases c200 : ((kd i196)) = 61
                ·
                  have hm201 : i196 + 1 < m := hS.more i196 (by omega) (by omega) (by omega)
                  refine rsl (cV_e (a64q (by omega) hS (hC.fr FL196) (hTk.fr (WL := W_cp) FL196 (by decide)) (q196_12) (q196_13) (q196_10) (li_61) (i2 := (i196 + 1)) (by omega) (by omega))) ?_
                  have hk202 := (hS.ok (i196 + 1) (by omega) (by omega)).r
                  refine rsl (vC_e (ck_65 (hC.fr FL196).sI.sI)) ?_
                  refine rsr (vC_e (rk_160 (hR.fr FR196))) ?_
                  refine RrI (a195_61 (by omega) hS (hR.fr FR196) (hT.fr (W := W_rx) FR196 (by decide) (by decide)) (fun i a b => (Fr.lc (W := W_rx) FR196 _ (by decide) _).trans (hW i a b)) (w196_36) (w196_37) (w196_38) (w196_41) (li_61) (i2 := (i196 + 1)) (by omega) (by omega)) fun v Ma204 h204 => ?_
                  obtain ⟨r203, rfl, g204, e204_k0, e204_k1, e204_k2, p204_0, p204_1⟩ := h204
                  have f204 : Fr W_rx Mr Ma204 := Fr.t FR196 (Fr.m g204 (by decide))
                  refine rsr (cI_e rfl) ?_
                  refine rsr (vC_e (rk_160 (hR.fr f204))) ?_
                  refine Rb_VV (hE _ _ (by omega) (by omega) T n m kd pl E tx ua ut mu _ _ G196 U196 Hl X196 (i196 + 1) e196 s u196 uc196 _ hS (hCx.fr (Fr.sI (by decide) (Fr.sI (by decide) FL196)) f204) ⟨(sI_nej (by decide)).trans (sI_eq), sI_eq, (sI_nej (by decide)).trans ((sI_nej (by decide)).trans (q196_10)), (sI_nej (by decide)).trans ((sI_nej (by decide)).trans (q196_9)), (sI_nej (by decide)).trans ((sI_nej (by decide)).trans (q196_16)), (sI_nej (by decide)).trans ((sI_nej (by decide)).trans (q196_19))⟩ ⟨e204_k0, e204_k1, e204_k2, (g204.i _ _ (by decide)).trans (w196_41), (g204.i _ _ (by decide)).trans (w196_43), (g204.i _ _ (by decide)).trans (w196_51), (g204.i _ _ (by decide)).trans (w196_53), (g204.i _ _ (by decide)).trans (w196_50), p204_1⟩ ⟨(ca196.fr (W := W_c0) (Fr.sI (by decide) (Fr.sI (by decide) Fr.r)) (by decide)), (ra196.fr g204 (by decide)), (lc196.fr (W := W_c0) (Fr.sI (by decide) (Fr.sI (by decide) Fr.r)) (by decide)), (lr196.fr g204 (by decide)), (cu196.fr (W := W_c0) (Fr.sI (by decide) (Fr.sI (by decide) Fr.r)) (by decide)), (ru196.fr g204 (by decide))⟩ ⟨by omega, by omega, by omega, by omega, by omega, by omega, by omega, by omega, by omega, by omega, by omega, by omega⟩ (vs2 (li_0) (hv0))) fun v Mx205 w Nx205 hx205 => ?_
                  rcases hx205 with ⟨i205, e205, u205, uc205, G205, U205, X205, fl205, fr205, sc205, sr205, rw205, bd205, mv205, ag205, au205, ax205, tp205, dp205, kv205⟩ | ⟨F205, P205, fl205, fr205, tc205, tr205⟩
                  ·
                    have FL205 : Fr W_cp Mc Mx205 := Fr.t (Fr.sI (by decide) (Fr.sI (by decide) FL196)) fl205
                    have FR205 : Fr W_rx Mr Nx205 := Fr.t f204 fr205
                    obtain ⟨bb205_0, bb205_1, bb205_2, bb205_3, bb205_4, bb205_5, bb205_6, bb205_7, bb205_8, bb205_9, bb205_10, bb205_11⟩ := bd205
                    obtain ⟨q205_12, q205_13, q205_10, q205_9, q205_16, q205_19⟩ := sc205
                    obtain ⟨w205_36, w205_37, w205_38, w205_41, w205_43, w205_51, w205_53, w205_50, w205_n⟩ := sr205
                    obtain ⟨ca205, ra205, lc205, lr205, cu205, ru205⟩ := rw205
                    have hk206 := (hS.ok i205 (by omega) (by omega)).r
                    have ku205 := KU.t (ku196.fr (W := W_c0) (Fr.sI (by decide) (Fr.sI (by decide) Fr.r)) (by decide)) kv205 (by omega)
                    have ty207 := Tye.t (d3 := 2) ty198 ag205 tp205 (by omega)
                    have du208 := DU.t du199 ag205 au205 ax205 dp205 (by omega)
                    refine rsl (cV_e rfl) ?_
                    refine rsr (cV_e rfl) ?_
                    refine rsl (vC_e (ck_65 (hC.fr FL205))) ?_
                    by_cases c209 : ((kd i205)) = 59
                    ·
                      have hm210 : i205 + 1 < m := hS.more i205 (by omega) (by omega) (by omega)
                      refine rsl (cV_e (a64q (by omega) hS (hC.fr FL205) (hTk.fr (WL := W_cp) FL205 (by decide)) (q205_12) (q205_13) (q205_10) (li_59) (i2 := (i205 + 1)) (by omega) (by omega))) ?_
                      have hk211 := (hS.ok (i205 + 1) (by omega) (by omega)).r
                      refine rsl (jn_v) ?_
                      refine rsl (if_neg (eqI_n (li_1) (li_0) (by omega))) ?_
                      refine rsl (vC_e (ck_65 (hC.fr FL205).sI.sI)) ?_
                      have tb213 := Tyb.ex (dp := dp) (d := 2) (s' := s) (q := (e205 + 1)) (n1 := 0) (ut := ut) (mu := mu) (l := []) ty207 (Or.inr (Or.inr (Or.inr (Or.inr (Or.inr (Or.inl (by omega)))))) : Eff 6 u 0 2 s 0 s) (by omega) ⟨by omega, by omega⟩ (by omega)
                      have du214 := DU.set (b1 := 3) (p := 3) (q := (e205 + 1)) (u := u) (o := 6) (n1 := 0) (p1 := -2) (n3 := u) (l := []) (g := 0) du208 (by omega) (by omega) (by omega) (by omega) (fun q => absurd q (by decide)) (Int.le_of_eq (Eq.symm ((au205 0 _ (by omega)).trans ((au196 0 _ (by omega)).trans (pu_e rfl))))) ((au205 6 _ (by omega)).trans ((au196 6 _ (by omega)).trans (pu_e (by omega)))) (U3tr (ax205 0 _ (by omega)) (au205 3 _ (by omega)) (au205 10 _ (by omega)) (U3tr (ax196 0 _ (by omega)) (au196 3 _ (by omega)) (au196 10 _ (by omega)) (Or.inr ((pu_e (by omega)).trans (pu_e (by omega)).symm)))) (by omega) (by omega)
                      refine RlV (a105 (by omega) (hC.fr FL205).sI.sI ((sI_nej (by decide)).trans ((sI_nej (by decide)).trans (q205_9))) (congrArg iI p13_0) (li_3) (li_6) (by omega)) fun v Ma215 h215 => ?_
                      obtain ⟨g215, e215_k0, p215_0, p215_1⟩ := h215
                      have f215 : Fr W_cp Mc Ma215 := Fr.t (Fr.sI (by decide) (Fr.sI (by decide) FL205)) (Fr.m g215 (by decide))
                      refine rsl (cV_e rfl) ?_
                      refine rsl (jv_e) ?_
                      refine rsr (vC_e (rk_160 (hR.fr FR205))) ?_
                      refine RrV (a202 (by omega) (hR.fr FR205) (w205_43) ((FR205.i _ _ (by decide)).trans h49) ((FR205.i _ _ (by decide)).trans h48) (congrArg iI p114_0) (li_3) (li_6) (by omega)) fun v Ma216 h216 => ?_
                      obtain ⟨g216, e216_k0, p216_0, p216_1⟩ := h216
                      have f216 : Fr W_rx Mr Ma216 := Fr.t FR205 (Fr.m g216 (by decide))
                      refine rsr (cV_e rfl) ?_
                      refine rsr (vC_e (rk_160 (hR.fr f216))) ?_
                      refine RrI (a195_59 (by omega) hS (hR.fr f216) (hT.fr (W := W_rx) f216 (by decide) (by decide)) (fun i a b => (Fr.lc (W := W_rx) f216 _ (by decide) _).trans (hW i a b)) ((g216.i _ _ (by decide)).trans (w205_36)) ((g216.i _ _ (by decide)).trans (w205_37)) ((g216.i _ _ (by decide)).trans (w205_38)) ((g216.i _ _ (by decide)).trans (w205_41)) (li_59) (i2 := (i205 + 1)) (by omega) (by omega)) fun v Ma218 h218 => ?_
                      obtain ⟨r217, rfl, g218, e218_k0, e218_k1, e218_k2, p218_0, p218_1⟩ := h218
                      have f218 : Fr W_rx Mr Ma218 := Fr.t f216 (Fr.m g218 (by decide))
                      refine rsr (cI_e rfl) ?_
                      refine rsr (jv_e) ?_
                      exact Rs.ok (Or.inl ⟨(i205 + 1), s, Hl, ⟨(e205 + 1), u205, uc205, (pu G205 e205 [6, 0, -2, u, ut, mu, 0]), (ps U205 u 3 3 e205), X205, f215, f218, ⟨(g215.i _ _ (by decide)).trans ((sI_nej (by decide)).trans (sI_eq)), (g215.i _ _ (by decide)).trans (sI_eq), (g215.i _ _ (by decide)).trans ((sI_nej (by decide)).trans ((sI_nej (by decide)).trans (q205_10))), e215_k0, (g215.i _ _ (by decide)).trans ((sI_nej (by decide)).trans ((sI_nej (by decide)).trans (q205_16))), (g215.i _ _ (by decide)).trans ((sI_nej (by decide)).trans ((sI_nej (by decide)).trans (q205_19)))⟩, ⟨e218_k0, e218_k1, e218_k2, (g218.i _ _ (by decide)).trans ((g216.i _ _ (by decide)).trans (w205_41)), (g218.i _ _ (by decide)).trans (e216_k0), (g218.i _ _ (by decide)).trans ((g216.i _ _ (by decide)).trans (w205_51)), (g218.i _ _ (by decide)).trans ((g216.i _ _ (by decide)).trans (w205_53)), (g218.i _ _ (by decide)).trans ((g216.i _ _ (by decide)).trans (w205_50)), p218_1⟩, ⟨(CA1.em (ca205.fr (W := W_c0) (Fr.sI (by decide) (Fr.sI (by decide) Fr.r)) (by decide)) (by omega) p215_0 rfl), ((RA1.em ra205 (by omega) p216_0 rfl).fr g218 (by decide)), ((lc205.fr (W := W_c0) (Fr.sI (by decide) (Fr.sI (by decide) Fr.r)) (by decide)).fr g215 (by decide)), ((lr205.fr g216 (by decide)).fr g218 (by decide)), (CU.set (b := 3) (cu205.fr (W := W_c0) (Fr.sI (by decide) (Fr.sI (by decide) Fr.r)) (by decide)) ⟨by omega, by omega⟩ ((au205 0 _ (by omega)).trans ((au196 0 _ (by omega)).trans (pu_e rfl))) p215_1 g215 (by decide)), ((RU.set ru205 ⟨by omega, by omega⟩ p216_1 g216 (by decide)).fr g218 (by decide))⟩, ⟨by omega, by omega, by omega, by omega, by omega, by omega, by omega, by omega, by omega, by omega, by omega, by omega⟩, ⟨by omega, by omega, by omega, by omega, by omega, by omega⟩, (Ag.pu (Ag.t (Ag.t Ag.r ag196 (by omega)) ag205 (by omega)) (by omega)), (Ag.ps (Ag.t (Ag.t (Ag.pu Ag.r (by omega)) au196 (by omega)) au205 (by omega)) (by omega)), (AgL.t (AgL.t (AgL.pu AgL.r (by omega)) ax196 (by omega)) ax205 (by omega)), tb213, du214, ((ku205.fr (W := W_c0) (Fr.sI (by decide) (Fr.sI (by decide) Fr.r)) (by decide)).fr g215 (by decide)), ⟨by omega, fun _ _ _ => rfl⟩⟩⟩)
                    ·
                      by_cases c219 : ((kd i205)) = 1
                      ·
                        refine rsl (cV_e (a64_1 (by omega) hS (hC.fr FL205) (hTk.fr (WL := W_cp) FL205 (by decide)) (q205_12) (q205_13) (q205_10) (li_59) (by omega))) ?_
                        refine rsl (jn_v) ?_
                        refine rsl (if_neg (eqI_n (li_1) (li_0) (by omega))) ?_
                        refine rsl (vC_e (ck_65 (hC.fr FL205).sI.sI.sI)) ?_
                        refine RlV (y105 (by omega) (hC.fr FL205).sI.sI.sI (hTk.fr (WL := W_cp) (Fr.sI (by decide) (Fr.sI (by decide) (Fr.sI (by decide) FL205))) (by decide)) ((sI_nej (by decide)).trans ((sI_nej (by decide)).trans ((sI_nej (by decide)).trans (q205_12)))) (sI_eq) ((sI_nej (by decide)).trans ((sI_nej (by decide)).trans (sI_eq))) ((sI_nej (by decide)).trans (sI_eq)) ((sI_nej (by decide)).trans ((sI_nej (by decide)).trans ((sI_nej (by decide)).trans (q205_9)))) ((sI_nej (by decide)).trans ((sI_nej (by decide)).trans ((sI_nej (by decide)).trans (q205_16)))) ((sI_nej (by decide)).trans ((sI_nej (by decide)).trans ((sI_nej (by decide)).trans (q205_19)))) (congrArg iI p13_0) (li_3) (li_6) (by omega)) fun v Ma221 h221 => ?_
                        obtain ⟨sz220, sn220, uc220, g221, e221_sz220, e221_sn220, e221_uc220, e221_k0, e221_k1, e221_k2, e221_k3, p221_0, p221_1, p221_2⟩ := h221
                        have f221 : Fr W_cp Mc Ma221 := Fr.t (Fr.sI (by decide) (Fr.sI (by decide) (Fr.sI (by decide) FL205))) (Fr.m g221 (by decide))
                        refine rsl (cV_e rfl) ?_
                        refine rsl (jv_e) ?_
                        refine rsr (vC_e (rk_160 (hR.fr FR205))) ?_
                        refine RrV (a202 (by omega) (hR.fr FR205) (w205_43) ((FR205.i _ _ (by decide)).trans h49) ((FR205.i _ _ (by decide)).trans h48) (congrArg iI p114_0) (li_3) (li_6) (by omega)) fun v Ma222 h222 => ?_
                        obtain ⟨g222, e222_k0, p222_0, p222_1⟩ := h222
                        have f222 : Fr W_rx Mr Ma222 := Fr.t FR205 (Fr.m g222 (by decide))
                        refine rsr (cV_e rfl) ?_
                        refine rsr (vC_e (rk_160 (hR.fr f222))) ?_
                        refine rsr (cI_e (a195_59_1 (by omega) hS (hR.fr f222) ((g222.i _ _ (by decide)).trans (w205_36)) ((g222.i _ _ (by decide)).trans (w205_37)) ((g222.i _ _ (by decide)).trans (w205_41)) (li_59) (by omega))) ?_
                        refine rsr (jv_e) ?_
                        exact Rs.ok (Or.inr ⟨1, ((pl i205)), f221, (Fr.sI (by decide) (Fr.sI (by decide) (Fr.m f222 (by decide)))), ⟨i205, sz220, sn220, uc220, e221_k0, e221_k1, e221_k2, e221_k3, e221_sz220, e221_sn220, e221_uc220, by omega⟩, ⟨(e205 + 1), s, u205, mu, ut, (sI_nej (by decide)).trans (sI_eq), sI_eq, (sI_nej (by decide)).trans ((sI_nej (by decide)).trans (e222_k0)), (sI_nej (by decide)).trans ((sI_nej (by decide)).trans ((g222.i _ _ (by decide)).trans (w205_51))), (sI_nej (by decide)).trans ((sI_nej (by decide)).trans ((g222.i _ _ (by decide)).trans (w205_53))), (sI_nej (by decide)).trans ((sI_nej (by decide)).trans ((g222.i _ _ (by decide)).trans ((FR205.i _ _ (by decide)).trans h48))), (sI_nej (by decide)).trans ((sI_nej (by decide)).trans ((g222.i _ _ (by decide)).trans ((FR205.i _ _ (by decide)).trans h49))), by omega⟩⟩)
                      ·
                        refine rsl (cV_e (a64_2 (by omega) hS (hC.fr FL205) (hTk.fr (WL := W_cp) FL205 (by decide)) (q205_12) (q205_13) (q205_10) (li_59) (by omega))) ?_
                        refine rsl (jn_v) ?_
                        refine rsl (if_neg (eqI_n (li_1) (li_0) (by omega))) ?_
                        refine rsl (vC_e (ck_65 (hC.fr FL205).sI.sI.sI)) ?_
                        refine RlV (y105 (by omega) (hC.fr FL205).sI.sI.sI (hTk.fr (WL := W_cp) (Fr.sI (by decide) (Fr.sI (by decide) (Fr.sI (by decide) FL205))) (by decide)) ((sI_nej (by decide)).trans ((sI_nej (by decide)).trans ((sI_nej (by decide)).trans (q205_12)))) (sI_eq) ((sI_nej (by decide)).trans ((sI_nej (by decide)).trans (sI_eq))) ((sI_nej (by decide)).trans (sI_eq)) ((sI_nej (by decide)).trans ((sI_nej (by decide)).trans ((sI_nej (by decide)).trans (q205_9)))) ((sI_nej (by decide)).trans ((sI_nej (by decide)).trans ((sI_nej (by decide)).trans (q205_16)))) ((sI_nej (by decide)).trans ((sI_nej (by decide)).trans ((sI_nej (by decide)).trans (q205_19)))) (congrArg iI p13_0) (li_3) (li_6) (by omega)) fun v Ma224 h224 => ?_
                        obtain ⟨sz223, sn223, uc223, g224, e224_sz223, e224_sn223, e224_uc223, e224_k0, e224_k1, e224_k2, e224_k3, p224_0, p224_1, p224_2⟩ := h224
                        have f224 : Fr W_cp Mc Ma224 := Fr.t (Fr.sI (by decide) (Fr.sI (by decide) (Fr.sI (by decide) FL205))) (Fr.m g224 (by decide))
                        refine rsl (cV_e rfl) ?_
                        refine rsl (jv_e) ?_
                        refine rsr (vC_e (rk_160 (hR.fr FR205))) ?_
                        refine RrV (a202 (by omega) (hR.fr FR205) (w205_43) ((FR205.i _ _ (by decide)).trans h49) ((FR205.i _ _ (by decide)).trans h48) (congrArg iI p114_0) (li_3) (li_6) (by omega)) fun v Ma225 h225 => ?_
                        obtain ⟨g225, e225_k0, p225_0, p225_1⟩ := h225
                        have f225 : Fr W_rx Mr Ma225 := Fr.t FR205 (Fr.m g225 (by decide))
                        refine rsr (cV_e rfl) ?_
                        refine rsr (vC_e (rk_160 (hR.fr f225))) ?_
                        refine rsr (cI_e (a195_59_2 (by omega) hS (hR.fr f225) ((g225.i _ _ (by decide)).trans (w205_36)) ((g225.i _ _ (by decide)).trans (w205_37)) ((g225.i _ _ (by decide)).trans (w205_41)) (li_59) (by omega))) ?_
                        refine rsr (jv_e) ?_
                        exact Rs.ok (Or.inr ⟨2, ((pl i205)), f224, (Fr.sI (by decide) (Fr.sI (by decide) (Fr.m f225 (by decide)))), ⟨i205, sz223, sn223, uc223, e224_k0, e224_k1, e224_k2, e224_k3, e224_sz223, e224_sn223, e224_uc223, by omega⟩, ⟨(e205 + 1), s, u205, mu, ut, (sI_nej (by decide)).trans (sI_eq), sI_eq, (sI_nej (by decide)).trans ((sI_nej (by decide)).trans (e225_k0)), (sI_nej (by decide)).trans ((sI_nej (by decide)).trans ((g225.i _ _ (by decide)).trans (w205_51))), (sI_nej (by decide)).trans ((sI_nej (by decide)).trans ((g225.i _ _ (by decide)).trans (w205_53))), (sI_nej (by decide)).trans ((sI_nej (by decide)).trans ((g225.i _ _ (by decide)).trans ((FR205.i _ _ (by decide)).trans h48))), (sI_nej (by decide)).trans ((sI_nej (by decide)).trans ((g225.i _ _ (by decide)).trans ((FR205.i _ _ (by decide)).trans h49))), by omega⟩⟩)
                  ·
                    have FL205 : Fr W_cp Mc Mx205 := Fr.t (Fr.sI (by decide) (Fr.sI (by decide) FL196)) fl205
                    have FR205 : Fr W_rp Mr Nx205 := Fr.t (Fr.m f204 W_rx_p) fr205
                    obtain ⟨ti205, tz205, tn205, tu205, t13205, t10205, t11205, t12205, t9205, t16205, t19205, tb205⟩ := tc205
                    obtain ⟨re205, rn205, ru205, rm205, rt205, u41205, u42205, u43205, u51205, u53205, u48205, u49205, ub205⟩ := tr205
                    refine rsl (cV_e rfl) ?_
                    refine rsr (cV_e rfl) ?_
                    refine rsl (vC_e (ck_65 (hC.fr FL205))) ?_
                    refine RlV (y64 (by omega) (hC.fr FL205) (hTk.fr (WL := W_cp) FL205 (by decide)) (t12205) (t13205) (t10205) (t11205) (t9205) (t16205) (t19205) (li_59) (by omega)) fun v Ma227 h227 => ?_
                    obtain ⟨sz226, sn226, uc226, g227, e227_sz226, e227_sn226, e227_uc226, e227_k0, e227_k1, e227_k2, e227_k3, p227_0, p227_1, p227_2⟩ := h227
                    have f227 : Fr W_cp Mc Ma227 := Fr.t FL205 (Fr.m g227 (by decide))
                    refine rsl (cV_e rfl) ?_
                    refine rsl (jn_v) ?_
                    refine rsl (if_neg (eqI_n (li_1) (li_0) (by omega))) ?_
                    refine rsl (vC_e (ck_65 (hC.fr f227))) ?_
                    refine RlV (y105 (by omega) (hC.fr f227) (hTk.fr (WL := W_cp) f227 (by decide)) (e227_k3) (e227_k0) (e227_k1) (e227_k2) (e227_sz226) (e227_sn226) (e227_uc226) (congrArg iI p13_0) (li_3) (li_6) (by omega)) fun v Ma229 h229 => ?_
                    obtain ⟨sz228, sn228, uc228, g229, e229_sz228, e229_sn228, e229_uc228, e229_k0, e229_k1, e229_k2, e229_k3, p229_0, p229_1, p229_2⟩ := h229
                    have f229 : Fr W_cp Mc Ma229 := Fr.t f227 (Fr.m g229 (by decide))
                    refine rsl (cV_e rfl) ?_
                    refine rsl (jv_e) ?_
                    refine rsr (vC_e (rk_160 (hR.fr FR205))) ?_
                    refine RrV (x202_s (by omega) (hR.fr FR205) (u41205) (u42205) (u43205) (u51205) (u53205) (u48205) (u49205) (congrArg iI p114_0) (li_3) (li_6) (by omega)) fun v Ma231 h231 => ?_
                    obtain ⟨em230, g231, e231_em230, e231_k0, e231_k1, e231_k2, e231_k3, e231_k4, p231_0⟩ := h231
                    have f231 : Fr W_rp Mr Ma231 := Fr.t FR205 (Fr.m g231 (by decide))
                    refine rsr (cV_e rfl) ?_
                    refine rsr (vC_e (rk_160 (hR.fr f231))) ?_
                    refine RrI (x195_s (by omega) (hR.fr f231) (e231_k0) (e231_k1) (e231_em230) (e231_k2) (e231_k3) (e231_k4) ((g231.i _ _ (by decide)).trans (u49205)) (li_59) (by omega)) fun v Ma233 h233 => ?_
                    obtain ⟨rv232, em232, rfl, g233, e233_em232, e233_k0, e233_k1, e233_k2, e233_k3, e233_k4, p233_0, p233_1⟩ := h233
                    have f233 : Fr W_rp Mr Ma233 := Fr.t f231 (Fr.m g233 (by decide))
                    refine rsr (cI_e rfl) ?_
                    refine rsr (jv_e) ?_
                    exact Rs.ok (Or.inr ⟨F205, P205, f229, f233, ⟨ti205, sz228, sn228, uc228, e229_k0, e229_k1, e229_k2, e229_k3, e229_sz228, e229_sn228, e229_uc228, by omega⟩, ⟨em232, rn205, ru205, rm205, rt205, e233_k0, e233_k1, e233_em232, e233_k2, e233_k3, e233_k4, (g233.i _ _ (by decide)).trans ((g231.i _ _ (by decide)).trans (u49205)), by omega⟩⟩)
                ·
                  by_cases c234 : ((kd i196)) = 1
                  ·
                    refine rsl (cV_e (a64_1 (by omega) hS (hC.fr FL196) (hTk.fr (WL := W_cp) FL196 (by decide)) (q196_12) (q196_13) (q196_10) (li_61) (by omega))) ?_
                    refine rsl (vC_e (ck_65 (hC.fr FL196).sI.sI.sI)) ?_
                    refine RlV (y99_0 (by omega) (hC.fr FL196).sI.sI.sI (hTk.fr (WL := W_cp) (Fr.sI (by decide) (Fr.sI (by decide) (Fr.sI (by decide) FL196))) (by decide)) ((sI_nej (by decide)).trans ((sI_nej (by decide)).trans ((sI_nej (by decide)).trans (q196_12)))) (sI_eq) ((sI_nej (by decide)).trans ((sI_nej (by decide)).trans (sI_eq))) ((sI_nej (by decide)).trans (sI_eq)) ((sI_nej (by decide)).trans ((sI_nej (by decide)).trans ((sI_nej (by decide)).trans (q196_9)))) ((sI_nej (by decide)).trans ((sI_nej (by decide)).trans ((sI_nej (by decide)).trans (q196_16)))) ((sI_nej (by decide)).trans ((sI_nej (by decide)).trans ((sI_nej (by decide)).trans (q196_19)))) (li_0) (hv0) (by omega)) fun v Ma236 h236 => ?_
                    obtain ⟨sz235, sn235, uc235, g236, e236_sz235, e236_sn235, e236_uc235, e236_k0, e236_k1, e236_k2, e236_k3, p236_0, p236_1, p236_2⟩ := h236
                    have f236 : Fr W_cp Mc Ma236 := Fr.t (Fr.sI (by decide) (Fr.sI (by decide) (Fr.sI (by decide) FL196))) (Fr.m g236 (by decide))
                    refine rsl (cV_e rfl) ?_
                    refine rsl (vC_e (ck_65 (hC.fr f236))) ?_
                    refine RlV (y64 (by omega) (hC.fr f236) (hTk.fr (WL := W_cp) f236 (by decide)) (e236_k3) (e236_k0) (e236_k1) (e236_k2) (e236_sz235) (e236_sn235) (e236_uc235) (li_59) (by omega)) fun v Ma238 h238 => ?_
                    obtain ⟨sz237, sn237, uc237, g238, e238_sz237, e238_sn237, e238_uc237, e238_k0, e238_k1, e238_k2, e238_k3, p238_0, p238_1, p238_2⟩ := h238
                    have f238 : Fr W_cp Mc Ma238 := Fr.t f236 (Fr.m g238 (by decide))
                    refine rsl (cV_e rfl) ?_
                    refine rsl (jn_v) ?_
                    refine rsl (if_neg (eqI_n (li_1) (li_0) (by omega))) ?_
                    refine rsl (vC_e (ck_65 (hC.fr f238))) ?_
                    refine RlV (y105 (by omega) (hC.fr f238) (hTk.fr (WL := W_cp) f238 (by decide)) (e238_k3) (e238_k0) (e238_k1) (e238_k2) (e238_sz237) (e238_sn237) (e238_uc237) (congrArg iI p13_0) (li_3) (li_6) (by omega)) fun v Ma240 h240 => ?_
                    obtain ⟨sz239, sn239, uc239, g240, e240_sz239, e240_sn239, e240_uc239, e240_k0, e240_k1, e240_k2, e240_k3, p240_0, p240_1, p240_2⟩ := h240
                    have f240 : Fr W_cp Mc Ma240 := Fr.t f238 (Fr.m g240 (by decide))
                    refine rsl (cV_e rfl) ?_
                    refine rsl (jv_e) ?_
                    refine rsr (vC_e (rk_160 (hR.fr FR196))) ?_
                    refine rsr (cI_e (a195_61_1 (by omega) hS (hR.fr FR196) (w196_36) (w196_37) (w196_41) (li_61) (by omega))) ?_
                    refine rsr (vC_e (rk_160 (hR.fr FR196).sI.sI)) ?_
                    refine RrV (x211_s (by omega) (hR.fr FR196).sI.sI ((sI_nej (by decide)).trans (sI_eq)) (sI_eq) ((sI_nej (by decide)).trans ((sI_nej (by decide)).trans (w196_43))) ((sI_nej (by decide)).trans ((sI_nej (by decide)).trans (w196_51))) ((sI_nej (by decide)).trans ((sI_nej (by decide)).trans (w196_53))) ((sI_nej (by decide)).trans ((sI_nej (by decide)).trans ((FR196.i _ _ (by decide)).trans h48))) ((sI_nej (by decide)).trans ((sI_nej (by decide)).trans ((FR196.i _ _ (by decide)).trans h49)))  (by omega)) fun v Ma242 h242 => ?_
                    obtain ⟨em241, g242, e242_em241, e242_k0, e242_k1, e242_k2, e242_k3, e242_k4, p242_0⟩ := h242
                    have f242 : Fr W_rp Mr Ma242 := Fr.t (Fr.sI (by decide) (Fr.sI (by decide) (Fr.m FR196 (by decide)))) (Fr.m g242 (by decide))
                    refine rsr (cV_e rfl) ?_
                    refine rsr (vC_e (rk_160 (hR.fr f242))) ?_
                    refine RrV (x202_s (by omega) (hR.fr f242) (e242_k0) (e242_k1) (e242_em241) (e242_k2) (e242_k3) (e242_k4) ((g242.i _ _ (by decide)).trans ((sI_nej (by decide)).trans ((sI_nej (by decide)).trans ((FR196.i _ _ (by decide)).trans h49)))) (congrArg iI p114_0) (li_3) (li_6) (by omega)) fun v Ma244 h244 => ?_
                    obtain ⟨em243, g244, e244_em243, e244_k0, e244_k1, e244_k2, e244_k3, e244_k4, p244_0⟩ := h244
                    have f244 : Fr W_rp Mr Ma244 := Fr.t f242 (Fr.m g244 (by decide))
                    refine rsr (cV_e rfl) ?_
                    refine rsr (vC_e (rk_160 (hR.fr f244))) ?_
                    refine RrI (x195_s (by omega) (hR.fr f244) (e244_k0) (e244_k1) (e244_em243) (e244_k2) (e244_k3) (e244_k4) ((g244.i _ _ (by decide)).trans ((g242.i _ _ (by decide)).trans ((sI_nej (by decide)).trans ((sI_nej (by decide)).trans ((FR196.i _ _ (by decide)).trans h49))))) (li_59) (by omega)) fun v Ma246 h246 => ?_
                    obtain ⟨rv245, em245, rfl, g246, e246_em245, e246_k0, e246_k1, e246_k2, e246_k3, e246_k4, p246_0, p246_1⟩ := h246
                    have f246 : Fr W_rp Mr Ma246 := Fr.t f244 (Fr.m g246 (by decide))
                    refine rsr (cI_e rfl) ?_
                    refine rsr (jv_e) ?_
                    exact Rs.ok (Or.inr ⟨1, ((pl i196)), f240, f246, ⟨i196, sz239, sn239, uc239, e240_k0, e240_k1, e240_k2, e240_k3, e240_sz239, e240_sn239, e240_uc239, by omega⟩, ⟨em245, s, u196, mu, ut, e246_k0, e246_k1, e246_em245, e246_k2, e246_k3, e246_k4, (g246.i _ _ (by decide)).trans ((g244.i _ _ (by decide)).trans ((g242.i _ _ (by decide)).trans ((sI_nej (by decide)).trans ((sI_nej (by decide)).trans ((FR196.i _ _ (by decide)).trans h49))))), by omega⟩⟩)
                  ·
                    refine rsl (cV_e (a64_2 (by omega) hS (hC.fr FL196) (hTk.fr (WL := W_cp) FL196 (by decide)) (q196_12) (q196_13) (q196_10) (li_61) (by omega))) ?_
                    refine rsl (vC_e (ck_65 (hC.fr FL196).sI.sI.sI)) ?_
                    refine RlV (y99_0 (by omega) (hC.fr FL196).sI.sI.sI (hTk.fr (WL := W_cp) (Fr.sI (by decide) (Fr.sI (by decide) (Fr.sI (by decide) FL196))) (by decide)) ((sI_nej (by decide)).trans ((sI_nej (by decide)).trans ((sI_nej (by decide)).trans (q196_12)))) (sI_eq) ((sI_nej (by decide)).trans ((sI_nej (by decide)).trans (sI_eq))) ((sI_nej (by decide)).trans (sI_eq)) ((sI_nej (by decide)).trans ((sI_nej (by decide)).trans ((sI_nej (by decide)).trans (q196_9)))) ((sI_nej (by decide)).trans ((sI_nej (by decide)).trans ((sI_nej (by decide)).trans (q196_16)))) ((sI_nej (by decide)).trans ((sI_nej (by decide)).trans ((sI_nej (by decide)).trans (q196_19)))) (li_0) (hv0) (by omega)) fun v Ma248 h248 => ?_
                    obtain ⟨sz247, sn247, uc247, g248, e248_sz247, e248_sn247, e248_uc247, e248_k0, e248_k1, e248_k2, e248_k3, p248_0, p248_1, p248_2⟩ := h248
                    have f248 : Fr W_cp Mc Ma248 := Fr.t (Fr.sI (by decide) (Fr.sI (by decide) (Fr.sI (by decide) FL196))) (Fr.m g248 (by decide))
                    refine rsl (cV_e rfl) ?_
                    refine rsl (vC_e (ck_65 (hC.fr f248))) ?_
                    refine RlV (y64 (by omega) (hC.fr f248) (hTk.fr (WL := W_cp) f248 (by decide)) (e248_k3) (e248_k0) (e248_k1) (e248_k2) (e248_sz247) (e248_sn247) (e248_uc247) (li_59) (by omega)) fun v Ma250 h250 => ?_
                    obtain ⟨sz249, sn249, uc249, g250, e250_sz249, e250_sn249, e250_uc249, e250_k0, e250_k1, e250_k2, e250_k3, p250_0, p250_1, p250_2⟩ := h250
                    have f250 : Fr W_cp Mc Ma250 := Fr.t f248 (Fr.m g250 (by decide))
                    refine rsl (cV_e rfl) ?_
                    refine rsl (jn_v) ?_
                    refine rsl (if_neg (eqI_n (li_1) (li_0) (by omega))) ?_
                    refine rsl (vC_e (ck_65 (hC.fr f250))) ?_
                    refine RlV (y105 (by omega) (hC.fr f250) (hTk.fr (WL := W_cp) f250 (by decide)) (e250_k3) (e250_k0) (e250_k1) (e250_k2) (e250_sz249) (e250_sn249) (e250_uc249) (congrArg iI p13_0) (li_3) (li_6) (by omega)) fun v Ma252 h252 => ?_
                    obtain ⟨sz251, sn251, uc251, g252, e252_sz251, e252_sn251, e252_uc251, e252_k0, e252_k1, e252_k2, e252_k3, p252_0, p252_1, p252_2⟩ := h252
                    have f252 : Fr W_cp Mc Ma252 := Fr.t f250 (Fr.m g252 (by decide))
                    refine rsl (cV_e rfl) ?_
                    refine rsl (jv_e) ?_
                    refine rsr (vC_e (rk_160 (hR.fr FR196))) ?_
                    refine rsr (cI_e (a195_61_2 (by omega) hS (hR.fr FR196) (w196_36) (w196_37) (w196_41) (li_61) (by omega))) ?_
                    refine rsr (vC_e (rk_160 (hR.fr FR196).sI.sI)) ?_
                    refine RrV (x211_s (by omega) (hR.fr FR196).sI.sI ((sI_nej (by decide)).trans (sI_eq)) (sI_eq) ((sI_nej (by decide)).trans ((sI_nej (by decide)).trans (w196_43))) ((sI_nej (by decide)).trans ((sI_nej (by decide)).trans (w196_51))) ((sI_nej (by decide)).trans ((sI_nej (by decide)).trans (w196_53))) ((sI_nej (by decide)).trans ((sI_nej (by decide)).trans ((FR196.i _ _ (by decide)).trans h48))) ((sI_nej (by decide)).trans ((sI_nej (by decide)).trans ((FR196.i _ _ (by decide)).trans h49)))  (by omega)) fun v Ma254 h254 => ?_
                    obtain ⟨em253, g254, e254_em253, e254_k0, e254_k1, e254_k2, e254_k3, e254_k4, p254_0⟩ := h254
                    have f254 : Fr W_rp Mr Ma254 := Fr.t (Fr.sI (by decide) (Fr.sI (by decide) (Fr.m FR196 (by decide)))) (Fr.m g254 (by decide))
                    refine rsr (cV_e rfl) ?_
                    refine rsr (vC_e (rk_160 (hR.fr f254))) ?_
                    refine RrV (x202_s (by omega) (hR.fr f254) (e254_k0) (e254_k1) (e254_em253) (e254_k2) (e254_k3) (e254_k4) ((g254.i _ _ (by decide)).trans ((sI_nej (by decide)).trans ((sI_nej (by decide)).trans ((FR196.i _ _ (by decide)).trans h49)))) (congrArg iI p114_0) (li_3) (li_6) (by omega)) fun v Ma256 h256 => ?_
                    obtain ⟨em255, g256, e256_em255, e256_k0, e256_k1, e256_k2, e256_k3, e256_k4, p256_0⟩ := h256
                    have f256 : Fr W_rp Mr Ma256 := Fr.t f254 (Fr.m g256 (by decide))
                    refine rsr (cV_e rfl) ?_
                    refine rsr (vC_e (rk_160 (hR.fr f256))) ?_
                    refine RrI (x195_s (by omega) (hR.fr f256) (e256_k0) (e256_k1) (e256_em255) (e256_k2) (e256_k3) (e256_k4) ((g256.i _ _ (by decide)).trans ((g254.i _ _ (by decide)).trans ((sI_nej (by decide)).trans ((sI_nej (by decide)).trans ((FR196.i _ _ (by decide)).trans h49))))) (li_59) (by omega)) fun v Ma258 h258 => ?_
                    obtain ⟨rv257, em257, rfl, g258, e258_em257, e258_k0, e258_k1, e258_k2, e258_k3, e258_k4, p258_0, p258_1⟩ := h258
                    have f258 : Fr W_rp Mr Ma258 := Fr.t f256 (Fr.m g258 (by decide))
                    refine rsr (cI_e rfl) ?_
                    refine rsr (jv_e) ?_
                    exact Rs.ok (Or.inr ⟨2, ((pl i196)), f252, f258, ⟨i196, sz251, sn251, uc251, e252_k0, e252_k1, e252_k2, e252_k3, e252_sz251, e252_sn251, e252_uc251, by omega⟩, ⟨em257, s, u196, mu, ut, e258_k0, e258_k1, e258_em257, e258_k2, e258_k3, e258_k4, (g258.i _ _ (by decide)).trans ((g256.i _ _ (by decide)).trans ((g254.i _ _ (by decide)).trans ((sI_nej (by decide)).trans ((sI_nej (by decide)).trans ((FR196.i _ _ (by decide)).trans h49))))), by omega⟩⟩)
              ·
                have FL196 : Fr W_cp Mc Mx196 := Fr.t f13 fl196
                have FR196 : Fr W_rp Mr Nx196 := Fr.t (Fr.m f114 W_rx_p) fr196
                obtain ⟨ti196, tz196, tn196, tu196, t13196, t10196, t11196, t12196, t9196, t16196, t19196, tb196⟩ := tc196
                obtain ⟨re196, rn196, ru196, rm196, rt196, u41196, u42196, u43196, u51196, u53196, u48196, u49196, ub196⟩ := tr196
                refine rsl (cV_e rfl) ?_
                refine rsr (cV_e rfl) ?_
                refine rsl (jv_e) ?_
                refine rsl (vC_e (ck_65 (hC.fr FL196))) ?_
                refine RlV (y64 (by omega) (hC.fr FL196) (hTk.fr (WL := W_cp) FL196 (by decide)) (t12196) (t13196) (t10196) (t11196) (t9196) (t16196) (t19196) (li_61) (by omega)) fun v Ma260 h260 => ?_
                obtain ⟨sz259, sn259, uc259, g260, e260_sz259, e260_sn259, e260_uc259, e260_k0, e260_k1, e260_k2, e260_k3, p260_0, p260_1, p260_2⟩ := h260
                have f260 : Fr W_cp Mc Ma260 := Fr.t FL196 (Fr.m g260 (by decide))
                refine rsl (cV_e rfl) ?_
                refine rsl (vC_e (ck_65 (hC.fr f260))) ?_
                refine RlV (y99_0 (by omega) (hC.fr f260) (hTk.fr (WL := W_cp) f260 (by decide)) (e260_k3) (e260_k0) (e260_k1) (e260_k2) (e260_sz259) (e260_sn259) (e260_uc259) (li_0) (hv0) (by omega)) fun v Ma262 h262 => ?_
                obtain ⟨sz261, sn261, uc261, g262, e262_sz261, e262_sn261, e262_uc261, e262_k0, e262_k1, e262_k2, e262_k3, p262_0, p262_1, p262_2⟩ := h262
                have f262 : Fr W_cp Mc Ma262 := Fr.t f260 (Fr.m g262 (by decide))
                refine rsl (cV_e rfl) ?_
                refine rsl (vC_e (ck_65 (hC.fr f262))) ?_
                refine RlV (y64 (by omega) (hC.fr f262) (hTk.fr (WL := W_cp) f262 (by decide)) (e262_k3) (e262_k0) (e262_k1) (e262_k2) (e262_sz261) (e262_sn261) (e262_uc261) (li_59) (by omega)) fun v Ma264 h264 => ?_
                obtain ⟨sz263, sn263, uc263, g264, e264_sz263, e264_sn263, e264_uc263, e264_k0, e264_k1, e264_k2, e264_k3, p264_0, p264_1, p264_2⟩ := h264
                have f264 : Fr W_cp Mc Ma264 := Fr.t f262 (Fr.m g264 (by decide))
                refine rsl (cV_e rfl) ?_
                refine rsl (jn_v) ?_
                refine rsl (if_neg (eqI_n (li_1) (li_0) (by omega))) ?_
                refine rsl (vC_e (ck_65 (hC.fr f264))) ?_
                refine RlV (y105 (by omega) (hC.fr f264) (hTk.fr (WL := W_cp) f264 (by decide)) (e264_k3) (e264_k0) (e264_k1) (e264_k2) (e264_sz263) (e264_sn263) (e264_uc263) (congrArg iI p13_0) (li_3) (li_6) (by omega)) fun v Ma266 h266 => ?_
                obtain ⟨sz265, sn265, uc265, g266, e266_sz265, e266_sn265, e266_uc265, e266_k0, e266_k1, e266_k2, e266_k3, p266_0, p266_1, p266_2⟩ := h266
                have f266 : Fr W_cp Mc Ma266 := Fr.t f264 (Fr.m g266 (by decide))
                refine rsl (cV_e rfl) ?_
                refine rsl (jv_e) ?_
                refine rsr (vC_e (rk_160 (hR.fr FR196))) ?_
                refine RrI (x195_s (by omega) (hR.fr FR196) (u41196) (u42196) (u43196) (u51196) (u53196) (u48196) (u49196) (li_61) (by omega)) fun v Ma268 h268 => ?_
                obtain ⟨rv267, em267, rfl, g268, e268_em267, e268_k0, e268_k1, e268_k2, e268_k3, e268_k4, p268_0, p268_1⟩ := h268
                have f268 : Fr W_rp Mr Ma268 := Fr.t FR196 (Fr.m g268 (by decide))
                refine rsr (cI_e rfl) ?_
                refine rsr (vC_e (rk_160 (hR.fr f268))) ?_
                refine RrV (x211_s (by omega) (hR.fr f268) (e268_k0) (e268_k1) (e268_em267) (e268_k2) (e268_k3) (e268_k4) ((g268.i _ _ (by decide)).trans (u49196))  (by omega)) fun v Ma270 h270 => ?_
                obtain ⟨em269, g270, e270_em269, e270_k0, e270_k1, e270_k2, e270_k3, e270_k4, p270_0⟩ := h270
                have f270 : Fr W_rp Mr Ma270 := Fr.t f268 (Fr.m g270 (by decide))
                refine rsr (cV_e rfl) ?_
                refine rsr (vC_e (rk_160 (hR.fr f270))) ?_
                refine RrV (x202_s (by omega) (hR.fr f270) (e270_k0) (e270_k1) (e270_em269) (e270_k2) (e270_k3) (e270_k4) ((g270.i _ _ (by decide)).trans ((g268.i _ _ (by decide)).trans (u49196))) (congrArg iI p114_0) (li_3) (li_6) (by omega)) fun v Ma272 h272 => ?_
                obtain ⟨em271, g272, e272_em271, e272_k0, e272_k1, e272_k2, e272_k3, e272_k4, p272_0⟩ := h272
                have f272 : Fr W_rp Mr Ma272 := Fr.t f270 (Fr.m g272 (by decide))
                refine rsr (cV_e rfl) ?_
                refine rsr (vC_e (rk_160 (hR.fr f272))) ?_
                refine RrI (x195_s (by omega) (hR.fr f272) (e272_k0) (e272_k1) (e272_em271) (e272_k2) (e272_k3) (e272_k4) ((g272.i _ _ (by decide)).trans ((g270.i _ _ (by decide)).trans ((g268.i _ _ (by decide)).trans (u49196)))) (li_59) (by omega)) fun v Ma274 h274 => ?_
                obtain ⟨rv273, em273, rfl, g274, e274_em273, e274_k0, e274_k1, e274_k2, e274_k3, e274_k4, p274_0, p274_1⟩ := h274
                have f274 : Fr W_rp Mr Ma274 := Fr.t f272 (Fr.m g274 (by decide))
                refine rsr (cI_e rfl) ?_
                refine rsr (jv_e) ?_
                exact Rs.ok (Or.inr ⟨F196, P196, f266, f274, ⟨ti196, sz265, sn265, uc265, e266_k0, e266_k1, e266_k2, e266_k3, e266_sz265, e266_sn265, e266_uc265, by omega⟩, ⟨em273, rn196, ru196, rm196, rt196, e274_k0, e274_k1, e274_em273, e274_k2, e274_k3, e274_k4, (g274.i _ _ (by decide)).trans ((g272.i _ _ (by decide)).trans ((g270.i _ _ (by decide)).trans ((g268.i _ _ (by decide)).trans (u49196)))), by omega⟩⟩)
          ·
            refine rsr (if_neg (lgc_n (rfl) (rfl) c115)) ?_
            refine rsr (jv_e) ?_
            try dsimp only
            refine rsr (gtI_q (w := iI ((kr (kd (i + 3))))) (rk_160 (hR.fr f114)) (e114_k1)) ?_
            refine rsr (jn_v) ?_
            refine rsr (if_neg (krI_n (k := 40) (rfl) (li_40) (hS.ok (i + 3) (by omega) (by omega)) (by unfold KdOK sgk; omega) (by decide +kernel) (by omega) (by omega))) ?_
            refine rsr (gtI_q (w := iI ((kr (kd (i + 3))))) (rk_160 (hR.fr f114)) (e114_k1)) ?_
            refine rsr (if_pos (krI_p (k := 91) (rfl) (li_91) (by omega) (by decide +kernel))) ?_
            refine rsr (vC_e (rk_160 (hR.fr f114))) ?_
            refine Rb_VV (hX _ _ (by omega) (by omega) T n m kd pl E tx ua ut mu _ _ G (pu U u [uc, (V Mr 201 u.toNat), (V Mr 200 u.toNat), (pl i), (pl (i + 2)), (V Mr 206 u.toNat), ut, 0, (V Mc 79 uc.toNat), (V Mc 80 uc.toNat), (pl i)]) Hl (pux X u [(tx i), (tx (i + 2))]) (i + 3) e s (u + 1) (uc + 1) _ hS (hCx.fr f13 f114) ⟨e13_k0, e13_k2, e13_k3, (g13.i _ _ (by decide)).trans (qa_9), (g13.i _ _ (by decide)).trans (qa_16), e13_k1⟩ ⟨e114_k1, e114_k2, e114_k3, e114_k4, (g114.i _ _ (by decide)).trans (wa_43), (g114.i _ _ (by decide)).trans (wa_51), e114_k0, (g114.i _ _ (by decide)).trans (wa_50), p114_2⟩ ⟨(caa.fr g13 (by decide)), (raa.fr g114 (by decide)), (lca.fr g13 (by decide)), (lra.fr g114 (by decide)), (CU.add cua (by omega) (by omega) p13_1 rfl rfl), (RU.add rua (by omega) p114_1 rfl)⟩ ⟨by omega, by omega, by omega, by omega, by omega, by omega, by omega, by omega, by omega, by omega, by omega, by omega⟩ (by omega) (vs1 (hv0))) fun v Mx275 w Nx275 hx275 => ?_
            rcases hx275 with ⟨i275, e275, u275, uc275, G275, U275, X275, fl275, fr275, sc275, sr275, rw275, bd275, mv275, ag275, au275, ax275, tp275, dp275, kv275⟩ | ⟨F275, P275, fl275, fr275, tc275, tr275⟩
            ·
              have FL275 : Fr W_cp Mc Mx275 := Fr.t f13 fl275
              have FR275 : Fr W_rx Mr Nx275 := Fr.t f114 fr275
              obtain ⟨bb275_0, bb275_1, bb275_2, bb275_3, bb275_4, bb275_5, bb275_6, bb275_7, bb275_8, bb275_9, bb275_10, bb275_11⟩ := bd275
              obtain ⟨q275_12, q275_13, q275_10, q275_9, q275_16, q275_19⟩ := sc275
              obtain ⟨w275_36, w275_37, w275_38, w275_41, w275_43, w275_51, w275_53, w275_50, w275_n⟩ := sr275
              obtain ⟨ca275, ra275, lc275, lr275, cu275, ru275⟩ := rw275
              have hk276 := (hS.ok i275 (by omega) (by omega)).r
              have ku275 := KU.t (KU.us kua p13_1 g13 (by decide) (by omega)) kv275 (by omega)
              have ty277 := Tye.t (d3 := 1) ty2 ag275 tp275 (by omega)
              have du278 := DU.t (DU.r (ut := ut) (mu := mu) (c := uc) (G := G) (a := e)) ag275 au275 ax275 dp275 (by omega)
              refine rsl (cV_e rfl) ?_
              refine rsr (cV_e rfl) ?_
              refine rsl (jv_e) ?_
              refine rsl (vC_e (ck_65 (hC.fr FL275))) ?_
              by_cases c279 : ((kd i275)) = 61
              ·
                have hm280 : i275 + 1 < m := hS.more i275 (by omega) (by omega) (by omega)
                refine rsl (cV_e (a64q (by omega) hS (hC.fr FL275) (hTk.fr (WL := W_cp) FL275 (by decide)) (q275_12) (q275_13) (q275_10) (li_61) (i2 := (i275 + 1)) (by omega) (by omega))) ?_
                have hk281 := (hS.ok (i275 + 1) (by omega) (by omega)).r
                refine rsl (vC_e (ck_65 (hC.fr FL275).sI.sI)) ?_
                refine rsr (vC_e (rk_160 (hR.fr FR275))) ?_
                refine RrI (a195_61 (by omega) hS (hR.fr FR275) (hT.fr (W := W_rx) FR275 (by decide) (by decide)) (fun i a b => (Fr.lc (W := W_rx) FR275 _ (by decide) _).trans (hW i a b)) (w275_36) (w275_37) (w275_38) (w275_41) (li_61) (i2 := (i275 + 1)) (by omega) (by omega)) fun v Ma283 h283 => ?_
                obtain ⟨r282, rfl, g283, e283_k0, e283_k1, e283_k2, p283_0, p283_1⟩ := h283
                have f283 : Fr W_rx Mr Ma283 := Fr.t FR275 (Fr.m g283 (by decide))
                refine rsr (cI_e rfl) ?_
                refine rsr (vC_e (rk_160 (hR.fr f283))) ?_
                refine Rb_VV (hE _ _ (by omega) (by omega) T n m kd pl E tx ua ut mu _ _ G275 U275 Hl X275 (i275 + 1) e275 s u275 uc275 _ hS (hCx.fr (Fr.sI (by decide) (Fr.sI (by decide) FL275)) f283) ⟨(sI_nej (by decide)).trans (sI_eq), sI_eq, (sI_nej (by decide)).trans ((sI_nej (by decide)).trans (q275_10)), (sI_nej (by decide)).trans ((sI_nej (by decide)).trans (q275_9)), (sI_nej (by decide)).trans ((sI_nej (by decide)).trans (q275_16)), (sI_nej (by decide)).trans ((sI_nej (by decide)).trans (q275_19))⟩ ⟨e283_k0, e283_k1, e283_k2, (g283.i _ _ (by decide)).trans (w275_41), (g283.i _ _ (by decide)).trans (w275_43), (g283.i _ _ (by decide)).trans (w275_51), (g283.i _ _ (by decide)).trans (w275_53), (g283.i _ _ (by decide)).trans (w275_50), p283_1⟩ ⟨(ca275.fr (W := W_c0) (Fr.sI (by decide) (Fr.sI (by decide) Fr.r)) (by decide)), (ra275.fr g283 (by decide)), (lc275.fr (W := W_c0) (Fr.sI (by decide) (Fr.sI (by decide) Fr.r)) (by decide)), (lr275.fr g283 (by decide)), (cu275.fr (W := W_c0) (Fr.sI (by decide) (Fr.sI (by decide) Fr.r)) (by decide)), (ru275.fr g283 (by decide))⟩ ⟨by omega, by omega, by omega, by omega, by omega, by omega, by omega, by omega, by omega, by omega, by omega, by omega⟩ (vs2 (li_0) (hv0))) fun v Mx284 w Nx284 hx284 => ?_
                rcases hx284 with ⟨i284, e284, u284, uc284, G284, U284, X284, fl284, fr284, sc284, sr284, rw284, bd284, mv284, ag284, au284, ax284, tp284, dp284, kv284⟩ | ⟨F284, P284, fl284, fr284, tc284, tr284⟩
                ·
                  have FL284 : Fr W_cp Mc Mx284 := Fr.t (Fr.sI (by decide) (Fr.sI (by decide) FL275)) fl284
                  have FR284 : Fr W_rx Mr Nx284 := Fr.t f283 fr284
                  obtain ⟨bb284_0, bb284_1, bb284_2, bb284_3, bb284_4, bb284_5, bb284_6, bb284_7, bb284_8, bb284_9, bb284_10, bb284_11⟩ := bd284
                  obtain ⟨q284_12, q284_13, q284_10, q284_9, q284_16, q284_19⟩ := sc284
                  obtain ⟨w284_36, w284_37, w284_38, w284_41, w284_43, w284_51, w284_53, w284_50, w284_n⟩ := sr284
                  obtain ⟨ca284, ra284, lc284, lr284, cu284, ru284⟩ := rw284
                  have hk285 := (hS.ok i284 (by omega) (by omega)).r
                  have ku284 := KU.t (ku275.fr (W := W_c0) (Fr.sI (by decide) (Fr.sI (by decide) Fr.r)) (by decide)) kv284 (by omega)
                  have ty286 := Tye.t (d3 := 2) ty277 ag284 tp284 (by omega)
                  have du287 := DU.t du278 ag284 au284 ax284 dp284 (by omega)
                  refine rsl (cV_e rfl) ?_
                  refine rsr (cV_e rfl) ?_
                  refine rsl (vC_e (ck_65 (hC.fr FL284))) ?_
                  by_cases c288 : ((kd i284)) = 59
                  ·
                    have hm289 : i284 + 1 < m := hS.more i284 (by omega) (by omega) (by omega)
                    refine rsl (cV_e (a64q (by omega) hS (hC.fr FL284) (hTk.fr (WL := W_cp) FL284 (by decide)) (q284_12) (q284_13) (q284_10) (li_59) (i2 := (i284 + 1)) (by omega) (by omega))) ?_
                    have hk290 := (hS.ok (i284 + 1) (by omega) (by omega)).r
                    refine rsl (jn_v) ?_
                    refine rsl (if_neg (eqI_n (li_1) (li_0) (by omega))) ?_
                    refine rsl (vC_e (ck_65 (hC.fr FL284).sI.sI)) ?_
                    have tb292 := Tyb.ex (dp := dp) (d := 2) (s' := s) (q := (e284 + 1)) (n1 := 0) (ut := ut) (mu := mu) (l := []) ty286 (Or.inr (Or.inr (Or.inr (Or.inr (Or.inr (Or.inl (by omega)))))) : Eff 6 u 0 2 s 0 s) (by omega) ⟨by omega, by omega⟩ (by omega)
                    have du293 := DU.set (b1 := 3) (p := 3) (q := (e284 + 1)) (u := u) (o := 6) (n1 := 0) (p1 := -2) (n3 := u) (l := []) (g := 0) du287 (by omega) (by omega) (by omega) (by omega) (fun q => absurd q (by decide)) (Int.le_of_eq (Eq.symm ((au284 0 _ (by omega)).trans ((au275 0 _ (by omega)).trans (pu_e rfl))))) ((au284 6 _ (by omega)).trans ((au275 6 _ (by omega)).trans (pu_e (by omega)))) (U3tr (ax284 0 _ (by omega)) (au284 3 _ (by omega)) (au284 10 _ (by omega)) (U3tr (ax275 0 _ (by omega)) (au275 3 _ (by omega)) (au275 10 _ (by omega)) (Or.inr ((pu_e (by omega)).trans (pu_e (by omega)).symm)))) (by omega) (by omega)
                    refine RlV (a105 (by omega) (hC.fr FL284).sI.sI ((sI_nej (by decide)).trans ((sI_nej (by decide)).trans (q284_9))) (congrArg iI p13_0) (li_3) (li_6) (by omega)) fun v Ma294 h294 => ?_
                    obtain ⟨g294, e294_k0, p294_0, p294_1⟩ := h294
                    have f294 : Fr W_cp Mc Ma294 := Fr.t (Fr.sI (by decide) (Fr.sI (by decide) FL284)) (Fr.m g294 (by decide))
                    refine rsl (cV_e rfl) ?_
                    refine rsl (jv_e) ?_
                    refine rsr (vC_e (rk_160 (hR.fr FR284))) ?_
                    refine RrV (a202 (by omega) (hR.fr FR284) (w284_43) ((FR284.i _ _ (by decide)).trans h49) ((FR284.i _ _ (by decide)).trans h48) (congrArg iI p114_0) (li_3) (li_6) (by omega)) fun v Ma295 h295 => ?_
                    obtain ⟨g295, e295_k0, p295_0, p295_1⟩ := h295
                    have f295 : Fr W_rx Mr Ma295 := Fr.t FR284 (Fr.m g295 (by decide))
                    refine rsr (cV_e rfl) ?_
                    refine rsr (vC_e (rk_160 (hR.fr f295))) ?_
                    refine RrI (a195_59 (by omega) hS (hR.fr f295) (hT.fr (W := W_rx) f295 (by decide) (by decide)) (fun i a b => (Fr.lc (W := W_rx) f295 _ (by decide) _).trans (hW i a b)) ((g295.i _ _ (by decide)).trans (w284_36)) ((g295.i _ _ (by decide)).trans (w284_37)) ((g295.i _ _ (by decide)).trans (w284_38)) ((g295.i _ _ (by decide)).trans (w284_41)) (li_59) (i2 := (i284 + 1)) (by omega) (by omega)) fun v Ma297 h297 => ?_
                    obtain ⟨r296, rfl, g297, e297_k0, e297_k1, e297_k2, p297_0, p297_1⟩ := h297
                    have f297 : Fr W_rx Mr Ma297 := Fr.t f295 (Fr.m g297 (by decide))
                    refine rsr (cI_e rfl) ?_
                    refine rsr (jv_e) ?_
                    exact Rs.ok (Or.inl ⟨(i284 + 1), s, Hl, ⟨(e284 + 1), u284, uc284, (pu G284 e284 [6, 0, -2, u, ut, mu, 0]), (ps U284 u 3 3 e284), X284, f294, f297, ⟨(g294.i _ _ (by decide)).trans ((sI_nej (by decide)).trans (sI_eq)), (g294.i _ _ (by decide)).trans (sI_eq), (g294.i _ _ (by decide)).trans ((sI_nej (by decide)).trans ((sI_nej (by decide)).trans (q284_10))), e294_k0, (g294.i _ _ (by decide)).trans ((sI_nej (by decide)).trans ((sI_nej (by decide)).trans (q284_16))), (g294.i _ _ (by decide)).trans ((sI_nej (by decide)).trans ((sI_nej (by decide)).trans (q284_19)))⟩, ⟨e297_k0, e297_k1, e297_k2, (g297.i _ _ (by decide)).trans ((g295.i _ _ (by decide)).trans (w284_41)), (g297.i _ _ (by decide)).trans (e295_k0), (g297.i _ _ (by decide)).trans ((g295.i _ _ (by decide)).trans (w284_51)), (g297.i _ _ (by decide)).trans ((g295.i _ _ (by decide)).trans (w284_53)), (g297.i _ _ (by decide)).trans ((g295.i _ _ (by decide)).trans (w284_50)), p297_1⟩, ⟨(CA1.em (ca284.fr (W := W_c0) (Fr.sI (by decide) (Fr.sI (by decide) Fr.r)) (by decide)) (by omega) p294_0 rfl), ((RA1.em ra284 (by omega) p295_0 rfl).fr g297 (by decide)), ((lc284.fr (W := W_c0) (Fr.sI (by decide) (Fr.sI (by decide) Fr.r)) (by decide)).fr g294 (by decide)), ((lr284.fr g295 (by decide)).fr g297 (by decide)), (CU.set (b := 3) (cu284.fr (W := W_c0) (Fr.sI (by decide) (Fr.sI (by decide) Fr.r)) (by decide)) ⟨by omega, by omega⟩ ((au284 0 _ (by omega)).trans ((au275 0 _ (by omega)).trans (pu_e rfl))) p294_1 g294 (by decide)), ((RU.set ru284 ⟨by omega, by omega⟩ p295_1 g295 (by decide)).fr g297 (by decide))⟩, ⟨by omega, by omega, by omega, by omega, by omega, by omega, by omega, by omega, by omega, by omega, by omega, by omega⟩, ⟨by omega, by omega, by omega, by omega, by omega, by omega⟩, (Ag.pu (Ag.t (Ag.t Ag.r ag275 (by omega)) ag284 (by omega)) (by omega)), (Ag.ps (Ag.t (Ag.t (Ag.pu Ag.r (by omega)) au275 (by omega)) au284 (by omega)) (by omega)), (AgL.t (AgL.t (AgL.pu AgL.r (by omega)) ax275 (by omega)) ax284 (by omega)), tb292, du293, ((ku284.fr (W := W_c0) (Fr.sI (by decide) (Fr.sI (by decide) Fr.r)) (by decide)).fr g294 (by decide)), ⟨by omega, fun _ _ _ => rfl⟩⟩⟩)
                  ·
                    by_cases c298 : ((kd i284)) = 1
                    ·
                      refine rsl (cV_e (a64_1 (by omega) hS (hC.fr FL284) (hTk.fr (WL := W_cp) FL284 (by decide)) (q284_12) (q284_13) (q284_10) (li_59) (by omega))) ?_
                      refine rsl (jn_v) ?_
                      refine rsl (if_neg (eqI_n (li_1) (li_0) (by omega))) ?_
                      refine rsl (vC_e (ck_65 (hC.fr FL284).sI.sI.sI)) ?_
                      refine RlV (y105 (by omega) (hC.fr FL284).sI.sI.sI (hTk.fr (WL := W_cp) (Fr.sI (by decide) (Fr.sI (by decide) (Fr.sI (by decide) FL284))) (by decide)) ((sI_nej (by decide)).trans ((sI_nej (by decide)).trans ((sI_nej (by decide)).trans (q284_12)))) (sI_eq) ((sI_nej (by decide)).trans ((sI_nej (by decide)).trans (sI_eq))) ((sI_nej (by decide)).trans (sI_eq)) ((sI_nej (by decide)).trans ((sI_nej (by decide)).trans ((sI_nej (by decide)).trans (q284_9)))) ((sI_nej (by decide)).trans ((sI_nej (by decide)).trans ((sI_nej (by decide)).trans (q284_16)))) ((sI_nej (by decide)).trans ((sI_nej (by decide)).trans ((sI_nej (by decide)).trans (q284_19)))) (congrArg iI p13_0) (li_3) (li_6) (by omega)) fun v Ma300 h300 => ?_
                      obtain ⟨sz299, sn299, uc299, g300, e300_sz299, e300_sn299, e300_uc299, e300_k0, e300_k1, e300_k2, e300_k3, p300_0, p300_1, p300_2⟩ := h300
                      have f300 : Fr W_cp Mc Ma300 := Fr.t (Fr.sI (by decide) (Fr.sI (by decide) (Fr.sI (by decide) FL284))) (Fr.m g300 (by decide))
                      refine rsl (cV_e rfl) ?_
                      refine rsl (jv_e) ?_
                      refine rsr (vC_e (rk_160 (hR.fr FR284))) ?_
                      refine RrV (a202 (by omega) (hR.fr FR284) (w284_43) ((FR284.i _ _ (by decide)).trans h49) ((FR284.i _ _ (by decide)).trans h48) (congrArg iI p114_0) (li_3) (li_6) (by omega)) fun v Ma301 h301 => ?_
                      obtain ⟨g301, e301_k0, p301_0, p301_1⟩ := h301
                      have f301 : Fr W_rx Mr Ma301 := Fr.t FR284 (Fr.m g301 (by decide))
                      refine rsr (cV_e rfl) ?_
                      refine rsr (vC_e (rk_160 (hR.fr f301))) ?_
                      refine rsr (cI_e (a195_59_1 (by omega) hS (hR.fr f301) ((g301.i _ _ (by decide)).trans (w284_36)) ((g301.i _ _ (by decide)).trans (w284_37)) ((g301.i _ _ (by decide)).trans (w284_41)) (li_59) (by omega))) ?_
                      refine rsr (jv_e) ?_
                      exact Rs.ok (Or.inr ⟨1, ((pl i284)), f300, (Fr.sI (by decide) (Fr.sI (by decide) (Fr.m f301 (by decide)))), ⟨i284, sz299, sn299, uc299, e300_k0, e300_k1, e300_k2, e300_k3, e300_sz299, e300_sn299, e300_uc299, by omega⟩, ⟨(e284 + 1), s, u284, mu, ut, (sI_nej (by decide)).trans (sI_eq), sI_eq, (sI_nej (by decide)).trans ((sI_nej (by decide)).trans (e301_k0)), (sI_nej (by decide)).trans ((sI_nej (by decide)).trans ((g301.i _ _ (by decide)).trans (w284_51))), (sI_nej (by decide)).trans ((sI_nej (by decide)).trans ((g301.i _ _ (by decide)).trans (w284_53))), (sI_nej (by decide)).trans ((sI_nej (by decide)).trans ((g301.i _ _ (by decide)).trans ((FR284.i _ _ (by decide)).trans h48))), (sI_nej (by decide)).trans ((sI_nej (by decide)).trans ((g301.i _ _ (by decide)).trans ((FR284.i _ _ (by decide)).trans h49))), by omega⟩⟩)
                    ·
                      refine rsl (cV_e (a64_2 (by omega) hS (hC.fr FL284) (hTk.fr (WL := W_cp) FL284 (by decide)) (q284_12) (q284_13) (q284_10) (li_59) (by omega))) ?_
                      refine rsl (jn_v) ?_
                      refine rsl (if_neg (eqI_n (li_1) (li_0) (by omega))) ?_
                      refine rsl (vC_e (ck_65 (hC.fr FL284).sI.sI.sI)) ?_
                      refine RlV (y105 (by omega) (hC.fr FL284).sI.sI.sI (hTk.fr (WL := W_cp) (Fr.sI (by decide) (Fr.sI (by decide) (Fr.sI (by decide) FL284))) (by decide)) ((sI_nej (by decide)).trans ((sI_nej (by decide)).trans ((sI_nej (by decide)).trans (q284_12)))) (sI_eq) ((sI_nej (by decide)).trans ((sI_nej (by decide)).trans (sI_eq))) ((sI_nej (by decide)).trans (sI_eq)) ((sI_nej (by decide)).trans ((sI_nej (by decide)).trans ((sI_nej (by decide)).trans (q284_9)))) ((sI_nej (by decide)).trans ((sI_nej (by decide)).trans ((sI_nej (by decide)).trans (q284_16)))) ((sI_nej (by decide)).trans ((sI_nej (by decide)).trans ((sI_nej (by decide)).trans (q284_19)))) (congrArg iI p13_0) (li_3) (li_6) (by omega)) fun v Ma303 h303 => ?_
                      obtain ⟨sz302, sn302, uc302, g303, e303_sz302, e303_sn302, e303_uc302, e303_k0, e303_k1, e303_k2, e303_k3, p303_0, p303_1, p303_2⟩ := h303
                      have f303 : Fr W_cp Mc Ma303 := Fr.t (Fr.sI (by decide) (Fr.sI (by decide) (Fr.sI (by decide) FL284))) (Fr.m g303 (by decide))
                      refine rsl (cV_e rfl) ?_
                      refine rsl (jv_e) ?_
                      refine rsr (vC_e (rk_160 (hR.fr FR284))) ?_
                      refine RrV (a202 (by omega) (hR.fr FR284) (w284_43) ((FR284.i _ _ (by decide)).trans h49) ((FR284.i _ _ (by decide)).trans h48) (congrArg iI p114_0) (li_3) (li_6) (by omega)) fun v Ma304 h304 => ?_
                      obtain ⟨g304, e304_k0, p304_0, p304_1⟩ := h304
                      have f304 : Fr W_rx Mr Ma304 := Fr.t FR284 (Fr.m g304 (by decide))
                      refine rsr (cV_e rfl) ?_
                      refine rsr (vC_e (rk_160 (hR.fr f304))) ?_
                      refine rsr (cI_e (a195_59_2 (by omega) hS (hR.fr f304) ((g304.i _ _ (by decide)).trans (w284_36)) ((g304.i _ _ (by decide)).trans (w284_37)) ((g304.i _ _ (by decide)).trans (w284_41)) (li_59) (by omega))) ?_
                      refine rsr (jv_e) ?_
                      exact Rs.ok (Or.inr ⟨2, ((pl i284)), f303, (Fr.sI (by decide) (Fr.sI (by decide) (Fr.m f304 (by decide)))), ⟨i284, sz302, sn302, uc302, e303_k0, e303_k1, e303_k2, e303_k3, e303_sz302, e303_sn302, e303_uc302, by omega⟩, ⟨(e284 + 1), s, u284, mu, ut, (sI_nej (by decide)).trans (sI_eq), sI_eq, (sI_nej (by decide)).trans ((sI_nej (by decide)).trans (e304_k0)), (sI_nej (by decide)).trans ((sI_nej (by decide)).trans ((g304.i _ _ (by decide)).trans (w284_51))), (sI_nej (by decide)).trans ((sI_nej (by decide)).trans ((g304.i _ _ (by decide)).trans (w284_53))), (sI_nej (by decide)).trans ((sI_nej (by decide)).trans ((g304.i _ _ (by decide)).trans ((FR284.i _ _ (by decide)).trans h48))), (sI_nej (by decide)).trans ((sI_nej (by decide)).trans ((g304.i _ _ (by decide)).trans ((FR284.i _ _ (by decide)).trans h49))), by omega⟩⟩)
                ·
                  have FL284 : Fr W_cp Mc Mx284 := Fr.t (Fr.sI (by decide) (Fr.sI (by decide) FL275)) fl284
                  have FR284 : Fr W_rp Mr Nx284 := Fr.t (Fr.m f283 W_rx_p) fr284
                  obtain ⟨ti284, tz284, tn284, tu284, t13284, t10284, t11284, t12284, t9284, t16284, t19284, tb284⟩ := tc284
                  obtain ⟨re284, rn284, ru284, rm284, rt284, u41284, u42284, u43284, u51284, u53284, u48284, u49284, ub284⟩ := tr284
                  refine rsl (cV_e rfl) ?_
                  refine rsr (cV_e rfl) ?_
                  refine rsl (vC_e (ck_65 (hC.fr FL284))) ?_
                  refine RlV (y64 (by omega) (hC.fr FL284) (hTk.fr (WL := W_cp) FL284 (by decide)) (t12284) (t13284) (t10284) (t11284) (t9284) (t16284) (t19284) (li_59) (by omega)) fun v Ma306 h306 => ?_
                  obtain ⟨sz305, sn305, uc305, g306, e306_sz305, e306_sn305, e306_uc305, e306_k0, e306_k1, e306_k2, e306_k3, p306_0, p306_1, p306_2⟩ := h306
                  have f306 : Fr W_cp Mc Ma306 := Fr.t FL284 (Fr.m g306 (by decide))
                  refine rsl (cV_e rfl) ?_
                  refine rsl (jn_v) ?_
                  refine rsl (if_neg (eqI_n (li_1) (li_0) (by omega))) ?_
                  refine rsl (vC_e (ck_65 (hC.fr f306))) ?_
                  refine RlV (y105 (by omega) (hC.fr f306) (hTk.fr (WL := W_cp) f306 (by decide)) (e306_k3) (e306_k0) (e306_k1) (e306_k2) (e306_sz305) (e306_sn305) (e306_uc305) (congrArg iI p13_0) (li_3) (li_6) (by omega)) fun v Ma308 h308 => ?_
                  obtain ⟨sz307, sn307, uc307, g308, e308_sz307, e308_sn307, e308_uc307, e308_k0, e308_k1, e308_k2, e308_k3, p308_0, p308_1, p308_2⟩ := h308
                  have f308 : Fr W_cp Mc Ma308 := Fr.t f306 (Fr.m g308 (by decide))
                  refine rsl (cV_e rfl) ?_
                  refine rsl (jv_e) ?_
                  refine rsr (vC_e (rk_160 (hR.fr FR284))) ?_
                  refine RrV (x202_s (by omega) (hR.fr FR284) (u41284) (u42284) (u43284) (u51284) (u53284) (u48284) (u49284) (congrArg iI p114_0) (li_3) (li_6) (by omega)) fun v Ma310 h310 => ?_
                  obtain ⟨em309, g310, e310_em309, e310_k0, e310_k1, e310_k2, e310_k3, e310_k4, p310_0⟩ := h310
                  have f310 : Fr W_rp Mr Ma310 := Fr.t FR284 (Fr.m g310 (by decide))
                  refine rsr (cV_e rfl) ?_
                  refine rsr (vC_e (rk_160 (hR.fr f310))) ?_
                  refine RrI (x195_s (by omega) (hR.fr f310) (e310_k0) (e310_k1) (e310_em309) (e310_k2) (e310_k3) (e310_k4) ((g310.i _ _ (by decide)).trans (u49284)) (li_59) (by omega)) fun v Ma312 h312 => ?_
                  obtain ⟨rv311, em311, rfl, g312, e312_em311, e312_k0, e312_k1, e312_k2, e312_k3, e312_k4, p312_0, p312_1⟩ := h312
                  have f312 : Fr W_rp Mr Ma312 := Fr.t f310 (Fr.m g312 (by decide))
                  refine rsr (cI_e rfl) ?_
                  refine rsr (jv_e) ?_
                  exact Rs.ok (Or.inr ⟨F284, P284, f308, f312, ⟨ti284, sz307, sn307, uc307, e308_k0, e308_k1, e308_k2, e308_k3, e308_sz307, e308_sn307, e308_uc307, by omega⟩, ⟨em311, rn284, ru284, rm284, rt284, e312_k0, e312_k1, e312_em311, e312_k2, e312_k3, e312_k4, (g312.i _ _ (by decide)).trans ((g310.i _ _ (by decide)).trans (u49284)), by omega⟩⟩)
              ·
                by_cases c313 : ((kd i275)) = 1
                ·
                  refine rsl (cV_e (a64_1 (by omega) hS (hC.fr FL275) (hTk.fr (WL := W_cp) FL275 (by decide)) (q275_12) (q275_13) (q275_10) (li_61) (by omega))) ?_
                  refine rsl (vC_e (ck_65 (hC.fr FL275).sI.sI.sI)) ?_
                  refine RlV (y99_0 (by omega) (hC.fr FL275).sI.sI.sI (hTk.fr (WL := W_cp) (Fr.sI (by decide) (Fr.sI (by decide) (Fr.sI (by decide) FL275))) (by decide)) ((sI_nej (by decide)).trans ((sI_nej (by decide)).trans ((sI_nej (by decide)).trans (q275_12)))) (sI_eq) ((sI_nej (by decide)).trans ((sI_nej (by decide)).trans (sI_eq))) ((sI_nej (by decide)).trans (sI_eq)) ((sI_nej (by decide)).trans ((sI_nej (by decide)).trans ((sI_nej (by decide)).trans (q275_9)))) ((sI_nej (by decide)).trans ((sI_nej (by decide)).trans ((sI_nej (by decide)).trans (q275_16)))) ((sI_nej (by decide)).trans ((sI_nej (by decide)).trans ((sI_nej (by decide)).trans (q275_19)))) (li_0) (hv0) (by omega)) fun v Ma315 h315 => ?_
                  obtain ⟨sz314, sn314, uc314, g315, e315_sz314, e315_sn314, e315_uc314, e315_k0, e315_k1, e315_k2, e315_k3, p315_0, p315_1, p315_2⟩ := h315
                  have f315 : Fr W_cp Mc Ma315 := Fr.t (Fr.sI (by decide) (Fr.sI (by decide) (Fr.sI (by decide) FL275))) (Fr.m g315 (by decide))
                  refine rsl (cV_e rfl) ?_
                  refine rsl (vC_e (ck_65 (hC.fr f315))) ?_
                  refine RlV (y64 (by omega) (hC.fr f315) (hTk.fr (WL := W_cp) f315 (by decide)) (e315_k3) (e315_k0) (e315_k1) (e315_k2) (e315_sz314) (e315_sn314) (e315_uc314) (li_59) (by omega)) fun v Ma317 h317 => ?_
                  obtain ⟨sz316, sn316, uc316, g317, e317_sz316, e317_sn316, e317_uc316, e317_k0, e317_k1, e317_k2, e317_k3, p317_0, p317_1, p317_2⟩ := h317
                  have f317 : Fr W_cp Mc Ma317 := Fr.t f315 (Fr.m g317 (by decide))
                  refine rsl (cV_e rfl) ?_
                  refine rsl (jn_v) ?_
                  refine rsl (if_neg (eqI_n (li_1) (li_0) (by omega))) ?_
                  refine rsl (vC_e (ck_65 (hC.fr f317))) ?_
                  refine RlV (y105 (by omega) (hC.fr f317) (hTk.fr (WL := W_cp) f317 (by decide)) (e317_k3) (e317_k0) (e317_k1) (e317_k2) (e317_sz316) (e317_sn316) (e317_uc316) (congrArg iI p13_0) (li_3) (li_6) (by omega)) fun v Ma319 h319 => ?_
                  obtain ⟨sz318, sn318, uc318, g319, e319_sz318, e319_sn318, e319_uc318, e319_k0, e319_k1, e319_k2, e319_k3, p319_0, p319_1, p319_2⟩ := h319
                  have f319 : Fr W_cp Mc Ma319 := Fr.t f317 (Fr.m g319 (by decide))
                  refine rsl (cV_e rfl) ?_
                  refine rsl (jv_e) ?_
                  refine rsr (vC_e (rk_160 (hR.fr FR275))) ?_
                  refine rsr (cI_e (a195_61_1 (by omega) hS (hR.fr FR275) (w275_36) (w275_37) (w275_41) (li_61) (by omega))) ?_
                  refine rsr (vC_e (rk_160 (hR.fr FR275).sI.sI)) ?_
                  refine RrV (x211_s (by omega) (hR.fr FR275).sI.sI ((sI_nej (by decide)).trans (sI_eq)) (sI_eq) ((sI_nej (by decide)).trans ((sI_nej (by decide)).trans (w275_43))) ((sI_nej (by decide)).trans ((sI_nej (by decide)).trans (w275_51))) ((sI_nej (by decide)).trans ((sI_nej (by decide)).trans (w275_53))) ((sI_nej (by decide)).trans ((sI_nej (by decide)).trans ((FR275.i _ _ (by decide)).trans h48))) ((sI_nej (by decide)).trans ((sI_nej (by decide)).trans ((FR275.i _ _ (by decide)).trans h49)))  (by omega)) fun v Ma321 h321 => ?_
                  obtain ⟨em320, g321, e321_em320, e321_k0, e321_k1, e321_k2, e321_k3, e321_k4, p321_0⟩ := h321
                  have f321 : Fr W_rp Mr Ma321 := Fr.t (Fr.sI (by decide) (Fr.sI (by decide) (Fr.m FR275 (by decide)))) (Fr.m g321 (by decide))
                  refine rsr (cV_e rfl) ?_
                  refine rsr (vC_e (rk_160 (hR.fr f321))) ?_
                  refine RrV (x202_s (by omega) (hR.fr f321) (e321_k0) (e321_k1) (e321_em320) (e321_k2) (e321_k3) (e321_k4) ((g321.i _ _ (by decide)).trans ((sI_nej (by decide)).trans ((sI_nej (by decide)).trans ((FR275.i _ _ (by decide)).trans h49)))) (congrArg iI p114_0) (li_3) (li_6) (by omega)) fun v Ma323 h323 => ?_
                  obtain ⟨em322, g323, e323_em322, e323_k0, e323_k1, e323_k2, e323_k3, e323_k4, p323_0⟩ := h323
                  have f323 : Fr W_rp Mr Ma323 := Fr.t f321 (Fr.m g323 (by decide))
                  refine rsr (cV_e rfl) ?_
                  refine rsr (vC_e (rk_160 (hR.fr f323))) ?_
                  refine RrI (x195_s (by omega) (hR.fr f323) (e323_k0) (e323_k1) (e323_em322) (e323_k2) (e323_k3) (e323_k4) ((g323.i _ _ (by decide)).trans ((g321.i _ _ (by decide)).trans ((sI_nej (by decide)).trans ((sI_nej (by decide)).trans ((FR275.i _ _ (by decide)).trans h49))))) (li_59) (by omega)) fun v Ma325 h325 => ?_
                  obtain ⟨rv324, em324, rfl, g325, e325_em324, e325_k0, e325_k1, e325_k2, e325_k3, e325_k4, p325_0, p325_1⟩ := h325
                  have f325 : Fr W_rp Mr Ma325 := Fr.t f323 (Fr.m g325 (by decide))
                  refine rsr (cI_e rfl) ?_
                  refine rsr (jv_e) ?_
                  exact Rs.ok (Or.inr ⟨1, ((pl i275)), f319, f325, ⟨i275, sz318, sn318, uc318, e319_k0, e319_k1, e319_k2, e319_k3, e319_sz318, e319_sn318, e319_uc318, by omega⟩, ⟨em324, s, u275, mu, ut, e325_k0, e325_k1, e325_em324, e325_k2, e325_k3, e325_k4, (g325.i _ _ (by decide)).trans ((g323.i _ _ (by decide)).trans ((g321.i _ _ (by decide)).trans ((sI_nej (by decide)).trans ((sI_nej (by decide)).trans ((FR275.i _ _ (by decide)).trans h49))))), by omega⟩⟩)
                ·
                  refine rsl (cV_e (a64_2 (by omega) hS (hC.fr FL275) (hTk.fr (WL := W_cp) FL275 (by decide)) (q275_12) (q275_13) (q275_10) (li_61) (by omega))) ?_
                  refine rsl (vC_e (ck_65 (hC.fr FL275).sI.sI.sI)) ?_
                  refine RlV (y99_0 (by omega) (hC.fr FL275).sI.sI.sI (hTk.fr (WL := W_cp) (Fr.sI (by decide) (Fr.sI (by decide) (Fr.sI (by decide) FL275))) (by decide)) ((sI_nej (by decide)).trans ((sI_nej (by decide)).trans ((sI_nej (by decide)).trans (q275_12)))) (sI_eq) ((sI_nej (by decide)).trans ((sI_nej (by decide)).trans (sI_eq))) ((sI_nej (by decide)).trans (sI_eq)) ((sI_nej (by decide)).trans ((sI_nej (by decide)).trans ((sI_nej (by decide)).trans (q275_9)))) ((sI_nej (by decide)).trans ((sI_nej (by decide)).trans ((sI_nej (by decide)).trans (q275_16)))) ((sI_nej (by decide)).trans ((sI_nej (by decide)).trans ((sI_nej (by decide)).trans (q275_19)))) (li_0) (hv0) (by omega)) fun v Ma327 h327 => ?_
                  obtain ⟨sz326, sn326, uc326, g327, e327_sz326, e327_sn326, e327_uc326, e327_k0, e327_k1, e327_k2, e327_k3, p327_0, p327_1, p327_2⟩ := h327
                  have f327 : Fr W_cp Mc Ma327 := Fr.t (Fr.sI (by decide) (Fr.sI (by decide) (Fr.sI (by decide) FL275))) (Fr.m g327 (by decide))
                  refine rsl (cV_e rfl) ?_
                  refine rsl (vC_e (ck_65 (hC.fr f327))) ?_
                  refine RlV (y64 (by omega) (hC.fr f327) (hTk.fr (WL := W_cp) f327 (by decide)) (e327_k3) (e327_k0) (e327_k1) (e327_k2) (e327_sz326) (e327_sn326) (e327_uc326) (li_59) (by omega)) fun v Ma329 h329 => ?_
                  obtain ⟨sz328, sn328, uc328, g329, e329_sz328, e329_sn328, e329_uc328, e329_k0, e329_k1, e329_k2, e329_k3, p329_0, p329_1, p329_2⟩ := h329
                  have f329 : Fr W_cp Mc Ma329 := Fr.t f327 (Fr.m g329 (by decide))
                  refine rsl (cV_e rfl) ?_
                  refine rsl (jn_v) ?_
                  refine rsl (if_neg (eqI_n (li_1) (li_0) (by omega))) ?_
                  refine rsl (vC_e (ck_65 (hC.fr f329))) ?_
                  refine RlV (y105 (by omega) (hC.fr f329) (hTk.fr (WL := W_cp) f329 (by decide)) (e329_k3) (e329_k0) (e329_k1) (e329_k2) (e329_sz328) (e329_sn328) (e329_uc328) (congrArg iI p13_0) (li_3) (li_6) (by omega)) fun v Ma331 h331 => ?_
                  obtain ⟨sz330, sn330, uc330, g331, e331_sz330, e331_sn330, e331_uc330, e331_k0, e331_k1, e331_k2, e331_k3, p331_0, p331_1, p331_2⟩ := h331
                  have f331 : Fr W_cp Mc Ma331 := Fr.t f329 (Fr.m g331 (by decide))
                  refine rsl (cV_e rfl) ?_
                  refine rsl (jv_e) ?_
                  refine rsr (vC_e (rk_160 (hR.fr FR275))) ?_
                  refine rsr (cI_e (a195_61_2 (by omega) hS (hR.fr FR275) (w275_36) (w275_37) (w275_41) (li_61) (by omega))) ?_
                  refine rsr (vC_e (rk_160 (hR.fr FR275).sI.sI)) ?_
                  refine RrV (x211_s (by omega) (hR.fr FR275).sI.sI ((sI_nej (by decide)).trans (sI_eq)) (sI_eq) ((sI_nej (by decide)).trans ((sI_nej (by decide)).trans (w275_43))) ((sI_nej (by decide)).trans ((sI_nej (by decide)).trans (w275_51))) ((sI_nej (by decide)).trans ((sI_nej (by decide)).trans (w275_53))) ((sI_nej (by decide)).trans ((sI_nej (by decide)).trans ((FR275.i _ _ (by decide)).trans h48))) ((sI_nej (by decide)).trans ((sI_nej (by decide)).trans ((FR275.i _ _ (by decide)).trans h49)))  (by omega)) fun v Ma333 h333 => ?_
                  obtain ⟨em332, g333, e333_em332, e333_k0, e333_k1, e333_k2, e333_k3, e333_k4, p333_0⟩ := h333
                  have f333 : Fr W_rp Mr Ma333 := Fr.t (Fr.sI (by decide) (Fr.sI (by decide) (Fr.m FR275 (by decide)))) (Fr.m g333 (by decide))
                  refine rsr (cV_e rfl) ?_
                  refine rsr (vC_e (rk_160 (hR.fr f333))) ?_
                  refine RrV (x202_s (by omega) (hR.fr f333) (e333_k0) (e333_k1) (e333_em332) (e333_k2) (e333_k3) (e333_k4) ((g333.i _ _ (by decide)).trans ((sI_nej (by decide)).trans ((sI_nej (by decide)).trans ((FR275.i _ _ (by decide)).trans h49)))) (congrArg iI p114_0) (li_3) (li_6) (by omega)) fun v Ma335 h335 => ?_
                  obtain ⟨em334, g335, e335_em334, e335_k0, e335_k1, e335_k2, e335_k3, e335_k4, p335_0⟩ := h335
                  have f335 : Fr W_rp Mr Ma335 := Fr.t f333 (Fr.m g335 (by decide))
                  refine rsr (cV_e rfl) ?_
                  refine rsr (vC_e (rk_160 (hR.fr f335))) ?_
                  refine RrI (x195_s (by omega) (hR.fr f335) (e335_k0) (e335_k1) (e335_em334) (e335_k2) (e335_k3) (e335_k4) ((g335.i _ _ (by decide)).trans ((g333.i _ _ (by decide)).trans ((sI_nej (by decide)).trans ((sI_nej (by decide)).trans ((FR275.i _ _ (by decide)).trans h49))))) (li_59) (by omega)) fun v Ma337 h337 => ?_
                  obtain ⟨rv336, em336, rfl, g337, e337_em336, e337_k0, e337_k1, e337_k2, e337_k3, e337_k4, p337_0, p337_1⟩ := h337
                  have f337 : Fr W_rp Mr Ma337 := Fr.t f335 (Fr.m g337 (by decide))
                  refine rsr (cI_e rfl) ?_
                  refine rsr (jv_e) ?_
                  exact Rs.ok (Or.inr ⟨2, ((pl i275)), f331, f337, ⟨i275, sz330, sn330, uc330, e331_k0, e331_k1, e331_k2, e331_k3, e331_sz330, e331_sn330, e331_uc330, by omega⟩, ⟨em336, s, u275, mu, ut, e337_k0, e337_k1, e337_em336, e337_k2, e337_k3, e337_k4, (g337.i _ _ (by decide)).trans ((g335.i _ _ (by decide)).trans ((g333.i _ _ (by decide)).trans ((sI_nej (by decide)).trans ((sI_nej (by decide)).trans ((FR275.i _ _ (by decide)).trans h49))))), by omega⟩⟩)
            ·
              have FL275 : Fr W_cp Mc Mx275 := Fr.t f13 fl275
              have FR275 : Fr W_rp Mr Nx275 := Fr.t (Fr.m f114 W_rx_p) fr275
              obtain ⟨ti275, tz275, tn275, tu275, t13275, t10275, t11275, t12275, t9275, t16275, t19275, tb275⟩ := tc275
              obtain ⟨re275, rn275, ru275, rm275, rt275, u41275, u42275, u43275, u51275, u53275, u48275, u49275, ub275⟩ := tr275
              refine rsl (cV_e rfl) ?_
              refine rsr (cV_e rfl) ?_
              refine rsl (jv_e) ?_
              refine rsl (vC_e (ck_65 (hC.fr FL275))) ?_
              refine RlV (y64 (by omega) (hC.fr FL275) (hTk.fr (WL := W_cp) FL275 (by decide)) (t12275) (t13275) (t10275) (t11275) (t9275) (t16275) (t19275) (li_61) (by omega)) fun v Ma339 h339 => ?_
              obtain ⟨sz338, sn338, uc338, g339, e339_sz338, e339_sn338, e339_uc338, e339_k0, e339_k1, e339_k2, e339_k3, p339_0, p339_1, p339_2⟩ := h339
              have f339 : Fr W_cp Mc Ma339 := Fr.t FL275 (Fr.m g339 (by decide))
              refine rsl (cV_e rfl) ?_
              refine rsl (vC_e (ck_65 (hC.fr f339))) ?_
              refine RlV (y99_0 (by omega) (hC.fr f339) (hTk.fr (WL := W_cp) f339 (by decide)) (e339_k3) (e339_k0) (e339_k1) (e339_k2) (e339_sz338) (e339_sn338) (e339_uc338) (li_0) (hv0) (by omega)) fun v Ma341 h341 => ?_
              obtain ⟨sz340, sn340, uc340, g341, e341_sz340, e341_sn340, e341_uc340, e341_k0, e341_k1, e341_k2, e341_k3, p341_0, p341_1, p341_2⟩ := h341
              have f341 : Fr W_cp Mc Ma341 := Fr.t f339 (Fr.m g341 (by decide))
              refine rsl (cV_e rfl) ?_
              refine rsl (vC_e (ck_65 (hC.fr f341))) ?_
              refine RlV (y64 (by omega) (hC.fr f341) (hTk.fr (WL := W_cp) f341 (by decide)) (e341_k3) (e341_k0) (e341_k1) (e341_k2) (e341_sz340) (e341_sn340) (e341_uc340) (li_59) (by omega)) fun v Ma343 h343 => ?_
              obtain ⟨sz342, sn342, uc342, g343, e343_sz342, e343_sn342, e343_uc342, e343_k0, e343_k1, e343_k2, e343_k3, p343_0, p343_1, p343_2⟩ := h343
              have f343 : Fr W_cp Mc Ma343 := Fr.t f341 (Fr.m g343 (by decide))
              refine rsl (cV_e rfl) ?_
              refine rsl (jn_v) ?_
              refine rsl (if_neg (eqI_n (li_1) (li_0) (by omega))) ?_
              refine rsl (vC_e (ck_65 (hC.fr f343))) ?_
              refine RlV (y105 (by omega) (hC.fr f343) (hTk.fr (WL := W_cp) f343 (by decide)) (e343_k3) (e343_k0) (e343_k1) (e343_k2) (e343_sz342) (e343_sn342) (e343_uc342) (congrArg iI p13_0) (li_3) (li_6) (by omega)) fun v Ma345 h345 => ?_
              obtain ⟨sz344, sn344, uc344, g345, e345_sz344, e345_sn344, e345_uc344, e345_k0, e345_k1, e345_k2, e345_k3, p345_0, p345_1, p345_2⟩ := h345
              have f345 : Fr W_cp Mc Ma345 := Fr.t f343 (Fr.m g345 (by decide))
              refine rsl (cV_e rfl) ?_
              refine rsl (jv_e) ?_
              refine rsr (vC_e (rk_160 (hR.fr FR275))) ?_
              refine RrI (x195_s (by omega) (hR.fr FR275) (u41275) (u42275) (u43275) (u51275) (u53275) (u48275) (u49275) (li_61) (by omega)) fun v Ma347 h347 => ?_
              obtain ⟨rv346, em346, rfl, g347, e347_em346, e347_k0, e347_k1, e347_k2, e347_k3, e347_k4, p347_0, p347_1⟩ := h347
              have f347 : Fr W_rp Mr Ma347 := Fr.t FR275 (Fr.m g347 (by decide))
              refine rsr (cI_e rfl) ?_
              refine rsr (vC_e (rk_160 (hR.fr f347))) ?_
              refine RrV (x211_s (by omega) (hR.fr f347) (e347_k0) (e347_k1) (e347_em346) (e347_k2) (e347_k3) (e347_k4) ((g347.i _ _ (by decide)).trans (u49275))  (by omega)) fun v Ma349 h349 => ?_
              obtain ⟨em348, g349, e349_em348, e349_k0, e349_k1, e349_k2, e349_k3, e349_k4, p349_0⟩ := h349
              have f349 : Fr W_rp Mr Ma349 := Fr.t f347 (Fr.m g349 (by decide))
              refine rsr (cV_e rfl) ?_
              refine rsr (vC_e (rk_160 (hR.fr f349))) ?_
              refine RrV (x202_s (by omega) (hR.fr f349) (e349_k0) (e349_k1) (e349_em348) (e349_k2) (e349_k3) (e349_k4) ((g349.i _ _ (by decide)).trans ((g347.i _ _ (by decide)).trans (u49275))) (congrArg iI p114_0) (li_3) (li_6) (by omega)) fun v Ma351 h351 => ?_
              obtain ⟨em350, g351, e351_em350, e351_k0, e351_k1, e351_k2, e351_k3, e351_k4, p351_0⟩ := h351
              have f351 : Fr W_rp Mr Ma351 := Fr.t f349 (Fr.m g351 (by decide))
              refine rsr (cV_e rfl) ?_
              refine rsr (vC_e (rk_160 (hR.fr f351))) ?_
              refine RrI (x195_s (by omega) (hR.fr f351) (e351_k0) (e351_k1) (e351_em350) (e351_k2) (e351_k3) (e351_k4) ((g351.i _ _ (by decide)).trans ((g349.i _ _ (by decide)).trans ((g347.i _ _ (by decide)).trans (u49275)))) (li_59) (by omega)) fun v Ma353 h353 => ?_
              obtain ⟨rv352, em352, rfl, g353, e353_em352, e353_k0, e353_k1, e353_k2, e353_k3, e353_k4, p353_0, p353_1⟩ := h353
              have f353 : Fr W_rp Mr Ma353 := Fr.t f351 (Fr.m g353 (by decide))
              refine rsr (cI_e rfl) ?_
              refine rsr (jv_e) ?_
              exact Rs.ok (Or.inr ⟨F275, P275, f345, f353, ⟨ti275, sz344, sn344, uc344, e345_k0, e345_k1, e345_k2, e345_k3, e345_sz344, e345_sn344, e345_uc344, by omega⟩, ⟨em352, rn275, ru275, rm275, rt275, e353_k0, e353_k1, e353_em352, e353_k2, e353_k3, e353_k4, (g353.i _ _ (by decide)).trans ((g351.i _ _ (by decide)).trans ((g349.i _ _ (by decide)).trans ((g347.i _ _ (by decide)).trans (u49275)))), by omega⟩⟩)
        · refine rsl (if_neg (eqI_n (rfl) (li_91) (by omega))) ?_
          refine rsl (jv_e) ?_
          refine rsl (jn_v) ?_
          refine rsl (if_pos (eqI_p (li_0) (li_0) (by omega))) ?_
          refine rsl (jv_e) ?_
          refine rsl (vC_e (ck_65 (hC.fr f13))) ?_
          by_cases c354 : ((kd (i + 3))) = 61
          ·
            have hm355 : (i + 3) + 1 < m := hS.more (i + 3) (by omega) (by omega) (by omega)
            refine rsl (cV_e (a64q (by omega) hS (hC.fr f13) (hTk.fr (WL := W_cp) f13 (by decide)) (e13_k0) (e13_k2) (e13_k3) (li_61) (i2 := (i + 4)) (by omega) (by omega))) ?_
            have hk356 := (hS.ok (i + 4) (by omega) (by omega)).r
            refine rsl (vC_e (ck_65 (hC.fr f13).sI.sI)) ?_
            refine rsr (gtI_q (w := iI ((kr (kd i)))) (rk_160 hR) (wa_36)) ?_
            refine rsr (jn_v) ?_
            refine rsr (swI_c) ?_
            refine rsr (if_neg (krI_n (k := 215) (rfl) (li_416) (hS.ok i (by omega) (by omega)) (by unfold KdOK sgk; omega) (by decide +kernel) (by omega) (by omega))) ?_
            refine rsr (swI_c) ?_
            refine rsr (if_neg (krI_n (k := 216) (rfl) (li_417) (hS.ok i (by omega) (by omega)) (by unfold KdOK sgk; omega) (by decide +kernel) (by omega) (by omega))) ?_
            refine rsr (swI_c) ?_
            refine rsr (if_neg (krI_n (k := 217) (rfl) (li_418) (hS.ok i (by omega) (by omega)) (by unfold KdOK sgk; omega) (by decide +kernel) (by omega) (by omega))) ?_
            refine rsr (swI_c) ?_
            refine rsr (if_neg (krI_n (k := 218) (rfl) (li_419) (hS.ok i (by omega) (by omega)) (by unfold KdOK sgk; omega) (by decide +kernel) (by omega) (by omega))) ?_
            refine rsr (swI_c) ?_
            refine rsr (if_neg (krI_n (k := 219) (rfl) (li_420) (hS.ok i (by omega) (by omega)) (by unfold KdOK sgk; omega) (by decide +kernel) (by omega) (by omega))) ?_
            refine rsr (swI_c) ?_
            refine rsr (if_neg (krI_n (k := 220) (rfl) (li_421) (hS.ok i (by omega) (by omega)) (by unfold KdOK sgk; omega) (by decide +kernel) (by omega) (by omega))) ?_
            refine rsr (swI_c) ?_
            refine rsr (if_neg (krI_n (k := 221) (rfl) (li_422) (hS.ok i (by omega) (by omega)) (by unfold KdOK sgk; omega) (by decide +kernel) (by omega) (by omega))) ?_
            refine rsr (swI_c) ?_
            refine rsr (if_neg (krI_n (k := 222) (rfl) (li_423) (hS.ok i (by omega) (by omega)) (by unfold KdOK sgk; omega) (by decide +kernel) (by omega) (by omega))) ?_
            refine rsr (swI_n) ?_
            refine rsr (gtI_q (w := iI ((kr (kd i)))) (rk_160 hR) (wa_36)) ?_
            refine rsr (jn_v) ?_
            refine rsr (if_pos (krI_p (k := 3) (rfl) (li_1) (by omega) (by decide +kernel))) ?_
            refine rsr (jv_e) ?_
            refine rsr (vC_e (rk_160 hR)) ?_
            refine rsr (cI_e (ar193_p (by omega) hS hR (wa_36) (wa_37) (wa_41) (li_1) (by omega))) ?_
            refine rsr (if_neg (eqI_n (rfl) (li_0) (by omega))) ?_
            refine rsr (vC_e (rk_160 hR)) ?_
            refine Rs_cVr ?_ (fun v M w N h => rs1 jv_e (Rt.ok h))
            obtain ⟨d2, rfl⟩ : ∃ e, d2 = e + 1 := ⟨d2 - 1, by omega⟩
            rw [r217]; unfold b217; rw [aR_e, aZ_e]; unfold c217
            refine rsr (vC_e (rk_160 hR)) ?_
            refine RrI (a201_d (by omega) hS hR (hT.fr (W := W_rx) Fr.r (by decide) (by decide)) (fun i a b => (Fr.lc (W := W_rx) Fr.r _ (by decide) _).trans (hW i a b)) (wa_36) (wa_37) (wa_38) (wa_41) (h49) (wa_53) wa_n (by omega)) fun v Ma358 h358 => ?_
            obtain ⟨r357, rfl, g358, e358_k0, e358_k1, e358_k2, e358_k3, e358_k4, p358_0, p358_1, p358_2⟩ := h358
            have f358 : Fr W_rx Mr Ma358 := Fr.t Fr.r (Fr.m g358 (by decide))
            refine rsr (cI_e rfl) ?_
            refine rsr (gtI_q (w := iI 0) (rk_160 (hR.fr f358)) (e358_k4)) ?_
            refine rsr (if_pos (eqI_p (rfl) (li_0) (by omega))) ?_
            refine rsr (gtP_q (w := some 202) (rk_160 (hR.fr f358)) (rf_56 (hR.fr f358))) ?_
            refine rsr (alL_q (n := 2000) (z := u) (w := (tx i)) (rk_202 (hR.fr f358)) (congrArg iI p358_0) (by omega) (p358_1.2.2.2.1)) ?_
            refine rsr (jn_v) ?_
            by_cases c359 : (tx i) = (0 : Int64)
            ·
              refine rsr (if_pos (lgc_p (rfl) (rfl) c359)) ?_
              refine rsr (gtP_q (w := some 204) (rk_160 (hR.fr f358)) (rf_58 (hR.fr f358))) ?_
              refine rsr (alL_q (n := 2000) (z := u) (w := (tx (i + 2))) (rk_204 (hR.fr f358)) (congrArg iI p358_0) (by omega) (p358_1.2.2.2.2.2.1)) ?_
              refine rsr (vC_e (rk_160 (hR.fr f358))) ?_
              obtain ⟨rl, hrl⟩ : ∃ r, LcF Hl s (tx (i + 2)) r := by have q := LcF_ex (Hl := Hl) (y := (tx (i + 2))) s.toNat; rw [show ((s.toNat : Nat) : Int) = s by omega] at q; exact q
              have brl := hrl.bd
              by_cases crl : rl = -1
              ·
                subst crl
                refine RrI (a197 (by omega) (hR.fr f358) ((g358.i _ _ (by decide)).trans (wa_51)) (lra.fr g358 (by decide)) (by omega)) fun v Nl360 hl360 => ?_
                obtain ⟨r9, rfl, hMl, hr9⟩ := hl360
                rw [hMl]
                have q9 := LcF.one hr9 hrl
                rw [q9]
                refine rsr (cI_e rfl) ?_
                refine rsr (jv_e) ?_
                try dsimp only
                refine rsr (gtI_q (w := iI ((kr (kd (i + 3))))) (rk_160 (hR.fr f358)) (e358_k1)) ?_
                refine rsr (jn_v) ?_
                refine rsr (if_neg (krI_n (k := 40) (rfl) (li_40) (hS.ok (i + 3) (by omega) (by omega)) (by unfold KdOK sgk; omega) (by decide +kernel) (by omega) (by omega))) ?_
                refine rsr (gtI_q (w := iI ((kr (kd (i + 3))))) (rk_160 (hR.fr f358)) (e358_k1)) ?_
                refine rsr (if_neg (krI_n (k := 91) (rfl) (li_91) (hS.ok (i + 3) (by omega) (by omega)) (by unfold KdOK sgk; omega) (by decide +kernel) (by omega) (by omega))) ?_
                refine rsr (vC_e (rk_160 (hR.fr f358))) ?_
                refine RrI (a195_61 (by omega) hS (hR.fr f358) (hT.fr (W := W_rx) f358 (by decide) (by decide)) (fun i a b => (Fr.lc (W := W_rx) f358 _ (by decide) _).trans (hW i a b)) (e358_k1) (e358_k2) (e358_k3) (e358_k4) (li_61) (i2 := (i + 4)) (by omega) (by omega)) fun v Ma362 h362 => ?_
                obtain ⟨r361, rfl, g362, e362_k0, e362_k1, e362_k2, p362_0, p362_1⟩ := h362
                have f362 : Fr W_rx Mr Ma362 := Fr.t f358 (Fr.m g362 (by decide))
                refine rsr (cI_e rfl) ?_
                refine rsr (if_neg (eqI_n (congrArg iI p362_0) (li_0) (by omega))) ?_
                refine rsr (jn_v) ?_
                refine rsr (if_pos (lsI_p (congrArg iI (if_pos rfl)) (li_0) (by omega))) ?_
                refine rsr (jv_e) ?_
                refine rsr (vC_e (rk_160 (hR.fr f362))) ?_
                refine Rb_VV (hE _ _ (by omega) (by omega) T n m kd pl E tx ua ut mu _ _ G (pu U u [uc, (V Mr 201 u.toNat), (V Mr 200 u.toNat), (pl i), (pl (i + 2)), (V Mr 206 u.toNat), ut, 0, (V Mc 79 uc.toNat), (V Mc 80 uc.toNat), (pl i)]) Hl (pux X u [(tx i), (tx (i + 2))]) (i + 4) e s (u + 1) (uc + 1) _ hS (hCx.fr (Fr.sI (by decide) (Fr.sI (by decide) f13)) f362) ⟨(sI_nej (by decide)).trans (sI_eq), sI_eq, (sI_nej (by decide)).trans ((sI_nej (by decide)).trans (e13_k3)), (sI_nej (by decide)).trans ((sI_nej (by decide)).trans ((g13.i _ _ (by decide)).trans (qa_9))), (sI_nej (by decide)).trans ((sI_nej (by decide)).trans ((g13.i _ _ (by decide)).trans (qa_16))), (sI_nej (by decide)).trans ((sI_nej (by decide)).trans (e13_k1))⟩ ⟨e362_k0, e362_k1, e362_k2, (g362.i _ _ (by decide)).trans (e358_k4), (g362.i _ _ (by decide)).trans ((g358.i _ _ (by decide)).trans (wa_43)), (g362.i _ _ (by decide)).trans ((g358.i _ _ (by decide)).trans (wa_51)), (g362.i _ _ (by decide)).trans (e358_k0), (g362.i _ _ (by decide)).trans ((g358.i _ _ (by decide)).trans (wa_50)), p362_1⟩ ⟨((caa.fr g13 (by decide)).fr (W := W_c0) (Fr.sI (by decide) (Fr.sI (by decide) Fr.r)) (by decide)), ((raa.fr g358 (by decide)).fr g362 (by decide)), ((lca.fr g13 (by decide)).fr (W := W_c0) (Fr.sI (by decide) (Fr.sI (by decide) Fr.r)) (by decide)), ((lra.fr g358 (by decide)).fr g362 (by decide)), ((CU.add cua (by omega) (by omega) p13_1 rfl rfl).fr (W := W_c0) (Fr.sI (by decide) (Fr.sI (by decide) Fr.r)) (by decide)), ((RU.add rua (by omega) p358_1 rfl).fr g362 (by decide))⟩ ⟨by omega, by omega, by omega, by omega, by omega, by omega, by omega, by omega, by omega, by omega, by omega, by omega⟩ (vs2 (li_0) (hv0))) fun v Mx363 w Nx363 hx363 => ?_
                rcases hx363 with ⟨i363, e363, u363, uc363, G363, U363, X363, fl363, fr363, sc363, sr363, rw363, bd363, mv363, ag363, au363, ax363, tp363, dp363, kv363⟩ | ⟨F363, P363, fl363, fr363, tc363, tr363⟩
                ·
                  have FL363 : Fr W_cp Mc Mx363 := Fr.t (Fr.sI (by decide) (Fr.sI (by decide) f13)) fl363
                  have FR363 : Fr W_rx Mr Nx363 := Fr.t f362 fr363
                  obtain ⟨bb363_0, bb363_1, bb363_2, bb363_3, bb363_4, bb363_5, bb363_6, bb363_7, bb363_8, bb363_9, bb363_10, bb363_11⟩ := bd363
                  obtain ⟨q363_12, q363_13, q363_10, q363_9, q363_16, q363_19⟩ := sc363
                  obtain ⟨w363_36, w363_37, w363_38, w363_41, w363_43, w363_51, w363_53, w363_50, w363_n⟩ := sr363
                  obtain ⟨ca363, ra363, lc363, lr363, cu363, ru363⟩ := rw363
                  have hk364 := (hS.ok i363 (by omega) (by omega)).r
                  have ku363 := KU.t ((KU.us kua p13_1 g13 (by decide) (by omega)).fr (W := W_c0) (Fr.sI (by decide) (Fr.sI (by decide) Fr.r)) (by decide)) kv363 (by omega)
                  have ty365 := Tye.t (d3 := 1) ty2 ag363 tp363 (by omega)
                  have du366 := DU.t (DU.r (ut := ut) (mu := mu) (c := uc) (G := G) (a := e)) ag363 au363 ax363 dp363 (by omega)
                  refine rsl (cV_e rfl) ?_
                  refine rsr (cV_e rfl) ?_
                  refine rsl (vC_e (ck_65 (hC.fr FL363))) ?_
                  by_cases c367 : ((kd i363)) = 59
                  ·
                    have hm368 : i363 + 1 < m := hS.more i363 (by omega) (by omega) (by omega)
                    refine rsl (cV_e (a64q (by omega) hS (hC.fr FL363) (hTk.fr (WL := W_cp) FL363 (by decide)) (q363_12) (q363_13) (q363_10) (li_59) (i2 := (i363 + 1)) (by omega) (by omega))) ?_
                    have hk369 := (hS.ok (i363 + 1) (by omega) (by omega)).r
                    refine rsl (jn_v) ?_
                    refine rsl (if_pos (eqI_p (li_0) (li_0) (by omega))) ?_
                    refine rsl (vC_e (ck_65 (hC.fr FL363).sI.sI)) ?_
                    have tb370 := Tyb.ex (dp := dp) (d := 1) (s' := s) (q := (e363 + 1)) (n1 := 0) (ut := ut) (mu := mu) (l := []) ty365 (Or.inr (Or.inr (Or.inr (Or.inl (by omega)))) : Eff 4 u 0 1 s 0 s) (by omega) ⟨by omega, by omega⟩ (by omega)
                    have du371 := DU.set (b1 := 1) (p := 2) (q := (e363 + 1)) (u := u) (o := 4) (n1 := 0) (p1 := -2) (n3 := u) (l := []) (g := 0) du366 (by omega) (by omega) (by omega) (by omega) (fun q => absurd q (by decide)) (Int.le_of_eq (Eq.symm ((au363 0 _ (by omega)).trans (pu_e rfl)))) ((au363 6 _ (by omega)).trans (pu_e (by omega))) (U3tr (ax363 0 _ (by omega)) (au363 3 _ (by omega)) (au363 10 _ (by omega)) (Or.inr ((pu_e (by omega)).trans (pu_e (by omega)).symm))) (by omega) (by omega)
                    refine RlV (a106_n (by omega) (hC.fr FL363).sI.sI ((sI_nej (by decide)).trans ((sI_nej (by decide)).trans (q363_9))) (congrArg iI p13_0) (li_2) (li_2) (li_4) ((sI_nej (by decide)).trans ((sI_nej (by decide)).trans (q363_16))) (lc363.fr (W := W_c0) (Fr.sI (by decide) (Fr.sI (by decide) Fr.r)) (by decide)) ((K2.ku ((K2.mk p13_1).fr (W := W_c0) (Fr.sI (by decide) (Fr.sI (by decide) Fr.r)) (by decide)) kv363 (by omega)).fr (W := W_c0) (Fr.sI (by decide) (Fr.sI (by decide) Fr.r)) (by decide)).1 ((K2.ku ((K2.mk p13_1).fr (W := W_c0) (Fr.sI (by decide) (Fr.sI (by decide) Fr.r)) (by decide)) kv363 (by omega)).fr (W := W_c0) (Fr.sI (by decide) (Fr.sI (by decide) Fr.r)) (by decide)).2 hrl c359 (by omega)) fun v Ma372 h372 => ?_
                    obtain ⟨g372, e372_k0, p372_0, p372_1⟩ := h372
                    have f372 : Fr W_cp Mc Ma372 := Fr.t (Fr.sI (by decide) (Fr.sI (by decide) FL363)) (Fr.m g372 (by decide))
                    refine rsl (cV_e rfl) ?_
                    refine rsl (jv_e) ?_
                    refine rsr (jn_v) ?_
                    refine rsr (if_pos (lsI_p (congrArg iI (if_pos rfl)) (li_0) (by omega))) ?_
                    refine rsr (vC_e (rk_160 (hR.fr FR363))) ?_
                    refine RrV (a202 (by omega) (hR.fr FR363) (w363_43) ((FR363.i _ _ (by decide)).trans h49) ((FR363.i _ _ (by decide)).trans h48) (congrArg iI p358_0) (li_1) (li_4) (by omega)) fun v Ma373 h373 => ?_
                    obtain ⟨g373, e373_k0, p373_0, p373_1⟩ := h373
                    have f373 : Fr W_rx Mr Ma373 := Fr.t FR363 (Fr.m g373 (by decide))
                    refine rsr (cV_e rfl) ?_
                    refine rsr (jv_e) ?_
                    refine rsr (vC_e (rk_160 (hR.fr f373))) ?_
                    refine RrI (a195_59 (by omega) hS (hR.fr f373) (hT.fr (W := W_rx) f373 (by decide) (by decide)) (fun i a b => (Fr.lc (W := W_rx) f373 _ (by decide) _).trans (hW i a b)) ((g373.i _ _ (by decide)).trans (w363_36)) ((g373.i _ _ (by decide)).trans (w363_37)) ((g373.i _ _ (by decide)).trans (w363_38)) ((g373.i _ _ (by decide)).trans (w363_41)) (li_59) (i2 := (i363 + 1)) (by omega) (by omega)) fun v Ma375 h375 => ?_
                    obtain ⟨r374, rfl, g375, e375_k0, e375_k1, e375_k2, p375_0, p375_1⟩ := h375
                    have f375 : Fr W_rx Mr Ma375 := Fr.t f373 (Fr.m g375 (by decide))
                    refine rsr (cI_e rfl) ?_
                    refine rsr (jv_e) ?_
                    exact Rs.ok (Or.inl ⟨(i363 + 1), s, Hl, ⟨(e363 + 1), u363, uc363, (pu G363 e363 [4, 0, -2, u, ut, mu, 0]), (ps U363 u 1 2 e363), X363, f372, f375, ⟨(g372.i _ _ (by decide)).trans ((sI_nej (by decide)).trans (sI_eq)), (g372.i _ _ (by decide)).trans (sI_eq), (g372.i _ _ (by decide)).trans ((sI_nej (by decide)).trans ((sI_nej (by decide)).trans (q363_10))), e372_k0, (g372.i _ _ (by decide)).trans ((sI_nej (by decide)).trans ((sI_nej (by decide)).trans (q363_16))), (g372.i _ _ (by decide)).trans ((sI_nej (by decide)).trans ((sI_nej (by decide)).trans (q363_19)))⟩, ⟨e375_k0, e375_k1, e375_k2, (g375.i _ _ (by decide)).trans ((g373.i _ _ (by decide)).trans (w363_41)), (g375.i _ _ (by decide)).trans (e373_k0), (g375.i _ _ (by decide)).trans ((g373.i _ _ (by decide)).trans (w363_51)), (g375.i _ _ (by decide)).trans ((g373.i _ _ (by decide)).trans (w363_53)), (g375.i _ _ (by decide)).trans ((g373.i _ _ (by decide)).trans (w363_50)), p375_1⟩, ⟨(CA1.em (ca363.fr (W := W_c0) (Fr.sI (by decide) (Fr.sI (by decide) Fr.r)) (by decide)) (by omega) p372_0 rfl), ((RA1.em ra363 (by omega) p373_0 rfl).fr g375 (by decide)), ((lc363.fr (W := W_c0) (Fr.sI (by decide) (Fr.sI (by decide) Fr.r)) (by decide)).fr g372 (by decide)), ((lr363.fr g373 (by decide)).fr g375 (by decide)), (CU.set (b := 1) (cu363.fr (W := W_c0) (Fr.sI (by decide) (Fr.sI (by decide) Fr.r)) (by decide)) ⟨by omega, by omega⟩ ((au363 0 _ (by omega)).trans (pu_e rfl)) p372_1 g372 (by decide)), ((RU.set ru363 ⟨by omega, by omega⟩ p373_1 g373 (by decide)).fr g375 (by decide))⟩, ⟨by omega, by omega, by omega, by omega, by omega, by omega, by omega, by omega, by omega, by omega, by omega, by omega⟩, ⟨by omega, by omega, by omega, by omega, by omega, by omega⟩, (Ag.pu (Ag.t Ag.r ag363 (by omega)) (by omega)), (Ag.ps (Ag.t (Ag.pu Ag.r (by omega)) au363 (by omega)) (by omega)), (AgL.t (AgL.pu AgL.r (by omega)) ax363 (by omega)), tb370, du371, ((ku363.fr (W := W_c0) (Fr.sI (by decide) (Fr.sI (by decide) Fr.r)) (by decide)).fr g372 (by decide)), ⟨by omega, fun _ _ _ => rfl⟩⟩⟩)
                  ·
                    by_cases c376 : ((kd i363)) = 1
                    ·
                      refine rsl (cV_e (a64_1 (by omega) hS (hC.fr FL363) (hTk.fr (WL := W_cp) FL363 (by decide)) (q363_12) (q363_13) (q363_10) (li_59) (by omega))) ?_
                      refine rsl (jn_v) ?_
                      refine rsl (if_pos (eqI_p (li_0) (li_0) (by omega))) ?_
                      refine rsl (vC_e (ck_65 (hC.fr FL363).sI.sI.sI)) ?_
                      refine RlV (y106 (by omega) (hC.fr FL363).sI.sI.sI (hTk.fr (WL := W_cp) (Fr.sI (by decide) (Fr.sI (by decide) (Fr.sI (by decide) FL363))) (by decide)) ((sI_nej (by decide)).trans ((sI_nej (by decide)).trans ((sI_nej (by decide)).trans (q363_12)))) (sI_eq) ((sI_nej (by decide)).trans ((sI_nej (by decide)).trans (sI_eq))) ((sI_nej (by decide)).trans (sI_eq)) ((sI_nej (by decide)).trans ((sI_nej (by decide)).trans ((sI_nej (by decide)).trans (q363_9)))) ((sI_nej (by decide)).trans ((sI_nej (by decide)).trans ((sI_nej (by decide)).trans (q363_16)))) ((sI_nej (by decide)).trans ((sI_nej (by decide)).trans ((sI_nej (by decide)).trans (q363_19)))) (congrArg iI p13_0) (li_2) (li_2) (li_4) (by omega)) fun v Ma378 h378 => ?_
                      obtain ⟨sz377, sn377, uc377, g378, e378_sz377, e378_sn377, e378_uc377, e378_k0, e378_k1, e378_k2, e378_k3, p378_0, p378_1, p378_2⟩ := h378
                      have f378 : Fr W_cp Mc Ma378 := Fr.t (Fr.sI (by decide) (Fr.sI (by decide) (Fr.sI (by decide) FL363))) (Fr.m g378 (by decide))
                      refine rsl (cV_e rfl) ?_
                      refine rsl (jv_e) ?_
                      refine rsr (jn_v) ?_
                      refine rsr (if_pos (lsI_p (congrArg iI (if_pos rfl)) (li_0) (by omega))) ?_
                      refine rsr (vC_e (rk_160 (hR.fr FR363))) ?_
                      refine RrV (a202 (by omega) (hR.fr FR363) (w363_43) ((FR363.i _ _ (by decide)).trans h49) ((FR363.i _ _ (by decide)).trans h48) (congrArg iI p358_0) (li_1) (li_4) (by omega)) fun v Ma379 h379 => ?_
                      obtain ⟨g379, e379_k0, p379_0, p379_1⟩ := h379
                      have f379 : Fr W_rx Mr Ma379 := Fr.t FR363 (Fr.m g379 (by decide))
                      refine rsr (cV_e rfl) ?_
                      refine rsr (jv_e) ?_
                      refine rsr (vC_e (rk_160 (hR.fr f379))) ?_
                      refine rsr (cI_e (a195_59_1 (by omega) hS (hR.fr f379) ((g379.i _ _ (by decide)).trans (w363_36)) ((g379.i _ _ (by decide)).trans (w363_37)) ((g379.i _ _ (by decide)).trans (w363_41)) (li_59) (by omega))) ?_
                      refine rsr (jv_e) ?_
                      exact Rs.ok (Or.inr ⟨1, ((pl i363)), f378, (Fr.sI (by decide) (Fr.sI (by decide) (Fr.m f379 (by decide)))), ⟨i363, sz377, sn377, uc377, e378_k0, e378_k1, e378_k2, e378_k3, e378_sz377, e378_sn377, e378_uc377, by omega⟩, ⟨(e363 + 1), s, u363, mu, ut, (sI_nej (by decide)).trans (sI_eq), sI_eq, (sI_nej (by decide)).trans ((sI_nej (by decide)).trans (e379_k0)), (sI_nej (by decide)).trans ((sI_nej (by decide)).trans ((g379.i _ _ (by decide)).trans (w363_51))), (sI_nej (by decide)).trans ((sI_nej (by decide)).trans ((g379.i _ _ (by decide)).trans (w363_53))), (sI_nej (by decide)).trans ((sI_nej (by decide)).trans ((g379.i _ _ (by decide)).trans ((FR363.i _ _ (by decide)).trans h48))), (sI_nej (by decide)).trans ((sI_nej (by decide)).trans ((g379.i _ _ (by decide)).trans ((FR363.i _ _ (by decide)).trans h49))), by omega⟩⟩)
                    ·
                      refine rsl (cV_e (a64_2 (by omega) hS (hC.fr FL363) (hTk.fr (WL := W_cp) FL363 (by decide)) (q363_12) (q363_13) (q363_10) (li_59) (by omega))) ?_
                      refine rsl (jn_v) ?_
                      refine rsl (if_pos (eqI_p (li_0) (li_0) (by omega))) ?_
                      refine rsl (vC_e (ck_65 (hC.fr FL363).sI.sI.sI)) ?_
                      refine RlV (y106 (by omega) (hC.fr FL363).sI.sI.sI (hTk.fr (WL := W_cp) (Fr.sI (by decide) (Fr.sI (by decide) (Fr.sI (by decide) FL363))) (by decide)) ((sI_nej (by decide)).trans ((sI_nej (by decide)).trans ((sI_nej (by decide)).trans (q363_12)))) (sI_eq) ((sI_nej (by decide)).trans ((sI_nej (by decide)).trans (sI_eq))) ((sI_nej (by decide)).trans (sI_eq)) ((sI_nej (by decide)).trans ((sI_nej (by decide)).trans ((sI_nej (by decide)).trans (q363_9)))) ((sI_nej (by decide)).trans ((sI_nej (by decide)).trans ((sI_nej (by decide)).trans (q363_16)))) ((sI_nej (by decide)).trans ((sI_nej (by decide)).trans ((sI_nej (by decide)).trans (q363_19)))) (congrArg iI p13_0) (li_2) (li_2) (li_4) (by omega)) fun v Ma381 h381 => ?_
                      obtain ⟨sz380, sn380, uc380, g381, e381_sz380, e381_sn380, e381_uc380, e381_k0, e381_k1, e381_k2, e381_k3, p381_0, p381_1, p381_2⟩ := h381
                      have f381 : Fr W_cp Mc Ma381 := Fr.t (Fr.sI (by decide) (Fr.sI (by decide) (Fr.sI (by decide) FL363))) (Fr.m g381 (by decide))
                      refine rsl (cV_e rfl) ?_
                      refine rsl (jv_e) ?_
                      refine rsr (jn_v) ?_
                      refine rsr (if_pos (lsI_p (congrArg iI (if_pos rfl)) (li_0) (by omega))) ?_
                      refine rsr (vC_e (rk_160 (hR.fr FR363))) ?_
                      refine RrV (a202 (by omega) (hR.fr FR363) (w363_43) ((FR363.i _ _ (by decide)).trans h49) ((FR363.i _ _ (by decide)).trans h48) (congrArg iI p358_0) (li_1) (li_4) (by omega)) fun v Ma382 h382 => ?_
                      obtain ⟨g382, e382_k0, p382_0, p382_1⟩ := h382
                      have f382 : Fr W_rx Mr Ma382 := Fr.t FR363 (Fr.m g382 (by decide))
                      refine rsr (cV_e rfl) ?_
                      refine rsr (jv_e) ?_
                      refine rsr (vC_e (rk_160 (hR.fr f382))) ?_
                      refine rsr (cI_e (a195_59_2 (by omega) hS (hR.fr f382) ((g382.i _ _ (by decide)).trans (w363_36)) ((g382.i _ _ (by decide)).trans (w363_37)) ((g382.i _ _ (by decide)).trans (w363_41)) (li_59) (by omega))) ?_
                      refine rsr (jv_e) ?_
                      exact Rs.ok (Or.inr ⟨2, ((pl i363)), f381, (Fr.sI (by decide) (Fr.sI (by decide) (Fr.m f382 (by decide)))), ⟨i363, sz380, sn380, uc380, e381_k0, e381_k1, e381_k2, e381_k3, e381_sz380, e381_sn380, e381_uc380, by omega⟩, ⟨(e363 + 1), s, u363, mu, ut, (sI_nej (by decide)).trans (sI_eq), sI_eq, (sI_nej (by decide)).trans ((sI_nej (by decide)).trans (e382_k0)), (sI_nej (by decide)).trans ((sI_nej (by decide)).trans ((g382.i _ _ (by decide)).trans (w363_51))), (sI_nej (by decide)).trans ((sI_nej (by decide)).trans ((g382.i _ _ (by decide)).trans (w363_53))), (sI_nej (by decide)).trans ((sI_nej (by decide)).trans ((g382.i _ _ (by decide)).trans ((FR363.i _ _ (by decide)).trans h48))), (sI_nej (by decide)).trans ((sI_nej (by decide)).trans ((g382.i _ _ (by decide)).trans ((FR363.i _ _ (by decide)).trans h49))), by omega⟩⟩)
                ·
                  have FL363 : Fr W_cp Mc Mx363 := Fr.t (Fr.sI (by decide) (Fr.sI (by decide) f13)) fl363
                  have FR363 : Fr W_rp Mr Nx363 := Fr.t (Fr.m f362 W_rx_p) fr363
                  obtain ⟨ti363, tz363, tn363, tu363, t13363, t10363, t11363, t12363, t9363, t16363, t19363, tb363⟩ := tc363
                  obtain ⟨re363, rn363, ru363, rm363, rt363, u41363, u42363, u43363, u51363, u53363, u48363, u49363, ub363⟩ := tr363
                  refine rsl (cV_e rfl) ?_
                  refine rsr (cV_e rfl) ?_
                  refine rsl (vC_e (ck_65 (hC.fr FL363))) ?_
                  refine RlV (y64 (by omega) (hC.fr FL363) (hTk.fr (WL := W_cp) FL363 (by decide)) (t12363) (t13363) (t10363) (t11363) (t9363) (t16363) (t19363) (li_59) (by omega)) fun v Ma384 h384 => ?_
                  obtain ⟨sz383, sn383, uc383, g384, e384_sz383, e384_sn383, e384_uc383, e384_k0, e384_k1, e384_k2, e384_k3, p384_0, p384_1, p384_2⟩ := h384
                  have f384 : Fr W_cp Mc Ma384 := Fr.t FL363 (Fr.m g384 (by decide))
                  refine rsl (cV_e rfl) ?_
                  refine rsl (jn_v) ?_
                  refine rsl (if_pos (eqI_p (li_0) (li_0) (by omega))) ?_
                  refine rsl (vC_e (ck_65 (hC.fr f384))) ?_
                  refine RlV (y106 (by omega) (hC.fr f384) (hTk.fr (WL := W_cp) f384 (by decide)) (e384_k3) (e384_k0) (e384_k1) (e384_k2) (e384_sz383) (e384_sn383) (e384_uc383) (congrArg iI p13_0) (li_2) (li_2) (li_4) (by omega)) fun v Ma386 h386 => ?_
                  obtain ⟨sz385, sn385, uc385, g386, e386_sz385, e386_sn385, e386_uc385, e386_k0, e386_k1, e386_k2, e386_k3, p386_0, p386_1, p386_2⟩ := h386
                  have f386 : Fr W_cp Mc Ma386 := Fr.t f384 (Fr.m g386 (by decide))
                  refine rsl (cV_e rfl) ?_
                  refine rsl (jv_e) ?_
                  refine rsr (jn_v) ?_
                  refine rsr (if_pos (lsI_p (congrArg iI (if_pos rfl)) (li_0) (by omega))) ?_
                  refine rsr (vC_e (rk_160 (hR.fr FR363))) ?_
                  refine RrV (x202_s (by omega) (hR.fr FR363) (u41363) (u42363) (u43363) (u51363) (u53363) (u48363) (u49363) (congrArg iI p358_0) (li_1) (li_4) (by omega)) fun v Ma388 h388 => ?_
                  obtain ⟨em387, g388, e388_em387, e388_k0, e388_k1, e388_k2, e388_k3, e388_k4, p388_0⟩ := h388
                  have f388 : Fr W_rp Mr Ma388 := Fr.t FR363 (Fr.m g388 (by decide))
                  refine rsr (cV_e rfl) ?_
                  refine rsr (jv_e) ?_
                  refine rsr (vC_e (rk_160 (hR.fr f388))) ?_
                  refine RrI (x195_s (by omega) (hR.fr f388) (e388_k0) (e388_k1) (e388_em387) (e388_k2) (e388_k3) (e388_k4) ((g388.i _ _ (by decide)).trans (u49363)) (li_59) (by omega)) fun v Ma390 h390 => ?_
                  obtain ⟨rv389, em389, rfl, g390, e390_em389, e390_k0, e390_k1, e390_k2, e390_k3, e390_k4, p390_0, p390_1⟩ := h390
                  have f390 : Fr W_rp Mr Ma390 := Fr.t f388 (Fr.m g390 (by decide))
                  refine rsr (cI_e rfl) ?_
                  refine rsr (jv_e) ?_
                  exact Rs.ok (Or.inr ⟨F363, P363, f386, f390, ⟨ti363, sz385, sn385, uc385, e386_k0, e386_k1, e386_k2, e386_k3, e386_sz385, e386_sn385, e386_uc385, by omega⟩, ⟨em389, rn363, ru363, rm363, rt363, e390_k0, e390_k1, e390_em389, e390_k2, e390_k3, e390_k4, (g390.i _ _ (by decide)).trans ((g388.i _ _ (by decide)).trans (u49363)), by omega⟩⟩)
              ·
                refine RrI (a197 (by omega) (hR.fr f358) ((g358.i _ _ (by decide)).trans (wa_51)) (lra.fr g358 (by decide)) (by omega)) fun v Nl360 hl360 => ?_
                obtain ⟨r9, rfl, hMl, hr9⟩ := hl360
                rw [hMl]
                have q9 := LcF.one hr9 hrl
                rw [q9]
                refine rsr (cI_e rfl) ?_
                refine rsr (jv_e) ?_
                try dsimp only
                refine rsr (gtI_q (w := iI ((kr (kd (i + 3))))) (rk_160 (hR.fr f358)) (e358_k1)) ?_
                refine rsr (jn_v) ?_
                refine rsr (if_neg (krI_n (k := 40) (rfl) (li_40) (hS.ok (i + 3) (by omega) (by omega)) (by unfold KdOK sgk; omega) (by decide +kernel) (by omega) (by omega))) ?_
                refine rsr (gtI_q (w := iI ((kr (kd (i + 3))))) (rk_160 (hR.fr f358)) (e358_k1)) ?_
                refine rsr (if_neg (krI_n (k := 91) (rfl) (li_91) (hS.ok (i + 3) (by omega) (by omega)) (by unfold KdOK sgk; omega) (by decide +kernel) (by omega) (by omega))) ?_
                refine rsr (vC_e (rk_160 (hR.fr f358))) ?_
                refine RrI (a195_61 (by omega) hS (hR.fr f358) (hT.fr (W := W_rx) f358 (by decide) (by decide)) (fun i a b => (Fr.lc (W := W_rx) f358 _ (by decide) _).trans (hW i a b)) (e358_k1) (e358_k2) (e358_k3) (e358_k4) (li_61) (i2 := (i + 4)) (by omega) (by omega)) fun v Ma392 h392 => ?_
                obtain ⟨r391, rfl, g392, e392_k0, e392_k1, e392_k2, p392_0, p392_1⟩ := h392
                have f392 : Fr W_rx Mr Ma392 := Fr.t f358 (Fr.m g392 (by decide))
                refine rsr (cI_e rfl) ?_
                refine rsr (if_neg (eqI_n (congrArg iI p392_0) (li_0) (by omega))) ?_
                refine rsr (jn_v) ?_
                refine rsr (if_neg (lsI_n (congrArg iI (if_neg (by omega))) (li_0) (by omega))) ?_
                refine rsr (gtI_q (w := iI (u + 1)) (rk_160 (hR.fr f392)) ((g392.i _ _ (by decide)).trans (e358_k0))) ?_
                refine rsr (ptI_q (z := u) (rk_160 (hR.fr f392)) (cvI (sbI (rfl) (li_1)) (by omega))) ?_
                refine rsr (jv_e) ?_
                refine rsr (vC_e (rk_160 (hR.fr f392).sI)) ?_
                refine Rb_VV (hE _ _ (by omega) (by omega) T n m kd pl E tx ua ut mu _ _ G U Hl X (i + 4) e s u (uc + 1) _ hS (hCx.fr (Fr.sI (by decide) (Fr.sI (by decide) f13)) (Fr.sI (by decide) f392)) ⟨(sI_nej (by decide)).trans (sI_eq), sI_eq, (sI_nej (by decide)).trans ((sI_nej (by decide)).trans (e13_k3)), (sI_nej (by decide)).trans ((sI_nej (by decide)).trans ((g13.i _ _ (by decide)).trans (qa_9))), (sI_nej (by decide)).trans ((sI_nej (by decide)).trans ((g13.i _ _ (by decide)).trans (qa_16))), (sI_nej (by decide)).trans ((sI_nej (by decide)).trans (e13_k1))⟩ ⟨(sI_nej (by decide)).trans (e392_k0), (sI_nej (by decide)).trans (e392_k1), (sI_nej (by decide)).trans (e392_k2), (sI_nej (by decide)).trans ((g392.i _ _ (by decide)).trans (e358_k4)), (sI_nej (by decide)).trans ((g392.i _ _ (by decide)).trans ((g358.i _ _ (by decide)).trans (wa_43))), (sI_nej (by decide)).trans ((g392.i _ _ (by decide)).trans ((g358.i _ _ (by decide)).trans (wa_51))), sI_eq, (sI_nej (by decide)).trans ((g392.i _ _ (by decide)).trans ((g358.i _ _ (by decide)).trans (wa_50))), (p392_1.fr (W := W_r0) (Fr.sI (by decide) Fr.r) (by decide) (by decide))⟩ ⟨((caa.fr g13 (by decide)).fr (W := W_c0) (Fr.sI (by decide) (Fr.sI (by decide) Fr.r)) (by decide)), (((raa.fr g358 (by decide)).fr g392 (by decide)).fr (W := W_r0) (Fr.sI (by decide) Fr.r) (by decide)), ((lca.fr g13 (by decide)).fr (W := W_c0) (Fr.sI (by decide) (Fr.sI (by decide) Fr.r)) (by decide)), (((lra.fr g358 (by decide)).fr g392 (by decide)).fr (W := W_r0) (Fr.sI (by decide) Fr.r) (by decide)), ((CU.keep cua (by omega) p13_1 rfl).fr (W := W_c0) (Fr.sI (by decide) (Fr.sI (by decide) Fr.r)) (by decide)), (((RU.keep rua p358_1).fr g392 (by decide)).fr (W := W_r0) (Fr.sI (by decide) Fr.r) (by decide))⟩ ⟨by omega, by omega, by omega, by omega, by omega, by omega, by omega, by omega, by omega, by omega, by omega, by omega⟩ (vs2 (li_0) (hv0))) fun v Mx393 w Nx393 hx393 => ?_
                rcases hx393 with ⟨i393, e393, u393, uc393, G393, U393, X393, fl393, fr393, sc393, sr393, rw393, bd393, mv393, ag393, au393, ax393, tp393, dp393, kv393⟩ | ⟨F393, P393, fl393, fr393, tc393, tr393⟩
                ·
                  have FL393 : Fr W_cp Mc Mx393 := Fr.t (Fr.sI (by decide) (Fr.sI (by decide) f13)) fl393
                  have FR393 : Fr W_rx Mr Nx393 := Fr.t (Fr.sI (by decide) f392) fr393
                  obtain ⟨bb393_0, bb393_1, bb393_2, bb393_3, bb393_4, bb393_5, bb393_6, bb393_7, bb393_8, bb393_9, bb393_10, bb393_11⟩ := bd393
                  obtain ⟨q393_12, q393_13, q393_10, q393_9, q393_16, q393_19⟩ := sc393
                  obtain ⟨w393_36, w393_37, w393_38, w393_41, w393_43, w393_51, w393_53, w393_50, w393_n⟩ := sr393
                  obtain ⟨ca393, ra393, lc393, lr393, cu393, ru393⟩ := rw393
                  have hk394 := (hS.ok i393 (by omega) (by omega)).r
                  have ku393 := KU.t ((KU.us kua p13_1 g13 (by decide) (by omega)).fr (W := W_c0) (Fr.sI (by decide) (Fr.sI (by decide) Fr.r)) (by decide)) kv393 (by omega)
                  have ty395 := Tye.t (d3 := 1) ty2 ag393 tp393 (by omega)
                  have du396 := DU.t du3 ag393 au393 ax393 dp393 (by omega)
                  have hne397 : ∀ j, 0 ≤ j → j < u393 → U393 0 j ≠ uc := NeL hlt au393 dp393 (by omega)
                  refine rsl (cV_e rfl) ?_
                  refine rsr (cV_e rfl) ?_
                  refine rsl (vC_e (ck_65 (hC.fr FL393))) ?_
                  by_cases c398 : ((kd i393)) = 59
                  ·
                    have hm399 : i393 + 1 < m := hS.more i393 (by omega) (by omega) (by omega)
                    refine rsl (cV_e (a64q (by omega) hS (hC.fr FL393) (hTk.fr (WL := W_cp) FL393 (by decide)) (q393_12) (q393_13) (q393_10) (li_59) (i2 := (i393 + 1)) (by omega) (by omega))) ?_
                    have hk400 := (hS.ok (i393 + 1) (by omega) (by omega)).r
                    refine rsl (jn_v) ?_
                    refine rsl (if_pos (eqI_p (li_0) (li_0) (by omega))) ?_
                    refine rsl (vC_e (ck_65 (hC.fr FL393).sI.sI)) ?_
                    have tb401 := Tyb.ex (dp := dp) (d := 1) (s' := s) (q := (e393 + 1)) (n1 := rl) (ut := ut) (mu := mu) (l := []) ty395 (Or.inr (Or.inr (Or.inl (by omega))) : Eff 2 rl 0 1 s 0 s) (by omega) ⟨by omega, by omega⟩ (by omega)
                    have du402 := DU.em (q := (e393 + 1)) (o := 2) (n := rl) (p := -2) (l := [0]) du396 (by omega) (by omega)
                    refine RlV (a106_l (by omega) (hC.fr FL393).sI.sI ((sI_nej (by decide)).trans ((sI_nej (by decide)).trans (q393_9))) (congrArg iI p13_0) (li_2) (li_2) (li_4) ((sI_nej (by decide)).trans ((sI_nej (by decide)).trans (q393_16))) (lc393.fr (W := W_c0) (Fr.sI (by decide) (Fr.sI (by decide) Fr.r)) (by decide)) ((K2.ku ((K2.mk p13_1).fr (W := W_c0) (Fr.sI (by decide) (Fr.sI (by decide) Fr.r)) (by decide)) kv393 (by omega)).fr (W := W_c0) (Fr.sI (by decide) (Fr.sI (by decide) Fr.r)) (by decide)).1 ((K2.ku ((K2.mk p13_1).fr (W := W_c0) (Fr.sI (by decide) (Fr.sI (by decide) Fr.r)) (by decide)) kv393 (by omega)).fr (W := W_c0) (Fr.sI (by decide) (Fr.sI (by decide) Fr.r)) (by decide)).2 hrl ⟨by omega, by omega⟩ c359 (by omega)) fun v Ma403 h403 => ?_
                    obtain ⟨g403, e403_k0, p403_0, p403_1⟩ := h403
                    have f403 : Fr W_cp Mc Ma403 := Fr.t (Fr.sI (by decide) (Fr.sI (by decide) FL393)) (Fr.m g403 (by decide))
                    refine rsl (cV_e rfl) ?_
                    refine rsl (jv_e) ?_
                    refine rsr (jn_v) ?_
                    refine rsr (if_neg (lsI_n (congrArg iI (if_neg (by omega))) (li_0) (by omega))) ?_
                    refine rsr (vC_e (rk_160 (hR.fr FR393))) ?_
                    refine RrI (a196 (by omega) (hR.fr FR393) (w393_43) ((FR393.i _ _ (by decide)).trans h49) ((FR393.i _ _ (by decide)).trans h48) (li_2) (congrArg iI (if_neg (by omega))) (by omega)) fun v Ma405 h405 => ?_
                    obtain ⟨r404, rfl, g405, e405_k0, p405_0, p405_1⟩ := h405
                    have f405 : Fr W_rx Mr Ma405 := Fr.t FR393 (Fr.m g405 (by decide))
                    refine rsr (cI_e rfl) ?_
                    refine rsr (jv_e) ?_
                    refine rsr (vC_e (rk_160 (hR.fr f405))) ?_
                    refine RrI (a195_59 (by omega) hS (hR.fr f405) (hT.fr (W := W_rx) f405 (by decide) (by decide)) (fun i a b => (Fr.lc (W := W_rx) f405 _ (by decide) _).trans (hW i a b)) ((g405.i _ _ (by decide)).trans (w393_36)) ((g405.i _ _ (by decide)).trans (w393_37)) ((g405.i _ _ (by decide)).trans (w393_38)) ((g405.i _ _ (by decide)).trans (w393_41)) (li_59) (i2 := (i393 + 1)) (by omega) (by omega)) fun v Ma407 h407 => ?_
                    obtain ⟨r406, rfl, g407, e407_k0, e407_k1, e407_k2, p407_0, p407_1⟩ := h407
                    have f407 : Fr W_rx Mr Ma407 := Fr.t f405 (Fr.m g407 (by decide))
                    refine rsr (cI_e rfl) ?_
                    refine rsr (jv_e) ?_
                    exact Rs.ok (Or.inl ⟨(i393 + 1), s, Hl, ⟨(e393 + 1), u393, uc393, (pu G393 e393 [2, rl, -2, rl, ut, mu, 0]), U393, X393, f403, f407, ⟨(g403.i _ _ (by decide)).trans ((sI_nej (by decide)).trans (sI_eq)), (g403.i _ _ (by decide)).trans (sI_eq), (g403.i _ _ (by decide)).trans ((sI_nej (by decide)).trans ((sI_nej (by decide)).trans (q393_10))), e403_k0, (g403.i _ _ (by decide)).trans ((sI_nej (by decide)).trans ((sI_nej (by decide)).trans (q393_16))), (g403.i _ _ (by decide)).trans ((sI_nej (by decide)).trans ((sI_nej (by decide)).trans (q393_19)))⟩, ⟨e407_k0, e407_k1, e407_k2, (g407.i _ _ (by decide)).trans ((g405.i _ _ (by decide)).trans (w393_41)), (g407.i _ _ (by decide)).trans (e405_k0), (g407.i _ _ (by decide)).trans ((g405.i _ _ (by decide)).trans (w393_51)), (g407.i _ _ (by decide)).trans ((g405.i _ _ (by decide)).trans (w393_53)), (g407.i _ _ (by decide)).trans ((g405.i _ _ (by decide)).trans (w393_50)), p407_1⟩, ⟨(CA1.em (ca393.fr (W := W_c0) (Fr.sI (by decide) (Fr.sI (by decide) Fr.r)) (by decide)) (by omega) p403_0 rfl), ((RA1.em ra393 (by omega) p405_1 rfl).fr g407 (by decide)), ((lc393.fr (W := W_c0) (Fr.sI (by decide) (Fr.sI (by decide) Fr.r)) (by decide)).fr g403 (by decide)), ((lr393.fr g405 (by decide)).fr g407 (by decide)), (CU.loc3 (cu393.fr (W := W_c0) (Fr.sI (by decide) (Fr.sI (by decide) Fr.r)) (by decide)) hne397 (by omega) p403_1 g403 (by decide)), ((ru393.fr g405 (by decide)).fr g407 (by decide))⟩, ⟨by omega, by omega, by omega, by omega, by omega, by omega, by omega, by omega, by omega, by omega, by omega, by omega⟩, ⟨by omega, by omega, by omega, by omega, by omega, by omega⟩, (Ag.pu (Ag.t Ag.r ag393 (by omega)) (by omega)), (Ag.t Ag.r au393 (by omega)), (AgL.t AgL.r ax393 (by omega)), tb401, du402, ((ku393.fr (W := W_c0) (Fr.sI (by decide) (Fr.sI (by decide) Fr.r)) (by decide)).fr g403 (by decide)), ⟨by omega, fun _ _ _ => rfl⟩⟩⟩)
                  ·
                    by_cases c408 : ((kd i393)) = 1
                    ·
                      refine rsl (cV_e (a64_1 (by omega) hS (hC.fr FL393) (hTk.fr (WL := W_cp) FL393 (by decide)) (q393_12) (q393_13) (q393_10) (li_59) (by omega))) ?_
                      refine rsl (jn_v) ?_
                      refine rsl (if_pos (eqI_p (li_0) (li_0) (by omega))) ?_
                      refine rsl (vC_e (ck_65 (hC.fr FL393).sI.sI.sI)) ?_
                      refine RlV (y106 (by omega) (hC.fr FL393).sI.sI.sI (hTk.fr (WL := W_cp) (Fr.sI (by decide) (Fr.sI (by decide) (Fr.sI (by decide) FL393))) (by decide)) ((sI_nej (by decide)).trans ((sI_nej (by decide)).trans ((sI_nej (by decide)).trans (q393_12)))) (sI_eq) ((sI_nej (by decide)).trans ((sI_nej (by decide)).trans (sI_eq))) ((sI_nej (by decide)).trans (sI_eq)) ((sI_nej (by decide)).trans ((sI_nej (by decide)).trans ((sI_nej (by decide)).trans (q393_9)))) ((sI_nej (by decide)).trans ((sI_nej (by decide)).trans ((sI_nej (by decide)).trans (q393_16)))) ((sI_nej (by decide)).trans ((sI_nej (by decide)).trans ((sI_nej (by decide)).trans (q393_19)))) (congrArg iI p13_0) (li_2) (li_2) (li_4) (by omega)) fun v Ma410 h410 => ?_
                      obtain ⟨sz409, sn409, uc409, g410, e410_sz409, e410_sn409, e410_uc409, e410_k0, e410_k1, e410_k2, e410_k3, p410_0, p410_1, p410_2⟩ := h410
                      have f410 : Fr W_cp Mc Ma410 := Fr.t (Fr.sI (by decide) (Fr.sI (by decide) (Fr.sI (by decide) FL393))) (Fr.m g410 (by decide))
                      refine rsl (cV_e rfl) ?_
                      refine rsl (jv_e) ?_
                      refine rsr (jn_v) ?_
                      refine rsr (if_neg (lsI_n (congrArg iI (if_neg (by omega))) (li_0) (by omega))) ?_
                      refine rsr (vC_e (rk_160 (hR.fr FR393))) ?_
                      refine RrI (a196 (by omega) (hR.fr FR393) (w393_43) ((FR393.i _ _ (by decide)).trans h49) ((FR393.i _ _ (by decide)).trans h48) (li_2) (congrArg iI (if_neg (by omega))) (by omega)) fun v Ma412 h412 => ?_
                      obtain ⟨r411, rfl, g412, e412_k0, p412_0, p412_1⟩ := h412
                      have f412 : Fr W_rx Mr Ma412 := Fr.t FR393 (Fr.m g412 (by decide))
                      refine rsr (cI_e rfl) ?_
                      refine rsr (jv_e) ?_
                      refine rsr (vC_e (rk_160 (hR.fr f412))) ?_
                      refine rsr (cI_e (a195_59_1 (by omega) hS (hR.fr f412) ((g412.i _ _ (by decide)).trans (w393_36)) ((g412.i _ _ (by decide)).trans (w393_37)) ((g412.i _ _ (by decide)).trans (w393_41)) (li_59) (by omega))) ?_
                      refine rsr (jv_e) ?_
                      exact Rs.ok (Or.inr ⟨1, ((pl i393)), f410, (Fr.sI (by decide) (Fr.sI (by decide) (Fr.m f412 (by decide)))), ⟨i393, sz409, sn409, uc409, e410_k0, e410_k1, e410_k2, e410_k3, e410_sz409, e410_sn409, e410_uc409, by omega⟩, ⟨(e393 + 1), s, u393, mu, ut, (sI_nej (by decide)).trans (sI_eq), sI_eq, (sI_nej (by decide)).trans ((sI_nej (by decide)).trans (e412_k0)), (sI_nej (by decide)).trans ((sI_nej (by decide)).trans ((g412.i _ _ (by decide)).trans (w393_51))), (sI_nej (by decide)).trans ((sI_nej (by decide)).trans ((g412.i _ _ (by decide)).trans (w393_53))), (sI_nej (by decide)).trans ((sI_nej (by decide)).trans ((g412.i _ _ (by decide)).trans ((FR393.i _ _ (by decide)).trans h48))), (sI_nej (by decide)).trans ((sI_nej (by decide)).trans ((g412.i _ _ (by decide)).trans ((FR393.i _ _ (by decide)).trans h49))), by omega⟩⟩)
                    ·
                      refine rsl (cV_e (a64_2 (by omega) hS (hC.fr FL393) (hTk.fr (WL := W_cp) FL393 (by decide)) (q393_12) (q393_13) (q393_10) (li_59) (by omega))) ?_
                      refine rsl (jn_v) ?_
                      refine rsl (if_pos (eqI_p (li_0) (li_0) (by omega))) ?_
                      refine rsl (vC_e (ck_65 (hC.fr FL393).sI.sI.sI)) ?_
                      refine RlV (y106 (by omega) (hC.fr FL393).sI.sI.sI (hTk.fr (WL := W_cp) (Fr.sI (by decide) (Fr.sI (by decide) (Fr.sI (by decide) FL393))) (by decide)) ((sI_nej (by decide)).trans ((sI_nej (by decide)).trans ((sI_nej (by decide)).trans (q393_12)))) (sI_eq) ((sI_nej (by decide)).trans ((sI_nej (by decide)).trans (sI_eq))) ((sI_nej (by decide)).trans (sI_eq)) ((sI_nej (by decide)).trans ((sI_nej (by decide)).trans ((sI_nej (by decide)).trans (q393_9)))) ((sI_nej (by decide)).trans ((sI_nej (by decide)).trans ((sI_nej (by decide)).trans (q393_16)))) ((sI_nej (by decide)).trans ((sI_nej (by decide)).trans ((sI_nej (by decide)).trans (q393_19)))) (congrArg iI p13_0) (li_2) (li_2) (li_4) (by omega)) fun v Ma414 h414 => ?_
                      obtain ⟨sz413, sn413, uc413, g414, e414_sz413, e414_sn413, e414_uc413, e414_k0, e414_k1, e414_k2, e414_k3, p414_0, p414_1, p414_2⟩ := h414
                      have f414 : Fr W_cp Mc Ma414 := Fr.t (Fr.sI (by decide) (Fr.sI (by decide) (Fr.sI (by decide) FL393))) (Fr.m g414 (by decide))
                      refine rsl (cV_e rfl) ?_
                      refine rsl (jv_e) ?_
                      refine rsr (jn_v) ?_
                      refine rsr (if_neg (lsI_n (congrArg iI (if_neg (by omega))) (li_0) (by omega))) ?_
                      refine rsr (vC_e (rk_160 (hR.fr FR393))) ?_
                      refine RrI (a196 (by omega) (hR.fr FR393) (w393_43) ((FR393.i _ _ (by decide)).trans h49) ((FR393.i _ _ (by decide)).trans h48) (li_2) (congrArg iI (if_neg (by omega))) (by omega)) fun v Ma416 h416 => ?_
                      obtain ⟨r415, rfl, g416, e416_k0, p416_0, p416_1⟩ := h416
                      have f416 : Fr W_rx Mr Ma416 := Fr.t FR393 (Fr.m g416 (by decide))
                      refine rsr (cI_e rfl) ?_
                      refine rsr (jv_e) ?_
                      refine rsr (vC_e (rk_160 (hR.fr f416))) ?_
                      refine rsr (cI_e (a195_59_2 (by omega) hS (hR.fr f416) ((g416.i _ _ (by decide)).trans (w393_36)) ((g416.i _ _ (by decide)).trans (w393_37)) ((g416.i _ _ (by decide)).trans (w393_41)) (li_59) (by omega))) ?_
                      refine rsr (jv_e) ?_
                      exact Rs.ok (Or.inr ⟨2, ((pl i393)), f414, (Fr.sI (by decide) (Fr.sI (by decide) (Fr.m f416 (by decide)))), ⟨i393, sz413, sn413, uc413, e414_k0, e414_k1, e414_k2, e414_k3, e414_sz413, e414_sn413, e414_uc413, by omega⟩, ⟨(e393 + 1), s, u393, mu, ut, (sI_nej (by decide)).trans (sI_eq), sI_eq, (sI_nej (by decide)).trans ((sI_nej (by decide)).trans (e416_k0)), (sI_nej (by decide)).trans ((sI_nej (by decide)).trans ((g416.i _ _ (by decide)).trans (w393_51))), (sI_nej (by decide)).trans ((sI_nej (by decide)).trans ((g416.i _ _ (by decide)).trans (w393_53))), (sI_nej (by decide)).trans ((sI_nej (by decide)).trans ((g416.i _ _ (by decide)).trans ((FR393.i _ _ (by decide)).trans h48))), (sI_nej (by decide)).trans ((sI_nej (by decide)).trans ((g416.i _ _ (by decide)).trans ((FR393.i _ _ (by decide)).trans h49))), by omega⟩⟩)
                ·
                  have FL393 : Fr W_cp Mc Mx393 := Fr.t (Fr.sI (by decide) (Fr.sI (by decide) f13)) fl393
                  have FR393 : Fr W_rp Mr Nx393 := Fr.t (Fr.m (Fr.sI (by decide) f392) W_rx_p) fr393
                  obtain ⟨ti393, tz393, tn393, tu393, t13393, t10393, t11393, t12393, t9393, t16393, t19393, tb393⟩ := tc393
                  obtain ⟨re393, rn393, ru393, rm393, rt393, u41393, u42393, u43393, u51393, u53393, u48393, u49393, ub393⟩ := tr393
                  refine rsl (cV_e rfl) ?_
                  refine rsr (cV_e rfl) ?_
                  refine rsl (vC_e (ck_65 (hC.fr FL393))) ?_
                  refine RlV (y64 (by omega) (hC.fr FL393) (hTk.fr (WL := W_cp) FL393 (by decide)) (t12393) (t13393) (t10393) (t11393) (t9393) (t16393) (t19393) (li_59) (by omega)) fun v Ma418 h418 => ?_
                  obtain ⟨sz417, sn417, uc417, g418, e418_sz417, e418_sn417, e418_uc417, e418_k0, e418_k1, e418_k2, e418_k3, p418_0, p418_1, p418_2⟩ := h418
                  have f418 : Fr W_cp Mc Ma418 := Fr.t FL393 (Fr.m g418 (by decide))
                  refine rsl (cV_e rfl) ?_
                  refine rsl (jn_v) ?_
                  refine rsl (if_pos (eqI_p (li_0) (li_0) (by omega))) ?_
                  refine rsl (vC_e (ck_65 (hC.fr f418))) ?_
                  refine RlV (y106 (by omega) (hC.fr f418) (hTk.fr (WL := W_cp) f418 (by decide)) (e418_k3) (e418_k0) (e418_k1) (e418_k2) (e418_sz417) (e418_sn417) (e418_uc417) (congrArg iI p13_0) (li_2) (li_2) (li_4) (by omega)) fun v Ma420 h420 => ?_
                  obtain ⟨sz419, sn419, uc419, g420, e420_sz419, e420_sn419, e420_uc419, e420_k0, e420_k1, e420_k2, e420_k3, p420_0, p420_1, p420_2⟩ := h420
                  have f420 : Fr W_cp Mc Ma420 := Fr.t f418 (Fr.m g420 (by decide))
                  refine rsl (cV_e rfl) ?_
                  refine rsl (jv_e) ?_
                  refine rsr (jn_v) ?_
                  refine rsr (if_neg (lsI_n (congrArg iI (if_neg (by omega))) (li_0) (by omega))) ?_
                  refine rsr (vC_e (rk_160 (hR.fr FR393))) ?_
                  refine RrI (x196_s (by omega) (hR.fr FR393) (u41393) (u42393) (u43393) (u51393) (u53393) (u48393) (u49393) (li_2) (congrArg iI (if_neg (by omega))) (by omega)) fun v Ma422 h422 => ?_
                  obtain ⟨rv421, em421, rfl, g422, e422_em421, e422_k0, e422_k1, e422_k2, e422_k3, e422_k4, p422_0, p422_1⟩ := h422
                  have f422 : Fr W_rp Mr Ma422 := Fr.t FR393 (Fr.m g422 (by decide))
                  refine rsr (cI_e rfl) ?_
                  refine rsr (jv_e) ?_
                  refine rsr (vC_e (rk_160 (hR.fr f422))) ?_
                  refine RrI (x195_s (by omega) (hR.fr f422) (e422_k0) (e422_k1) (e422_em421) (e422_k2) (e422_k3) (e422_k4) ((g422.i _ _ (by decide)).trans (u49393)) (li_59) (by omega)) fun v Ma424 h424 => ?_
                  obtain ⟨rv423, em423, rfl, g424, e424_em423, e424_k0, e424_k1, e424_k2, e424_k3, e424_k4, p424_0, p424_1⟩ := h424
                  have f424 : Fr W_rp Mr Ma424 := Fr.t f422 (Fr.m g424 (by decide))
                  refine rsr (cI_e rfl) ?_
                  refine rsr (jv_e) ?_
                  exact Rs.ok (Or.inr ⟨F393, P393, f420, f424, ⟨ti393, sz419, sn419, uc419, e420_k0, e420_k1, e420_k2, e420_k3, e420_sz419, e420_sn419, e420_uc419, by omega⟩, ⟨em423, rn393, ru393, rm393, rt393, e424_k0, e424_k1, e424_em423, e424_k2, e424_k3, e424_k4, (g424.i _ _ (by decide)).trans ((g422.i _ _ (by decide)).trans (u49393)), by omega⟩⟩)
            ·
              refine rsr (if_neg (lgc_n (rfl) (rfl) c359)) ?_
              refine rsr (jv_e) ?_
              try dsimp only
              refine rsr (gtI_q (w := iI ((kr (kd (i + 3))))) (rk_160 (hR.fr f358)) (e358_k1)) ?_
              refine rsr (jn_v) ?_
              refine rsr (if_neg (krI_n (k := 40) (rfl) (li_40) (hS.ok (i + 3) (by omega) (by omega)) (by unfold KdOK sgk; omega) (by decide +kernel) (by omega) (by omega))) ?_
              refine rsr (gtI_q (w := iI ((kr (kd (i + 3))))) (rk_160 (hR.fr f358)) (e358_k1)) ?_
              refine rsr (if_neg (krI_n (k := 91) (rfl) (li_91) (hS.ok (i + 3) (by omega) (by omega)) (by unfold KdOK sgk; omega) (by decide +kernel) (by omega) (by omega))) ?_
              refine rsr (vC_e (rk_160 (hR.fr f358))) ?_
              refine RrI (a195_61 (by omega) hS (hR.fr f358) (hT.fr (W := W_rx) f358 (by decide) (by decide)) (fun i a b => (Fr.lc (W := W_rx) f358 _ (by decide) _).trans (hW i a b)) (e358_k1) (e358_k2) (e358_k3) (e358_k4) (li_61) (i2 := (i + 4)) (by omega) (by omega)) fun v Ma426 h426 => ?_
              obtain ⟨r425, rfl, g426, e426_k0, e426_k1, e426_k2, p426_0, p426_1⟩ := h426
              have f426 : Fr W_rx Mr Ma426 := Fr.t f358 (Fr.m g426 (by decide))
              refine rsr (cI_e rfl) ?_
              refine rsr (if_neg (eqI_n (congrArg iI p426_0) (li_0) (by omega))) ?_
              refine rsr (jn_v) ?_
              refine rsr (if_pos (lsI_p (li_m1) (li_0) (by omega))) ?_
              refine rsr (jv_e) ?_
              refine rsr (vC_e (rk_160 (hR.fr f426))) ?_
              refine Rb_VV (hE _ _ (by omega) (by omega) T n m kd pl E tx ua ut mu _ _ G (pu U u [uc, (V Mr 201 u.toNat), (V Mr 200 u.toNat), (pl i), (pl (i + 2)), (V Mr 206 u.toNat), ut, 0, (V Mc 79 uc.toNat), (V Mc 80 uc.toNat), (pl i)]) Hl (pux X u [(tx i), (tx (i + 2))]) (i + 4) e s (u + 1) (uc + 1) _ hS (hCx.fr (Fr.sI (by decide) (Fr.sI (by decide) f13)) f426) ⟨(sI_nej (by decide)).trans (sI_eq), sI_eq, (sI_nej (by decide)).trans ((sI_nej (by decide)).trans (e13_k3)), (sI_nej (by decide)).trans ((sI_nej (by decide)).trans ((g13.i _ _ (by decide)).trans (qa_9))), (sI_nej (by decide)).trans ((sI_nej (by decide)).trans ((g13.i _ _ (by decide)).trans (qa_16))), (sI_nej (by decide)).trans ((sI_nej (by decide)).trans (e13_k1))⟩ ⟨e426_k0, e426_k1, e426_k2, (g426.i _ _ (by decide)).trans (e358_k4), (g426.i _ _ (by decide)).trans ((g358.i _ _ (by decide)).trans (wa_43)), (g426.i _ _ (by decide)).trans ((g358.i _ _ (by decide)).trans (wa_51)), (g426.i _ _ (by decide)).trans (e358_k0), (g426.i _ _ (by decide)).trans ((g358.i _ _ (by decide)).trans (wa_50)), p426_1⟩ ⟨((caa.fr g13 (by decide)).fr (W := W_c0) (Fr.sI (by decide) (Fr.sI (by decide) Fr.r)) (by decide)), ((raa.fr g358 (by decide)).fr g426 (by decide)), ((lca.fr g13 (by decide)).fr (W := W_c0) (Fr.sI (by decide) (Fr.sI (by decide) Fr.r)) (by decide)), ((lra.fr g358 (by decide)).fr g426 (by decide)), ((CU.add cua (by omega) (by omega) p13_1 rfl rfl).fr (W := W_c0) (Fr.sI (by decide) (Fr.sI (by decide) Fr.r)) (by decide)), ((RU.add rua (by omega) p358_1 rfl).fr g426 (by decide))⟩ ⟨by omega, by omega, by omega, by omega, by omega, by omega, by omega, by omega, by omega, by omega, by omega, by omega⟩ (vs2 (li_0) (hv0))) fun v Mx427 w Nx427 hx427 => ?_
              rcases hx427 with ⟨i427, e427, u427, uc427, G427, U427, X427, fl427, fr427, sc427, sr427, rw427, bd427, mv427, ag427, au427, ax427, tp427, dp427, kv427⟩ | ⟨F427, P427, fl427, fr427, tc427, tr427⟩
              ·
                have FL427 : Fr W_cp Mc Mx427 := Fr.t (Fr.sI (by decide) (Fr.sI (by decide) f13)) fl427
                have FR427 : Fr W_rx Mr Nx427 := Fr.t f426 fr427
                obtain ⟨bb427_0, bb427_1, bb427_2, bb427_3, bb427_4, bb427_5, bb427_6, bb427_7, bb427_8, bb427_9, bb427_10, bb427_11⟩ := bd427
                obtain ⟨q427_12, q427_13, q427_10, q427_9, q427_16, q427_19⟩ := sc427
                obtain ⟨w427_36, w427_37, w427_38, w427_41, w427_43, w427_51, w427_53, w427_50, w427_n⟩ := sr427
                obtain ⟨ca427, ra427, lc427, lr427, cu427, ru427⟩ := rw427
                have hk428 := (hS.ok i427 (by omega) (by omega)).r
                have ku427 := KU.t ((KU.us kua p13_1 g13 (by decide) (by omega)).fr (W := W_c0) (Fr.sI (by decide) (Fr.sI (by decide) Fr.r)) (by decide)) kv427 (by omega)
                have ty429 := Tye.t (d3 := 1) ty2 ag427 tp427 (by omega)
                have du430 := DU.t (DU.r (ut := ut) (mu := mu) (c := uc) (G := G) (a := e)) ag427 au427 ax427 dp427 (by omega)
                refine rsl (cV_e rfl) ?_
                refine rsr (cV_e rfl) ?_
                refine rsl (vC_e (ck_65 (hC.fr FL427))) ?_
                by_cases c431 : ((kd i427)) = 59
                ·
                  have hm432 : i427 + 1 < m := hS.more i427 (by omega) (by omega) (by omega)
                  refine rsl (cV_e (a64q (by omega) hS (hC.fr FL427) (hTk.fr (WL := W_cp) FL427 (by decide)) (q427_12) (q427_13) (q427_10) (li_59) (i2 := (i427 + 1)) (by omega) (by omega))) ?_
                  have hk433 := (hS.ok (i427 + 1) (by omega) (by omega)).r
                  refine rsl (jn_v) ?_
                  refine rsl (if_pos (eqI_p (li_0) (li_0) (by omega))) ?_
                  refine rsl (vC_e (ck_65 (hC.fr FL427).sI.sI)) ?_
                  have tb434 := Tyb.ex (dp := dp) (d := 1) (s' := s) (q := (e427 + 1)) (n1 := 0) (ut := ut) (mu := mu) (l := []) ty429 (Or.inr (Or.inr (Or.inr (Or.inl (by omega)))) : Eff 4 u 0 1 s 0 s) (by omega) ⟨by omega, by omega⟩ (by omega)
                  have du435 := DU.set (b1 := 1) (p := 2) (q := (e427 + 1)) (u := u) (o := 4) (n1 := 0) (p1 := -2) (n3 := u) (l := []) (g := 0) du430 (by omega) (by omega) (by omega) (by omega) (fun q => absurd q (by decide)) (Int.le_of_eq (Eq.symm ((au427 0 _ (by omega)).trans (pu_e rfl)))) ((au427 6 _ (by omega)).trans (pu_e (by omega))) (U3tr (ax427 0 _ (by omega)) (au427 3 _ (by omega)) (au427 10 _ (by omega)) (Or.inr ((pu_e (by omega)).trans (pu_e (by omega)).symm))) (by omega) (by omega)
                  refine RlV (a106_q (by omega) (hC.fr FL427).sI.sI ((sI_nej (by decide)).trans ((sI_nej (by decide)).trans (q427_9))) (congrArg iI p13_0) (li_2) (li_2) (li_4) ((sI_nej (by decide)).trans ((sI_nej (by decide)).trans (q427_16))) (lc427.fr (W := W_c0) (Fr.sI (by decide) (Fr.sI (by decide) Fr.r)) (by decide)) ((K2.ku ((K2.mk p13_1).fr (W := W_c0) (Fr.sI (by decide) (Fr.sI (by decide) Fr.r)) (by decide)) kv427 (by omega)).fr (W := W_c0) (Fr.sI (by decide) (Fr.sI (by decide) Fr.r)) (by decide)).1 ((K2.ku ((K2.mk p13_1).fr (W := W_c0) (Fr.sI (by decide) (Fr.sI (by decide) Fr.r)) (by decide)) kv427 (by omega)).fr (W := W_c0) (Fr.sI (by decide) (Fr.sI (by decide) Fr.r)) (by decide)).2 c359 (by omega)) fun v Ma436 h436 => ?_
                  obtain ⟨g436, e436_k0, p436_0, p436_1⟩ := h436
                  have f436 : Fr W_cp Mc Ma436 := Fr.t (Fr.sI (by decide) (Fr.sI (by decide) FL427)) (Fr.m g436 (by decide))
                  refine rsl (cV_e rfl) ?_
                  refine rsl (jv_e) ?_
                  refine rsr (jn_v) ?_
                  refine rsr (if_pos (lsI_p (li_m1) (li_0) (by omega))) ?_
                  refine rsr (vC_e (rk_160 (hR.fr FR427))) ?_
                  refine RrV (a202 (by omega) (hR.fr FR427) (w427_43) ((FR427.i _ _ (by decide)).trans h49) ((FR427.i _ _ (by decide)).trans h48) (congrArg iI p358_0) (li_1) (li_4) (by omega)) fun v Ma437 h437 => ?_
                  obtain ⟨g437, e437_k0, p437_0, p437_1⟩ := h437
                  have f437 : Fr W_rx Mr Ma437 := Fr.t FR427 (Fr.m g437 (by decide))
                  refine rsr (cV_e rfl) ?_
                  refine rsr (jv_e) ?_
                  refine rsr (vC_e (rk_160 (hR.fr f437))) ?_
                  refine RrI (a195_59 (by omega) hS (hR.fr f437) (hT.fr (W := W_rx) f437 (by decide) (by decide)) (fun i a b => (Fr.lc (W := W_rx) f437 _ (by decide) _).trans (hW i a b)) ((g437.i _ _ (by decide)).trans (w427_36)) ((g437.i _ _ (by decide)).trans (w427_37)) ((g437.i _ _ (by decide)).trans (w427_38)) ((g437.i _ _ (by decide)).trans (w427_41)) (li_59) (i2 := (i427 + 1)) (by omega) (by omega)) fun v Ma439 h439 => ?_
                  obtain ⟨r438, rfl, g439, e439_k0, e439_k1, e439_k2, p439_0, p439_1⟩ := h439
                  have f439 : Fr W_rx Mr Ma439 := Fr.t f437 (Fr.m g439 (by decide))
                  refine rsr (cI_e rfl) ?_
                  refine rsr (jv_e) ?_
                  exact Rs.ok (Or.inl ⟨(i427 + 1), s, Hl, ⟨(e427 + 1), u427, uc427, (pu G427 e427 [4, 0, -2, u, ut, mu, 0]), (ps U427 u 1 2 e427), X427, f436, f439, ⟨(g436.i _ _ (by decide)).trans ((sI_nej (by decide)).trans (sI_eq)), (g436.i _ _ (by decide)).trans (sI_eq), (g436.i _ _ (by decide)).trans ((sI_nej (by decide)).trans ((sI_nej (by decide)).trans (q427_10))), e436_k0, (g436.i _ _ (by decide)).trans ((sI_nej (by decide)).trans ((sI_nej (by decide)).trans (q427_16))), (g436.i _ _ (by decide)).trans ((sI_nej (by decide)).trans ((sI_nej (by decide)).trans (q427_19)))⟩, ⟨e439_k0, e439_k1, e439_k2, (g439.i _ _ (by decide)).trans ((g437.i _ _ (by decide)).trans (w427_41)), (g439.i _ _ (by decide)).trans (e437_k0), (g439.i _ _ (by decide)).trans ((g437.i _ _ (by decide)).trans (w427_51)), (g439.i _ _ (by decide)).trans ((g437.i _ _ (by decide)).trans (w427_53)), (g439.i _ _ (by decide)).trans ((g437.i _ _ (by decide)).trans (w427_50)), p439_1⟩, ⟨(CA1.em (ca427.fr (W := W_c0) (Fr.sI (by decide) (Fr.sI (by decide) Fr.r)) (by decide)) (by omega) p436_0 rfl), ((RA1.em ra427 (by omega) p437_0 rfl).fr g439 (by decide)), ((lc427.fr (W := W_c0) (Fr.sI (by decide) (Fr.sI (by decide) Fr.r)) (by decide)).fr g436 (by decide)), ((lr427.fr g437 (by decide)).fr g439 (by decide)), (CU.set (b := 1) (cu427.fr (W := W_c0) (Fr.sI (by decide) (Fr.sI (by decide) Fr.r)) (by decide)) ⟨by omega, by omega⟩ ((au427 0 _ (by omega)).trans (pu_e rfl)) p436_1 g436 (by decide)), ((RU.set ru427 ⟨by omega, by omega⟩ p437_1 g437 (by decide)).fr g439 (by decide))⟩, ⟨by omega, by omega, by omega, by omega, by omega, by omega, by omega, by omega, by omega, by omega, by omega, by omega⟩, ⟨by omega, by omega, by omega, by omega, by omega, by omega⟩, (Ag.pu (Ag.t Ag.r ag427 (by omega)) (by omega)), (Ag.ps (Ag.t (Ag.pu Ag.r (by omega)) au427 (by omega)) (by omega)), (AgL.t (AgL.pu AgL.r (by omega)) ax427 (by omega)), tb434, du435, ((ku427.fr (W := W_c0) (Fr.sI (by decide) (Fr.sI (by decide) Fr.r)) (by decide)).fr g436 (by decide)), ⟨by omega, fun _ _ _ => rfl⟩⟩⟩)
                ·
                  by_cases c440 : ((kd i427)) = 1
                  ·
                    refine rsl (cV_e (a64_1 (by omega) hS (hC.fr FL427) (hTk.fr (WL := W_cp) FL427 (by decide)) (q427_12) (q427_13) (q427_10) (li_59) (by omega))) ?_
                    refine rsl (jn_v) ?_
                    refine rsl (if_pos (eqI_p (li_0) (li_0) (by omega))) ?_
                    refine rsl (vC_e (ck_65 (hC.fr FL427).sI.sI.sI)) ?_
                    refine RlV (y106 (by omega) (hC.fr FL427).sI.sI.sI (hTk.fr (WL := W_cp) (Fr.sI (by decide) (Fr.sI (by decide) (Fr.sI (by decide) FL427))) (by decide)) ((sI_nej (by decide)).trans ((sI_nej (by decide)).trans ((sI_nej (by decide)).trans (q427_12)))) (sI_eq) ((sI_nej (by decide)).trans ((sI_nej (by decide)).trans (sI_eq))) ((sI_nej (by decide)).trans (sI_eq)) ((sI_nej (by decide)).trans ((sI_nej (by decide)).trans ((sI_nej (by decide)).trans (q427_9)))) ((sI_nej (by decide)).trans ((sI_nej (by decide)).trans ((sI_nej (by decide)).trans (q427_16)))) ((sI_nej (by decide)).trans ((sI_nej (by decide)).trans ((sI_nej (by decide)).trans (q427_19)))) (congrArg iI p13_0) (li_2) (li_2) (li_4) (by omega)) fun v Ma442 h442 => ?_
                    obtain ⟨sz441, sn441, uc441, g442, e442_sz441, e442_sn441, e442_uc441, e442_k0, e442_k1, e442_k2, e442_k3, p442_0, p442_1, p442_2⟩ := h442
                    have f442 : Fr W_cp Mc Ma442 := Fr.t (Fr.sI (by decide) (Fr.sI (by decide) (Fr.sI (by decide) FL427))) (Fr.m g442 (by decide))
                    refine rsl (cV_e rfl) ?_
                    refine rsl (jv_e) ?_
                    refine rsr (jn_v) ?_
                    refine rsr (if_pos (lsI_p (li_m1) (li_0) (by omega))) ?_
                    refine rsr (vC_e (rk_160 (hR.fr FR427))) ?_
                    refine RrV (a202 (by omega) (hR.fr FR427) (w427_43) ((FR427.i _ _ (by decide)).trans h49) ((FR427.i _ _ (by decide)).trans h48) (congrArg iI p358_0) (li_1) (li_4) (by omega)) fun v Ma443 h443 => ?_
                    obtain ⟨g443, e443_k0, p443_0, p443_1⟩ := h443
                    have f443 : Fr W_rx Mr Ma443 := Fr.t FR427 (Fr.m g443 (by decide))
                    refine rsr (cV_e rfl) ?_
                    refine rsr (jv_e) ?_
                    refine rsr (vC_e (rk_160 (hR.fr f443))) ?_
                    refine rsr (cI_e (a195_59_1 (by omega) hS (hR.fr f443) ((g443.i _ _ (by decide)).trans (w427_36)) ((g443.i _ _ (by decide)).trans (w427_37)) ((g443.i _ _ (by decide)).trans (w427_41)) (li_59) (by omega))) ?_
                    refine rsr (jv_e) ?_
                    exact Rs.ok (Or.inr ⟨1, ((pl i427)), f442, (Fr.sI (by decide) (Fr.sI (by decide) (Fr.m f443 (by decide)))), ⟨i427, sz441, sn441, uc441, e442_k0, e442_k1, e442_k2, e442_k3, e442_sz441, e442_sn441, e442_uc441, by omega⟩, ⟨(e427 + 1), s, u427, mu, ut, (sI_nej (by decide)).trans (sI_eq), sI_eq, (sI_nej (by decide)).trans ((sI_nej (by decide)).trans (e443_k0)), (sI_nej (by decide)).trans ((sI_nej (by decide)).trans ((g443.i _ _ (by decide)).trans (w427_51))), (sI_nej (by decide)).trans ((sI_nej (by decide)).trans ((g443.i _ _ (by decide)).trans (w427_53))), (sI_nej (by decide)).trans ((sI_nej (by decide)).trans ((g443.i _ _ (by decide)).trans ((FR427.i _ _ (by decide)).trans h48))), (sI_nej (by decide)).trans ((sI_nej (by decide)).trans ((g443.i _ _ (by decide)).trans ((FR427.i _ _ (by decide)).trans h49))), by omega⟩⟩)
                  ·
                    refine rsl (cV_e (a64_2 (by omega) hS (hC.fr FL427) (hTk.fr (WL := W_cp) FL427 (by decide)) (q427_12) (q427_13) (q427_10) (li_59) (by omega))) ?_
                    refine rsl (jn_v) ?_
                    refine rsl (if_pos (eqI_p (li_0) (li_0) (by omega))) ?_
                    refine rsl (vC_e (ck_65 (hC.fr FL427).sI.sI.sI)) ?_
                    refine RlV (y106 (by omega) (hC.fr FL427).sI.sI.sI (hTk.fr (WL := W_cp) (Fr.sI (by decide) (Fr.sI (by decide) (Fr.sI (by decide) FL427))) (by decide)) ((sI_nej (by decide)).trans ((sI_nej (by decide)).trans ((sI_nej (by decide)).trans (q427_12)))) (sI_eq) ((sI_nej (by decide)).trans ((sI_nej (by decide)).trans (sI_eq))) ((sI_nej (by decide)).trans (sI_eq)) ((sI_nej (by decide)).trans ((sI_nej (by decide)).trans ((sI_nej (by decide)).trans (q427_9)))) ((sI_nej (by decide)).trans ((sI_nej (by decide)).trans ((sI_nej (by decide)).trans (q427_16)))) ((sI_nej (by decide)).trans ((sI_nej (by decide)).trans ((sI_nej (by decide)).trans (q427_19)))) (congrArg iI p13_0) (li_2) (li_2) (li_4) (by omega)) fun v Ma445 h445 => ?_
                    obtain ⟨sz444, sn444, uc444, g445, e445_sz444, e445_sn444, e445_uc444, e445_k0, e445_k1, e445_k2, e445_k3, p445_0, p445_1, p445_2⟩ := h445
                    have f445 : Fr W_cp Mc Ma445 := Fr.t (Fr.sI (by decide) (Fr.sI (by decide) (Fr.sI (by decide) FL427))) (Fr.m g445 (by decide))
                    refine rsl (cV_e rfl) ?_
                    refine rsl (jv_e) ?_
                    refine rsr (jn_v) ?_
                    refine rsr (if_pos (lsI_p (li_m1) (li_0) (by omega))) ?_
                    refine rsr (vC_e (rk_160 (hR.fr FR427))) ?_
                    refine RrV (a202 (by omega) (hR.fr FR427) (w427_43) ((FR427.i _ _ (by decide)).trans h49) ((FR427.i _ _ (by decide)).trans h48) (congrArg iI p358_0) (li_1) (li_4) (by omega)) fun v Ma446 h446 => ?_
                    obtain ⟨g446, e446_k0, p446_0, p446_1⟩ := h446
                    have f446 : Fr W_rx Mr Ma446 := Fr.t FR427 (Fr.m g446 (by decide))
                    refine rsr (cV_e rfl) ?_
                    refine rsr (jv_e) ?_
                    refine rsr (vC_e (rk_160 (hR.fr f446))) ?_
                    refine rsr (cI_e (a195_59_2 (by omega) hS (hR.fr f446) ((g446.i _ _ (by decide)).trans (w427_36)) ((g446.i _ _ (by decide)).trans (w427_37)) ((g446.i _ _ (by decide)).trans (w427_41)) (li_59) (by omega))) ?_
                    refine rsr (jv_e) ?_
                    exact Rs.ok (Or.inr ⟨2, ((pl i427)), f445, (Fr.sI (by decide) (Fr.sI (by decide) (Fr.m f446 (by decide)))), ⟨i427, sz444, sn444, uc444, e445_k0, e445_k1, e445_k2, e445_k3, e445_sz444, e445_sn444, e445_uc444, by omega⟩, ⟨(e427 + 1), s, u427, mu, ut, (sI_nej (by decide)).trans (sI_eq), sI_eq, (sI_nej (by decide)).trans ((sI_nej (by decide)).trans (e446_k0)), (sI_nej (by decide)).trans ((sI_nej (by decide)).trans ((g446.i _ _ (by decide)).trans (w427_51))), (sI_nej (by decide)).trans ((sI_nej (by decide)).trans ((g446.i _ _ (by decide)).trans (w427_53))), (sI_nej (by decide)).trans ((sI_nej (by decide)).trans ((g446.i _ _ (by decide)).trans ((FR427.i _ _ (by decide)).trans h48))), (sI_nej (by decide)).trans ((sI_nej (by decide)).trans ((g446.i _ _ (by decide)).trans ((FR427.i _ _ (by decide)).trans h49))), by omega⟩⟩)
              ·
                have FL427 : Fr W_cp Mc Mx427 := Fr.t (Fr.sI (by decide) (Fr.sI (by decide) f13)) fl427
                have FR427 : Fr W_rp Mr Nx427 := Fr.t (Fr.m f426 W_rx_p) fr427
                obtain ⟨ti427, tz427, tn427, tu427, t13427, t10427, t11427, t12427, t9427, t16427, t19427, tb427⟩ := tc427
                obtain ⟨re427, rn427, ru427, rm427, rt427, u41427, u42427, u43427, u51427, u53427, u48427, u49427, ub427⟩ := tr427
                refine rsl (cV_e rfl) ?_
                refine rsr (cV_e rfl) ?_
                refine rsl (vC_e (ck_65 (hC.fr FL427))) ?_
                refine RlV (y64 (by omega) (hC.fr FL427) (hTk.fr (WL := W_cp) FL427 (by decide)) (t12427) (t13427) (t10427) (t11427) (t9427) (t16427) (t19427) (li_59) (by omega)) fun v Ma448 h448 => ?_
                obtain ⟨sz447, sn447, uc447, g448, e448_sz447, e448_sn447, e448_uc447, e448_k0, e448_k1, e448_k2, e448_k3, p448_0, p448_1, p448_2⟩ := h448
                have f448 : Fr W_cp Mc Ma448 := Fr.t FL427 (Fr.m g448 (by decide))
                refine rsl (cV_e rfl) ?_
                refine rsl (jn_v) ?_
                refine rsl (if_pos (eqI_p (li_0) (li_0) (by omega))) ?_
                refine rsl (vC_e (ck_65 (hC.fr f448))) ?_
                refine RlV (y106 (by omega) (hC.fr f448) (hTk.fr (WL := W_cp) f448 (by decide)) (e448_k3) (e448_k0) (e448_k1) (e448_k2) (e448_sz447) (e448_sn447) (e448_uc447) (congrArg iI p13_0) (li_2) (li_2) (li_4) (by omega)) fun v Ma450 h450 => ?_
                obtain ⟨sz449, sn449, uc449, g450, e450_sz449, e450_sn449, e450_uc449, e450_k0, e450_k1, e450_k2, e450_k3, p450_0, p450_1, p450_2⟩ := h450
                have f450 : Fr W_cp Mc Ma450 := Fr.t f448 (Fr.m g450 (by decide))
                refine rsl (cV_e rfl) ?_
                refine rsl (jv_e) ?_
                refine rsr (jn_v) ?_
                refine rsr (if_pos (lsI_p (li_m1) (li_0) (by omega))) ?_
                refine rsr (vC_e (rk_160 (hR.fr FR427))) ?_
                refine RrV (x202_s (by omega) (hR.fr FR427) (u41427) (u42427) (u43427) (u51427) (u53427) (u48427) (u49427) (congrArg iI p358_0) (li_1) (li_4) (by omega)) fun v Ma452 h452 => ?_
                obtain ⟨em451, g452, e452_em451, e452_k0, e452_k1, e452_k2, e452_k3, e452_k4, p452_0⟩ := h452
                have f452 : Fr W_rp Mr Ma452 := Fr.t FR427 (Fr.m g452 (by decide))
                refine rsr (cV_e rfl) ?_
                refine rsr (jv_e) ?_
                refine rsr (vC_e (rk_160 (hR.fr f452))) ?_
                refine RrI (x195_s (by omega) (hR.fr f452) (e452_k0) (e452_k1) (e452_em451) (e452_k2) (e452_k3) (e452_k4) ((g452.i _ _ (by decide)).trans (u49427)) (li_59) (by omega)) fun v Ma454 h454 => ?_
                obtain ⟨rv453, em453, rfl, g454, e454_em453, e454_k0, e454_k1, e454_k2, e454_k3, e454_k4, p454_0, p454_1⟩ := h454
                have f454 : Fr W_rp Mr Ma454 := Fr.t f452 (Fr.m g454 (by decide))
                refine rsr (cI_e rfl) ?_
                refine rsr (jv_e) ?_
                exact Rs.ok (Or.inr ⟨F427, P427, f450, f454, ⟨ti427, sz449, sn449, uc449, e450_k0, e450_k1, e450_k2, e450_k3, e450_sz449, e450_sn449, e450_uc449, by omega⟩, ⟨em453, rn427, ru427, rm427, rt427, e454_k0, e454_k1, e454_em453, e454_k2, e454_k3, e454_k4, (g454.i _ _ (by decide)).trans ((g452.i _ _ (by decide)).trans (u49427)), by omega⟩⟩)
          ·
            by_cases c455 : ((kd (i + 3))) = 1
            ·
              refine rsl (cV_e (a64_1 (by omega) hS (hC.fr f13) (hTk.fr (WL := W_cp) f13 (by decide)) (e13_k0) (e13_k2) (e13_k3) (li_61) (by omega))) ?_
              refine rsl (vC_e (ck_65 (hC.fr f13).sI.sI.sI)) ?_
              refine RlV (y99_0 (by omega) (hC.fr f13).sI.sI.sI (hTk.fr (WL := W_cp) (Fr.sI (by decide) (Fr.sI (by decide) (Fr.sI (by decide) f13))) (by decide)) ((sI_nej (by decide)).trans ((sI_nej (by decide)).trans ((sI_nej (by decide)).trans (e13_k0)))) (sI_eq) ((sI_nej (by decide)).trans ((sI_nej (by decide)).trans (sI_eq))) ((sI_nej (by decide)).trans (sI_eq)) ((sI_nej (by decide)).trans ((sI_nej (by decide)).trans ((sI_nej (by decide)).trans ((g13.i _ _ (by decide)).trans (qa_9))))) ((sI_nej (by decide)).trans ((sI_nej (by decide)).trans ((sI_nej (by decide)).trans ((g13.i _ _ (by decide)).trans (qa_16))))) ((sI_nej (by decide)).trans ((sI_nej (by decide)).trans ((sI_nej (by decide)).trans (e13_k1)))) (li_0) (hv0) (by omega)) fun v Ma457 h457 => ?_
              obtain ⟨sz456, sn456, uc456, g457, e457_sz456, e457_sn456, e457_uc456, e457_k0, e457_k1, e457_k2, e457_k3, p457_0, p457_1, p457_2⟩ := h457
              have f457 : Fr W_cp Mc Ma457 := Fr.t (Fr.sI (by decide) (Fr.sI (by decide) (Fr.sI (by decide) f13))) (Fr.m g457 (by decide))
              refine rsl (cV_e rfl) ?_
              refine rsl (vC_e (ck_65 (hC.fr f457))) ?_
              refine RlV (y64 (by omega) (hC.fr f457) (hTk.fr (WL := W_cp) f457 (by decide)) (e457_k3) (e457_k0) (e457_k1) (e457_k2) (e457_sz456) (e457_sn456) (e457_uc456) (li_59) (by omega)) fun v Ma459 h459 => ?_
              obtain ⟨sz458, sn458, uc458, g459, e459_sz458, e459_sn458, e459_uc458, e459_k0, e459_k1, e459_k2, e459_k3, p459_0, p459_1, p459_2⟩ := h459
              have f459 : Fr W_cp Mc Ma459 := Fr.t f457 (Fr.m g459 (by decide))
              refine rsl (cV_e rfl) ?_
              refine rsl (jn_v) ?_
              refine rsl (if_pos (eqI_p (li_0) (li_0) (by omega))) ?_
              refine rsl (vC_e (ck_65 (hC.fr f459))) ?_
              refine RlV (y106 (by omega) (hC.fr f459) (hTk.fr (WL := W_cp) f459 (by decide)) (e459_k3) (e459_k0) (e459_k1) (e459_k2) (e459_sz458) (e459_sn458) (e459_uc458) (congrArg iI p13_0) (li_2) (li_2) (li_4) (by omega)) fun v Ma461 h461 => ?_
              obtain ⟨sz460, sn460, uc460, g461, e461_sz460, e461_sn460, e461_uc460, e461_k0, e461_k1, e461_k2, e461_k3, p461_0, p461_1, p461_2⟩ := h461
              have f461 : Fr W_cp Mc Ma461 := Fr.t f459 (Fr.m g461 (by decide))
              refine rsl (cV_e rfl) ?_
              refine rsl (jv_e) ?_
              refine rsr (gtI_q (w := iI ((kr (kd i)))) (rk_160 hR) (wa_36)) ?_
              refine rsr (jn_v) ?_
              refine rsr (swI_c) ?_
              refine rsr (if_neg (krI_n (k := 215) (rfl) (li_416) (hS.ok i (by omega) (by omega)) (by unfold KdOK sgk; omega) (by decide +kernel) (by omega) (by omega))) ?_
              refine rsr (swI_c) ?_
              refine rsr (if_neg (krI_n (k := 216) (rfl) (li_417) (hS.ok i (by omega) (by omega)) (by unfold KdOK sgk; omega) (by decide +kernel) (by omega) (by omega))) ?_
              refine rsr (swI_c) ?_
              refine rsr (if_neg (krI_n (k := 217) (rfl) (li_418) (hS.ok i (by omega) (by omega)) (by unfold KdOK sgk; omega) (by decide +kernel) (by omega) (by omega))) ?_
              refine rsr (swI_c) ?_
              refine rsr (if_neg (krI_n (k := 218) (rfl) (li_419) (hS.ok i (by omega) (by omega)) (by unfold KdOK sgk; omega) (by decide +kernel) (by omega) (by omega))) ?_
              refine rsr (swI_c) ?_
              refine rsr (if_neg (krI_n (k := 219) (rfl) (li_420) (hS.ok i (by omega) (by omega)) (by unfold KdOK sgk; omega) (by decide +kernel) (by omega) (by omega))) ?_
              refine rsr (swI_c) ?_
              refine rsr (if_neg (krI_n (k := 220) (rfl) (li_421) (hS.ok i (by omega) (by omega)) (by unfold KdOK sgk; omega) (by decide +kernel) (by omega) (by omega))) ?_
              refine rsr (swI_c) ?_
              refine rsr (if_neg (krI_n (k := 221) (rfl) (li_422) (hS.ok i (by omega) (by omega)) (by unfold KdOK sgk; omega) (by decide +kernel) (by omega) (by omega))) ?_
              refine rsr (swI_c) ?_
              refine rsr (if_neg (krI_n (k := 222) (rfl) (li_423) (hS.ok i (by omega) (by omega)) (by unfold KdOK sgk; omega) (by decide +kernel) (by omega) (by omega))) ?_
              refine rsr (swI_n) ?_
              refine rsr (gtI_q (w := iI ((kr (kd i)))) (rk_160 hR) (wa_36)) ?_
              refine rsr (jn_v) ?_
              refine rsr (if_pos (krI_p (k := 3) (rfl) (li_1) (by omega) (by decide +kernel))) ?_
              refine rsr (jv_e) ?_
              refine rsr (vC_e (rk_160 hR)) ?_
              refine rsr (cI_e (ar193_p (by omega) hS hR (wa_36) (wa_37) (wa_41) (li_1) (by omega))) ?_
              refine rsr (if_neg (eqI_n (rfl) (li_0) (by omega))) ?_
              refine rsr (vC_e (rk_160 hR)) ?_
              refine Rs_cVr ?_ (fun v M w N h => rs1 jv_e (Rt.ok h))
              obtain ⟨d2, rfl⟩ : ∃ e, d2 = e + 1 := ⟨d2 - 1, by omega⟩
              rw [r217]; unfold b217; rw [aR_e, aZ_e]; unfold c217
              refine rsr (vC_e (rk_160 hR)) ?_
              refine RrI (a201_d (by omega) hS hR (hT.fr (W := W_rx) Fr.r (by decide) (by decide)) (fun i a b => (Fr.lc (W := W_rx) Fr.r _ (by decide) _).trans (hW i a b)) (wa_36) (wa_37) (wa_38) (wa_41) (h49) (wa_53) wa_n (by omega)) fun v Ma463 h463 => ?_
              obtain ⟨r462, rfl, g463, e463_k0, e463_k1, e463_k2, e463_k3, e463_k4, p463_0, p463_1, p463_2⟩ := h463
              have f463 : Fr W_rx Mr Ma463 := Fr.t Fr.r (Fr.m g463 (by decide))
              refine rsr (cI_e rfl) ?_
              refine rsr (gtI_q (w := iI 0) (rk_160 (hR.fr f463)) (e463_k4)) ?_
              refine rsr (if_pos (eqI_p (rfl) (li_0) (by omega))) ?_
              refine rsr (gtP_q (w := some 202) (rk_160 (hR.fr f463)) (rf_56 (hR.fr f463))) ?_
              refine rsr (alL_q (n := 2000) (z := u) (w := (tx i)) (rk_202 (hR.fr f463)) (congrArg iI p463_0) (by omega) (p463_1.2.2.2.1)) ?_
              refine rsr (jn_v) ?_
              by_cases c464 : (tx i) = (0 : Int64)
              ·
                refine rsr (if_pos (lgc_p (rfl) (rfl) c464)) ?_
                refine rsr (gtP_q (w := some 204) (rk_160 (hR.fr f463)) (rf_58 (hR.fr f463))) ?_
                refine rsr (alL_q (n := 2000) (z := u) (w := (tx (i + 2))) (rk_204 (hR.fr f463)) (congrArg iI p463_0) (by omega) (p463_1.2.2.2.2.2.1)) ?_
                refine rsr (vC_e (rk_160 (hR.fr f463))) ?_
                obtain ⟨rl, hrl⟩ : ∃ r, LcF Hl sn460 (tx (i + 2)) r := by have q := LcF_ex (Hl := Hl) (y := (tx (i + 2))) sn460.toNat; rw [show ((sn460.toNat : Nat) : Int) = sn460 by omega] at q; exact q
                have brl := hrl.bd
                by_cases crl : rl = -1
                ·
                  subst crl
                  refine RrI (a197 (by omega) (hR.fr f463) ((g463.i _ _ (by decide)).trans (wa_51)) (lra.fr g463 (by decide)) (by omega)) fun v Nl465 hl465 => ?_
                  obtain ⟨r9, rfl, hMl, hr9⟩ := hl465
                  rw [hMl]
                  have q9 := LcF.one hr9 hrl
                  rw [q9]
                  refine rsr (cI_e rfl) ?_
                  refine rsr (jv_e) ?_
                  try dsimp only
                  refine rsr (gtI_q (w := iI ((kr (kd (i + 3))))) (rk_160 (hR.fr f463)) (e463_k1)) ?_
                  refine rsr (jn_v) ?_
                  refine rsr (if_neg (krI_n (k := 40) (rfl) (li_40) (hS.ok (i + 3) (by omega) (by omega)) (by unfold KdOK sgk; omega) (by decide +kernel) (by omega) (by omega))) ?_
                  refine rsr (gtI_q (w := iI ((kr (kd (i + 3))))) (rk_160 (hR.fr f463)) (e463_k1)) ?_
                  refine rsr (if_neg (krI_n (k := 91) (rfl) (li_91) (hS.ok (i + 3) (by omega) (by omega)) (by unfold KdOK sgk; omega) (by decide +kernel) (by omega) (by omega))) ?_
                  refine rsr (vC_e (rk_160 (hR.fr f463))) ?_
                  refine rsr (cI_e (a195_61_1 (by omega) hS (hR.fr f463) (e463_k1) (e463_k2) (e463_k4) (li_61) (by omega))) ?_
                  refine rsr (if_pos (eqI_p (rfl) (li_0) (by omega))) ?_
                  refine rsr (jv_e) ?_
                  exact Rs.ok (Or.inr ⟨1, ((pl (i + 3))), f461, (Fr.sI (by decide) (Fr.sI (by decide) (Fr.m f463 (by decide)))), ⟨(i + 3), sz460, sn460, uc460, e461_k0, e461_k1, e461_k2, e461_k3, e461_sz460, e461_sn460, e461_uc460, by omega⟩, ⟨e, s, (u + 1), mu, ut, (sI_nej (by decide)).trans (sI_eq), sI_eq, (sI_nej (by decide)).trans ((sI_nej (by decide)).trans ((g463.i _ _ (by decide)).trans (wa_43))), (sI_nej (by decide)).trans ((sI_nej (by decide)).trans ((g463.i _ _ (by decide)).trans (wa_51))), (sI_nej (by decide)).trans ((sI_nej (by decide)).trans (e463_k0)), (sI_nej (by decide)).trans ((sI_nej (by decide)).trans ((g463.i _ _ (by decide)).trans (h48))), (sI_nej (by decide)).trans ((sI_nej (by decide)).trans ((g463.i _ _ (by decide)).trans (h49))), by omega⟩⟩)
                ·
                  refine RrI (a197 (by omega) (hR.fr f463) ((g463.i _ _ (by decide)).trans (wa_51)) (lra.fr g463 (by decide)) (by omega)) fun v Nl465 hl465 => ?_
                  obtain ⟨r9, rfl, hMl, hr9⟩ := hl465
                  rw [hMl]
                  have q9 := LcF.one hr9 hrl
                  rw [q9]
                  refine rsr (cI_e rfl) ?_
                  refine rsr (jv_e) ?_
                  try dsimp only
                  refine rsr (gtI_q (w := iI ((kr (kd (i + 3))))) (rk_160 (hR.fr f463)) (e463_k1)) ?_
                  refine rsr (jn_v) ?_
                  refine rsr (if_neg (krI_n (k := 40) (rfl) (li_40) (hS.ok (i + 3) (by omega) (by omega)) (by unfold KdOK sgk; omega) (by decide +kernel) (by omega) (by omega))) ?_
                  refine rsr (gtI_q (w := iI ((kr (kd (i + 3))))) (rk_160 (hR.fr f463)) (e463_k1)) ?_
                  refine rsr (if_neg (krI_n (k := 91) (rfl) (li_91) (hS.ok (i + 3) (by omega) (by omega)) (by unfold KdOK sgk; omega) (by decide +kernel) (by omega) (by omega))) ?_
                  refine rsr (vC_e (rk_160 (hR.fr f463))) ?_
                  refine rsr (cI_e (a195_61_1 (by omega) hS (hR.fr f463) (e463_k1) (e463_k2) (e463_k4) (li_61) (by omega))) ?_
                  refine rsr (if_pos (eqI_p (rfl) (li_0) (by omega))) ?_
                  refine rsr (jv_e) ?_
                  exact Rs.ok (Or.inr ⟨1, ((pl (i + 3))), f461, (Fr.sI (by decide) (Fr.sI (by decide) (Fr.m f463 (by decide)))), ⟨(i + 3), sz460, sn460, uc460, e461_k0, e461_k1, e461_k2, e461_k3, e461_sz460, e461_sn460, e461_uc460, by omega⟩, ⟨e, s, (u + 1), mu, ut, (sI_nej (by decide)).trans (sI_eq), sI_eq, (sI_nej (by decide)).trans ((sI_nej (by decide)).trans ((g463.i _ _ (by decide)).trans (wa_43))), (sI_nej (by decide)).trans ((sI_nej (by decide)).trans ((g463.i _ _ (by decide)).trans (wa_51))), (sI_nej (by decide)).trans ((sI_nej (by decide)).trans (e463_k0)), (sI_nej (by decide)).trans ((sI_nej (by decide)).trans ((g463.i _ _ (by decide)).trans (h48))), (sI_nej (by decide)).trans ((sI_nej (by decide)).trans ((g463.i _ _ (by decide)).trans (h49))), by omega⟩⟩)
              ·
                refine rsr (if_neg (lgc_n (rfl) (rfl) c464)) ?_
                refine rsr (jv_e) ?_
                try dsimp only
                refine rsr (gtI_q (w := iI ((kr (kd (i + 3))))) (rk_160 (hR.fr f463)) (e463_k1)) ?_
                refine rsr (jn_v) ?_
                refine rsr (if_neg (krI_n (k := 40) (rfl) (li_40) (hS.ok (i + 3) (by omega) (by omega)) (by unfold KdOK sgk; omega) (by decide +kernel) (by omega) (by omega))) ?_
                refine rsr (gtI_q (w := iI ((kr (kd (i + 3))))) (rk_160 (hR.fr f463)) (e463_k1)) ?_
                refine rsr (if_neg (krI_n (k := 91) (rfl) (li_91) (hS.ok (i + 3) (by omega) (by omega)) (by unfold KdOK sgk; omega) (by decide +kernel) (by omega) (by omega))) ?_
                refine rsr (vC_e (rk_160 (hR.fr f463))) ?_
                refine rsr (cI_e (a195_61_1 (by omega) hS (hR.fr f463) (e463_k1) (e463_k2) (e463_k4) (li_61) (by omega))) ?_
                refine rsr (if_pos (eqI_p (rfl) (li_0) (by omega))) ?_
                refine rsr (jv_e) ?_
                exact Rs.ok (Or.inr ⟨1, ((pl (i + 3))), f461, (Fr.sI (by decide) (Fr.sI (by decide) (Fr.m f463 (by decide)))), ⟨(i + 3), sz460, sn460, uc460, e461_k0, e461_k1, e461_k2, e461_k3, e461_sz460, e461_sn460, e461_uc460, by omega⟩, ⟨e, s, (u + 1), mu, ut, (sI_nej (by decide)).trans (sI_eq), sI_eq, (sI_nej (by decide)).trans ((sI_nej (by decide)).trans ((g463.i _ _ (by decide)).trans (wa_43))), (sI_nej (by decide)).trans ((sI_nej (by decide)).trans ((g463.i _ _ (by decide)).trans (wa_51))), (sI_nej (by decide)).trans ((sI_nej (by decide)).trans (e463_k0)), (sI_nej (by decide)).trans ((sI_nej (by decide)).trans ((g463.i _ _ (by decide)).trans (h48))), (sI_nej (by decide)).trans ((sI_nej (by decide)).trans ((g463.i _ _ (by decide)).trans (h49))), by omega⟩⟩)
            ·
              refine rsl (cV_e (a64_2 (by omega) hS (hC.fr f13) (hTk.fr (WL := W_cp) f13 (by decide)) (e13_k0) (e13_k2) (e13_k3) (li_61) (by omega))) ?_
              refine rsl (vC_e (ck_65 (hC.fr f13).sI.sI.sI)) ?_
              refine RlV (y99_0 (by omega) (hC.fr f13).sI.sI.sI (hTk.fr (WL := W_cp) (Fr.sI (by decide) (Fr.sI (by decide) (Fr.sI (by decide) f13))) (by decide)) ((sI_nej (by decide)).trans ((sI_nej (by decide)).trans ((sI_nej (by decide)).trans (e13_k0)))) (sI_eq) ((sI_nej (by decide)).trans ((sI_nej (by decide)).trans (sI_eq))) ((sI_nej (by decide)).trans (sI_eq)) ((sI_nej (by decide)).trans ((sI_nej (by decide)).trans ((sI_nej (by decide)).trans ((g13.i _ _ (by decide)).trans (qa_9))))) ((sI_nej (by decide)).trans ((sI_nej (by decide)).trans ((sI_nej (by decide)).trans ((g13.i _ _ (by decide)).trans (qa_16))))) ((sI_nej (by decide)).trans ((sI_nej (by decide)).trans ((sI_nej (by decide)).trans (e13_k1)))) (li_0) (hv0) (by omega)) fun v Ma467 h467 => ?_
              obtain ⟨sz466, sn466, uc466, g467, e467_sz466, e467_sn466, e467_uc466, e467_k0, e467_k1, e467_k2, e467_k3, p467_0, p467_1, p467_2⟩ := h467
              have f467 : Fr W_cp Mc Ma467 := Fr.t (Fr.sI (by decide) (Fr.sI (by decide) (Fr.sI (by decide) f13))) (Fr.m g467 (by decide))
              refine rsl (cV_e rfl) ?_
              refine rsl (vC_e (ck_65 (hC.fr f467))) ?_
              refine RlV (y64 (by omega) (hC.fr f467) (hTk.fr (WL := W_cp) f467 (by decide)) (e467_k3) (e467_k0) (e467_k1) (e467_k2) (e467_sz466) (e467_sn466) (e467_uc466) (li_59) (by omega)) fun v Ma469 h469 => ?_
              obtain ⟨sz468, sn468, uc468, g469, e469_sz468, e469_sn468, e469_uc468, e469_k0, e469_k1, e469_k2, e469_k3, p469_0, p469_1, p469_2⟩ := h469
              have f469 : Fr W_cp Mc Ma469 := Fr.t f467 (Fr.m g469 (by decide))
              refine rsl (cV_e rfl) ?_
              refine rsl (jn_v) ?_
              refine rsl (if_pos (eqI_p (li_0) (li_0) (by omega))) ?_
              refine rsl (vC_e (ck_65 (hC.fr f469))) ?_
              refine RlV (y106 (by omega) (hC.fr f469) (hTk.fr (WL := W_cp) f469 (by decide)) (e469_k3) (e469_k0) (e469_k1) (e469_k2) (e469_sz468) (e469_sn468) (e469_uc468) (congrArg iI p13_0) (li_2) (li_2) (li_4) (by omega)) fun v Ma471 h471 => ?_
              obtain ⟨sz470, sn470, uc470, g471, e471_sz470, e471_sn470, e471_uc470, e471_k0, e471_k1, e471_k2, e471_k3, p471_0, p471_1, p471_2⟩ := h471
              have f471 : Fr W_cp Mc Ma471 := Fr.t f469 (Fr.m g471 (by decide))
              refine rsl (cV_e rfl) ?_
              refine rsl (jv_e) ?_
              refine rsr (gtI_q (w := iI ((kr (kd i)))) (rk_160 hR) (wa_36)) ?_
              refine rsr (jn_v) ?_
              refine rsr (swI_c) ?_
              refine rsr (if_neg (krI_n (k := 215) (rfl) (li_416) (hS.ok i (by omega) (by omega)) (by unfold KdOK sgk; omega) (by decide +kernel) (by omega) (by omega))) ?_
              refine rsr (swI_c) ?_
              refine rsr (if_neg (krI_n (k := 216) (rfl) (li_417) (hS.ok i (by omega) (by omega)) (by unfold KdOK sgk; omega) (by decide +kernel) (by omega) (by omega))) ?_
              refine rsr (swI_c) ?_
              refine rsr (if_neg (krI_n (k := 217) (rfl) (li_418) (hS.ok i (by omega) (by omega)) (by unfold KdOK sgk; omega) (by decide +kernel) (by omega) (by omega))) ?_
              refine rsr (swI_c) ?_
              refine rsr (if_neg (krI_n (k := 218) (rfl) (li_419) (hS.ok i (by omega) (by omega)) (by unfold KdOK sgk; omega) (by decide +kernel) (by omega) (by omega))) ?_
              refine rsr (swI_c) ?_
              refine rsr (if_neg (krI_n (k := 219) (rfl) (li_420) (hS.ok i (by omega) (by omega)) (by unfold KdOK sgk; omega) (by decide +kernel) (by omega) (by omega))) ?_
              refine rsr (swI_c) ?_
              refine rsr (if_neg (krI_n (k := 220) (rfl) (li_421) (hS.ok i (by omega) (by omega)) (by unfold KdOK sgk; omega) (by decide +kernel) (by omega) (by omega))) ?_
              refine rsr (swI_c) ?_
              refine rsr (if_neg (krI_n (k := 221) (rfl) (li_422) (hS.ok i (by omega) (by omega)) (by unfold KdOK sgk; omega) (by decide +kernel) (by omega) (by omega))) ?_
              refine rsr (swI_c) ?_
              refine rsr (if_neg (krI_n (k := 222) (rfl) (li_423) (hS.ok i (by omega) (by omega)) (by unfold KdOK sgk; omega) (by decide +kernel) (by omega) (by omega))) ?_
              refine rsr (swI_n) ?_
              refine rsr (gtI_q (w := iI ((kr (kd i)))) (rk_160 hR) (wa_36)) ?_
              refine rsr (jn_v) ?_
              refine rsr (if_pos (krI_p (k := 3) (rfl) (li_1) (by omega) (by decide +kernel))) ?_
              refine rsr (jv_e) ?_
              refine rsr (vC_e (rk_160 hR)) ?_
              refine rsr (cI_e (ar193_p (by omega) hS hR (wa_36) (wa_37) (wa_41) (li_1) (by omega))) ?_
              refine rsr (if_neg (eqI_n (rfl) (li_0) (by omega))) ?_
              refine rsr (vC_e (rk_160 hR)) ?_
              refine Rs_cVr ?_ (fun v M w N h => rs1 jv_e (Rt.ok h))
              obtain ⟨d2, rfl⟩ : ∃ e, d2 = e + 1 := ⟨d2 - 1, by omega⟩
              rw [r217]; unfold b217; rw [aR_e, aZ_e]; unfold c217
              refine rsr (vC_e (rk_160 hR)) ?_
              refine RrI (a201_d (by omega) hS hR (hT.fr (W := W_rx) Fr.r (by decide) (by decide)) (fun i a b => (Fr.lc (W := W_rx) Fr.r _ (by decide) _).trans (hW i a b)) (wa_36) (wa_37) (wa_38) (wa_41) (h49) (wa_53) wa_n (by omega)) fun v Ma473 h473 => ?_
              obtain ⟨r472, rfl, g473, e473_k0, e473_k1, e473_k2, e473_k3, e473_k4, p473_0, p473_1, p473_2⟩ := h473
              have f473 : Fr W_rx Mr Ma473 := Fr.t Fr.r (Fr.m g473 (by decide))
              refine rsr (cI_e rfl) ?_
              refine rsr (gtI_q (w := iI 0) (rk_160 (hR.fr f473)) (e473_k4)) ?_
              refine rsr (if_pos (eqI_p (rfl) (li_0) (by omega))) ?_
              refine rsr (gtP_q (w := some 202) (rk_160 (hR.fr f473)) (rf_56 (hR.fr f473))) ?_
              refine rsr (alL_q (n := 2000) (z := u) (w := (tx i)) (rk_202 (hR.fr f473)) (congrArg iI p473_0) (by omega) (p473_1.2.2.2.1)) ?_
              refine rsr (jn_v) ?_
              by_cases c474 : (tx i) = (0 : Int64)
              ·
                refine rsr (if_pos (lgc_p (rfl) (rfl) c474)) ?_
                refine rsr (gtP_q (w := some 204) (rk_160 (hR.fr f473)) (rf_58 (hR.fr f473))) ?_
                refine rsr (alL_q (n := 2000) (z := u) (w := (tx (i + 2))) (rk_204 (hR.fr f473)) (congrArg iI p473_0) (by omega) (p473_1.2.2.2.2.2.1)) ?_
                refine rsr (vC_e (rk_160 (hR.fr f473))) ?_
                obtain ⟨rl, hrl⟩ : ∃ r, LcF Hl sn470 (tx (i + 2)) r := by have q := LcF_ex (Hl := Hl) (y := (tx (i + 2))) sn470.toNat; rw [show ((sn470.toNat : Nat) : Int) = sn470 by omega] at q; exact q
                have brl := hrl.bd
                by_cases crl : rl = -1
                ·
                  subst crl
                  refine RrI (a197 (by omega) (hR.fr f473) ((g473.i _ _ (by decide)).trans (wa_51)) (lra.fr g473 (by decide)) (by omega)) fun v Nl475 hl475 => ?_
                  obtain ⟨r9, rfl, hMl, hr9⟩ := hl475
                  rw [hMl]
                  have q9 := LcF.one hr9 hrl
                  rw [q9]
                  refine rsr (cI_e rfl) ?_
                  refine rsr (jv_e) ?_
                  try dsimp only
                  refine rsr (gtI_q (w := iI ((kr (kd (i + 3))))) (rk_160 (hR.fr f473)) (e473_k1)) ?_
                  refine rsr (jn_v) ?_
                  refine rsr (if_neg (krI_n (k := 40) (rfl) (li_40) (hS.ok (i + 3) (by omega) (by omega)) (by unfold KdOK sgk; omega) (by decide +kernel) (by omega) (by omega))) ?_
                  refine rsr (gtI_q (w := iI ((kr (kd (i + 3))))) (rk_160 (hR.fr f473)) (e473_k1)) ?_
                  refine rsr (if_neg (krI_n (k := 91) (rfl) (li_91) (hS.ok (i + 3) (by omega) (by omega)) (by unfold KdOK sgk; omega) (by decide +kernel) (by omega) (by omega))) ?_
                  refine rsr (vC_e (rk_160 (hR.fr f473))) ?_
                  refine rsr (cI_e (a195_61_2 (by omega) hS (hR.fr f473) (e473_k1) (e473_k2) (e473_k4) (li_61) (by omega))) ?_
                  refine rsr (if_pos (eqI_p (rfl) (li_0) (by omega))) ?_
                  refine rsr (jv_e) ?_
                  exact Rs.ok (Or.inr ⟨2, ((pl (i + 3))), f471, (Fr.sI (by decide) (Fr.sI (by decide) (Fr.m f473 (by decide)))), ⟨(i + 3), sz470, sn470, uc470, e471_k0, e471_k1, e471_k2, e471_k3, e471_sz470, e471_sn470, e471_uc470, by omega⟩, ⟨e, s, (u + 1), mu, ut, (sI_nej (by decide)).trans (sI_eq), sI_eq, (sI_nej (by decide)).trans ((sI_nej (by decide)).trans ((g473.i _ _ (by decide)).trans (wa_43))), (sI_nej (by decide)).trans ((sI_nej (by decide)).trans ((g473.i _ _ (by decide)).trans (wa_51))), (sI_nej (by decide)).trans ((sI_nej (by decide)).trans (e473_k0)), (sI_nej (by decide)).trans ((sI_nej (by decide)).trans ((g473.i _ _ (by decide)).trans (h48))), (sI_nej (by decide)).trans ((sI_nej (by decide)).trans ((g473.i _ _ (by decide)).trans (h49))), by omega⟩⟩)
                ·
                  refine RrI (a197 (by omega) (hR.fr f473) ((g473.i _ _ (by decide)).trans (wa_51)) (lra.fr g473 (by decide)) (by omega)) fun v Nl475 hl475 => ?_
                  obtain ⟨r9, rfl, hMl, hr9⟩ := hl475
                  rw [hMl]
                  have q9 := LcF.one hr9 hrl
                  rw [q9]
                  refine rsr (cI_e rfl) ?_
                  refine rsr (jv_e) ?_
                  try dsimp only
                  refine rsr (gtI_q (w := iI ((kr (kd (i + 3))))) (rk_160 (hR.fr f473)) (e473_k1)) ?_
                  refine rsr (jn_v) ?_
                  refine rsr (if_neg (krI_n (k := 40) (rfl) (li_40) (hS.ok (i + 3) (by omega) (by omega)) (by unfold KdOK sgk; omega) (by decide +kernel) (by omega) (by omega))) ?_
                  refine rsr (gtI_q (w := iI ((kr (kd (i + 3))))) (rk_160 (hR.fr f473)) (e473_k1)) ?_
                  refine rsr (if_neg (krI_n (k := 91) (rfl) (li_91) (hS.ok (i + 3) (by omega) (by omega)) (by unfold KdOK sgk; omega) (by decide +kernel) (by omega) (by omega))) ?_
                  refine rsr (vC_e (rk_160 (hR.fr f473))) ?_
                  refine rsr (cI_e (a195_61_2 (by omega) hS (hR.fr f473) (e473_k1) (e473_k2) (e473_k4) (li_61) (by omega))) ?_
                  refine rsr (if_pos (eqI_p (rfl) (li_0) (by omega))) ?_
                  refine rsr (jv_e) ?_
                  exact Rs.ok (Or.inr ⟨2, ((pl (i + 3))), f471, (Fr.sI (by decide) (Fr.sI (by decide) (Fr.m f473 (by decide)))), ⟨(i + 3), sz470, sn470, uc470, e471_k0, e471_k1, e471_k2, e471_k3, e471_sz470, e471_sn470, e471_uc470, by omega⟩, ⟨e, s, (u + 1), mu, ut, (sI_nej (by decide)).trans (sI_eq), sI_eq, (sI_nej (by decide)).trans ((sI_nej (by decide)).trans ((g473.i _ _ (by decide)).trans (wa_43))), (sI_nej (by decide)).trans ((sI_nej (by decide)).trans ((g473.i _ _ (by decide)).trans (wa_51))), (sI_nej (by decide)).trans ((sI_nej (by decide)).trans (e473_k0)), (sI_nej (by decide)).trans ((sI_nej (by decide)).trans ((g473.i _ _ (by decide)).trans (h48))), (sI_nej (by decide)).trans ((sI_nej (by decide)).trans ((g473.i _ _ (by decide)).trans (h49))), by omega⟩⟩)
              ·
                refine rsr (if_neg (lgc_n (rfl) (rfl) c474)) ?_
                refine rsr (jv_e) ?_
                try dsimp only
                refine rsr (gtI_q (w := iI ((kr (kd (i + 3))))) (rk_160 (hR.fr f473)) (e473_k1)) ?_
                refine rsr (jn_v) ?_
                refine rsr (if_neg (krI_n (k := 40) (rfl) (li_40) (hS.ok (i + 3) (by omega) (by omega)) (by unfold KdOK sgk; omega) (by decide +kernel) (by omega) (by omega))) ?_
                refine rsr (gtI_q (w := iI ((kr (kd (i + 3))))) (rk_160 (hR.fr f473)) (e473_k1)) ?_
                refine rsr (if_neg (krI_n (k := 91) (rfl) (li_91) (hS.ok (i + 3) (by omega) (by omega)) (by unfold KdOK sgk; omega) (by decide +kernel) (by omega) (by omega))) ?_
                refine rsr (vC_e (rk_160 (hR.fr f473))) ?_
                refine rsr (cI_e (a195_61_2 (by omega) hS (hR.fr f473) (e473_k1) (e473_k2) (e473_k4) (li_61) (by omega))) ?_
                refine rsr (if_pos (eqI_p (rfl) (li_0) (by omega))) ?_
                refine rsr (jv_e) ?_
                exact Rs.ok (Or.inr ⟨2, ((pl (i + 3))), f471, (Fr.sI (by decide) (Fr.sI (by decide) (Fr.m f473 (by decide)))), ⟨(i + 3), sz470, sn470, uc470, e471_k0, e471_k1, e471_k2, e471_k3, e471_sz470, e471_sn470, e471_uc470, by omega⟩, ⟨e, s, (u + 1), mu, ut, (sI_nej (by decide)).trans (sI_eq), sI_eq, (sI_nej (by decide)).trans ((sI_nej (by decide)).trans ((g473.i _ _ (by decide)).trans (wa_43))), (sI_nej (by decide)).trans ((sI_nej (by decide)).trans ((g473.i _ _ (by decide)).trans (wa_51))), (sI_nej (by decide)).trans ((sI_nej (by decide)).trans (e473_k0)), (sI_nej (by decide)).trans ((sI_nej (by decide)).trans ((g473.i _ _ (by decide)).trans (h48))), (sI_nej (by decide)).trans ((sI_nej (by decide)).trans ((g473.i _ _ (by decide)).trans (h49))), by omega⟩⟩)
    ·
      by_cases c476 : ((kd (i + 2))) = 1
      ·
        refine RlI (a104_1 (by omega) hS hC (hTk.fr (WL := W_cp) Fr.r (by decide)) hu1 (by rw [(Fr.r : Fr W_cp Mc _).p]; exact hu2) (Fr.kd (W := W_cp) Fr.r hu3) ((Fr.i (W := W_cp) Fr.r _ _ (inW_hi (by decide) hu1 _)).trans hu4) (qa_12) (qa_13) (qa_10) (qa_19) (by omega)) fun v Ma478 h478 => ?_
        obtain ⟨r477, rfl, g478, e478_k0, e478_k1, e478_k2, e478_k3, e478_k4, p478_0, p478_1⟩ := h478
        have f478 : Fr W_cp Mc Ma478 := Fr.t Fr.r (Fr.m g478 (by decide))
        refine rsl (cI_e rfl) ?_
        refine rsl (gtI_q (w := iI 2) (ck_65 (hC.fr f478)) (e478_k2)) ?_
        refine rsl (if_neg (eqI_n (rfl) (li_40) (by omega))) ?_
        refine rsl (gtI_q (w := iI 2) (ck_65 (hC.fr f478)) (e478_k2)) ?_
        refine rsl (jn_v) ?_
        refine rsl (if_neg (eqI_n (rfl) (li_91) (by omega))) ?_
        refine rsl (jv_e) ?_
        refine rsl (jn_v) ?_
        refine rsl (if_pos (eqI_p (li_0) (li_0) (by omega))) ?_
        refine rsl (jv_e) ?_
        refine rsl (vC_e (ck_65 (hC.fr f478))) ?_
        refine RlV (y64 (by omega) (hC.fr f478) (hTk.fr (WL := W_cp) f478 (by decide)) (e478_k0) (e478_k2) (e478_k3) (e478_k4) ((g478.i _ _ (by decide)).trans (qa_9)) ((g478.i _ _ (by decide)).trans (qa_16)) (e478_k1) (li_61) (by omega)) fun v Ma480 h480 => ?_
        obtain ⟨sz479, sn479, uc479, g480, e480_sz479, e480_sn479, e480_uc479, e480_k0, e480_k1, e480_k2, e480_k3, p480_0, p480_1, p480_2⟩ := h480
        have f480 : Fr W_cp Mc Ma480 := Fr.t f478 (Fr.m g480 (by decide))
        refine rsl (cV_e rfl) ?_
        refine rsl (vC_e (ck_65 (hC.fr f480))) ?_
        refine RlV (y99_0 (by omega) (hC.fr f480) (hTk.fr (WL := W_cp) f480 (by decide)) (e480_k3) (e480_k0) (e480_k1) (e480_k2) (e480_sz479) (e480_sn479) (e480_uc479) (li_0) (hv0) (by omega)) fun v Ma482 h482 => ?_
        obtain ⟨sz481, sn481, uc481, g482, e482_sz481, e482_sn481, e482_uc481, e482_k0, e482_k1, e482_k2, e482_k3, p482_0, p482_1, p482_2⟩ := h482
        have f482 : Fr W_cp Mc Ma482 := Fr.t f480 (Fr.m g482 (by decide))
        refine rsl (cV_e rfl) ?_
        refine rsl (vC_e (ck_65 (hC.fr f482))) ?_
        refine RlV (y64 (by omega) (hC.fr f482) (hTk.fr (WL := W_cp) f482 (by decide)) (e482_k3) (e482_k0) (e482_k1) (e482_k2) (e482_sz481) (e482_sn481) (e482_uc481) (li_59) (by omega)) fun v Ma484 h484 => ?_
        obtain ⟨sz483, sn483, uc483, g484, e484_sz483, e484_sn483, e484_uc483, e484_k0, e484_k1, e484_k2, e484_k3, p484_0, p484_1, p484_2⟩ := h484
        have f484 : Fr W_cp Mc Ma484 := Fr.t f482 (Fr.m g484 (by decide))
        refine rsl (cV_e rfl) ?_
        refine rsl (jn_v) ?_
        refine rsl (if_pos (eqI_p (li_0) (li_0) (by omega))) ?_
        refine rsl (vC_e (ck_65 (hC.fr f484))) ?_
        refine RlV (y106 (by omega) (hC.fr f484) (hTk.fr (WL := W_cp) f484 (by decide)) (e484_k3) (e484_k0) (e484_k1) (e484_k2) (e484_sz483) (e484_sn483) (e484_uc483) (congrArg iI p478_0) (li_2) (li_2) (li_4) (by omega)) fun v Ma486 h486 => ?_
        obtain ⟨sz485, sn485, uc485, g486, e486_sz485, e486_sn485, e486_uc485, e486_k0, e486_k1, e486_k2, e486_k3, p486_0, p486_1, p486_2⟩ := h486
        have f486 : Fr W_cp Mc Ma486 := Fr.t f484 (Fr.m g486 (by decide))
        refine rsl (cV_e rfl) ?_
        refine rsl (jv_e) ?_
        refine rsr (gtI_q (w := iI ((kr (kd i)))) (rk_160 hR) (wa_36)) ?_
        refine rsr (jn_v) ?_
        refine rsr (swI_c) ?_
        refine rsr (if_neg (krI_n (k := 215) (rfl) (li_416) (hS.ok i (by omega) (by omega)) (by unfold KdOK sgk; omega) (by decide +kernel) (by omega) (by omega))) ?_
        refine rsr (swI_c) ?_
        refine rsr (if_neg (krI_n (k := 216) (rfl) (li_417) (hS.ok i (by omega) (by omega)) (by unfold KdOK sgk; omega) (by decide +kernel) (by omega) (by omega))) ?_
        refine rsr (swI_c) ?_
        refine rsr (if_neg (krI_n (k := 217) (rfl) (li_418) (hS.ok i (by omega) (by omega)) (by unfold KdOK sgk; omega) (by decide +kernel) (by omega) (by omega))) ?_
        refine rsr (swI_c) ?_
        refine rsr (if_neg (krI_n (k := 218) (rfl) (li_419) (hS.ok i (by omega) (by omega)) (by unfold KdOK sgk; omega) (by decide +kernel) (by omega) (by omega))) ?_
        refine rsr (swI_c) ?_
        refine rsr (if_neg (krI_n (k := 219) (rfl) (li_420) (hS.ok i (by omega) (by omega)) (by unfold KdOK sgk; omega) (by decide +kernel) (by omega) (by omega))) ?_
        refine rsr (swI_c) ?_
        refine rsr (if_neg (krI_n (k := 220) (rfl) (li_421) (hS.ok i (by omega) (by omega)) (by unfold KdOK sgk; omega) (by decide +kernel) (by omega) (by omega))) ?_
        refine rsr (swI_c) ?_
        refine rsr (if_neg (krI_n (k := 221) (rfl) (li_422) (hS.ok i (by omega) (by omega)) (by unfold KdOK sgk; omega) (by decide +kernel) (by omega) (by omega))) ?_
        refine rsr (swI_c) ?_
        refine rsr (if_neg (krI_n (k := 222) (rfl) (li_423) (hS.ok i (by omega) (by omega)) (by unfold KdOK sgk; omega) (by decide +kernel) (by omega) (by omega))) ?_
        refine rsr (swI_n) ?_
        refine rsr (gtI_q (w := iI ((kr (kd i)))) (rk_160 hR) (wa_36)) ?_
        refine rsr (jn_v) ?_
        refine rsr (if_pos (krI_p (k := 3) (rfl) (li_1) (by omega) (by decide +kernel))) ?_
        refine rsr (jv_e) ?_
        refine rsr (vC_e (rk_160 hR)) ?_
        refine rsr (cI_e (ar193_p (by omega) hS hR (wa_36) (wa_37) (wa_41) (li_1) (by omega))) ?_
        refine rsr (if_neg (eqI_n (rfl) (li_0) (by omega))) ?_
        refine rsr (vC_e (rk_160 hR)) ?_
        refine Rs_cVr ?_ (fun v M w N h => rs1 jv_e (Rt.ok h))
        obtain ⟨d2, rfl⟩ : ∃ e, d2 = e + 1 := ⟨d2 - 1, by omega⟩
        rw [r217]; unfold b217; rw [aR_e, aZ_e]; unfold c217
        refine rsr (vC_e (rk_160 hR)) ?_
        refine RrI (a201_1 (by omega) hS hR (hT.fr (W := W_rx) Fr.r (by decide) (by decide)) (fun i a b => (Fr.lc (W := W_rx) Fr.r _ (by decide) _).trans (hW i a b)) (wa_36) (wa_37) (wa_38) (wa_41) (h49) (wa_53) wa_n (by omega)) fun v Ma488 h488 => ?_
        obtain ⟨r487, rfl, g488, e488_k0, e488_k1, e488_k2, e488_k3, e488_k4, e488_k5, p488_0⟩ := h488
        have f488 : Fr W_rx Mr Ma488 := Fr.t Fr.r (Fr.m g488 (by decide))
        refine rsr (cI_e rfl) ?_
        refine rsr (gtI_q (w := iI 1) (rk_160 (hR.fr f488)) (e488_k4)) ?_
        refine rsr (if_neg (eqI_n (rfl) (li_0) (by omega))) ?_
        exact Rs.ok (Or.inr ⟨1, ((pl (i + 2))), f486, (Fr.m f488 (by decide)), ⟨(i + 2), sz485, sn485, uc485, e486_k0, e486_k1, e486_k2, e486_k3, e486_sz485, e486_sn485, e486_uc485, by omega⟩, ⟨e, s, (u + 1), mu, ut, e488_k4, e488_k5, (g488.i _ _ (by decide)).trans (wa_43), (g488.i _ _ (by decide)).trans (wa_51), e488_k0, (g488.i _ _ (by decide)).trans (h48), (g488.i _ _ (by decide)).trans (h49), by omega⟩⟩)
      ·
        refine RlI (a104_2 (by omega) hS hC (hTk.fr (WL := W_cp) Fr.r (by decide)) hu1 (by rw [(Fr.r : Fr W_cp Mc _).p]; exact hu2) (Fr.kd (W := W_cp) Fr.r hu3) ((Fr.i (W := W_cp) Fr.r _ _ (inW_hi (by decide) hu1 _)).trans hu4) (qa_12) (qa_13) (qa_10) (qa_19) (by omega)) fun v Ma490 h490 => ?_
        obtain ⟨r489, rfl, g490, e490_k0, e490_k1, e490_k2, e490_k3, e490_k4, p490_0, p490_1⟩ := h490
        have f490 : Fr W_cp Mc Ma490 := Fr.t Fr.r (Fr.m g490 (by decide))
        refine rsl (cI_e rfl) ?_
        refine rsl (gtI_q (w := iI 2) (ck_65 (hC.fr f490)) (e490_k2)) ?_
        refine rsl (if_neg (eqI_n (rfl) (li_40) (by omega))) ?_
        refine rsl (gtI_q (w := iI 2) (ck_65 (hC.fr f490)) (e490_k2)) ?_
        refine rsl (jn_v) ?_
        refine rsl (if_neg (eqI_n (rfl) (li_91) (by omega))) ?_
        refine rsl (jv_e) ?_
        refine rsl (jn_v) ?_
        refine rsl (if_pos (eqI_p (li_0) (li_0) (by omega))) ?_
        refine rsl (jv_e) ?_
        refine rsl (vC_e (ck_65 (hC.fr f490))) ?_
        refine RlV (y64 (by omega) (hC.fr f490) (hTk.fr (WL := W_cp) f490 (by decide)) (e490_k0) (e490_k2) (e490_k3) (e490_k4) ((g490.i _ _ (by decide)).trans (qa_9)) ((g490.i _ _ (by decide)).trans (qa_16)) (e490_k1) (li_61) (by omega)) fun v Ma492 h492 => ?_
        obtain ⟨sz491, sn491, uc491, g492, e492_sz491, e492_sn491, e492_uc491, e492_k0, e492_k1, e492_k2, e492_k3, p492_0, p492_1, p492_2⟩ := h492
        have f492 : Fr W_cp Mc Ma492 := Fr.t f490 (Fr.m g492 (by decide))
        refine rsl (cV_e rfl) ?_
        refine rsl (vC_e (ck_65 (hC.fr f492))) ?_
        refine RlV (y99_0 (by omega) (hC.fr f492) (hTk.fr (WL := W_cp) f492 (by decide)) (e492_k3) (e492_k0) (e492_k1) (e492_k2) (e492_sz491) (e492_sn491) (e492_uc491) (li_0) (hv0) (by omega)) fun v Ma494 h494 => ?_
        obtain ⟨sz493, sn493, uc493, g494, e494_sz493, e494_sn493, e494_uc493, e494_k0, e494_k1, e494_k2, e494_k3, p494_0, p494_1, p494_2⟩ := h494
        have f494 : Fr W_cp Mc Ma494 := Fr.t f492 (Fr.m g494 (by decide))
        refine rsl (cV_e rfl) ?_
        refine rsl (vC_e (ck_65 (hC.fr f494))) ?_
        refine RlV (y64 (by omega) (hC.fr f494) (hTk.fr (WL := W_cp) f494 (by decide)) (e494_k3) (e494_k0) (e494_k1) (e494_k2) (e494_sz493) (e494_sn493) (e494_uc493) (li_59) (by omega)) fun v Ma496 h496 => ?_
        obtain ⟨sz495, sn495, uc495, g496, e496_sz495, e496_sn495, e496_uc495, e496_k0, e496_k1, e496_k2, e496_k3, p496_0, p496_1, p496_2⟩ := h496
        have f496 : Fr W_cp Mc Ma496 := Fr.t f494 (Fr.m g496 (by decide))
        refine rsl (cV_e rfl) ?_
        refine rsl (jn_v) ?_
        refine rsl (if_pos (eqI_p (li_0) (li_0) (by omega))) ?_
        refine rsl (vC_e (ck_65 (hC.fr f496))) ?_
        refine RlV (y106 (by omega) (hC.fr f496) (hTk.fr (WL := W_cp) f496 (by decide)) (e496_k3) (e496_k0) (e496_k1) (e496_k2) (e496_sz495) (e496_sn495) (e496_uc495) (congrArg iI p490_0) (li_2) (li_2) (li_4) (by omega)) fun v Ma498 h498 => ?_
        obtain ⟨sz497, sn497, uc497, g498, e498_sz497, e498_sn497, e498_uc497, e498_k0, e498_k1, e498_k2, e498_k3, p498_0, p498_1, p498_2⟩ := h498
        have f498 : Fr W_cp Mc Ma498 := Fr.t f496 (Fr.m g498 (by decide))
        refine rsl (cV_e rfl) ?_
        refine rsl (jv_e) ?_
        refine rsr (gtI_q (w := iI ((kr (kd i)))) (rk_160 hR) (wa_36)) ?_
        refine rsr (jn_v) ?_
        refine rsr (swI_c) ?_
        refine rsr (if_neg (krI_n (k := 215) (rfl) (li_416) (hS.ok i (by omega) (by omega)) (by unfold KdOK sgk; omega) (by decide +kernel) (by omega) (by omega))) ?_
        refine rsr (swI_c) ?_
        refine rsr (if_neg (krI_n (k := 216) (rfl) (li_417) (hS.ok i (by omega) (by omega)) (by unfold KdOK sgk; omega) (by decide +kernel) (by omega) (by omega))) ?_
        refine rsr (swI_c) ?_
        refine rsr (if_neg (krI_n (k := 217) (rfl) (li_418) (hS.ok i (by omega) (by omega)) (by unfold KdOK sgk; omega) (by decide +kernel) (by omega) (by omega))) ?_
        refine rsr (swI_c) ?_
        refine rsr (if_neg (krI_n (k := 218) (rfl) (li_419) (hS.ok i (by omega) (by omega)) (by unfold KdOK sgk; omega) (by decide +kernel) (by omega) (by omega))) ?_
        refine rsr (swI_c) ?_
        refine rsr (if_neg (krI_n (k := 219) (rfl) (li_420) (hS.ok i (by omega) (by omega)) (by unfold KdOK sgk; omega) (by decide +kernel) (by omega) (by omega))) ?_
        refine rsr (swI_c) ?_
        refine rsr (if_neg (krI_n (k := 220) (rfl) (li_421) (hS.ok i (by omega) (by omega)) (by unfold KdOK sgk; omega) (by decide +kernel) (by omega) (by omega))) ?_
        refine rsr (swI_c) ?_
        refine rsr (if_neg (krI_n (k := 221) (rfl) (li_422) (hS.ok i (by omega) (by omega)) (by unfold KdOK sgk; omega) (by decide +kernel) (by omega) (by omega))) ?_
        refine rsr (swI_c) ?_
        refine rsr (if_neg (krI_n (k := 222) (rfl) (li_423) (hS.ok i (by omega) (by omega)) (by unfold KdOK sgk; omega) (by decide +kernel) (by omega) (by omega))) ?_
        refine rsr (swI_n) ?_
        refine rsr (gtI_q (w := iI ((kr (kd i)))) (rk_160 hR) (wa_36)) ?_
        refine rsr (jn_v) ?_
        refine rsr (if_pos (krI_p (k := 3) (rfl) (li_1) (by omega) (by decide +kernel))) ?_
        refine rsr (jv_e) ?_
        refine rsr (vC_e (rk_160 hR)) ?_
        refine rsr (cI_e (ar193_p (by omega) hS hR (wa_36) (wa_37) (wa_41) (li_1) (by omega))) ?_
        refine rsr (if_neg (eqI_n (rfl) (li_0) (by omega))) ?_
        refine rsr (vC_e (rk_160 hR)) ?_
        refine Rs_cVr ?_ (fun v M w N h => rs1 jv_e (Rt.ok h))
        obtain ⟨d2, rfl⟩ : ∃ e, d2 = e + 1 := ⟨d2 - 1, by omega⟩
        rw [r217]; unfold b217; rw [aR_e, aZ_e]; unfold c217
        refine rsr (vC_e (rk_160 hR)) ?_
        refine RrI (a201_2 (by omega) hS hR (hT.fr (W := W_rx) Fr.r (by decide) (by decide)) (fun i a b => (Fr.lc (W := W_rx) Fr.r _ (by decide) _).trans (hW i a b)) (wa_36) (wa_37) (wa_38) (wa_41) (h49) (wa_53) wa_n (by omega)) fun v Ma500 h500 => ?_
        obtain ⟨r499, rfl, g500, e500_k0, e500_k1, e500_k2, e500_k3, e500_k4, e500_k5, p500_0⟩ := h500
        have f500 : Fr W_rx Mr Ma500 := Fr.t Fr.r (Fr.m g500 (by decide))
        refine rsr (cI_e rfl) ?_
        refine rsr (gtI_q (w := iI 2) (rk_160 (hR.fr f500)) (e500_k4)) ?_
        refine rsr (if_neg (eqI_n (rfl) (li_0) (by omega))) ?_
        exact Rs.ok (Or.inr ⟨2, ((pl (i + 2))), f498, (Fr.m f500 (by decide)), ⟨(i + 2), sz497, sn497, uc497, e498_k0, e498_k1, e498_k2, e498_k3, e498_sz497, e498_sn497, e498_uc497, by omega⟩, ⟨e, s, (u + 1), mu, ut, e500_k4, e500_k5, (g500.i _ _ (by decide)).trans (wa_43), (g500.i _ _ (by decide)).trans (wa_51), e500_k0, (g500.i _ _ (by decide)).trans (h48), (g500.i _ _ (by decide)).trans (h49), by omega⟩⟩)
  ·
    have hlt : ∀ j, 0 ≤ j → j < u → U 0 j < uc := fun j a b => (cua.1 j a b).1.2
    refine RlI (a104_u (by omega) hS hC (hTk.fr (WL := W_cp) Fr.r (by decide)) hu1 (by rw [(Fr.r : Fr W_cp Mc _).p]; exact hu2) (Fr.kd (W := W_cp) Fr.r hu3) ((Fr.i (W := W_cp) Fr.r _ _ (inW_hi (by decide) hu1 _)).trans hu4) (qa_12) (qa_13) (qa_10) (qa_19) (by omega)) fun v Ma502 h502 => ?_
    obtain ⟨r501, rfl, g502, e502_k0, e502_k1, e502_k2, e502_k3, p502_0, p502_1⟩ := h502
    have f502 : Fr W_cp Mc Ma502 := Fr.t Fr.r (Fr.m g502 (by decide))
    refine rsl (cI_e rfl) ?_
    refine rsl (gtI_q (w := iI ((kd (i + 1)))) (ck_65 (hC.fr f502)) (e502_k2)) ?_
    by_cases c503 : ((kd (i + 1))) = 40
    · refine rsl (if_pos (eqI_p (rfl) (li_40) (by omega))) ?_
      refine rsl (vC_e (ck_65 (hC.fr f502))) ?_
      refine rsr (gtI_q (w := iI ((kr (kd i)))) (rk_160 hR) (wa_36)) ?_
      refine rsr (jn_v) ?_
      refine rsr (swI_c) ?_
      refine rsr (if_neg (krI_n (k := 215) (rfl) (li_416) (hS.ok i (by omega) (by omega)) (by unfold KdOK sgk; omega) (by decide +kernel) (by omega) (by omega))) ?_
      refine rsr (swI_c) ?_
      refine rsr (if_neg (krI_n (k := 216) (rfl) (li_417) (hS.ok i (by omega) (by omega)) (by unfold KdOK sgk; omega) (by decide +kernel) (by omega) (by omega))) ?_
      refine rsr (swI_c) ?_
      refine rsr (if_neg (krI_n (k := 217) (rfl) (li_418) (hS.ok i (by omega) (by omega)) (by unfold KdOK sgk; omega) (by decide +kernel) (by omega) (by omega))) ?_
      refine rsr (swI_c) ?_
      refine rsr (if_neg (krI_n (k := 218) (rfl) (li_419) (hS.ok i (by omega) (by omega)) (by unfold KdOK sgk; omega) (by decide +kernel) (by omega) (by omega))) ?_
      refine rsr (swI_c) ?_
      refine rsr (if_neg (krI_n (k := 219) (rfl) (li_420) (hS.ok i (by omega) (by omega)) (by unfold KdOK sgk; omega) (by decide +kernel) (by omega) (by omega))) ?_
      refine rsr (swI_c) ?_
      refine rsr (if_neg (krI_n (k := 220) (rfl) (li_421) (hS.ok i (by omega) (by omega)) (by unfold KdOK sgk; omega) (by decide +kernel) (by omega) (by omega))) ?_
      refine rsr (swI_c) ?_
      refine rsr (if_neg (krI_n (k := 221) (rfl) (li_422) (hS.ok i (by omega) (by omega)) (by unfold KdOK sgk; omega) (by decide +kernel) (by omega) (by omega))) ?_
      refine rsr (swI_c) ?_
      refine rsr (if_neg (krI_n (k := 222) (rfl) (li_423) (hS.ok i (by omega) (by omega)) (by unfold KdOK sgk; omega) (by decide +kernel) (by omega) (by omega))) ?_
      refine rsr (swI_n) ?_
      refine rsr (gtI_q (w := iI ((kr (kd i)))) (rk_160 hR) (wa_36)) ?_
      refine rsr (jn_v) ?_
      refine rsr (if_pos (krI_p (k := 3) (rfl) (li_1) (by omega) (by decide +kernel))) ?_
      refine rsr (jv_e) ?_
      refine rsr (vC_e (rk_160 hR)) ?_
      refine rsr (cI_e (ar193_p (by omega) hS hR (wa_36) (wa_37) (wa_41) (li_1) (by omega))) ?_
      refine rsr (if_neg (eqI_n (rfl) (li_0) (by omega))) ?_
      refine rsr (vC_e (rk_160 hR)) ?_
      refine Rs_cVr ?_ (fun v M w N h => rs1 jv_e (Rt.ok h))
      obtain ⟨d2, rfl⟩ : ∃ e, d2 = e + 1 := ⟨d2 - 1, by omega⟩
      rw [r217]; unfold b217; rw [aR_e, aZ_e]; unfold c217
      refine rsr (vC_e (rk_160 hR)) ?_
      refine RrI (a201_u (by omega) hS hR (hT.fr (W := W_rx) Fr.r (by decide) (by decide)) (fun i a b => (Fr.lc (W := W_rx) Fr.r _ (by decide) _).trans (hW i a b)) (wa_36) (wa_37) (wa_38) (wa_41) (h49) (wa_53) wa_n (by omega)) fun v Ma505 h505 => ?_
      obtain ⟨r504, rfl, g505, e505_k0, e505_k1, e505_k2, e505_k3, e505_k4, p505_0, p505_1, p505_2⟩ := h505
      have f505 : Fr W_rx Mr Ma505 := Fr.t Fr.r (Fr.m g505 (by decide))
      refine rsr (cI_e rfl) ?_
      refine rsr (gtI_q (w := iI 0) (rk_160 (hR.fr f505)) (e505_k4)) ?_
      refine rsr (if_pos (eqI_p (rfl) (li_0) (by omega))) ?_
      refine rsr (gtP_q (w := some 202) (rk_160 (hR.fr f505)) (rf_56 (hR.fr f505))) ?_
      refine rsr (alL_q (n := 2000) (z := u) (w := (0 : Int64)) (rk_202 (hR.fr f505)) (congrArg iI p505_0) (by omega) (p505_1.2.2.2.1)) ?_
      refine rsr (jn_v) ?_
      refine rsr (if_pos (lgc_p (rfl) (rfl) rfl)) ?_
      refine rsr (gtP_q (w := some 204) (rk_160 (hR.fr f505)) (rf_58 (hR.fr f505))) ?_
      refine rsr (alL_q (n := 2000) (z := u) (w := (tx i)) (rk_204 (hR.fr f505)) (congrArg iI p505_0) (by omega) (p505_1.2.2.2.2.2.1)) ?_
      refine rsr (vC_e (rk_160 (hR.fr f505))) ?_
      obtain ⟨rl, hrl⟩ : ∃ r, LcF Hl s (tx i) r := by have q := LcF_ex (Hl := Hl) (y := (tx i)) s.toNat; rw [show ((s.toNat : Nat) : Int) = s by omega] at q; exact q
      have brl := hrl.bd
      by_cases crl : rl = -1
      ·
        subst crl
        refine RrI (a197 (by omega) (hR.fr f505) ((g505.i _ _ (by decide)).trans (wa_51)) (lra.fr g505 (by decide)) (by omega)) fun v Nl506 hl506 => ?_
        obtain ⟨r9, rfl, hMl, hr9⟩ := hl506
        rw [hMl]
        have q9 := LcF.one hr9 hrl
        rw [q9]
        refine rsr (cI_e rfl) ?_
        refine rsr (jv_e) ?_
        try dsimp only
        refine rsr (gtI_q (w := iI ((kr (kd (i + 1))))) (rk_160 (hR.fr f505)) (e505_k1)) ?_
        refine rsr (jn_v) ?_
        refine rsr (if_pos (krI_p (k := 40) (rfl) (li_40) (by omega) (by decide +kernel))) ?_
        refine rsr (vC_e (rk_160 (hR.fr f505))) ?_
        refine Rb_VV (hCl _ _ (by omega) (by omega) T n m kd pl E tx ua ut mu _ _ G (pu U u [uc, (V Mr 201 u.toNat), (V Mr 200 u.toNat), (V Mr 203 u.toNat), (pl i), (V Mr 206 u.toNat), ut, 0, (V Mc 79 uc.toNat), (V Mc 80 uc.toNat), (V Mc 82 uc.toNat)]) Hl (pux X u [(0 : Int64), (tx i)]) (i + 1) e s (u + 1) (uc + 1) _ _ _ hS (hCx.fr f502 f505) ⟨e502_k0, e502_k2, e502_k3, (g502.i _ _ (by decide)).trans (qa_9), (g502.i _ _ (by decide)).trans (qa_16), e502_k1⟩ ⟨e505_k1, e505_k2, e505_k3, e505_k4, (g505.i _ _ (by decide)).trans (wa_43), (g505.i _ _ (by decide)).trans (wa_51), e505_k0, (g505.i _ _ (by decide)).trans (wa_50), p505_2⟩ ⟨(caa.fr g502 (by decide)), (raa.fr g505 (by decide)), (lca.fr g502 (by decide)), (lra.fr g505 (by decide)), (CU.add cua (by omega) (by omega) p502_1 rfl rfl), (RU.add rua (by omega) p505_1 rfl)⟩ ⟨by omega, by omega, by omega, by omega, by omega, by omega, by omega, by omega, by omega, by omega, by omega, by omega⟩ (x := uc) (by omega) (by omega) (pu_e (by omega)) (pu_e (by omega)) (Or.inl (pux_e (by omega))) (congrArg iI p502_0) (hv0) (cvI (congrArg iI p505_0) (by omega))) fun v Mx507 w Nx507 hx507 => ?_
        rcases hx507 with ⟨i507, e507, u507, uc507, G507, U507, X507, fl507, fr507, sc507, sr507, rw507, bd507, mv507, ag507, au507, ax507, tp507, dp507, kv507⟩ | ⟨F507, P507, fl507, fr507, tc507, tr507⟩
        ·
          have FL507 : Fr W_cp Mc Mx507 := Fr.t f502 fl507
          have FR507 : Fr W_rx Mr Nx507 := Fr.t f505 fr507
          obtain ⟨bb507_0, bb507_1, bb507_2, bb507_3, bb507_4, bb507_5, bb507_6, bb507_7, bb507_8, bb507_9, bb507_10, bb507_11⟩ := bd507
          obtain ⟨q507_12, q507_13, q507_10, q507_9, q507_16, q507_19⟩ := sc507
          obtain ⟨w507_36, w507_37, w507_38, w507_41, w507_43, w507_51, w507_53, w507_50, w507_n⟩ := sr507
          obtain ⟨ca507, ra507, lc507, lr507, cu507, ru507⟩ := rw507
          have hk508 := (hS.ok i507 (by omega) (by omega)).r
          have ku507 := KU.t (KU.us kua p502_1 g502 (by decide) (by omega)) kv507 (by omega)
          have ty509 := Tye.t (d3 := 1) ty2 ag507 tp507 (by omega)
          refine rsl (cV_e rfl) ?_
          refine rsr (cV_e rfl) ?_
          refine rsl (vC_e (ck_65 (hC.fr FL507))) ?_
          by_cases c510 : ((kd i507)) = 59
          ·
            have hm511 : i507 + 1 < m := hS.more i507 (by omega) (by omega) (by omega)
            refine rsl (cV_e (a64q (by omega) hS (hC.fr FL507) (hTk.fr (WL := W_cp) FL507 (by decide)) (q507_12) (q507_13) (q507_10) (li_59) (i2 := (i507 + 1)) (by omega) (by omega))) ?_
            have hk512 := (hS.ok (i507 + 1) (by omega) (by omega)).r
            refine rsl (vC_e (ck_65 (hC.fr FL507).sI.sI)) ?_
            have tb514 := Tyb.ex (dp := dp) (d := 1) (s' := s) (q := (e507 + 1)) (n1 := 0) (ut := ut) (mu := mu) (l := []) ty509 (Or.inr (Or.inr (Or.inr (Or.inl (by omega)))) : Eff 9 0 0 1 s 0 s) (by omega) ⟨by omega, by omega⟩ (by omega)
            have du515 := DU.em (q := (e507 + 1)) (o := 9) (n := 0) (p := -2) (l := [0]) dp507 (by omega) (by omega)
            refine RlI (a87 (by omega) (hC.fr FL507).sI.sI ((sI_nej (by decide)).trans ((sI_nej (by decide)).trans (q507_9))) (li_9) (li_0) (by omega)) fun v Ma516 h516 => ?_
            obtain ⟨r513, rfl, g516, e516_k0, p516_0, p516_1⟩ := h516
            have f516 : Fr W_cp Mc Ma516 := Fr.t (Fr.sI (by decide) (Fr.sI (by decide) FL507)) (Fr.m g516 (by decide))
            refine rsl (cI_e rfl) ?_
            refine rsr (vC_e (rk_160 (hR.fr FR507))) ?_
            refine RrI (a195_59 (by omega) hS (hR.fr FR507) (hT.fr (W := W_rx) FR507 (by decide) (by decide)) (fun i a b => (Fr.lc (W := W_rx) FR507 _ (by decide) _).trans (hW i a b)) (w507_36) (w507_37) (w507_38) (w507_41) (li_59) (i2 := (i507 + 1)) (by omega) (by omega)) fun v Ma518 h518 => ?_
            obtain ⟨r517, rfl, g518, e518_k0, e518_k1, e518_k2, p518_0, p518_1⟩ := h518
            have f518 : Fr W_rx Mr Ma518 := Fr.t FR507 (Fr.m g518 (by decide))
            refine rsr (cI_e rfl) ?_
            refine rsr (vC_e (rk_160 (hR.fr f518))) ?_
            refine RrI (a196 (by omega) (hR.fr f518) ((g518.i _ _ (by decide)).trans (w507_43)) ((g518.i _ _ (by decide)).trans ((FR507.i _ _ (by decide)).trans h49)) ((g518.i _ _ (by decide)).trans ((FR507.i _ _ (by decide)).trans h48)) (li_9) (li_0) (by omega)) fun v Ma520 h520 => ?_
            obtain ⟨r519, rfl, g520, e520_k0, p520_0, p520_1⟩ := h520
            have f520 : Fr W_rx Mr Ma520 := Fr.t f518 (Fr.m g520 (by decide))
            refine rsr (cI_e rfl) ?_
            refine rsr (jv_e) ?_
            exact Rs.ok (Or.inl ⟨(i507 + 1), s, Hl, ⟨(e507 + 1), u507, uc507, (pu G507 e507 [9, 0, -2, 0, ut, mu, 0]), U507, X507, f516, f520, ⟨(g516.i _ _ (by decide)).trans ((sI_nej (by decide)).trans (sI_eq)), (g516.i _ _ (by decide)).trans (sI_eq), (g516.i _ _ (by decide)).trans ((sI_nej (by decide)).trans ((sI_nej (by decide)).trans (q507_10))), e516_k0, (g516.i _ _ (by decide)).trans ((sI_nej (by decide)).trans ((sI_nej (by decide)).trans (q507_16))), (g516.i _ _ (by decide)).trans ((sI_nej (by decide)).trans ((sI_nej (by decide)).trans (q507_19)))⟩, ⟨(g520.i _ _ (by decide)).trans (e518_k0), (g520.i _ _ (by decide)).trans (e518_k1), (g520.i _ _ (by decide)).trans (e518_k2), (g520.i _ _ (by decide)).trans ((g518.i _ _ (by decide)).trans (w507_41)), e520_k0, (g520.i _ _ (by decide)).trans ((g518.i _ _ (by decide)).trans (w507_51)), (g520.i _ _ (by decide)).trans ((g518.i _ _ (by decide)).trans (w507_53)), (g520.i _ _ (by decide)).trans ((g518.i _ _ (by decide)).trans (w507_50)), (p518_1.fr g520 (by decide) (by decide))⟩, ⟨(CA1.em (ca507.fr (W := W_c0) (Fr.sI (by decide) (Fr.sI (by decide) Fr.r)) (by decide)) (by omega) p516_1 rfl), (RA1.em (ra507.fr g518 (by decide)) (by omega) p520_1 rfl), ((lc507.fr (W := W_c0) (Fr.sI (by decide) (Fr.sI (by decide) Fr.r)) (by decide)).fr g516 (by decide)), ((lr507.fr g518 (by decide)).fr g520 (by decide)), ((cu507.fr (W := W_c0) (Fr.sI (by decide) (Fr.sI (by decide) Fr.r)) (by decide)).fr g516 (by decide)), ((ru507.fr g518 (by decide)).fr g520 (by decide))⟩, ⟨by omega, by omega, by omega, by omega, by omega, by omega, by omega, by omega, by omega, by omega, by omega, by omega⟩, ⟨by omega, by omega, by omega, by omega, by omega, by omega⟩, (Ag.pu (Ag.t Ag.r ag507 (by omega)) (by omega)), (Ag.t (Ag.pu Ag.r (by omega)) au507 (by omega)), (AgL.t (AgL.pu AgL.r (by omega)) ax507 (by omega)), tb514, du515, ((ku507.fr (W := W_c0) (Fr.sI (by decide) (Fr.sI (by decide) Fr.r)) (by decide)).fr g516 (by decide)), ⟨by omega, fun _ _ _ => rfl⟩⟩⟩)
          ·
            by_cases c521 : ((kd i507)) = 1
            ·
              refine rsl (cV_e (a64_1 (by omega) hS (hC.fr FL507) (hTk.fr (WL := W_cp) FL507 (by decide)) (q507_12) (q507_13) (q507_10) (li_59) (by omega))) ?_
              refine rsl (vC_e (ck_65 (hC.fr FL507).sI.sI.sI)) ?_
              refine RlI (y87 (by omega) (hC.fr FL507).sI.sI.sI (hTk.fr (WL := W_cp) (Fr.sI (by decide) (Fr.sI (by decide) (Fr.sI (by decide) FL507))) (by decide)) ((sI_nej (by decide)).trans ((sI_nej (by decide)).trans ((sI_nej (by decide)).trans (q507_12)))) (sI_eq) ((sI_nej (by decide)).trans ((sI_nej (by decide)).trans (sI_eq))) ((sI_nej (by decide)).trans (sI_eq)) ((sI_nej (by decide)).trans ((sI_nej (by decide)).trans ((sI_nej (by decide)).trans (q507_9)))) ((sI_nej (by decide)).trans ((sI_nej (by decide)).trans ((sI_nej (by decide)).trans (q507_16)))) ((sI_nej (by decide)).trans ((sI_nej (by decide)).trans ((sI_nej (by decide)).trans (q507_19)))) (li_9) (li_0) (by omega)) fun v Ma523 h523 => ?_
              obtain ⟨rv522, sz522, sn522, uc522, rfl, g523, e523_sz522, e523_sn522, e523_uc522, e523_k0, e523_k1, e523_k2, e523_k3, p523_0, p523_1, p523_2, p523_3⟩ := h523
              have f523 : Fr W_cp Mc Ma523 := Fr.t (Fr.sI (by decide) (Fr.sI (by decide) (Fr.sI (by decide) FL507))) (Fr.m g523 (by decide))
              refine rsl (cI_e rfl) ?_
              refine rsr (vC_e (rk_160 (hR.fr FR507))) ?_
              refine rsr (cI_e (a195_59_1 (by omega) hS (hR.fr FR507) (w507_36) (w507_37) (w507_41) (li_59) (by omega))) ?_
              refine rsr (vC_e (rk_160 (hR.fr FR507).sI.sI)) ?_
              refine RrI (x196_s (by omega) (hR.fr FR507).sI.sI ((sI_nej (by decide)).trans (sI_eq)) (sI_eq) ((sI_nej (by decide)).trans ((sI_nej (by decide)).trans (w507_43))) ((sI_nej (by decide)).trans ((sI_nej (by decide)).trans (w507_51))) ((sI_nej (by decide)).trans ((sI_nej (by decide)).trans (w507_53))) ((sI_nej (by decide)).trans ((sI_nej (by decide)).trans ((FR507.i _ _ (by decide)).trans h48))) ((sI_nej (by decide)).trans ((sI_nej (by decide)).trans ((FR507.i _ _ (by decide)).trans h49))) (li_9) (li_0) (by omega)) fun v Ma525 h525 => ?_
              obtain ⟨rv524, em524, rfl, g525, e525_em524, e525_k0, e525_k1, e525_k2, e525_k3, e525_k4, p525_0, p525_1⟩ := h525
              have f525 : Fr W_rp Mr Ma525 := Fr.t (Fr.sI (by decide) (Fr.sI (by decide) (Fr.m FR507 (by decide)))) (Fr.m g525 (by decide))
              refine rsr (cI_e rfl) ?_
              refine rsr (jv_e) ?_
              exact Rs.ok (Or.inr ⟨1, ((pl i507)), f523, f525, ⟨i507, sz522, sn522, uc522, e523_k0, e523_k1, e523_k2, e523_k3, e523_sz522, e523_sn522, e523_uc522, by omega⟩, ⟨em524, s, u507, mu, ut, e525_k0, e525_k1, e525_em524, e525_k2, e525_k3, e525_k4, (g525.i _ _ (by decide)).trans ((sI_nej (by decide)).trans ((sI_nej (by decide)).trans ((FR507.i _ _ (by decide)).trans h49))), by omega⟩⟩)
            ·
              refine rsl (cV_e (a64_2 (by omega) hS (hC.fr FL507) (hTk.fr (WL := W_cp) FL507 (by decide)) (q507_12) (q507_13) (q507_10) (li_59) (by omega))) ?_
              refine rsl (vC_e (ck_65 (hC.fr FL507).sI.sI.sI)) ?_
              refine RlI (y87 (by omega) (hC.fr FL507).sI.sI.sI (hTk.fr (WL := W_cp) (Fr.sI (by decide) (Fr.sI (by decide) (Fr.sI (by decide) FL507))) (by decide)) ((sI_nej (by decide)).trans ((sI_nej (by decide)).trans ((sI_nej (by decide)).trans (q507_12)))) (sI_eq) ((sI_nej (by decide)).trans ((sI_nej (by decide)).trans (sI_eq))) ((sI_nej (by decide)).trans (sI_eq)) ((sI_nej (by decide)).trans ((sI_nej (by decide)).trans ((sI_nej (by decide)).trans (q507_9)))) ((sI_nej (by decide)).trans ((sI_nej (by decide)).trans ((sI_nej (by decide)).trans (q507_16)))) ((sI_nej (by decide)).trans ((sI_nej (by decide)).trans ((sI_nej (by decide)).trans (q507_19)))) (li_9) (li_0) (by omega)) fun v Ma527 h527 => ?_
              obtain ⟨rv526, sz526, sn526, uc526, rfl, g527, e527_sz526, e527_sn526, e527_uc526, e527_k0, e527_k1, e527_k2, e527_k3, p527_0, p527_1, p527_2, p527_3⟩ := h527
              have f527 : Fr W_cp Mc Ma527 := Fr.t (Fr.sI (by decide) (Fr.sI (by decide) (Fr.sI (by decide) FL507))) (Fr.m g527 (by decide))
              refine rsl (cI_e rfl) ?_
              refine rsr (vC_e (rk_160 (hR.fr FR507))) ?_
              refine rsr (cI_e (a195_59_2 (by omega) hS (hR.fr FR507) (w507_36) (w507_37) (w507_41) (li_59) (by omega))) ?_
              refine rsr (vC_e (rk_160 (hR.fr FR507).sI.sI)) ?_
              refine RrI (x196_s (by omega) (hR.fr FR507).sI.sI ((sI_nej (by decide)).trans (sI_eq)) (sI_eq) ((sI_nej (by decide)).trans ((sI_nej (by decide)).trans (w507_43))) ((sI_nej (by decide)).trans ((sI_nej (by decide)).trans (w507_51))) ((sI_nej (by decide)).trans ((sI_nej (by decide)).trans (w507_53))) ((sI_nej (by decide)).trans ((sI_nej (by decide)).trans ((FR507.i _ _ (by decide)).trans h48))) ((sI_nej (by decide)).trans ((sI_nej (by decide)).trans ((FR507.i _ _ (by decide)).trans h49))) (li_9) (li_0) (by omega)) fun v Ma529 h529 => ?_
              obtain ⟨rv528, em528, rfl, g529, e529_em528, e529_k0, e529_k1, e529_k2, e529_k3, e529_k4, p529_0, p529_1⟩ := h529
              have f529 : Fr W_rp Mr Ma529 := Fr.t (Fr.sI (by decide) (Fr.sI (by decide) (Fr.m FR507 (by decide)))) (Fr.m g529 (by decide))
              refine rsr (cI_e rfl) ?_
              refine rsr (jv_e) ?_
              exact Rs.ok (Or.inr ⟨2, ((pl i507)), f527, f529, ⟨i507, sz526, sn526, uc526, e527_k0, e527_k1, e527_k2, e527_k3, e527_sz526, e527_sn526, e527_uc526, by omega⟩, ⟨em528, s, u507, mu, ut, e529_k0, e529_k1, e529_em528, e529_k2, e529_k3, e529_k4, (g529.i _ _ (by decide)).trans ((sI_nej (by decide)).trans ((sI_nej (by decide)).trans ((FR507.i _ _ (by decide)).trans h49))), by omega⟩⟩)
        ·
          have FL507 : Fr W_cp Mc Mx507 := Fr.t f502 fl507
          have FR507 : Fr W_rp Mr Nx507 := Fr.t (Fr.m f505 W_rx_p) fr507
          obtain ⟨ti507, tz507, tn507, tu507, t13507, t10507, t11507, t12507, t9507, t16507, t19507, tb507⟩ := tc507
          obtain ⟨re507, rn507, ru507, rm507, rt507, u41507, u42507, u43507, u51507, u53507, u48507, u49507, ub507⟩ := tr507
          refine rsl (cV_e rfl) ?_
          refine rsr (cV_e rfl) ?_
          refine rsl (vC_e (ck_65 (hC.fr FL507))) ?_
          refine RlV (y64 (by omega) (hC.fr FL507) (hTk.fr (WL := W_cp) FL507 (by decide)) (t12507) (t13507) (t10507) (t11507) (t9507) (t16507) (t19507) (li_59) (by omega)) fun v Ma531 h531 => ?_
          obtain ⟨sz530, sn530, uc530, g531, e531_sz530, e531_sn530, e531_uc530, e531_k0, e531_k1, e531_k2, e531_k3, p531_0, p531_1, p531_2⟩ := h531
          have f531 : Fr W_cp Mc Ma531 := Fr.t FL507 (Fr.m g531 (by decide))
          refine rsl (cV_e rfl) ?_
          refine rsl (vC_e (ck_65 (hC.fr f531))) ?_
          refine RlI (y87 (by omega) (hC.fr f531) (hTk.fr (WL := W_cp) f531 (by decide)) (e531_k3) (e531_k0) (e531_k1) (e531_k2) (e531_sz530) (e531_sn530) (e531_uc530) (li_9) (li_0) (by omega)) fun v Ma533 h533 => ?_
          obtain ⟨rv532, sz532, sn532, uc532, rfl, g533, e533_sz532, e533_sn532, e533_uc532, e533_k0, e533_k1, e533_k2, e533_k3, p533_0, p533_1, p533_2, p533_3⟩ := h533
          have f533 : Fr W_cp Mc Ma533 := Fr.t f531 (Fr.m g533 (by decide))
          refine rsl (cI_e rfl) ?_
          refine rsr (vC_e (rk_160 (hR.fr FR507))) ?_
          refine RrI (x195_s (by omega) (hR.fr FR507) (u41507) (u42507) (u43507) (u51507) (u53507) (u48507) (u49507) (li_59) (by omega)) fun v Ma535 h535 => ?_
          obtain ⟨rv534, em534, rfl, g535, e535_em534, e535_k0, e535_k1, e535_k2, e535_k3, e535_k4, p535_0, p535_1⟩ := h535
          have f535 : Fr W_rp Mr Ma535 := Fr.t FR507 (Fr.m g535 (by decide))
          refine rsr (cI_e rfl) ?_
          refine rsr (vC_e (rk_160 (hR.fr f535))) ?_
          refine RrI (x196_s (by omega) (hR.fr f535) (e535_k0) (e535_k1) (e535_em534) (e535_k2) (e535_k3) (e535_k4) ((g535.i _ _ (by decide)).trans (u49507)) (li_9) (li_0) (by omega)) fun v Ma537 h537 => ?_
          obtain ⟨rv536, em536, rfl, g537, e537_em536, e537_k0, e537_k1, e537_k2, e537_k3, e537_k4, p537_0, p537_1⟩ := h537
          have f537 : Fr W_rp Mr Ma537 := Fr.t f535 (Fr.m g537 (by decide))
          refine rsr (cI_e rfl) ?_
          refine rsr (jv_e) ?_
          exact Rs.ok (Or.inr ⟨F507, P507, f533, f537, ⟨ti507, sz532, sn532, uc532, e533_k0, e533_k1, e533_k2, e533_k3, e533_sz532, e533_sn532, e533_uc532, by omega⟩, ⟨em536, rn507, ru507, rm507, rt507, e537_k0, e537_k1, e537_em536, e537_k2, e537_k3, e537_k4, (g537.i _ _ (by decide)).trans ((g535.i _ _ (by decide)).trans (u49507)), by omega⟩⟩)
      ·
        refine RrI (a197 (by omega) (hR.fr f505) ((g505.i _ _ (by decide)).trans (wa_51)) (lra.fr g505 (by decide)) (by omega)) fun v Nl506 hl506 => ?_
        obtain ⟨r9, rfl, hMl, hr9⟩ := hl506
        rw [hMl]
        have q9 := LcF.one hr9 hrl
        rw [q9]
        refine rsr (cI_e rfl) ?_
        refine rsr (jv_e) ?_
        try dsimp only
        refine rsr (gtI_q (w := iI ((kr (kd (i + 1))))) (rk_160 (hR.fr f505)) (e505_k1)) ?_
        refine rsr (jn_v) ?_
        refine rsr (if_pos (krI_p (k := 40) (rfl) (li_40) (by omega) (by decide +kernel))) ?_
        refine rsr (vC_e (rk_160 (hR.fr f505))) ?_
        refine Rb_VV (hCl _ _ (by omega) (by omega) T n m kd pl E tx ua ut mu _ _ G (pu U u [uc, (V Mr 201 u.toNat), (V Mr 200 u.toNat), (V Mr 203 u.toNat), (pl i), (V Mr 206 u.toNat), ut, 0, (V Mc 79 uc.toNat), (V Mc 80 uc.toNat), (V Mc 82 uc.toNat)]) Hl (pux X u [(0 : Int64), (tx i)]) (i + 1) e s (u + 1) (uc + 1) _ _ _ hS (hCx.fr f502 f505) ⟨e502_k0, e502_k2, e502_k3, (g502.i _ _ (by decide)).trans (qa_9), (g502.i _ _ (by decide)).trans (qa_16), e502_k1⟩ ⟨e505_k1, e505_k2, e505_k3, e505_k4, (g505.i _ _ (by decide)).trans (wa_43), (g505.i _ _ (by decide)).trans (wa_51), e505_k0, (g505.i _ _ (by decide)).trans (wa_50), p505_2⟩ ⟨(caa.fr g502 (by decide)), (raa.fr g505 (by decide)), (lca.fr g502 (by decide)), (lra.fr g505 (by decide)), (CU.add cua (by omega) (by omega) p502_1 rfl rfl), (RU.add rua (by omega) p505_1 rfl)⟩ ⟨by omega, by omega, by omega, by omega, by omega, by omega, by omega, by omega, by omega, by omega, by omega, by omega⟩ (x := uc) (by omega) (by omega) (pu_e (by omega)) (pu_e (by omega)) (Or.inl (pux_e (by omega))) (congrArg iI p502_0) (hv0) (cvI (congrArg iI p505_0) (by omega))) fun v Mx538 w Nx538 hx538 => ?_
        rcases hx538 with ⟨i538, e538, u538, uc538, G538, U538, X538, fl538, fr538, sc538, sr538, rw538, bd538, mv538, ag538, au538, ax538, tp538, dp538, kv538⟩ | ⟨F538, P538, fl538, fr538, tc538, tr538⟩
        ·
          have FL538 : Fr W_cp Mc Mx538 := Fr.t f502 fl538
          have FR538 : Fr W_rx Mr Nx538 := Fr.t f505 fr538
          obtain ⟨bb538_0, bb538_1, bb538_2, bb538_3, bb538_4, bb538_5, bb538_6, bb538_7, bb538_8, bb538_9, bb538_10, bb538_11⟩ := bd538
          obtain ⟨q538_12, q538_13, q538_10, q538_9, q538_16, q538_19⟩ := sc538
          obtain ⟨w538_36, w538_37, w538_38, w538_41, w538_43, w538_51, w538_53, w538_50, w538_n⟩ := sr538
          obtain ⟨ca538, ra538, lc538, lr538, cu538, ru538⟩ := rw538
          have hk539 := (hS.ok i538 (by omega) (by omega)).r
          have ku538 := KU.t (KU.us kua p502_1 g502 (by decide) (by omega)) kv538 (by omega)
          have ty540 := Tye.t (d3 := 1) ty2 ag538 tp538 (by omega)
          refine rsl (cV_e rfl) ?_
          refine rsr (cV_e rfl) ?_
          refine rsl (vC_e (ck_65 (hC.fr FL538))) ?_
          by_cases c541 : ((kd i538)) = 59
          ·
            have hm542 : i538 + 1 < m := hS.more i538 (by omega) (by omega) (by omega)
            refine rsl (cV_e (a64q (by omega) hS (hC.fr FL538) (hTk.fr (WL := W_cp) FL538 (by decide)) (q538_12) (q538_13) (q538_10) (li_59) (i2 := (i538 + 1)) (by omega) (by omega))) ?_
            have hk543 := (hS.ok (i538 + 1) (by omega) (by omega)).r
            refine rsl (vC_e (ck_65 (hC.fr FL538).sI.sI)) ?_
            have tb545 := Tyb.ex (dp := dp) (d := 1) (s' := s) (q := (e538 + 1)) (n1 := 0) (ut := ut) (mu := mu) (l := []) ty540 (Or.inr (Or.inr (Or.inr (Or.inl (by omega)))) : Eff 9 0 0 1 s 0 s) (by omega) ⟨by omega, by omega⟩ (by omega)
            have du546 := DU.em (q := (e538 + 1)) (o := 9) (n := 0) (p := -2) (l := [0]) dp538 (by omega) (by omega)
            refine RlI (a87 (by omega) (hC.fr FL538).sI.sI ((sI_nej (by decide)).trans ((sI_nej (by decide)).trans (q538_9))) (li_9) (li_0) (by omega)) fun v Ma547 h547 => ?_
            obtain ⟨r544, rfl, g547, e547_k0, p547_0, p547_1⟩ := h547
            have f547 : Fr W_cp Mc Ma547 := Fr.t (Fr.sI (by decide) (Fr.sI (by decide) FL538)) (Fr.m g547 (by decide))
            refine rsl (cI_e rfl) ?_
            refine rsr (vC_e (rk_160 (hR.fr FR538))) ?_
            refine RrI (a195_59 (by omega) hS (hR.fr FR538) (hT.fr (W := W_rx) FR538 (by decide) (by decide)) (fun i a b => (Fr.lc (W := W_rx) FR538 _ (by decide) _).trans (hW i a b)) (w538_36) (w538_37) (w538_38) (w538_41) (li_59) (i2 := (i538 + 1)) (by omega) (by omega)) fun v Ma549 h549 => ?_
            obtain ⟨r548, rfl, g549, e549_k0, e549_k1, e549_k2, p549_0, p549_1⟩ := h549
            have f549 : Fr W_rx Mr Ma549 := Fr.t FR538 (Fr.m g549 (by decide))
            refine rsr (cI_e rfl) ?_
            refine rsr (vC_e (rk_160 (hR.fr f549))) ?_
            refine RrI (a196 (by omega) (hR.fr f549) ((g549.i _ _ (by decide)).trans (w538_43)) ((g549.i _ _ (by decide)).trans ((FR538.i _ _ (by decide)).trans h49)) ((g549.i _ _ (by decide)).trans ((FR538.i _ _ (by decide)).trans h48)) (li_9) (li_0) (by omega)) fun v Ma551 h551 => ?_
            obtain ⟨r550, rfl, g551, e551_k0, p551_0, p551_1⟩ := h551
            have f551 : Fr W_rx Mr Ma551 := Fr.t f549 (Fr.m g551 (by decide))
            refine rsr (cI_e rfl) ?_
            refine rsr (jv_e) ?_
            exact Rs.ok (Or.inl ⟨(i538 + 1), s, Hl, ⟨(e538 + 1), u538, uc538, (pu G538 e538 [9, 0, -2, 0, ut, mu, 0]), U538, X538, f547, f551, ⟨(g547.i _ _ (by decide)).trans ((sI_nej (by decide)).trans (sI_eq)), (g547.i _ _ (by decide)).trans (sI_eq), (g547.i _ _ (by decide)).trans ((sI_nej (by decide)).trans ((sI_nej (by decide)).trans (q538_10))), e547_k0, (g547.i _ _ (by decide)).trans ((sI_nej (by decide)).trans ((sI_nej (by decide)).trans (q538_16))), (g547.i _ _ (by decide)).trans ((sI_nej (by decide)).trans ((sI_nej (by decide)).trans (q538_19)))⟩, ⟨(g551.i _ _ (by decide)).trans (e549_k0), (g551.i _ _ (by decide)).trans (e549_k1), (g551.i _ _ (by decide)).trans (e549_k2), (g551.i _ _ (by decide)).trans ((g549.i _ _ (by decide)).trans (w538_41)), e551_k0, (g551.i _ _ (by decide)).trans ((g549.i _ _ (by decide)).trans (w538_51)), (g551.i _ _ (by decide)).trans ((g549.i _ _ (by decide)).trans (w538_53)), (g551.i _ _ (by decide)).trans ((g549.i _ _ (by decide)).trans (w538_50)), (p549_1.fr g551 (by decide) (by decide))⟩, ⟨(CA1.em (ca538.fr (W := W_c0) (Fr.sI (by decide) (Fr.sI (by decide) Fr.r)) (by decide)) (by omega) p547_1 rfl), (RA1.em (ra538.fr g549 (by decide)) (by omega) p551_1 rfl), ((lc538.fr (W := W_c0) (Fr.sI (by decide) (Fr.sI (by decide) Fr.r)) (by decide)).fr g547 (by decide)), ((lr538.fr g549 (by decide)).fr g551 (by decide)), ((cu538.fr (W := W_c0) (Fr.sI (by decide) (Fr.sI (by decide) Fr.r)) (by decide)).fr g547 (by decide)), ((ru538.fr g549 (by decide)).fr g551 (by decide))⟩, ⟨by omega, by omega, by omega, by omega, by omega, by omega, by omega, by omega, by omega, by omega, by omega, by omega⟩, ⟨by omega, by omega, by omega, by omega, by omega, by omega⟩, (Ag.pu (Ag.t Ag.r ag538 (by omega)) (by omega)), (Ag.t (Ag.pu Ag.r (by omega)) au538 (by omega)), (AgL.t (AgL.pu AgL.r (by omega)) ax538 (by omega)), tb545, du546, ((ku538.fr (W := W_c0) (Fr.sI (by decide) (Fr.sI (by decide) Fr.r)) (by decide)).fr g547 (by decide)), ⟨by omega, fun _ _ _ => rfl⟩⟩⟩)
          ·
            by_cases c552 : ((kd i538)) = 1
            ·
              refine rsl (cV_e (a64_1 (by omega) hS (hC.fr FL538) (hTk.fr (WL := W_cp) FL538 (by decide)) (q538_12) (q538_13) (q538_10) (li_59) (by omega))) ?_
              refine rsl (vC_e (ck_65 (hC.fr FL538).sI.sI.sI)) ?_
              refine RlI (y87 (by omega) (hC.fr FL538).sI.sI.sI (hTk.fr (WL := W_cp) (Fr.sI (by decide) (Fr.sI (by decide) (Fr.sI (by decide) FL538))) (by decide)) ((sI_nej (by decide)).trans ((sI_nej (by decide)).trans ((sI_nej (by decide)).trans (q538_12)))) (sI_eq) ((sI_nej (by decide)).trans ((sI_nej (by decide)).trans (sI_eq))) ((sI_nej (by decide)).trans (sI_eq)) ((sI_nej (by decide)).trans ((sI_nej (by decide)).trans ((sI_nej (by decide)).trans (q538_9)))) ((sI_nej (by decide)).trans ((sI_nej (by decide)).trans ((sI_nej (by decide)).trans (q538_16)))) ((sI_nej (by decide)).trans ((sI_nej (by decide)).trans ((sI_nej (by decide)).trans (q538_19)))) (li_9) (li_0) (by omega)) fun v Ma554 h554 => ?_
              obtain ⟨rv553, sz553, sn553, uc553, rfl, g554, e554_sz553, e554_sn553, e554_uc553, e554_k0, e554_k1, e554_k2, e554_k3, p554_0, p554_1, p554_2, p554_3⟩ := h554
              have f554 : Fr W_cp Mc Ma554 := Fr.t (Fr.sI (by decide) (Fr.sI (by decide) (Fr.sI (by decide) FL538))) (Fr.m g554 (by decide))
              refine rsl (cI_e rfl) ?_
              refine rsr (vC_e (rk_160 (hR.fr FR538))) ?_
              refine rsr (cI_e (a195_59_1 (by omega) hS (hR.fr FR538) (w538_36) (w538_37) (w538_41) (li_59) (by omega))) ?_
              refine rsr (vC_e (rk_160 (hR.fr FR538).sI.sI)) ?_
              refine RrI (x196_s (by omega) (hR.fr FR538).sI.sI ((sI_nej (by decide)).trans (sI_eq)) (sI_eq) ((sI_nej (by decide)).trans ((sI_nej (by decide)).trans (w538_43))) ((sI_nej (by decide)).trans ((sI_nej (by decide)).trans (w538_51))) ((sI_nej (by decide)).trans ((sI_nej (by decide)).trans (w538_53))) ((sI_nej (by decide)).trans ((sI_nej (by decide)).trans ((FR538.i _ _ (by decide)).trans h48))) ((sI_nej (by decide)).trans ((sI_nej (by decide)).trans ((FR538.i _ _ (by decide)).trans h49))) (li_9) (li_0) (by omega)) fun v Ma556 h556 => ?_
              obtain ⟨rv555, em555, rfl, g556, e556_em555, e556_k0, e556_k1, e556_k2, e556_k3, e556_k4, p556_0, p556_1⟩ := h556
              have f556 : Fr W_rp Mr Ma556 := Fr.t (Fr.sI (by decide) (Fr.sI (by decide) (Fr.m FR538 (by decide)))) (Fr.m g556 (by decide))
              refine rsr (cI_e rfl) ?_
              refine rsr (jv_e) ?_
              exact Rs.ok (Or.inr ⟨1, ((pl i538)), f554, f556, ⟨i538, sz553, sn553, uc553, e554_k0, e554_k1, e554_k2, e554_k3, e554_sz553, e554_sn553, e554_uc553, by omega⟩, ⟨em555, s, u538, mu, ut, e556_k0, e556_k1, e556_em555, e556_k2, e556_k3, e556_k4, (g556.i _ _ (by decide)).trans ((sI_nej (by decide)).trans ((sI_nej (by decide)).trans ((FR538.i _ _ (by decide)).trans h49))), by omega⟩⟩)
            ·
              refine rsl (cV_e (a64_2 (by omega) hS (hC.fr FL538) (hTk.fr (WL := W_cp) FL538 (by decide)) (q538_12) (q538_13) (q538_10) (li_59) (by omega))) ?_
              refine rsl (vC_e (ck_65 (hC.fr FL538).sI.sI.sI)) ?_
              refine RlI (y87 (by omega) (hC.fr FL538).sI.sI.sI (hTk.fr (WL := W_cp) (Fr.sI (by decide) (Fr.sI (by decide) (Fr.sI (by decide) FL538))) (by decide)) ((sI_nej (by decide)).trans ((sI_nej (by decide)).trans ((sI_nej (by decide)).trans (q538_12)))) (sI_eq) ((sI_nej (by decide)).trans ((sI_nej (by decide)).trans (sI_eq))) ((sI_nej (by decide)).trans (sI_eq)) ((sI_nej (by decide)).trans ((sI_nej (by decide)).trans ((sI_nej (by decide)).trans (q538_9)))) ((sI_nej (by decide)).trans ((sI_nej (by decide)).trans ((sI_nej (by decide)).trans (q538_16)))) ((sI_nej (by decide)).trans ((sI_nej (by decide)).trans ((sI_nej (by decide)).trans (q538_19)))) (li_9) (li_0) (by omega)) fun v Ma558 h558 => ?_
              obtain ⟨rv557, sz557, sn557, uc557, rfl, g558, e558_sz557, e558_sn557, e558_uc557, e558_k0, e558_k1, e558_k2, e558_k3, p558_0, p558_1, p558_2, p558_3⟩ := h558
              have f558 : Fr W_cp Mc Ma558 := Fr.t (Fr.sI (by decide) (Fr.sI (by decide) (Fr.sI (by decide) FL538))) (Fr.m g558 (by decide))
              refine rsl (cI_e rfl) ?_
              refine rsr (vC_e (rk_160 (hR.fr FR538))) ?_
              refine rsr (cI_e (a195_59_2 (by omega) hS (hR.fr FR538) (w538_36) (w538_37) (w538_41) (li_59) (by omega))) ?_
              refine rsr (vC_e (rk_160 (hR.fr FR538).sI.sI)) ?_
              refine RrI (x196_s (by omega) (hR.fr FR538).sI.sI ((sI_nej (by decide)).trans (sI_eq)) (sI_eq) ((sI_nej (by decide)).trans ((sI_nej (by decide)).trans (w538_43))) ((sI_nej (by decide)).trans ((sI_nej (by decide)).trans (w538_51))) ((sI_nej (by decide)).trans ((sI_nej (by decide)).trans (w538_53))) ((sI_nej (by decide)).trans ((sI_nej (by decide)).trans ((FR538.i _ _ (by decide)).trans h48))) ((sI_nej (by decide)).trans ((sI_nej (by decide)).trans ((FR538.i _ _ (by decide)).trans h49))) (li_9) (li_0) (by omega)) fun v Ma560 h560 => ?_
              obtain ⟨rv559, em559, rfl, g560, e560_em559, e560_k0, e560_k1, e560_k2, e560_k3, e560_k4, p560_0, p560_1⟩ := h560
              have f560 : Fr W_rp Mr Ma560 := Fr.t (Fr.sI (by decide) (Fr.sI (by decide) (Fr.m FR538 (by decide)))) (Fr.m g560 (by decide))
              refine rsr (cI_e rfl) ?_
              refine rsr (jv_e) ?_
              exact Rs.ok (Or.inr ⟨2, ((pl i538)), f558, f560, ⟨i538, sz557, sn557, uc557, e558_k0, e558_k1, e558_k2, e558_k3, e558_sz557, e558_sn557, e558_uc557, by omega⟩, ⟨em559, s, u538, mu, ut, e560_k0, e560_k1, e560_em559, e560_k2, e560_k3, e560_k4, (g560.i _ _ (by decide)).trans ((sI_nej (by decide)).trans ((sI_nej (by decide)).trans ((FR538.i _ _ (by decide)).trans h49))), by omega⟩⟩)
        ·
          have FL538 : Fr W_cp Mc Mx538 := Fr.t f502 fl538
          have FR538 : Fr W_rp Mr Nx538 := Fr.t (Fr.m f505 W_rx_p) fr538
          obtain ⟨ti538, tz538, tn538, tu538, t13538, t10538, t11538, t12538, t9538, t16538, t19538, tb538⟩ := tc538
          obtain ⟨re538, rn538, ru538, rm538, rt538, u41538, u42538, u43538, u51538, u53538, u48538, u49538, ub538⟩ := tr538
          refine rsl (cV_e rfl) ?_
          refine rsr (cV_e rfl) ?_
          refine rsl (vC_e (ck_65 (hC.fr FL538))) ?_
          refine RlV (y64 (by omega) (hC.fr FL538) (hTk.fr (WL := W_cp) FL538 (by decide)) (t12538) (t13538) (t10538) (t11538) (t9538) (t16538) (t19538) (li_59) (by omega)) fun v Ma562 h562 => ?_
          obtain ⟨sz561, sn561, uc561, g562, e562_sz561, e562_sn561, e562_uc561, e562_k0, e562_k1, e562_k2, e562_k3, p562_0, p562_1, p562_2⟩ := h562
          have f562 : Fr W_cp Mc Ma562 := Fr.t FL538 (Fr.m g562 (by decide))
          refine rsl (cV_e rfl) ?_
          refine rsl (vC_e (ck_65 (hC.fr f562))) ?_
          refine RlI (y87 (by omega) (hC.fr f562) (hTk.fr (WL := W_cp) f562 (by decide)) (e562_k3) (e562_k0) (e562_k1) (e562_k2) (e562_sz561) (e562_sn561) (e562_uc561) (li_9) (li_0) (by omega)) fun v Ma564 h564 => ?_
          obtain ⟨rv563, sz563, sn563, uc563, rfl, g564, e564_sz563, e564_sn563, e564_uc563, e564_k0, e564_k1, e564_k2, e564_k3, p564_0, p564_1, p564_2, p564_3⟩ := h564
          have f564 : Fr W_cp Mc Ma564 := Fr.t f562 (Fr.m g564 (by decide))
          refine rsl (cI_e rfl) ?_
          refine rsr (vC_e (rk_160 (hR.fr FR538))) ?_
          refine RrI (x195_s (by omega) (hR.fr FR538) (u41538) (u42538) (u43538) (u51538) (u53538) (u48538) (u49538) (li_59) (by omega)) fun v Ma566 h566 => ?_
          obtain ⟨rv565, em565, rfl, g566, e566_em565, e566_k0, e566_k1, e566_k2, e566_k3, e566_k4, p566_0, p566_1⟩ := h566
          have f566 : Fr W_rp Mr Ma566 := Fr.t FR538 (Fr.m g566 (by decide))
          refine rsr (cI_e rfl) ?_
          refine rsr (vC_e (rk_160 (hR.fr f566))) ?_
          refine RrI (x196_s (by omega) (hR.fr f566) (e566_k0) (e566_k1) (e566_em565) (e566_k2) (e566_k3) (e566_k4) ((g566.i _ _ (by decide)).trans (u49538)) (li_9) (li_0) (by omega)) fun v Ma568 h568 => ?_
          obtain ⟨rv567, em567, rfl, g568, e568_em567, e568_k0, e568_k1, e568_k2, e568_k3, e568_k4, p568_0, p568_1⟩ := h568
          have f568 : Fr W_rp Mr Ma568 := Fr.t f566 (Fr.m g568 (by decide))
          refine rsr (cI_e rfl) ?_
          refine rsr (jv_e) ?_
          exact Rs.ok (Or.inr ⟨F538, P538, f564, f568, ⟨ti538, sz563, sn563, uc563, e564_k0, e564_k1, e564_k2, e564_k3, e564_sz563, e564_sn563, e564_uc563, by omega⟩, ⟨em567, rn538, ru538, rm538, rt538, e568_k0, e568_k1, e568_em567, e568_k2, e568_k3, e568_k4, (g568.i _ _ (by decide)).trans ((g566.i _ _ (by decide)).trans (u49538)), by omega⟩⟩)
    · refine rsl (if_neg (eqI_n (rfl) (li_40) (by omega))) ?_
      refine rsl (gtI_q (w := iI ((kd (i + 1)))) (ck_65 (hC.fr f502)) (e502_k2)) ?_
      refine rsl (jn_v) ?_
      by_cases c569 : ((kd (i + 1))) = 91
      · refine rsl (if_pos (eqI_p (rfl) (li_91) (by omega))) ?_
        refine rsl (jv_e) ?_
        refine rsl (jn_v) ?_
        refine rsl (if_neg (eqI_n (li_1) (li_0) (by omega))) ?_
        refine rsl (vC_e (ck_65 (hC.fr f502))) ?_
        refine rsr (gtI_q (w := iI ((kr (kd i)))) (rk_160 hR) (wa_36)) ?_
        refine rsr (jn_v) ?_
        refine rsr (swI_c) ?_
        refine rsr (if_neg (krI_n (k := 215) (rfl) (li_416) (hS.ok i (by omega) (by omega)) (by unfold KdOK sgk; omega) (by decide +kernel) (by omega) (by omega))) ?_
        refine rsr (swI_c) ?_
        refine rsr (if_neg (krI_n (k := 216) (rfl) (li_417) (hS.ok i (by omega) (by omega)) (by unfold KdOK sgk; omega) (by decide +kernel) (by omega) (by omega))) ?_
        refine rsr (swI_c) ?_
        refine rsr (if_neg (krI_n (k := 217) (rfl) (li_418) (hS.ok i (by omega) (by omega)) (by unfold KdOK sgk; omega) (by decide +kernel) (by omega) (by omega))) ?_
        refine rsr (swI_c) ?_
        refine rsr (if_neg (krI_n (k := 218) (rfl) (li_419) (hS.ok i (by omega) (by omega)) (by unfold KdOK sgk; omega) (by decide +kernel) (by omega) (by omega))) ?_
        refine rsr (swI_c) ?_
        refine rsr (if_neg (krI_n (k := 219) (rfl) (li_420) (hS.ok i (by omega) (by omega)) (by unfold KdOK sgk; omega) (by decide +kernel) (by omega) (by omega))) ?_
        refine rsr (swI_c) ?_
        refine rsr (if_neg (krI_n (k := 220) (rfl) (li_421) (hS.ok i (by omega) (by omega)) (by unfold KdOK sgk; omega) (by decide +kernel) (by omega) (by omega))) ?_
        refine rsr (swI_c) ?_
        refine rsr (if_neg (krI_n (k := 221) (rfl) (li_422) (hS.ok i (by omega) (by omega)) (by unfold KdOK sgk; omega) (by decide +kernel) (by omega) (by omega))) ?_
        refine rsr (swI_c) ?_
        refine rsr (if_neg (krI_n (k := 222) (rfl) (li_423) (hS.ok i (by omega) (by omega)) (by unfold KdOK sgk; omega) (by decide +kernel) (by omega) (by omega))) ?_
        refine rsr (swI_n) ?_
        refine rsr (gtI_q (w := iI ((kr (kd i)))) (rk_160 hR) (wa_36)) ?_
        refine rsr (jn_v) ?_
        refine rsr (if_pos (krI_p (k := 3) (rfl) (li_1) (by omega) (by decide +kernel))) ?_
        refine rsr (jv_e) ?_
        refine rsr (vC_e (rk_160 hR)) ?_
        refine rsr (cI_e (ar193_p (by omega) hS hR (wa_36) (wa_37) (wa_41) (li_1) (by omega))) ?_
        refine rsr (if_neg (eqI_n (rfl) (li_0) (by omega))) ?_
        refine rsr (vC_e (rk_160 hR)) ?_
        refine Rs_cVr ?_ (fun v M w N h => rs1 jv_e (Rt.ok h))
        obtain ⟨d2, rfl⟩ : ∃ e, d2 = e + 1 := ⟨d2 - 1, by omega⟩
        rw [r217]; unfold b217; rw [aR_e, aZ_e]; unfold c217
        refine rsr (vC_e (rk_160 hR)) ?_
        refine RrI (a201_u (by omega) hS hR (hT.fr (W := W_rx) Fr.r (by decide) (by decide)) (fun i a b => (Fr.lc (W := W_rx) Fr.r _ (by decide) _).trans (hW i a b)) (wa_36) (wa_37) (wa_38) (wa_41) (h49) (wa_53) wa_n (by omega)) fun v Ma571 h571 => ?_
        obtain ⟨r570, rfl, g571, e571_k0, e571_k1, e571_k2, e571_k3, e571_k4, p571_0, p571_1, p571_2⟩ := h571
        have f571 : Fr W_rx Mr Ma571 := Fr.t Fr.r (Fr.m g571 (by decide))
        refine rsr (cI_e rfl) ?_
        refine rsr (gtI_q (w := iI 0) (rk_160 (hR.fr f571)) (e571_k4)) ?_
        refine rsr (if_pos (eqI_p (rfl) (li_0) (by omega))) ?_
        refine rsr (gtP_q (w := some 202) (rk_160 (hR.fr f571)) (rf_56 (hR.fr f571))) ?_
        refine rsr (alL_q (n := 2000) (z := u) (w := (0 : Int64)) (rk_202 (hR.fr f571)) (congrArg iI p571_0) (by omega) (p571_1.2.2.2.1)) ?_
        refine rsr (jn_v) ?_
        refine rsr (if_pos (lgc_p (rfl) (rfl) rfl)) ?_
        refine rsr (gtP_q (w := some 204) (rk_160 (hR.fr f571)) (rf_58 (hR.fr f571))) ?_
        refine rsr (alL_q (n := 2000) (z := u) (w := (tx i)) (rk_204 (hR.fr f571)) (congrArg iI p571_0) (by omega) (p571_1.2.2.2.2.2.1)) ?_
        refine rsr (vC_e (rk_160 (hR.fr f571))) ?_
        obtain ⟨rl, hrl⟩ : ∃ r, LcF Hl s (tx i) r := by have q := LcF_ex (Hl := Hl) (y := (tx i)) s.toNat; rw [show ((s.toNat : Nat) : Int) = s by omega] at q; exact q
        have brl := hrl.bd
        by_cases crl : rl = -1
        ·
          subst crl
          refine RrI (a197 (by omega) (hR.fr f571) ((g571.i _ _ (by decide)).trans (wa_51)) (lra.fr g571 (by decide)) (by omega)) fun v Nl572 hl572 => ?_
          obtain ⟨r9, rfl, hMl, hr9⟩ := hl572
          rw [hMl]
          have q9 := LcF.one hr9 hrl
          rw [q9]
          refine rsr (cI_e rfl) ?_
          refine rsr (jv_e) ?_
          try dsimp only
          refine rsr (gtI_q (w := iI ((kr (kd (i + 1))))) (rk_160 (hR.fr f571)) (e571_k1)) ?_
          refine rsr (jn_v) ?_
          refine rsr (if_neg (krI_n (k := 40) (rfl) (li_40) (hS.ok (i + 1) (by omega) (by omega)) (by unfold KdOK sgk; omega) (by decide +kernel) (by omega) (by omega))) ?_
          refine rsr (gtI_q (w := iI ((kr (kd (i + 1))))) (rk_160 (hR.fr f571)) (e571_k1)) ?_
          refine rsr (if_pos (krI_p (k := 91) (rfl) (li_91) (by omega) (by decide +kernel))) ?_
          refine rsr (vC_e (rk_160 (hR.fr f571))) ?_
          refine Rb_VV (hX _ _ (by omega) (by omega) T n m kd pl E tx ua ut mu _ _ G (pu U u [uc, (V Mr 201 u.toNat), (V Mr 200 u.toNat), (V Mr 203 u.toNat), (pl i), (V Mr 206 u.toNat), ut, 0, (V Mc 79 uc.toNat), (V Mc 80 uc.toNat), (V Mc 82 uc.toNat)]) Hl (pux X u [(0 : Int64), (tx i)]) (i + 1) e s (u + 1) (uc + 1) _ hS (hCx.fr f502 f571) ⟨e502_k0, e502_k2, e502_k3, (g502.i _ _ (by decide)).trans (qa_9), (g502.i _ _ (by decide)).trans (qa_16), e502_k1⟩ ⟨e571_k1, e571_k2, e571_k3, e571_k4, (g571.i _ _ (by decide)).trans (wa_43), (g571.i _ _ (by decide)).trans (wa_51), e571_k0, (g571.i _ _ (by decide)).trans (wa_50), p571_2⟩ ⟨(caa.fr g502 (by decide)), (raa.fr g571 (by decide)), (lca.fr g502 (by decide)), (lra.fr g571 (by decide)), (CU.add cua (by omega) (by omega) p502_1 rfl rfl), (RU.add rua (by omega) p571_1 rfl)⟩ ⟨by omega, by omega, by omega, by omega, by omega, by omega, by omega, by omega, by omega, by omega, by omega, by omega⟩ (by omega) (vs1 (hv0))) fun v Mx573 w Nx573 hx573 => ?_
          rcases hx573 with ⟨i573, e573, u573, uc573, G573, U573, X573, fl573, fr573, sc573, sr573, rw573, bd573, mv573, ag573, au573, ax573, tp573, dp573, kv573⟩ | ⟨F573, P573, fl573, fr573, tc573, tr573⟩
          ·
            have FL573 : Fr W_cp Mc Mx573 := Fr.t f502 fl573
            have FR573 : Fr W_rx Mr Nx573 := Fr.t f571 fr573
            obtain ⟨bb573_0, bb573_1, bb573_2, bb573_3, bb573_4, bb573_5, bb573_6, bb573_7, bb573_8, bb573_9, bb573_10, bb573_11⟩ := bd573
            obtain ⟨q573_12, q573_13, q573_10, q573_9, q573_16, q573_19⟩ := sc573
            obtain ⟨w573_36, w573_37, w573_38, w573_41, w573_43, w573_51, w573_53, w573_50, w573_n⟩ := sr573
            obtain ⟨ca573, ra573, lc573, lr573, cu573, ru573⟩ := rw573
            have hk574 := (hS.ok i573 (by omega) (by omega)).r
            have ku573 := KU.t (KU.us kua p502_1 g502 (by decide) (by omega)) kv573 (by omega)
            have ty575 := Tye.t (d3 := 1) ty2 ag573 tp573 (by omega)
            have du576 := DU.t (DU.r (ut := ut) (mu := mu) (c := uc) (G := G) (a := e)) ag573 au573 ax573 dp573 (by omega)
            refine rsl (cV_e rfl) ?_
            refine rsr (cV_e rfl) ?_
            refine rsl (jv_e) ?_
            refine rsl (vC_e (ck_65 (hC.fr FL573))) ?_
            by_cases c577 : ((kd i573)) = 61
            ·
              have hm578 : i573 + 1 < m := hS.more i573 (by omega) (by omega) (by omega)
              refine rsl (cV_e (a64q (by omega) hS (hC.fr FL573) (hTk.fr (WL := W_cp) FL573 (by decide)) (q573_12) (q573_13) (q573_10) (li_61) (i2 := (i573 + 1)) (by omega) (by omega))) ?_
              have hk579 := (hS.ok (i573 + 1) (by omega) (by omega)).r
              refine rsl (vC_e (ck_65 (hC.fr FL573).sI.sI)) ?_
              refine rsr (vC_e (rk_160 (hR.fr FR573))) ?_
              refine RrI (a195_61 (by omega) hS (hR.fr FR573) (hT.fr (W := W_rx) FR573 (by decide) (by decide)) (fun i a b => (Fr.lc (W := W_rx) FR573 _ (by decide) _).trans (hW i a b)) (w573_36) (w573_37) (w573_38) (w573_41) (li_61) (i2 := (i573 + 1)) (by omega) (by omega)) fun v Ma581 h581 => ?_
              obtain ⟨r580, rfl, g581, e581_k0, e581_k1, e581_k2, p581_0, p581_1⟩ := h581
              have f581 : Fr W_rx Mr Ma581 := Fr.t FR573 (Fr.m g581 (by decide))
              refine rsr (cI_e rfl) ?_
              refine rsr (vC_e (rk_160 (hR.fr f581))) ?_
              refine Rb_VV (hE _ _ (by omega) (by omega) T n m kd pl E tx ua ut mu _ _ G573 U573 Hl X573 (i573 + 1) e573 s u573 uc573 _ hS (hCx.fr (Fr.sI (by decide) (Fr.sI (by decide) FL573)) f581) ⟨(sI_nej (by decide)).trans (sI_eq), sI_eq, (sI_nej (by decide)).trans ((sI_nej (by decide)).trans (q573_10)), (sI_nej (by decide)).trans ((sI_nej (by decide)).trans (q573_9)), (sI_nej (by decide)).trans ((sI_nej (by decide)).trans (q573_16)), (sI_nej (by decide)).trans ((sI_nej (by decide)).trans (q573_19))⟩ ⟨e581_k0, e581_k1, e581_k2, (g581.i _ _ (by decide)).trans (w573_41), (g581.i _ _ (by decide)).trans (w573_43), (g581.i _ _ (by decide)).trans (w573_51), (g581.i _ _ (by decide)).trans (w573_53), (g581.i _ _ (by decide)).trans (w573_50), p581_1⟩ ⟨(ca573.fr (W := W_c0) (Fr.sI (by decide) (Fr.sI (by decide) Fr.r)) (by decide)), (ra573.fr g581 (by decide)), (lc573.fr (W := W_c0) (Fr.sI (by decide) (Fr.sI (by decide) Fr.r)) (by decide)), (lr573.fr g581 (by decide)), (cu573.fr (W := W_c0) (Fr.sI (by decide) (Fr.sI (by decide) Fr.r)) (by decide)), (ru573.fr g581 (by decide))⟩ ⟨by omega, by omega, by omega, by omega, by omega, by omega, by omega, by omega, by omega, by omega, by omega, by omega⟩ (vs2 (li_0) (hv0))) fun v Mx582 w Nx582 hx582 => ?_
              rcases hx582 with ⟨i582, e582, u582, uc582, G582, U582, X582, fl582, fr582, sc582, sr582, rw582, bd582, mv582, ag582, au582, ax582, tp582, dp582, kv582⟩ | ⟨F582, P582, fl582, fr582, tc582, tr582⟩
              ·
                have FL582 : Fr W_cp Mc Mx582 := Fr.t (Fr.sI (by decide) (Fr.sI (by decide) FL573)) fl582
                have FR582 : Fr W_rx Mr Nx582 := Fr.t f581 fr582
                obtain ⟨bb582_0, bb582_1, bb582_2, bb582_3, bb582_4, bb582_5, bb582_6, bb582_7, bb582_8, bb582_9, bb582_10, bb582_11⟩ := bd582
                obtain ⟨q582_12, q582_13, q582_10, q582_9, q582_16, q582_19⟩ := sc582
                obtain ⟨w582_36, w582_37, w582_38, w582_41, w582_43, w582_51, w582_53, w582_50, w582_n⟩ := sr582
                obtain ⟨ca582, ra582, lc582, lr582, cu582, ru582⟩ := rw582
                have hk583 := (hS.ok i582 (by omega) (by omega)).r
                have ku582 := KU.t (ku573.fr (W := W_c0) (Fr.sI (by decide) (Fr.sI (by decide) Fr.r)) (by decide)) kv582 (by omega)
                have ty584 := Tye.t (d3 := 2) ty575 ag582 tp582 (by omega)
                have du585 := DU.t du576 ag582 au582 ax582 dp582 (by omega)
                refine rsl (cV_e rfl) ?_
                refine rsr (cV_e rfl) ?_
                refine rsl (vC_e (ck_65 (hC.fr FL582))) ?_
                by_cases c586 : ((kd i582)) = 59
                ·
                  have hm587 : i582 + 1 < m := hS.more i582 (by omega) (by omega) (by omega)
                  refine rsl (cV_e (a64q (by omega) hS (hC.fr FL582) (hTk.fr (WL := W_cp) FL582 (by decide)) (q582_12) (q582_13) (q582_10) (li_59) (i2 := (i582 + 1)) (by omega) (by omega))) ?_
                  have hk588 := (hS.ok (i582 + 1) (by omega) (by omega)).r
                  refine rsl (jn_v) ?_
                  refine rsl (if_neg (eqI_n (li_1) (li_0) (by omega))) ?_
                  refine rsl (vC_e (ck_65 (hC.fr FL582).sI.sI)) ?_
                  have tb590 := Tyb.ex (dp := dp) (d := 2) (s' := s) (q := (e582 + 1)) (n1 := 0) (ut := ut) (mu := mu) (l := []) ty584 (Or.inr (Or.inr (Or.inr (Or.inr (Or.inr (Or.inl (by omega)))))) : Eff 6 u 0 2 s 0 s) (by omega) ⟨by omega, by omega⟩ (by omega)
                  have du591 := DU.set (b1 := 3) (p := 3) (q := (e582 + 1)) (u := u) (o := 6) (n1 := 0) (p1 := -2) (n3 := u) (l := []) (g := 0) du585 (by omega) (by omega) (by omega) (by omega) (fun q => absurd q (by decide)) (Int.le_of_eq (Eq.symm ((au582 0 _ (by omega)).trans ((au573 0 _ (by omega)).trans (pu_e rfl))))) ((au582 6 _ (by omega)).trans ((au573 6 _ (by omega)).trans (pu_e (by omega)))) (U3tr (ax582 0 _ (by omega)) (au582 3 _ (by omega)) (au582 10 _ (by omega)) (U3tr (ax573 0 _ (by omega)) (au573 3 _ (by omega)) (au573 10 _ (by omega)) (Or.inl (pux_e (by omega))))) (by omega) (by omega)
                  refine RlV (a105 (by omega) (hC.fr FL582).sI.sI ((sI_nej (by decide)).trans ((sI_nej (by decide)).trans (q582_9))) (congrArg iI p502_0) (li_3) (li_6) (by omega)) fun v Ma592 h592 => ?_
                  obtain ⟨g592, e592_k0, p592_0, p592_1⟩ := h592
                  have f592 : Fr W_cp Mc Ma592 := Fr.t (Fr.sI (by decide) (Fr.sI (by decide) FL582)) (Fr.m g592 (by decide))
                  refine rsl (cV_e rfl) ?_
                  refine rsl (jv_e) ?_
                  refine rsr (vC_e (rk_160 (hR.fr FR582))) ?_
                  refine RrV (a202 (by omega) (hR.fr FR582) (w582_43) ((FR582.i _ _ (by decide)).trans h49) ((FR582.i _ _ (by decide)).trans h48) (congrArg iI p571_0) (li_3) (li_6) (by omega)) fun v Ma593 h593 => ?_
                  obtain ⟨g593, e593_k0, p593_0, p593_1⟩ := h593
                  have f593 : Fr W_rx Mr Ma593 := Fr.t FR582 (Fr.m g593 (by decide))
                  refine rsr (cV_e rfl) ?_
                  refine rsr (vC_e (rk_160 (hR.fr f593))) ?_
                  refine RrI (a195_59 (by omega) hS (hR.fr f593) (hT.fr (W := W_rx) f593 (by decide) (by decide)) (fun i a b => (Fr.lc (W := W_rx) f593 _ (by decide) _).trans (hW i a b)) ((g593.i _ _ (by decide)).trans (w582_36)) ((g593.i _ _ (by decide)).trans (w582_37)) ((g593.i _ _ (by decide)).trans (w582_38)) ((g593.i _ _ (by decide)).trans (w582_41)) (li_59) (i2 := (i582 + 1)) (by omega) (by omega)) fun v Ma595 h595 => ?_
                  obtain ⟨r594, rfl, g595, e595_k0, e595_k1, e595_k2, p595_0, p595_1⟩ := h595
                  have f595 : Fr W_rx Mr Ma595 := Fr.t f593 (Fr.m g595 (by decide))
                  refine rsr (cI_e rfl) ?_
                  refine rsr (jv_e) ?_
                  exact Rs.ok (Or.inl ⟨(i582 + 1), s, Hl, ⟨(e582 + 1), u582, uc582, (pu G582 e582 [6, 0, -2, u, ut, mu, 0]), (ps U582 u 3 3 e582), X582, f592, f595, ⟨(g592.i _ _ (by decide)).trans ((sI_nej (by decide)).trans (sI_eq)), (g592.i _ _ (by decide)).trans (sI_eq), (g592.i _ _ (by decide)).trans ((sI_nej (by decide)).trans ((sI_nej (by decide)).trans (q582_10))), e592_k0, (g592.i _ _ (by decide)).trans ((sI_nej (by decide)).trans ((sI_nej (by decide)).trans (q582_16))), (g592.i _ _ (by decide)).trans ((sI_nej (by decide)).trans ((sI_nej (by decide)).trans (q582_19)))⟩, ⟨e595_k0, e595_k1, e595_k2, (g595.i _ _ (by decide)).trans ((g593.i _ _ (by decide)).trans (w582_41)), (g595.i _ _ (by decide)).trans (e593_k0), (g595.i _ _ (by decide)).trans ((g593.i _ _ (by decide)).trans (w582_51)), (g595.i _ _ (by decide)).trans ((g593.i _ _ (by decide)).trans (w582_53)), (g595.i _ _ (by decide)).trans ((g593.i _ _ (by decide)).trans (w582_50)), p595_1⟩, ⟨(CA1.em (ca582.fr (W := W_c0) (Fr.sI (by decide) (Fr.sI (by decide) Fr.r)) (by decide)) (by omega) p592_0 rfl), ((RA1.em ra582 (by omega) p593_0 rfl).fr g595 (by decide)), ((lc582.fr (W := W_c0) (Fr.sI (by decide) (Fr.sI (by decide) Fr.r)) (by decide)).fr g592 (by decide)), ((lr582.fr g593 (by decide)).fr g595 (by decide)), (CU.set (b := 3) (cu582.fr (W := W_c0) (Fr.sI (by decide) (Fr.sI (by decide) Fr.r)) (by decide)) ⟨by omega, by omega⟩ ((au582 0 _ (by omega)).trans ((au573 0 _ (by omega)).trans (pu_e rfl))) p592_1 g592 (by decide)), ((RU.set ru582 ⟨by omega, by omega⟩ p593_1 g593 (by decide)).fr g595 (by decide))⟩, ⟨by omega, by omega, by omega, by omega, by omega, by omega, by omega, by omega, by omega, by omega, by omega, by omega⟩, ⟨by omega, by omega, by omega, by omega, by omega, by omega⟩, (Ag.pu (Ag.t (Ag.t Ag.r ag573 (by omega)) ag582 (by omega)) (by omega)), (Ag.ps (Ag.t (Ag.t (Ag.pu Ag.r (by omega)) au573 (by omega)) au582 (by omega)) (by omega)), (AgL.t (AgL.t (AgL.pu AgL.r (by omega)) ax573 (by omega)) ax582 (by omega)), tb590, du591, ((ku582.fr (W := W_c0) (Fr.sI (by decide) (Fr.sI (by decide) Fr.r)) (by decide)).fr g592 (by decide)), ⟨by omega, fun _ _ _ => rfl⟩⟩⟩)
                ·
                  by_cases c596 : ((kd i582)) = 1
                  ·
                    refine rsl (cV_e (a64_1 (by omega) hS (hC.fr FL582) (hTk.fr (WL := W_cp) FL582 (by decide)) (q582_12) (q582_13) (q582_10) (li_59) (by omega))) ?_
                    refine rsl (jn_v) ?_
                    refine rsl (if_neg (eqI_n (li_1) (li_0) (by omega))) ?_
                    refine rsl (vC_e (ck_65 (hC.fr FL582).sI.sI.sI)) ?_
                    refine RlV (y105 (by omega) (hC.fr FL582).sI.sI.sI (hTk.fr (WL := W_cp) (Fr.sI (by decide) (Fr.sI (by decide) (Fr.sI (by decide) FL582))) (by decide)) ((sI_nej (by decide)).trans ((sI_nej (by decide)).trans ((sI_nej (by decide)).trans (q582_12)))) (sI_eq) ((sI_nej (by decide)).trans ((sI_nej (by decide)).trans (sI_eq))) ((sI_nej (by decide)).trans (sI_eq)) ((sI_nej (by decide)).trans ((sI_nej (by decide)).trans ((sI_nej (by decide)).trans (q582_9)))) ((sI_nej (by decide)).trans ((sI_nej (by decide)).trans ((sI_nej (by decide)).trans (q582_16)))) ((sI_nej (by decide)).trans ((sI_nej (by decide)).trans ((sI_nej (by decide)).trans (q582_19)))) (congrArg iI p502_0) (li_3) (li_6) (by omega)) fun v Ma598 h598 => ?_
                    obtain ⟨sz597, sn597, uc597, g598, e598_sz597, e598_sn597, e598_uc597, e598_k0, e598_k1, e598_k2, e598_k3, p598_0, p598_1, p598_2⟩ := h598
                    have f598 : Fr W_cp Mc Ma598 := Fr.t (Fr.sI (by decide) (Fr.sI (by decide) (Fr.sI (by decide) FL582))) (Fr.m g598 (by decide))
                    refine rsl (cV_e rfl) ?_
                    refine rsl (jv_e) ?_
                    refine rsr (vC_e (rk_160 (hR.fr FR582))) ?_
                    refine RrV (a202 (by omega) (hR.fr FR582) (w582_43) ((FR582.i _ _ (by decide)).trans h49) ((FR582.i _ _ (by decide)).trans h48) (congrArg iI p571_0) (li_3) (li_6) (by omega)) fun v Ma599 h599 => ?_
                    obtain ⟨g599, e599_k0, p599_0, p599_1⟩ := h599
                    have f599 : Fr W_rx Mr Ma599 := Fr.t FR582 (Fr.m g599 (by decide))
                    refine rsr (cV_e rfl) ?_
                    refine rsr (vC_e (rk_160 (hR.fr f599))) ?_
                    refine rsr (cI_e (a195_59_1 (by omega) hS (hR.fr f599) ((g599.i _ _ (by decide)).trans (w582_36)) ((g599.i _ _ (by decide)).trans (w582_37)) ((g599.i _ _ (by decide)).trans (w582_41)) (li_59) (by omega))) ?_
                    refine rsr (jv_e) ?_
                    exact Rs.ok (Or.inr ⟨1, ((pl i582)), f598, (Fr.sI (by decide) (Fr.sI (by decide) (Fr.m f599 (by decide)))), ⟨i582, sz597, sn597, uc597, e598_k0, e598_k1, e598_k2, e598_k3, e598_sz597, e598_sn597, e598_uc597, by omega⟩, ⟨(e582 + 1), s, u582, mu, ut, (sI_nej (by decide)).trans (sI_eq), sI_eq, (sI_nej (by decide)).trans ((sI_nej (by decide)).trans (e599_k0)), (sI_nej (by decide)).trans ((sI_nej (by decide)).trans ((g599.i _ _ (by decide)).trans (w582_51))), (sI_nej (by decide)).trans ((sI_nej (by decide)).trans ((g599.i _ _ (by decide)).trans (w582_53))), (sI_nej (by decide)).trans ((sI_nej (by decide)).trans ((g599.i _ _ (by decide)).trans ((FR582.i _ _ (by decide)).trans h48))), (sI_nej (by decide)).trans ((sI_nej (by decide)).trans ((g599.i _ _ (by decide)).trans ((FR582.i _ _ (by decide)).trans h49))), by omega⟩⟩)
                  ·
                    refine rsl (cV_e (a64_2 (by omega) hS (hC.fr FL582) (hTk.fr (WL := W_cp) FL582 (by decide)) (q582_12) (q582_13) (q582_10) (li_59) (by omega))) ?_
                    refine rsl (jn_v) ?_
                    refine rsl (if_neg (eqI_n (li_1) (li_0) (by omega))) ?_
                    refine rsl (vC_e (ck_65 (hC.fr FL582).sI.sI.sI)) ?_
                    refine RlV (y105 (by omega) (hC.fr FL582).sI.sI.sI (hTk.fr (WL := W_cp) (Fr.sI (by decide) (Fr.sI (by decide) (Fr.sI (by decide) FL582))) (by decide)) ((sI_nej (by decide)).trans ((sI_nej (by decide)).trans ((sI_nej (by decide)).trans (q582_12)))) (sI_eq) ((sI_nej (by decide)).trans ((sI_nej (by decide)).trans (sI_eq))) ((sI_nej (by decide)).trans (sI_eq)) ((sI_nej (by decide)).trans ((sI_nej (by decide)).trans ((sI_nej (by decide)).trans (q582_9)))) ((sI_nej (by decide)).trans ((sI_nej (by decide)).trans ((sI_nej (by decide)).trans (q582_16)))) ((sI_nej (by decide)).trans ((sI_nej (by decide)).trans ((sI_nej (by decide)).trans (q582_19)))) (congrArg iI p502_0) (li_3) (li_6) (by omega)) fun v Ma601 h601 => ?_
                    obtain ⟨sz600, sn600, uc600, g601, e601_sz600, e601_sn600, e601_uc600, e601_k0, e601_k1, e601_k2, e601_k3, p601_0, p601_1, p601_2⟩ := h601
                    have f601 : Fr W_cp Mc Ma601 := Fr.t (Fr.sI (by decide) (Fr.sI (by decide) (Fr.sI (by decide) FL582))) (Fr.m g601 (by decide))
                    refine rsl (cV_e rfl) ?_
                    refine rsl (jv_e) ?_
                    refine rsr (vC_e (rk_160 (hR.fr FR582))) ?_
                    refine RrV (a202 (by omega) (hR.fr FR582) (w582_43) ((FR582.i _ _ (by decide)).trans h49) ((FR582.i _ _ (by decide)).trans h48) (congrArg iI p571_0) (li_3) (li_6) (by omega)) fun v Ma602 h602 => ?_
                    obtain ⟨g602, e602_k0, p602_0, p602_1⟩ := h602
                    have f602 : Fr W_rx Mr Ma602 := Fr.t FR582 (Fr.m g602 (by decide))
                    refine rsr (cV_e rfl) ?_
                    refine rsr (vC_e (rk_160 (hR.fr f602))) ?_
                    refine rsr (cI_e (a195_59_2 (by omega) hS (hR.fr f602) ((g602.i _ _ (by decide)).trans (w582_36)) ((g602.i _ _ (by decide)).trans (w582_37)) ((g602.i _ _ (by decide)).trans (w582_41)) (li_59) (by omega))) ?_
                    refine rsr (jv_e) ?_
                    exact Rs.ok (Or.inr ⟨2, ((pl i582)), f601, (Fr.sI (by decide) (Fr.sI (by decide) (Fr.m f602 (by decide)))), ⟨i582, sz600, sn600, uc600, e601_k0, e601_k1, e601_k2, e601_k3, e601_sz600, e601_sn600, e601_uc600, by omega⟩, ⟨(e582 + 1), s, u582, mu, ut, (sI_nej (by decide)).trans (sI_eq), sI_eq, (sI_nej (by decide)).trans ((sI_nej (by decide)).trans (e602_k0)), (sI_nej (by decide)).trans ((sI_nej (by decide)).trans ((g602.i _ _ (by decide)).trans (w582_51))), (sI_nej (by decide)).trans ((sI_nej (by decide)).trans ((g602.i _ _ (by decide)).trans (w582_53))), (sI_nej (by decide)).trans ((sI_nej (by decide)).trans ((g602.i _ _ (by decide)).trans ((FR582.i _ _ (by decide)).trans h48))), (sI_nej (by decide)).trans ((sI_nej (by decide)).trans ((g602.i _ _ (by decide)).trans ((FR582.i _ _ (by decide)).trans h49))), by omega⟩⟩)
              ·
                have FL582 : Fr W_cp Mc Mx582 := Fr.t (Fr.sI (by decide) (Fr.sI (by decide) FL573)) fl582
                have FR582 : Fr W_rp Mr Nx582 := Fr.t (Fr.m f581 W_rx_p) fr582
                obtain ⟨ti582, tz582, tn582, tu582, t13582, t10582, t11582, t12582, t9582, t16582, t19582, tb582⟩ := tc582
                obtain ⟨re582, rn582, ru582, rm582, rt582, u41582, u42582, u43582, u51582, u53582, u48582, u49582, ub582⟩ := tr582
                refine rsl (cV_e rfl) ?_
                refine rsr (cV_e rfl) ?_
                refine rsl (vC_e (ck_65 (hC.fr FL582))) ?_
                refine RlV (y64 (by omega) (hC.fr FL582) (hTk.fr (WL := W_cp) FL582 (by decide)) (t12582) (t13582) (t10582) (t11582) (t9582) (t16582) (t19582) (li_59) (by omega)) fun v Ma604 h604 => ?_
                obtain ⟨sz603, sn603, uc603, g604, e604_sz603, e604_sn603, e604_uc603, e604_k0, e604_k1, e604_k2, e604_k3, p604_0, p604_1, p604_2⟩ := h604
                have f604 : Fr W_cp Mc Ma604 := Fr.t FL582 (Fr.m g604 (by decide))
                refine rsl (cV_e rfl) ?_
                refine rsl (jn_v) ?_
                refine rsl (if_neg (eqI_n (li_1) (li_0) (by omega))) ?_
                refine rsl (vC_e (ck_65 (hC.fr f604))) ?_
                refine RlV (y105 (by omega) (hC.fr f604) (hTk.fr (WL := W_cp) f604 (by decide)) (e604_k3) (e604_k0) (e604_k1) (e604_k2) (e604_sz603) (e604_sn603) (e604_uc603) (congrArg iI p502_0) (li_3) (li_6) (by omega)) fun v Ma606 h606 => ?_
                obtain ⟨sz605, sn605, uc605, g606, e606_sz605, e606_sn605, e606_uc605, e606_k0, e606_k1, e606_k2, e606_k3, p606_0, p606_1, p606_2⟩ := h606
                have f606 : Fr W_cp Mc Ma606 := Fr.t f604 (Fr.m g606 (by decide))
                refine rsl (cV_e rfl) ?_
                refine rsl (jv_e) ?_
                refine rsr (vC_e (rk_160 (hR.fr FR582))) ?_
                refine RrV (x202_s (by omega) (hR.fr FR582) (u41582) (u42582) (u43582) (u51582) (u53582) (u48582) (u49582) (congrArg iI p571_0) (li_3) (li_6) (by omega)) fun v Ma608 h608 => ?_
                obtain ⟨em607, g608, e608_em607, e608_k0, e608_k1, e608_k2, e608_k3, e608_k4, p608_0⟩ := h608
                have f608 : Fr W_rp Mr Ma608 := Fr.t FR582 (Fr.m g608 (by decide))
                refine rsr (cV_e rfl) ?_
                refine rsr (vC_e (rk_160 (hR.fr f608))) ?_
                refine RrI (x195_s (by omega) (hR.fr f608) (e608_k0) (e608_k1) (e608_em607) (e608_k2) (e608_k3) (e608_k4) ((g608.i _ _ (by decide)).trans (u49582)) (li_59) (by omega)) fun v Ma610 h610 => ?_
                obtain ⟨rv609, em609, rfl, g610, e610_em609, e610_k0, e610_k1, e610_k2, e610_k3, e610_k4, p610_0, p610_1⟩ := h610
                have f610 : Fr W_rp Mr Ma610 := Fr.t f608 (Fr.m g610 (by decide))
                refine rsr (cI_e rfl) ?_
                refine rsr (jv_e) ?_
                exact Rs.ok (Or.inr ⟨F582, P582, f606, f610, ⟨ti582, sz605, sn605, uc605, e606_k0, e606_k1, e606_k2, e606_k3, e606_sz605, e606_sn605, e606_uc605, by omega⟩, ⟨em609, rn582, ru582, rm582, rt582, e610_k0, e610_k1, e610_em609, e610_k2, e610_k3, e610_k4, (g610.i _ _ (by decide)).trans ((g608.i _ _ (by decide)).trans (u49582)), by omega⟩⟩)
            ·
              by_cases c611 : ((kd i573)) = 1
              ·
                refine rsl (cV_e (a64_1 (by omega) hS (hC.fr FL573) (hTk.fr (WL := W_cp) FL573 (by decide)) (q573_12) (q573_13) (q573_10) (li_61) (by omega))) ?_
                refine rsl (vC_e (ck_65 (hC.fr FL573).sI.sI.sI)) ?_
                refine RlV (y99_0 (by omega) (hC.fr FL573).sI.sI.sI (hTk.fr (WL := W_cp) (Fr.sI (by decide) (Fr.sI (by decide) (Fr.sI (by decide) FL573))) (by decide)) ((sI_nej (by decide)).trans ((sI_nej (by decide)).trans ((sI_nej (by decide)).trans (q573_12)))) (sI_eq) ((sI_nej (by decide)).trans ((sI_nej (by decide)).trans (sI_eq))) ((sI_nej (by decide)).trans (sI_eq)) ((sI_nej (by decide)).trans ((sI_nej (by decide)).trans ((sI_nej (by decide)).trans (q573_9)))) ((sI_nej (by decide)).trans ((sI_nej (by decide)).trans ((sI_nej (by decide)).trans (q573_16)))) ((sI_nej (by decide)).trans ((sI_nej (by decide)).trans ((sI_nej (by decide)).trans (q573_19)))) (li_0) (hv0) (by omega)) fun v Ma613 h613 => ?_
                obtain ⟨sz612, sn612, uc612, g613, e613_sz612, e613_sn612, e613_uc612, e613_k0, e613_k1, e613_k2, e613_k3, p613_0, p613_1, p613_2⟩ := h613
                have f613 : Fr W_cp Mc Ma613 := Fr.t (Fr.sI (by decide) (Fr.sI (by decide) (Fr.sI (by decide) FL573))) (Fr.m g613 (by decide))
                refine rsl (cV_e rfl) ?_
                refine rsl (vC_e (ck_65 (hC.fr f613))) ?_
                refine RlV (y64 (by omega) (hC.fr f613) (hTk.fr (WL := W_cp) f613 (by decide)) (e613_k3) (e613_k0) (e613_k1) (e613_k2) (e613_sz612) (e613_sn612) (e613_uc612) (li_59) (by omega)) fun v Ma615 h615 => ?_
                obtain ⟨sz614, sn614, uc614, g615, e615_sz614, e615_sn614, e615_uc614, e615_k0, e615_k1, e615_k2, e615_k3, p615_0, p615_1, p615_2⟩ := h615
                have f615 : Fr W_cp Mc Ma615 := Fr.t f613 (Fr.m g615 (by decide))
                refine rsl (cV_e rfl) ?_
                refine rsl (jn_v) ?_
                refine rsl (if_neg (eqI_n (li_1) (li_0) (by omega))) ?_
                refine rsl (vC_e (ck_65 (hC.fr f615))) ?_
                refine RlV (y105 (by omega) (hC.fr f615) (hTk.fr (WL := W_cp) f615 (by decide)) (e615_k3) (e615_k0) (e615_k1) (e615_k2) (e615_sz614) (e615_sn614) (e615_uc614) (congrArg iI p502_0) (li_3) (li_6) (by omega)) fun v Ma617 h617 => ?_
                obtain ⟨sz616, sn616, uc616, g617, e617_sz616, e617_sn616, e617_uc616, e617_k0, e617_k1, e617_k2, e617_k3, p617_0, p617_1, p617_2⟩ := h617
                have f617 : Fr W_cp Mc Ma617 := Fr.t f615 (Fr.m g617 (by decide))
                refine rsl (cV_e rfl) ?_
                refine rsl (jv_e) ?_
                refine rsr (vC_e (rk_160 (hR.fr FR573))) ?_
                refine rsr (cI_e (a195_61_1 (by omega) hS (hR.fr FR573) (w573_36) (w573_37) (w573_41) (li_61) (by omega))) ?_
                refine rsr (vC_e (rk_160 (hR.fr FR573).sI.sI)) ?_
                refine RrV (x211_s (by omega) (hR.fr FR573).sI.sI ((sI_nej (by decide)).trans (sI_eq)) (sI_eq) ((sI_nej (by decide)).trans ((sI_nej (by decide)).trans (w573_43))) ((sI_nej (by decide)).trans ((sI_nej (by decide)).trans (w573_51))) ((sI_nej (by decide)).trans ((sI_nej (by decide)).trans (w573_53))) ((sI_nej (by decide)).trans ((sI_nej (by decide)).trans ((FR573.i _ _ (by decide)).trans h48))) ((sI_nej (by decide)).trans ((sI_nej (by decide)).trans ((FR573.i _ _ (by decide)).trans h49)))  (by omega)) fun v Ma619 h619 => ?_
                obtain ⟨em618, g619, e619_em618, e619_k0, e619_k1, e619_k2, e619_k3, e619_k4, p619_0⟩ := h619
                have f619 : Fr W_rp Mr Ma619 := Fr.t (Fr.sI (by decide) (Fr.sI (by decide) (Fr.m FR573 (by decide)))) (Fr.m g619 (by decide))
                refine rsr (cV_e rfl) ?_
                refine rsr (vC_e (rk_160 (hR.fr f619))) ?_
                refine RrV (x202_s (by omega) (hR.fr f619) (e619_k0) (e619_k1) (e619_em618) (e619_k2) (e619_k3) (e619_k4) ((g619.i _ _ (by decide)).trans ((sI_nej (by decide)).trans ((sI_nej (by decide)).trans ((FR573.i _ _ (by decide)).trans h49)))) (congrArg iI p571_0) (li_3) (li_6) (by omega)) fun v Ma621 h621 => ?_
                obtain ⟨em620, g621, e621_em620, e621_k0, e621_k1, e621_k2, e621_k3, e621_k4, p621_0⟩ := h621
                have f621 : Fr W_rp Mr Ma621 := Fr.t f619 (Fr.m g621 (by decide))
                refine rsr (cV_e rfl) ?_
                refine rsr (vC_e (rk_160 (hR.fr f621))) ?_
                refine RrI (x195_s (by omega) (hR.fr f621) (e621_k0) (e621_k1) (e621_em620) (e621_k2) (e621_k3) (e621_k4) ((g621.i _ _ (by decide)).trans ((g619.i _ _ (by decide)).trans ((sI_nej (by decide)).trans ((sI_nej (by decide)).trans ((FR573.i _ _ (by decide)).trans h49))))) (li_59) (by omega)) fun v Ma623 h623 => ?_
                obtain ⟨rv622, em622, rfl, g623, e623_em622, e623_k0, e623_k1, e623_k2, e623_k3, e623_k4, p623_0, p623_1⟩ := h623
                have f623 : Fr W_rp Mr Ma623 := Fr.t f621 (Fr.m g623 (by decide))
                refine rsr (cI_e rfl) ?_
                refine rsr (jv_e) ?_
                exact Rs.ok (Or.inr ⟨1, ((pl i573)), f617, f623, ⟨i573, sz616, sn616, uc616, e617_k0, e617_k1, e617_k2, e617_k3, e617_sz616, e617_sn616, e617_uc616, by omega⟩, ⟨em622, s, u573, mu, ut, e623_k0, e623_k1, e623_em622, e623_k2, e623_k3, e623_k4, (g623.i _ _ (by decide)).trans ((g621.i _ _ (by decide)).trans ((g619.i _ _ (by decide)).trans ((sI_nej (by decide)).trans ((sI_nej (by decide)).trans ((FR573.i _ _ (by decide)).trans h49))))), by omega⟩⟩)
              ·
                refine rsl (cV_e (a64_2 (by omega) hS (hC.fr FL573) (hTk.fr (WL := W_cp) FL573 (by decide)) (q573_12) (q573_13) (q573_10) (li_61) (by omega))) ?_
                refine rsl (vC_e (ck_65 (hC.fr FL573).sI.sI.sI)) ?_
                refine RlV (y99_0 (by omega) (hC.fr FL573).sI.sI.sI (hTk.fr (WL := W_cp) (Fr.sI (by decide) (Fr.sI (by decide) (Fr.sI (by decide) FL573))) (by decide)) ((sI_nej (by decide)).trans ((sI_nej (by decide)).trans ((sI_nej (by decide)).trans (q573_12)))) (sI_eq) ((sI_nej (by decide)).trans ((sI_nej (by decide)).trans (sI_eq))) ((sI_nej (by decide)).trans (sI_eq)) ((sI_nej (by decide)).trans ((sI_nej (by decide)).trans ((sI_nej (by decide)).trans (q573_9)))) ((sI_nej (by decide)).trans ((sI_nej (by decide)).trans ((sI_nej (by decide)).trans (q573_16)))) ((sI_nej (by decide)).trans ((sI_nej (by decide)).trans ((sI_nej (by decide)).trans (q573_19)))) (li_0) (hv0) (by omega)) fun v Ma625 h625 => ?_
                obtain ⟨sz624, sn624, uc624, g625, e625_sz624, e625_sn624, e625_uc624, e625_k0, e625_k1, e625_k2, e625_k3, p625_0, p625_1, p625_2⟩ := h625
                have f625 : Fr W_cp Mc Ma625 := Fr.t (Fr.sI (by decide) (Fr.sI (by decide) (Fr.sI (by decide) FL573))) (Fr.m g625 (by decide))
                refine rsl (cV_e rfl) ?_
                refine rsl (vC_e (ck_65 (hC.fr f625))) ?_
                refine RlV (y64 (by omega) (hC.fr f625) (hTk.fr (WL := W_cp) f625 (by decide)) (e625_k3) (e625_k0) (e625_k1) (e625_k2) (e625_sz624) (e625_sn624) (e625_uc624) (li_59) (by omega)) fun v Ma627 h627 => ?_
                obtain ⟨sz626, sn626, uc626, g627, e627_sz626, e627_sn626, e627_uc626, e627_k0, e627_k1, e627_k2, e627_k3, p627_0, p627_1, p627_2⟩ := h627
                have f627 : Fr W_cp Mc Ma627 := Fr.t f625 (Fr.m g627 (by decide))
                refine rsl (cV_e rfl) ?_
                refine rsl (jn_v) ?_
                refine rsl (if_neg (eqI_n (li_1) (li_0) (by omega))) ?_
                refine rsl (vC_e (ck_65 (hC.fr f627))) ?_
                refine RlV (y105 (by omega) (hC.fr f627) (hTk.fr (WL := W_cp) f627 (by decide)) (e627_k3) (e627_k0) (e627_k1) (e627_k2) (e627_sz626) (e627_sn626) (e627_uc626) (congrArg iI p502_0) (li_3) (li_6) (by omega)) fun v Ma629 h629 => ?_
                obtain ⟨sz628, sn628, uc628, g629, e629_sz628, e629_sn628, e629_uc628, e629_k0, e629_k1, e629_k2, e629_k3, p629_0, p629_1, p629_2⟩ := h629
                have f629 : Fr W_cp Mc Ma629 := Fr.t f627 (Fr.m g629 (by decide))
                refine rsl (cV_e rfl) ?_
                refine rsl (jv_e) ?_
                refine rsr (vC_e (rk_160 (hR.fr FR573))) ?_
                refine rsr (cI_e (a195_61_2 (by omega) hS (hR.fr FR573) (w573_36) (w573_37) (w573_41) (li_61) (by omega))) ?_
                refine rsr (vC_e (rk_160 (hR.fr FR573).sI.sI)) ?_
                refine RrV (x211_s (by omega) (hR.fr FR573).sI.sI ((sI_nej (by decide)).trans (sI_eq)) (sI_eq) ((sI_nej (by decide)).trans ((sI_nej (by decide)).trans (w573_43))) ((sI_nej (by decide)).trans ((sI_nej (by decide)).trans (w573_51))) ((sI_nej (by decide)).trans ((sI_nej (by decide)).trans (w573_53))) ((sI_nej (by decide)).trans ((sI_nej (by decide)).trans ((FR573.i _ _ (by decide)).trans h48))) ((sI_nej (by decide)).trans ((sI_nej (by decide)).trans ((FR573.i _ _ (by decide)).trans h49)))  (by omega)) fun v Ma631 h631 => ?_
                obtain ⟨em630, g631, e631_em630, e631_k0, e631_k1, e631_k2, e631_k3, e631_k4, p631_0⟩ := h631
                have f631 : Fr W_rp Mr Ma631 := Fr.t (Fr.sI (by decide) (Fr.sI (by decide) (Fr.m FR573 (by decide)))) (Fr.m g631 (by decide))
                refine rsr (cV_e rfl) ?_
                refine rsr (vC_e (rk_160 (hR.fr f631))) ?_
                refine RrV (x202_s (by omega) (hR.fr f631) (e631_k0) (e631_k1) (e631_em630) (e631_k2) (e631_k3) (e631_k4) ((g631.i _ _ (by decide)).trans ((sI_nej (by decide)).trans ((sI_nej (by decide)).trans ((FR573.i _ _ (by decide)).trans h49)))) (congrArg iI p571_0) (li_3) (li_6) (by omega)) fun v Ma633 h633 => ?_
                obtain ⟨em632, g633, e633_em632, e633_k0, e633_k1, e633_k2, e633_k3, e633_k4, p633_0⟩ := h633
                have f633 : Fr W_rp Mr Ma633 := Fr.t f631 (Fr.m g633 (by decide))
                refine rsr (cV_e rfl) ?_
                refine rsr (vC_e (rk_160 (hR.fr f633))) ?_
                refine RrI (x195_s (by omega) (hR.fr f633) (e633_k0) (e633_k1) (e633_em632) (e633_k2) (e633_k3) (e633_k4) ((g633.i _ _ (by decide)).trans ((g631.i _ _ (by decide)).trans ((sI_nej (by decide)).trans ((sI_nej (by decide)).trans ((FR573.i _ _ (by decide)).trans h49))))) (li_59) (by omega)) fun v Ma635 h635 => ?_
                obtain ⟨rv634, em634, rfl, g635, e635_em634, e635_k0, e635_k1, e635_k2, e635_k3, e635_k4, p635_0, p635_1⟩ := h635
                have f635 : Fr W_rp Mr Ma635 := Fr.t f633 (Fr.m g635 (by decide))
                refine rsr (cI_e rfl) ?_
                refine rsr (jv_e) ?_
                exact Rs.ok (Or.inr ⟨2, ((pl i573)), f629, f635, ⟨i573, sz628, sn628, uc628, e629_k0, e629_k1, e629_k2, e629_k3, e629_sz628, e629_sn628, e629_uc628, by omega⟩, ⟨em634, s, u573, mu, ut, e635_k0, e635_k1, e635_em634, e635_k2, e635_k3, e635_k4, (g635.i _ _ (by decide)).trans ((g633.i _ _ (by decide)).trans ((g631.i _ _ (by decide)).trans ((sI_nej (by decide)).trans ((sI_nej (by decide)).trans ((FR573.i _ _ (by decide)).trans h49))))), by omega⟩⟩)
          ·
            have FL573 : Fr W_cp Mc Mx573 := Fr.t f502 fl573
            have FR573 : Fr W_rp Mr Nx573 := Fr.t (Fr.m f571 W_rx_p) fr573
            obtain ⟨ti573, tz573, tn573, tu573, t13573, t10573, t11573, t12573, t9573, t16573, t19573, tb573⟩ := tc573
            obtain ⟨re573, rn573, ru573, rm573, rt573, u41573, u42573, u43573, u51573, u53573, u48573, u49573, ub573⟩ := tr573
            refine rsl (cV_e rfl) ?_
            refine rsr (cV_e rfl) ?_
            refine rsl (jv_e) ?_
            refine rsl (vC_e (ck_65 (hC.fr FL573))) ?_
            refine RlV (y64 (by omega) (hC.fr FL573) (hTk.fr (WL := W_cp) FL573 (by decide)) (t12573) (t13573) (t10573) (t11573) (t9573) (t16573) (t19573) (li_61) (by omega)) fun v Ma637 h637 => ?_
            obtain ⟨sz636, sn636, uc636, g637, e637_sz636, e637_sn636, e637_uc636, e637_k0, e637_k1, e637_k2, e637_k3, p637_0, p637_1, p637_2⟩ := h637
            have f637 : Fr W_cp Mc Ma637 := Fr.t FL573 (Fr.m g637 (by decide))
            refine rsl (cV_e rfl) ?_
            refine rsl (vC_e (ck_65 (hC.fr f637))) ?_
            refine RlV (y99_0 (by omega) (hC.fr f637) (hTk.fr (WL := W_cp) f637 (by decide)) (e637_k3) (e637_k0) (e637_k1) (e637_k2) (e637_sz636) (e637_sn636) (e637_uc636) (li_0) (hv0) (by omega)) fun v Ma639 h639 => ?_
            obtain ⟨sz638, sn638, uc638, g639, e639_sz638, e639_sn638, e639_uc638, e639_k0, e639_k1, e639_k2, e639_k3, p639_0, p639_1, p639_2⟩ := h639
            have f639 : Fr W_cp Mc Ma639 := Fr.t f637 (Fr.m g639 (by decide))
            refine rsl (cV_e rfl) ?_
            refine rsl (vC_e (ck_65 (hC.fr f639))) ?_
            refine RlV (y64 (by omega) (hC.fr f639) (hTk.fr (WL := W_cp) f639 (by decide)) (e639_k3) (e639_k0) (e639_k1) (e639_k2) (e639_sz638) (e639_sn638) (e639_uc638) (li_59) (by omega)) fun v Ma641 h641 => ?_
            obtain ⟨sz640, sn640, uc640, g641, e641_sz640, e641_sn640, e641_uc640, e641_k0, e641_k1, e641_k2, e641_k3, p641_0, p641_1, p641_2⟩ := h641
            have f641 : Fr W_cp Mc Ma641 := Fr.t f639 (Fr.m g641 (by decide))
            refine rsl (cV_e rfl) ?_
            refine rsl (jn_v) ?_
            refine rsl (if_neg (eqI_n (li_1) (li_0) (by omega))) ?_
            refine rsl (vC_e (ck_65 (hC.fr f641))) ?_
            refine RlV (y105 (by omega) (hC.fr f641) (hTk.fr (WL := W_cp) f641 (by decide)) (e641_k3) (e641_k0) (e641_k1) (e641_k2) (e641_sz640) (e641_sn640) (e641_uc640) (congrArg iI p502_0) (li_3) (li_6) (by omega)) fun v Ma643 h643 => ?_
            obtain ⟨sz642, sn642, uc642, g643, e643_sz642, e643_sn642, e643_uc642, e643_k0, e643_k1, e643_k2, e643_k3, p643_0, p643_1, p643_2⟩ := h643
            have f643 : Fr W_cp Mc Ma643 := Fr.t f641 (Fr.m g643 (by decide))
            refine rsl (cV_e rfl) ?_
            refine rsl (jv_e) ?_
            refine rsr (vC_e (rk_160 (hR.fr FR573))) ?_
            refine RrI (x195_s (by omega) (hR.fr FR573) (u41573) (u42573) (u43573) (u51573) (u53573) (u48573) (u49573) (li_61) (by omega)) fun v Ma645 h645 => ?_
            obtain ⟨rv644, em644, rfl, g645, e645_em644, e645_k0, e645_k1, e645_k2, e645_k3, e645_k4, p645_0, p645_1⟩ := h645
            have f645 : Fr W_rp Mr Ma645 := Fr.t FR573 (Fr.m g645 (by decide))
            refine rsr (cI_e rfl) ?_
            refine rsr (vC_e (rk_160 (hR.fr f645))) ?_
            refine RrV (x211_s (by omega) (hR.fr f645) (e645_k0) (e645_k1) (e645_em644) (e645_k2) (e645_k3) (e645_k4) ((g645.i _ _ (by decide)).trans (u49573))  (by omega)) fun v Ma647 h647 => ?_
            obtain ⟨em646, g647, e647_em646, e647_k0, e647_k1, e647_k2, e647_k3, e647_k4, p647_0⟩ := h647
            have f647 : Fr W_rp Mr Ma647 := Fr.t f645 (Fr.m g647 (by decide))
            refine rsr (cV_e rfl) ?_
            refine rsr (vC_e (rk_160 (hR.fr f647))) ?_
            refine RrV (x202_s (by omega) (hR.fr f647) (e647_k0) (e647_k1) (e647_em646) (e647_k2) (e647_k3) (e647_k4) ((g647.i _ _ (by decide)).trans ((g645.i _ _ (by decide)).trans (u49573))) (congrArg iI p571_0) (li_3) (li_6) (by omega)) fun v Ma649 h649 => ?_
            obtain ⟨em648, g649, e649_em648, e649_k0, e649_k1, e649_k2, e649_k3, e649_k4, p649_0⟩ := h649
            have f649 : Fr W_rp Mr Ma649 := Fr.t f647 (Fr.m g649 (by decide))
            refine rsr (cV_e rfl) ?_
            refine rsr (vC_e (rk_160 (hR.fr f649))) ?_
            refine RrI (x195_s (by omega) (hR.fr f649) (e649_k0) (e649_k1) (e649_em648) (e649_k2) (e649_k3) (e649_k4) ((g649.i _ _ (by decide)).trans ((g647.i _ _ (by decide)).trans ((g645.i _ _ (by decide)).trans (u49573)))) (li_59) (by omega)) fun v Ma651 h651 => ?_
            obtain ⟨rv650, em650, rfl, g651, e651_em650, e651_k0, e651_k1, e651_k2, e651_k3, e651_k4, p651_0, p651_1⟩ := h651
            have f651 : Fr W_rp Mr Ma651 := Fr.t f649 (Fr.m g651 (by decide))
            refine rsr (cI_e rfl) ?_
            refine rsr (jv_e) ?_
            exact Rs.ok (Or.inr ⟨F573, P573, f643, f651, ⟨ti573, sz642, sn642, uc642, e643_k0, e643_k1, e643_k2, e643_k3, e643_sz642, e643_sn642, e643_uc642, by omega⟩, ⟨em650, rn573, ru573, rm573, rt573, e651_k0, e651_k1, e651_em650, e651_k2, e651_k3, e651_k4, (g651.i _ _ (by decide)).trans ((g649.i _ _ (by decide)).trans ((g647.i _ _ (by decide)).trans ((g645.i _ _ (by decide)).trans (u49573)))), by omega⟩⟩)
        ·
          refine RrI (a197 (by omega) (hR.fr f571) ((g571.i _ _ (by decide)).trans (wa_51)) (lra.fr g571 (by decide)) (by omega)) fun v Nl572 hl572 => ?_
          obtain ⟨r9, rfl, hMl, hr9⟩ := hl572
          rw [hMl]
          have q9 := LcF.one hr9 hrl
          rw [q9]
          refine rsr (cI_e rfl) ?_
          refine rsr (jv_e) ?_
          try dsimp only
          refine rsr (gtI_q (w := iI ((kr (kd (i + 1))))) (rk_160 (hR.fr f571)) (e571_k1)) ?_
          refine rsr (jn_v) ?_
          refine rsr (if_neg (krI_n (k := 40) (rfl) (li_40) (hS.ok (i + 1) (by omega) (by omega)) (by unfold KdOK sgk; omega) (by decide +kernel) (by omega) (by omega))) ?_
          refine rsr (gtI_q (w := iI ((kr (kd (i + 1))))) (rk_160 (hR.fr f571)) (e571_k1)) ?_
          refine rsr (if_pos (krI_p (k := 91) (rfl) (li_91) (by omega) (by decide +kernel))) ?_
          refine rsr (vC_e (rk_160 (hR.fr f571))) ?_
          refine Rb_VV (hX _ _ (by omega) (by omega) T n m kd pl E tx ua ut mu _ _ G (pu U u [uc, (V Mr 201 u.toNat), (V Mr 200 u.toNat), (V Mr 203 u.toNat), (pl i), (V Mr 206 u.toNat), ut, 0, (V Mc 79 uc.toNat), (V Mc 80 uc.toNat), (V Mc 82 uc.toNat)]) Hl (pux X u [(0 : Int64), (tx i)]) (i + 1) e s (u + 1) (uc + 1) _ hS (hCx.fr f502 f571) ⟨e502_k0, e502_k2, e502_k3, (g502.i _ _ (by decide)).trans (qa_9), (g502.i _ _ (by decide)).trans (qa_16), e502_k1⟩ ⟨e571_k1, e571_k2, e571_k3, e571_k4, (g571.i _ _ (by decide)).trans (wa_43), (g571.i _ _ (by decide)).trans (wa_51), e571_k0, (g571.i _ _ (by decide)).trans (wa_50), p571_2⟩ ⟨(caa.fr g502 (by decide)), (raa.fr g571 (by decide)), (lca.fr g502 (by decide)), (lra.fr g571 (by decide)), (CU.add cua (by omega) (by omega) p502_1 rfl rfl), (RU.add rua (by omega) p571_1 rfl)⟩ ⟨by omega, by omega, by omega, by omega, by omega, by omega, by omega, by omega, by omega, by omega, by omega, by omega⟩ (by omega) (vs1 (hv0))) fun v Mx652 w Nx652 hx652 => ?_
          rcases hx652 with ⟨i652, e652, u652, uc652, G652, U652, X652, fl652, fr652, sc652, sr652, rw652, bd652, mv652, ag652, au652, ax652, tp652, dp652, kv652⟩ | ⟨F652, P652, fl652, fr652, tc652, tr652⟩
          ·
            have FL652 : Fr W_cp Mc Mx652 := Fr.t f502 fl652
            have FR652 : Fr W_rx Mr Nx652 := Fr.t f571 fr652
            obtain ⟨bb652_0, bb652_1, bb652_2, bb652_3, bb652_4, bb652_5, bb652_6, bb652_7, bb652_8, bb652_9, bb652_10, bb652_11⟩ := bd652
            obtain ⟨q652_12, q652_13, q652_10, q652_9, q652_16, q652_19⟩ := sc652
            obtain ⟨w652_36, w652_37, w652_38, w652_41, w652_43, w652_51, w652_53, w652_50, w652_n⟩ := sr652
            obtain ⟨ca652, ra652, lc652, lr652, cu652, ru652⟩ := rw652
            have hk653 := (hS.ok i652 (by omega) (by omega)).r
            have ku652 := KU.t (KU.us kua p502_1 g502 (by decide) (by omega)) kv652 (by omega)
            have ty654 := Tye.t (d3 := 1) ty2 ag652 tp652 (by omega)
            have du655 := DU.t (DU.r (ut := ut) (mu := mu) (c := uc) (G := G) (a := e)) ag652 au652 ax652 dp652 (by omega)
            refine rsl (cV_e rfl) ?_
            refine rsr (cV_e rfl) ?_
            refine rsl (jv_e) ?_
            refine rsl (vC_e (ck_65 (hC.fr FL652))) ?_
            by_cases c656 : ((kd i652)) = 61
            ·
              have hm657 : i652 + 1 < m := hS.more i652 (by omega) (by omega) (by omega)
              refine rsl (cV_e (a64q (by omega) hS (hC.fr FL652) (hTk.fr (WL := W_cp) FL652 (by decide)) (q652_12) (q652_13) (q652_10) (li_61) (i2 := (i652 + 1)) (by omega) (by omega))) ?_
              have hk658 := (hS.ok (i652 + 1) (by omega) (by omega)).r
              refine rsl (vC_e (ck_65 (hC.fr FL652).sI.sI)) ?_
              refine rsr (vC_e (rk_160 (hR.fr FR652))) ?_
              refine RrI (a195_61 (by omega) hS (hR.fr FR652) (hT.fr (W := W_rx) FR652 (by decide) (by decide)) (fun i a b => (Fr.lc (W := W_rx) FR652 _ (by decide) _).trans (hW i a b)) (w652_36) (w652_37) (w652_38) (w652_41) (li_61) (i2 := (i652 + 1)) (by omega) (by omega)) fun v Ma660 h660 => ?_
              obtain ⟨r659, rfl, g660, e660_k0, e660_k1, e660_k2, p660_0, p660_1⟩ := h660
              have f660 : Fr W_rx Mr Ma660 := Fr.t FR652 (Fr.m g660 (by decide))
              refine rsr (cI_e rfl) ?_
              refine rsr (vC_e (rk_160 (hR.fr f660))) ?_
              refine Rb_VV (hE _ _ (by omega) (by omega) T n m kd pl E tx ua ut mu _ _ G652 U652 Hl X652 (i652 + 1) e652 s u652 uc652 _ hS (hCx.fr (Fr.sI (by decide) (Fr.sI (by decide) FL652)) f660) ⟨(sI_nej (by decide)).trans (sI_eq), sI_eq, (sI_nej (by decide)).trans ((sI_nej (by decide)).trans (q652_10)), (sI_nej (by decide)).trans ((sI_nej (by decide)).trans (q652_9)), (sI_nej (by decide)).trans ((sI_nej (by decide)).trans (q652_16)), (sI_nej (by decide)).trans ((sI_nej (by decide)).trans (q652_19))⟩ ⟨e660_k0, e660_k1, e660_k2, (g660.i _ _ (by decide)).trans (w652_41), (g660.i _ _ (by decide)).trans (w652_43), (g660.i _ _ (by decide)).trans (w652_51), (g660.i _ _ (by decide)).trans (w652_53), (g660.i _ _ (by decide)).trans (w652_50), p660_1⟩ ⟨(ca652.fr (W := W_c0) (Fr.sI (by decide) (Fr.sI (by decide) Fr.r)) (by decide)), (ra652.fr g660 (by decide)), (lc652.fr (W := W_c0) (Fr.sI (by decide) (Fr.sI (by decide) Fr.r)) (by decide)), (lr652.fr g660 (by decide)), (cu652.fr (W := W_c0) (Fr.sI (by decide) (Fr.sI (by decide) Fr.r)) (by decide)), (ru652.fr g660 (by decide))⟩ ⟨by omega, by omega, by omega, by omega, by omega, by omega, by omega, by omega, by omega, by omega, by omega, by omega⟩ (vs2 (li_0) (hv0))) fun v Mx661 w Nx661 hx661 => ?_
              rcases hx661 with ⟨i661, e661, u661, uc661, G661, U661, X661, fl661, fr661, sc661, sr661, rw661, bd661, mv661, ag661, au661, ax661, tp661, dp661, kv661⟩ | ⟨F661, P661, fl661, fr661, tc661, tr661⟩
              ·
                have FL661 : Fr W_cp Mc Mx661 := Fr.t (Fr.sI (by decide) (Fr.sI (by decide) FL652)) fl661
                have FR661 : Fr W_rx Mr Nx661 := Fr.t f660 fr661
                obtain ⟨bb661_0, bb661_1, bb661_2, bb661_3, bb661_4, bb661_5, bb661_6, bb661_7, bb661_8, bb661_9, bb661_10, bb661_11⟩ := bd661
                obtain ⟨q661_12, q661_13, q661_10, q661_9, q661_16, q661_19⟩ := sc661
                obtain ⟨w661_36, w661_37, w661_38, w661_41, w661_43, w661_51, w661_53, w661_50, w661_n⟩ := sr661
                obtain ⟨ca661, ra661, lc661, lr661, cu661, ru661⟩ := rw661
                have hk662 := (hS.ok i661 (by omega) (by omega)).r
                have ku661 := KU.t (ku652.fr (W := W_c0) (Fr.sI (by decide) (Fr.sI (by decide) Fr.r)) (by decide)) kv661 (by omega)
                have ty663 := Tye.t (d3 := 2) ty654 ag661 tp661 (by omega)
                have du664 := DU.t du655 ag661 au661 ax661 dp661 (by omega)
                refine rsl (cV_e rfl) ?_
                refine rsr (cV_e rfl) ?_
                refine rsl (vC_e (ck_65 (hC.fr FL661))) ?_
                by_cases c665 : ((kd i661)) = 59
                ·
                  have hm666 : i661 + 1 < m := hS.more i661 (by omega) (by omega) (by omega)
                  refine rsl (cV_e (a64q (by omega) hS (hC.fr FL661) (hTk.fr (WL := W_cp) FL661 (by decide)) (q661_12) (q661_13) (q661_10) (li_59) (i2 := (i661 + 1)) (by omega) (by omega))) ?_
                  have hk667 := (hS.ok (i661 + 1) (by omega) (by omega)).r
                  refine rsl (jn_v) ?_
                  refine rsl (if_neg (eqI_n (li_1) (li_0) (by omega))) ?_
                  refine rsl (vC_e (ck_65 (hC.fr FL661).sI.sI)) ?_
                  have tb669 := Tyb.ex (dp := dp) (d := 2) (s' := s) (q := (e661 + 1)) (n1 := 0) (ut := ut) (mu := mu) (l := []) ty663 (Or.inr (Or.inr (Or.inr (Or.inr (Or.inr (Or.inl (by omega)))))) : Eff 6 u 0 2 s 0 s) (by omega) ⟨by omega, by omega⟩ (by omega)
                  have du670 := DU.set (b1 := 3) (p := 3) (q := (e661 + 1)) (u := u) (o := 6) (n1 := 0) (p1 := -2) (n3 := u) (l := []) (g := 0) du664 (by omega) (by omega) (by omega) (by omega) (fun q => absurd q (by decide)) (Int.le_of_eq (Eq.symm ((au661 0 _ (by omega)).trans ((au652 0 _ (by omega)).trans (pu_e rfl))))) ((au661 6 _ (by omega)).trans ((au652 6 _ (by omega)).trans (pu_e (by omega)))) (U3tr (ax661 0 _ (by omega)) (au661 3 _ (by omega)) (au661 10 _ (by omega)) (U3tr (ax652 0 _ (by omega)) (au652 3 _ (by omega)) (au652 10 _ (by omega)) (Or.inl (pux_e (by omega))))) (by omega) (by omega)
                  refine RlV (a105 (by omega) (hC.fr FL661).sI.sI ((sI_nej (by decide)).trans ((sI_nej (by decide)).trans (q661_9))) (congrArg iI p502_0) (li_3) (li_6) (by omega)) fun v Ma671 h671 => ?_
                  obtain ⟨g671, e671_k0, p671_0, p671_1⟩ := h671
                  have f671 : Fr W_cp Mc Ma671 := Fr.t (Fr.sI (by decide) (Fr.sI (by decide) FL661)) (Fr.m g671 (by decide))
                  refine rsl (cV_e rfl) ?_
                  refine rsl (jv_e) ?_
                  refine rsr (vC_e (rk_160 (hR.fr FR661))) ?_
                  refine RrV (a202 (by omega) (hR.fr FR661) (w661_43) ((FR661.i _ _ (by decide)).trans h49) ((FR661.i _ _ (by decide)).trans h48) (congrArg iI p571_0) (li_3) (li_6) (by omega)) fun v Ma672 h672 => ?_
                  obtain ⟨g672, e672_k0, p672_0, p672_1⟩ := h672
                  have f672 : Fr W_rx Mr Ma672 := Fr.t FR661 (Fr.m g672 (by decide))
                  refine rsr (cV_e rfl) ?_
                  refine rsr (vC_e (rk_160 (hR.fr f672))) ?_
                  refine RrI (a195_59 (by omega) hS (hR.fr f672) (hT.fr (W := W_rx) f672 (by decide) (by decide)) (fun i a b => (Fr.lc (W := W_rx) f672 _ (by decide) _).trans (hW i a b)) ((g672.i _ _ (by decide)).trans (w661_36)) ((g672.i _ _ (by decide)).trans (w661_37)) ((g672.i _ _ (by decide)).trans (w661_38)) ((g672.i _ _ (by decide)).trans (w661_41)) (li_59) (i2 := (i661 + 1)) (by omega) (by omega)) fun v Ma674 h674 => ?_
                  obtain ⟨r673, rfl, g674, e674_k0, e674_k1, e674_k2, p674_0, p674_1⟩ := h674
                  have f674 : Fr W_rx Mr Ma674 := Fr.t f672 (Fr.m g674 (by decide))
                  refine rsr (cI_e rfl) ?_
                  refine rsr (jv_e) ?_
                  exact Rs.ok (Or.inl ⟨(i661 + 1), s, Hl, ⟨(e661 + 1), u661, uc661, (pu G661 e661 [6, 0, -2, u, ut, mu, 0]), (ps U661 u 3 3 e661), X661, f671, f674, ⟨(g671.i _ _ (by decide)).trans ((sI_nej (by decide)).trans (sI_eq)), (g671.i _ _ (by decide)).trans (sI_eq), (g671.i _ _ (by decide)).trans ((sI_nej (by decide)).trans ((sI_nej (by decide)).trans (q661_10))), e671_k0, (g671.i _ _ (by decide)).trans ((sI_nej (by decide)).trans ((sI_nej (by decide)).trans (q661_16))), (g671.i _ _ (by decide)).trans ((sI_nej (by decide)).trans ((sI_nej (by decide)).trans (q661_19)))⟩, ⟨e674_k0, e674_k1, e674_k2, (g674.i _ _ (by decide)).trans ((g672.i _ _ (by decide)).trans (w661_41)), (g674.i _ _ (by decide)).trans (e672_k0), (g674.i _ _ (by decide)).trans ((g672.i _ _ (by decide)).trans (w661_51)), (g674.i _ _ (by decide)).trans ((g672.i _ _ (by decide)).trans (w661_53)), (g674.i _ _ (by decide)).trans ((g672.i _ _ (by decide)).trans (w661_50)), p674_1⟩, ⟨(CA1.em (ca661.fr (W := W_c0) (Fr.sI (by decide) (Fr.sI (by decide) Fr.r)) (by decide)) (by omega) p671_0 rfl), ((RA1.em ra661 (by omega) p672_0 rfl).fr g674 (by decide)), ((lc661.fr (W := W_c0) (Fr.sI (by decide) (Fr.sI (by decide) Fr.r)) (by decide)).fr g671 (by decide)), ((lr661.fr g672 (by decide)).fr g674 (by decide)), (CU.set (b := 3) (cu661.fr (W := W_c0) (Fr.sI (by decide) (Fr.sI (by decide) Fr.r)) (by decide)) ⟨by omega, by omega⟩ ((au661 0 _ (by omega)).trans ((au652 0 _ (by omega)).trans (pu_e rfl))) p671_1 g671 (by decide)), ((RU.set ru661 ⟨by omega, by omega⟩ p672_1 g672 (by decide)).fr g674 (by decide))⟩, ⟨by omega, by omega, by omega, by omega, by omega, by omega, by omega, by omega, by omega, by omega, by omega, by omega⟩, ⟨by omega, by omega, by omega, by omega, by omega, by omega⟩, (Ag.pu (Ag.t (Ag.t Ag.r ag652 (by omega)) ag661 (by omega)) (by omega)), (Ag.ps (Ag.t (Ag.t (Ag.pu Ag.r (by omega)) au652 (by omega)) au661 (by omega)) (by omega)), (AgL.t (AgL.t (AgL.pu AgL.r (by omega)) ax652 (by omega)) ax661 (by omega)), tb669, du670, ((ku661.fr (W := W_c0) (Fr.sI (by decide) (Fr.sI (by decide) Fr.r)) (by decide)).fr g671 (by decide)), ⟨by omega, fun _ _ _ => rfl⟩⟩⟩)
                ·
                  by_cases c675 : ((kd i661)) = 1
                  ·
                    refine rsl (cV_e (a64_1 (by omega) hS (hC.fr FL661) (hTk.fr (WL := W_cp) FL661 (by decide)) (q661_12) (q661_13) (q661_10) (li_59) (by omega))) ?_
                    refine rsl (jn_v) ?_
                    refine rsl (if_neg (eqI_n (li_1) (li_0) (by omega))) ?_
                    refine rsl (vC_e (ck_65 (hC.fr FL661).sI.sI.sI)) ?_
                    refine RlV (y105 (by omega) (hC.fr FL661).sI.sI.sI (hTk.fr (WL := W_cp) (Fr.sI (by decide) (Fr.sI (by decide) (Fr.sI (by decide) FL661))) (by decide)) ((sI_nej (by decide)).trans ((sI_nej (by decide)).trans ((sI_nej (by decide)).trans (q661_12)))) (sI_eq) ((sI_nej (by decide)).trans ((sI_nej (by decide)).trans (sI_eq))) ((sI_nej (by decide)).trans (sI_eq)) ((sI_nej (by decide)).trans ((sI_nej (by decide)).trans ((sI_nej (by decide)).trans (q661_9)))) ((sI_nej (by decide)).trans ((sI_nej (by decide)).trans ((sI_nej (by decide)).trans (q661_16)))) ((sI_nej (by decide)).trans ((sI_nej (by decide)).trans ((sI_nej (by decide)).trans (q661_19)))) (congrArg iI p502_0) (li_3) (li_6) (by omega)) fun v Ma677 h677 => ?_
                    obtain ⟨sz676, sn676, uc676, g677, e677_sz676, e677_sn676, e677_uc676, e677_k0, e677_k1, e677_k2, e677_k3, p677_0, p677_1, p677_2⟩ := h677
                    have f677 : Fr W_cp Mc Ma677 := Fr.t (Fr.sI (by decide) (Fr.sI (by decide) (Fr.sI (by decide) FL661))) (Fr.m g677 (by decide))
                    refine rsl (cV_e rfl) ?_
                    refine rsl (jv_e) ?_
                    refine rsr (vC_e (rk_160 (hR.fr FR661))) ?_
                    refine RrV (a202 (by omega) (hR.fr FR661) (w661_43) ((FR661.i _ _ (by decide)).trans h49) ((FR661.i _ _ (by decide)).trans h48) (congrArg iI p571_0) (li_3) (li_6) (by omega)) fun v Ma678 h678 => ?_
                    obtain ⟨g678, e678_k0, p678_0, p678_1⟩ := h678
                    have f678 : Fr W_rx Mr Ma678 := Fr.t FR661 (Fr.m g678 (by decide))
                    refine rsr (cV_e rfl) ?_
                    refine rsr (vC_e (rk_160 (hR.fr f678))) ?_
                    refine rsr (cI_e (a195_59_1 (by omega) hS (hR.fr f678) ((g678.i _ _ (by decide)).trans (w661_36)) ((g678.i _ _ (by decide)).trans (w661_37)) ((g678.i _ _ (by decide)).trans (w661_41)) (li_59) (by omega))) ?_
                    refine rsr (jv_e) ?_
                    exact Rs.ok (Or.inr ⟨1, ((pl i661)), f677, (Fr.sI (by decide) (Fr.sI (by decide) (Fr.m f678 (by decide)))), ⟨i661, sz676, sn676, uc676, e677_k0, e677_k1, e677_k2, e677_k3, e677_sz676, e677_sn676, e677_uc676, by omega⟩, ⟨(e661 + 1), s, u661, mu, ut, (sI_nej (by decide)).trans (sI_eq), sI_eq, (sI_nej (by decide)).trans ((sI_nej (by decide)).trans (e678_k0)), (sI_nej (by decide)).trans ((sI_nej (by decide)).trans ((g678.i _ _ (by decide)).trans (w661_51))), (sI_nej (by decide)).trans ((sI_nej (by decide)).trans ((g678.i _ _ (by decide)).trans (w661_53))), (sI_nej (by decide)).trans ((sI_nej (by decide)).trans ((g678.i _ _ (by decide)).trans ((FR661.i _ _ (by decide)).trans h48))), (sI_nej (by decide)).trans ((sI_nej (by decide)).trans ((g678.i _ _ (by decide)).trans ((FR661.i _ _ (by decide)).trans h49))), by omega⟩⟩)
                  ·
                    refine rsl (cV_e (a64_2 (by omega) hS (hC.fr FL661) (hTk.fr (WL := W_cp) FL661 (by decide)) (q661_12) (q661_13) (q661_10) (li_59) (by omega))) ?_
                    refine rsl (jn_v) ?_
                    refine rsl (if_neg (eqI_n (li_1) (li_0) (by omega))) ?_
                    refine rsl (vC_e (ck_65 (hC.fr FL661).sI.sI.sI)) ?_
                    refine RlV (y105 (by omega) (hC.fr FL661).sI.sI.sI (hTk.fr (WL := W_cp) (Fr.sI (by decide) (Fr.sI (by decide) (Fr.sI (by decide) FL661))) (by decide)) ((sI_nej (by decide)).trans ((sI_nej (by decide)).trans ((sI_nej (by decide)).trans (q661_12)))) (sI_eq) ((sI_nej (by decide)).trans ((sI_nej (by decide)).trans (sI_eq))) ((sI_nej (by decide)).trans (sI_eq)) ((sI_nej (by decide)).trans ((sI_nej (by decide)).trans ((sI_nej (by decide)).trans (q661_9)))) ((sI_nej (by decide)).trans ((sI_nej (by decide)).trans ((sI_nej (by decide)).trans (q661_16)))) ((sI_nej (by decide)).trans ((sI_nej (by decide)).trans ((sI_nej (by decide)).trans (q661_19)))) (congrArg iI p502_0) (li_3) (li_6) (by omega)) fun v Ma680 h680 => ?_
                    obtain ⟨sz679, sn679, uc679, g680, e680_sz679, e680_sn679, e680_uc679, e680_k0, e680_k1, e680_k2, e680_k3, p680_0, p680_1, p680_2⟩ := h680
                    have f680 : Fr W_cp Mc Ma680 := Fr.t (Fr.sI (by decide) (Fr.sI (by decide) (Fr.sI (by decide) FL661))) (Fr.m g680 (by decide))
                    refine rsl (cV_e rfl) ?_
                    refine rsl (jv_e) ?_
                    refine rsr (vC_e (rk_160 (hR.fr FR661))) ?_
                    refine RrV (a202 (by omega) (hR.fr FR661) (w661_43) ((FR661.i _ _ (by decide)).trans h49) ((FR661.i _ _ (by decide)).trans h48) (congrArg iI p571_0) (li_3) (li_6) (by omega)) fun v Ma681 h681 => ?_
                    obtain ⟨g681, e681_k0, p681_0, p681_1⟩ := h681
                    have f681 : Fr W_rx Mr Ma681 := Fr.t FR661 (Fr.m g681 (by decide))
                    refine rsr (cV_e rfl) ?_
                    refine rsr (vC_e (rk_160 (hR.fr f681))) ?_
                    refine rsr (cI_e (a195_59_2 (by omega) hS (hR.fr f681) ((g681.i _ _ (by decide)).trans (w661_36)) ((g681.i _ _ (by decide)).trans (w661_37)) ((g681.i _ _ (by decide)).trans (w661_41)) (li_59) (by omega))) ?_
                    refine rsr (jv_e) ?_
                    exact Rs.ok (Or.inr ⟨2, ((pl i661)), f680, (Fr.sI (by decide) (Fr.sI (by decide) (Fr.m f681 (by decide)))), ⟨i661, sz679, sn679, uc679, e680_k0, e680_k1, e680_k2, e680_k3, e680_sz679, e680_sn679, e680_uc679, by omega⟩, ⟨(e661 + 1), s, u661, mu, ut, (sI_nej (by decide)).trans (sI_eq), sI_eq, (sI_nej (by decide)).trans ((sI_nej (by decide)).trans (e681_k0)), (sI_nej (by decide)).trans ((sI_nej (by decide)).trans ((g681.i _ _ (by decide)).trans (w661_51))), (sI_nej (by decide)).trans ((sI_nej (by decide)).trans ((g681.i _ _ (by decide)).trans (w661_53))), (sI_nej (by decide)).trans ((sI_nej (by decide)).trans ((g681.i _ _ (by decide)).trans ((FR661.i _ _ (by decide)).trans h48))), (sI_nej (by decide)).trans ((sI_nej (by decide)).trans ((g681.i _ _ (by decide)).trans ((FR661.i _ _ (by decide)).trans h49))), by omega⟩⟩)
              ·
                have FL661 : Fr W_cp Mc Mx661 := Fr.t (Fr.sI (by decide) (Fr.sI (by decide) FL652)) fl661
                have FR661 : Fr W_rp Mr Nx661 := Fr.t (Fr.m f660 W_rx_p) fr661
                obtain ⟨ti661, tz661, tn661, tu661, t13661, t10661, t11661, t12661, t9661, t16661, t19661, tb661⟩ := tc661
                obtain ⟨re661, rn661, ru661, rm661, rt661, u41661, u42661, u43661, u51661, u53661, u48661, u49661, ub661⟩ := tr661
                refine rsl (cV_e rfl) ?_
                refine rsr (cV_e rfl) ?_
                refine rsl (vC_e (ck_65 (hC.fr FL661))) ?_
                refine RlV (y64 (by omega) (hC.fr FL661) (hTk.fr (WL := W_cp) FL661 (by decide)) (t12661) (t13661) (t10661) (t11661) (t9661) (t16661) (t19661) (li_59) (by omega)) fun v Ma683 h683 => ?_
                obtain ⟨sz682, sn682, uc682, g683, e683_sz682, e683_sn682, e683_uc682, e683_k0, e683_k1, e683_k2, e683_k3, p683_0, p683_1, p683_2⟩ := h683
                have f683 : Fr W_cp Mc Ma683 := Fr.t FL661 (Fr.m g683 (by decide))
                refine rsl (cV_e rfl) ?_
                refine rsl (jn_v) ?_
                refine rsl (if_neg (eqI_n (li_1) (li_0) (by omega))) ?_
                refine rsl (vC_e (ck_65 (hC.fr f683))) ?_
                refine RlV (y105 (by omega) (hC.fr f683) (hTk.fr (WL := W_cp) f683 (by decide)) (e683_k3) (e683_k0) (e683_k1) (e683_k2) (e683_sz682) (e683_sn682) (e683_uc682) (congrArg iI p502_0) (li_3) (li_6) (by omega)) fun v Ma685 h685 => ?_
                obtain ⟨sz684, sn684, uc684, g685, e685_sz684, e685_sn684, e685_uc684, e685_k0, e685_k1, e685_k2, e685_k3, p685_0, p685_1, p685_2⟩ := h685
                have f685 : Fr W_cp Mc Ma685 := Fr.t f683 (Fr.m g685 (by decide))
                refine rsl (cV_e rfl) ?_
                refine rsl (jv_e) ?_
                refine rsr (vC_e (rk_160 (hR.fr FR661))) ?_
                refine RrV (x202_s (by omega) (hR.fr FR661) (u41661) (u42661) (u43661) (u51661) (u53661) (u48661) (u49661) (congrArg iI p571_0) (li_3) (li_6) (by omega)) fun v Ma687 h687 => ?_
                obtain ⟨em686, g687, e687_em686, e687_k0, e687_k1, e687_k2, e687_k3, e687_k4, p687_0⟩ := h687
                have f687 : Fr W_rp Mr Ma687 := Fr.t FR661 (Fr.m g687 (by decide))
                refine rsr (cV_e rfl) ?_
                refine rsr (vC_e (rk_160 (hR.fr f687))) ?_
                refine RrI (x195_s (by omega) (hR.fr f687) (e687_k0) (e687_k1) (e687_em686) (e687_k2) (e687_k3) (e687_k4) ((g687.i _ _ (by decide)).trans (u49661)) (li_59) (by omega)) fun v Ma689 h689 => ?_
                obtain ⟨rv688, em688, rfl, g689, e689_em688, e689_k0, e689_k1, e689_k2, e689_k3, e689_k4, p689_0, p689_1⟩ := h689
                have f689 : Fr W_rp Mr Ma689 := Fr.t f687 (Fr.m g689 (by decide))
                refine rsr (cI_e rfl) ?_
                refine rsr (jv_e) ?_
                exact Rs.ok (Or.inr ⟨F661, P661, f685, f689, ⟨ti661, sz684, sn684, uc684, e685_k0, e685_k1, e685_k2, e685_k3, e685_sz684, e685_sn684, e685_uc684, by omega⟩, ⟨em688, rn661, ru661, rm661, rt661, e689_k0, e689_k1, e689_em688, e689_k2, e689_k3, e689_k4, (g689.i _ _ (by decide)).trans ((g687.i _ _ (by decide)).trans (u49661)), by omega⟩⟩)
            ·
              by_cases c690 : ((kd i652)) = 1
              ·
                refine rsl (cV_e (a64_1 (by omega) hS (hC.fr FL652) (hTk.fr (WL := W_cp) FL652 (by decide)) (q652_12) (q652_13) (q652_10) (li_61) (by omega))) ?_
                refine rsl (vC_e (ck_65 (hC.fr FL652).sI.sI.sI)) ?_
                refine RlV (y99_0 (by omega) (hC.fr FL652).sI.sI.sI (hTk.fr (WL := W_cp) (Fr.sI (by decide) (Fr.sI (by decide) (Fr.sI (by decide) FL652))) (by decide)) ((sI_nej (by decide)).trans ((sI_nej (by decide)).trans ((sI_nej (by decide)).trans (q652_12)))) (sI_eq) ((sI_nej (by decide)).trans ((sI_nej (by decide)).trans (sI_eq))) ((sI_nej (by decide)).trans (sI_eq)) ((sI_nej (by decide)).trans ((sI_nej (by decide)).trans ((sI_nej (by decide)).trans (q652_9)))) ((sI_nej (by decide)).trans ((sI_nej (by decide)).trans ((sI_nej (by decide)).trans (q652_16)))) ((sI_nej (by decide)).trans ((sI_nej (by decide)).trans ((sI_nej (by decide)).trans (q652_19)))) (li_0) (hv0) (by omega)) fun v Ma692 h692 => ?_
                obtain ⟨sz691, sn691, uc691, g692, e692_sz691, e692_sn691, e692_uc691, e692_k0, e692_k1, e692_k2, e692_k3, p692_0, p692_1, p692_2⟩ := h692
                have f692 : Fr W_cp Mc Ma692 := Fr.t (Fr.sI (by decide) (Fr.sI (by decide) (Fr.sI (by decide) FL652))) (Fr.m g692 (by decide))
                refine rsl (cV_e rfl) ?_
                refine rsl (vC_e (ck_65 (hC.fr f692))) ?_
                refine RlV (y64 (by omega) (hC.fr f692) (hTk.fr (WL := W_cp) f692 (by decide)) (e692_k3) (e692_k0) (e692_k1) (e692_k2) (e692_sz691) (e692_sn691) (e692_uc691) (li_59) (by omega)) fun v Ma694 h694 => ?_
                obtain ⟨sz693, sn693, uc693, g694, e694_sz693, e694_sn693, e694_uc693, e694_k0, e694_k1, e694_k2, e694_k3, p694_0, p694_1, p694_2⟩ := h694
                have f694 : Fr W_cp Mc Ma694 := Fr.t f692 (Fr.m g694 (by decide))
                refine rsl (cV_e rfl) ?_
                refine rsl (jn_v) ?_
                refine rsl (if_neg (eqI_n (li_1) (li_0) (by omega))) ?_
                refine rsl (vC_e (ck_65 (hC.fr f694))) ?_
                refine RlV (y105 (by omega) (hC.fr f694) (hTk.fr (WL := W_cp) f694 (by decide)) (e694_k3) (e694_k0) (e694_k1) (e694_k2) (e694_sz693) (e694_sn693) (e694_uc693) (congrArg iI p502_0) (li_3) (li_6) (by omega)) fun v Ma696 h696 => ?_
                obtain ⟨sz695, sn695, uc695, g696, e696_sz695, e696_sn695, e696_uc695, e696_k0, e696_k1, e696_k2, e696_k3, p696_0, p696_1, p696_2⟩ := h696
                have f696 : Fr W_cp Mc Ma696 := Fr.t f694 (Fr.m g696 (by decide))
                refine rsl (cV_e rfl) ?_
                refine rsl (jv_e) ?_
                refine rsr (vC_e (rk_160 (hR.fr FR652))) ?_
                refine rsr (cI_e (a195_61_1 (by omega) hS (hR.fr FR652) (w652_36) (w652_37) (w652_41) (li_61) (by omega))) ?_
                refine rsr (vC_e (rk_160 (hR.fr FR652).sI.sI)) ?_
                refine RrV (x211_s (by omega) (hR.fr FR652).sI.sI ((sI_nej (by decide)).trans (sI_eq)) (sI_eq) ((sI_nej (by decide)).trans ((sI_nej (by decide)).trans (w652_43))) ((sI_nej (by decide)).trans ((sI_nej (by decide)).trans (w652_51))) ((sI_nej (by decide)).trans ((sI_nej (by decide)).trans (w652_53))) ((sI_nej (by decide)).trans ((sI_nej (by decide)).trans ((FR652.i _ _ (by decide)).trans h48))) ((sI_nej (by decide)).trans ((sI_nej (by decide)).trans ((FR652.i _ _ (by decide)).trans h49)))  (by omega)) fun v Ma698 h698 => ?_
                obtain ⟨em697, g698, e698_em697, e698_k0, e698_k1, e698_k2, e698_k3, e698_k4, p698_0⟩ := h698
                have f698 : Fr W_rp Mr Ma698 := Fr.t (Fr.sI (by decide) (Fr.sI (by decide) (Fr.m FR652 (by decide)))) (Fr.m g698 (by decide))
                refine rsr (cV_e rfl) ?_
                refine rsr (vC_e (rk_160 (hR.fr f698))) ?_
                refine RrV (x202_s (by omega) (hR.fr f698) (e698_k0) (e698_k1) (e698_em697) (e698_k2) (e698_k3) (e698_k4) ((g698.i _ _ (by decide)).trans ((sI_nej (by decide)).trans ((sI_nej (by decide)).trans ((FR652.i _ _ (by decide)).trans h49)))) (congrArg iI p571_0) (li_3) (li_6) (by omega)) fun v Ma700 h700 => ?_
                obtain ⟨em699, g700, e700_em699, e700_k0, e700_k1, e700_k2, e700_k3, e700_k4, p700_0⟩ := h700
                have f700 : Fr W_rp Mr Ma700 := Fr.t f698 (Fr.m g700 (by decide))
                refine rsr (cV_e rfl) ?_
                refine rsr (vC_e (rk_160 (hR.fr f700))) ?_
                refine RrI (x195_s (by omega) (hR.fr f700) (e700_k0) (e700_k1) (e700_em699) (e700_k2) (e700_k3) (e700_k4) ((g700.i _ _ (by decide)).trans ((g698.i _ _ (by decide)).trans ((sI_nej (by decide)).trans ((sI_nej (by decide)).trans ((FR652.i _ _ (by decide)).trans h49))))) (li_59) (by omega)) fun v Ma702 h702 => ?_
                obtain ⟨rv701, em701, rfl, g702, e702_em701, e702_k0, e702_k1, e702_k2, e702_k3, e702_k4, p702_0, p702_1⟩ := h702
                have f702 : Fr W_rp Mr Ma702 := Fr.t f700 (Fr.m g702 (by decide))
                refine rsr (cI_e rfl) ?_
                refine rsr (jv_e) ?_
                exact Rs.ok (Or.inr ⟨1, ((pl i652)), f696, f702, ⟨i652, sz695, sn695, uc695, e696_k0, e696_k1, e696_k2, e696_k3, e696_sz695, e696_sn695, e696_uc695, by omega⟩, ⟨em701, s, u652, mu, ut, e702_k0, e702_k1, e702_em701, e702_k2, e702_k3, e702_k4, (g702.i _ _ (by decide)).trans ((g700.i _ _ (by decide)).trans ((g698.i _ _ (by decide)).trans ((sI_nej (by decide)).trans ((sI_nej (by decide)).trans ((FR652.i _ _ (by decide)).trans h49))))), by omega⟩⟩)
              ·
                refine rsl (cV_e (a64_2 (by omega) hS (hC.fr FL652) (hTk.fr (WL := W_cp) FL652 (by decide)) (q652_12) (q652_13) (q652_10) (li_61) (by omega))) ?_
                refine rsl (vC_e (ck_65 (hC.fr FL652).sI.sI.sI)) ?_
                refine RlV (y99_0 (by omega) (hC.fr FL652).sI.sI.sI (hTk.fr (WL := W_cp) (Fr.sI (by decide) (Fr.sI (by decide) (Fr.sI (by decide) FL652))) (by decide)) ((sI_nej (by decide)).trans ((sI_nej (by decide)).trans ((sI_nej (by decide)).trans (q652_12)))) (sI_eq) ((sI_nej (by decide)).trans ((sI_nej (by decide)).trans (sI_eq))) ((sI_nej (by decide)).trans (sI_eq)) ((sI_nej (by decide)).trans ((sI_nej (by decide)).trans ((sI_nej (by decide)).trans (q652_9)))) ((sI_nej (by decide)).trans ((sI_nej (by decide)).trans ((sI_nej (by decide)).trans (q652_16)))) ((sI_nej (by decide)).trans ((sI_nej (by decide)).trans ((sI_nej (by decide)).trans (q652_19)))) (li_0) (hv0) (by omega)) fun v Ma704 h704 => ?_
                obtain ⟨sz703, sn703, uc703, g704, e704_sz703, e704_sn703, e704_uc703, e704_k0, e704_k1, e704_k2, e704_k3, p704_0, p704_1, p704_2⟩ := h704
                have f704 : Fr W_cp Mc Ma704 := Fr.t (Fr.sI (by decide) (Fr.sI (by decide) (Fr.sI (by decide) FL652))) (Fr.m g704 (by decide))
                refine rsl (cV_e rfl) ?_
                refine rsl (vC_e (ck_65 (hC.fr f704))) ?_
                refine RlV (y64 (by omega) (hC.fr f704) (hTk.fr (WL := W_cp) f704 (by decide)) (e704_k3) (e704_k0) (e704_k1) (e704_k2) (e704_sz703) (e704_sn703) (e704_uc703) (li_59) (by omega)) fun v Ma706 h706 => ?_
                obtain ⟨sz705, sn705, uc705, g706, e706_sz705, e706_sn705, e706_uc705, e706_k0, e706_k1, e706_k2, e706_k3, p706_0, p706_1, p706_2⟩ := h706
                have f706 : Fr W_cp Mc Ma706 := Fr.t f704 (Fr.m g706 (by decide))
                refine rsl (cV_e rfl) ?_
                refine rsl (jn_v) ?_
                refine rsl (if_neg (eqI_n (li_1) (li_0) (by omega))) ?_
                refine rsl (vC_e (ck_65 (hC.fr f706))) ?_
                refine RlV (y105 (by omega) (hC.fr f706) (hTk.fr (WL := W_cp) f706 (by decide)) (e706_k3) (e706_k0) (e706_k1) (e706_k2) (e706_sz705) (e706_sn705) (e706_uc705) (congrArg iI p502_0) (li_3) (li_6) (by omega)) fun v Ma708 h708 => ?_
                obtain ⟨sz707, sn707, uc707, g708, e708_sz707, e708_sn707, e708_uc707, e708_k0, e708_k1, e708_k2, e708_k3, p708_0, p708_1, p708_2⟩ := h708
                have f708 : Fr W_cp Mc Ma708 := Fr.t f706 (Fr.m g708 (by decide))
                refine rsl (cV_e rfl) ?_
                refine rsl (jv_e) ?_
                refine rsr (vC_e (rk_160 (hR.fr FR652))) ?_
                refine rsr (cI_e (a195_61_2 (by omega) hS (hR.fr FR652) (w652_36) (w652_37) (w652_41) (li_61) (by omega))) ?_
                refine rsr (vC_e (rk_160 (hR.fr FR652).sI.sI)) ?_
                refine RrV (x211_s (by omega) (hR.fr FR652).sI.sI ((sI_nej (by decide)).trans (sI_eq)) (sI_eq) ((sI_nej (by decide)).trans ((sI_nej (by decide)).trans (w652_43))) ((sI_nej (by decide)).trans ((sI_nej (by decide)).trans (w652_51))) ((sI_nej (by decide)).trans ((sI_nej (by decide)).trans (w652_53))) ((sI_nej (by decide)).trans ((sI_nej (by decide)).trans ((FR652.i _ _ (by decide)).trans h48))) ((sI_nej (by decide)).trans ((sI_nej (by decide)).trans ((FR652.i _ _ (by decide)).trans h49)))  (by omega)) fun v Ma710 h710 => ?_
                obtain ⟨em709, g710, e710_em709, e710_k0, e710_k1, e710_k2, e710_k3, e710_k4, p710_0⟩ := h710
                have f710 : Fr W_rp Mr Ma710 := Fr.t (Fr.sI (by decide) (Fr.sI (by decide) (Fr.m FR652 (by decide)))) (Fr.m g710 (by decide))
                refine rsr (cV_e rfl) ?_
                refine rsr (vC_e (rk_160 (hR.fr f710))) ?_
                refine RrV (x202_s (by omega) (hR.fr f710) (e710_k0) (e710_k1) (e710_em709) (e710_k2) (e710_k3) (e710_k4) ((g710.i _ _ (by decide)).trans ((sI_nej (by decide)).trans ((sI_nej (by decide)).trans ((FR652.i _ _ (by decide)).trans h49)))) (congrArg iI p571_0) (li_3) (li_6) (by omega)) fun v Ma712 h712 => ?_
                obtain ⟨em711, g712, e712_em711, e712_k0, e712_k1, e712_k2, e712_k3, e712_k4, p712_0⟩ := h712
                have f712 : Fr W_rp Mr Ma712 := Fr.t f710 (Fr.m g712 (by decide))
                refine rsr (cV_e rfl) ?_
                refine rsr (vC_e (rk_160 (hR.fr f712))) ?_
                refine RrI (x195_s (by omega) (hR.fr f712) (e712_k0) (e712_k1) (e712_em711) (e712_k2) (e712_k3) (e712_k4) ((g712.i _ _ (by decide)).trans ((g710.i _ _ (by decide)).trans ((sI_nej (by decide)).trans ((sI_nej (by decide)).trans ((FR652.i _ _ (by decide)).trans h49))))) (li_59) (by omega)) fun v Ma714 h714 => ?_
                obtain ⟨rv713, em713, rfl, g714, e714_em713, e714_k0, e714_k1, e714_k2, e714_k3, e714_k4, p714_0, p714_1⟩ := h714
                have f714 : Fr W_rp Mr Ma714 := Fr.t f712 (Fr.m g714 (by decide))
                refine rsr (cI_e rfl) ?_
                refine rsr (jv_e) ?_
                exact Rs.ok (Or.inr ⟨2, ((pl i652)), f708, f714, ⟨i652, sz707, sn707, uc707, e708_k0, e708_k1, e708_k2, e708_k3, e708_sz707, e708_sn707, e708_uc707, by omega⟩, ⟨em713, s, u652, mu, ut, e714_k0, e714_k1, e714_em713, e714_k2, e714_k3, e714_k4, (g714.i _ _ (by decide)).trans ((g712.i _ _ (by decide)).trans ((g710.i _ _ (by decide)).trans ((sI_nej (by decide)).trans ((sI_nej (by decide)).trans ((FR652.i _ _ (by decide)).trans h49))))), by omega⟩⟩)
          ·
            have FL652 : Fr W_cp Mc Mx652 := Fr.t f502 fl652
            have FR652 : Fr W_rp Mr Nx652 := Fr.t (Fr.m f571 W_rx_p) fr652
            obtain ⟨ti652, tz652, tn652, tu652, t13652, t10652, t11652, t12652, t9652, t16652, t19652, tb652⟩ := tc652
            obtain ⟨re652, rn652, ru652, rm652, rt652, u41652, u42652, u43652, u51652, u53652, u48652, u49652, ub652⟩ := tr652
            refine rsl (cV_e rfl) ?_
            refine rsr (cV_e rfl) ?_
            refine rsl (jv_e) ?_
            refine rsl (vC_e (ck_65 (hC.fr FL652))) ?_
            refine RlV (y64 (by omega) (hC.fr FL652) (hTk.fr (WL := W_cp) FL652 (by decide)) (t12652) (t13652) (t10652) (t11652) (t9652) (t16652) (t19652) (li_61) (by omega)) fun v Ma716 h716 => ?_
            obtain ⟨sz715, sn715, uc715, g716, e716_sz715, e716_sn715, e716_uc715, e716_k0, e716_k1, e716_k2, e716_k3, p716_0, p716_1, p716_2⟩ := h716
            have f716 : Fr W_cp Mc Ma716 := Fr.t FL652 (Fr.m g716 (by decide))
            refine rsl (cV_e rfl) ?_
            refine rsl (vC_e (ck_65 (hC.fr f716))) ?_
            refine RlV (y99_0 (by omega) (hC.fr f716) (hTk.fr (WL := W_cp) f716 (by decide)) (e716_k3) (e716_k0) (e716_k1) (e716_k2) (e716_sz715) (e716_sn715) (e716_uc715) (li_0) (hv0) (by omega)) fun v Ma718 h718 => ?_
            obtain ⟨sz717, sn717, uc717, g718, e718_sz717, e718_sn717, e718_uc717, e718_k0, e718_k1, e718_k2, e718_k3, p718_0, p718_1, p718_2⟩ := h718
            have f718 : Fr W_cp Mc Ma718 := Fr.t f716 (Fr.m g718 (by decide))
            refine rsl (cV_e rfl) ?_
            refine rsl (vC_e (ck_65 (hC.fr f718))) ?_
            refine RlV (y64 (by omega) (hC.fr f718) (hTk.fr (WL := W_cp) f718 (by decide)) (e718_k3) (e718_k0) (e718_k1) (e718_k2) (e718_sz717) (e718_sn717) (e718_uc717) (li_59) (by omega)) fun v Ma720 h720 => ?_
            obtain ⟨sz719, sn719, uc719, g720, e720_sz719, e720_sn719, e720_uc719, e720_k0, e720_k1, e720_k2, e720_k3, p720_0, p720_1, p720_2⟩ := h720
            have f720 : Fr W_cp Mc Ma720 := Fr.t f718 (Fr.m g720 (by decide))
            refine rsl (cV_e rfl) ?_
            refine rsl (jn_v) ?_
            refine rsl (if_neg (eqI_n (li_1) (li_0) (by omega))) ?_
            refine rsl (vC_e (ck_65 (hC.fr f720))) ?_
            refine RlV (y105 (by omega) (hC.fr f720) (hTk.fr (WL := W_cp) f720 (by decide)) (e720_k3) (e720_k0) (e720_k1) (e720_k2) (e720_sz719) (e720_sn719) (e720_uc719) (congrArg iI p502_0) (li_3) (li_6) (by omega)) fun v Ma722 h722 => ?_
            obtain ⟨sz721, sn721, uc721, g722, e722_sz721, e722_sn721, e722_uc721, e722_k0, e722_k1, e722_k2, e722_k3, p722_0, p722_1, p722_2⟩ := h722
            have f722 : Fr W_cp Mc Ma722 := Fr.t f720 (Fr.m g722 (by decide))
            refine rsl (cV_e rfl) ?_
            refine rsl (jv_e) ?_
            refine rsr (vC_e (rk_160 (hR.fr FR652))) ?_
            refine RrI (x195_s (by omega) (hR.fr FR652) (u41652) (u42652) (u43652) (u51652) (u53652) (u48652) (u49652) (li_61) (by omega)) fun v Ma724 h724 => ?_
            obtain ⟨rv723, em723, rfl, g724, e724_em723, e724_k0, e724_k1, e724_k2, e724_k3, e724_k4, p724_0, p724_1⟩ := h724
            have f724 : Fr W_rp Mr Ma724 := Fr.t FR652 (Fr.m g724 (by decide))
            refine rsr (cI_e rfl) ?_
            refine rsr (vC_e (rk_160 (hR.fr f724))) ?_
            refine RrV (x211_s (by omega) (hR.fr f724) (e724_k0) (e724_k1) (e724_em723) (e724_k2) (e724_k3) (e724_k4) ((g724.i _ _ (by decide)).trans (u49652))  (by omega)) fun v Ma726 h726 => ?_
            obtain ⟨em725, g726, e726_em725, e726_k0, e726_k1, e726_k2, e726_k3, e726_k4, p726_0⟩ := h726
            have f726 : Fr W_rp Mr Ma726 := Fr.t f724 (Fr.m g726 (by decide))
            refine rsr (cV_e rfl) ?_
            refine rsr (vC_e (rk_160 (hR.fr f726))) ?_
            refine RrV (x202_s (by omega) (hR.fr f726) (e726_k0) (e726_k1) (e726_em725) (e726_k2) (e726_k3) (e726_k4) ((g726.i _ _ (by decide)).trans ((g724.i _ _ (by decide)).trans (u49652))) (congrArg iI p571_0) (li_3) (li_6) (by omega)) fun v Ma728 h728 => ?_
            obtain ⟨em727, g728, e728_em727, e728_k0, e728_k1, e728_k2, e728_k3, e728_k4, p728_0⟩ := h728
            have f728 : Fr W_rp Mr Ma728 := Fr.t f726 (Fr.m g728 (by decide))
            refine rsr (cV_e rfl) ?_
            refine rsr (vC_e (rk_160 (hR.fr f728))) ?_
            refine RrI (x195_s (by omega) (hR.fr f728) (e728_k0) (e728_k1) (e728_em727) (e728_k2) (e728_k3) (e728_k4) ((g728.i _ _ (by decide)).trans ((g726.i _ _ (by decide)).trans ((g724.i _ _ (by decide)).trans (u49652)))) (li_59) (by omega)) fun v Ma730 h730 => ?_
            obtain ⟨rv729, em729, rfl, g730, e730_em729, e730_k0, e730_k1, e730_k2, e730_k3, e730_k4, p730_0, p730_1⟩ := h730
            have f730 : Fr W_rp Mr Ma730 := Fr.t f728 (Fr.m g730 (by decide))
            refine rsr (cI_e rfl) ?_
            refine rsr (jv_e) ?_
            exact Rs.ok (Or.inr ⟨F652, P652, f722, f730, ⟨ti652, sz721, sn721, uc721, e722_k0, e722_k1, e722_k2, e722_k3, e722_sz721, e722_sn721, e722_uc721, by omega⟩, ⟨em729, rn652, ru652, rm652, rt652, e730_k0, e730_k1, e730_em729, e730_k2, e730_k3, e730_k4, (g730.i _ _ (by decide)).trans ((g728.i _ _ (by decide)).trans ((g726.i _ _ (by decide)).trans ((g724.i _ _ (by decide)).trans (u49652)))), by omega⟩⟩)
      · refine rsl (if_neg (eqI_n (rfl) (li_91) (by omega))) ?_
        refine rsl (jv_e) ?_
        refine rsl (jn_v) ?_
        refine rsl (if_pos (eqI_p (li_0) (li_0) (by omega))) ?_
        refine rsl (jv_e) ?_
        refine rsl (vC_e (ck_65 (hC.fr f502))) ?_
        by_cases c731 : ((kd (i + 1))) = 61
        ·
          have hm732 : (i + 1) + 1 < m := hS.more (i + 1) (by omega) (by omega) (by omega)
          refine rsl (cV_e (a64q (by omega) hS (hC.fr f502) (hTk.fr (WL := W_cp) f502 (by decide)) (e502_k0) (e502_k2) (e502_k3) (li_61) (i2 := (i + 2)) (by omega) (by omega))) ?_
          have hk733 := (hS.ok (i + 2) (by omega) (by omega)).r
          refine rsl (vC_e (ck_65 (hC.fr f502).sI.sI)) ?_
          refine rsr (gtI_q (w := iI ((kr (kd i)))) (rk_160 hR) (wa_36)) ?_
          refine rsr (jn_v) ?_
          refine rsr (swI_c) ?_
          refine rsr (if_neg (krI_n (k := 215) (rfl) (li_416) (hS.ok i (by omega) (by omega)) (by unfold KdOK sgk; omega) (by decide +kernel) (by omega) (by omega))) ?_
          refine rsr (swI_c) ?_
          refine rsr (if_neg (krI_n (k := 216) (rfl) (li_417) (hS.ok i (by omega) (by omega)) (by unfold KdOK sgk; omega) (by decide +kernel) (by omega) (by omega))) ?_
          refine rsr (swI_c) ?_
          refine rsr (if_neg (krI_n (k := 217) (rfl) (li_418) (hS.ok i (by omega) (by omega)) (by unfold KdOK sgk; omega) (by decide +kernel) (by omega) (by omega))) ?_
          refine rsr (swI_c) ?_
          refine rsr (if_neg (krI_n (k := 218) (rfl) (li_419) (hS.ok i (by omega) (by omega)) (by unfold KdOK sgk; omega) (by decide +kernel) (by omega) (by omega))) ?_
          refine rsr (swI_c) ?_
          refine rsr (if_neg (krI_n (k := 219) (rfl) (li_420) (hS.ok i (by omega) (by omega)) (by unfold KdOK sgk; omega) (by decide +kernel) (by omega) (by omega))) ?_
          refine rsr (swI_c) ?_
          refine rsr (if_neg (krI_n (k := 220) (rfl) (li_421) (hS.ok i (by omega) (by omega)) (by unfold KdOK sgk; omega) (by decide +kernel) (by omega) (by omega))) ?_
          refine rsr (swI_c) ?_
          refine rsr (if_neg (krI_n (k := 221) (rfl) (li_422) (hS.ok i (by omega) (by omega)) (by unfold KdOK sgk; omega) (by decide +kernel) (by omega) (by omega))) ?_
          refine rsr (swI_c) ?_
          refine rsr (if_neg (krI_n (k := 222) (rfl) (li_423) (hS.ok i (by omega) (by omega)) (by unfold KdOK sgk; omega) (by decide +kernel) (by omega) (by omega))) ?_
          refine rsr (swI_n) ?_
          refine rsr (gtI_q (w := iI ((kr (kd i)))) (rk_160 hR) (wa_36)) ?_
          refine rsr (jn_v) ?_
          refine rsr (if_pos (krI_p (k := 3) (rfl) (li_1) (by omega) (by decide +kernel))) ?_
          refine rsr (jv_e) ?_
          refine rsr (vC_e (rk_160 hR)) ?_
          refine rsr (cI_e (ar193_p (by omega) hS hR (wa_36) (wa_37) (wa_41) (li_1) (by omega))) ?_
          refine rsr (if_neg (eqI_n (rfl) (li_0) (by omega))) ?_
          refine rsr (vC_e (rk_160 hR)) ?_
          refine Rs_cVr ?_ (fun v M w N h => rs1 jv_e (Rt.ok h))
          obtain ⟨d2, rfl⟩ : ∃ e, d2 = e + 1 := ⟨d2 - 1, by omega⟩
          rw [r217]; unfold b217; rw [aR_e, aZ_e]; unfold c217
          refine rsr (vC_e (rk_160 hR)) ?_
          refine RrI (a201_u (by omega) hS hR (hT.fr (W := W_rx) Fr.r (by decide) (by decide)) (fun i a b => (Fr.lc (W := W_rx) Fr.r _ (by decide) _).trans (hW i a b)) (wa_36) (wa_37) (wa_38) (wa_41) (h49) (wa_53) wa_n (by omega)) fun v Ma735 h735 => ?_
          obtain ⟨r734, rfl, g735, e735_k0, e735_k1, e735_k2, e735_k3, e735_k4, p735_0, p735_1, p735_2⟩ := h735
          have f735 : Fr W_rx Mr Ma735 := Fr.t Fr.r (Fr.m g735 (by decide))
          refine rsr (cI_e rfl) ?_
          refine rsr (gtI_q (w := iI 0) (rk_160 (hR.fr f735)) (e735_k4)) ?_
          refine rsr (if_pos (eqI_p (rfl) (li_0) (by omega))) ?_
          refine rsr (gtP_q (w := some 202) (rk_160 (hR.fr f735)) (rf_56 (hR.fr f735))) ?_
          refine rsr (alL_q (n := 2000) (z := u) (w := (0 : Int64)) (rk_202 (hR.fr f735)) (congrArg iI p735_0) (by omega) (p735_1.2.2.2.1)) ?_
          refine rsr (jn_v) ?_
          refine rsr (if_pos (lgc_p (rfl) (rfl) rfl)) ?_
          refine rsr (gtP_q (w := some 204) (rk_160 (hR.fr f735)) (rf_58 (hR.fr f735))) ?_
          refine rsr (alL_q (n := 2000) (z := u) (w := (tx i)) (rk_204 (hR.fr f735)) (congrArg iI p735_0) (by omega) (p735_1.2.2.2.2.2.1)) ?_
          refine rsr (vC_e (rk_160 (hR.fr f735))) ?_
          obtain ⟨rl, hrl⟩ : ∃ r, LcF Hl s (tx i) r := by have q := LcF_ex (Hl := Hl) (y := (tx i)) s.toNat; rw [show ((s.toNat : Nat) : Int) = s by omega] at q; exact q
          have brl := hrl.bd
          by_cases crl : rl = -1
          ·
            subst crl
            refine RrI (a197 (by omega) (hR.fr f735) ((g735.i _ _ (by decide)).trans (wa_51)) (lra.fr g735 (by decide)) (by omega)) fun v Nl736 hl736 => ?_
            obtain ⟨r9, rfl, hMl, hr9⟩ := hl736
            rw [hMl]
            have q9 := LcF.one hr9 hrl
            rw [q9]
            refine rsr (cI_e rfl) ?_
            refine rsr (jv_e) ?_
            try dsimp only
            refine rsr (gtI_q (w := iI ((kr (kd (i + 1))))) (rk_160 (hR.fr f735)) (e735_k1)) ?_
            refine rsr (jn_v) ?_
            refine rsr (if_neg (krI_n (k := 40) (rfl) (li_40) (hS.ok (i + 1) (by omega) (by omega)) (by unfold KdOK sgk; omega) (by decide +kernel) (by omega) (by omega))) ?_
            refine rsr (gtI_q (w := iI ((kr (kd (i + 1))))) (rk_160 (hR.fr f735)) (e735_k1)) ?_
            refine rsr (if_neg (krI_n (k := 91) (rfl) (li_91) (hS.ok (i + 1) (by omega) (by omega)) (by unfold KdOK sgk; omega) (by decide +kernel) (by omega) (by omega))) ?_
            refine rsr (vC_e (rk_160 (hR.fr f735))) ?_
            refine RrI (a195_61 (by omega) hS (hR.fr f735) (hT.fr (W := W_rx) f735 (by decide) (by decide)) (fun i a b => (Fr.lc (W := W_rx) f735 _ (by decide) _).trans (hW i a b)) (e735_k1) (e735_k2) (e735_k3) (e735_k4) (li_61) (i2 := (i + 2)) (by omega) (by omega)) fun v Ma738 h738 => ?_
            obtain ⟨r737, rfl, g738, e738_k0, e738_k1, e738_k2, p738_0, p738_1⟩ := h738
            have f738 : Fr W_rx Mr Ma738 := Fr.t f735 (Fr.m g738 (by decide))
            refine rsr (cI_e rfl) ?_
            refine rsr (if_neg (eqI_n (congrArg iI p738_0) (li_0) (by omega))) ?_
            refine rsr (jn_v) ?_
            refine rsr (if_pos (lsI_p (congrArg iI (if_pos rfl)) (li_0) (by omega))) ?_
            refine rsr (jv_e) ?_
            refine rsr (vC_e (rk_160 (hR.fr f738))) ?_
            refine Rb_VV (hE _ _ (by omega) (by omega) T n m kd pl E tx ua ut mu _ _ G (pu U u [uc, (V Mr 201 u.toNat), (V Mr 200 u.toNat), (V Mr 203 u.toNat), (pl i), (V Mr 206 u.toNat), ut, 0, (V Mc 79 uc.toNat), (V Mc 80 uc.toNat), (V Mc 82 uc.toNat)]) Hl (pux X u [(0 : Int64), (tx i)]) (i + 2) e s (u + 1) (uc + 1) _ hS (hCx.fr (Fr.sI (by decide) (Fr.sI (by decide) f502)) f738) ⟨(sI_nej (by decide)).trans (sI_eq), sI_eq, (sI_nej (by decide)).trans ((sI_nej (by decide)).trans (e502_k3)), (sI_nej (by decide)).trans ((sI_nej (by decide)).trans ((g502.i _ _ (by decide)).trans (qa_9))), (sI_nej (by decide)).trans ((sI_nej (by decide)).trans ((g502.i _ _ (by decide)).trans (qa_16))), (sI_nej (by decide)).trans ((sI_nej (by decide)).trans (e502_k1))⟩ ⟨e738_k0, e738_k1, e738_k2, (g738.i _ _ (by decide)).trans (e735_k4), (g738.i _ _ (by decide)).trans ((g735.i _ _ (by decide)).trans (wa_43)), (g738.i _ _ (by decide)).trans ((g735.i _ _ (by decide)).trans (wa_51)), (g738.i _ _ (by decide)).trans (e735_k0), (g738.i _ _ (by decide)).trans ((g735.i _ _ (by decide)).trans (wa_50)), p738_1⟩ ⟨((caa.fr g502 (by decide)).fr (W := W_c0) (Fr.sI (by decide) (Fr.sI (by decide) Fr.r)) (by decide)), ((raa.fr g735 (by decide)).fr g738 (by decide)), ((lca.fr g502 (by decide)).fr (W := W_c0) (Fr.sI (by decide) (Fr.sI (by decide) Fr.r)) (by decide)), ((lra.fr g735 (by decide)).fr g738 (by decide)), ((CU.add cua (by omega) (by omega) p502_1 rfl rfl).fr (W := W_c0) (Fr.sI (by decide) (Fr.sI (by decide) Fr.r)) (by decide)), ((RU.add rua (by omega) p735_1 rfl).fr g738 (by decide))⟩ ⟨by omega, by omega, by omega, by omega, by omega, by omega, by omega, by omega, by omega, by omega, by omega, by omega⟩ (vs2 (li_0) (hv0))) fun v Mx739 w Nx739 hx739 => ?_
            rcases hx739 with ⟨i739, e739, u739, uc739, G739, U739, X739, fl739, fr739, sc739, sr739, rw739, bd739, mv739, ag739, au739, ax739, tp739, dp739, kv739⟩ | ⟨F739, P739, fl739, fr739, tc739, tr739⟩
            ·
              have FL739 : Fr W_cp Mc Mx739 := Fr.t (Fr.sI (by decide) (Fr.sI (by decide) f502)) fl739
              have FR739 : Fr W_rx Mr Nx739 := Fr.t f738 fr739
              obtain ⟨bb739_0, bb739_1, bb739_2, bb739_3, bb739_4, bb739_5, bb739_6, bb739_7, bb739_8, bb739_9, bb739_10, bb739_11⟩ := bd739
              obtain ⟨q739_12, q739_13, q739_10, q739_9, q739_16, q739_19⟩ := sc739
              obtain ⟨w739_36, w739_37, w739_38, w739_41, w739_43, w739_51, w739_53, w739_50, w739_n⟩ := sr739
              obtain ⟨ca739, ra739, lc739, lr739, cu739, ru739⟩ := rw739
              have hk740 := (hS.ok i739 (by omega) (by omega)).r
              have ku739 := KU.t ((KU.us kua p502_1 g502 (by decide) (by omega)).fr (W := W_c0) (Fr.sI (by decide) (Fr.sI (by decide) Fr.r)) (by decide)) kv739 (by omega)
              have ty741 := Tye.t (d3 := 1) ty2 ag739 tp739 (by omega)
              have du742 := DU.t (DU.r (ut := ut) (mu := mu) (c := uc) (G := G) (a := e)) ag739 au739 ax739 dp739 (by omega)
              refine rsl (cV_e rfl) ?_
              refine rsr (cV_e rfl) ?_
              refine rsl (vC_e (ck_65 (hC.fr FL739))) ?_
              by_cases c743 : ((kd i739)) = 59
              ·
                have hm744 : i739 + 1 < m := hS.more i739 (by omega) (by omega) (by omega)
                refine rsl (cV_e (a64q (by omega) hS (hC.fr FL739) (hTk.fr (WL := W_cp) FL739 (by decide)) (q739_12) (q739_13) (q739_10) (li_59) (i2 := (i739 + 1)) (by omega) (by omega))) ?_
                have hk745 := (hS.ok (i739 + 1) (by omega) (by omega)).r
                refine rsl (jn_v) ?_
                refine rsl (if_pos (eqI_p (li_0) (li_0) (by omega))) ?_
                refine rsl (vC_e (ck_65 (hC.fr FL739).sI.sI)) ?_
                have tb746 := Tyb.ex (dp := dp) (d := 1) (s' := s) (q := (e739 + 1)) (n1 := 0) (ut := ut) (mu := mu) (l := []) ty741 (Or.inr (Or.inr (Or.inr (Or.inl (by omega)))) : Eff 4 u 0 1 s 0 s) (by omega) ⟨by omega, by omega⟩ (by omega)
                have du747 := DU.set (b1 := 1) (p := 2) (q := (e739 + 1)) (u := u) (o := 4) (n1 := 0) (p1 := -2) (n3 := u) (l := []) (g := 0) du742 (by omega) (by omega) (by omega) (by omega) (fun q => absurd q (by decide)) (Int.le_of_eq (Eq.symm ((au739 0 _ (by omega)).trans (pu_e rfl)))) ((au739 6 _ (by omega)).trans (pu_e (by omega))) (U3tr (ax739 0 _ (by omega)) (au739 3 _ (by omega)) (au739 10 _ (by omega)) (Or.inl (pux_e (by omega)))) (by omega) (by omega)
                refine RlV (a106_n (by omega) (hC.fr FL739).sI.sI ((sI_nej (by decide)).trans ((sI_nej (by decide)).trans (q739_9))) (congrArg iI p502_0) (li_2) (li_2) (li_4) ((sI_nej (by decide)).trans ((sI_nej (by decide)).trans (q739_16))) (lc739.fr (W := W_c0) (Fr.sI (by decide) (Fr.sI (by decide) Fr.r)) (by decide)) ((K2.ku ((K2.mk p502_1).fr (W := W_c0) (Fr.sI (by decide) (Fr.sI (by decide) Fr.r)) (by decide)) kv739 (by omega)).fr (W := W_c0) (Fr.sI (by decide) (Fr.sI (by decide) Fr.r)) (by decide)).1 ((K2.ku ((K2.mk p502_1).fr (W := W_c0) (Fr.sI (by decide) (Fr.sI (by decide) Fr.r)) (by decide)) kv739 (by omega)).fr (W := W_c0) (Fr.sI (by decide) (Fr.sI (by decide) Fr.r)) (by decide)).2 hrl rfl (by omega)) fun v Ma748 h748 => ?_
                obtain ⟨g748, e748_k0, p748_0, p748_1⟩ := h748
                have f748 : Fr W_cp Mc Ma748 := Fr.t (Fr.sI (by decide) (Fr.sI (by decide) FL739)) (Fr.m g748 (by decide))
                refine rsl (cV_e rfl) ?_
                refine rsl (jv_e) ?_
                refine rsr (jn_v) ?_
                refine rsr (if_pos (lsI_p (congrArg iI (if_pos rfl)) (li_0) (by omega))) ?_
                refine rsr (vC_e (rk_160 (hR.fr FR739))) ?_
                refine RrV (a202 (by omega) (hR.fr FR739) (w739_43) ((FR739.i _ _ (by decide)).trans h49) ((FR739.i _ _ (by decide)).trans h48) (congrArg iI p735_0) (li_1) (li_4) (by omega)) fun v Ma749 h749 => ?_
                obtain ⟨g749, e749_k0, p749_0, p749_1⟩ := h749
                have f749 : Fr W_rx Mr Ma749 := Fr.t FR739 (Fr.m g749 (by decide))
                refine rsr (cV_e rfl) ?_
                refine rsr (jv_e) ?_
                refine rsr (vC_e (rk_160 (hR.fr f749))) ?_
                refine RrI (a195_59 (by omega) hS (hR.fr f749) (hT.fr (W := W_rx) f749 (by decide) (by decide)) (fun i a b => (Fr.lc (W := W_rx) f749 _ (by decide) _).trans (hW i a b)) ((g749.i _ _ (by decide)).trans (w739_36)) ((g749.i _ _ (by decide)).trans (w739_37)) ((g749.i _ _ (by decide)).trans (w739_38)) ((g749.i _ _ (by decide)).trans (w739_41)) (li_59) (i2 := (i739 + 1)) (by omega) (by omega)) fun v Ma751 h751 => ?_
                obtain ⟨r750, rfl, g751, e751_k0, e751_k1, e751_k2, p751_0, p751_1⟩ := h751
                have f751 : Fr W_rx Mr Ma751 := Fr.t f749 (Fr.m g751 (by decide))
                refine rsr (cI_e rfl) ?_
                refine rsr (jv_e) ?_
                exact Rs.ok (Or.inl ⟨(i739 + 1), s, Hl, ⟨(e739 + 1), u739, uc739, (pu G739 e739 [4, 0, -2, u, ut, mu, 0]), (ps U739 u 1 2 e739), X739, f748, f751, ⟨(g748.i _ _ (by decide)).trans ((sI_nej (by decide)).trans (sI_eq)), (g748.i _ _ (by decide)).trans (sI_eq), (g748.i _ _ (by decide)).trans ((sI_nej (by decide)).trans ((sI_nej (by decide)).trans (q739_10))), e748_k0, (g748.i _ _ (by decide)).trans ((sI_nej (by decide)).trans ((sI_nej (by decide)).trans (q739_16))), (g748.i _ _ (by decide)).trans ((sI_nej (by decide)).trans ((sI_nej (by decide)).trans (q739_19)))⟩, ⟨e751_k0, e751_k1, e751_k2, (g751.i _ _ (by decide)).trans ((g749.i _ _ (by decide)).trans (w739_41)), (g751.i _ _ (by decide)).trans (e749_k0), (g751.i _ _ (by decide)).trans ((g749.i _ _ (by decide)).trans (w739_51)), (g751.i _ _ (by decide)).trans ((g749.i _ _ (by decide)).trans (w739_53)), (g751.i _ _ (by decide)).trans ((g749.i _ _ (by decide)).trans (w739_50)), p751_1⟩, ⟨(CA1.em (ca739.fr (W := W_c0) (Fr.sI (by decide) (Fr.sI (by decide) Fr.r)) (by decide)) (by omega) p748_0 rfl), ((RA1.em ra739 (by omega) p749_0 rfl).fr g751 (by decide)), ((lc739.fr (W := W_c0) (Fr.sI (by decide) (Fr.sI (by decide) Fr.r)) (by decide)).fr g748 (by decide)), ((lr739.fr g749 (by decide)).fr g751 (by decide)), (CU.set (b := 1) (cu739.fr (W := W_c0) (Fr.sI (by decide) (Fr.sI (by decide) Fr.r)) (by decide)) ⟨by omega, by omega⟩ ((au739 0 _ (by omega)).trans (pu_e rfl)) p748_1 g748 (by decide)), ((RU.set ru739 ⟨by omega, by omega⟩ p749_1 g749 (by decide)).fr g751 (by decide))⟩, ⟨by omega, by omega, by omega, by omega, by omega, by omega, by omega, by omega, by omega, by omega, by omega, by omega⟩, ⟨by omega, by omega, by omega, by omega, by omega, by omega⟩, (Ag.pu (Ag.t Ag.r ag739 (by omega)) (by omega)), (Ag.ps (Ag.t (Ag.pu Ag.r (by omega)) au739 (by omega)) (by omega)), (AgL.t (AgL.pu AgL.r (by omega)) ax739 (by omega)), tb746, du747, ((ku739.fr (W := W_c0) (Fr.sI (by decide) (Fr.sI (by decide) Fr.r)) (by decide)).fr g748 (by decide)), ⟨by omega, fun _ _ _ => rfl⟩⟩⟩)
              ·
                by_cases c752 : ((kd i739)) = 1
                ·
                  refine rsl (cV_e (a64_1 (by omega) hS (hC.fr FL739) (hTk.fr (WL := W_cp) FL739 (by decide)) (q739_12) (q739_13) (q739_10) (li_59) (by omega))) ?_
                  refine rsl (jn_v) ?_
                  refine rsl (if_pos (eqI_p (li_0) (li_0) (by omega))) ?_
                  refine rsl (vC_e (ck_65 (hC.fr FL739).sI.sI.sI)) ?_
                  refine RlV (y106 (by omega) (hC.fr FL739).sI.sI.sI (hTk.fr (WL := W_cp) (Fr.sI (by decide) (Fr.sI (by decide) (Fr.sI (by decide) FL739))) (by decide)) ((sI_nej (by decide)).trans ((sI_nej (by decide)).trans ((sI_nej (by decide)).trans (q739_12)))) (sI_eq) ((sI_nej (by decide)).trans ((sI_nej (by decide)).trans (sI_eq))) ((sI_nej (by decide)).trans (sI_eq)) ((sI_nej (by decide)).trans ((sI_nej (by decide)).trans ((sI_nej (by decide)).trans (q739_9)))) ((sI_nej (by decide)).trans ((sI_nej (by decide)).trans ((sI_nej (by decide)).trans (q739_16)))) ((sI_nej (by decide)).trans ((sI_nej (by decide)).trans ((sI_nej (by decide)).trans (q739_19)))) (congrArg iI p502_0) (li_2) (li_2) (li_4) (by omega)) fun v Ma754 h754 => ?_
                  obtain ⟨sz753, sn753, uc753, g754, e754_sz753, e754_sn753, e754_uc753, e754_k0, e754_k1, e754_k2, e754_k3, p754_0, p754_1, p754_2⟩ := h754
                  have f754 : Fr W_cp Mc Ma754 := Fr.t (Fr.sI (by decide) (Fr.sI (by decide) (Fr.sI (by decide) FL739))) (Fr.m g754 (by decide))
                  refine rsl (cV_e rfl) ?_
                  refine rsl (jv_e) ?_
                  refine rsr (jn_v) ?_
                  refine rsr (if_pos (lsI_p (congrArg iI (if_pos rfl)) (li_0) (by omega))) ?_
                  refine rsr (vC_e (rk_160 (hR.fr FR739))) ?_
                  refine RrV (a202 (by omega) (hR.fr FR739) (w739_43) ((FR739.i _ _ (by decide)).trans h49) ((FR739.i _ _ (by decide)).trans h48) (congrArg iI p735_0) (li_1) (li_4) (by omega)) fun v Ma755 h755 => ?_
                  obtain ⟨g755, e755_k0, p755_0, p755_1⟩ := h755
                  have f755 : Fr W_rx Mr Ma755 := Fr.t FR739 (Fr.m g755 (by decide))
                  refine rsr (cV_e rfl) ?_
                  refine rsr (jv_e) ?_
                  refine rsr (vC_e (rk_160 (hR.fr f755))) ?_
                  refine rsr (cI_e (a195_59_1 (by omega) hS (hR.fr f755) ((g755.i _ _ (by decide)).trans (w739_36)) ((g755.i _ _ (by decide)).trans (w739_37)) ((g755.i _ _ (by decide)).trans (w739_41)) (li_59) (by omega))) ?_
                  refine rsr (jv_e) ?_
                  exact Rs.ok (Or.inr ⟨1, ((pl i739)), f754, (Fr.sI (by decide) (Fr.sI (by decide) (Fr.m f755 (by decide)))), ⟨i739, sz753, sn753, uc753, e754_k0, e754_k1, e754_k2, e754_k3, e754_sz753, e754_sn753, e754_uc753, by omega⟩, ⟨(e739 + 1), s, u739, mu, ut, (sI_nej (by decide)).trans (sI_eq), sI_eq, (sI_nej (by decide)).trans ((sI_nej (by decide)).trans (e755_k0)), (sI_nej (by decide)).trans ((sI_nej (by decide)).trans ((g755.i _ _ (by decide)).trans (w739_51))), (sI_nej (by decide)).trans ((sI_nej (by decide)).trans ((g755.i _ _ (by decide)).trans (w739_53))), (sI_nej (by decide)).trans ((sI_nej (by decide)).trans ((g755.i _ _ (by decide)).trans ((FR739.i _ _ (by decide)).trans h48))), (sI_nej (by decide)).trans ((sI_nej (by decide)).trans ((g755.i _ _ (by decide)).trans ((FR739.i _ _ (by decide)).trans h49))), by omega⟩⟩)
                ·
                  refine rsl (cV_e (a64_2 (by omega) hS (hC.fr FL739) (hTk.fr (WL := W_cp) FL739 (by decide)) (q739_12) (q739_13) (q739_10) (li_59) (by omega))) ?_
                  refine rsl (jn_v) ?_
                  refine rsl (if_pos (eqI_p (li_0) (li_0) (by omega))) ?_
                  refine rsl (vC_e (ck_65 (hC.fr FL739).sI.sI.sI)) ?_
                  refine RlV (y106 (by omega) (hC.fr FL739).sI.sI.sI (hTk.fr (WL := W_cp) (Fr.sI (by decide) (Fr.sI (by decide) (Fr.sI (by decide) FL739))) (by decide)) ((sI_nej (by decide)).trans ((sI_nej (by decide)).trans ((sI_nej (by decide)).trans (q739_12)))) (sI_eq) ((sI_nej (by decide)).trans ((sI_nej (by decide)).trans (sI_eq))) ((sI_nej (by decide)).trans (sI_eq)) ((sI_nej (by decide)).trans ((sI_nej (by decide)).trans ((sI_nej (by decide)).trans (q739_9)))) ((sI_nej (by decide)).trans ((sI_nej (by decide)).trans ((sI_nej (by decide)).trans (q739_16)))) ((sI_nej (by decide)).trans ((sI_nej (by decide)).trans ((sI_nej (by decide)).trans (q739_19)))) (congrArg iI p502_0) (li_2) (li_2) (li_4) (by omega)) fun v Ma757 h757 => ?_
                  obtain ⟨sz756, sn756, uc756, g757, e757_sz756, e757_sn756, e757_uc756, e757_k0, e757_k1, e757_k2, e757_k3, p757_0, p757_1, p757_2⟩ := h757
                  have f757 : Fr W_cp Mc Ma757 := Fr.t (Fr.sI (by decide) (Fr.sI (by decide) (Fr.sI (by decide) FL739))) (Fr.m g757 (by decide))
                  refine rsl (cV_e rfl) ?_
                  refine rsl (jv_e) ?_
                  refine rsr (jn_v) ?_
                  refine rsr (if_pos (lsI_p (congrArg iI (if_pos rfl)) (li_0) (by omega))) ?_
                  refine rsr (vC_e (rk_160 (hR.fr FR739))) ?_
                  refine RrV (a202 (by omega) (hR.fr FR739) (w739_43) ((FR739.i _ _ (by decide)).trans h49) ((FR739.i _ _ (by decide)).trans h48) (congrArg iI p735_0) (li_1) (li_4) (by omega)) fun v Ma758 h758 => ?_
                  obtain ⟨g758, e758_k0, p758_0, p758_1⟩ := h758
                  have f758 : Fr W_rx Mr Ma758 := Fr.t FR739 (Fr.m g758 (by decide))
                  refine rsr (cV_e rfl) ?_
                  refine rsr (jv_e) ?_
                  refine rsr (vC_e (rk_160 (hR.fr f758))) ?_
                  refine rsr (cI_e (a195_59_2 (by omega) hS (hR.fr f758) ((g758.i _ _ (by decide)).trans (w739_36)) ((g758.i _ _ (by decide)).trans (w739_37)) ((g758.i _ _ (by decide)).trans (w739_41)) (li_59) (by omega))) ?_
                  refine rsr (jv_e) ?_
                  exact Rs.ok (Or.inr ⟨2, ((pl i739)), f757, (Fr.sI (by decide) (Fr.sI (by decide) (Fr.m f758 (by decide)))), ⟨i739, sz756, sn756, uc756, e757_k0, e757_k1, e757_k2, e757_k3, e757_sz756, e757_sn756, e757_uc756, by omega⟩, ⟨(e739 + 1), s, u739, mu, ut, (sI_nej (by decide)).trans (sI_eq), sI_eq, (sI_nej (by decide)).trans ((sI_nej (by decide)).trans (e758_k0)), (sI_nej (by decide)).trans ((sI_nej (by decide)).trans ((g758.i _ _ (by decide)).trans (w739_51))), (sI_nej (by decide)).trans ((sI_nej (by decide)).trans ((g758.i _ _ (by decide)).trans (w739_53))), (sI_nej (by decide)).trans ((sI_nej (by decide)).trans ((g758.i _ _ (by decide)).trans ((FR739.i _ _ (by decide)).trans h48))), (sI_nej (by decide)).trans ((sI_nej (by decide)).trans ((g758.i _ _ (by decide)).trans ((FR739.i _ _ (by decide)).trans h49))), by omega⟩⟩)
            ·
              have FL739 : Fr W_cp Mc Mx739 := Fr.t (Fr.sI (by decide) (Fr.sI (by decide) f502)) fl739
              have FR739 : Fr W_rp Mr Nx739 := Fr.t (Fr.m f738 W_rx_p) fr739
              obtain ⟨ti739, tz739, tn739, tu739, t13739, t10739, t11739, t12739, t9739, t16739, t19739, tb739⟩ := tc739
              obtain ⟨re739, rn739, ru739, rm739, rt739, u41739, u42739, u43739, u51739, u53739, u48739, u49739, ub739⟩ := tr739
              refine rsl (cV_e rfl) ?_
              refine rsr (cV_e rfl) ?_
              refine rsl (vC_e (ck_65 (hC.fr FL739))) ?_
              refine RlV (y64 (by omega) (hC.fr FL739) (hTk.fr (WL := W_cp) FL739 (by decide)) (t12739) (t13739) (t10739) (t11739) (t9739) (t16739) (t19739) (li_59) (by omega)) fun v Ma760 h760 => ?_
              obtain ⟨sz759, sn759, uc759, g760, e760_sz759, e760_sn759, e760_uc759, e760_k0, e760_k1, e760_k2, e760_k3, p760_0, p760_1, p760_2⟩ := h760
              have f760 : Fr W_cp Mc Ma760 := Fr.t FL739 (Fr.m g760 (by decide))
              refine rsl (cV_e rfl) ?_
              refine rsl (jn_v) ?_
              refine rsl (if_pos (eqI_p (li_0) (li_0) (by omega))) ?_
              refine rsl (vC_e (ck_65 (hC.fr f760))) ?_
              refine RlV (y106 (by omega) (hC.fr f760) (hTk.fr (WL := W_cp) f760 (by decide)) (e760_k3) (e760_k0) (e760_k1) (e760_k2) (e760_sz759) (e760_sn759) (e760_uc759) (congrArg iI p502_0) (li_2) (li_2) (li_4) (by omega)) fun v Ma762 h762 => ?_
              obtain ⟨sz761, sn761, uc761, g762, e762_sz761, e762_sn761, e762_uc761, e762_k0, e762_k1, e762_k2, e762_k3, p762_0, p762_1, p762_2⟩ := h762
              have f762 : Fr W_cp Mc Ma762 := Fr.t f760 (Fr.m g762 (by decide))
              refine rsl (cV_e rfl) ?_
              refine rsl (jv_e) ?_
              refine rsr (jn_v) ?_
              refine rsr (if_pos (lsI_p (congrArg iI (if_pos rfl)) (li_0) (by omega))) ?_
              refine rsr (vC_e (rk_160 (hR.fr FR739))) ?_
              refine RrV (x202_s (by omega) (hR.fr FR739) (u41739) (u42739) (u43739) (u51739) (u53739) (u48739) (u49739) (congrArg iI p735_0) (li_1) (li_4) (by omega)) fun v Ma764 h764 => ?_
              obtain ⟨em763, g764, e764_em763, e764_k0, e764_k1, e764_k2, e764_k3, e764_k4, p764_0⟩ := h764
              have f764 : Fr W_rp Mr Ma764 := Fr.t FR739 (Fr.m g764 (by decide))
              refine rsr (cV_e rfl) ?_
              refine rsr (jv_e) ?_
              refine rsr (vC_e (rk_160 (hR.fr f764))) ?_
              refine RrI (x195_s (by omega) (hR.fr f764) (e764_k0) (e764_k1) (e764_em763) (e764_k2) (e764_k3) (e764_k4) ((g764.i _ _ (by decide)).trans (u49739)) (li_59) (by omega)) fun v Ma766 h766 => ?_
              obtain ⟨rv765, em765, rfl, g766, e766_em765, e766_k0, e766_k1, e766_k2, e766_k3, e766_k4, p766_0, p766_1⟩ := h766
              have f766 : Fr W_rp Mr Ma766 := Fr.t f764 (Fr.m g766 (by decide))
              refine rsr (cI_e rfl) ?_
              refine rsr (jv_e) ?_
              exact Rs.ok (Or.inr ⟨F739, P739, f762, f766, ⟨ti739, sz761, sn761, uc761, e762_k0, e762_k1, e762_k2, e762_k3, e762_sz761, e762_sn761, e762_uc761, by omega⟩, ⟨em765, rn739, ru739, rm739, rt739, e766_k0, e766_k1, e766_em765, e766_k2, e766_k3, e766_k4, (g766.i _ _ (by decide)).trans ((g764.i _ _ (by decide)).trans (u49739)), by omega⟩⟩)
          ·
            refine RrI (a197 (by omega) (hR.fr f735) ((g735.i _ _ (by decide)).trans (wa_51)) (lra.fr g735 (by decide)) (by omega)) fun v Nl736 hl736 => ?_
            obtain ⟨r9, rfl, hMl, hr9⟩ := hl736
            rw [hMl]
            have q9 := LcF.one hr9 hrl
            rw [q9]
            refine rsr (cI_e rfl) ?_
            refine rsr (jv_e) ?_
            try dsimp only
            refine rsr (gtI_q (w := iI ((kr (kd (i + 1))))) (rk_160 (hR.fr f735)) (e735_k1)) ?_
            refine rsr (jn_v) ?_
            refine rsr (if_neg (krI_n (k := 40) (rfl) (li_40) (hS.ok (i + 1) (by omega) (by omega)) (by unfold KdOK sgk; omega) (by decide +kernel) (by omega) (by omega))) ?_
            refine rsr (gtI_q (w := iI ((kr (kd (i + 1))))) (rk_160 (hR.fr f735)) (e735_k1)) ?_
            refine rsr (if_neg (krI_n (k := 91) (rfl) (li_91) (hS.ok (i + 1) (by omega) (by omega)) (by unfold KdOK sgk; omega) (by decide +kernel) (by omega) (by omega))) ?_
            refine rsr (vC_e (rk_160 (hR.fr f735))) ?_
            refine RrI (a195_61 (by omega) hS (hR.fr f735) (hT.fr (W := W_rx) f735 (by decide) (by decide)) (fun i a b => (Fr.lc (W := W_rx) f735 _ (by decide) _).trans (hW i a b)) (e735_k1) (e735_k2) (e735_k3) (e735_k4) (li_61) (i2 := (i + 2)) (by omega) (by omega)) fun v Ma768 h768 => ?_
            obtain ⟨r767, rfl, g768, e768_k0, e768_k1, e768_k2, p768_0, p768_1⟩ := h768
            have f768 : Fr W_rx Mr Ma768 := Fr.t f735 (Fr.m g768 (by decide))
            refine rsr (cI_e rfl) ?_
            refine rsr (if_neg (eqI_n (congrArg iI p768_0) (li_0) (by omega))) ?_
            refine rsr (jn_v) ?_
            refine rsr (if_neg (lsI_n (congrArg iI (if_neg (by omega))) (li_0) (by omega))) ?_
            refine rsr (gtI_q (w := iI (u + 1)) (rk_160 (hR.fr f768)) ((g768.i _ _ (by decide)).trans (e735_k0))) ?_
            refine rsr (ptI_q (z := u) (rk_160 (hR.fr f768)) (cvI (sbI (rfl) (li_1)) (by omega))) ?_
            refine rsr (jv_e) ?_
            refine rsr (vC_e (rk_160 (hR.fr f768).sI)) ?_
            refine Rb_VV (hE _ _ (by omega) (by omega) T n m kd pl E tx ua ut mu _ _ G U Hl X (i + 2) e s u (uc + 1) _ hS (hCx.fr (Fr.sI (by decide) (Fr.sI (by decide) f502)) (Fr.sI (by decide) f768)) ⟨(sI_nej (by decide)).trans (sI_eq), sI_eq, (sI_nej (by decide)).trans ((sI_nej (by decide)).trans (e502_k3)), (sI_nej (by decide)).trans ((sI_nej (by decide)).trans ((g502.i _ _ (by decide)).trans (qa_9))), (sI_nej (by decide)).trans ((sI_nej (by decide)).trans ((g502.i _ _ (by decide)).trans (qa_16))), (sI_nej (by decide)).trans ((sI_nej (by decide)).trans (e502_k1))⟩ ⟨(sI_nej (by decide)).trans (e768_k0), (sI_nej (by decide)).trans (e768_k1), (sI_nej (by decide)).trans (e768_k2), (sI_nej (by decide)).trans ((g768.i _ _ (by decide)).trans (e735_k4)), (sI_nej (by decide)).trans ((g768.i _ _ (by decide)).trans ((g735.i _ _ (by decide)).trans (wa_43))), (sI_nej (by decide)).trans ((g768.i _ _ (by decide)).trans ((g735.i _ _ (by decide)).trans (wa_51))), sI_eq, (sI_nej (by decide)).trans ((g768.i _ _ (by decide)).trans ((g735.i _ _ (by decide)).trans (wa_50))), (p768_1.fr (W := W_r0) (Fr.sI (by decide) Fr.r) (by decide) (by decide))⟩ ⟨((caa.fr g502 (by decide)).fr (W := W_c0) (Fr.sI (by decide) (Fr.sI (by decide) Fr.r)) (by decide)), (((raa.fr g735 (by decide)).fr g768 (by decide)).fr (W := W_r0) (Fr.sI (by decide) Fr.r) (by decide)), ((lca.fr g502 (by decide)).fr (W := W_c0) (Fr.sI (by decide) (Fr.sI (by decide) Fr.r)) (by decide)), (((lra.fr g735 (by decide)).fr g768 (by decide)).fr (W := W_r0) (Fr.sI (by decide) Fr.r) (by decide)), ((CU.keep cua (by omega) p502_1 rfl).fr (W := W_c0) (Fr.sI (by decide) (Fr.sI (by decide) Fr.r)) (by decide)), (((RU.keep rua p735_1).fr g768 (by decide)).fr (W := W_r0) (Fr.sI (by decide) Fr.r) (by decide))⟩ ⟨by omega, by omega, by omega, by omega, by omega, by omega, by omega, by omega, by omega, by omega, by omega, by omega⟩ (vs2 (li_0) (hv0))) fun v Mx769 w Nx769 hx769 => ?_
            rcases hx769 with ⟨i769, e769, u769, uc769, G769, U769, X769, fl769, fr769, sc769, sr769, rw769, bd769, mv769, ag769, au769, ax769, tp769, dp769, kv769⟩ | ⟨F769, P769, fl769, fr769, tc769, tr769⟩
            ·
              have FL769 : Fr W_cp Mc Mx769 := Fr.t (Fr.sI (by decide) (Fr.sI (by decide) f502)) fl769
              have FR769 : Fr W_rx Mr Nx769 := Fr.t (Fr.sI (by decide) f768) fr769
              obtain ⟨bb769_0, bb769_1, bb769_2, bb769_3, bb769_4, bb769_5, bb769_6, bb769_7, bb769_8, bb769_9, bb769_10, bb769_11⟩ := bd769
              obtain ⟨q769_12, q769_13, q769_10, q769_9, q769_16, q769_19⟩ := sc769
              obtain ⟨w769_36, w769_37, w769_38, w769_41, w769_43, w769_51, w769_53, w769_50, w769_n⟩ := sr769
              obtain ⟨ca769, ra769, lc769, lr769, cu769, ru769⟩ := rw769
              have hk770 := (hS.ok i769 (by omega) (by omega)).r
              have ku769 := KU.t ((KU.us kua p502_1 g502 (by decide) (by omega)).fr (W := W_c0) (Fr.sI (by decide) (Fr.sI (by decide) Fr.r)) (by decide)) kv769 (by omega)
              have ty771 := Tye.t (d3 := 1) ty2 ag769 tp769 (by omega)
              have du772 := DU.t du3 ag769 au769 ax769 dp769 (by omega)
              have hne773 : ∀ j, 0 ≤ j → j < u769 → U769 0 j ≠ uc := NeL hlt au769 dp769 (by omega)
              refine rsl (cV_e rfl) ?_
              refine rsr (cV_e rfl) ?_
              refine rsl (vC_e (ck_65 (hC.fr FL769))) ?_
              by_cases c774 : ((kd i769)) = 59
              ·
                have hm775 : i769 + 1 < m := hS.more i769 (by omega) (by omega) (by omega)
                refine rsl (cV_e (a64q (by omega) hS (hC.fr FL769) (hTk.fr (WL := W_cp) FL769 (by decide)) (q769_12) (q769_13) (q769_10) (li_59) (i2 := (i769 + 1)) (by omega) (by omega))) ?_
                have hk776 := (hS.ok (i769 + 1) (by omega) (by omega)).r
                refine rsl (jn_v) ?_
                refine rsl (if_pos (eqI_p (li_0) (li_0) (by omega))) ?_
                refine rsl (vC_e (ck_65 (hC.fr FL769).sI.sI)) ?_
                have tb777 := Tyb.ex (dp := dp) (d := 1) (s' := s) (q := (e769 + 1)) (n1 := rl) (ut := ut) (mu := mu) (l := []) ty771 (Or.inr (Or.inr (Or.inl (by omega))) : Eff 2 rl 0 1 s 0 s) (by omega) ⟨by omega, by omega⟩ (by omega)
                have du778 := DU.em (q := (e769 + 1)) (o := 2) (n := rl) (p := -2) (l := [0]) du772 (by omega) (by omega)
                refine RlV (a106_l (by omega) (hC.fr FL769).sI.sI ((sI_nej (by decide)).trans ((sI_nej (by decide)).trans (q769_9))) (congrArg iI p502_0) (li_2) (li_2) (li_4) ((sI_nej (by decide)).trans ((sI_nej (by decide)).trans (q769_16))) (lc769.fr (W := W_c0) (Fr.sI (by decide) (Fr.sI (by decide) Fr.r)) (by decide)) ((K2.ku ((K2.mk p502_1).fr (W := W_c0) (Fr.sI (by decide) (Fr.sI (by decide) Fr.r)) (by decide)) kv769 (by omega)).fr (W := W_c0) (Fr.sI (by decide) (Fr.sI (by decide) Fr.r)) (by decide)).1 ((K2.ku ((K2.mk p502_1).fr (W := W_c0) (Fr.sI (by decide) (Fr.sI (by decide) Fr.r)) (by decide)) kv769 (by omega)).fr (W := W_c0) (Fr.sI (by decide) (Fr.sI (by decide) Fr.r)) (by decide)).2 hrl ⟨by omega, by omega⟩ rfl (by omega)) fun v Ma779 h779 => ?_
                obtain ⟨g779, e779_k0, p779_0, p779_1⟩ := h779
                have f779 : Fr W_cp Mc Ma779 := Fr.t (Fr.sI (by decide) (Fr.sI (by decide) FL769)) (Fr.m g779 (by decide))
                refine rsl (cV_e rfl) ?_
                refine rsl (jv_e) ?_
                refine rsr (jn_v) ?_
                refine rsr (if_neg (lsI_n (congrArg iI (if_neg (by omega))) (li_0) (by omega))) ?_
                refine rsr (vC_e (rk_160 (hR.fr FR769))) ?_
                refine RrI (a196 (by omega) (hR.fr FR769) (w769_43) ((FR769.i _ _ (by decide)).trans h49) ((FR769.i _ _ (by decide)).trans h48) (li_2) (congrArg iI (if_neg (by omega))) (by omega)) fun v Ma781 h781 => ?_
                obtain ⟨r780, rfl, g781, e781_k0, p781_0, p781_1⟩ := h781
                have f781 : Fr W_rx Mr Ma781 := Fr.t FR769 (Fr.m g781 (by decide))
                refine rsr (cI_e rfl) ?_
                refine rsr (jv_e) ?_
                refine rsr (vC_e (rk_160 (hR.fr f781))) ?_
                refine RrI (a195_59 (by omega) hS (hR.fr f781) (hT.fr (W := W_rx) f781 (by decide) (by decide)) (fun i a b => (Fr.lc (W := W_rx) f781 _ (by decide) _).trans (hW i a b)) ((g781.i _ _ (by decide)).trans (w769_36)) ((g781.i _ _ (by decide)).trans (w769_37)) ((g781.i _ _ (by decide)).trans (w769_38)) ((g781.i _ _ (by decide)).trans (w769_41)) (li_59) (i2 := (i769 + 1)) (by omega) (by omega)) fun v Ma783 h783 => ?_
                obtain ⟨r782, rfl, g783, e783_k0, e783_k1, e783_k2, p783_0, p783_1⟩ := h783
                have f783 : Fr W_rx Mr Ma783 := Fr.t f781 (Fr.m g783 (by decide))
                refine rsr (cI_e rfl) ?_
                refine rsr (jv_e) ?_
                exact Rs.ok (Or.inl ⟨(i769 + 1), s, Hl, ⟨(e769 + 1), u769, uc769, (pu G769 e769 [2, rl, -2, rl, ut, mu, 0]), U769, X769, f779, f783, ⟨(g779.i _ _ (by decide)).trans ((sI_nej (by decide)).trans (sI_eq)), (g779.i _ _ (by decide)).trans (sI_eq), (g779.i _ _ (by decide)).trans ((sI_nej (by decide)).trans ((sI_nej (by decide)).trans (q769_10))), e779_k0, (g779.i _ _ (by decide)).trans ((sI_nej (by decide)).trans ((sI_nej (by decide)).trans (q769_16))), (g779.i _ _ (by decide)).trans ((sI_nej (by decide)).trans ((sI_nej (by decide)).trans (q769_19)))⟩, ⟨e783_k0, e783_k1, e783_k2, (g783.i _ _ (by decide)).trans ((g781.i _ _ (by decide)).trans (w769_41)), (g783.i _ _ (by decide)).trans (e781_k0), (g783.i _ _ (by decide)).trans ((g781.i _ _ (by decide)).trans (w769_51)), (g783.i _ _ (by decide)).trans ((g781.i _ _ (by decide)).trans (w769_53)), (g783.i _ _ (by decide)).trans ((g781.i _ _ (by decide)).trans (w769_50)), p783_1⟩, ⟨(CA1.em (ca769.fr (W := W_c0) (Fr.sI (by decide) (Fr.sI (by decide) Fr.r)) (by decide)) (by omega) p779_0 rfl), ((RA1.em ra769 (by omega) p781_1 rfl).fr g783 (by decide)), ((lc769.fr (W := W_c0) (Fr.sI (by decide) (Fr.sI (by decide) Fr.r)) (by decide)).fr g779 (by decide)), ((lr769.fr g781 (by decide)).fr g783 (by decide)), (CU.loc3 (cu769.fr (W := W_c0) (Fr.sI (by decide) (Fr.sI (by decide) Fr.r)) (by decide)) hne773 (by omega) p779_1 g779 (by decide)), ((ru769.fr g781 (by decide)).fr g783 (by decide))⟩, ⟨by omega, by omega, by omega, by omega, by omega, by omega, by omega, by omega, by omega, by omega, by omega, by omega⟩, ⟨by omega, by omega, by omega, by omega, by omega, by omega⟩, (Ag.pu (Ag.t Ag.r ag769 (by omega)) (by omega)), (Ag.t Ag.r au769 (by omega)), (AgL.t AgL.r ax769 (by omega)), tb777, du778, ((ku769.fr (W := W_c0) (Fr.sI (by decide) (Fr.sI (by decide) Fr.r)) (by decide)).fr g779 (by decide)), ⟨by omega, fun _ _ _ => rfl⟩⟩⟩)
              ·
                by_cases c784 : ((kd i769)) = 1
                ·
                  refine rsl (cV_e (a64_1 (by omega) hS (hC.fr FL769) (hTk.fr (WL := W_cp) FL769 (by decide)) (q769_12) (q769_13) (q769_10) (li_59) (by omega))) ?_
                  refine rsl (jn_v) ?_
                  refine rsl (if_pos (eqI_p (li_0) (li_0) (by omega))) ?_
                  refine rsl (vC_e (ck_65 (hC.fr FL769).sI.sI.sI)) ?_
                  refine RlV (y106 (by omega) (hC.fr FL769).sI.sI.sI (hTk.fr (WL := W_cp) (Fr.sI (by decide) (Fr.sI (by decide) (Fr.sI (by decide) FL769))) (by decide)) ((sI_nej (by decide)).trans ((sI_nej (by decide)).trans ((sI_nej (by decide)).trans (q769_12)))) (sI_eq) ((sI_nej (by decide)).trans ((sI_nej (by decide)).trans (sI_eq))) ((sI_nej (by decide)).trans (sI_eq)) ((sI_nej (by decide)).trans ((sI_nej (by decide)).trans ((sI_nej (by decide)).trans (q769_9)))) ((sI_nej (by decide)).trans ((sI_nej (by decide)).trans ((sI_nej (by decide)).trans (q769_16)))) ((sI_nej (by decide)).trans ((sI_nej (by decide)).trans ((sI_nej (by decide)).trans (q769_19)))) (congrArg iI p502_0) (li_2) (li_2) (li_4) (by omega)) fun v Ma786 h786 => ?_
                  obtain ⟨sz785, sn785, uc785, g786, e786_sz785, e786_sn785, e786_uc785, e786_k0, e786_k1, e786_k2, e786_k3, p786_0, p786_1, p786_2⟩ := h786
                  have f786 : Fr W_cp Mc Ma786 := Fr.t (Fr.sI (by decide) (Fr.sI (by decide) (Fr.sI (by decide) FL769))) (Fr.m g786 (by decide))
                  refine rsl (cV_e rfl) ?_
                  refine rsl (jv_e) ?_
                  refine rsr (jn_v) ?_
                  refine rsr (if_neg (lsI_n (congrArg iI (if_neg (by omega))) (li_0) (by omega))) ?_
                  refine rsr (vC_e (rk_160 (hR.fr FR769))) ?_
                  refine RrI (a196 (by omega) (hR.fr FR769) (w769_43) ((FR769.i _ _ (by decide)).trans h49) ((FR769.i _ _ (by decide)).trans h48) (li_2) (congrArg iI (if_neg (by omega))) (by omega)) fun v Ma788 h788 => ?_
                  obtain ⟨r787, rfl, g788, e788_k0, p788_0, p788_1⟩ := h788
                  have f788 : Fr W_rx Mr Ma788 := Fr.t FR769 (Fr.m g788 (by decide))
                  refine rsr (cI_e rfl) ?_
                  refine rsr (jv_e) ?_
                  refine rsr (vC_e (rk_160 (hR.fr f788))) ?_
                  refine rsr (cI_e (a195_59_1 (by omega) hS (hR.fr f788) ((g788.i _ _ (by decide)).trans (w769_36)) ((g788.i _ _ (by decide)).trans (w769_37)) ((g788.i _ _ (by decide)).trans (w769_41)) (li_59) (by omega))) ?_
                  refine rsr (jv_e) ?_
                  exact Rs.ok (Or.inr ⟨1, ((pl i769)), f786, (Fr.sI (by decide) (Fr.sI (by decide) (Fr.m f788 (by decide)))), ⟨i769, sz785, sn785, uc785, e786_k0, e786_k1, e786_k2, e786_k3, e786_sz785, e786_sn785, e786_uc785, by omega⟩, ⟨(e769 + 1), s, u769, mu, ut, (sI_nej (by decide)).trans (sI_eq), sI_eq, (sI_nej (by decide)).trans ((sI_nej (by decide)).trans (e788_k0)), (sI_nej (by decide)).trans ((sI_nej (by decide)).trans ((g788.i _ _ (by decide)).trans (w769_51))), (sI_nej (by decide)).trans ((sI_nej (by decide)).trans ((g788.i _ _ (by decide)).trans (w769_53))), (sI_nej (by decide)).trans ((sI_nej (by decide)).trans ((g788.i _ _ (by decide)).trans ((FR769.i _ _ (by decide)).trans h48))), (sI_nej (by decide)).trans ((sI_nej (by decide)).trans ((g788.i _ _ (by decide)).trans ((FR769.i _ _ (by decide)).trans h49))), by omega⟩⟩)
                ·
                  refine rsl (cV_e (a64_2 (by omega) hS (hC.fr FL769) (hTk.fr (WL := W_cp) FL769 (by decide)) (q769_12) (q769_13) (q769_10) (li_59) (by omega))) ?_
                  refine rsl (jn_v) ?_
                  refine rsl (if_pos (eqI_p (li_0) (li_0) (by omega))) ?_
                  refine rsl (vC_e (ck_65 (hC.fr FL769).sI.sI.sI)) ?_
                  refine RlV (y106 (by omega) (hC.fr FL769).sI.sI.sI (hTk.fr (WL := W_cp) (Fr.sI (by decide) (Fr.sI (by decide) (Fr.sI (by decide) FL769))) (by decide)) ((sI_nej (by decide)).trans ((sI_nej (by decide)).trans ((sI_nej (by decide)).trans (q769_12)))) (sI_eq) ((sI_nej (by decide)).trans ((sI_nej (by decide)).trans (sI_eq))) ((sI_nej (by decide)).trans (sI_eq)) ((sI_nej (by decide)).trans ((sI_nej (by decide)).trans ((sI_nej (by decide)).trans (q769_9)))) ((sI_nej (by decide)).trans ((sI_nej (by decide)).trans ((sI_nej (by decide)).trans (q769_16)))) ((sI_nej (by decide)).trans ((sI_nej (by decide)).trans ((sI_nej (by decide)).trans (q769_19)))) (congrArg iI p502_0) (li_2) (li_2) (li_4) (by omega)) fun v Ma790 h790 => ?_
                  obtain ⟨sz789, sn789, uc789, g790, e790_sz789, e790_sn789, e790_uc789, e790_k0, e790_k1, e790_k2, e790_k3, p790_0, p790_1, p790_2⟩ := h790
                  have f790 : Fr W_cp Mc Ma790 := Fr.t (Fr.sI (by decide) (Fr.sI (by decide) (Fr.sI (by decide) FL769))) (Fr.m g790 (by decide))
                  refine rsl (cV_e rfl) ?_
                  refine rsl (jv_e) ?_
                  refine rsr (jn_v) ?_
                  refine rsr (if_neg (lsI_n (congrArg iI (if_neg (by omega))) (li_0) (by omega))) ?_
                  refine rsr (vC_e (rk_160 (hR.fr FR769))) ?_
                  refine RrI (a196 (by omega) (hR.fr FR769) (w769_43) ((FR769.i _ _ (by decide)).trans h49) ((FR769.i _ _ (by decide)).trans h48) (li_2) (congrArg iI (if_neg (by omega))) (by omega)) fun v Ma792 h792 => ?_
                  obtain ⟨r791, rfl, g792, e792_k0, p792_0, p792_1⟩ := h792
                  have f792 : Fr W_rx Mr Ma792 := Fr.t FR769 (Fr.m g792 (by decide))
                  refine rsr (cI_e rfl) ?_
                  refine rsr (jv_e) ?_
                  refine rsr (vC_e (rk_160 (hR.fr f792))) ?_
                  refine rsr (cI_e (a195_59_2 (by omega) hS (hR.fr f792) ((g792.i _ _ (by decide)).trans (w769_36)) ((g792.i _ _ (by decide)).trans (w769_37)) ((g792.i _ _ (by decide)).trans (w769_41)) (li_59) (by omega))) ?_
                  refine rsr (jv_e) ?_
                  exact Rs.ok (Or.inr ⟨2, ((pl i769)), f790, (Fr.sI (by decide) (Fr.sI (by decide) (Fr.m f792 (by decide)))), ⟨i769, sz789, sn789, uc789, e790_k0, e790_k1, e790_k2, e790_k3, e790_sz789, e790_sn789, e790_uc789, by omega⟩, ⟨(e769 + 1), s, u769, mu, ut, (sI_nej (by decide)).trans (sI_eq), sI_eq, (sI_nej (by decide)).trans ((sI_nej (by decide)).trans (e792_k0)), (sI_nej (by decide)).trans ((sI_nej (by decide)).trans ((g792.i _ _ (by decide)).trans (w769_51))), (sI_nej (by decide)).trans ((sI_nej (by decide)).trans ((g792.i _ _ (by decide)).trans (w769_53))), (sI_nej (by decide)).trans ((sI_nej (by decide)).trans ((g792.i _ _ (by decide)).trans ((FR769.i _ _ (by decide)).trans h48))), (sI_nej (by decide)).trans ((sI_nej (by decide)).trans ((g792.i _ _ (by decide)).trans ((FR769.i _ _ (by decide)).trans h49))), by omega⟩⟩)
            ·
              have FL769 : Fr W_cp Mc Mx769 := Fr.t (Fr.sI (by decide) (Fr.sI (by decide) f502)) fl769
              have FR769 : Fr W_rp Mr Nx769 := Fr.t (Fr.m (Fr.sI (by decide) f768) W_rx_p) fr769
              obtain ⟨ti769, tz769, tn769, tu769, t13769, t10769, t11769, t12769, t9769, t16769, t19769, tb769⟩ := tc769
              obtain ⟨re769, rn769, ru769, rm769, rt769, u41769, u42769, u43769, u51769, u53769, u48769, u49769, ub769⟩ := tr769
              refine rsl (cV_e rfl) ?_
              refine rsr (cV_e rfl) ?_
              refine rsl (vC_e (ck_65 (hC.fr FL769))) ?_
              refine RlV (y64 (by omega) (hC.fr FL769) (hTk.fr (WL := W_cp) FL769 (by decide)) (t12769) (t13769) (t10769) (t11769) (t9769) (t16769) (t19769) (li_59) (by omega)) fun v Ma794 h794 => ?_
              obtain ⟨sz793, sn793, uc793, g794, e794_sz793, e794_sn793, e794_uc793, e794_k0, e794_k1, e794_k2, e794_k3, p794_0, p794_1, p794_2⟩ := h794
              have f794 : Fr W_cp Mc Ma794 := Fr.t FL769 (Fr.m g794 (by decide))
              refine rsl (cV_e rfl) ?_
              refine rsl (jn_v) ?_
              refine rsl (if_pos (eqI_p (li_0) (li_0) (by omega))) ?_
              refine rsl (vC_e (ck_65 (hC.fr f794))) ?_
              refine RlV (y106 (by omega) (hC.fr f794) (hTk.fr (WL := W_cp) f794 (by decide)) (e794_k3) (e794_k0) (e794_k1) (e794_k2) (e794_sz793) (e794_sn793) (e794_uc793) (congrArg iI p502_0) (li_2) (li_2) (li_4) (by omega)) fun v Ma796 h796 => ?_
              obtain ⟨sz795, sn795, uc795, g796, e796_sz795, e796_sn795, e796_uc795, e796_k0, e796_k1, e796_k2, e796_k3, p796_0, p796_1, p796_2⟩ := h796
              have f796 : Fr W_cp Mc Ma796 := Fr.t f794 (Fr.m g796 (by decide))
              refine rsl (cV_e rfl) ?_
              refine rsl (jv_e) ?_
              refine rsr (jn_v) ?_
              refine rsr (if_neg (lsI_n (congrArg iI (if_neg (by omega))) (li_0) (by omega))) ?_
              refine rsr (vC_e (rk_160 (hR.fr FR769))) ?_
              refine RrI (x196_s (by omega) (hR.fr FR769) (u41769) (u42769) (u43769) (u51769) (u53769) (u48769) (u49769) (li_2) (congrArg iI (if_neg (by omega))) (by omega)) fun v Ma798 h798 => ?_
              obtain ⟨rv797, em797, rfl, g798, e798_em797, e798_k0, e798_k1, e798_k2, e798_k3, e798_k4, p798_0, p798_1⟩ := h798
              have f798 : Fr W_rp Mr Ma798 := Fr.t FR769 (Fr.m g798 (by decide))
              refine rsr (cI_e rfl) ?_
              refine rsr (jv_e) ?_
              refine rsr (vC_e (rk_160 (hR.fr f798))) ?_
              refine RrI (x195_s (by omega) (hR.fr f798) (e798_k0) (e798_k1) (e798_em797) (e798_k2) (e798_k3) (e798_k4) ((g798.i _ _ (by decide)).trans (u49769)) (li_59) (by omega)) fun v Ma800 h800 => ?_
              obtain ⟨rv799, em799, rfl, g800, e800_em799, e800_k0, e800_k1, e800_k2, e800_k3, e800_k4, p800_0, p800_1⟩ := h800
              have f800 : Fr W_rp Mr Ma800 := Fr.t f798 (Fr.m g800 (by decide))
              refine rsr (cI_e rfl) ?_
              refine rsr (jv_e) ?_
              exact Rs.ok (Or.inr ⟨F769, P769, f796, f800, ⟨ti769, sz795, sn795, uc795, e796_k0, e796_k1, e796_k2, e796_k3, e796_sz795, e796_sn795, e796_uc795, by omega⟩, ⟨em799, rn769, ru769, rm769, rt769, e800_k0, e800_k1, e800_em799, e800_k2, e800_k3, e800_k4, (g800.i _ _ (by decide)).trans ((g798.i _ _ (by decide)).trans (u49769)), by omega⟩⟩)
        ·
          by_cases c801 : ((kd (i + 1))) = 1
          ·
            refine rsl (cV_e (a64_1 (by omega) hS (hC.fr f502) (hTk.fr (WL := W_cp) f502 (by decide)) (e502_k0) (e502_k2) (e502_k3) (li_61) (by omega))) ?_
            refine rsl (vC_e (ck_65 (hC.fr f502).sI.sI.sI)) ?_
            refine RlV (y99_0 (by omega) (hC.fr f502).sI.sI.sI (hTk.fr (WL := W_cp) (Fr.sI (by decide) (Fr.sI (by decide) (Fr.sI (by decide) f502))) (by decide)) ((sI_nej (by decide)).trans ((sI_nej (by decide)).trans ((sI_nej (by decide)).trans (e502_k0)))) (sI_eq) ((sI_nej (by decide)).trans ((sI_nej (by decide)).trans (sI_eq))) ((sI_nej (by decide)).trans (sI_eq)) ((sI_nej (by decide)).trans ((sI_nej (by decide)).trans ((sI_nej (by decide)).trans ((g502.i _ _ (by decide)).trans (qa_9))))) ((sI_nej (by decide)).trans ((sI_nej (by decide)).trans ((sI_nej (by decide)).trans ((g502.i _ _ (by decide)).trans (qa_16))))) ((sI_nej (by decide)).trans ((sI_nej (by decide)).trans ((sI_nej (by decide)).trans (e502_k1)))) (li_0) (hv0) (by omega)) fun v Ma803 h803 => ?_
            obtain ⟨sz802, sn802, uc802, g803, e803_sz802, e803_sn802, e803_uc802, e803_k0, e803_k1, e803_k2, e803_k3, p803_0, p803_1, p803_2⟩ := h803
            have f803 : Fr W_cp Mc Ma803 := Fr.t (Fr.sI (by decide) (Fr.sI (by decide) (Fr.sI (by decide) f502))) (Fr.m g803 (by decide))
            refine rsl (cV_e rfl) ?_
            refine rsl (vC_e (ck_65 (hC.fr f803))) ?_
            refine RlV (y64 (by omega) (hC.fr f803) (hTk.fr (WL := W_cp) f803 (by decide)) (e803_k3) (e803_k0) (e803_k1) (e803_k2) (e803_sz802) (e803_sn802) (e803_uc802) (li_59) (by omega)) fun v Ma805 h805 => ?_
            obtain ⟨sz804, sn804, uc804, g805, e805_sz804, e805_sn804, e805_uc804, e805_k0, e805_k1, e805_k2, e805_k3, p805_0, p805_1, p805_2⟩ := h805
            have f805 : Fr W_cp Mc Ma805 := Fr.t f803 (Fr.m g805 (by decide))
            refine rsl (cV_e rfl) ?_
            refine rsl (jn_v) ?_
            refine rsl (if_pos (eqI_p (li_0) (li_0) (by omega))) ?_
            refine rsl (vC_e (ck_65 (hC.fr f805))) ?_
            refine RlV (y106 (by omega) (hC.fr f805) (hTk.fr (WL := W_cp) f805 (by decide)) (e805_k3) (e805_k0) (e805_k1) (e805_k2) (e805_sz804) (e805_sn804) (e805_uc804) (congrArg iI p502_0) (li_2) (li_2) (li_4) (by omega)) fun v Ma807 h807 => ?_
            obtain ⟨sz806, sn806, uc806, g807, e807_sz806, e807_sn806, e807_uc806, e807_k0, e807_k1, e807_k2, e807_k3, p807_0, p807_1, p807_2⟩ := h807
            have f807 : Fr W_cp Mc Ma807 := Fr.t f805 (Fr.m g807 (by decide))
            refine rsl (cV_e rfl) ?_
            refine rsl (jv_e) ?_
            refine rsr (gtI_q (w := iI ((kr (kd i)))) (rk_160 hR) (wa_36)) ?_
            refine rsr (jn_v) ?_
            refine rsr (swI_c) ?_
            refine rsr (if_neg (krI_n (k := 215) (rfl) (li_416) (hS.ok i (by omega) (by omega)) (by unfold KdOK sgk; omega) (by decide +kernel) (by omega) (by omega))) ?_
            refine rsr (swI_c) ?_
            refine rsr (if_neg (krI_n (k := 216) (rfl) (li_417) (hS.ok i (by omega) (by omega)) (by unfold KdOK sgk; omega) (by decide +kernel) (by omega) (by omega))) ?_
            refine rsr (swI_c) ?_
            refine rsr (if_neg (krI_n (k := 217) (rfl) (li_418) (hS.ok i (by omega) (by omega)) (by unfold KdOK sgk; omega) (by decide +kernel) (by omega) (by omega))) ?_
            refine rsr (swI_c) ?_
            refine rsr (if_neg (krI_n (k := 218) (rfl) (li_419) (hS.ok i (by omega) (by omega)) (by unfold KdOK sgk; omega) (by decide +kernel) (by omega) (by omega))) ?_
            refine rsr (swI_c) ?_
            refine rsr (if_neg (krI_n (k := 219) (rfl) (li_420) (hS.ok i (by omega) (by omega)) (by unfold KdOK sgk; omega) (by decide +kernel) (by omega) (by omega))) ?_
            refine rsr (swI_c) ?_
            refine rsr (if_neg (krI_n (k := 220) (rfl) (li_421) (hS.ok i (by omega) (by omega)) (by unfold KdOK sgk; omega) (by decide +kernel) (by omega) (by omega))) ?_
            refine rsr (swI_c) ?_
            refine rsr (if_neg (krI_n (k := 221) (rfl) (li_422) (hS.ok i (by omega) (by omega)) (by unfold KdOK sgk; omega) (by decide +kernel) (by omega) (by omega))) ?_
            refine rsr (swI_c) ?_
            refine rsr (if_neg (krI_n (k := 222) (rfl) (li_423) (hS.ok i (by omega) (by omega)) (by unfold KdOK sgk; omega) (by decide +kernel) (by omega) (by omega))) ?_
            refine rsr (swI_n) ?_
            refine rsr (gtI_q (w := iI ((kr (kd i)))) (rk_160 hR) (wa_36)) ?_
            refine rsr (jn_v) ?_
            refine rsr (if_pos (krI_p (k := 3) (rfl) (li_1) (by omega) (by decide +kernel))) ?_
            refine rsr (jv_e) ?_
            refine rsr (vC_e (rk_160 hR)) ?_
            refine rsr (cI_e (ar193_p (by omega) hS hR (wa_36) (wa_37) (wa_41) (li_1) (by omega))) ?_
            refine rsr (if_neg (eqI_n (rfl) (li_0) (by omega))) ?_
            refine rsr (vC_e (rk_160 hR)) ?_
            refine Rs_cVr ?_ (fun v M w N h => rs1 jv_e (Rt.ok h))
            obtain ⟨d2, rfl⟩ : ∃ e, d2 = e + 1 := ⟨d2 - 1, by omega⟩
            rw [r217]; unfold b217; rw [aR_e, aZ_e]; unfold c217
            refine rsr (vC_e (rk_160 hR)) ?_
            refine RrI (a201_u (by omega) hS hR (hT.fr (W := W_rx) Fr.r (by decide) (by decide)) (fun i a b => (Fr.lc (W := W_rx) Fr.r _ (by decide) _).trans (hW i a b)) (wa_36) (wa_37) (wa_38) (wa_41) (h49) (wa_53) wa_n (by omega)) fun v Ma809 h809 => ?_
            obtain ⟨r808, rfl, g809, e809_k0, e809_k1, e809_k2, e809_k3, e809_k4, p809_0, p809_1, p809_2⟩ := h809
            have f809 : Fr W_rx Mr Ma809 := Fr.t Fr.r (Fr.m g809 (by decide))
            refine rsr (cI_e rfl) ?_
            refine rsr (gtI_q (w := iI 0) (rk_160 (hR.fr f809)) (e809_k4)) ?_
            refine rsr (if_pos (eqI_p (rfl) (li_0) (by omega))) ?_
            refine rsr (gtP_q (w := some 202) (rk_160 (hR.fr f809)) (rf_56 (hR.fr f809))) ?_
            refine rsr (alL_q (n := 2000) (z := u) (w := (0 : Int64)) (rk_202 (hR.fr f809)) (congrArg iI p809_0) (by omega) (p809_1.2.2.2.1)) ?_
            refine rsr (jn_v) ?_
            refine rsr (if_pos (lgc_p (rfl) (rfl) rfl)) ?_
            refine rsr (gtP_q (w := some 204) (rk_160 (hR.fr f809)) (rf_58 (hR.fr f809))) ?_
            refine rsr (alL_q (n := 2000) (z := u) (w := (tx i)) (rk_204 (hR.fr f809)) (congrArg iI p809_0) (by omega) (p809_1.2.2.2.2.2.1)) ?_
            refine rsr (vC_e (rk_160 (hR.fr f809))) ?_
            obtain ⟨rl, hrl⟩ : ∃ r, LcF Hl sn806 (tx i) r := by have q := LcF_ex (Hl := Hl) (y := (tx i)) sn806.toNat; rw [show ((sn806.toNat : Nat) : Int) = sn806 by omega] at q; exact q
            have brl := hrl.bd
            by_cases crl : rl = -1
            ·
              subst crl
              refine RrI (a197 (by omega) (hR.fr f809) ((g809.i _ _ (by decide)).trans (wa_51)) (lra.fr g809 (by decide)) (by omega)) fun v Nl810 hl810 => ?_
              obtain ⟨r9, rfl, hMl, hr9⟩ := hl810
              rw [hMl]
              have q9 := LcF.one hr9 hrl
              rw [q9]
              refine rsr (cI_e rfl) ?_
              refine rsr (jv_e) ?_
              try dsimp only
              refine rsr (gtI_q (w := iI ((kr (kd (i + 1))))) (rk_160 (hR.fr f809)) (e809_k1)) ?_
              refine rsr (jn_v) ?_
              refine rsr (if_neg (krI_n (k := 40) (rfl) (li_40) (hS.ok (i + 1) (by omega) (by omega)) (by unfold KdOK sgk; omega) (by decide +kernel) (by omega) (by omega))) ?_
              refine rsr (gtI_q (w := iI ((kr (kd (i + 1))))) (rk_160 (hR.fr f809)) (e809_k1)) ?_
              refine rsr (if_neg (krI_n (k := 91) (rfl) (li_91) (hS.ok (i + 1) (by omega) (by omega)) (by unfold KdOK sgk; omega) (by decide +kernel) (by omega) (by omega))) ?_
              refine rsr (vC_e (rk_160 (hR.fr f809))) ?_
              refine rsr (cI_e (a195_61_1 (by omega) hS (hR.fr f809) (e809_k1) (e809_k2) (e809_k4) (li_61) (by omega))) ?_
              refine rsr (if_pos (eqI_p (rfl) (li_0) (by omega))) ?_
              refine rsr (jv_e) ?_
              exact Rs.ok (Or.inr ⟨1, ((pl (i + 1))), f807, (Fr.sI (by decide) (Fr.sI (by decide) (Fr.m f809 (by decide)))), ⟨(i + 1), sz806, sn806, uc806, e807_k0, e807_k1, e807_k2, e807_k3, e807_sz806, e807_sn806, e807_uc806, by omega⟩, ⟨e, s, (u + 1), mu, ut, (sI_nej (by decide)).trans (sI_eq), sI_eq, (sI_nej (by decide)).trans ((sI_nej (by decide)).trans ((g809.i _ _ (by decide)).trans (wa_43))), (sI_nej (by decide)).trans ((sI_nej (by decide)).trans ((g809.i _ _ (by decide)).trans (wa_51))), (sI_nej (by decide)).trans ((sI_nej (by decide)).trans (e809_k0)), (sI_nej (by decide)).trans ((sI_nej (by decide)).trans ((g809.i _ _ (by decide)).trans (h48))), (sI_nej (by decide)).trans ((sI_nej (by decide)).trans ((g809.i _ _ (by decide)).trans (h49))), by omega⟩⟩)
            ·
              refine RrI (a197 (by omega) (hR.fr f809) ((g809.i _ _ (by decide)).trans (wa_51)) (lra.fr g809 (by decide)) (by omega)) fun v Nl810 hl810 => ?_
              obtain ⟨r9, rfl, hMl, hr9⟩ := hl810
              rw [hMl]
              have q9 := LcF.one hr9 hrl
              rw [q9]
              refine rsr (cI_e rfl) ?_
              refine rsr (jv_e) ?_
              try dsimp only
              refine rsr (gtI_q (w := iI ((kr (kd (i + 1))))) (rk_160 (hR.fr f809)) (e809_k1)) ?_
              refine rsr (jn_v) ?_
              refine rsr (if_neg (krI_n (k := 40) (rfl) (li_40) (hS.ok (i + 1) (by omega) (by omega)) (by unfold KdOK sgk; omega) (by decide +kernel) (by omega) (by omega))) ?_
              refine rsr (gtI_q (w := iI ((kr (kd (i + 1))))) (rk_160 (hR.fr f809)) (e809_k1)) ?_
              refine rsr (if_neg (krI_n (k := 91) (rfl) (li_91) (hS.ok (i + 1) (by omega) (by omega)) (by unfold KdOK sgk; omega) (by decide +kernel) (by omega) (by omega))) ?_
              refine rsr (vC_e (rk_160 (hR.fr f809))) ?_
              refine rsr (cI_e (a195_61_1 (by omega) hS (hR.fr f809) (e809_k1) (e809_k2) (e809_k4) (li_61) (by omega))) ?_
              refine rsr (if_pos (eqI_p (rfl) (li_0) (by omega))) ?_
              refine rsr (jv_e) ?_
              exact Rs.ok (Or.inr ⟨1, ((pl (i + 1))), f807, (Fr.sI (by decide) (Fr.sI (by decide) (Fr.m f809 (by decide)))), ⟨(i + 1), sz806, sn806, uc806, e807_k0, e807_k1, e807_k2, e807_k3, e807_sz806, e807_sn806, e807_uc806, by omega⟩, ⟨e, s, (u + 1), mu, ut, (sI_nej (by decide)).trans (sI_eq), sI_eq, (sI_nej (by decide)).trans ((sI_nej (by decide)).trans ((g809.i _ _ (by decide)).trans (wa_43))), (sI_nej (by decide)).trans ((sI_nej (by decide)).trans ((g809.i _ _ (by decide)).trans (wa_51))), (sI_nej (by decide)).trans ((sI_nej (by decide)).trans (e809_k0)), (sI_nej (by decide)).trans ((sI_nej (by decide)).trans ((g809.i _ _ (by decide)).trans (h48))), (sI_nej (by decide)).trans ((sI_nej (by decide)).trans ((g809.i _ _ (by decide)).trans (h49))), by omega⟩⟩)
          ·
            refine rsl (cV_e (a64_2 (by omega) hS (hC.fr f502) (hTk.fr (WL := W_cp) f502 (by decide)) (e502_k0) (e502_k2) (e502_k3) (li_61) (by omega))) ?_
            refine rsl (vC_e (ck_65 (hC.fr f502).sI.sI.sI)) ?_
            refine RlV (y99_0 (by omega) (hC.fr f502).sI.sI.sI (hTk.fr (WL := W_cp) (Fr.sI (by decide) (Fr.sI (by decide) (Fr.sI (by decide) f502))) (by decide)) ((sI_nej (by decide)).trans ((sI_nej (by decide)).trans ((sI_nej (by decide)).trans (e502_k0)))) (sI_eq) ((sI_nej (by decide)).trans ((sI_nej (by decide)).trans (sI_eq))) ((sI_nej (by decide)).trans (sI_eq)) ((sI_nej (by decide)).trans ((sI_nej (by decide)).trans ((sI_nej (by decide)).trans ((g502.i _ _ (by decide)).trans (qa_9))))) ((sI_nej (by decide)).trans ((sI_nej (by decide)).trans ((sI_nej (by decide)).trans ((g502.i _ _ (by decide)).trans (qa_16))))) ((sI_nej (by decide)).trans ((sI_nej (by decide)).trans ((sI_nej (by decide)).trans (e502_k1)))) (li_0) (hv0) (by omega)) fun v Ma812 h812 => ?_
            obtain ⟨sz811, sn811, uc811, g812, e812_sz811, e812_sn811, e812_uc811, e812_k0, e812_k1, e812_k2, e812_k3, p812_0, p812_1, p812_2⟩ := h812
            have f812 : Fr W_cp Mc Ma812 := Fr.t (Fr.sI (by decide) (Fr.sI (by decide) (Fr.sI (by decide) f502))) (Fr.m g812 (by decide))
            refine rsl (cV_e rfl) ?_
            refine rsl (vC_e (ck_65 (hC.fr f812))) ?_
            refine RlV (y64 (by omega) (hC.fr f812) (hTk.fr (WL := W_cp) f812 (by decide)) (e812_k3) (e812_k0) (e812_k1) (e812_k2) (e812_sz811) (e812_sn811) (e812_uc811) (li_59) (by omega)) fun v Ma814 h814 => ?_
            obtain ⟨sz813, sn813, uc813, g814, e814_sz813, e814_sn813, e814_uc813, e814_k0, e814_k1, e814_k2, e814_k3, p814_0, p814_1, p814_2⟩ := h814
            have f814 : Fr W_cp Mc Ma814 := Fr.t f812 (Fr.m g814 (by decide))
            refine rsl (cV_e rfl) ?_
            refine rsl (jn_v) ?_
            refine rsl (if_pos (eqI_p (li_0) (li_0) (by omega))) ?_
            refine rsl (vC_e (ck_65 (hC.fr f814))) ?_
            refine RlV (y106 (by omega) (hC.fr f814) (hTk.fr (WL := W_cp) f814 (by decide)) (e814_k3) (e814_k0) (e814_k1) (e814_k2) (e814_sz813) (e814_sn813) (e814_uc813) (congrArg iI p502_0) (li_2) (li_2) (li_4) (by omega)) fun v Ma816 h816 => ?_
            obtain ⟨sz815, sn815, uc815, g816, e816_sz815, e816_sn815, e816_uc815, e816_k0, e816_k1, e816_k2, e816_k3, p816_0, p816_1, p816_2⟩ := h816
            have f816 : Fr W_cp Mc Ma816 := Fr.t f814 (Fr.m g816 (by decide))
            refine rsl (cV_e rfl) ?_
            refine rsl (jv_e) ?_
            refine rsr (gtI_q (w := iI ((kr (kd i)))) (rk_160 hR) (wa_36)) ?_
            refine rsr (jn_v) ?_
            refine rsr (swI_c) ?_
            refine rsr (if_neg (krI_n (k := 215) (rfl) (li_416) (hS.ok i (by omega) (by omega)) (by unfold KdOK sgk; omega) (by decide +kernel) (by omega) (by omega))) ?_
            refine rsr (swI_c) ?_
            refine rsr (if_neg (krI_n (k := 216) (rfl) (li_417) (hS.ok i (by omega) (by omega)) (by unfold KdOK sgk; omega) (by decide +kernel) (by omega) (by omega))) ?_
            refine rsr (swI_c) ?_
            refine rsr (if_neg (krI_n (k := 217) (rfl) (li_418) (hS.ok i (by omega) (by omega)) (by unfold KdOK sgk; omega) (by decide +kernel) (by omega) (by omega))) ?_
            refine rsr (swI_c) ?_
            refine rsr (if_neg (krI_n (k := 218) (rfl) (li_419) (hS.ok i (by omega) (by omega)) (by unfold KdOK sgk; omega) (by decide +kernel) (by omega) (by omega))) ?_
            refine rsr (swI_c) ?_
            refine rsr (if_neg (krI_n (k := 219) (rfl) (li_420) (hS.ok i (by omega) (by omega)) (by unfold KdOK sgk; omega) (by decide +kernel) (by omega) (by omega))) ?_
            refine rsr (swI_c) ?_
            refine rsr (if_neg (krI_n (k := 220) (rfl) (li_421) (hS.ok i (by omega) (by omega)) (by unfold KdOK sgk; omega) (by decide +kernel) (by omega) (by omega))) ?_
            refine rsr (swI_c) ?_
            refine rsr (if_neg (krI_n (k := 221) (rfl) (li_422) (hS.ok i (by omega) (by omega)) (by unfold KdOK sgk; omega) (by decide +kernel) (by omega) (by omega))) ?_
            refine rsr (swI_c) ?_
            refine rsr (if_neg (krI_n (k := 222) (rfl) (li_423) (hS.ok i (by omega) (by omega)) (by unfold KdOK sgk; omega) (by decide +kernel) (by omega) (by omega))) ?_
            refine rsr (swI_n) ?_
            refine rsr (gtI_q (w := iI ((kr (kd i)))) (rk_160 hR) (wa_36)) ?_
            refine rsr (jn_v) ?_
            refine rsr (if_pos (krI_p (k := 3) (rfl) (li_1) (by omega) (by decide +kernel))) ?_
            refine rsr (jv_e) ?_
            refine rsr (vC_e (rk_160 hR)) ?_
            refine rsr (cI_e (ar193_p (by omega) hS hR (wa_36) (wa_37) (wa_41) (li_1) (by omega))) ?_
            refine rsr (if_neg (eqI_n (rfl) (li_0) (by omega))) ?_
            refine rsr (vC_e (rk_160 hR)) ?_
            refine Rs_cVr ?_ (fun v M w N h => rs1 jv_e (Rt.ok h))
            obtain ⟨d2, rfl⟩ : ∃ e, d2 = e + 1 := ⟨d2 - 1, by omega⟩
            rw [r217]; unfold b217; rw [aR_e, aZ_e]; unfold c217
            refine rsr (vC_e (rk_160 hR)) ?_
            refine RrI (a201_u (by omega) hS hR (hT.fr (W := W_rx) Fr.r (by decide) (by decide)) (fun i a b => (Fr.lc (W := W_rx) Fr.r _ (by decide) _).trans (hW i a b)) (wa_36) (wa_37) (wa_38) (wa_41) (h49) (wa_53) wa_n (by omega)) fun v Ma818 h818 => ?_
            obtain ⟨r817, rfl, g818, e818_k0, e818_k1, e818_k2, e818_k3, e818_k4, p818_0, p818_1, p818_2⟩ := h818
            have f818 : Fr W_rx Mr Ma818 := Fr.t Fr.r (Fr.m g818 (by decide))
            refine rsr (cI_e rfl) ?_
            refine rsr (gtI_q (w := iI 0) (rk_160 (hR.fr f818)) (e818_k4)) ?_
            refine rsr (if_pos (eqI_p (rfl) (li_0) (by omega))) ?_
            refine rsr (gtP_q (w := some 202) (rk_160 (hR.fr f818)) (rf_56 (hR.fr f818))) ?_
            refine rsr (alL_q (n := 2000) (z := u) (w := (0 : Int64)) (rk_202 (hR.fr f818)) (congrArg iI p818_0) (by omega) (p818_1.2.2.2.1)) ?_
            refine rsr (jn_v) ?_
            refine rsr (if_pos (lgc_p (rfl) (rfl) rfl)) ?_
            refine rsr (gtP_q (w := some 204) (rk_160 (hR.fr f818)) (rf_58 (hR.fr f818))) ?_
            refine rsr (alL_q (n := 2000) (z := u) (w := (tx i)) (rk_204 (hR.fr f818)) (congrArg iI p818_0) (by omega) (p818_1.2.2.2.2.2.1)) ?_
            refine rsr (vC_e (rk_160 (hR.fr f818))) ?_
            obtain ⟨rl, hrl⟩ : ∃ r, LcF Hl sn815 (tx i) r := by have q := LcF_ex (Hl := Hl) (y := (tx i)) sn815.toNat; rw [show ((sn815.toNat : Nat) : Int) = sn815 by omega] at q; exact q
            have brl := hrl.bd
            by_cases crl : rl = -1
            ·
              subst crl
              refine RrI (a197 (by omega) (hR.fr f818) ((g818.i _ _ (by decide)).trans (wa_51)) (lra.fr g818 (by decide)) (by omega)) fun v Nl819 hl819 => ?_
              obtain ⟨r9, rfl, hMl, hr9⟩ := hl819
              rw [hMl]
              have q9 := LcF.one hr9 hrl
              rw [q9]
              refine rsr (cI_e rfl) ?_
              refine rsr (jv_e) ?_
              try dsimp only
              refine rsr (gtI_q (w := iI ((kr (kd (i + 1))))) (rk_160 (hR.fr f818)) (e818_k1)) ?_
              refine rsr (jn_v) ?_
              refine rsr (if_neg (krI_n (k := 40) (rfl) (li_40) (hS.ok (i + 1) (by omega) (by omega)) (by unfold KdOK sgk; omega) (by decide +kernel) (by omega) (by omega))) ?_
              refine rsr (gtI_q (w := iI ((kr (kd (i + 1))))) (rk_160 (hR.fr f818)) (e818_k1)) ?_
              refine rsr (if_neg (krI_n (k := 91) (rfl) (li_91) (hS.ok (i + 1) (by omega) (by omega)) (by unfold KdOK sgk; omega) (by decide +kernel) (by omega) (by omega))) ?_
              refine rsr (vC_e (rk_160 (hR.fr f818))) ?_
              refine rsr (cI_e (a195_61_2 (by omega) hS (hR.fr f818) (e818_k1) (e818_k2) (e818_k4) (li_61) (by omega))) ?_
              refine rsr (if_pos (eqI_p (rfl) (li_0) (by omega))) ?_
              refine rsr (jv_e) ?_
              exact Rs.ok (Or.inr ⟨2, ((pl (i + 1))), f816, (Fr.sI (by decide) (Fr.sI (by decide) (Fr.m f818 (by decide)))), ⟨(i + 1), sz815, sn815, uc815, e816_k0, e816_k1, e816_k2, e816_k3, e816_sz815, e816_sn815, e816_uc815, by omega⟩, ⟨e, s, (u + 1), mu, ut, (sI_nej (by decide)).trans (sI_eq), sI_eq, (sI_nej (by decide)).trans ((sI_nej (by decide)).trans ((g818.i _ _ (by decide)).trans (wa_43))), (sI_nej (by decide)).trans ((sI_nej (by decide)).trans ((g818.i _ _ (by decide)).trans (wa_51))), (sI_nej (by decide)).trans ((sI_nej (by decide)).trans (e818_k0)), (sI_nej (by decide)).trans ((sI_nej (by decide)).trans ((g818.i _ _ (by decide)).trans (h48))), (sI_nej (by decide)).trans ((sI_nej (by decide)).trans ((g818.i _ _ (by decide)).trans (h49))), by omega⟩⟩)
            ·
              refine RrI (a197 (by omega) (hR.fr f818) ((g818.i _ _ (by decide)).trans (wa_51)) (lra.fr g818 (by decide)) (by omega)) fun v Nl819 hl819 => ?_
              obtain ⟨r9, rfl, hMl, hr9⟩ := hl819
              rw [hMl]
              have q9 := LcF.one hr9 hrl
              rw [q9]
              refine rsr (cI_e rfl) ?_
              refine rsr (jv_e) ?_
              try dsimp only
              refine rsr (gtI_q (w := iI ((kr (kd (i + 1))))) (rk_160 (hR.fr f818)) (e818_k1)) ?_
              refine rsr (jn_v) ?_
              refine rsr (if_neg (krI_n (k := 40) (rfl) (li_40) (hS.ok (i + 1) (by omega) (by omega)) (by unfold KdOK sgk; omega) (by decide +kernel) (by omega) (by omega))) ?_
              refine rsr (gtI_q (w := iI ((kr (kd (i + 1))))) (rk_160 (hR.fr f818)) (e818_k1)) ?_
              refine rsr (if_neg (krI_n (k := 91) (rfl) (li_91) (hS.ok (i + 1) (by omega) (by omega)) (by unfold KdOK sgk; omega) (by decide +kernel) (by omega) (by omega))) ?_
              refine rsr (vC_e (rk_160 (hR.fr f818))) ?_
              refine rsr (cI_e (a195_61_2 (by omega) hS (hR.fr f818) (e818_k1) (e818_k2) (e818_k4) (li_61) (by omega))) ?_
              refine rsr (if_pos (eqI_p (rfl) (li_0) (by omega))) ?_
              refine rsr (jv_e) ?_
              exact Rs.ok (Or.inr ⟨2, ((pl (i + 1))), f816, (Fr.sI (by decide) (Fr.sI (by decide) (Fr.m f818 (by decide)))), ⟨(i + 1), sz815, sn815, uc815, e816_k0, e816_k1, e816_k2, e816_k3, e816_sz815, e816_sn815, e816_uc815, by omega⟩, ⟨e, s, (u + 1), mu, ut, (sI_nej (by decide)).trans (sI_eq), sI_eq, (sI_nej (by decide)).trans ((sI_nej (by decide)).trans ((g818.i _ _ (by decide)).trans (wa_43))), (sI_nej (by decide)).trans ((sI_nej (by decide)).trans ((g818.i _ _ (by decide)).trans (wa_51))), (sI_nej (by decide)).trans ((sI_nej (by decide)).trans (e818_k0)), (sI_nej (by decide)).trans ((sI_nej (by decide)).trans ((g818.i _ _ (by decide)).trans (h48))), (sI_nej (by decide)).trans ((sI_nej (by decide)).trans ((g818.i _ _ (by decide)).trans (h49))), by omega⟩⟩)
