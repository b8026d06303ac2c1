theorem p_st215 {D : Nat} {dp : Int} (hD : 20 ≤ D) (hE : Pair D 99 [0] 211 14 dp) : PairT 215 92 [] (D + 10) dp := by
  intro d d2 hd hd2 T n m kd pl E tx ua ut mu Mc Mr G U Hl X i e s u uc v0 hS hx hsc hsr hrw hbd hK hv0
  obtain ⟨d, rfl⟩ : ∃ e, d = e + 1 := ⟨d - 1, by omega⟩
  obtain ⟨d2, rfl⟩ : ∃ e, d2 = e + 1 := ⟨d2 - 1, by omega⟩
  show Rs (runX (d + 1) 92 [va_rf (some 65), .int v0] Mc) (runX (d2 + 1) 214 [va_rf (some 160)] Mr) _
  rw [r92]; unfold b92; rw [aR_e, aI_e, aZ_e]; unfold c92; rw [r214]; unfold b214; rw [aR_e, aZ_e]; unfold c214
  have hCx := hx
  obtain ⟨hC, hR, hTk, hT, hW, ⟨hu1, hu2, hu3, hu4⟩, h49, h48, ⟨hb1, hb2, hb3, hb4⟩⟩ := hx
  obtain ⟨bb_0, bb_1, bb_2, bb_3, bb_4, bb_5, bb_6, bb_7, bb_8, bb_9, bb_10, bb_11⟩ := hbd
  have kua : KU uc Mc Mc := KU.r
  obtain ⟨qa_12, qa_13, qa_10, qa_9, qa_16, qa_19⟩ := hsc
  obtain ⟨wa_36, wa_37, wa_38, wa_41, wa_43, wa_51, wa_53, wa_50, wa_n⟩ := hsr
  obtain ⟨caa, raa, lca, lra, cua, rua⟩ := hrw
  have hk1 := (hS.ok i (by omega) (by omega)).r
  have ty2 := (Tye.r (G := G) (a := e) (s := s))
  have du3 := (DU.r (ut := ut) (mu := mu) (c := uc) (G := G) (U := U) (X := X) (a := e) (u := u))
  refine rsl (vC_e (ck_65 hC)) ?_
  have hm4 : i + 1 < m := hS.more i (by omega) (by omega) (by omega)
  refine rsl (cV_e (a63q (by omega) hS hC (hTk.fr (WL := W_cp) Fr.r (by decide)) (qa_12) (qa_13) (qa_10) (i2 := (i + 1)) (by omega) (by omega))) ?_
  have hk5 := (hS.ok (i + 1) (by omega) (by omega)).r
  refine rsl (vC_e (ck_65 hC.sI.sI)) ?_
  refine rsl (cL_e (a65 (by omega) hS hC.sI.sI (hTk.fr (WL := W_cp) (Fr.sI (by decide) (Fr.sI (by decide) Fr.r)) (by decide)) ((sI_nej (by decide)).trans (sI_eq)) (sI_eq) ((sI_nej (by decide)).trans ((sI_nej (by decide)).trans (qa_10))) (by omega))) ?_
  refine rsl (vC_e (ck_65 hC.sI.sI)) ?_
  by_cases c6 : ((kd (i + 1))) = 3
  ·
    refine RlI (a74 (by omega) hC.sI.sI ((sI_nej (by decide)).trans ((sI_nej (by decide)).trans (qa_16))) (lca.fr (W := W_c0) (Fr.sI (by decide) (Fr.sI (by decide) Fr.r)) (by decide)) (x := (tx (i + 1))) (by omega)) fun v Ml hl => ?_
    obtain ⟨rl7, rfl, hMl7, hlc7⟩ := hl
    rw [hMl7]
    refine rsl (cI_e rfl) ?_
    have brl7 := hlc7.bd
    by_cases crl7 : rl7 = -1
    ·
      refine rsl (jn_v) ?_
      refine rsl (if_pos (lsI_p (congrArg iI (if_pos crl7)) (li_0) (by omega))) ?_
      refine rsl (jv_e) ?_
      refine rsl (gtI_q (w := iI s) (ck_65 hC.sI.sI) ((sI_nej (by decide)).trans ((sI_nej (by decide)).trans (qa_16)))) ?_
      refine rsl (jn_v) ?_
      by_cases c8 : s < 10
      · refine rsl (if_pos (lsI_p (rfl) (li_10) (by omega))) ?_
        refine rsl (jv_e) ?_
        refine rsl (vC_e (ck_65 hC.sI.sI)) ?_
        have hm9 : (i + 1) + 1 < m := hS.more (i + 1) (by omega) (by omega) (by omega)
        refine rsl (cL_e (a66q (by omega) hS hC.sI.sI (hTk.fr (WL := W_cp) (Fr.sI (by decide) (Fr.sI (by decide) Fr.r)) (by decide)) ((sI_nej (by decide)).trans (sI_eq)) (sI_eq) ((sI_nej (by decide)).trans ((sI_nej (by decide)).trans (qa_10))) (li_0) (li_0) (i2 := (i + 2)) (by omega) (by omega))) ?_
        have hk10 := (hS.ok (i + 2) (by omega) (by omega)).r
        refine rsl (vC_e (ck_65 hC.sI.sI.sI.sI)) ?_
        by_cases c11 : ((kd (i + 2))) = 61
        ·
          have hm12 : (i + 2) + 1 < m := hS.more (i + 2) (by omega) (by omega) (by omega)
          refine rsl (cV_e (a64q (by omega) hS hC.sI.sI.sI.sI (hTk.fr (WL := W_cp) (Fr.sI (by decide) (Fr.sI (by decide) (Fr.sI (by decide) (Fr.sI (by decide) Fr.r)))) (by decide)) ((sI_nej (by decide)).trans (sI_eq)) (sI_eq) ((sI_nej (by decide)).trans ((sI_nej (by decide)).trans ((sI_nej (by decide)).trans ((sI_nej (by decide)).trans (qa_10))))) (li_61) (i2 := (i + 3)) (by omega) (by omega))) ?_
          have hk13 := (hS.ok (i + 3) (by omega) (by omega)).r
          refine rsl (vC_e (ck_65 hC.sI.sI.sI.sI.sI.sI)) ?_
          refine rsr (gtI_q (w := iI ((kr (kd i)))) (rk_160 hR) (wa_36)) ?_
          refine rsr (jn_v) ?_
          refine rsr (swI_c) ?_
          refine rsr (if_pos (krI_p (k := 215) (rfl) (li_416) (by omega) (by decide +kernel))) ?_
          refine rsr (vC_e (rk_160 hR)) ?_
          refine RrV (nx_ok (by omega) hS hR (hT.fr (W := W_rx) Fr.r (by decide) (by decide)) (fun i a b => (Fr.lc (W := W_rx) Fr.r _ (by decide) _).trans (hW i a b)) (i := i) (wa_41) (wa_38) (by omega) (by omega)) fun v Ma15 h15 => ?_
          obtain ⟨g15, e15_k0, e15_k1, e15_k2, p15_0⟩ := h15
          have f15 : Fr W_rx Mr Ma15 := Fr.t Fr.r (Fr.m g15 (by decide))
          refine rsr (cV_e rfl) ?_
          refine rsr (vC_e (rk_160 (hR.fr f15))) ?_
          refine rsr (cI_e (a198_p (by omega) hS (hR.fr f15) (e15_k0) (e15_k1) ((g15.i _ _ (by decide)).trans (wa_41)) p15_0 ((g15.i _ _ (by decide)).trans (wa_51)) (lra.fr g15 (by decide)) hlc7 (by omega))) ?_
          refine rsr (if_neg (eqI_n (rfl) (li_0) (by omega))) ?_
          refine rsr (gtL_q (w := (tx (i + 1))) (rk_160 (hR.fr f15)) (p15_0.1 (by omega))) ?_
          refine rsr (vC_e (rk_160 (hR.fr f15))) ?_
          refine RrV (nx_ok (by omega) hS (hR.fr f15) (hT.fr (W := W_rx) f15 (by decide) (by decide)) (fun i a b => (Fr.lc (W := W_rx) f15 _ (by decide) _).trans (hW i a b)) (i := (i + 1)) ((g15.i _ _ (by decide)).trans (wa_41)) (e15_k2) (by omega) (by omega)) fun v Ma17 h17 => ?_
          obtain ⟨g17, e17_k0, e17_k1, e17_k2, p17_0⟩ := h17
          have f17 : Fr W_rx Mr Ma17 := Fr.t f15 (Fr.m g17 (by decide))
          refine rsr (cV_e rfl) ?_
          refine rsr (vC_e (rk_160 (hR.fr f17))) ?_
          refine RrI (a195_61 (by omega) hS (hR.fr f17) (hT.fr (W := W_rx) f17 (by decide) (by decide)) (fun i a b => (Fr.lc (W := W_rx) f17 _ (by decide) _).trans (hW i a b)) (e17_k0) (e17_k1) (e17_k2) ((g17.i _ _ (by decide)).trans ((g15.i _ _ (by decide)).trans (wa_41))) (li_61) (i2 := (i + 3)) (by omega) (by omega)) fun v Ma19 h19 => ?_
          obtain ⟨r18, rfl, g19, e19_k0, e19_k1, e19_k2, p19_0, p19_1⟩ := h19
          have f19 : Fr W_rx Mr Ma19 := Fr.t f17 (Fr.m g19 (by decide))
          refine rsr (cI_e rfl) ?_
          refine rsr (vC_e (rk_160 (hR.fr f19))) ?_
          refine Rb_VV (hE _ _ (by omega) (by omega) T n m kd pl E tx ua ut mu _ _ G U Hl X (i + 3) e s u uc _ hS (hCx.fr (Fr.sI (by decide) (Fr.sI (by decide) (Fr.sI (by decide) (Fr.sI (by decide) (Fr.sI (by decide) (Fr.sI (by decide) Fr.r)))))) f19) ⟨(sI_nej (by decide)).trans (sI_eq), sI_eq, (sI_nej (by decide)).trans ((sI_nej (by decide)).trans ((sI_nej (by decide)).trans ((sI_nej (by decide)).trans ((sI_nej (by decide)).trans ((sI_nej (by decide)).trans (qa_10)))))), (sI_nej (by decide)).trans ((sI_nej (by decide)).trans ((sI_nej (by decide)).trans ((sI_nej (by decide)).trans ((sI_nej (by decide)).trans ((sI_nej (by decide)).trans (qa_9)))))), (sI_nej (by decide)).trans ((sI_nej (by decide)).trans ((sI_nej (by decide)).trans ((sI_nej (by decide)).trans ((sI_nej (by decide)).trans ((sI_nej (by decide)).trans (qa_16)))))), (sI_nej (by decide)).trans ((sI_nej (by decide)).trans ((sI_nej (by decide)).trans ((sI_nej (by decide)).trans ((sI_nej (by decide)).trans ((sI_nej (by decide)).trans (qa_19))))))⟩ ⟨e19_k0, e19_k1, e19_k2, (g19.i _ _ (by decide)).trans ((g17.i _ _ (by decide)).trans ((g15.i _ _ (by decide)).trans (wa_41))), (g19.i _ _ (by decide)).trans ((g17.i _ _ (by decide)).trans ((g15.i _ _ (by decide)).trans (wa_43))), (g19.i _ _ (by decide)).trans ((g17.i _ _ (by decide)).trans ((g15.i _ _ (by decide)).trans (wa_51))), (g19.i _ _ (by decide)).trans ((g17.i _ _ (by decide)).trans ((g15.i _ _ (by decide)).trans (wa_53))), (g19.i _ _ (by decide)).trans ((g17.i _ _ (by decide)).trans ((g15.i _ _ (by decide)).trans (wa_50))), p19_1⟩ ⟨(caa.fr (W := W_c0) (Fr.sI (by decide) (Fr.sI (by decide) (Fr.sI (by decide) (Fr.sI (by decide) (Fr.sI (by decide) (Fr.sI (by decide) Fr.r)))))) (by decide)), (((raa.fr g15 (by decide)).fr g17 (by decide)).fr g19 (by decide)), (lca.fr (W := W_c0) (Fr.sI (by decide) (Fr.sI (by decide) (Fr.sI (by decide) (Fr.sI (by decide) (Fr.sI (by decide) (Fr.sI (by decide) Fr.r)))))) (by decide)), (((lra.fr g15 (by decide)).fr g17 (by decide)).fr g19 (by decide)), (cua.fr (W := W_c0) (Fr.sI (by decide) (Fr.sI (by decide) (Fr.sI (by decide) (Fr.sI (by decide) (Fr.sI (by decide) (Fr.sI (by decide) Fr.r)))))) (by decide)), (((rua.fr g15 (by decide)).fr g17 (by decide)).fr g19 (by decide))⟩ ⟨by omega, by omega, by omega, by omega, by omega, by omega, by omega, by omega, by omega, by omega, by omega, by omega⟩ (vs2 (li_0) (hv0))) fun v Mx20 w Nx20 hx20 => ?_
          rcases hx20 with ⟨i20, e20, u20, uc20, G20, U20, X20, fl20, fr20, sc20, sr20, rw20, bd20, mv20, ag20, au20, ax20, tp20, dp20, kv20⟩ | ⟨F20, P20, fl20, fr20, tc20, tr20⟩
          ·
            have FL20 : Fr W_cp Mc Mx20 := Fr.t (Fr.sI (by decide) (Fr.sI (by decide) (Fr.sI (by decide) (Fr.sI (by decide) (Fr.sI (by decide) (Fr.sI (by decide) Fr.r)))))) fl20
            have FR20 : Fr W_rx Mr Nx20 := Fr.t f19 fr20
            obtain ⟨bb20_0, bb20_1, bb20_2, bb20_3, bb20_4, bb20_5, bb20_6, bb20_7, bb20_8, bb20_9, bb20_10, bb20_11⟩ := bd20
            obtain ⟨q20_12, q20_13, q20_10, q20_9, q20_16, q20_19⟩ := sc20
            obtain ⟨w20_36, w20_37, w20_38, w20_41, w20_43, w20_51, w20_53, w20_50, w20_n⟩ := sr20
            obtain ⟨ca20, ra20, lc20, lr20, cu20, ru20⟩ := rw20
            have hk21 := (hS.ok i20 (by omega) (by omega)).r
            have ku20 := KU.t (kua.fr (W := W_c0) (Fr.sI (by decide) (Fr.sI (by decide) (Fr.sI (by decide) (Fr.sI (by decide) (Fr.sI (by decide) (Fr.sI (by decide) Fr.r)))))) (by decide)) kv20 (by omega)
            have ty22 := Tye.t (d3 := 1) ty2 ag20 tp20 (by omega)
            have du23 := DU.t du3 ag20 au20 ax20 dp20 (by omega)
            refine rsl (cV_e rfl) ?_
            refine rsr (cV_e rfl) ?_
            refine rsl (vC_e (ck_65 (hC.fr FL20))) ?_
            by_cases c24 : ((kd i20)) = 59
            ·
              have hm25 : i20 + 1 < m := hS.more i20 (by omega) (by omega) (by omega)
              refine rsl (cV_e (a64q (by omega) hS (hC.fr FL20) (hTk.fr (WL := W_cp) FL20 (by decide)) (q20_12) (q20_13) (q20_10) (li_59) (i2 := (i20 + 1)) (by omega) (by omega))) ?_
              have hk26 := (hS.ok (i20 + 1) (by omega) (by omega)).r
              refine rsl (gtI_q (w := iI s) (ck_65 (hC.fr FL20).sI.sI) ((sI_nej (by decide)).trans ((sI_nej (by decide)).trans (q20_16)))) ?_
              refine rsl (vC_e (ck_65 (hC.fr FL20).sI.sI)) ?_
              have tb28 := Tyb.ex (dp := dp) (d := 1) (s' := (s + 1)) (q := (e20 + 1)) (n1 := s) (ut := ut) (mu := mu) (l := []) ty22 (Or.inr (Or.inr (Or.inl (by omega))) : Eff 2 s 0 1 s 0 (s + 1)) (by omega) ⟨by omega, by omega⟩ (by omega)
              have du29 := DU.em (q := (e20 + 1)) (o := 2) (n := s) (p := -2) (l := [0]) du23 (by omega) (by omega)
              refine RlI (a87 (by omega) (hC.fr FL20).sI.sI ((sI_nej (by decide)).trans ((sI_nej (by decide)).trans (q20_9))) (li_2) (rfl) (by omega)) fun v Ma30 h30 => ?_
              obtain ⟨r27, rfl, g30, e30_k0, p30_0, p30_1⟩ := h30
              have f30 : Fr W_cp Mc Ma30 := Fr.t (Fr.sI (by decide) (Fr.sI (by decide) FL20)) (Fr.m g30 (by decide))
              refine rsl (cI_e rfl) ?_
              refine rsl (vC_e (ck_65 (hC.fr f30))) ?_
              refine RlV (a75 (by omega) (hC.fr f30) ((g30.i _ _ (by decide)).trans ((sI_nej (by decide)).trans ((sI_nej (by decide)).trans (q20_16)))) (x := (tx (i + 1))) (by omega)) fun v Ma31 h31 => ?_
              obtain ⟨g31, e31_k0, p31_0, p31_1⟩ := h31
              have f31 : Fr W_cp Mc Ma31 := Fr.t f30 (Fr.m g31 (by decide))
              refine rsl (cV_e rfl) ?_
              refine rsr (gtI_q (w := iI s) (rk_160 (hR.fr FR20)) (w20_51)) ?_
              refine rsr (vC_e (rk_160 (hR.fr FR20))) ?_
              refine RrI (a196 (by omega) (hR.fr FR20) (w20_43) ((FR20.i _ _ (by decide)).trans h49) ((FR20.i _ _ (by decide)).trans h48) (li_2) (rfl) (by omega)) fun v Ma33 h33 => ?_
              obtain ⟨r32, rfl, g33, e33_k0, p33_0, p33_1⟩ := h33
              have f33 : Fr W_rx Mr Ma33 := Fr.t FR20 (Fr.m g33 (by decide))
              refine rsr (cI_e rfl) ?_
              refine rsr (vC_e (rk_160 (hR.fr f33))) ?_
              refine RrI (a195_59 (by omega) hS (hR.fr f33) (hT.fr (W := W_rx) f33 (by decide) (by decide)) (fun i a b => (Fr.lc (W := W_rx) f33 _ (by decide) _).trans (hW i a b)) ((g33.i _ _ (by decide)).trans (w20_36)) ((g33.i _ _ (by decide)).trans (w20_37)) ((g33.i _ _ (by decide)).trans (w20_38)) ((g33.i _ _ (by decide)).trans (w20_41)) (li_59) (i2 := (i20 + 1)) (by omega) (by omega)) fun v Ma35 h35 => ?_
              obtain ⟨r34, rfl, g35, e35_k0, e35_k1, e35_k2, p35_0, p35_1⟩ := h35
              have f35 : Fr W_rx Mr Ma35 := Fr.t f33 (Fr.m g35 (by decide))
              refine rsr (cI_e rfl) ?_
              refine rsr (vC_e (rk_160 (hR.fr f35))) ?_
              refine RrV (a199 (by omega) (hR.fr f35) ((g35.i _ _ (by decide)).trans ((g33.i _ _ (by decide)).trans (w20_51))) ((g35.i _ _ (by decide)).trans ((g33.i _ _ (by decide)).trans (w20_41))) (x := (tx (i + 1))) (by omega)) fun v Ma36 h36 => ?_
              obtain ⟨g36, e36_k0, p36_0, p36_1⟩ := h36
              have f36 : Fr W_rx Mr Ma36 := Fr.t f35 (Fr.m g36 (by decide))
              refine rsr (cV_e rfl) ?_
              refine rsr (jv_e) ?_
              exact Rs.ok (Or.inl ⟨(i20 + 1), (s + 1), (up1 Hl s (tx (i + 1))), ⟨(e20 + 1), u20, uc20, (pu G20 e20 [2, s, -2, s, ut, mu, 0]), U20, X20, f31, f36, ⟨(g31.i _ _ (by decide)).trans ((g30.i _ _ (by decide)).trans ((sI_nej (by decide)).trans (sI_eq))), (g31.i _ _ (by decide)).trans ((g30.i _ _ (by decide)).trans (sI_eq)), (g31.i _ _ (by decide)).trans ((g30.i _ _ (by decide)).trans ((sI_nej (by decide)).trans ((sI_nej (by decide)).trans (q20_10)))), (g31.i _ _ (by decide)).trans (e30_k0), e31_k0, (g31.i _ _ (by decide)).trans ((g30.i _ _ (by decide)).trans ((sI_nej (by decide)).trans ((sI_nej (by decide)).trans (q20_19))))⟩, ⟨(g36.i _ _ (by decide)).trans (e35_k0), (g36.i _ _ (by decide)).trans (e35_k1), (g36.i _ _ (by decide)).trans (e35_k2), (g36.i _ _ (by decide)).trans ((g35.i _ _ (by decide)).trans ((g33.i _ _ (by decide)).trans (w20_41))), (g36.i _ _ (by decide)).trans ((g35.i _ _ (by decide)).trans (e33_k0)), e36_k0, (g36.i _ _ (by decide)).trans ((g35.i _ _ (by decide)).trans ((g33.i _ _ (by decide)).trans (w20_53))), (g36.i _ _ (by decide)).trans ((g35.i _ _ (by decide)).trans ((g33.i _ _ (by decide)).trans (w20_50))), (p35_1.fr g36 (by decide) (by decide))⟩, ⟨((CA1.em (ca20.fr (W := W_c0) (Fr.sI (by decide) (Fr.sI (by decide) Fr.r)) (by decide)) (by omega) p30_1 rfl).fr g31 (by decide)), (((RA1.em ra20 (by omega) p33_1 rfl).fr g35 (by decide)).fr g36 (by decide)), (LA.add ((lc20.fr (W := W_c0) (Fr.sI (by decide) (Fr.sI (by decide) Fr.r)) (by decide)).fr g30 (by decide)) (by omega) p31_0 p31_1 (by omega)), (LA.add ((lr20.fr g33 (by decide)).fr g35 (by decide)) (by omega) p36_0 p36_1 (by omega)), (((cu20.fr (W := W_c0) (Fr.sI (by decide) (Fr.sI (by decide) Fr.r)) (by decide)).fr g30 (by decide)).fr g31 (by decide)), (((ru20.fr g33 (by decide)).fr g35 (by decide)).fr g36 (by decide))⟩, ⟨by omega, by omega, by omega, by omega, by omega, by omega, by omega, by omega, by omega, by omega, by omega, by omega⟩, ⟨by omega, by omega, by omega, by omega, by omega, by omega⟩, (Ag.pu (Ag.t Ag.r ag20 (by omega)) (by omega)), (Ag.t Ag.r au20 (by omega)), (AgL.t AgL.r ax20 (by omega)), tb28, du29, (((ku20.fr (W := W_c0) (Fr.sI (by decide) (Fr.sI (by decide) Fr.r)) (by decide)).fr g30 (by decide)).fr g31 (by decide)), ⟨by omega, (fun j p q => up1_n (by omega))⟩⟩⟩)
            ·
              by_cases c37 : ((kd i20)) = 1
              ·
                refine rsl (cV_e (a64_1 (by omega) hS (hC.fr FL20) (hTk.fr (WL := W_cp) FL20 (by decide)) (q20_12) (q20_13) (q20_10) (li_59) (by omega))) ?_
                refine rsl (gtI_q (w := iI s) (ck_65 (hC.fr FL20).sI.sI.sI) ((sI_nej (by decide)).trans ((sI_nej (by decide)).trans ((sI_nej (by decide)).trans (q20_16))))) ?_
                refine rsl (vC_e (ck_65 (hC.fr FL20).sI.sI.sI)) ?_
                refine RlI (y87 (by omega) (hC.fr FL20).sI.sI.sI (hTk.fr (WL := W_cp) (Fr.sI (by decide) (Fr.sI (by decide) (Fr.sI (by decide) FL20))) (by decide)) ((sI_nej (by decide)).trans ((sI_nej (by decide)).trans ((sI_nej (by decide)).trans (q20_12)))) (sI_eq) ((sI_nej (by decide)).trans ((sI_nej (by decide)).trans (sI_eq))) ((sI_nej (by decide)).trans (sI_eq)) ((sI_nej (by decide)).trans ((sI_nej (by decide)).trans ((sI_nej (by decide)).trans (q20_9)))) ((sI_nej (by decide)).trans ((sI_nej (by decide)).trans ((sI_nej (by decide)).trans (q20_16)))) ((sI_nej (by decide)).trans ((sI_nej (by decide)).trans ((sI_nej (by decide)).trans (q20_19)))) (li_2) (rfl) (by omega)) fun v Ma39 h39 => ?_
                obtain ⟨rv38, sz38, sn38, uc38, rfl, g39, e39_sz38, e39_sn38, e39_uc38, e39_k0, e39_k1, e39_k2, e39_k3, p39_0, p39_1, p39_2, p39_3⟩ := h39
                have f39 : Fr W_cp Mc Ma39 := Fr.t (Fr.sI (by decide) (Fr.sI (by decide) (Fr.sI (by decide) FL20))) (Fr.m g39 (by decide))
                refine rsl (cI_e rfl) ?_
                refine rsl (vC_e (ck_65 (hC.fr f39))) ?_
                refine RlV (y75 (by omega) (hC.fr f39) (hTk.fr (WL := W_cp) f39 (by decide)) (e39_k3) (e39_k0) (e39_k1) (e39_k2) (e39_sz38) (e39_sn38) (e39_uc38)  (by omega)) fun v Ma41 h41 => ?_
                obtain ⟨sz40, sn40, uc40, g41, e41_sz40, e41_sn40, e41_uc40, e41_k0, e41_k1, e41_k2, e41_k3, p41_0, p41_1, p41_2⟩ := h41
                have f41 : Fr W_cp Mc Ma41 := Fr.t f39 (Fr.m g41 (by decide))
                refine rsl (cV_e rfl) ?_
                refine rsr (gtI_q (w := iI s) (rk_160 (hR.fr FR20)) (w20_51)) ?_
                refine rsr (vC_e (rk_160 (hR.fr FR20))) ?_
                refine RrI (a196 (by omega) (hR.fr FR20) (w20_43) ((FR20.i _ _ (by decide)).trans h49) ((FR20.i _ _ (by decide)).trans h48) (li_2) (rfl) (by omega)) fun v Ma43 h43 => ?_
                obtain ⟨r42, rfl, g43, e43_k0, p43_0, p43_1⟩ := h43
                have f43 : Fr W_rx Mr Ma43 := Fr.t FR20 (Fr.m g43 (by decide))
                refine rsr (cI_e rfl) ?_
                refine rsr (vC_e (rk_160 (hR.fr f43))) ?_
                refine rsr (cI_e (a195_59_1 (by omega) hS (hR.fr f43) ((g43.i _ _ (by decide)).trans (w20_36)) ((g43.i _ _ (by decide)).trans (w20_37)) ((g43.i _ _ (by decide)).trans (w20_41)) (li_59) (by omega))) ?_
                refine rsr (vC_e (rk_160 (hR.fr f43).sI.sI)) ?_
                refine RrV (x199_s (by omega) (hR.fr f43).sI.sI ((sI_nej (by decide)).trans (sI_eq)) (sI_eq) ((sI_nej (by decide)).trans ((sI_nej (by decide)).trans (e43_k0))) ((sI_nej (by decide)).trans ((sI_nej (by decide)).trans ((g43.i _ _ (by decide)).trans (w20_51)))) ((sI_nej (by decide)).trans ((sI_nej (by decide)).trans ((g43.i _ _ (by decide)).trans (w20_53)))) ((sI_nej (by decide)).trans ((sI_nej (by decide)).trans ((g43.i _ _ (by decide)).trans ((FR20.i _ _ (by decide)).trans h48)))) ((sI_nej (by decide)).trans ((sI_nej (by decide)).trans ((g43.i _ _ (by decide)).trans ((FR20.i _ _ (by decide)).trans h49))))  (by omega)) fun v Ma45 h45 => ?_
                obtain ⟨em44, g45, e45_em44, e45_k0, e45_k1, e45_k2, e45_k3, e45_k4, p45_0⟩ := h45
                have f45 : Fr W_rp Mr Ma45 := Fr.t (Fr.sI (by decide) (Fr.sI (by decide) (Fr.m f43 (by decide)))) (Fr.m g45 (by decide))
                refine rsr (cV_e rfl) ?_
                refine rsr (jv_e) ?_
                exact Rs.ok (Or.inr ⟨1, ((pl i20)), f41, f45, ⟨i20, sz40, sn40, uc40, e41_k0, e41_k1, e41_k2, e41_k3, e41_sz40, e41_sn40, e41_uc40, by omega⟩, ⟨em44, s, u20, mu, ut, e45_k0, e45_k1, e45_em44, e45_k2, e45_k3, e45_k4, (g45.i _ _ (by decide)).trans ((sI_nej (by decide)).trans ((sI_nej (by decide)).trans ((g43.i _ _ (by decide)).trans ((FR20.i _ _ (by decide)).trans h49)))), by omega⟩⟩)
              ·
                refine rsl (cV_e (a64_2 (by omega) hS (hC.fr FL20) (hTk.fr (WL := W_cp) FL20 (by decide)) (q20_12) (q20_13) (q20_10) (li_59) (by omega))) ?_
                refine rsl (gtI_q (w := iI s) (ck_65 (hC.fr FL20).sI.sI.sI) ((sI_nej (by decide)).trans ((sI_nej (by decide)).trans ((sI_nej (by decide)).trans (q20_16))))) ?_
                refine rsl (vC_e (ck_65 (hC.fr FL20).sI.sI.sI)) ?_
                refine RlI (y87 (by omega) (hC.fr FL20).sI.sI.sI (hTk.fr (WL := W_cp) (Fr.sI (by decide) (Fr.sI (by decide) (Fr.sI (by decide) FL20))) (by decide)) ((sI_nej (by decide)).trans ((sI_nej (by decide)).trans ((sI_nej (by decide)).trans (q20_12)))) (sI_eq) ((sI_nej (by decide)).trans ((sI_nej (by decide)).trans (sI_eq))) ((sI_nej (by decide)).trans (sI_eq)) ((sI_nej (by decide)).trans ((sI_nej (by decide)).trans ((sI_nej (by decide)).trans (q20_9)))) ((sI_nej (by decide)).trans ((sI_nej (by decide)).trans ((sI_nej (by decide)).trans (q20_16)))) ((sI_nej (by decide)).trans ((sI_nej (by decide)).trans ((sI_nej (by decide)).trans (q20_19)))) (li_2) (rfl) (by omega)) fun v Ma47 h47 => ?_
                obtain ⟨rv46, sz46, sn46, uc46, rfl, g47, e47_sz46, e47_sn46, e47_uc46, e47_k0, e47_k1, e47_k2, e47_k3, p47_0, p47_1, p47_2, p47_3⟩ := h47
                have f47 : Fr W_cp Mc Ma47 := Fr.t (Fr.sI (by decide) (Fr.sI (by decide) (Fr.sI (by decide) FL20))) (Fr.m g47 (by decide))
                refine rsl (cI_e rfl) ?_
                refine rsl (vC_e (ck_65 (hC.fr f47))) ?_
                refine RlV (y75 (by omega) (hC.fr f47) (hTk.fr (WL := W_cp) f47 (by decide)) (e47_k3) (e47_k0) (e47_k1) (e47_k2) (e47_sz46) (e47_sn46) (e47_uc46)  (by omega)) fun v Ma49 h49 => ?_
                obtain ⟨sz48, sn48, uc48, g49, e49_sz48, e49_sn48, e49_uc48, e49_k0, e49_k1, e49_k2, e49_k3, p49_0, p49_1, p49_2⟩ := h49
                have f49 : Fr W_cp Mc Ma49 := Fr.t f47 (Fr.m g49 (by decide))
                refine rsl (cV_e rfl) ?_
                refine rsr (gtI_q (w := iI s) (rk_160 (hR.fr FR20)) (w20_51)) ?_
                refine rsr (vC_e (rk_160 (hR.fr FR20))) ?_
                refine RrI (a196 (by omega) (hR.fr FR20) (w20_43) ((FR20.i _ _ (by decide)).trans h49) ((FR20.i _ _ (by decide)).trans h48) (li_2) (rfl) (by omega)) fun v Ma51 h51 => ?_
                obtain ⟨r50, rfl, g51, e51_k0, p51_0, p51_1⟩ := h51
                have f51 : Fr W_rx Mr Ma51 := Fr.t FR20 (Fr.m g51 (by decide))
                refine rsr (cI_e rfl) ?_
                refine rsr (vC_e (rk_160 (hR.fr f51))) ?_
                refine rsr (cI_e (a195_59_2 (by omega) hS (hR.fr f51) ((g51.i _ _ (by decide)).trans (w20_36)) ((g51.i _ _ (by decide)).trans (w20_37)) ((g51.i _ _ (by decide)).trans (w20_41)) (li_59) (by omega))) ?_
                refine rsr (vC_e (rk_160 (hR.fr f51).sI.sI)) ?_
                refine RrV (x199_s (by omega) (hR.fr f51).sI.sI ((sI_nej (by decide)).trans (sI_eq)) (sI_eq) ((sI_nej (by decide)).trans ((sI_nej (by decide)).trans (e51_k0))) ((sI_nej (by decide)).trans ((sI_nej (by decide)).trans ((g51.i _ _ (by decide)).trans (w20_51)))) ((sI_nej (by decide)).trans ((sI_nej (by decide)).trans ((g51.i _ _ (by decide)).trans (w20_53)))) ((sI_nej (by decide)).trans ((sI_nej (by decide)).trans ((g51.i _ _ (by decide)).trans ((FR20.i _ _ (by decide)).trans h48)))) ((sI_nej (by decide)).trans ((sI_nej (by decide)).trans ((g51.i _ _ (by decide)).trans ((FR20.i _ _ (by decide)).trans h49))))  (by omega)) fun v Ma53 h53 => ?_
                obtain ⟨em52, g53, e53_em52, e53_k0, e53_k1, e53_k2, e53_k3, e53_k4, p53_0⟩ := h53
                have f53 : Fr W_rp Mr Ma53 := Fr.t (Fr.sI (by decide) (Fr.sI (by decide) (Fr.m f51 (by decide)))) (Fr.m g53 (by decide))
                refine rsr (cV_e rfl) ?_
                refine rsr (jv_e) ?_
                exact Rs.ok (Or.inr ⟨2, ((pl i20)), f49, f53, ⟨i20, sz48, sn48, uc48, e49_k0, e49_k1, e49_k2, e49_k3, e49_sz48, e49_sn48, e49_uc48, by omega⟩, ⟨em52, s, u20, mu, ut, e53_k0, e53_k1, e53_em52, e53_k2, e53_k3, e53_k4, (g53.i _ _ (by decide)).trans ((sI_nej (by decide)).trans ((sI_nej (by decide)).trans ((g51.i _ _ (by decide)).trans ((FR20.i _ _ (by decide)).trans h49)))), by omega⟩⟩)
          ·
            have FL20 : Fr W_cp Mc Mx20 := Fr.t (Fr.sI (by decide) (Fr.sI (by decide) (Fr.sI (by decide) (Fr.sI (by decide) (Fr.sI (by decide) (Fr.sI (by decide) Fr.r)))))) fl20
            have FR20 : Fr W_rp Mr Nx20 := Fr.t (Fr.m f19 W_rx_p) fr20
            obtain ⟨ti20, tz20, tn20, tu20, t1320, t1020, t1120, t1220, t920, t1620, t1920, tb20⟩ := tc20
            obtain ⟨re20, rn20, ru20, rm20, rt20, u4120, u4220, u4320, u5120, u5320, u4820, u4920, ub20⟩ := tr20
            refine rsl (cV_e rfl) ?_
            refine rsr (cV_e rfl) ?_
            refine rsl (vC_e (ck_65 (hC.fr FL20))) ?_
            refine RlV (y64 (by omega) (hC.fr FL20) (hTk.fr (WL := W_cp) FL20 (by decide)) (t1220) (t1320) (t1020) (t1120) (t920) (t1620) (t1920) (li_59) (by omega)) fun v Ma55 h55 => ?_
            obtain ⟨sz54, sn54, uc54, g55, e55_sz54, e55_sn54, e55_uc54, e55_k0, e55_k1, e55_k2, e55_k3, p55_0, p55_1, p55_2⟩ := h55
            have f55 : Fr W_cp Mc Ma55 := Fr.t FL20 (Fr.m g55 (by decide))
            refine rsl (cV_e rfl) ?_
            refine rsl (gtI_q (w := iI sn54) (ck_65 (hC.fr f55)) (e55_sn54)) ?_
            refine rsl (vC_e (ck_65 (hC.fr f55))) ?_
            refine RlI (y87 (by omega) (hC.fr f55) (hTk.fr (WL := W_cp) f55 (by decide)) (e55_k3) (e55_k0) (e55_k1) (e55_k2) (e55_sz54) (e55_sn54) (e55_uc54) (li_2) (rfl) (by omega)) fun v Ma57 h57 => ?_
            obtain ⟨rv56, sz56, sn56, uc56, rfl, g57, e57_sz56, e57_sn56, e57_uc56, e57_k0, e57_k1, e57_k2, e57_k3, p57_0, p57_1, p57_2, p57_3⟩ := h57
            have f57 : Fr W_cp Mc Ma57 := Fr.t f55 (Fr.m g57 (by decide))
            refine rsl (cI_e rfl) ?_
            refine rsl (vC_e (ck_65 (hC.fr f57))) ?_
            refine RlV (y75 (by omega) (hC.fr f57) (hTk.fr (WL := W_cp) f57 (by decide)) (e57_k3) (e57_k0) (e57_k1) (e57_k2) (e57_sz56) (e57_sn56) (e57_uc56)  (by omega)) fun v Ma59 h59 => ?_
            obtain ⟨sz58, sn58, uc58, g59, e59_sz58, e59_sn58, e59_uc58, e59_k0, e59_k1, e59_k2, e59_k3, p59_0, p59_1, p59_2⟩ := h59
            have f59 : Fr W_cp Mc Ma59 := Fr.t f57 (Fr.m g59 (by decide))
            refine rsl (cV_e rfl) ?_
            refine rsr (gtI_q (w := iI rn20) (rk_160 (hR.fr FR20)) (u5120)) ?_
            refine rsr (vC_e (rk_160 (hR.fr FR20))) ?_
            refine RrI (x196_s (by omega) (hR.fr FR20) (u4120) (u4220) (u4320) (u5120) (u5320) (u4820) (u4920) (li_2) (rfl) (by omega)) fun v Ma61 h61 => ?_
            obtain ⟨rv60, em60, rfl, g61, e61_em60, e61_k0, e61_k1, e61_k2, e61_k3, e61_k4, p61_0, p61_1⟩ := h61
            have f61 : Fr W_rp Mr Ma61 := Fr.t FR20 (Fr.m g61 (by decide))
            refine rsr (cI_e rfl) ?_
            refine rsr (vC_e (rk_160 (hR.fr f61))) ?_
            refine RrI (x195_s (by omega) (hR.fr f61) (e61_k0) (e61_k1) (e61_em60) (e61_k2) (e61_k3) (e61_k4) ((g61.i _ _ (by decide)).trans (u4920)) (li_59) (by omega)) fun v Ma63 h63 => ?_
            obtain ⟨rv62, em62, rfl, g63, e63_em62, e63_k0, e63_k1, e63_k2, e63_k3, e63_k4, p63_0, p63_1⟩ := h63
            have f63 : Fr W_rp Mr Ma63 := Fr.t f61 (Fr.m g63 (by decide))
            refine rsr (cI_e rfl) ?_
            refine rsr (vC_e (rk_160 (hR.fr f63))) ?_
            refine RrV (x199_s (by omega) (hR.fr f63) (e63_k0) (e63_k1) (e63_em62) (e63_k2) (e63_k3) (e63_k4) ((g63.i _ _ (by decide)).trans ((g61.i _ _ (by decide)).trans (u4920)))  (by omega)) fun v Ma65 h65 => ?_
            obtain ⟨em64, g65, e65_em64, e65_k0, e65_k1, e65_k2, e65_k3, e65_k4, p65_0⟩ := h65
            have f65 : Fr W_rp Mr Ma65 := Fr.t f63 (Fr.m g65 (by decide))
            refine rsr (cV_e rfl) ?_
            refine rsr (jv_e) ?_
            exact Rs.ok (Or.inr ⟨F20, P20, f59, f65, ⟨ti20, sz58, sn58, uc58, e59_k0, e59_k1, e59_k2, e59_k3, e59_sz58, e59_sn58, e59_uc58, by omega⟩, ⟨em64, rn20, ru20, rm20, rt20, e65_k0, e65_k1, e65_em64, e65_k2, e65_k3, e65_k4, (g65.i _ _ (by decide)).trans ((g63.i _ _ (by decide)).trans ((g61.i _ _ (by decide)).trans (u4920))), by omega⟩⟩)
        ·
          by_cases c66 : ((kd (i + 2))) = 1
          ·
            refine rsl (cV_e (a64_1 (by omega) hS hC.sI.sI.sI.sI (hTk.fr (WL := W_cp) (Fr.sI (by decide) (Fr.sI (by decide) (Fr.sI (by decide) (Fr.sI (by decide) Fr.r)))) (by decide)) ((sI_nej (by decide)).trans (sI_eq)) (sI_eq) ((sI_nej (by decide)).trans ((sI_nej (by decide)).trans ((sI_nej (by decide)).trans ((sI_nej (by decide)).trans (qa_10))))) (li_61) (by omega))) ?_
            refine rsl (vC_e (ck_65 hC.sI.sI.sI.sI.sI.sI.sI)) ?_
            refine RlV (y99_0 (by omega) hC.sI.sI.sI.sI.sI.sI.sI (hTk.fr (WL := W_cp) (Fr.sI (by decide) (Fr.sI (by decide) (Fr.sI (by decide) (Fr.sI (by decide) (Fr.sI (by decide) (Fr.sI (by decide) (Fr.sI (by decide) Fr.r))))))) (by decide)) ((sI_nej (by decide)).trans ((sI_nej (by decide)).trans ((sI_nej (by decide)).trans ((sI_nej (by decide)).trans (sI_eq))))) (sI_eq) ((sI_nej (by decide)).trans ((sI_nej (by decide)).trans (sI_eq))) ((sI_nej (by decide)).trans (sI_eq)) ((sI_nej (by decide)).trans ((sI_nej (by decide)).trans ((sI_nej (by decide)).trans ((sI_nej (by decide)).trans ((sI_nej (by decide)).trans ((sI_nej (by decide)).trans ((sI_nej (by decide)).trans (qa_9)))))))) ((sI_nej (by decide)).trans ((sI_nej (by decide)).trans ((sI_nej (by decide)).trans ((sI_nej (by decide)).trans ((sI_nej (by decide)).trans ((sI_nej (by decide)).trans ((sI_nej (by decide)).trans (qa_16)))))))) ((sI_nej (by decide)).trans ((sI_nej (by decide)).trans ((sI_nej (by decide)).trans ((sI_nej (by decide)).trans ((sI_nej (by decide)).trans ((sI_nej (by decide)).trans ((sI_nej (by decide)).trans (qa_19)))))))) (li_0) (hv0) (by omega)) fun v Ma68 h68 => ?_
            obtain ⟨sz67, sn67, uc67, g68, e68_sz67, e68_sn67, e68_uc67, e68_k0, e68_k1, e68_k2, e68_k3, p68_0, p68_1, p68_2⟩ := h68
            have f68 : Fr W_cp Mc Ma68 := Fr.t (Fr.sI (by decide) (Fr.sI (by decide) (Fr.sI (by decide) (Fr.sI (by decide) (Fr.sI (by decide) (Fr.sI (by decide) (Fr.sI (by decide) Fr.r))))))) (Fr.m g68 (by decide))
            refine rsl (cV_e rfl) ?_
            refine rsl (vC_e (ck_65 (hC.fr f68))) ?_
            refine RlV (y64 (by omega) (hC.fr f68) (hTk.fr (WL := W_cp) f68 (by decide)) (e68_k3) (e68_k0) (e68_k1) (e68_k2) (e68_sz67) (e68_sn67) (e68_uc67) (li_59) (by omega)) fun v Ma70 h70 => ?_
            obtain ⟨sz69, sn69, uc69, g70, e70_sz69, e70_sn69, e70_uc69, e70_k0, e70_k1, e70_k2, e70_k3, p70_0, p70_1, p70_2⟩ := h70
            have f70 : Fr W_cp Mc Ma70 := Fr.t f68 (Fr.m g70 (by decide))
            refine rsl (cV_e rfl) ?_
            refine rsl (gtI_q (w := iI sn69) (ck_65 (hC.fr f70)) (e70_sn69)) ?_
            refine rsl (vC_e (ck_65 (hC.fr f70))) ?_
            refine RlI (y87 (by omega) (hC.fr f70) (hTk.fr (WL := W_cp) f70 (by decide)) (e70_k3) (e70_k0) (e70_k1) (e70_k2) (e70_sz69) (e70_sn69) (e70_uc69) (li_2) (rfl) (by omega)) fun v Ma72 h72 => ?_
            obtain ⟨rv71, sz71, sn71, uc71, rfl, g72, e72_sz71, e72_sn71, e72_uc71, e72_k0, e72_k1, e72_k2, e72_k3, p72_0, p72_1, p72_2, p72_3⟩ := h72
            have f72 : Fr W_cp Mc Ma72 := Fr.t f70 (Fr.m g72 (by decide))
            refine rsl (cI_e rfl) ?_
            refine rsl (vC_e (ck_65 (hC.fr f72))) ?_
            refine RlV (y75 (by omega) (hC.fr f72) (hTk.fr (WL := W_cp) f72 (by decide)) (e72_k3) (e72_k0) (e72_k1) (e72_k2) (e72_sz71) (e72_sn71) (e72_uc71)  (by omega)) fun v Ma74 h74 => ?_
            obtain ⟨sz73, sn73, uc73, g74, e74_sz73, e74_sn73, e74_uc73, e74_k0, e74_k1, e74_k2, e74_k3, p74_0, p74_1, p74_2⟩ := h74
            have f74 : Fr W_cp Mc Ma74 := Fr.t f72 (Fr.m g74 (by decide))
            refine rsl (cV_e rfl) ?_
            refine rsr (gtI_q (w := iI ((kr (kd i)))) (rk_160 hR) (wa_36)) ?_
            refine rsr (jn_v) ?_
            refine rsr (swI_c) ?_
            refine rsr (if_pos (krI_p (k := 215) (rfl) (li_416) (by omega) (by decide +kernel))) ?_
            refine rsr (vC_e (rk_160 hR)) ?_
            refine RrV (nx_ok (by omega) hS hR (hT.fr (W := W_rx) Fr.r (by decide) (by decide)) (fun i a b => (Fr.lc (W := W_rx) Fr.r _ (by decide) _).trans (hW i a b)) (i := i) (wa_41) (wa_38) (by omega) (by omega)) fun v Ma76 h76 => ?_
            obtain ⟨g76, e76_k0, e76_k1, e76_k2, p76_0⟩ := h76
            have f76 : Fr W_rx Mr Ma76 := Fr.t Fr.r (Fr.m g76 (by decide))
            refine rsr (cV_e rfl) ?_
            refine rsr (vC_e (rk_160 (hR.fr f76))) ?_
            refine rsr (cI_e (a198_p (by omega) hS (hR.fr f76) (e76_k0) (e76_k1) ((g76.i _ _ (by decide)).trans (wa_41)) p76_0 ((g76.i _ _ (by decide)).trans (wa_51)) (lra.fr g76 (by decide)) hlc7 (by omega))) ?_
            refine rsr (if_neg (eqI_n (rfl) (li_0) (by omega))) ?_
            refine rsr (gtL_q (w := (tx (i + 1))) (rk_160 (hR.fr f76)) (p76_0.1 (by omega))) ?_
            refine rsr (vC_e (rk_160 (hR.fr f76))) ?_
            refine RrV (nx_ok (by omega) hS (hR.fr f76) (hT.fr (W := W_rx) f76 (by decide) (by decide)) (fun i a b => (Fr.lc (W := W_rx) f76 _ (by decide) _).trans (hW i a b)) (i := (i + 1)) ((g76.i _ _ (by decide)).trans (wa_41)) (e76_k2) (by omega) (by omega)) fun v Ma78 h78 => ?_
            obtain ⟨g78, e78_k0, e78_k1, e78_k2, p78_0⟩ := h78
            have f78 : Fr W_rx Mr Ma78 := Fr.t f76 (Fr.m g78 (by decide))
            refine rsr (cV_e rfl) ?_
            refine rsr (vC_e (rk_160 (hR.fr f78))) ?_
            refine rsr (cI_e (a195_61_1 (by omega) hS (hR.fr f78) (e78_k0) (e78_k1) ((g78.i _ _ (by decide)).trans ((g76.i _ _ (by decide)).trans (wa_41))) (li_61) (by omega))) ?_
            refine rsr (vC_e (rk_160 (hR.fr f78).sI.sI)) ?_
            refine RrV (x211_s (by omega) (hR.fr f78).sI.sI ((sI_nej (by decide)).trans (sI_eq)) (sI_eq) ((sI_nej (by decide)).trans ((sI_nej (by decide)).trans ((g78.i _ _ (by decide)).trans ((g76.i _ _ (by decide)).trans (wa_43))))) ((sI_nej (by decide)).trans ((sI_nej (by decide)).trans ((g78.i _ _ (by decide)).trans ((g76.i _ _ (by decide)).trans (wa_51))))) ((sI_nej (by decide)).trans ((sI_nej (by decide)).trans ((g78.i _ _ (by decide)).trans ((g76.i _ _ (by decide)).trans (wa_53))))) ((sI_nej (by decide)).trans ((sI_nej (by decide)).trans ((g78.i _ _ (by decide)).trans ((g76.i _ _ (by decide)).trans (h48))))) ((sI_nej (by decide)).trans ((sI_nej (by decide)).trans ((g78.i _ _ (by decide)).trans ((g76.i _ _ (by decide)).trans (h49)))))  (by omega)) fun v Ma80 h80 => ?_
            obtain ⟨em79, g80, e80_em79, e80_k0, e80_k1, e80_k2, e80_k3, e80_k4, p80_0⟩ := h80
            have f80 : Fr W_rp Mr Ma80 := Fr.t (Fr.sI (by decide) (Fr.sI (by decide) (Fr.m f78 (by decide)))) (Fr.m g80 (by decide))
            refine rsr (cV_e rfl) ?_
            refine rsr (gtI_q (w := iI s) (rk_160 (hR.fr f80)) (e80_k2)) ?_
            refine rsr (vC_e (rk_160 (hR.fr f80))) ?_
            refine RrI (x196_s (by omega) (hR.fr f80) (e80_k0) (e80_k1) (e80_em79) (e80_k2) (e80_k3) (e80_k4) ((g80.i _ _ (by decide)).trans ((sI_nej (by decide)).trans ((sI_nej (by decide)).trans ((g78.i _ _ (by decide)).trans ((g76.i _ _ (by decide)).trans (h49)))))) (li_2) (rfl) (by omega)) fun v Ma82 h82 => ?_
            obtain ⟨rv81, em81, rfl, g82, e82_em81, e82_k0, e82_k1, e82_k2, e82_k3, e82_k4, p82_0, p82_1⟩ := h82
            have f82 : Fr W_rp Mr Ma82 := Fr.t f80 (Fr.m g82 (by decide))
            refine rsr (cI_e rfl) ?_
            refine rsr (vC_e (rk_160 (hR.fr f82))) ?_
            refine RrI (x195_s (by omega) (hR.fr f82) (e82_k0) (e82_k1) (e82_em81) (e82_k2) (e82_k3) (e82_k4) ((g82.i _ _ (by decide)).trans ((g80.i _ _ (by decide)).trans ((sI_nej (by decide)).trans ((sI_nej (by decide)).trans ((g78.i _ _ (by decide)).trans ((g76.i _ _ (by decide)).trans (h49))))))) (li_59) (by omega)) fun v Ma84 h84 => ?_
            obtain ⟨rv83, em83, rfl, g84, e84_em83, e84_k0, e84_k1, e84_k2, e84_k3, e84_k4, p84_0, p84_1⟩ := h84
            have f84 : Fr W_rp Mr Ma84 := Fr.t f82 (Fr.m g84 (by decide))
            refine rsr (cI_e rfl) ?_
            refine rsr (vC_e (rk_160 (hR.fr f84))) ?_
            refine RrV (x199_s (by omega) (hR.fr f84) (e84_k0) (e84_k1) (e84_em83) (e84_k2) (e84_k3) (e84_k4) ((g84.i _ _ (by decide)).trans ((g82.i _ _ (by decide)).trans ((g80.i _ _ (by decide)).trans ((sI_nej (by decide)).trans ((sI_nej (by decide)).trans ((g78.i _ _ (by decide)).trans ((g76.i _ _ (by decide)).trans (h49))))))))  (by omega)) fun v Ma86 h86 => ?_
            obtain ⟨em85, g86, e86_em85, e86_k0, e86_k1, e86_k2, e86_k3, e86_k4, p86_0⟩ := h86
            have f86 : Fr W_rp Mr Ma86 := Fr.t f84 (Fr.m g86 (by decide))
            refine rsr (cV_e rfl) ?_
            refine rsr (jv_e) ?_
            exact Rs.ok (Or.inr ⟨1, ((pl (i + 2))), f74, f86, ⟨(i + 2), sz73, sn73, uc73, e74_k0, e74_k1, e74_k2, e74_k3, e74_sz73, e74_sn73, e74_uc73, by omega⟩, ⟨em85, s, u, mu, ut, e86_k0, e86_k1, e86_em85, e86_k2, e86_k3, e86_k4, (g86.i _ _ (by decide)).trans ((g84.i _ _ (by decide)).trans ((g82.i _ _ (by decide)).trans ((g80.i _ _ (by decide)).trans ((sI_nej (by decide)).trans ((sI_nej (by decide)).trans ((g78.i _ _ (by decide)).trans ((g76.i _ _ (by decide)).trans (h49)))))))), by omega⟩⟩)
          ·
            refine rsl (cV_e (a64_2 (by omega) hS hC.sI.sI.sI.sI (hTk.fr (WL := W_cp) (Fr.sI (by decide) (Fr.sI (by decide) (Fr.sI (by decide) (Fr.sI (by decide) Fr.r)))) (by decide)) ((sI_nej (by decide)).trans (sI_eq)) (sI_eq) ((sI_nej (by decide)).trans ((sI_nej (by decide)).trans ((sI_nej (by decide)).trans ((sI_nej (by decide)).trans (qa_10))))) (li_61) (by omega))) ?_
            refine rsl (vC_e (ck_65 hC.sI.sI.sI.sI.sI.sI.sI)) ?_
            refine RlV (y99_0 (by omega) hC.sI.sI.sI.sI.sI.sI.sI (hTk.fr (WL := W_cp) (Fr.sI (by decide) (Fr.sI (by decide) (Fr.sI (by decide) (Fr.sI (by decide) (Fr.sI (by decide) (Fr.sI (by decide) (Fr.sI (by decide) Fr.r))))))) (by decide)) ((sI_nej (by decide)).trans ((sI_nej (by decide)).trans ((sI_nej (by decide)).trans ((sI_nej (by decide)).trans (sI_eq))))) (sI_eq) ((sI_nej (by decide)).trans ((sI_nej (by decide)).trans (sI_eq))) ((sI_nej (by decide)).trans (sI_eq)) ((sI_nej (by decide)).trans ((sI_nej (by decide)).trans ((sI_nej (by decide)).trans ((sI_nej (by decide)).trans ((sI_nej (by decide)).trans ((sI_nej (by decide)).trans ((sI_nej (by decide)).trans (qa_9)))))))) ((sI_nej (by decide)).trans ((sI_nej (by decide)).trans ((sI_nej (by decide)).trans ((sI_nej (by decide)).trans ((sI_nej (by decide)).trans ((sI_nej (by decide)).trans ((sI_nej (by decide)).trans (qa_16)))))))) ((sI_nej (by decide)).trans ((sI_nej (by decide)).trans ((sI_nej (by decide)).trans ((sI_nej (by decide)).trans ((sI_nej (by decide)).trans ((sI_nej (by decide)).trans ((sI_nej (by decide)).trans (qa_19)))))))) (li_0) (hv0) (by omega)) fun v Ma88 h88 => ?_
            obtain ⟨sz87, sn87, uc87, g88, e88_sz87, e88_sn87, e88_uc87, e88_k0, e88_k1, e88_k2, e88_k3, p88_0, p88_1, p88_2⟩ := h88
            have f88 : Fr W_cp Mc Ma88 := Fr.t (Fr.sI (by decide) (Fr.sI (by decide) (Fr.sI (by decide) (Fr.sI (by decide) (Fr.sI (by decide) (Fr.sI (by decide) (Fr.sI (by decide) Fr.r))))))) (Fr.m g88 (by decide))
            refine rsl (cV_e rfl) ?_
            refine rsl (vC_e (ck_65 (hC.fr f88))) ?_
            refine RlV (y64 (by omega) (hC.fr f88) (hTk.fr (WL := W_cp) f88 (by decide)) (e88_k3) (e88_k0) (e88_k1) (e88_k2) (e88_sz87) (e88_sn87) (e88_uc87) (li_59) (by omega)) fun v Ma90 h90 => ?_
            obtain ⟨sz89, sn89, uc89, g90, e90_sz89, e90_sn89, e90_uc89, e90_k0, e90_k1, e90_k2, e90_k3, p90_0, p90_1, p90_2⟩ := h90
            have f90 : Fr W_cp Mc Ma90 := Fr.t f88 (Fr.m g90 (by decide))
            refine rsl (cV_e rfl) ?_
            refine rsl (gtI_q (w := iI sn89) (ck_65 (hC.fr f90)) (e90_sn89)) ?_
            refine rsl (vC_e (ck_65 (hC.fr f90))) ?_
            refine RlI (y87 (by omega) (hC.fr f90) (hTk.fr (WL := W_cp) f90 (by decide)) (e90_k3) (e90_k0) (e90_k1) (e90_k2) (e90_sz89) (e90_sn89) (e90_uc89) (li_2) (rfl) (by omega)) fun v Ma92 h92 => ?_
            obtain ⟨rv91, sz91, sn91, uc91, rfl, g92, e92_sz91, e92_sn91, e92_uc91, e92_k0, e92_k1, e92_k2, e92_k3, p92_0, p92_1, p92_2, p92_3⟩ := h92
            have f92 : Fr W_cp Mc Ma92 := Fr.t f90 (Fr.m g92 (by decide))
            refine rsl (cI_e rfl) ?_
            refine rsl (vC_e (ck_65 (hC.fr f92))) ?_
            refine RlV (y75 (by omega) (hC.fr f92) (hTk.fr (WL := W_cp) f92 (by decide)) (e92_k3) (e92_k0) (e92_k1) (e92_k2) (e92_sz91) (e92_sn91) (e92_uc91)  (by omega)) fun v Ma94 h94 => ?_
            obtain ⟨sz93, sn93, uc93, g94, e94_sz93, e94_sn93, e94_uc93, e94_k0, e94_k1, e94_k2, e94_k3, p94_0, p94_1, p94_2⟩ := h94
            have f94 : Fr W_cp Mc Ma94 := Fr.t f92 (Fr.m g94 (by decide))
            refine rsl (cV_e rfl) ?_
            refine rsr (gtI_q (w := iI ((kr (kd i)))) (rk_160 hR) (wa_36)) ?_
            refine rsr (jn_v) ?_
            refine rsr (swI_c) ?_
            refine rsr (if_pos (krI_p (k := 215) (rfl) (li_416) (by omega) (by decide +kernel))) ?_
            refine rsr (vC_e (rk_160 hR)) ?_
            refine RrV (nx_ok (by omega) hS hR (hT.fr (W := W_rx) Fr.r (by decide) (by decide)) (fun i a b => (Fr.lc (W := W_rx) Fr.r _ (by decide) _).trans (hW i a b)) (i := i) (wa_41) (wa_38) (by omega) (by omega)) fun v Ma96 h96 => ?_
            obtain ⟨g96, e96_k0, e96_k1, e96_k2, p96_0⟩ := h96
            have f96 : Fr W_rx Mr Ma96 := Fr.t Fr.r (Fr.m g96 (by decide))
            refine rsr (cV_e rfl) ?_
            refine rsr (vC_e (rk_160 (hR.fr f96))) ?_
            refine rsr (cI_e (a198_p (by omega) hS (hR.fr f96) (e96_k0) (e96_k1) ((g96.i _ _ (by decide)).trans (wa_41)) p96_0 ((g96.i _ _ (by decide)).trans (wa_51)) (lra.fr g96 (by decide)) hlc7 (by omega))) ?_
            refine rsr (if_neg (eqI_n (rfl) (li_0) (by omega))) ?_
            refine rsr (gtL_q (w := (tx (i + 1))) (rk_160 (hR.fr f96)) (p96_0.1 (by omega))) ?_
            refine rsr (vC_e (rk_160 (hR.fr f96))) ?_
            refine RrV (nx_ok (by omega) hS (hR.fr f96) (hT.fr (W := W_rx) f96 (by decide) (by decide)) (fun i a b => (Fr.lc (W := W_rx) f96 _ (by decide) _).trans (hW i a b)) (i := (i + 1)) ((g96.i _ _ (by decide)).trans (wa_41)) (e96_k2) (by omega) (by omega)) fun v Ma98 h98 => ?_
            obtain ⟨g98, e98_k0, e98_k1, e98_k2, p98_0⟩ := h98
            have f98 : Fr W_rx Mr Ma98 := Fr.t f96 (Fr.m g98 (by decide))
            refine rsr (cV_e rfl) ?_
            refine rsr (vC_e (rk_160 (hR.fr f98))) ?_
            refine rsr (cI_e (a195_61_2 (by omega) hS (hR.fr f98) (e98_k0) (e98_k1) ((g98.i _ _ (by decide)).trans ((g96.i _ _ (by decide)).trans (wa_41))) (li_61) (by omega))) ?_
            refine rsr (vC_e (rk_160 (hR.fr f98).sI.sI)) ?_
            refine RrV (x211_s (by omega) (hR.fr f98).sI.sI ((sI_nej (by decide)).trans (sI_eq)) (sI_eq) ((sI_nej (by decide)).trans ((sI_nej (by decide)).trans ((g98.i _ _ (by decide)).trans ((g96.i _ _ (by decide)).trans (wa_43))))) ((sI_nej (by decide)).trans ((sI_nej (by decide)).trans ((g98.i _ _ (by decide)).trans ((g96.i _ _ (by decide)).trans (wa_51))))) ((sI_nej (by decide)).trans ((sI_nej (by decide)).trans ((g98.i _ _ (by decide)).trans ((g96.i _ _ (by decide)).trans (wa_53))))) ((sI_nej (by decide)).trans ((sI_nej (by decide)).trans ((g98.i _ _ (by decide)).trans ((g96.i _ _ (by decide)).trans (h48))))) ((sI_nej (by decide)).trans ((sI_nej (by decide)).trans ((g98.i _ _ (by decide)).trans ((g96.i _ _ (by decide)).trans (h49)))))  (by omega)) fun v Ma100 h100 => ?_
            obtain ⟨em99, g100, e100_em99, e100_k0, e100_k1, e100_k2, e100_k3, e100_k4, p100_0⟩ := h100
            have f100 : Fr W_rp Mr Ma100 := Fr.t (Fr.sI (by decide) (Fr.sI (by decide) (Fr.m f98 (by decide)))) (Fr.m g100 (by decide))
            refine rsr (cV_e rfl) ?_
            refine rsr (gtI_q (w := iI s) (rk_160 (hR.fr f100)) (e100_k2)) ?_
            refine rsr (vC_e (rk_160 (hR.fr f100))) ?_
            refine RrI (x196_s (by omega) (hR.fr f100) (e100_k0) (e100_k1) (e100_em99) (e100_k2) (e100_k3) (e100_k4) ((g100.i _ _ (by decide)).trans ((sI_nej (by decide)).trans ((sI_nej (by decide)).trans ((g98.i _ _ (by decide)).trans ((g96.i _ _ (by decide)).trans (h49)))))) (li_2) (rfl) (by omega)) fun v Ma102 h102 => ?_
            obtain ⟨rv101, em101, rfl, g102, e102_em101, e102_k0, e102_k1, e102_k2, e102_k3, e102_k4, p102_0, p102_1⟩ := h102
            have f102 : Fr W_rp Mr Ma102 := Fr.t f100 (Fr.m g102 (by decide))
            refine rsr (cI_e rfl) ?_
            refine rsr (vC_e (rk_160 (hR.fr f102))) ?_
            refine RrI (x195_s (by omega) (hR.fr f102) (e102_k0) (e102_k1) (e102_em101) (e102_k2) (e102_k3) (e102_k4) ((g102.i _ _ (by decide)).trans ((g100.i _ _ (by decide)).trans ((sI_nej (by decide)).trans ((sI_nej (by decide)).trans ((g98.i _ _ (by decide)).trans ((g96.i _ _ (by decide)).trans (h49))))))) (li_59) (by omega)) fun v Ma104 h104 => ?_
            obtain ⟨rv103, em103, rfl, g104, e104_em103, e104_k0, e104_k1, e104_k2, e104_k3, e104_k4, p104_0, p104_1⟩ := h104
            have f104 : Fr W_rp Mr Ma104 := Fr.t f102 (Fr.m g104 (by decide))
            refine rsr (cI_e rfl) ?_
            refine rsr (vC_e (rk_160 (hR.fr f104))) ?_
            refine RrV (x199_s (by omega) (hR.fr f104) (e104_k0) (e104_k1) (e104_em103) (e104_k2) (e104_k3) (e104_k4) ((g104.i _ _ (by decide)).trans ((g102.i _ _ (by decide)).trans ((g100.i _ _ (by decide)).trans ((sI_nej (by decide)).trans ((sI_nej (by decide)).trans ((g98.i _ _ (by decide)).trans ((g96.i _ _ (by decide)).trans (h49))))))))  (by omega)) fun v Ma106 h106 => ?_
            obtain ⟨em105, g106, e106_em105, e106_k0, e106_k1, e106_k2, e106_k3, e106_k4, p106_0⟩ := h106
            have f106 : Fr W_rp Mr Ma106 := Fr.t f104 (Fr.m g106 (by decide))
            refine rsr (cV_e rfl) ?_
            refine rsr (jv_e) ?_
            exact Rs.ok (Or.inr ⟨2, ((pl (i + 2))), f94, f106, ⟨(i + 2), sz93, sn93, uc93, e94_k0, e94_k1, e94_k2, e94_k3, e94_sz93, e94_sn93, e94_uc93, by omega⟩, ⟨em105, s, u, mu, ut, e106_k0, e106_k1, e106_em105, e106_k2, e106_k3, e106_k4, (g106.i _ _ (by decide)).trans ((g104.i _ _ (by decide)).trans ((g102.i _ _ (by decide)).trans ((g100.i _ _ (by decide)).trans ((sI_nej (by decide)).trans ((sI_nej (by decide)).trans ((g98.i _ _ (by decide)).trans ((g96.i _ _ (by decide)).trans (h49)))))))), by omega⟩⟩)
      · refine rsl (if_neg (lsI_n (rfl) (li_10) (by omega))) ?_
        refine rsl (jv_e) ?_
        refine rsl (vC_e (ck_65 hC.sI.sI)) ?_
        refine rsl (cL_e (a66_6 (by omega) hS hC.sI.sI (hTk.fr (WL := W_cp) (Fr.sI (by decide) (Fr.sI (by decide) Fr.r)) (by decide)) ((sI_nej (by decide)).trans (sI_eq)) (sI_eq) ((sI_nej (by decide)).trans ((sI_nej (by decide)).trans (qa_10))) (li_0) (li_1) (by omega))) ?_
        refine rsl (vC_e (ck_65 hC.sI.sI.sI.sI.sI)) ?_
        refine RlV (y64 (by omega) hC.sI.sI.sI.sI.sI (hTk.fr (WL := W_cp) (Fr.sI (by decide) (Fr.sI (by decide) (Fr.sI (by decide) (Fr.sI (by decide) (Fr.sI (by decide) Fr.r))))) (by decide)) ((sI_nej (by decide)).trans ((sI_nej (by decide)).trans ((sI_nej (by decide)).trans ((sI_nej (by decide)).trans (sI_eq))))) (sI_eq) ((sI_nej (by decide)).trans ((sI_nej (by decide)).trans (sI_eq))) ((sI_nej (by decide)).trans (sI_eq)) ((sI_nej (by decide)).trans ((sI_nej (by decide)).trans ((sI_nej (by decide)).trans ((sI_nej (by decide)).trans ((sI_nej (by decide)).trans (qa_9)))))) ((sI_nej (by decide)).trans ((sI_nej (by decide)).trans ((sI_nej (by decide)).trans ((sI_nej (by decide)).trans ((sI_nej (by decide)).trans (qa_16)))))) ((sI_nej (by decide)).trans ((sI_nej (by decide)).trans ((sI_nej (by decide)).trans ((sI_nej (by decide)).trans ((sI_nej (by decide)).trans (qa_19)))))) (li_61) (by omega)) fun v Ma108 h108 => ?_
        obtain ⟨sz107, sn107, uc107, g108, e108_sz107, e108_sn107, e108_uc107, e108_k0, e108_k1, e108_k2, e108_k3, p108_0, p108_1, p108_2⟩ := h108
        have f108 : Fr W_cp Mc Ma108 := Fr.t (Fr.sI (by decide) (Fr.sI (by decide) (Fr.sI (by decide) (Fr.sI (by decide) (Fr.sI (by decide) Fr.r))))) (Fr.m g108 (by decide))
        refine rsl (cV_e rfl) ?_
        refine rsl (vC_e (ck_65 (hC.fr f108))) ?_
        refine RlV (y99_0 (by omega) (hC.fr f108) (hTk.fr (WL := W_cp) f108 (by decide)) (e108_k3) (e108_k0) (e108_k1) (e108_k2) (e108_sz107) (e108_sn107) (e108_uc107) (li_0) (hv0) (by omega)) fun v Ma110 h110 => ?_
        obtain ⟨sz109, sn109, uc109, g110, e110_sz109, e110_sn109, e110_uc109, e110_k0, e110_k1, e110_k2, e110_k3, p110_0, p110_1, p110_2⟩ := h110
        have f110 : Fr W_cp Mc Ma110 := Fr.t f108 (Fr.m g110 (by decide))
        refine rsl (cV_e rfl) ?_
        refine rsl (vC_e (ck_65 (hC.fr f110))) ?_
        refine RlV (y64 (by omega) (hC.fr f110) (hTk.fr (WL := W_cp) f110 (by decide)) (e110_k3) (e110_k0) (e110_k1) (e110_k2) (e110_sz109) (e110_sn109) (e110_uc109) (li_59) (by omega)) fun v Ma112 h112 => ?_
        obtain ⟨sz111, sn111, uc111, g112, e112_sz111, e112_sn111, e112_uc111, e112_k0, e112_k1, e112_k2, e112_k3, p112_0, p112_1, p112_2⟩ := h112
        have f112 : Fr W_cp Mc Ma112 := Fr.t f110 (Fr.m g112 (by decide))
        refine rsl (cV_e rfl) ?_
        refine rsl (gtI_q (w := iI sn111) (ck_65 (hC.fr f112)) (e112_sn111)) ?_
        refine rsl (vC_e (ck_65 (hC.fr f112))) ?_
        refine RlI (y87 (by omega) (hC.fr f112) (hTk.fr (WL := W_cp) f112 (by decide)) (e112_k3) (e112_k0) (e112_k1) (e112_k2) (e112_sz111) (e112_sn111) (e112_uc111) (li_2) (rfl) (by omega)) fun v Ma114 h114 => ?_
        obtain ⟨rv113, sz113, sn113, uc113, rfl, g114, e114_sz113, e114_sn113, e114_uc113, e114_k0, e114_k1, e114_k2, e114_k3, p114_0, p114_1, p114_2, p114_3⟩ := h114
        have f114 : Fr W_cp Mc Ma114 := Fr.t f112 (Fr.m g114 (by decide))
        refine rsl (cI_e rfl) ?_
        refine rsl (vC_e (ck_65 (hC.fr f114))) ?_
        refine RlV (y75 (by omega) (hC.fr f114) (hTk.fr (WL := W_cp) f114 (by decide)) (e114_k3) (e114_k0) (e114_k1) (e114_k2) (e114_sz113) (e114_sn113) (e114_uc113)  (by omega)) fun v Ma116 h116 => ?_
        obtain ⟨sz115, sn115, uc115, g116, e116_sz115, e116_sn115, e116_uc115, e116_k0, e116_k1, e116_k2, e116_k3, p116_0, p116_1, p116_2⟩ := h116
        have f116 : Fr W_cp Mc Ma116 := Fr.t f114 (Fr.m g116 (by decide))
        refine rsl (cV_e rfl) ?_
        refine rsr (gtI_q (w := iI ((kr (kd i)))) (rk_160 hR) (wa_36)) ?_
        refine rsr (jn_v) ?_
        refine rsr (swI_c) ?_
        refine rsr (if_pos (krI_p (k := 215) (rfl) (li_416) (by omega) (by decide +kernel))) ?_
        refine rsr (vC_e (rk_160 hR)) ?_
        refine RrV (nx_ok (by omega) hS hR (hT.fr (W := W_rx) Fr.r (by decide) (by decide)) (fun i a b => (Fr.lc (W := W_rx) Fr.r _ (by decide) _).trans (hW i a b)) (i := i) (wa_41) (wa_38) (by omega) (by omega)) fun v Ma118 h118 => ?_
        obtain ⟨g118, e118_k0, e118_k1, e118_k2, p118_0⟩ := h118
        have f118 : Fr W_rx Mr Ma118 := Fr.t Fr.r (Fr.m g118 (by decide))
        refine rsr (cV_e rfl) ?_
        refine rsr (vC_e (rk_160 (hR.fr f118))) ?_
        refine rsr (cI_e (a198_6 (by omega) hS (hR.fr f118) (e118_k0) (e118_k1) ((g118.i _ _ (by decide)).trans (wa_41)) p118_0 ((g118.i _ _ (by decide)).trans (wa_51)) (lra.fr g118 (by decide)) hlc7 (by omega))) ?_
        refine rsr (if_pos (eqI_p (rfl) (li_0) (by omega))) ?_
        refine rsr (jv_e) ?_
        exact Rs.ok (Or.inr ⟨6, ((pl (i + 1))), f116, (Fr.sI (by decide) (Fr.sI (by decide) (Fr.m f118 (by decide)))), ⟨(i + 1), sz115, sn115, uc115, e116_k0, e116_k1, e116_k2, e116_k3, e116_sz115, e116_sn115, e116_uc115, by omega⟩, ⟨e, s, u, mu, ut, (sI_nej (by decide)).trans (sI_eq), sI_eq, (sI_nej (by decide)).trans ((sI_nej (by decide)).trans ((g118.i _ _ (by decide)).trans (wa_43))), (sI_nej (by decide)).trans ((sI_nej (by decide)).trans ((g118.i _ _ (by decide)).trans (wa_51))), (sI_nej (by decide)).trans ((sI_nej (by decide)).trans ((g118.i _ _ (by decide)).trans (wa_53))), (sI_nej (by decide)).trans ((sI_nej (by decide)).trans ((g118.i _ _ (by decide)).trans (h48))), (sI_nej (by decide)).trans ((sI_nej (by decide)).trans ((g118.i _ _ (by decide)).trans (h49))), by omega⟩⟩)
    ·
      refine rsl (jn_v) ?_
      refine rsl (if_neg (lsI_n (congrArg iI (if_neg crl7)) (li_0) (by omega))) ?_
      refine rsl (jv_e) ?_
      refine rsl (gtI_q (w := iI s) (ck_65 hC.sI.sI) ((sI_nej (by decide)).trans ((sI_nej (by decide)).trans (qa_16)))) ?_
      refine rsl (jn_v) ?_
      by_cases c119 : s < 10
      · refine rsl (if_pos (lsI_p (rfl) (li_10) (by omega))) ?_
        refine rsl (jv_e) ?_
        refine rsl (vC_e (ck_65 hC.sI.sI)) ?_
        refine rsl (cL_e (a66_3 (by omega) hS hC.sI.sI (hTk.fr (WL := W_cp) (Fr.sI (by decide) (Fr.sI (by decide) Fr.r)) (by decide)) ((sI_nej (by decide)).trans (sI_eq)) (sI_eq) ((sI_nej (by decide)).trans ((sI_nej (by decide)).trans (qa_10))) (li_1) (li_0) (by omega))) ?_
        refine rsl (vC_e (ck_65 hC.sI.sI.sI.sI.sI)) ?_
        refine RlV (y64 (by omega) hC.sI.sI.sI.sI.sI (hTk.fr (WL := W_cp) (Fr.sI (by decide) (Fr.sI (by decide) (Fr.sI (by decide) (Fr.sI (by decide) (Fr.sI (by decide) Fr.r))))) (by decide)) ((sI_nej (by decide)).trans ((sI_nej (by decide)).trans ((sI_nej (by decide)).trans ((sI_nej (by decide)).trans (sI_eq))))) (sI_eq) ((sI_nej (by decide)).trans ((sI_nej (by decide)).trans (sI_eq))) ((sI_nej (by decide)).trans (sI_eq)) ((sI_nej (by decide)).trans ((sI_nej (by decide)).trans ((sI_nej (by decide)).trans ((sI_nej (by decide)).trans ((sI_nej (by decide)).trans (qa_9)))))) ((sI_nej (by decide)).trans ((sI_nej (by decide)).trans ((sI_nej (by decide)).trans ((sI_nej (by decide)).trans ((sI_nej (by decide)).trans (qa_16)))))) ((sI_nej (by decide)).trans ((sI_nej (by decide)).trans ((sI_nej (by decide)).trans ((sI_nej (by decide)).trans ((sI_nej (by decide)).trans (qa_19)))))) (li_61) (by omega)) fun v Ma121 h121 => ?_
        obtain ⟨sz120, sn120, uc120, g121, e121_sz120, e121_sn120, e121_uc120, e121_k0, e121_k1, e121_k2, e121_k3, p121_0, p121_1, p121_2⟩ := h121
        have f121 : Fr W_cp Mc Ma121 := Fr.t (Fr.sI (by decide) (Fr.sI (by decide) (Fr.sI (by decide) (Fr.sI (by decide) (Fr.sI (by decide) Fr.r))))) (Fr.m g121 (by decide))
        refine rsl (cV_e rfl) ?_
        refine rsl (vC_e (ck_65 (hC.fr f121))) ?_
        refine RlV (y99_0 (by omega) (hC.fr f121) (hTk.fr (WL := W_cp) f121 (by decide)) (e121_k3) (e121_k0) (e121_k1) (e121_k2) (e121_sz120) (e121_sn120) (e121_uc120) (li_0) (hv0) (by omega)) fun v Ma123 h123 => ?_
        obtain ⟨sz122, sn122, uc122, g123, e123_sz122, e123_sn122, e123_uc122, e123_k0, e123_k1, e123_k2, e123_k3, p123_0, p123_1, p123_2⟩ := h123
        have f123 : Fr W_cp Mc Ma123 := Fr.t f121 (Fr.m g123 (by decide))
        refine rsl (cV_e rfl) ?_
        refine rsl (vC_e (ck_65 (hC.fr f123))) ?_
        refine RlV (y64 (by omega) (hC.fr f123) (hTk.fr (WL := W_cp) f123 (by decide)) (e123_k3) (e123_k0) (e123_k1) (e123_k2) (e123_sz122) (e123_sn122) (e123_uc122) (li_59) (by omega)) fun v Ma125 h125 => ?_
        obtain ⟨sz124, sn124, uc124, g125, e125_sz124, e125_sn124, e125_uc124, e125_k0, e125_k1, e125_k2, e125_k3, p125_0, p125_1, p125_2⟩ := h125
        have f125 : Fr W_cp Mc Ma125 := Fr.t f123 (Fr.m g125 (by decide))
        refine rsl (cV_e rfl) ?_
        refine rsl (gtI_q (w := iI sn124) (ck_65 (hC.fr f125)) (e125_sn124)) ?_
        refine rsl (vC_e (ck_65 (hC.fr f125))) ?_
        refine RlI (y87 (by omega) (hC.fr f125) (hTk.fr (WL := W_cp) f125 (by decide)) (e125_k3) (e125_k0) (e125_k1) (e125_k2) (e125_sz124) (e125_sn124) (e125_uc124) (li_2) (rfl) (by omega)) fun v Ma127 h127 => ?_
        obtain ⟨rv126, sz126, sn126, uc126, rfl, g127, e127_sz126, e127_sn126, e127_uc126, e127_k0, e127_k1, e127_k2, e127_k3, p127_0, p127_1, p127_2, p127_3⟩ := h127
        have f127 : Fr W_cp Mc Ma127 := Fr.t f125 (Fr.m g127 (by decide))
        refine rsl (cI_e rfl) ?_
        refine rsl (vC_e (ck_65 (hC.fr f127))) ?_
        refine RlV (y75 (by omega) (hC.fr f127) (hTk.fr (WL := W_cp) f127 (by decide)) (e127_k3) (e127_k0) (e127_k1) (e127_k2) (e127_sz126) (e127_sn126) (e127_uc126)  (by omega)) fun v Ma129 h129 => ?_
        obtain ⟨sz128, sn128, uc128, g129, e129_sz128, e129_sn128, e129_uc128, e129_k0, e129_k1, e129_k2, e129_k3, p129_0, p129_1, p129_2⟩ := h129
        have f129 : Fr W_cp Mc Ma129 := Fr.t f127 (Fr.m g129 (by decide))
        refine rsl (cV_e rfl) ?_
        refine rsr (gtI_q (w := iI ((kr (kd i)))) (rk_160 hR) (wa_36)) ?_
        refine rsr (jn_v) ?_
        refine rsr (swI_c) ?_
        refine rsr (if_pos (krI_p (k := 215) (rfl) (li_416) (by omega) (by decide +kernel))) ?_
        refine rsr (vC_e (rk_160 hR)) ?_
        refine RrV (nx_ok (by omega) hS hR (hT.fr (W := W_rx) Fr.r (by decide) (by decide)) (fun i a b => (Fr.lc (W := W_rx) Fr.r _ (by decide) _).trans (hW i a b)) (i := i) (wa_41) (wa_38) (by omega) (by omega)) fun v Ma131 h131 => ?_
        obtain ⟨g131, e131_k0, e131_k1, e131_k2, p131_0⟩ := h131
        have f131 : Fr W_rx Mr Ma131 := Fr.t Fr.r (Fr.m g131 (by decide))
        refine rsr (cV_e rfl) ?_
        refine rsr (vC_e (rk_160 (hR.fr f131))) ?_
        refine rsr (cI_e (a198_3 (by omega) hS (hR.fr f131) (e131_k0) (e131_k1) ((g131.i _ _ (by decide)).trans (wa_41)) p131_0 ((g131.i _ _ (by decide)).trans (wa_51)) (lra.fr g131 (by decide)) hlc7 (by omega))) ?_
        refine rsr (if_pos (eqI_p (rfl) (li_0) (by omega))) ?_
        refine rsr (jv_e) ?_
        exact Rs.ok (Or.inr ⟨3, ((pl (i + 1))), f129, (Fr.sI (by decide) (Fr.sI (by decide) (Fr.m f131 (by decide)))), ⟨(i + 1), sz128, sn128, uc128, e129_k0, e129_k1, e129_k2, e129_k3, e129_sz128, e129_sn128, e129_uc128, by omega⟩, ⟨e, s, u, mu, ut, (sI_nej (by decide)).trans (sI_eq), sI_eq, (sI_nej (by decide)).trans ((sI_nej (by decide)).trans ((g131.i _ _ (by decide)).trans (wa_43))), (sI_nej (by decide)).trans ((sI_nej (by decide)).trans ((g131.i _ _ (by decide)).trans (wa_51))), (sI_nej (by decide)).trans ((sI_nej (by decide)).trans ((g131.i _ _ (by decide)).trans (wa_53))), (sI_nej (by decide)).trans ((sI_nej (by decide)).trans ((g131.i _ _ (by decide)).trans (h48))), (sI_nej (by decide)).trans ((sI_nej (by decide)).trans ((g131.i _ _ (by decide)).trans (h49))), by omega⟩⟩)
      · refine rsl (if_neg (lsI_n (rfl) (li_10) (by omega))) ?_
        refine rsl (jv_e) ?_
        refine rsl (vC_e (ck_65 hC.sI.sI)) ?_
        refine rsl (cL_e (a66_3 (by omega) hS hC.sI.sI (hTk.fr (WL := W_cp) (Fr.sI (by decide) (Fr.sI (by decide) Fr.r)) (by decide)) ((sI_nej (by decide)).trans (sI_eq)) (sI_eq) ((sI_nej (by decide)).trans ((sI_nej (by decide)).trans (qa_10))) (li_1) (li_1) (by omega))) ?_
        refine rsl (vC_e (ck_65 hC.sI.sI.sI.sI.sI)) ?_
        refine RlV (y64 (by omega) hC.sI.sI.sI.sI.sI (hTk.fr (WL := W_cp) (Fr.sI (by decide) (Fr.sI (by decide) (Fr.sI (by decide) (Fr.sI (by decide) (Fr.sI (by decide) Fr.r))))) (by decide)) ((sI_nej (by decide)).trans ((sI_nej (by decide)).trans ((sI_nej (by decide)).trans ((sI_nej (by decide)).trans (sI_eq))))) (sI_eq) ((sI_nej (by decide)).trans ((sI_nej (by decide)).trans (sI_eq))) ((sI_nej (by decide)).trans (sI_eq)) ((sI_nej (by decide)).trans ((sI_nej (by decide)).trans ((sI_nej (by decide)).trans ((sI_nej (by decide)).trans ((sI_nej (by decide)).trans (qa_9)))))) ((sI_nej (by decide)).trans ((sI_nej (by decide)).trans ((sI_nej (by decide)).trans ((sI_nej (by decide)).trans ((sI_nej (by decide)).trans (qa_16)))))) ((sI_nej (by decide)).trans ((sI_nej (by decide)).trans ((sI_nej (by decide)).trans ((sI_nej (by decide)).trans ((sI_nej (by decide)).trans (qa_19)))))) (li_61) (by omega)) fun v Ma133 h133 => ?_
        obtain ⟨sz132, sn132, uc132, g133, e133_sz132, e133_sn132, e133_uc132, e133_k0, e133_k1, e133_k2, e133_k3, p133_0, p133_1, p133_2⟩ := h133
        have f133 : Fr W_cp Mc Ma133 := Fr.t (Fr.sI (by decide) (Fr.sI (by decide) (Fr.sI (by decide) (Fr.sI (by decide) (Fr.sI (by decide) Fr.r))))) (Fr.m g133 (by decide))
        refine rsl (cV_e rfl) ?_
        refine rsl (vC_e (ck_65 (hC.fr f133))) ?_
        refine RlV (y99_0 (by omega) (hC.fr f133) (hTk.fr (WL := W_cp) f133 (by decide)) (e133_k3) (e133_k0) (e133_k1) (e133_k2) (e133_sz132) (e133_sn132) (e133_uc132) (li_0) (hv0) (by omega)) fun v Ma135 h135 => ?_
        obtain ⟨sz134, sn134, uc134, g135, e135_sz134, e135_sn134, e135_uc134, e135_k0, e135_k1, e135_k2, e135_k3, p135_0, p135_1, p135_2⟩ := h135
        have f135 : Fr W_cp Mc Ma135 := Fr.t f133 (Fr.m g135 (by decide))
        refine rsl (cV_e rfl) ?_
        refine rsl (vC_e (ck_65 (hC.fr f135))) ?_
        refine RlV (y64 (by omega) (hC.fr f135) (hTk.fr (WL := W_cp) f135 (by decide)) (e135_k3) (e135_k0) (e135_k1) (e135_k2) (e135_sz134) (e135_sn134) (e135_uc134) (li_59) (by omega)) fun v Ma137 h137 => ?_
        obtain ⟨sz136, sn136, uc136, g137, e137_sz136, e137_sn136, e137_uc136, e137_k0, e137_k1, e137_k2, e137_k3, p137_0, p137_1, p137_2⟩ := h137
        have f137 : Fr W_cp Mc Ma137 := Fr.t f135 (Fr.m g137 (by decide))
        refine rsl (cV_e rfl) ?_
        refine rsl (gtI_q (w := iI sn136) (ck_65 (hC.fr f137)) (e137_sn136)) ?_
        refine rsl (vC_e (ck_65 (hC.fr f137))) ?_
        refine RlI (y87 (by omega) (hC.fr f137) (hTk.fr (WL := W_cp) f137 (by decide)) (e137_k3) (e137_k0) (e137_k1) (e137_k2) (e137_sz136) (e137_sn136) (e137_uc136) (li_2) (rfl) (by omega)) fun v Ma139 h139 => ?_
        obtain ⟨rv138, sz138, sn138, uc138, rfl, g139, e139_sz138, e139_sn138, e139_uc138, e139_k0, e139_k1, e139_k2, e139_k3, p139_0, p139_1, p139_2, p139_3⟩ := h139
        have f139 : Fr W_cp Mc Ma139 := Fr.t f137 (Fr.m g139 (by decide))
        refine rsl (cI_e rfl) ?_
        refine rsl (vC_e (ck_65 (hC.fr f139))) ?_
        refine RlV (y75 (by omega) (hC.fr f139) (hTk.fr (WL := W_cp) f139 (by decide)) (e139_k3) (e139_k0) (e139_k1) (e139_k2) (e139_sz138) (e139_sn138) (e139_uc138)  (by omega)) fun v Ma141 h141 => ?_
        obtain ⟨sz140, sn140, uc140, g141, e141_sz140, e141_sn140, e141_uc140, e141_k0, e141_k1, e141_k2, e141_k3, p141_0, p141_1, p141_2⟩ := h141
        have f141 : Fr W_cp Mc Ma141 := Fr.t f139 (Fr.m g141 (by decide))
        refine rsl (cV_e rfl) ?_
        refine rsr (gtI_q (w := iI ((kr (kd i)))) (rk_160 hR) (wa_36)) ?_
        refine rsr (jn_v) ?_
        refine rsr (swI_c) ?_
        refine rsr (if_pos (krI_p (k := 215) (rfl) (li_416) (by omega) (by decide +kernel))) ?_
        refine rsr (vC_e (rk_160 hR)) ?_
        refine RrV (nx_ok (by omega) hS hR (hT.fr (W := W_rx) Fr.r (by decide) (by decide)) (fun i a b => (Fr.lc (W := W_rx) Fr.r _ (by decide) _).trans (hW i a b)) (i := i) (wa_41) (wa_38) (by omega) (by omega)) fun v Ma143 h143 => ?_
        obtain ⟨g143, e143_k0, e143_k1, e143_k2, p143_0⟩ := h143
        have f143 : Fr W_rx Mr Ma143 := Fr.t Fr.r (Fr.m g143 (by decide))
        refine rsr (cV_e rfl) ?_
        refine rsr (vC_e (rk_160 (hR.fr f143))) ?_
        refine rsr (cI_e (a198_3 (by omega) hS (hR.fr f143) (e143_k0) (e143_k1) ((g143.i _ _ (by decide)).trans (wa_41)) p143_0 ((g143.i _ _ (by decide)).trans (wa_51)) (lra.fr g143 (by decide)) hlc7 (by omega))) ?_
        refine rsr (if_pos (eqI_p (rfl) (li_0) (by omega))) ?_
        refine rsr (jv_e) ?_
        exact Rs.ok (Or.inr ⟨3, ((pl (i + 1))), f141, (Fr.sI (by decide) (Fr.sI (by decide) (Fr.m f143 (by decide)))), ⟨(i + 1), sz140, sn140, uc140, e141_k0, e141_k1, e141_k2, e141_k3, e141_sz140, e141_sn140, e141_uc140, by omega⟩, ⟨e, s, u, mu, ut, (sI_nej (by decide)).trans (sI_eq), sI_eq, (sI_nej (by decide)).trans ((sI_nej (by decide)).trans ((g143.i _ _ (by decide)).trans (wa_43))), (sI_nej (by decide)).trans ((sI_nej (by decide)).trans ((g143.i _ _ (by decide)).trans (wa_51))), (sI_nej (by decide)).trans ((sI_nej (by decide)).trans ((g143.i _ _ (by decide)).trans (wa_53))), (sI_nej (by decide)).trans ((sI_nej (by decide)).trans ((g143.i _ _ (by decide)).trans (h48))), (sI_nej (by decide)).trans ((sI_nej (by decide)).trans ((g143.i _ _ (by decide)).trans (h49))), by omega⟩⟩)
  ·
    refine RlI (a74 (by omega) hC.sI.sI ((sI_nej (by decide)).trans ((sI_nej (by decide)).trans (qa_16))) (lca.fr (W := W_c0) (Fr.sI (by decide) (Fr.sI (by decide) Fr.r)) (by decide)) (x := (tx (i + 1))) (by omega)) fun v Ml hl => ?_
    obtain ⟨rl144, rfl, hMl144, hlc144⟩ := hl
    rw [hMl144]
    refine rsl (cI_e rfl) ?_
    have brl144 := hlc144.bd
    by_cases crl144 : rl144 = -1
    ·
      refine rsl (jn_v) ?_
      refine rsl (if_pos (lsI_p (congrArg iI (if_pos crl144)) (li_0) (by omega))) ?_
      refine rsl (jv_e) ?_
      refine rsl (gtI_q (w := iI s) (ck_65 hC.sI.sI) ((sI_nej (by decide)).trans ((sI_nej (by decide)).trans (qa_16)))) ?_
      refine rsl (jn_v) ?_
      by_cases c145 : s < 10
      · refine rsl (if_pos (lsI_p (rfl) (li_10) (by omega))) ?_
        refine rsl (jv_e) ?_
        refine rsl (vC_e (ck_65 hC.sI.sI)) ?_
        by_cases c146 : ((kd (i + 1))) = 1
        ·
          refine rsl (cL_e (a66_1 (by omega) hS hC.sI.sI (hTk.fr (WL := W_cp) (Fr.sI (by decide) (Fr.sI (by decide) Fr.r)) (by decide)) ((sI_nej (by decide)).trans (sI_eq)) (sI_eq) ((sI_nej (by decide)).trans ((sI_nej (by decide)).trans (qa_10))) (li_0) (li_0) (by omega))) ?_
          refine rsl (vC_e (ck_65 hC.sI.sI.sI.sI.sI)) ?_
          refine RlV (y64 (by omega) hC.sI.sI.sI.sI.sI (hTk.fr (WL := W_cp) (Fr.sI (by decide) (Fr.sI (by decide) (Fr.sI (by decide) (Fr.sI (by decide) (Fr.sI (by decide) Fr.r))))) (by decide)) ((sI_nej (by decide)).trans ((sI_nej (by decide)).trans ((sI_nej (by decide)).trans ((sI_nej (by decide)).trans (sI_eq))))) (sI_eq) ((sI_nej (by decide)).trans ((sI_nej (by decide)).trans (sI_eq))) ((sI_nej (by decide)).trans (sI_eq)) ((sI_nej (by decide)).trans ((sI_nej (by decide)).trans ((sI_nej (by decide)).trans ((sI_nej (by decide)).trans ((sI_nej (by decide)).trans (qa_9)))))) ((sI_nej (by decide)).trans ((sI_nej (by decide)).trans ((sI_nej (by decide)).trans ((sI_nej (by decide)).trans ((sI_nej (by decide)).trans (qa_16)))))) ((sI_nej (by decide)).trans ((sI_nej (by decide)).trans ((sI_nej (by decide)).trans ((sI_nej (by decide)).trans ((sI_nej (by decide)).trans (qa_19)))))) (li_61) (by omega)) fun v Ma148 h148 => ?_
          obtain ⟨sz147, sn147, uc147, g148, e148_sz147, e148_sn147, e148_uc147, e148_k0, e148_k1, e148_k2, e148_k3, p148_0, p148_1, p148_2⟩ := h148
          have f148 : Fr W_cp Mc Ma148 := Fr.t (Fr.sI (by decide) (Fr.sI (by decide) (Fr.sI (by decide) (Fr.sI (by decide) (Fr.sI (by decide) Fr.r))))) (Fr.m g148 (by decide))
          refine rsl (cV_e rfl) ?_
          refine rsl (vC_e (ck_65 (hC.fr f148))) ?_
          refine RlV (y99_0 (by omega) (hC.fr f148) (hTk.fr (WL := W_cp) f148 (by decide)) (e148_k3) (e148_k0) (e148_k1) (e148_k2) (e148_sz147) (e148_sn147) (e148_uc147) (li_0) (hv0) (by omega)) fun v Ma150 h150 => ?_
          obtain ⟨sz149, sn149, uc149, g150, e150_sz149, e150_sn149, e150_uc149, e150_k0, e150_k1, e150_k2, e150_k3, p150_0, p150_1, p150_2⟩ := h150
          have f150 : Fr W_cp Mc Ma150 := Fr.t f148 (Fr.m g150 (by decide))
          refine rsl (cV_e rfl) ?_
          refine rsl (vC_e (ck_65 (hC.fr f150))) ?_
          refine RlV (y64 (by omega) (hC.fr f150) (hTk.fr (WL := W_cp) f150 (by decide)) (e150_k3) (e150_k0) (e150_k1) (e150_k2) (e150_sz149) (e150_sn149) (e150_uc149) (li_59) (by omega)) fun v Ma152 h152 => ?_
          obtain ⟨sz151, sn151, uc151, g152, e152_sz151, e152_sn151, e152_uc151, e152_k0, e152_k1, e152_k2, e152_k3, p152_0, p152_1, p152_2⟩ := h152
          have f152 : Fr W_cp Mc Ma152 := Fr.t f150 (Fr.m g152 (by decide))
          refine rsl (cV_e rfl) ?_
          refine rsl (gtI_q (w := iI sn151) (ck_65 (hC.fr f152)) (e152_sn151)) ?_
          refine rsl (vC_e (ck_65 (hC.fr f152))) ?_
          refine RlI (y87 (by omega) (hC.fr f152) (hTk.fr (WL := W_cp) f152 (by decide)) (e152_k3) (e152_k0) (e152_k1) (e152_k2) (e152_sz151) (e152_sn151) (e152_uc151) (li_2) (rfl) (by omega)) fun v Ma154 h154 => ?_
          obtain ⟨rv153, sz153, sn153, uc153, rfl, g154, e154_sz153, e154_sn153, e154_uc153, e154_k0, e154_k1, e154_k2, e154_k3, p154_0, p154_1, p154_2, p154_3⟩ := h154
          have f154 : Fr W_cp Mc Ma154 := Fr.t f152 (Fr.m g154 (by decide))
          refine rsl (cI_e rfl) ?_
          refine rsl (vC_e (ck_65 (hC.fr f154))) ?_
          refine RlV (y75 (by omega) (hC.fr f154) (hTk.fr (WL := W_cp) f154 (by decide)) (e154_k3) (e154_k0) (e154_k1) (e154_k2) (e154_sz153) (e154_sn153) (e154_uc153)  (by omega)) fun v Ma156 h156 => ?_
          obtain ⟨sz155, sn155, uc155, g156, e156_sz155, e156_sn155, e156_uc155, e156_k0, e156_k1, e156_k2, e156_k3, p156_0, p156_1, p156_2⟩ := h156
          have f156 : Fr W_cp Mc Ma156 := Fr.t f154 (Fr.m g156 (by decide))
          refine rsl (cV_e rfl) ?_
          refine rsr (gtI_q (w := iI ((kr (kd i)))) (rk_160 hR) (wa_36)) ?_
          refine rsr (jn_v) ?_
          refine rsr (swI_c) ?_
          refine rsr (if_pos (krI_p (k := 215) (rfl) (li_416) (by omega) (by decide +kernel))) ?_
          refine rsr (vC_e (rk_160 hR)) ?_
          refine RrV (nx_ok (by omega) hS hR (hT.fr (W := W_rx) Fr.r (by decide) (by decide)) (fun i a b => (Fr.lc (W := W_rx) Fr.r _ (by decide) _).trans (hW i a b)) (i := i) (wa_41) (wa_38) (by omega) (by omega)) fun v Ma158 h158 => ?_
          obtain ⟨g158, e158_k0, e158_k1, e158_k2, p158_0⟩ := h158
          have f158 : Fr W_rx Mr Ma158 := Fr.t Fr.r (Fr.m g158 (by decide))
          refine rsr (cV_e rfl) ?_
          refine rsr (vC_e (rk_160 (hR.fr f158))) ?_
          refine rsr (cI_e (a198_1 (by omega) hS (hR.fr f158) (e158_k0) (e158_k1) ((g158.i _ _ (by decide)).trans (wa_41)) p158_0 ((g158.i _ _ (by decide)).trans (wa_51)) (lra.fr g158 (by decide)) (by omega))) ?_
          refine rsr (if_pos (eqI_p (rfl) (li_0) (by omega))) ?_
          refine rsr (jv_e) ?_
          exact Rs.ok (Or.inr ⟨1, ((pl (i + 1))), f156, (Fr.sI (by decide) (Fr.sI (by decide) (Fr.m f158 (by decide)))), ⟨(i + 1), sz155, sn155, uc155, e156_k0, e156_k1, e156_k2, e156_k3, e156_sz155, e156_sn155, e156_uc155, by omega⟩, ⟨e, s, u, mu, ut, (sI_nej (by decide)).trans (sI_eq), sI_eq, (sI_nej (by decide)).trans ((sI_nej (by decide)).trans ((g158.i _ _ (by decide)).trans (wa_43))), (sI_nej (by decide)).trans ((sI_nej (by decide)).trans ((g158.i _ _ (by decide)).trans (wa_51))), (sI_nej (by decide)).trans ((sI_nej (by decide)).trans ((g158.i _ _ (by decide)).trans (wa_53))), (sI_nej (by decide)).trans ((sI_nej (by decide)).trans ((g158.i _ _ (by decide)).trans (h48))), (sI_nej (by decide)).trans ((sI_nej (by decide)).trans ((g158.i _ _ (by decide)).trans (h49))), by omega⟩⟩)
        ·
          refine rsl (cL_e (a66_2 (by omega) hS hC.sI.sI (hTk.fr (WL := W_cp) (Fr.sI (by decide) (Fr.sI (by decide) Fr.r)) (by decide)) ((sI_nej (by decide)).trans (sI_eq)) (sI_eq) ((sI_nej (by decide)).trans ((sI_nej (by decide)).trans (qa_10))) (li_0) (li_0) (by omega))) ?_
          refine rsl (vC_e (ck_65 hC.sI.sI.sI.sI.sI)) ?_
          refine RlV (y64 (by omega) hC.sI.sI.sI.sI.sI (hTk.fr (WL := W_cp) (Fr.sI (by decide) (Fr.sI (by decide) (Fr.sI (by decide) (Fr.sI (by decide) (Fr.sI (by decide) Fr.r))))) (by decide)) ((sI_nej (by decide)).trans ((sI_nej (by decide)).trans ((sI_nej (by decide)).trans ((sI_nej (by decide)).trans (sI_eq))))) (sI_eq) ((sI_nej (by decide)).trans ((sI_nej (by decide)).trans (sI_eq))) ((sI_nej (by decide)).trans (sI_eq)) ((sI_nej (by decide)).trans ((sI_nej (by decide)).trans ((sI_nej (by decide)).trans ((sI_nej (by decide)).trans ((sI_nej (by decide)).trans (qa_9)))))) ((sI_nej (by decide)).trans ((sI_nej (by decide)).trans ((sI_nej (by decide)).trans ((sI_nej (by decide)).trans ((sI_nej (by decide)).trans (qa_16)))))) ((sI_nej (by decide)).trans ((sI_nej (by decide)).trans ((sI_nej (by decide)).trans ((sI_nej (by decide)).trans ((sI_nej (by decide)).trans (qa_19)))))) (li_61) (by omega)) fun v Ma160 h160 => ?_
          obtain ⟨sz159, sn159, uc159, g160, e160_sz159, e160_sn159, e160_uc159, e160_k0, e160_k1, e160_k2, e160_k3, p160_0, p160_1, p160_2⟩ := h160
          have f160 : Fr W_cp Mc Ma160 := Fr.t (Fr.sI (by decide) (Fr.sI (by decide) (Fr.sI (by decide) (Fr.sI (by decide) (Fr.sI (by decide) Fr.r))))) (Fr.m g160 (by decide))
          refine rsl (cV_e rfl) ?_
          refine rsl (vC_e (ck_65 (hC.fr f160))) ?_
          refine RlV (y99_0 (by omega) (hC.fr f160) (hTk.fr (WL := W_cp) f160 (by decide)) (e160_k3) (e160_k0) (e160_k1) (e160_k2) (e160_sz159) (e160_sn159) (e160_uc159) (li_0) (hv0) (by omega)) fun v Ma162 h162 => ?_
          obtain ⟨sz161, sn161, uc161, g162, e162_sz161, e162_sn161, e162_uc161, e162_k0, e162_k1, e162_k2, e162_k3, p162_0, p162_1, p162_2⟩ := h162
          have f162 : Fr W_cp Mc Ma162 := Fr.t f160 (Fr.m g162 (by decide))
          refine rsl (cV_e rfl) ?_
          refine rsl (vC_e (ck_65 (hC.fr f162))) ?_
          refine RlV (y64 (by omega) (hC.fr f162) (hTk.fr (WL := W_cp) f162 (by decide)) (e162_k3) (e162_k0) (e162_k1) (e162_k2) (e162_sz161) (e162_sn161) (e162_uc161) (li_59) (by omega)) fun v Ma164 h164 => ?_
          obtain ⟨sz163, sn163, uc163, g164, e164_sz163, e164_sn163, e164_uc163, e164_k0, e164_k1, e164_k2, e164_k3, p164_0, p164_1, p164_2⟩ := h164
          have f164 : Fr W_cp Mc Ma164 := Fr.t f162 (Fr.m g164 (by decide))
          refine rsl (cV_e rfl) ?_
          refine rsl (gtI_q (w := iI sn163) (ck_65 (hC.fr f164)) (e164_sn163)) ?_
          refine rsl (vC_e (ck_65 (hC.fr f164))) ?_
          refine RlI (y87 (by omega) (hC.fr f164) (hTk.fr (WL := W_cp) f164 (by decide)) (e164_k3) (e164_k0) (e164_k1) (e164_k2) (e164_sz163) (e164_sn163) (e164_uc163) (li_2) (rfl) (by omega)) fun v Ma166 h166 => ?_
          obtain ⟨rv165, sz165, sn165, uc165, rfl, g166, e166_sz165, e166_sn165, e166_uc165, e166_k0, e166_k1, e166_k2, e166_k3, p166_0, p166_1, p166_2, p166_3⟩ := h166
          have f166 : Fr W_cp Mc Ma166 := Fr.t f164 (Fr.m g166 (by decide))
          refine rsl (cI_e rfl) ?_
          refine rsl (vC_e (ck_65 (hC.fr f166))) ?_
          refine RlV (y75 (by omega) (hC.fr f166) (hTk.fr (WL := W_cp) f166 (by decide)) (e166_k3) (e166_k0) (e166_k1) (e166_k2) (e166_sz165) (e166_sn165) (e166_uc165)  (by omega)) fun v Ma168 h168 => ?_
          obtain ⟨sz167, sn167, uc167, g168, e168_sz167, e168_sn167, e168_uc167, e168_k0, e168_k1, e168_k2, e168_k3, p168_0, p168_1, p168_2⟩ := h168
          have f168 : Fr W_cp Mc Ma168 := Fr.t f166 (Fr.m g168 (by decide))
          refine rsl (cV_e rfl) ?_
          refine rsr (gtI_q (w := iI ((kr (kd i)))) (rk_160 hR) (wa_36)) ?_
          refine rsr (jn_v) ?_
          refine rsr (swI_c) ?_
          refine rsr (if_pos (krI_p (k := 215) (rfl) (li_416) (by omega) (by decide +kernel))) ?_
          refine rsr (vC_e (rk_160 hR)) ?_
          refine RrV (nx_ok (by omega) hS hR (hT.fr (W := W_rx) Fr.r (by decide) (by decide)) (fun i a b => (Fr.lc (W := W_rx) Fr.r _ (by decide) _).trans (hW i a b)) (i := i) (wa_41) (wa_38) (by omega) (by omega)) fun v Ma170 h170 => ?_
          obtain ⟨g170, e170_k0, e170_k1, e170_k2, p170_0⟩ := h170
          have f170 : Fr W_rx Mr Ma170 := Fr.t Fr.r (Fr.m g170 (by decide))
          refine rsr (cV_e rfl) ?_
          refine rsr (vC_e (rk_160 (hR.fr f170))) ?_
          refine rsr (cI_e (a198_2 (by omega) hS (hR.fr f170) (e170_k0) (e170_k1) ((g170.i _ _ (by decide)).trans (wa_41)) p170_0 ((g170.i _ _ (by decide)).trans (wa_51)) (lra.fr g170 (by decide)) (by omega))) ?_
          refine rsr (if_pos (eqI_p (rfl) (li_0) (by omega))) ?_
          refine rsr (jv_e) ?_
          exact Rs.ok (Or.inr ⟨2, ((pl (i + 1))), f168, (Fr.sI (by decide) (Fr.sI (by decide) (Fr.m f170 (by decide)))), ⟨(i + 1), sz167, sn167, uc167, e168_k0, e168_k1, e168_k2, e168_k3, e168_sz167, e168_sn167, e168_uc167, by omega⟩, ⟨e, s, u, mu, ut, (sI_nej (by decide)).trans (sI_eq), sI_eq, (sI_nej (by decide)).trans ((sI_nej (by decide)).trans ((g170.i _ _ (by decide)).trans (wa_43))), (sI_nej (by decide)).trans ((sI_nej (by decide)).trans ((g170.i _ _ (by decide)).trans (wa_51))), (sI_nej (by decide)).trans ((sI_nej (by decide)).trans ((g170.i _ _ (by decide)).trans (wa_53))), (sI_nej (by decide)).trans ((sI_nej (by decide)).trans ((g170.i _ _ (by decide)).trans (h48))), (sI_nej (by decide)).trans ((sI_nej (by decide)).trans ((g170.i _ _ (by decide)).trans (h49))), by omega⟩⟩)
      · refine rsl (if_neg (lsI_n (rfl) (li_10) (by omega))) ?_
        refine rsl (jv_e) ?_
        refine rsl (vC_e (ck_65 hC.sI.sI)) ?_
        by_cases c171 : ((kd (i + 1))) = 1
        ·
          refine rsl (cL_e (a66_1 (by omega) hS hC.sI.sI (hTk.fr (WL := W_cp) (Fr.sI (by decide) (Fr.sI (by decide) Fr.r)) (by decide)) ((sI_nej (by decide)).trans (sI_eq)) (sI_eq) ((sI_nej (by decide)).trans ((sI_nej (by decide)).trans (qa_10))) (li_0) (li_1) (by omega))) ?_
          refine rsl (vC_e (ck_65 hC.sI.sI.sI.sI.sI)) ?_
          refine RlV (y64 (by omega) hC.sI.sI.sI.sI.sI (hTk.fr (WL := W_cp) (Fr.sI (by decide) (Fr.sI (by decide) (Fr.sI (by decide) (Fr.sI (by decide) (Fr.sI (by decide) Fr.r))))) (by decide)) ((sI_nej (by decide)).trans ((sI_nej (by decide)).trans ((sI_nej (by decide)).trans ((sI_nej (by decide)).trans (sI_eq))))) (sI_eq) ((sI_nej (by decide)).trans ((sI_nej (by decide)).trans (sI_eq))) ((sI_nej (by decide)).trans (sI_eq)) ((sI_nej (by decide)).trans ((sI_nej (by decide)).trans ((sI_nej (by decide)).trans ((sI_nej (by decide)).trans ((sI_nej (by decide)).trans (qa_9)))))) ((sI_nej (by decide)).trans ((sI_nej (by decide)).trans ((sI_nej (by decide)).trans ((sI_nej (by decide)).trans ((sI_nej (by decide)).trans (qa_16)))))) ((sI_nej (by decide)).trans ((sI_nej (by decide)).trans ((sI_nej (by decide)).trans ((sI_nej (by decide)).trans ((sI_nej (by decide)).trans (qa_19)))))) (li_61) (by omega)) fun v Ma173 h173 => ?_
          obtain ⟨sz172, sn172, uc172, g173, e173_sz172, e173_sn172, e173_uc172, e173_k0, e173_k1, e173_k2, e173_k3, p173_0, p173_1, p173_2⟩ := h173
          have f173 : Fr W_cp Mc Ma173 := Fr.t (Fr.sI (by decide) (Fr.sI (by decide) (Fr.sI (by decide) (Fr.sI (by decide) (Fr.sI (by decide) Fr.r))))) (Fr.m g173 (by decide))
          refine rsl (cV_e rfl) ?_
          refine rsl (vC_e (ck_65 (hC.fr f173))) ?_
          refine RlV (y99_0 (by omega) (hC.fr f173) (hTk.fr (WL := W_cp) f173 (by decide)) (e173_k3) (e173_k0) (e173_k1) (e173_k2) (e173_sz172) (e173_sn172) (e173_uc172) (li_0) (hv0) (by omega)) fun v Ma175 h175 => ?_
          obtain ⟨sz174, sn174, uc174, g175, e175_sz174, e175_sn174, e175_uc174, e175_k0, e175_k1, e175_k2, e175_k3, p175_0, p175_1, p175_2⟩ := h175
          have f175 : Fr W_cp Mc Ma175 := Fr.t f173 (Fr.m g175 (by decide))
          refine rsl (cV_e rfl) ?_
          refine rsl (vC_e (ck_65 (hC.fr f175))) ?_
          refine RlV (y64 (by omega) (hC.fr f175) (hTk.fr (WL := W_cp) f175 (by decide)) (e175_k3) (e175_k0) (e175_k1) (e175_k2) (e175_sz174) (e175_sn174) (e175_uc174) (li_59) (by omega)) fun v Ma177 h177 => ?_
          obtain ⟨sz176, sn176, uc176, g177, e177_sz176, e177_sn176, e177_uc176, e177_k0, e177_k1, e177_k2, e177_k3, p177_0, p177_1, p177_2⟩ := h177
          have f177 : Fr W_cp Mc Ma177 := Fr.t f175 (Fr.m g177 (by decide))
          refine rsl (cV_e rfl) ?_
          refine rsl (gtI_q (w := iI sn176) (ck_65 (hC.fr f177)) (e177_sn176)) ?_
          refine rsl (vC_e (ck_65 (hC.fr f177))) ?_
          refine RlI (y87 (by omega) (hC.fr f177) (hTk.fr (WL := W_cp) f177 (by decide)) (e177_k3) (e177_k0) (e177_k1) (e177_k2) (e177_sz176) (e177_sn176) (e177_uc176) (li_2) (rfl) (by omega)) fun v Ma179 h179 => ?_
          obtain ⟨rv178, sz178, sn178, uc178, rfl, g179, e179_sz178, e179_sn178, e179_uc178, e179_k0, e179_k1, e179_k2, e179_k3, p179_0, p179_1, p179_2, p179_3⟩ := h179
          have f179 : Fr W_cp Mc Ma179 := Fr.t f177 (Fr.m g179 (by decide))
          refine rsl (cI_e rfl) ?_
          refine rsl (vC_e (ck_65 (hC.fr f179))) ?_
          refine RlV (y75 (by omega) (hC.fr f179) (hTk.fr (WL := W_cp) f179 (by decide)) (e179_k3) (e179_k0) (e179_k1) (e179_k2) (e179_sz178) (e179_sn178) (e179_uc178)  (by omega)) fun v Ma181 h181 => ?_
          obtain ⟨sz180, sn180, uc180, g181, e181_sz180, e181_sn180, e181_uc180, e181_k0, e181_k1, e181_k2, e181_k3, p181_0, p181_1, p181_2⟩ := h181
          have f181 : Fr W_cp Mc Ma181 := Fr.t f179 (Fr.m g181 (by decide))
          refine rsl (cV_e rfl) ?_
          refine rsr (gtI_q (w := iI ((kr (kd i)))) (rk_160 hR) (wa_36)) ?_
          refine rsr (jn_v) ?_
          refine rsr (swI_c) ?_
          refine rsr (if_pos (krI_p (k := 215) (rfl) (li_416) (by omega) (by decide +kernel))) ?_
          refine rsr (vC_e (rk_160 hR)) ?_
          refine RrV (nx_ok (by omega) hS hR (hT.fr (W := W_rx) Fr.r (by decide) (by decide)) (fun i a b => (Fr.lc (W := W_rx) Fr.r _ (by decide) _).trans (hW i a b)) (i := i) (wa_41) (wa_38) (by omega) (by omega)) fun v Ma183 h183 => ?_
          obtain ⟨g183, e183_k0, e183_k1, e183_k2, p183_0⟩ := h183
          have f183 : Fr W_rx Mr Ma183 := Fr.t Fr.r (Fr.m g183 (by decide))
          refine rsr (cV_e rfl) ?_
          refine rsr (vC_e (rk_160 (hR.fr f183))) ?_
          refine rsr (cI_e (a198_1 (by omega) hS (hR.fr f183) (e183_k0) (e183_k1) ((g183.i _ _ (by decide)).trans (wa_41)) p183_0 ((g183.i _ _ (by decide)).trans (wa_51)) (lra.fr g183 (by decide)) (by omega))) ?_
          refine rsr (if_pos (eqI_p (rfl) (li_0) (by omega))) ?_
          refine rsr (jv_e) ?_
          exact Rs.ok (Or.inr ⟨1, ((pl (i + 1))), f181, (Fr.sI (by decide) (Fr.sI (by decide) (Fr.m f183 (by decide)))), ⟨(i + 1), sz180, sn180, uc180, e181_k0, e181_k1, e181_k2, e181_k3, e181_sz180, e181_sn180, e181_uc180, by omega⟩, ⟨e, s, u, mu, ut, (sI_nej (by decide)).trans (sI_eq), sI_eq, (sI_nej (by decide)).trans ((sI_nej (by decide)).trans ((g183.i _ _ (by decide)).trans (wa_43))), (sI_nej (by decide)).trans ((sI_nej (by decide)).trans ((g183.i _ _ (by decide)).trans (wa_51))), (sI_nej (by decide)).trans ((sI_nej (by decide)).trans ((g183.i _ _ (by decide)).trans (wa_53))), (sI_nej (by decide)).trans ((sI_nej (by decide)).trans ((g183.i _ _ (by decide)).trans (h48))), (sI_nej (by decide)).trans ((sI_nej (by decide)).trans ((g183.i _ _ (by decide)).trans (h49))), by omega⟩⟩)
        ·
          refine rsl (cL_e (a66_2 (by omega) hS hC.sI.sI (hTk.fr (WL := W_cp) (Fr.sI (by decide) (Fr.sI (by decide) Fr.r)) (by decide)) ((sI_nej (by decide)).trans (sI_eq)) (sI_eq) ((sI_nej (by decide)).trans ((sI_nej (by decide)).trans (qa_10))) (li_0) (li_1) (by omega))) ?_
          refine rsl (vC_e (ck_65 hC.sI.sI.sI.sI.sI)) ?_
          refine RlV (y64 (by omega) hC.sI.sI.sI.sI.sI (hTk.fr (WL := W_cp) (Fr.sI (by decide) (Fr.sI (by decide) (Fr.sI (by decide) (Fr.sI (by decide) (Fr.sI (by decide) Fr.r))))) (by decide)) ((sI_nej (by decide)).trans ((sI_nej (by decide)).trans ((sI_nej (by decide)).trans ((sI_nej (by decide)).trans (sI_eq))))) (sI_eq) ((sI_nej (by decide)).trans ((sI_nej (by decide)).trans (sI_eq))) ((sI_nej (by decide)).trans (sI_eq)) ((sI_nej (by decide)).trans ((sI_nej (by decide)).trans ((sI_nej (by decide)).trans ((sI_nej (by decide)).trans ((sI_nej (by decide)).trans (qa_9)))))) ((sI_nej (by decide)).trans ((sI_nej (by decide)).trans ((sI_nej (by decide)).trans ((sI_nej (by decide)).trans ((sI_nej (by decide)).trans (qa_16)))))) ((sI_nej (by decide)).trans ((sI_nej (by decide)).trans ((sI_nej (by decide)).trans ((sI_nej (by decide)).trans ((sI_nej (by decide)).trans (qa_19)))))) (li_61) (by omega)) fun v Ma185 h185 => ?_
          obtain ⟨sz184, sn184, uc184, g185, e185_sz184, e185_sn184, e185_uc184, e185_k0, e185_k1, e185_k2, e185_k3, p185_0, p185_1, p185_2⟩ := h185
          have f185 : Fr W_cp Mc Ma185 := Fr.t (Fr.sI (by decide) (Fr.sI (by decide) (Fr.sI (by decide) (Fr.sI (by decide) (Fr.sI (by decide) Fr.r))))) (Fr.m g185 (by decide))
          refine rsl (cV_e rfl) ?_
          refine rsl (vC_e (ck_65 (hC.fr f185))) ?_
          refine RlV (y99_0 (by omega) (hC.fr f185) (hTk.fr (WL := W_cp) f185 (by decide)) (e185_k3) (e185_k0) (e185_k1) (e185_k2) (e185_sz184) (e185_sn184) (e185_uc184) (li_0) (hv0) (by omega)) fun v Ma187 h187 => ?_
          obtain ⟨sz186, sn186, uc186, g187, e187_sz186, e187_sn186, e187_uc186, e187_k0, e187_k1, e187_k2, e187_k3, p187_0, p187_1, p187_2⟩ := h187
          have f187 : Fr W_cp Mc Ma187 := Fr.t f185 (Fr.m g187 (by decide))
          refine rsl (cV_e rfl) ?_
          refine rsl (vC_e (ck_65 (hC.fr f187))) ?_
          refine RlV (y64 (by omega) (hC.fr f187) (hTk.fr (WL := W_cp) f187 (by decide)) (e187_k3) (e187_k0) (e187_k1) (e187_k2) (e187_sz186) (e187_sn186) (e187_uc186) (li_59) (by omega)) fun v Ma189 h189 => ?_
          obtain ⟨sz188, sn188, uc188, g189, e189_sz188, e189_sn188, e189_uc188, e189_k0, e189_k1, e189_k2, e189_k3, p189_0, p189_1, p189_2⟩ := h189
          have f189 : Fr W_cp Mc Ma189 := Fr.t f187 (Fr.m g189 (by decide))
          refine rsl (cV_e rfl) ?_
          refine rsl (gtI_q (w := iI sn188) (ck_65 (hC.fr f189)) (e189_sn188)) ?_
          refine rsl (vC_e (ck_65 (hC.fr f189))) ?_
          refine RlI (y87 (by omega) (hC.fr f189) (hTk.fr (WL := W_cp) f189 (by decide)) (e189_k3) (e189_k0) (e189_k1) (e189_k2) (e189_sz188) (e189_sn188) (e189_uc188) (li_2) (rfl) (by omega)) fun v Ma191 h191 => ?_
          obtain ⟨rv190, sz190, sn190, uc190, rfl, g191, e191_sz190, e191_sn190, e191_uc190, e191_k0, e191_k1, e191_k2, e191_k3, p191_0, p191_1, p191_2, p191_3⟩ := h191
          have f191 : Fr W_cp Mc Ma191 := Fr.t f189 (Fr.m g191 (by decide))
          refine rsl (cI_e rfl) ?_
          refine rsl (vC_e (ck_65 (hC.fr f191))) ?_
          refine RlV (y75 (by omega) (hC.fr f191) (hTk.fr (WL := W_cp) f191 (by decide)) (e191_k3) (e191_k0) (e191_k1) (e191_k2) (e191_sz190) (e191_sn190) (e191_uc190)  (by omega)) fun v Ma193 h193 => ?_
          obtain ⟨sz192, sn192, uc192, g193, e193_sz192, e193_sn192, e193_uc192, e193_k0, e193_k1, e193_k2, e193_k3, p193_0, p193_1, p193_2⟩ := h193
          have f193 : Fr W_cp Mc Ma193 := Fr.t f191 (Fr.m g193 (by decide))
          refine rsl (cV_e rfl) ?_
          refine rsr (gtI_q (w := iI ((kr (kd i)))) (rk_160 hR) (wa_36)) ?_
          refine rsr (jn_v) ?_
          refine rsr (swI_c) ?_
          refine rsr (if_pos (krI_p (k := 215) (rfl) (li_416) (by omega) (by decide +kernel))) ?_
          refine rsr (vC_e (rk_160 hR)) ?_
          refine RrV (nx_ok (by omega) hS hR (hT.fr (W := W_rx) Fr.r (by decide) (by decide)) (fun i a b => (Fr.lc (W := W_rx) Fr.r _ (by decide) _).trans (hW i a b)) (i := i) (wa_41) (wa_38) (by omega) (by omega)) fun v Ma195 h195 => ?_
          obtain ⟨g195, e195_k0, e195_k1, e195_k2, p195_0⟩ := h195
          have f195 : Fr W_rx Mr Ma195 := Fr.t Fr.r (Fr.m g195 (by decide))
          refine rsr (cV_e rfl) ?_
          refine rsr (vC_e (rk_160 (hR.fr f195))) ?_
          refine rsr (cI_e (a198_2 (by omega) hS (hR.fr f195) (e195_k0) (e195_k1) ((g195.i _ _ (by decide)).trans (wa_41)) p195_0 ((g195.i _ _ (by decide)).trans (wa_51)) (lra.fr g195 (by decide)) (by omega))) ?_
          refine rsr (if_pos (eqI_p (rfl) (li_0) (by omega))) ?_
          refine rsr (jv_e) ?_
          exact Rs.ok (Or.inr ⟨2, ((pl (i + 1))), f193, (Fr.sI (by decide) (Fr.sI (by decide) (Fr.m f195 (by decide)))), ⟨(i + 1), sz192, sn192, uc192, e193_k0, e193_k1, e193_k2, e193_k3, e193_sz192, e193_sn192, e193_uc192, by omega⟩, ⟨e, s, u, mu, ut, (sI_nej (by decide)).trans (sI_eq), sI_eq, (sI_nej (by decide)).trans ((sI_nej (by decide)).trans ((g195.i _ _ (by decide)).trans (wa_43))), (sI_nej (by decide)).trans ((sI_nej (by decide)).trans ((g195.i _ _ (by decide)).trans (wa_51))), (sI_nej (by decide)).trans ((sI_nej (by decide)).trans ((g195.i _ _ (by decide)).trans (wa_53))), (sI_nej (by decide)).trans ((sI_nej (by decide)).trans ((g195.i _ _ (by decide)).trans (h48))), (sI_nej (by decide)).trans ((sI_nej (by decide)).trans ((g195.i _ _ (by decide)).trans (h49))), by omega⟩⟩)
    ·
      refine rsl (jn_v) ?_
      refine rsl (if_neg (lsI_n (congrArg iI (if_neg crl144)) (li_0) (by omega))) ?_
      refine rsl (jv_e) ?_
      refine rsl (gtI_q (w := iI s) (ck_65 hC.sI.sI) ((sI_nej (by decide)).trans ((sI_nej (by decide)).trans (qa_16)))) ?_
      refine rsl (jn_v) ?_
      by_cases c196 : s < 10
      · refine rsl (if_pos (lsI_p (rfl) (li_10) (by omega))) ?_
        refine rsl (jv_e) ?_
        refine rsl (vC_e (ck_65 hC.sI.sI)) ?_
        by_cases c197 : ((kd (i + 1))) = 1
        ·
          refine rsl (cL_e (a66_1 (by omega) hS hC.sI.sI (hTk.fr (WL := W_cp) (Fr.sI (by decide) (Fr.sI (by decide) Fr.r)) (by decide)) ((sI_nej (by decide)).trans (sI_eq)) (sI_eq) ((sI_nej (by decide)).trans ((sI_nej (by decide)).trans (qa_10))) (li_1) (li_0) (by omega))) ?_
          refine rsl (vC_e (ck_65 hC.sI.sI.sI.sI.sI)) ?_
          refine RlV (y64 (by omega) hC.sI.sI.sI.sI.sI (hTk.fr (WL := W_cp) (Fr.sI (by decide) (Fr.sI (by decide) (Fr.sI (by decide) (Fr.sI (by decide) (Fr.sI (by decide) Fr.r))))) (by decide)) ((sI_nej (by decide)).trans ((sI_nej (by decide)).trans ((sI_nej (by decide)).trans ((sI_nej (by decide)).trans (sI_eq))))) (sI_eq) ((sI_nej (by decide)).trans ((sI_nej (by decide)).trans (sI_eq))) ((sI_nej (by decide)).trans (sI_eq)) ((sI_nej (by decide)).trans ((sI_nej (by decide)).trans ((sI_nej (by decide)).trans ((sI_nej (by decide)).trans ((sI_nej (by decide)).trans (qa_9)))))) ((sI_nej (by decide)).trans ((sI_nej (by decide)).trans ((sI_nej (by decide)).trans ((sI_nej (by decide)).trans ((sI_nej (by decide)).trans (qa_16)))))) ((sI_nej (by decide)).trans ((sI_nej (by decide)).trans ((sI_nej (by decide)).trans ((sI_nej (by decide)).trans ((sI_nej (by decide)).trans (qa_19)))))) (li_61) (by omega)) fun v Ma199 h199 => ?_
          obtain ⟨sz198, sn198, uc198, g199, e199_sz198, e199_sn198, e199_uc198, e199_k0, e199_k1, e199_k2, e199_k3, p199_0, p199_1, p199_2⟩ := h199
          have f199 : Fr W_cp Mc Ma199 := Fr.t (Fr.sI (by decide) (Fr.sI (by decide) (Fr.sI (by decide) (Fr.sI (by decide) (Fr.sI (by decide) Fr.r))))) (Fr.m g199 (by decide))
          refine rsl (cV_e rfl) ?_
          refine rsl (vC_e (ck_65 (hC.fr f199))) ?_
          refine RlV (y99_0 (by omega) (hC.fr f199) (hTk.fr (WL := W_cp) f199 (by decide)) (e199_k3) (e199_k0) (e199_k1) (e199_k2) (e199_sz198) (e199_sn198) (e199_uc198) (li_0) (hv0) (by omega)) fun v Ma201 h201 => ?_
          obtain ⟨sz200, sn200, uc200, g201, e201_sz200, e201_sn200, e201_uc200, e201_k0, e201_k1, e201_k2, e201_k3, p201_0, p201_1, p201_2⟩ := h201
          have f201 : Fr W_cp Mc Ma201 := Fr.t f199 (Fr.m g201 (by decide))
          refine rsl (cV_e rfl) ?_
          refine rsl (vC_e (ck_65 (hC.fr f201))) ?_
          refine RlV (y64 (by omega) (hC.fr f201) (hTk.fr (WL := W_cp) f201 (by decide)) (e201_k3) (e201_k0) (e201_k1) (e201_k2) (e201_sz200) (e201_sn200) (e201_uc200) (li_59) (by omega)) fun v Ma203 h203 => ?_
          obtain ⟨sz202, sn202, uc202, g203, e203_sz202, e203_sn202, e203_uc202, e203_k0, e203_k1, e203_k2, e203_k3, p203_0, p203_1, p203_2⟩ := h203
          have f203 : Fr W_cp Mc Ma203 := Fr.t f201 (Fr.m g203 (by decide))
          refine rsl (cV_e rfl) ?_
          refine rsl (gtI_q (w := iI sn202) (ck_65 (hC.fr f203)) (e203_sn202)) ?_
          refine rsl (vC_e (ck_65 (hC.fr f203))) ?_
          refine RlI (y87 (by omega) (hC.fr f203) (hTk.fr (WL := W_cp) f203 (by decide)) (e203_k3) (e203_k0) (e203_k1) (e203_k2) (e203_sz202) (e203_sn202) (e203_uc202) (li_2) (rfl) (by omega)) fun v Ma205 h205 => ?_
          obtain ⟨rv204, sz204, sn204, uc204, rfl, g205, e205_sz204, e205_sn204, e205_uc204, e205_k0, e205_k1, e205_k2, e205_k3, p205_0, p205_1, p205_2, p205_3⟩ := h205
          have f205 : Fr W_cp Mc Ma205 := Fr.t f203 (Fr.m g205 (by decide))
          refine rsl (cI_e rfl) ?_
          refine rsl (vC_e (ck_65 (hC.fr f205))) ?_
          refine RlV (y75 (by omega) (hC.fr f205) (hTk.fr (WL := W_cp) f205 (by decide)) (e205_k3) (e205_k0) (e205_k1) (e205_k2) (e205_sz204) (e205_sn204) (e205_uc204)  (by omega)) fun v Ma207 h207 => ?_
          obtain ⟨sz206, sn206, uc206, g207, e207_sz206, e207_sn206, e207_uc206, e207_k0, e207_k1, e207_k2, e207_k3, p207_0, p207_1, p207_2⟩ := h207
          have f207 : Fr W_cp Mc Ma207 := Fr.t f205 (Fr.m g207 (by decide))
          refine rsl (cV_e rfl) ?_
          refine rsr (gtI_q (w := iI ((kr (kd i)))) (rk_160 hR) (wa_36)) ?_
          refine rsr (jn_v) ?_
          refine rsr (swI_c) ?_
          refine rsr (if_pos (krI_p (k := 215) (rfl) (li_416) (by omega) (by decide +kernel))) ?_
          refine rsr (vC_e (rk_160 hR)) ?_
          refine RrV (nx_ok (by omega) hS hR (hT.fr (W := W_rx) Fr.r (by decide) (by decide)) (fun i a b => (Fr.lc (W := W_rx) Fr.r _ (by decide) _).trans (hW i a b)) (i := i) (wa_41) (wa_38) (by omega) (by omega)) fun v Ma209 h209 => ?_
          obtain ⟨g209, e209_k0, e209_k1, e209_k2, p209_0⟩ := h209
          have f209 : Fr W_rx Mr Ma209 := Fr.t Fr.r (Fr.m g209 (by decide))
          refine rsr (cV_e rfl) ?_
          refine rsr (vC_e (rk_160 (hR.fr f209))) ?_
          refine rsr (cI_e (a198_1 (by omega) hS (hR.fr f209) (e209_k0) (e209_k1) ((g209.i _ _ (by decide)).trans (wa_41)) p209_0 ((g209.i _ _ (by decide)).trans (wa_51)) (lra.fr g209 (by decide)) (by omega))) ?_
          refine rsr (if_pos (eqI_p (rfl) (li_0) (by omega))) ?_
          refine rsr (jv_e) ?_
          exact Rs.ok (Or.inr ⟨1, ((pl (i + 1))), f207, (Fr.sI (by decide) (Fr.sI (by decide) (Fr.m f209 (by decide)))), ⟨(i + 1), sz206, sn206, uc206, e207_k0, e207_k1, e207_k2, e207_k3, e207_sz206, e207_sn206, e207_uc206, by omega⟩, ⟨e, s, u, mu, ut, (sI_nej (by decide)).trans (sI_eq), sI_eq, (sI_nej (by decide)).trans ((sI_nej (by decide)).trans ((g209.i _ _ (by decide)).trans (wa_43))), (sI_nej (by decide)).trans ((sI_nej (by decide)).trans ((g209.i _ _ (by decide)).trans (wa_51))), (sI_nej (by decide)).trans ((sI_nej (by decide)).trans ((g209.i _ _ (by decide)).trans (wa_53))), (sI_nej (by decide)).trans ((sI_nej (by decide)).trans ((g209.i _ _ (by decide)).trans (h48))), (sI_nej (by decide)).trans ((sI_nej (by decide)).trans ((g209.i _ _ (by decide)).trans (h49))), by omega⟩⟩)
        ·
          refine rsl (cL_e (a66_2 (by omega) hS hC.sI.sI (hTk.fr (WL := W_cp) (Fr.sI (by decide) (Fr.sI (by decide) Fr.r)) (by decide)) ((sI_nej (by decide)).trans (sI_eq)) (sI_eq) ((sI_nej (by decide)).trans ((sI_nej (by decide)).trans (qa_10))) (li_1) (li_0) (by omega))) ?_
          refine rsl (vC_e (ck_65 hC.sI.sI.sI.sI.sI)) ?_
          refine RlV (y64 (by omega) hC.sI.sI.sI.sI.sI (hTk.fr (WL := W_cp) (Fr.sI (by decide) (Fr.sI (by decide) (Fr.sI (by decide) (Fr.sI (by decide) (Fr.sI (by decide) Fr.r))))) (by decide)) ((sI_nej (by decide)).trans ((sI_nej (by decide)).trans ((sI_nej (by decide)).trans ((sI_nej (by decide)).trans (sI_eq))))) (sI_eq) ((sI_nej (by decide)).trans ((sI_nej (by decide)).trans (sI_eq))) ((sI_nej (by decide)).trans (sI_eq)) ((sI_nej (by decide)).trans ((sI_nej (by decide)).trans ((sI_nej (by decide)).trans ((sI_nej (by decide)).trans ((sI_nej (by decide)).trans (qa_9)))))) ((sI_nej (by decide)).trans ((sI_nej (by decide)).trans ((sI_nej (by decide)).trans ((sI_nej (by decide)).trans ((sI_nej (by decide)).trans (qa_16)))))) ((sI_nej (by decide)).trans ((sI_nej (by decide)).trans ((sI_nej (by decide)).trans ((sI_nej (by decide)).trans ((sI_nej (by decide)).trans (qa_19)))))) (li_61) (by omega)) fun v Ma211 h211 => ?_
          obtain ⟨sz210, sn210, uc210, g211, e211_sz210, e211_sn210, e211_uc210, e211_k0, e211_k1, e211_k2, e211_k3, p211_0, p211_1, p211_2⟩ := h211
          have f211 : Fr W_cp Mc Ma211 := Fr.t (Fr.sI (by decide) (Fr.sI (by decide) (Fr.sI (by decide) (Fr.sI (by decide) (Fr.sI (by decide) Fr.r))))) (Fr.m g211 (by decide))
          refine rsl (cV_e rfl) ?_
          refine rsl (vC_e (ck_65 (hC.fr f211))) ?_
          refine RlV (y99_0 (by omega) (hC.fr f211) (hTk.fr (WL := W_cp) f211 (by decide)) (e211_k3) (e211_k0) (e211_k1) (e211_k2) (e211_sz210) (e211_sn210) (e211_uc210) (li_0) (hv0) (by omega)) fun v Ma213 h213 => ?_
          obtain ⟨sz212, sn212, uc212, g213, e213_sz212, e213_sn212, e213_uc212, e213_k0, e213_k1, e213_k2, e213_k3, p213_0, p213_1, p213_2⟩ := h213
          have f213 : Fr W_cp Mc Ma213 := Fr.t f211 (Fr.m g213 (by decide))
          refine rsl (cV_e rfl) ?_
          refine rsl (vC_e (ck_65 (hC.fr f213))) ?_
          refine RlV (y64 (by omega) (hC.fr f213) (hTk.fr (WL := W_cp) f213 (by decide)) (e213_k3) (e213_k0) (e213_k1) (e213_k2) (e213_sz212) (e213_sn212) (e213_uc212) (li_59) (by omega)) fun v Ma215 h215 => ?_
          obtain ⟨sz214, sn214, uc214, g215, e215_sz214, e215_sn214, e215_uc214, e215_k0, e215_k1, e215_k2, e215_k3, p215_0, p215_1, p215_2⟩ := h215
          have f215 : Fr W_cp Mc Ma215 := Fr.t f213 (Fr.m g215 (by decide))
          refine rsl (cV_e rfl) ?_
          refine rsl (gtI_q (w := iI sn214) (ck_65 (hC.fr f215)) (e215_sn214)) ?_
          refine rsl (vC_e (ck_65 (hC.fr f215))) ?_
          refine RlI (y87 (by omega) (hC.fr f215) (hTk.fr (WL := W_cp) f215 (by decide)) (e215_k3) (e215_k0) (e215_k1) (e215_k2) (e215_sz214) (e215_sn214) (e215_uc214) (li_2) (rfl) (by omega)) fun v Ma217 h217 => ?_
          obtain ⟨rv216, sz216, sn216, uc216, rfl, g217, e217_sz216, e217_sn216, e217_uc216, e217_k0, e217_k1, e217_k2, e217_k3, p217_0, p217_1, p217_2, p217_3⟩ := h217
          have f217 : Fr W_cp Mc Ma217 := Fr.t f215 (Fr.m g217 (by decide))
          refine rsl (cI_e rfl) ?_
          refine rsl (vC_e (ck_65 (hC.fr f217))) ?_
          refine RlV (y75 (by omega) (hC.fr f217) (hTk.fr (WL := W_cp) f217 (by decide)) (e217_k3) (e217_k0) (e217_k1) (e217_k2) (e217_sz216) (e217_sn216) (e217_uc216)  (by omega)) fun v Ma219 h219 => ?_
          obtain ⟨sz218, sn218, uc218, g219, e219_sz218, e219_sn218, e219_uc218, e219_k0, e219_k1, e219_k2, e219_k3, p219_0, p219_1, p219_2⟩ := h219
          have f219 : Fr W_cp Mc Ma219 := Fr.t f217 (Fr.m g219 (by decide))
          refine rsl (cV_e rfl) ?_
          refine rsr (gtI_q (w := iI ((kr (kd i)))) (rk_160 hR) (wa_36)) ?_
          refine rsr (jn_v) ?_
          refine rsr (swI_c) ?_
          refine rsr (if_pos (krI_p (k := 215) (rfl) (li_416) (by omega) (by decide +kernel))) ?_
          refine rsr (vC_e (rk_160 hR)) ?_
          refine RrV (nx_ok (by omega) hS hR (hT.fr (W := W_rx) Fr.r (by decide) (by decide)) (fun i a b => (Fr.lc (W := W_rx) Fr.r _ (by decide) _).trans (hW i a b)) (i := i) (wa_41) (wa_38) (by omega) (by omega)) fun v Ma221 h221 => ?_
          obtain ⟨g221, e221_k0, e221_k1, e221_k2, p221_0⟩ := h221
          have f221 : Fr W_rx Mr Ma221 := Fr.t Fr.r (Fr.m g221 (by decide))
          refine rsr (cV_e rfl) ?_
          refine rsr (vC_e (rk_160 (hR.fr f221))) ?_
          refine rsr (cI_e (a198_2 (by omega) hS (hR.fr f221) (e221_k0) (e221_k1) ((g221.i _ _ (by decide)).trans (wa_41)) p221_0 ((g221.i _ _ (by decide)).trans (wa_51)) (lra.fr g221 (by decide)) (by omega))) ?_
          refine rsr (if_pos (eqI_p (rfl) (li_0) (by omega))) ?_
          refine rsr (jv_e) ?_
          exact Rs.ok (Or.inr ⟨2, ((pl (i + 1))), f219, (Fr.sI (by decide) (Fr.sI (by decide) (Fr.m f221 (by decide)))), ⟨(i + 1), sz218, sn218, uc218, e219_k0, e219_k1, e219_k2, e219_k3, e219_sz218, e219_sn218, e219_uc218, by omega⟩, ⟨e, s, u, mu, ut, (sI_nej (by decide)).trans (sI_eq), sI_eq, (sI_nej (by decide)).trans ((sI_nej (by decide)).trans ((g221.i _ _ (by decide)).trans (wa_43))), (sI_nej (by decide)).trans ((sI_nej (by decide)).trans ((g221.i _ _ (by decide)).trans (wa_51))), (sI_nej (by decide)).trans ((sI_nej (by decide)).trans ((g221.i _ _ (by decide)).trans (wa_53))), (sI_nej (by decide)).trans ((sI_nej (by decide)).trans ((g221.i _ _ (by decide)).trans (h48))), (sI_nej (by decide)).trans ((sI_nej (by decide)).trans ((g221.i _ _ (by decide)).trans (h49))), by omega⟩⟩)
      · refine rsl (if_neg (lsI_n (rfl) (li_10) (by omega))) ?_
        refine rsl (jv_e) ?_
        refine rsl (vC_e (ck_65 hC.sI.sI)) ?_
        by_cases c222 : ((kd (i + 1))) = 1
        ·
          refine rsl (cL_e (a66_1 (by omega) hS hC.sI.sI (hTk.fr (WL := W_cp) (Fr.sI (by decide) (Fr.sI (by decide) Fr.r)) (by decide)) ((sI_nej (by decide)).trans (sI_eq)) (sI_eq) ((sI_nej (by decide)).trans ((sI_nej (by decide)).trans (qa_10))) (li_1) (li_1) (by omega))) ?_
          refine rsl (vC_e (ck_65 hC.sI.sI.sI.sI.sI)) ?_
          refine RlV (y64 (by omega) hC.sI.sI.sI.sI.sI (hTk.fr (WL := W_cp) (Fr.sI (by decide) (Fr.sI (by decide) (Fr.sI (by decide) (Fr.sI (by decide) (Fr.sI (by decide) Fr.r))))) (by decide)) ((sI_nej (by decide)).trans ((sI_nej (by decide)).trans ((sI_nej (by decide)).trans ((sI_nej (by decide)).trans (sI_eq))))) (sI_eq) ((sI_nej (by decide)).trans ((sI_nej (by decide)).trans (sI_eq))) ((sI_nej (by decide)).trans (sI_eq)) ((sI_nej (by decide)).trans ((sI_nej (by decide)).trans ((sI_nej (by decide)).trans ((sI_nej (by decide)).trans ((sI_nej (by decide)).trans (qa_9)))))) ((sI_nej (by decide)).trans ((sI_nej (by decide)).trans ((sI_nej (by decide)).trans ((sI_nej (by decide)).trans ((sI_nej (by decide)).trans (qa_16)))))) ((sI_nej (by decide)).trans ((sI_nej (by decide)).trans ((sI_nej (by decide)).trans ((sI_nej (by decide)).trans ((sI_nej (by decide)).trans (qa_19)))))) (li_61) (by omega)) fun v Ma224 h224 => ?_
          obtain ⟨sz223, sn223, uc223, g224, e224_sz223, e224_sn223, e224_uc223, e224_k0, e224_k1, e224_k2, e224_k3, p224_0, p224_1, p224_2⟩ := h224
          have f224 : Fr W_cp Mc Ma224 := Fr.t (Fr.sI (by decide) (Fr.sI (by decide) (Fr.sI (by decide) (Fr.sI (by decide) (Fr.sI (by decide) Fr.r))))) (Fr.m g224 (by decide))
          refine rsl (cV_e rfl) ?_
          refine rsl (vC_e (ck_65 (hC.fr f224))) ?_
          refine RlV (y99_0 (by omega) (hC.fr f224) (hTk.fr (WL := W_cp) f224 (by decide)) (e224_k3) (e224_k0) (e224_k1) (e224_k2) (e224_sz223) (e224_sn223) (e224_uc223) (li_0) (hv0) (by omega)) fun v Ma226 h226 => ?_
          obtain ⟨sz225, sn225, uc225, g226, e226_sz225, e226_sn225, e226_uc225, e226_k0, e226_k1, e226_k2, e226_k3, p226_0, p226_1, p226_2⟩ := h226
          have f226 : Fr W_cp Mc Ma226 := Fr.t f224 (Fr.m g226 (by decide))
          refine rsl (cV_e rfl) ?_
          refine rsl (vC_e (ck_65 (hC.fr f226))) ?_
          refine RlV (y64 (by omega) (hC.fr f226) (hTk.fr (WL := W_cp) f226 (by decide)) (e226_k3) (e226_k0) (e226_k1) (e226_k2) (e226_sz225) (e226_sn225) (e226_uc225) (li_59) (by omega)) fun v Ma228 h228 => ?_
          obtain ⟨sz227, sn227, uc227, g228, e228_sz227, e228_sn227, e228_uc227, e228_k0, e228_k1, e228_k2, e228_k3, p228_0, p228_1, p228_2⟩ := h228
          have f228 : Fr W_cp Mc Ma228 := Fr.t f226 (Fr.m g228 (by decide))
          refine rsl (cV_e rfl) ?_
          refine rsl (gtI_q (w := iI sn227) (ck_65 (hC.fr f228)) (e228_sn227)) ?_
          refine rsl (vC_e (ck_65 (hC.fr f228))) ?_
          refine RlI (y87 (by omega) (hC.fr f228) (hTk.fr (WL := W_cp) f228 (by decide)) (e228_k3) (e228_k0) (e228_k1) (e228_k2) (e228_sz227) (e228_sn227) (e228_uc227) (li_2) (rfl) (by omega)) fun v Ma230 h230 => ?_
          obtain ⟨rv229, sz229, sn229, uc229, rfl, g230, e230_sz229, e230_sn229, e230_uc229, e230_k0, e230_k1, e230_k2, e230_k3, p230_0, p230_1, p230_2, p230_3⟩ := h230
          have f230 : Fr W_cp Mc Ma230 := Fr.t f228 (Fr.m g230 (by decide))
          refine rsl (cI_e rfl) ?_
          refine rsl (vC_e (ck_65 (hC.fr f230))) ?_
          refine RlV (y75 (by omega) (hC.fr f230) (hTk.fr (WL := W_cp) f230 (by decide)) (e230_k3) (e230_k0) (e230_k1) (e230_k2) (e230_sz229) (e230_sn229) (e230_uc229)  (by omega)) fun v Ma232 h232 => ?_
          obtain ⟨sz231, sn231, uc231, g232, e232_sz231, e232_sn231, e232_uc231, e232_k0, e232_k1, e232_k2, e232_k3, p232_0, p232_1, p232_2⟩ := h232
          have f232 : Fr W_cp Mc Ma232 := Fr.t f230 (Fr.m g232 (by decide))
          refine rsl (cV_e rfl) ?_
          refine rsr (gtI_q (w := iI ((kr (kd i)))) (rk_160 hR) (wa_36)) ?_
          refine rsr (jn_v) ?_
          refine rsr (swI_c) ?_
          refine rsr (if_pos (krI_p (k := 215) (rfl) (li_416) (by omega) (by decide +kernel))) ?_
          refine rsr (vC_e (rk_160 hR)) ?_
          refine RrV (nx_ok (by omega) hS hR (hT.fr (W := W_rx) Fr.r (by decide) (by decide)) (fun i a b => (Fr.lc (W := W_rx) Fr.r _ (by decide) _).trans (hW i a b)) (i := i) (wa_41) (wa_38) (by omega) (by omega)) fun v Ma234 h234 => ?_
          obtain ⟨g234, e234_k0, e234_k1, e234_k2, p234_0⟩ := h234
          have f234 : Fr W_rx Mr Ma234 := Fr.t Fr.r (Fr.m g234 (by decide))
          refine rsr (cV_e rfl) ?_
          refine rsr (vC_e (rk_160 (hR.fr f234))) ?_
          refine rsr (cI_e (a198_1 (by omega) hS (hR.fr f234) (e234_k0) (e234_k1) ((g234.i _ _ (by decide)).trans (wa_41)) p234_0 ((g234.i _ _ (by decide)).trans (wa_51)) (lra.fr g234 (by decide)) (by omega))) ?_
          refine rsr (if_pos (eqI_p (rfl) (li_0) (by omega))) ?_
          refine rsr (jv_e) ?_
          exact Rs.ok (Or.inr ⟨1, ((pl (i + 1))), f232, (Fr.sI (by decide) (Fr.sI (by decide) (Fr.m f234 (by decide)))), ⟨(i + 1), sz231, sn231, uc231, e232_k0, e232_k1, e232_k2, e232_k3, e232_sz231, e232_sn231, e232_uc231, by omega⟩, ⟨e, s, u, mu, ut, (sI_nej (by decide)).trans (sI_eq), sI_eq, (sI_nej (by decide)).trans ((sI_nej (by decide)).trans ((g234.i _ _ (by decide)).trans (wa_43))), (sI_nej (by decide)).trans ((sI_nej (by decide)).trans ((g234.i _ _ (by decide)).trans (wa_51))), (sI_nej (by decide)).trans ((sI_nej (by decide)).trans ((g234.i _ _ (by decide)).trans (wa_53))), (sI_nej (by decide)).trans ((sI_nej (by decide)).trans ((g234.i _ _ (by decide)).trans (h48))), (sI_nej (by decide)).trans ((sI_nej (by decide)).trans ((g234.i _ _ (by decide)).trans (h49))), by omega⟩⟩)
        ·
          refine rsl (cL_e (a66_2 (by omega) hS hC.sI.sI (hTk.fr (WL := W_cp) (Fr.sI (by decide) (Fr.sI (by decide) Fr.r)) (by decide)) ((sI_nej (by decide)).trans (sI_eq)) (sI_eq) ((sI_nej (by decide)).trans ((sI_nej (by decide)).trans (qa_10))) (li_1) (li_1) (by omega))) ?_
          refine rsl (vC_e (ck_65 hC.sI.sI.sI.sI.sI)) ?_
          refine RlV (y64 (by omega) hC.sI.sI.sI.sI.sI (hTk.fr (WL := W_cp) (Fr.sI (by decide) (Fr.sI (by decide) (Fr.sI (by decide) (Fr.sI (by decide) (Fr.sI (by decide) Fr.r))))) (by decide)) ((sI_nej (by decide)).trans ((sI_nej (by decide)).trans ((sI_nej (by decide)).trans ((sI_nej (by decide)).trans (sI_eq))))) (sI_eq) ((sI_nej (by decide)).trans ((sI_nej (by decide)).trans (sI_eq))) ((sI_nej (by decide)).trans (sI_eq)) ((sI_nej (by decide)).trans ((sI_nej (by decide)).trans ((sI_nej (by decide)).trans ((sI_nej (by decide)).trans ((sI_nej (by decide)).trans (qa_9)))))) ((sI_nej (by decide)).trans ((sI_nej (by decide)).trans ((sI_nej (by decide)).trans ((sI_nej (by decide)).trans ((sI_nej (by decide)).trans (qa_16)))))) ((sI_nej (by decide)).trans ((sI_nej (by decide)).trans ((sI_nej (by decide)).trans ((sI_nej (by decide)).trans ((sI_nej (by decide)).trans (qa_19)))))) (li_61) (by omega)) fun v Ma236 h236 => ?_
          obtain ⟨sz235, sn235, uc235, g236, e236_sz235, e236_sn235, e236_uc235, e236_k0, e236_k1, e236_k2, e236_k3, p236_0, p236_1, p236_2⟩ := h236
          have f236 : Fr W_cp Mc Ma236 := Fr.t (Fr.sI (by decide) (Fr.sI (by decide) (Fr.sI (by decide) (Fr.sI (by decide) (Fr.sI (by decide) Fr.r))))) (Fr.m g236 (by decide))
          refine rsl (cV_e rfl) ?_
          refine rsl (vC_e (ck_65 (hC.fr f236))) ?_
          refine RlV (y99_0 (by omega) (hC.fr f236) (hTk.fr (WL := W_cp) f236 (by decide)) (e236_k3) (e236_k0) (e236_k1) (e236_k2) (e236_sz235) (e236_sn235) (e236_uc235) (li_0) (hv0) (by omega)) fun v Ma238 h238 => ?_
          obtain ⟨sz237, sn237, uc237, g238, e238_sz237, e238_sn237, e238_uc237, e238_k0, e238_k1, e238_k2, e238_k3, p238_0, p238_1, p238_2⟩ := h238
          have f238 : Fr W_cp Mc Ma238 := Fr.t f236 (Fr.m g238 (by decide))
          refine rsl (cV_e rfl) ?_
          refine rsl (vC_e (ck_65 (hC.fr f238))) ?_
          refine RlV (y64 (by omega) (hC.fr f238) (hTk.fr (WL := W_cp) f238 (by decide)) (e238_k3) (e238_k0) (e238_k1) (e238_k2) (e238_sz237) (e238_sn237) (e238_uc237) (li_59) (by omega)) fun v Ma240 h240 => ?_
          obtain ⟨sz239, sn239, uc239, g240, e240_sz239, e240_sn239, e240_uc239, e240_k0, e240_k1, e240_k2, e240_k3, p240_0, p240_1, p240_2⟩ := h240
          have f240 : Fr W_cp Mc Ma240 := Fr.t f238 (Fr.m g240 (by decide))
          refine rsl (cV_e rfl) ?_
          refine rsl (gtI_q (w := iI sn239) (ck_65 (hC.fr f240)) (e240_sn239)) ?_
          refine rsl (vC_e (ck_65 (hC.fr f240))) ?_
          refine RlI (y87 (by omega) (hC.fr f240) (hTk.fr (WL := W_cp) f240 (by decide)) (e240_k3) (e240_k0) (e240_k1) (e240_k2) (e240_sz239) (e240_sn239) (e240_uc239) (li_2) (rfl) (by omega)) fun v Ma242 h242 => ?_
          obtain ⟨rv241, sz241, sn241, uc241, rfl, g242, e242_sz241, e242_sn241, e242_uc241, e242_k0, e242_k1, e242_k2, e242_k3, p242_0, p242_1, p242_2, p242_3⟩ := h242
          have f242 : Fr W_cp Mc Ma242 := Fr.t f240 (Fr.m g242 (by decide))
          refine rsl (cI_e rfl) ?_
          refine rsl (vC_e (ck_65 (hC.fr f242))) ?_
          refine RlV (y75 (by omega) (hC.fr f242) (hTk.fr (WL := W_cp) f242 (by decide)) (e242_k3) (e242_k0) (e242_k1) (e242_k2) (e242_sz241) (e242_sn241) (e242_uc241)  (by omega)) fun v Ma244 h244 => ?_
          obtain ⟨sz243, sn243, uc243, g244, e244_sz243, e244_sn243, e244_uc243, e244_k0, e244_k1, e244_k2, e244_k3, p244_0, p244_1, p244_2⟩ := h244
          have f244 : Fr W_cp Mc Ma244 := Fr.t f242 (Fr.m g244 (by decide))
          refine rsl (cV_e rfl) ?_
          refine rsr (gtI_q (w := iI ((kr (kd i)))) (rk_160 hR) (wa_36)) ?_
          refine rsr (jn_v) ?_
          refine rsr (swI_c) ?_
          refine rsr (if_pos (krI_p (k := 215) (rfl) (li_416) (by omega) (by decide +kernel))) ?_
          refine rsr (vC_e (rk_160 hR)) ?_
          refine RrV (nx_ok (by omega) hS hR (hT.fr (W := W_rx) Fr.r (by decide) (by decide)) (fun i a b => (Fr.lc (W := W_rx) Fr.r _ (by decide) _).trans (hW i a b)) (i := i) (wa_41) (wa_38) (by omega) (by omega)) fun v Ma246 h246 => ?_
          obtain ⟨g246, e246_k0, e246_k1, e246_k2, p246_0⟩ := h246
          have f246 : Fr W_rx Mr Ma246 := Fr.t Fr.r (Fr.m g246 (by decide))
          refine rsr (cV_e rfl) ?_
          refine rsr (vC_e (rk_160 (hR.fr f246))) ?_
          refine rsr (cI_e (a198_2 (by omega) hS (hR.fr f246) (e246_k0) (e246_k1) ((g246.i _ _ (by decide)).trans (wa_41)) p246_0 ((g246.i _ _ (by decide)).trans (wa_51)) (lra.fr g246 (by decide)) (by omega))) ?_
          refine rsr (if_pos (eqI_p (rfl) (li_0) (by omega))) ?_
          refine rsr (jv_e) ?_
          exact Rs.ok (Or.inr ⟨2, ((pl (i + 1))), f244, (Fr.sI (by decide) (Fr.sI (by decide) (Fr.m f246 (by decide)))), ⟨(i + 1), sz243, sn243, uc243, e244_k0, e244_k1, e244_k2, e244_k3, e244_sz243, e244_sn243, e244_uc243, by omega⟩, ⟨e, s, u, mu, ut, (sI_nej (by decide)).trans (sI_eq), sI_eq, (sI_nej (by decide)).trans ((sI_nej (by decide)).trans ((g246.i _ _ (by decide)).trans (wa_43))), (sI_nej (by decide)).trans ((sI_nej (by decide)).trans ((g246.i _ _ (by decide)).trans (wa_51))), (sI_nej (by decide)).trans ((sI_nej (by decide)).trans ((g246.i _ _ (by decide)).trans (wa_53))), (sI_nej (by decide)).trans ((sI_nej (by decide)).trans ((g246.i _ _ (by decide)).trans (h48))), (sI_nej (by decide)).trans ((sI_nej (by decide)).trans ((g246.i _ _ (by decide)).trans (h49))), by omega⟩⟩)
