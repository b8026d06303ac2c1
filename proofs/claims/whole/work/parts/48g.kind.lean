theorem p_st {D : Nat} {dp : Int} (hD : 20 ≤ D) (h3 : PairT 3 96 [] D dp) (h215 : PairT 215 92 [] D dp) (h216 : PairT 216 93 [] D dp) (h218 : PairT 218 94 [] D dp) (h219 : PairT 219 91 [.int (iI 8)] D dp) (h220 : PairT 220 91 [.int (iI 28)] D dp) (h221 : PairT 221 91 [.int (iI 29)] D dp) (h222 : PairT 222 95 [] D dp) : PairS (D + 2) dp := by
  intro d d2 hd hd2 T n m kd pl E tx ua ut mu Mc Mr G U Hl X i e s u uc v0 hS hx hsc hsr hrw hbd hv0
  obtain ⟨d, rfl⟩ : ∃ e, d = e + 1 := ⟨d - 1, by omega⟩
  have hsc0 := hsc; have hsr0 := hsr; have hrw0 := hrw; have hbd0 := hbd
  rw [r90]; unfold b90; rw [aR_e, aI_e, aZ_e]; unfold c90
  have hCx := hx
  obtain ⟨hC, hR, hTk, hT, hW, ⟨hu1, hu2, hu3, hu4⟩, h49, h48, ⟨hb1, hb2, hb3, hb4⟩⟩ := hx
  obtain ⟨bb_0, bb_1, bb_2, bb_3, bb_4, bb_5, bb_6, bb_7, bb_8, bb_9, bb_10, bb_11⟩ := hbd
  have kua : KU uc Mc Mc := KU.r
  obtain ⟨qa_12, qa_13, qa_10, qa_9, qa_16, qa_19⟩ := hsc
  obtain ⟨wa_36, wa_37, wa_38, wa_41, wa_43, wa_51, wa_53, wa_50, wa_n⟩ := hsr
  obtain ⟨caa, raa, lca, lra, cua, rua⟩ := hrw
  have hk1 := (hS.ok i (by omega) (by omega)).r
  have ty2 := (Tye.r (G := G) (a := e) (s := s))
  have du3 := (DU.r (ut := ut) (mu := mu) (c := uc) (G := G) (U := U) (X := X) (a := e) (u := u))
  refine rsl (gtI_q (w := iI ((kd i))) (ck_65 hC) (qa_13)) ?_
  refine rsl (jn_v) ?_
  refine rsl (swI_c) ?_
  by_cases c4 : ((kd i)) = 3
  · refine rsl (if_pos (eqI_p (rfl) (li_3) (by omega))) ?_
    refine rsl (vC_e (ck_65 hC)) ?_
    exact Rs_cVl (h3 _ _ (by omega) (by omega) T n m kd pl E tx ua ut mu _ _ G U Hl X i e s u uc _ hS hCx hsc0 hsr0 hrw0 hbd0 (by omega) (hv0)) (fun v M w N h => rs1 jv_e (Rt.ok h))
  refine rsl (if_neg (eqI_n (rfl) (li_3) (by omega))) ?_
  refine rsl (swI_c) ?_
  by_cases c5 : ((kd i)) = 215
  · refine rsl (if_pos (eqI_p (rfl) (li_215) (by omega))) ?_
    refine rsl (vC_e (ck_65 hC)) ?_
    exact Rs_cVl (h215 _ _ (by omega) (by omega) T n m kd pl E tx ua ut mu _ _ G U Hl X i e s u uc _ hS hCx hsc0 hsr0 hrw0 hbd0 (by omega) (hv0)) (fun v M w N h => rs1 jv_e (Rt.ok h))
  refine rsl (if_neg (eqI_n (rfl) (li_215) (by omega))) ?_
  refine rsl (swI_c) ?_
  by_cases c6 : ((kd i)) = 216
  · refine rsl (if_pos (eqI_p (rfl) (li_216) (by omega))) ?_
    refine rsl (vC_e (ck_65 hC)) ?_
    exact Rs_cVl (h216 _ _ (by omega) (by omega) T n m kd pl E tx ua ut mu _ _ G U Hl X i e s u uc _ hS hCx hsc0 hsr0 hrw0 hbd0 (by omega) (hv0)) (fun v M w N h => rs1 jv_e (Rt.ok h))
  refine rsl (if_neg (eqI_n (rfl) (li_216) (by omega))) ?_
  refine rsl (swI_c) ?_
  by_cases c7 : ((kd i)) = 218
  · refine rsl (if_pos (eqI_p (rfl) (li_218) (by omega))) ?_
    refine rsl (vC_e (ck_65 hC)) ?_
    exact Rs_cVl (h218 _ _ (by omega) (by omega) T n m kd pl E tx ua ut mu _ _ G U Hl X i e s u uc _ hS hCx hsc0 hsr0 hrw0 hbd0 (by omega) (hv0)) (fun v M w N h => rs1 jv_e (Rt.ok h))
  refine rsl (if_neg (eqI_n (rfl) (li_218) (by omega))) ?_
  refine rsl (swI_c) ?_
  by_cases c8 : ((kd i)) = 219
  · refine rsl (if_pos (eqI_p (rfl) (li_219) (by omega))) ?_
    refine rsl (vC_e (ck_65 hC)) ?_
    exact Rs_cVl (h219 _ _ (by omega) (by omega) T n m kd pl E tx ua ut mu _ _ G U Hl X i e s u uc _ hS hCx hsc0 hsr0 hrw0 hbd0 (by omega) (hv0)) (fun v M w N h => rs1 jv_e (Rt.ok h))
  refine rsl (if_neg (eqI_n (rfl) (li_219) (by omega))) ?_
  refine rsl (swI_c) ?_
  by_cases c9 : ((kd i)) = 220
  · refine rsl (if_pos (eqI_p (rfl) (li_220) (by omega))) ?_
    refine rsl (vC_e (ck_65 hC)) ?_
    exact Rs_cVl (h220 _ _ (by omega) (by omega) T n m kd pl E tx ua ut mu _ _ G U Hl X i e s u uc _ hS hCx hsc0 hsr0 hrw0 hbd0 (by omega) (hv0)) (fun v M w N h => rs1 jv_e (Rt.ok h))
  refine rsl (if_neg (eqI_n (rfl) (li_220) (by omega))) ?_
  refine rsl (swI_c) ?_
  by_cases c10 : ((kd i)) = 221
  · refine rsl (if_pos (eqI_p (rfl) (li_221) (by omega))) ?_
    refine rsl (vC_e (ck_65 hC)) ?_
    exact Rs_cVl (h221 _ _ (by omega) (by omega) T n m kd pl E tx ua ut mu _ _ G U Hl X i e s u uc _ hS hCx hsc0 hsr0 hrw0 hbd0 (by omega) (hv0)) (fun v M w N h => rs1 jv_e (Rt.ok h))
  refine rsl (if_neg (eqI_n (rfl) (li_221) (by omega))) ?_
  refine rsl (swI_c) ?_
  by_cases c11 : ((kd i)) = 222
  · refine rsl (if_pos (eqI_p (rfl) (li_222) (by omega))) ?_
    refine rsl (vC_e (ck_65 hC)) ?_
    exact Rs_cVl (h222 _ _ (by omega) (by omega) T n m kd pl E tx ua ut mu _ _ G U Hl X i e s u uc _ hS hCx hsc0 hsr0 hrw0 hbd0 (by omega) (hv0)) (fun v M w N h => rs1 jv_e (Rt.ok h))
  refine rsl (if_neg (eqI_n (rfl) (li_222) (by omega))) ?_
  refine rsl (swI_n) ?_
  refine rsl (vC_e (ck_65 hC)) ?_
  by_cases c12 : ((kd i)) = 1
  ·
    refine rsl (cV_e (a62_1 (by omega) hS hC (hTk.fr (WL := W_cp) Fr.r (by decide)) (qa_12) (qa_13) (qa_10) (li_2) (by omega))) ?_
    refine rsl (jv_e) ?_
    obtain ⟨d2, rfl⟩ : ∃ e, d2 = e + 1 := ⟨d2 - 1, by omega⟩
    rw [r214]; unfold b214; rw [aR_e, aZ_e]; unfold c214
    refine rsr (gtI_q (w := iI ((kr (kd i)))) (rk_160 hR) (wa_36)) ?_
    refine rsr (jn_v) ?_
    refine rsr (swI_c) ?_
    refine rsr (if_neg (krI_n (k := 215) (rfl) (li_416) (hS.ok i (by omega) (by omega)) (by unfold KdOK sgk; omega) (by decide +kernel) (by omega) (by omega))) ?_
    refine rsr (swI_c) ?_
    refine rsr (if_neg (krI_n (k := 216) (rfl) (li_417) (hS.ok i (by omega) (by omega)) (by unfold KdOK sgk; omega) (by decide +kernel) (by omega) (by omega))) ?_
    refine rsr (swI_c) ?_
    refine rsr (if_neg (krI_n (k := 217) (rfl) (li_418) (hS.ok i (by omega) (by omega)) (by unfold KdOK sgk; omega) (by decide +kernel) (by omega) (by omega))) ?_
    refine rsr (swI_c) ?_
    refine rsr (if_neg (krI_n (k := 218) (rfl) (li_419) (hS.ok i (by omega) (by omega)) (by unfold KdOK sgk; omega) (by decide +kernel) (by omega) (by omega))) ?_
    refine rsr (swI_c) ?_
    refine rsr (if_neg (krI_n (k := 219) (rfl) (li_420) (hS.ok i (by omega) (by omega)) (by unfold KdOK sgk; omega) (by decide +kernel) (by omega) (by omega))) ?_
    refine rsr (swI_c) ?_
    refine rsr (if_neg (krI_n (k := 220) (rfl) (li_421) (hS.ok i (by omega) (by omega)) (by unfold KdOK sgk; omega) (by decide +kernel) (by omega) (by omega))) ?_
    refine rsr (swI_c) ?_
    refine rsr (if_neg (krI_n (k := 221) (rfl) (li_422) (hS.ok i (by omega) (by omega)) (by unfold KdOK sgk; omega) (by decide +kernel) (by omega) (by omega))) ?_
    refine rsr (swI_c) ?_
    refine rsr (if_neg (krI_n (k := 222) (rfl) (li_423) (hS.ok i (by omega) (by omega)) (by unfold KdOK sgk; omega) (by decide +kernel) (by omega) (by omega))) ?_
    refine rsr (swI_n) ?_
    refine rsr (gtI_q (w := iI ((kr (kd i)))) (rk_160 hR) (wa_36)) ?_
    refine rsr (jn_v) ?_
    refine rsr (if_neg (krI_n (k := 3) (rfl) (li_1) (hS.ok i (by omega) (by omega)) (by unfold KdOK sgk; omega) (by decide +kernel) (by omega) (by omega))) ?_
    refine rsr (jv_e) ?_
    refine rsr (vC_e (rk_160 hR)) ?_
    refine rsr (cI_e (ar193_1 (by omega) hS hR (wa_36) (wa_37) (wa_41) (li_0) (by omega))) ?_
    refine rsr (if_pos (eqI_p (rfl) (li_0) (by omega))) ?_
    refine rsr (jv_e) ?_
    exact Rs.ok (Or.inr ⟨1, ((pl i)), (Fr.sI (by decide) (Fr.sI (by decide) (Fr.sI (by decide) Fr.r))), (Fr.sI (by decide) (Fr.sI (by decide) Fr.r)), ⟨i, e, s, uc, sI_eq, (sI_nej (by decide)).trans ((sI_nej (by decide)).trans (sI_eq)), (sI_nej (by decide)).trans (sI_eq), (sI_nej (by decide)).trans ((sI_nej (by decide)).trans ((sI_nej (by decide)).trans (qa_12))), (sI_nej (by decide)).trans ((sI_nej (by decide)).trans ((sI_nej (by decide)).trans (qa_9))), (sI_nej (by decide)).trans ((sI_nej (by decide)).trans ((sI_nej (by decide)).trans (qa_16))), (sI_nej (by decide)).trans ((sI_nej (by decide)).trans ((sI_nej (by decide)).trans (qa_19))), by omega⟩, ⟨e, s, u, mu, ut, (sI_nej (by decide)).trans (sI_eq), sI_eq, (sI_nej (by decide)).trans ((sI_nej (by decide)).trans (wa_43)), (sI_nej (by decide)).trans ((sI_nej (by decide)).trans (wa_51)), (sI_nej (by decide)).trans ((sI_nej (by decide)).trans (wa_53)), (sI_nej (by decide)).trans ((sI_nej (by decide)).trans (h48)), (sI_nej (by decide)).trans ((sI_nej (by decide)).trans (h49)), by omega⟩⟩)
  ·
    refine rsl (cV_e (a62_2 (by omega) hS hC (hTk.fr (WL := W_cp) Fr.r (by decide)) (qa_12) (qa_13) (qa_10) (li_2) (by omega))) ?_
    refine rsl (jv_e) ?_
    obtain ⟨d2, rfl⟩ : ∃ e, d2 = e + 1 := ⟨d2 - 1, by omega⟩
    rw [r214]; unfold b214; rw [aR_e, aZ_e]; unfold c214
    refine rsr (gtI_q (w := iI ((kr (kd i)))) (rk_160 hR) (wa_36)) ?_
    refine rsr (jn_v) ?_
    refine rsr (swI_c) ?_
    refine rsr (if_neg (krI_n (k := 215) (rfl) (li_416) (hS.ok i (by omega) (by omega)) (by unfold KdOK sgk; omega) (by decide +kernel) (by omega) (by omega))) ?_
    refine rsr (swI_c) ?_
    refine rsr (if_neg (krI_n (k := 216) (rfl) (li_417) (hS.ok i (by omega) (by omega)) (by unfold KdOK sgk; omega) (by decide +kernel) (by omega) (by omega))) ?_
    refine rsr (swI_c) ?_
    by_cases c13 : ((kd i)) = 217
    · refine rsr (if_pos (krI_p (k := 217) (rfl) (li_418) (by omega) (by decide +kernel))) ?_
      refine rsr (gtI_q (w := iI ((kr (kd i)))) (rk_160 hR) (wa_36)) ?_
      refine rsr (jn_v) ?_
      refine rsr (if_neg (krI_n (k := 3) (rfl) (li_1) (hS.ok i (by omega) (by omega)) (by unfold KdOK sgk; omega) (by decide +kernel) (by omega) (by omega))) ?_
      refine rsr (jv_e) ?_
      refine rsr (vC_e (rk_160 hR)) ?_
      refine rsr (cI_e (ar193_2 (by omega) hS hR (wa_36) (wa_37) (wa_41) (li_0) (by omega))) ?_
      refine rsr (if_pos (eqI_p (rfl) (li_0) (by omega))) ?_
      refine rsr (jv_e) ?_
      exact Rs.ok (Or.inr ⟨2, ((pl i)), (Fr.sI (by decide) (Fr.sI (by decide) (Fr.sI (by decide) Fr.r))), (Fr.sI (by decide) (Fr.sI (by decide) Fr.r)), ⟨i, e, s, uc, sI_eq, (sI_nej (by decide)).trans ((sI_nej (by decide)).trans (sI_eq)), (sI_nej (by decide)).trans (sI_eq), (sI_nej (by decide)).trans ((sI_nej (by decide)).trans ((sI_nej (by decide)).trans (qa_12))), (sI_nej (by decide)).trans ((sI_nej (by decide)).trans ((sI_nej (by decide)).trans (qa_9))), (sI_nej (by decide)).trans ((sI_nej (by decide)).trans ((sI_nej (by decide)).trans (qa_16))), (sI_nej (by decide)).trans ((sI_nej (by decide)).trans ((sI_nej (by decide)).trans (qa_19))), by omega⟩, ⟨e, s, u, mu, ut, (sI_nej (by decide)).trans (sI_eq), sI_eq, (sI_nej (by decide)).trans ((sI_nej (by decide)).trans (wa_43)), (sI_nej (by decide)).trans ((sI_nej (by decide)).trans (wa_51)), (sI_nej (by decide)).trans ((sI_nej (by decide)).trans (wa_53)), (sI_nej (by decide)).trans ((sI_nej (by decide)).trans (h48)), (sI_nej (by decide)).trans ((sI_nej (by decide)).trans (h49)), by omega⟩⟩)
    refine rsr (if_neg (krI_n (k := 217) (rfl) (li_418) (hS.ok i (by omega) (by omega)) (by unfold KdOK sgk; omega) (by decide +kernel) (by omega) (by omega))) ?_
    refine rsr (swI_c) ?_
    refine rsr (if_neg (krI_n (k := 218) (rfl) (li_419) (hS.ok i (by omega) (by omega)) (by unfold KdOK sgk; omega) (by decide +kernel) (by omega) (by omega))) ?_
    refine rsr (swI_c) ?_
    refine rsr (if_neg (krI_n (k := 219) (rfl) (li_420) (hS.ok i (by omega) (by omega)) (by unfold KdOK sgk; omega) (by decide +kernel) (by omega) (by omega))) ?_
    refine rsr (swI_c) ?_
    refine rsr (if_neg (krI_n (k := 220) (rfl) (li_421) (hS.ok i (by omega) (by omega)) (by unfold KdOK sgk; omega) (by decide +kernel) (by omega) (by omega))) ?_
    refine rsr (swI_c) ?_
    refine rsr (if_neg (krI_n (k := 221) (rfl) (li_422) (hS.ok i (by omega) (by omega)) (by unfold KdOK sgk; omega) (by decide +kernel) (by omega) (by omega))) ?_
    refine rsr (swI_c) ?_
    refine rsr (if_neg (krI_n (k := 222) (rfl) (li_423) (hS.ok i (by omega) (by omega)) (by unfold KdOK sgk; omega) (by decide +kernel) (by omega) (by omega))) ?_
    refine rsr (swI_n) ?_
    refine rsr (gtI_q (w := iI ((kr (kd i)))) (rk_160 hR) (wa_36)) ?_
    refine rsr (jn_v) ?_
    refine rsr (if_neg (krI_n (k := 3) (rfl) (li_1) (hS.ok i (by omega) (by omega)) (by unfold KdOK sgk; omega) (by decide +kernel) (by omega) (by omega))) ?_
    refine rsr (jv_e) ?_
    refine rsr (vC_e (rk_160 hR)) ?_
    refine rsr (cI_e (ar193_2 (by omega) hS hR (wa_36) (wa_37) (wa_41) (li_0) (by omega))) ?_
    refine rsr (if_pos (eqI_p (rfl) (li_0) (by omega))) ?_
    refine rsr (jv_e) ?_
    exact Rs.ok (Or.inr ⟨2, ((pl i)), (Fr.sI (by decide) (Fr.sI (by decide) (Fr.sI (by decide) Fr.r))), (Fr.sI (by decide) (Fr.sI (by decide) Fr.r)), ⟨i, e, s, uc, sI_eq, (sI_nej (by decide)).trans ((sI_nej (by decide)).trans (sI_eq)), (sI_nej (by decide)).trans (sI_eq), (sI_nej (by decide)).trans ((sI_nej (by decide)).trans ((sI_nej (by decide)).trans (qa_12))), (sI_nej (by decide)).trans ((sI_nej (by decide)).trans ((sI_nej (by decide)).trans (qa_9))), (sI_nej (by decide)).trans ((sI_nej (by decide)).trans ((sI_nej (by decide)).trans (qa_16))), (sI_nej (by decide)).trans ((sI_nej (by decide)).trans ((sI_nej (by decide)).trans (qa_19))), by omega⟩, ⟨e, s, u, mu, ut, (sI_nej (by decide)).trans (sI_eq), sI_eq, (sI_nej (by decide)).trans ((sI_nej (by decide)).trans (wa_43)), (sI_nej (by decide)).trans ((sI_nej (by decide)).trans (wa_51)), (sI_nej (by decide)).trans ((sI_nej (by decide)).trans (wa_53)), (sI_nej (by decide)).trans ((sI_nej (by decide)).trans (h48)), (sI_nej (by decide)).trans ((sI_nej (by decide)).trans (h49)), by omega⟩⟩)
