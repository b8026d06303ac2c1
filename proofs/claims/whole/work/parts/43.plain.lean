/-! emitPlain() -/
theorem a106_l {d : Nat} {M : Mem} (hd : 2 ≤ d) (hR : CT M) {e : Int} (h9 : M.1 65 9 = iI e) {v0 v1 v2 v3 : Int32} {x o1 o2 o3 : Int} (hv0 : v0 = iI x) (hv1 : v1 = iI o1) (hv2 : v2 = iI o2) (hv3 : v3 = iI o3) {sn : Int} (h16 : M.1 65 16 = iI sn) {Hl : Int → Int64} (hL : LA 76 M Hl sn) {y0 y1 : Int64} (h85 : M.2.1 85 x.toNat = y0) (h86 : M.2.1 86 x.toNat = y1) {r : Int} (hlc : LcF Hl sn y1 r) (hr : 0 ≤ r ∧ r ≤ 10) (hz : y0 = (0 : Int64)) (h : 0 ≤ e ∧ e < 4096 ∧ 0 ≤ x ∧ x ≤ 1499 ∧ 0 ≤ sn ∧ sn ≤ 10) : Rt (runX d 106 [va_rf (some 65), .int (v0), .int (v1), .int (v2), .int (v3)] M) (fun _ M2 => Fr W_st M M2 ∧ M2.1 65 9 = iI (e + 1) ∧ (EmC M M2 e o2 r) ∧ (SetC M M2 x 0 e)) := by
  obtain ⟨d, rfl⟩ : ∃ e, d = e + 1 := ⟨d - 1, by omega⟩
  rw [r106]; unfold b106; rw [aR_e, aI_e, aI_e, aI_e, aI_e, aZ_e]; unfold c106
  refine rs1 (gtP_q (w := some 84) (ck_65 hR) (cf_65_18 hR)) ?_
  refine rs1 (alP_q (n := 2) (z := 0) (w := some 85) (ck_84 hR) (li_0) (by omega) (cf_84_0 hR)) ?_
  refine rs1 (alL_q (n := 1500) (z := x) (w := y0) (ck_85 hR) (hv0) (by omega) (h85)) ?_
  refine rs1 (jn_v) ?_
  refine rs1 (if_pos (lgc_p (rfl) (rfl) hz)) ?_
  refine rs1 (gtP_q (w := some 84) (ck_65 hR) (cf_65_18 hR)) ?_
  refine rs1 (alP_q (n := 2) (z := 1) (w := some 86) (ck_84 hR) (li_1) (by omega) (cf_84_1 hR)) ?_
  refine rs1 (alL_q (n := 1500) (z := x) (w := y1) (ck_86 hR) (hv0) (by omega) (h86)) ?_
  refine rs1 (vC_e (ck_65 hR)) ?_
  refine Rc_I (a74 (by omega) hR (h16) hL (x := _) (by omega)) fun v Ml hl => ?_
  obtain ⟨r9, rfl, hMl, hr9⟩ := hl
  rw [hMl]
  have q9 := LcF.one hr9 hlc
  subst q9
  refine rs1 (cI_e rfl) ?_
  refine rs1 (jv_e) ?_
  try dsimp only
  refine rs1 (gtP_q (w := some 77) (ck_65 hR) (cf_65_17 hR)) ?_
  refine rs1 (alP_q (n := 6) (z := 0) (w := some 78) (ck_77 hR) (li_0) (by omega) (cf_77_0 hR)) ?_
  refine rs1 (jn_v) ?_
  refine rs1 (if_neg (lsI_n (congrArg iI (if_neg (by omega))) (li_0) (by omega))) ?_
  refine rs1 (jv_e) ?_
  refine rs1 (asI_q (n := 1500) (z := x) (y := 0) (ck_78 hR) (hv0) (by omega) (li_0)) ?_
  refine rs1 (gtP_q (w := some 77) (ck_65 hR.sI) (cf_65_17 hR.sI)) ?_
  refine rs1 (alP_q (n := 6) (z := 1) (w := some 79) (ck_77 hR.sI) (li_1) (by omega) (cf_77_1 hR.sI)) ?_
  refine rs1 (jn_v) ?_
  refine rs1 (if_neg (lsI_n (congrArg iI (if_neg (by omega))) (li_0) (by omega))) ?_
  refine rs1 (vC_e (ck_65 hR.sI)) ?_
  refine Rc_I (a87 (by omega) hR.sI ((sI_ne (by decide)).trans (h9)) (hv2) (congrArg iI (if_neg (by omega))) (by omega)) fun v Ma2 h2 => ?_
  obtain ⟨r1, rfl, g2, e2_k0, p2_0, p2_1⟩ := h2
  have f2 : Fr W_st M Ma2 := Fr.t (Fr.sI (inW_c (by decide) _) Fr.r) (Fr.m g2 (by decide))
  refine rs1 (cI_e rfl) ?_
  refine rs1 (jv_e) ?_
  try dsimp only
  refine rs1 (asI_q (n := 1500) (z := x) (y := r1) (ck_79 (hR.fr f2)) (hv0) (by omega) (rfl)) ?_
  exact Rt.ok ⟨(Fr.sI (inW_c (by decide) _) f2), (sI_ne (by decide)).trans (e2_k0), p2_1.w (W := [(78, 9999), (79, 9999)]) (W' := [(78, 9999), (79, 9999)]) (Fr.sI (inW_c (by decide) _) Fr.r) (Fr.sI (inW_c (by decide) _) Fr.r) (by decide) (by decide), ⟨fun j hj => ⟨(sI_ne (by decide)).trans ((g2.c _ (by decide) _).trans ((sI_nej hj))), (sI_nej hj).trans ((g2.c _ (by decide) _).trans ((sI_ne (by decide))))⟩, (sI_ne (by decide)).trans ((g2.c _ (by decide) _).trans (sI_eq)), (sI_eq).trans (congrArg iI p2_0)⟩⟩
theorem a106_n {d : Nat} {M : Mem} (hd : 2 ≤ d) (hR : CT M) {e : Int} (h9 : M.1 65 9 = iI e) {v0 v1 v2 v3 : Int32} {x o1 o2 o3 : Int} (hv0 : v0 = iI x) (hv1 : v1 = iI o1) (hv2 : v2 = iI o2) (hv3 : v3 = iI o3) {sn : Int} (h16 : M.1 65 16 = iI sn) {Hl : Int → Int64} (hL : LA 76 M Hl sn) {y0 y1 : Int64} (h85 : M.2.1 85 x.toNat = y0) (h86 : M.2.1 86 x.toNat = y1) (hlc : LcF Hl sn y1 (-1)) (hz : y0 = (0 : Int64)) (h : 0 ≤ e ∧ e < 4096 ∧ 0 ≤ x ∧ x ≤ 1499 ∧ 0 ≤ sn ∧ sn ≤ 10) : Rt (runX d 106 [va_rf (some 65), .int (v0), .int (v1), .int (v2), .int (v3)] M) (fun _ M2 => Fr W_st M M2 ∧ M2.1 65 9 = iI (e + 1) ∧ (EmC M M2 e o3 0) ∧ (SetC M M2 x o1 e)) := by
  obtain ⟨d, rfl⟩ : ∃ e, d = e + 1 := ⟨d - 1, by omega⟩
  rw [r106]; unfold b106; rw [aR_e, aI_e, aI_e, aI_e, aI_e, aZ_e]; unfold c106
  refine rs1 (gtP_q (w := some 84) (ck_65 hR) (cf_65_18 hR)) ?_
  refine rs1 (alP_q (n := 2) (z := 0) (w := some 85) (ck_84 hR) (li_0) (by omega) (cf_84_0 hR)) ?_
  refine rs1 (alL_q (n := 1500) (z := x) (w := y0) (ck_85 hR) (hv0) (by omega) (h85)) ?_
  refine rs1 (jn_v) ?_
  refine rs1 (if_pos (lgc_p (rfl) (rfl) hz)) ?_
  refine rs1 (gtP_q (w := some 84) (ck_65 hR) (cf_65_18 hR)) ?_
  refine rs1 (alP_q (n := 2) (z := 1) (w := some 86) (ck_84 hR) (li_1) (by omega) (cf_84_1 hR)) ?_
  refine rs1 (alL_q (n := 1500) (z := x) (w := y1) (ck_86 hR) (hv0) (by omega) (h86)) ?_
  refine rs1 (vC_e (ck_65 hR)) ?_
  refine Rc_I (a74 (by omega) hR (h16) hL (x := _) (by omega)) fun v Ml hl => ?_
  obtain ⟨r9, rfl, hMl, hr9⟩ := hl
  rw [hMl]
  have q9 := LcF.one hr9 hlc
  subst q9
  refine rs1 (cI_e rfl) ?_
  refine rs1 (jv_e) ?_
  try dsimp only
  refine rs1 (gtP_q (w := some 77) (ck_65 hR) (cf_65_17 hR)) ?_
  refine rs1 (alP_q (n := 6) (z := 0) (w := some 78) (ck_77 hR) (li_0) (by omega) (cf_77_0 hR)) ?_
  refine rs1 (jn_v) ?_
  refine rs1 (if_pos (lsI_p (congrArg iI (if_pos rfl)) (li_0) (by omega))) ?_
  refine rs1 (jv_e) ?_
  refine rs1 (asI_q (n := 1500) (z := x) (y := o1) (ck_78 hR) (hv0) (by omega) (hv1)) ?_
  refine rs1 (gtP_q (w := some 77) (ck_65 hR.sI) (cf_65_17 hR.sI)) ?_
  refine rs1 (alP_q (n := 6) (z := 1) (w := some 79) (ck_77 hR.sI) (li_1) (by omega) (cf_77_1 hR.sI)) ?_
  refine rs1 (jn_v) ?_
  refine rs1 (if_pos (lsI_p (congrArg iI (if_pos rfl)) (li_0) (by omega))) ?_
  refine rs1 (vC_e (ck_65 hR.sI)) ?_
  refine Rc_I (a87 (by omega) hR.sI ((sI_ne (by decide)).trans (h9)) (hv3) (li_0) (by omega)) fun v Ma2 h2 => ?_
  obtain ⟨r1, rfl, g2, e2_k0, p2_0, p2_1⟩ := h2
  have f2 : Fr W_st M Ma2 := Fr.t (Fr.sI (inW_c (by decide) _) Fr.r) (Fr.m g2 (by decide))
  refine rs1 (cI_e rfl) ?_
  refine rs1 (jv_e) ?_
  try dsimp only
  refine rs1 (asI_q (n := 1500) (z := x) (y := r1) (ck_79 (hR.fr f2)) (hv0) (by omega) (rfl)) ?_
  exact Rt.ok ⟨(Fr.sI (inW_c (by decide) _) f2), (sI_ne (by decide)).trans (e2_k0), p2_1.w (W := [(78, 9999), (79, 9999)]) (W' := [(78, 9999), (79, 9999)]) (Fr.sI (inW_c (by decide) _) Fr.r) (Fr.sI (inW_c (by decide) _) Fr.r) (by decide) (by decide), ⟨fun j hj => ⟨(sI_ne (by decide)).trans ((g2.c _ (by decide) _).trans ((sI_nej hj))), (sI_nej hj).trans ((g2.c _ (by decide) _).trans ((sI_ne (by decide))))⟩, (sI_ne (by decide)).trans ((g2.c _ (by decide) _).trans (sI_eq)), (sI_eq).trans (congrArg iI p2_0)⟩⟩
theorem a106_q {d : Nat} {M : Mem} (hd : 2 ≤ d) (hR : CT M) {e : Int} (h9 : M.1 65 9 = iI e) {v0 v1 v2 v3 : Int32} {x o1 o2 o3 : Int} (hv0 : v0 = iI x) (hv1 : v1 = iI o1) (hv2 : v2 = iI o2) (hv3 : v3 = iI o3) {sn : Int} (h16 : M.1 65 16 = iI sn) {Hl : Int → Int64} (hL : LA 76 M Hl sn) {y0 y1 : Int64} (h85 : M.2.1 85 x.toNat = y0) (h86 : M.2.1 86 x.toNat = y1) (hz : ¬ y0 = (0 : Int64)) (h : 0 ≤ e ∧ e < 4096 ∧ 0 ≤ x ∧ x ≤ 1499 ∧ 0 ≤ sn ∧ sn ≤ 10) : Rt (runX d 106 [va_rf (some 65), .int (v0), .int (v1), .int (v2), .int (v3)] M) (fun _ M2 => Fr W_st M M2 ∧ M2.1 65 9 = iI (e + 1) ∧ (EmC M M2 e o3 0) ∧ (SetC M M2 x o1 e)) := by
  obtain ⟨d, rfl⟩ : ∃ e, d = e + 1 := ⟨d - 1, by omega⟩
  rw [r106]; unfold b106; rw [aR_e, aI_e, aI_e, aI_e, aI_e, aZ_e]; unfold c106
  refine rs1 (gtP_q (w := some 84) (ck_65 hR) (cf_65_18 hR)) ?_
  refine rs1 (alP_q (n := 2) (z := 0) (w := some 85) (ck_84 hR) (li_0) (by omega) (cf_84_0 hR)) ?_
  refine rs1 (alL_q (n := 1500) (z := x) (w := y0) (ck_85 hR) (hv0) (by omega) (h85)) ?_
  refine rs1 (jn_v) ?_
  refine rs1 (if_neg (lgc_n (rfl) (rfl) hz)) ?_
  refine rs1 (jv_e) ?_
  try dsimp only
  refine rs1 (gtP_q (w := some 77) (ck_65 hR) (cf_65_17 hR)) ?_
  refine rs1 (alP_q (n := 6) (z := 0) (w := some 78) (ck_77 hR) (li_0) (by omega) (cf_77_0 hR)) ?_
  refine rs1 (jn_v) ?_
  refine rs1 (if_pos (lsI_p (li_m2) (li_0) (by omega))) ?_
  refine rs1 (jv_e) ?_
  refine rs1 (asI_q (n := 1500) (z := x) (y := o1) (ck_78 hR) (hv0) (by omega) (hv1)) ?_
  refine rs1 (gtP_q (w := some 77) (ck_65 hR.sI) (cf_65_17 hR.sI)) ?_
  refine rs1 (alP_q (n := 6) (z := 1) (w := some 79) (ck_77 hR.sI) (li_1) (by omega) (cf_77_1 hR.sI)) ?_
  refine rs1 (jn_v) ?_
  refine rs1 (if_pos (lsI_p (li_m2) (li_0) (by omega))) ?_
  refine rs1 (vC_e (ck_65 hR.sI)) ?_
  refine Rc_I (a87 (by omega) hR.sI ((sI_ne (by decide)).trans (h9)) (hv3) (li_0) (by omega)) fun v Ma2 h2 => ?_
  obtain ⟨r1, rfl, g2, e2_k0, p2_0, p2_1⟩ := h2
  have f2 : Fr W_st M Ma2 := Fr.t (Fr.sI (inW_c (by decide) _) Fr.r) (Fr.m g2 (by decide))
  refine rs1 (cI_e rfl) ?_
  refine rs1 (jv_e) ?_
  try dsimp only
  refine rs1 (asI_q (n := 1500) (z := x) (y := r1) (ck_79 (hR.fr f2)) (hv0) (by omega) (rfl)) ?_
  exact Rt.ok ⟨(Fr.sI (inW_c (by decide) _) f2), (sI_ne (by decide)).trans (e2_k0), p2_1.w (W := [(78, 9999), (79, 9999)]) (W' := [(78, 9999), (79, 9999)]) (Fr.sI (inW_c (by decide) _) Fr.r) (Fr.sI (inW_c (by decide) _) Fr.r) (by decide) (by decide), ⟨fun j hj => ⟨(sI_ne (by decide)).trans ((g2.c _ (by decide) _).trans ((sI_nej hj))), (sI_nej hj).trans ((g2.c _ (by decide) _).trans ((sI_ne (by decide))))⟩, (sI_ne (by decide)).trans ((g2.c _ (by decide) _).trans (sI_eq)), (sI_eq).trans (congrArg iI p2_0)⟩⟩
