/-! a call: its arguments -/
def W_c1 : List (Nat × Nat) := (80, 9999) :: W_c0
def W_r1 : List (Nat × Nat) := (206, 9999) :: W_r0
theorem Ag.pq {G G' : Nat → Int → Int} {a j v : Int} {k0 : Nat} (h : Ag G G' a) (hq : a ≤ j) : Ag G (pq G' k0 j v) a := fun k t z => (pq_t (by omega)).trans (h k t z)
theorem CU.args {M : Mem} {U : Nat → Int → Int} {X : Nat → Int → Int64} {u uc j x v : Int} (h : CU M U X u uc) (hj : 0 ≤ j ∧ j < u) (hx : U 0 j = x) : CU (sI M 80 x.toNat (iI v)) (pq (pq U 9 j v) 5 j v) X u uc := by
  obtain ⟨h1, h2, h3⟩ := h
  have z : ∀ k t, k ≠ 9 → k ≠ 5 → pq (pq U 9 j v) 5 j v k t = U k t := fun k t a b => by rw [pq_k b, pq_k a]
  have hxx := (h1 j hj.1 hj.2).1
  refine ⟨fun t a c => ?_, fun t w a c d => by rw [z _ _ (by decide) (by decide), z _ _ (by decide) (by decide)]; exact h2 t w a c d, fun y a c d => ?_⟩
  · obtain ⟨k, e1, e2, e3, e4, e5, e6, e7, e8⟩ := h1 t a c
    rw [z 0 t (by decide) (by decide), z 7 t (by decide) (by decide), z 8 t (by decide) (by decide), z 6 t (by decide) (by decide), z 10 t (by decide) (by decide), z 4 t (by decide) (by decide)]
    refine ⟨k, (sI_ne (by decide)).trans e1, (sI_ne (by decide)).trans e2, ?_, (sI_ne (by decide)).trans e4, (sI_ne (by decide)).trans e5, (sI_ne (by decide)).trans e6, e7, e8⟩
    rw [pq_k (by decide)]
    by_cases c2 : t = j
    · subst c2
      rw [pq_e, hx]; exact sI_eq
    · have : U 0 t ≠ x := fun e => by
        rcases Int.lt_or_le t j with q | q
        · have := h2 t j a q hj.2; omega
        · have := h2 j t hj.1 (by omega) c; omega
      rw [pq_t c2]
      exact (sI_nej (by omega)).trans e3
  · refine (sI_ne (by decide)).trans (h3 y a c fun t p2 q2 => ?_)
    have := d t p2 q2
    rw [z _ _ (by decide) (by decide)] at this
    exact this
theorem RU.args {M : Mem} {U : Nat → Int → Int} {X : Nat → Int → Int64} {u j v : Int} (h : RU M U X u) (hj : 0 ≤ j ∧ j < u) : RU (sI M 206 j.toNat (iI v)) (pq (pq U 9 j v) 5 j v) X u := fun t a c => by
  obtain ⟨e1, e2, e3, e4, e5, e6, e7, e8⟩ := h t a c
  have z : ∀ k, k ≠ 9 → k ≠ 5 → pq (pq U 9 j v) 5 j v k t = U k t := fun k a b => by rw [pq_k b, pq_k a]
  rw [z 2 (by decide) (by decide), z 1 (by decide) (by decide), z 3 (by decide) (by decide), z 4 (by decide) (by decide), z 6 (by decide) (by decide)]
  refine ⟨(sI_ne (by decide)).trans e1, (sI_ne (by decide)).trans e2, e3, (sI_ne (by decide)).trans e4, e5, (sI_ne (by decide)).trans e6, ?_, (sI_ne (by decide)).trans e8⟩
  by_cases c2 : t = j
  · subst c2
    rw [pq_e]; exact sI_eq
  · rw [pq_t c2, pq_k (by decide)]
    exact (sI_nej (by omega)).trans e7
theorem p_cl {D : Nat} {dp : Int} (hD : 20 ≤ D) (hE : dp < 20 → Pair D 99 [0] 211 14 (dp + 1)) : PairC (D + 3) 24 dp := by
  intro d d2 hd hd2 T n m kd pl E tx ua ut mu Mc Mr G U Hl X i e s u uc x v0 v1 w0 hS hx hsc hsr hrw hbd hK hpu hux hv0 hv1 hw0
  obtain ⟨d, rfl⟩ : ∃ e, d = e + 1 := ⟨d - 1, by omega⟩
  obtain ⟨d2, rfl⟩ : ∃ e, d2 = e + 1 := ⟨d2 - 1, by omega⟩
  rw [r97]; unfold b97; rw [aR_e, aI_e, aI_e, aZ_e]; unfold c97; rw [r204]; unfold b204; rw [aR_e, aI_e, aZ_e]; unfold c204
  have hCx := hx
  obtain ⟨hC, hR, hTk, hT, hW, ⟨hu1, hu2, hu3, hu4⟩, h49, h48, ⟨hb1, hb2, hb3, hb4⟩⟩ := hx
  obtain ⟨bb_0, bb_1, bb_2, bb_3, bb_4, bb_5, bb_6, bb_7, bb_8, bb_9, bb_10, bb_11⟩ := hbd
  obtain ⟨qa_12, qa_13, qa_10, qa_9, qa_16, qa_19⟩ := hsc
  obtain ⟨wa_36, wa_37, wa_38, wa_41, wa_43, wa_51, wa_53, wa_50, wa_n⟩ := hsr
  obtain ⟨caa, raa, lca, lra, cua, rua⟩ := hrw
  have hk1 := (hS.ok i (by omega) (by omega)).r
  have hxr : 0 ≤ x ∧ x < uc := by have q := (cua.1 (u - 1) (by omega) (by omega)).1; rw [hux] at q; exact q
  refine rsl (vC_e (ck_65 hC)) ?_
  by_cases c2 : dp < 20
  ·
    have hm3 : i + 1 < m := hS.more i (by omega) (by omega) (by omega)
    refine rsl (cV_e (a69q (by omega) hS hC (hTk.fr (WL := W_cp) Fr.r (by decide)) (qa_12) (qa_13) (qa_10) (li_40) (hv1) (i2 := (i + 1)) (by omega) (by omega))) ?_
    have hk4 := (hS.ok (i + 1) (by omega) (by omega)).r
    refine rsl (gtI_q (w := iI ((kd (i + 1)))) (ck_65 hC.sI.sI) (sI_eq)) ?_
    refine rsl (jn_v) ?_
    by_cases c5 : ((kd (i + 1))) = 41
    · refine rsl (if_pos (eqI_p (rfl) (li_41) (by omega))) ?_
      refine rsl (jv_e) ?_
      refine rsl (jn_v) ?_
      refine rsr (vC_e (rk_160 hR)) ?_
      refine rsr (cI_e (ar200_p (by omega) hS hR (wa_36) (wa_37) (wa_41) (wa_50) (by omega))) ?_
      refine rsr (jn_v) ?_
      refine rsr (if_neg (eqI_n (rfl) (li_0) (by omega))) ?_
      refine rsr (vC_e (rk_160 hR.sI)) ?_
      refine RrV (nx_ok (by omega) hS hR.sI (hT.fr (W := W_rx) (Fr.sI (by decide) Fr.r) (by decide) (by decide)) (fun i a b => (Fr.lc (W := W_rx) (Fr.sI (by decide) Fr.r) _ (by decide) _).trans (hW i a b)) (i := i) ((sI_nej (by decide)).trans (wa_41)) ((sI_nej (by decide)).trans (wa_38)) (by omega) (by omega)) fun v Ma7 h7 => ?_
      obtain ⟨g7, e7_k0, e7_k1, e7_k2, p7_0⟩ := h7
      have f7 : Fr W_rx Mr Ma7 := Fr.t (Fr.sI (by decide) Fr.r) (Fr.m g7 (by decide))
      refine rsr (cV_e rfl) ?_
      refine rsr (gtI_q (w := iI 0) (rk_160 (hR.fr f7)) ((g7.i _ _ (by decide)).trans ((sI_nej (by decide)).trans (wa_41)))) ?_
      refine rsr (jn_v) ?_
      refine rsr (jn_v) ?_
      refine rsr (if_pos (eqI_p (rfl) (li_0) (by omega))) ?_
      refine rsr (gtI_q (w := iI ((kr (kd (i + 1))))) (rk_160 (hR.fr f7)) (e7_k0)) ?_
      refine rsr (if_pos (krI_p (k := 41) (rfl) (li_41) (by omega) (by decide +kernel))) ?_
      refine rsr (jv_e) ?_
      refine rsr (jv_e) ?_
      refine rsr (jn_v) ?_
      refine Rb_lp (fun m2 q t => (∃ (a mo k i2 : Int), q.1 = iI a ∧ q.2.1 = iI mo ∧ q.2.2.1 = iI k ∧ t.1 = iI a ∧ t.2.1 = iI mo ∧ (0 ≤ k ∧ k ≤ i2) ∧ (0 ≤ mo ∧ mo ≤ 1) ∧ (0 ≤ a ∧ a ≤ 3000 + k) ∧ PK m kd pl E tx Mc Mr G U Hl X i e s u uc (dp + 1) q.2.2.2 t.2.2 i2 ∧ (m2 : Int) = m - i2 + 1) ∨ ∃ (a a2 k F P : Int), q.1 = iI a ∧ q.2.1 = iI 0 ∧ q.2.2.1 = iI k ∧ t.1 = iI a2 ∧ t.2.1 = iI 0 ∧ (0 ≤ k ∧ k ≤ 1500) ∧ Fr W_cp Mc q.2.2.2 ∧ Fr W_rp Mr t.2.2 ∧ FTc m F P q.2.2.2 ∧ FTr (2500 - 30 * dp - 25) F P t.2.2 ∧ m2 = 0) (fun m2 q t gl gr hq hgo => ?_) (m - i).toNat _ _ _ _ (by omega) (by omega) (Or.inl ⟨0, 0, 0, (i + 1), li_0, li_0, li_0, li_0, li_0, by omega, by omega, by omega, ⟨e, u, uc, G, U, X, (Fr.sI (by decide) (Fr.sI (by decide) Fr.r)), f7, ⟨(sI_nej (by decide)).trans (sI_eq), sI_eq, (sI_nej (by decide)).trans ((sI_nej (by decide)).trans (qa_10)), (sI_nej (by decide)).trans ((sI_nej (by decide)).trans (qa_9)), (sI_nej (by decide)).trans ((sI_nej (by decide)).trans (qa_16)), (sI_nej (by decide)).trans ((sI_nej (by decide)).trans (qa_19))⟩, ⟨e7_k0, e7_k1, e7_k2, (g7.i _ _ (by decide)).trans ((sI_nej (by decide)).trans (wa_41)), (g7.i _ _ (by decide)).trans ((sI_nej (by decide)).trans (wa_43)), (g7.i _ _ (by decide)).trans ((sI_nej (by decide)).trans (wa_51)), (g7.i _ _ (by decide)).trans ((sI_nej (by decide)).trans (wa_53)), (g7.i _ _ (by decide)).trans (sI_eq), p7_0⟩, ⟨(caa.fr (W := W_c0) (Fr.sI (by decide) (Fr.sI (by decide) Fr.r)) (by decide)), ((raa.fr (W := W_r0) (Fr.sI (by decide) Fr.r) (by decide)).fr g7 (by decide)), (lca.fr (W := W_c0) (Fr.sI (by decide) (Fr.sI (by decide) Fr.r)) (by decide)), ((lra.fr (W := W_r0) (Fr.sI (by decide) Fr.r) (by decide)).fr g7 (by decide)), (cua.fr (W := W_c0) (Fr.sI (by decide) (Fr.sI (by decide) Fr.r)) (by decide)), ((rua.fr (W := W_r0) (Fr.sI (by decide) Fr.r) (by decide)).fr g7 (by decide))⟩, ⟨by omega, by omega, by omega, by omega, by omega, by omega, by omega, by omega, by omega, by omega, by omega, by omega⟩, ⟨by omega, by omega, by omega, by omega, by omega, by omega⟩, Ag.r, Ag.r, AgL.r⟩, by omega⟩)
      obtain ⟨qa8, qb8, qc8, qm8⟩ := q
      obtain ⟨ta8, tb8, tm8⟩ := t
      dsimp only at hq
      try dsimp only
      rcases hq with hq | hq
      ·
        obtain ⟨a8, mo8, k8, i8, hy1_8, hy2_8, hy3_8, hy4_8, hy5_8, ⟨hka8, hkb8⟩, ⟨hma8, hmb8⟩, ⟨haa8, hab8⟩, ⟨e8, u8, uc8, G8, U8, X8, FL8, FR8, sc8, sr8, rw8, bd8, ⟨mv8_0, mv8_1, mv8_2, mv8_3, mv8_4, mv8_5⟩, ag8, au8, ax8⟩, hm8⟩ := hq
        obtain ⟨bb8_0, bb8_1, bb8_2, bb8_3, bb8_4, bb8_5, bb8_6, bb8_7, bb8_8, bb8_9, bb8_10, bb8_11⟩ := bd8
        obtain ⟨q8_12, q8_13, q8_10, q8_9, q8_16, q8_19⟩ := sc8
        obtain ⟨w8_36, w8_37, w8_38, w8_41, w8_43, w8_51, w8_53, w8_50, w8_n⟩ := sr8
        obtain ⟨ca8, ra8, lc8, lr8, cu8, ru8⟩ := rw8
        have hk9 := (hS.ok i8 (by omega) (by omega)).r
        unfold c97_28 c204_35
        refine rsl (if_neg (leI_n (li_3000) (hy3_8) (by omega))) ?_
        by_cases c10 : mo8 = 0
        · refine rsl (if_pos (eqI_p (hy2_8) (li_0) (by omega))) ?_
          refine rsl (jv_e) ?_
          try dsimp only
          refine rsl (vC_e (ck_65 (hC.fr FL8))) ?_
          by_cases c11 : ((kd i8)) = 41
          ·
            have hm12 : i8 + 1 < m := hS.more i8 (by omega) (by omega) (by omega)
            refine rsl (cV_e (a64q (by omega) hS (hC.fr FL8) (hTk.fr (WL := W_cp) FL8 (by decide)) (q8_12) (q8_13) (q8_10) (li_41) (i2 := (i8 + 1)) (by omega) (by omega))) ?_
            have hk13 := (hS.ok (i8 + 1) (by omega) (by omega)).r
            refine rsl (gtP_q (w := some 77) (ck_65 (hC.fr FL8).sI.sI) (cf_65_17 (hC.fr FL8).sI.sI)) ?_
            refine rsl (alP_q (n := 6) (z := 2) (w := some 80) (ck_77 (hC.fr FL8).sI.sI) (li_2) (by omega) (cf_77_2 (hC.fr FL8).sI.sI)) ?_
            refine rsl (asI_q (n := 1500) (z := x) (y := a8) (ck_80 (hC.fr FL8).sI.sI) (hv0) (by omega) (hy1_8)) ?_
            refine rsl (vC_e (ck_65 (hC.fr FL8).sI.sI.sI)) ?_
            refine RlV (a105 (by omega) (hC.fr FL8).sI.sI.sI ((sI_ne (by decide)).trans ((sI_nej (by decide)).trans ((sI_nej (by decide)).trans (q8_9)))) (hv0) (li_4) (li_7) (by omega)) fun v Ma15 h15 => ?_
            obtain ⟨g15, e15_k0, p15_0, p15_1⟩ := h15
            have f15 : Fr W_cp Mc Ma15 := Fr.t (Fr.sI (inW_c (by decide) _) (Fr.sI (by decide) (Fr.sI (by decide) FL8))) (Fr.m g15 (by decide))
            refine rsl (cV_e rfl) ?_
            refine rsr (if_pos (eqI_p (hy5_8) (li_0) (by omega))) ?_
            refine rsr (jv_e) ?_
            try dsimp only
            refine rsr (gtI_q (w := iI 0) (rk_160 (hR.fr FR8)) (w8_41)) ?_
            refine rsr (if_pos (eqI_p (rfl) (li_0) (by omega))) ?_
            refine rsr (gtI_q (w := iI ((kr (kd i8)))) (rk_160 (hR.fr FR8)) (w8_36)) ?_
            refine rsr (jn_v) ?_
            refine rsr (if_pos (krI_p (k := 41) (rfl) (li_41) (by omega) (by decide +kernel))) ?_
            refine rsr (jv_e) ?_
            refine rsr (vC_e (rk_160 (hR.fr FR8))) ?_
            refine rsr (cI_e (ar193_p (by omega) hS (hR.fr FR8) (w8_36) (w8_37) (w8_41) (li_1) (by omega))) ?_
            refine rsr (if_neg (eqI_n (rfl) (li_0) (by omega))) ?_
            refine rsr (gtI_q (w := iI (dp + 1)) (rk_160 (hR.fr FR8)) (w8_50)) ?_
            refine rsr (ptI_q (z := dp) (rk_160 (hR.fr FR8)) (cvI (sbI (rfl) (li_1)) (by omega))) ?_
            refine rsr (vC_e (rk_160 (hR.fr FR8).sI)) ?_
            refine RrV (nx_ok (by omega) hS (hR.fr FR8).sI (hT.fr (W := W_rx) (Fr.sI (by decide) FR8) (by decide) (by decide)) (fun i a b => (Fr.lc (W := W_rx) (Fr.sI (by decide) FR8) _ (by decide) _).trans (hW i a b)) (i := i8) ((sI_nej (by decide)).trans (w8_41)) ((sI_nej (by decide)).trans (w8_38)) (by omega) (by omega)) fun v Ma17 h17 => ?_
            obtain ⟨g17, e17_k0, e17_k1, e17_k2, p17_0⟩ := h17
            have f17 : Fr W_rx Mr Ma17 := Fr.t (Fr.sI (by decide) FR8) (Fr.m g17 (by decide))
            refine rsr (cV_e rfl) ?_
            refine rsr (jv_e) ?_
            try dsimp only
            refine rsr (gtP_q (w := some 206) (rk_160 (hR.fr f17)) (rf_60 (hR.fr f17))) ?_
            refine rsr (asI_q (n := 2000) (z := (u - 1)) (y := a8) (rk_206 (hR.fr f17)) (hw0) (by omega) (hy4_8)) ?_
            refine rsr (vC_e (rk_160 (hR.fr f17).sI)) ?_
            refine RrV (a202 (by omega) (hR.fr f17).sI ((sI_ne (by decide)).trans ((g17.i _ _ (by decide)).trans ((sI_nej (by decide)).trans (w8_43)))) ((sI_ne (by decide)).trans ((g17.i _ _ (by decide)).trans ((sI_nej (by decide)).trans ((FR8.i _ _ (by decide)).trans h49)))) ((sI_ne (by decide)).trans ((g17.i _ _ (by decide)).trans ((sI_nej (by decide)).trans ((FR8.i _ _ (by decide)).trans h48)))) (hw0) (li_4) (li_7) (by omega)) fun v Ma18 h18 => ?_
            obtain ⟨g18, e18_k0, p18_0, p18_1⟩ := h18
            have f18 : Fr W_rx Mr Ma18 := Fr.t (Fr.sI (inW_c (by decide) _) f17) (Fr.m g18 (by decide))
            refine rsr (cV_e rfl) ?_
            exact Rs.ok (Or.inl ⟨(i8 + 1), (e8 + 1), u8, uc8, (pu G8 e8 [7, 0, -2, (u - 1), ut, mu, a8]), (ps (pq (pq U8 9 (u - 1) a8) 5 (u - 1) a8) (u - 1) 4 4 e8), X8, f15, f18, ⟨(g15.i _ _ (by decide)).trans ((sI_ne (by decide)).trans ((sI_nej (by decide)).trans (sI_eq))), (g15.i _ _ (by decide)).trans ((sI_ne (by decide)).trans (sI_eq)), (g15.i _ _ (by decide)).trans ((sI_ne (by decide)).trans ((sI_nej (by decide)).trans ((sI_nej (by decide)).trans (q8_10)))), e15_k0, (g15.i _ _ (by decide)).trans ((sI_ne (by decide)).trans ((sI_nej (by decide)).trans ((sI_nej (by decide)).trans (q8_16)))), (g15.i _ _ (by decide)).trans ((sI_ne (by decide)).trans ((sI_nej (by decide)).trans ((sI_nej (by decide)).trans (q8_19))))⟩, ⟨(g18.i _ _ (by decide)).trans ((sI_ne (by decide)).trans (e17_k0)), (g18.i _ _ (by decide)).trans ((sI_ne (by decide)).trans (e17_k1)), (g18.i _ _ (by decide)).trans ((sI_ne (by decide)).trans (e17_k2)), (g18.i _ _ (by decide)).trans ((sI_ne (by decide)).trans ((g17.i _ _ (by decide)).trans ((sI_nej (by decide)).trans (w8_41)))), e18_k0, (g18.i _ _ (by decide)).trans ((sI_ne (by decide)).trans ((g17.i _ _ (by decide)).trans ((sI_nej (by decide)).trans (w8_51)))), (g18.i _ _ (by decide)).trans ((sI_ne (by decide)).trans ((g17.i _ _ (by decide)).trans ((sI_nej (by decide)).trans (w8_53)))), (g18.i _ _ (by decide)).trans ((sI_ne (by decide)).trans ((g17.i _ _ (by decide)).trans (sI_eq))), ((p17_0.fr (W := W_r1) (Fr.sI (inW_c (by decide) _) Fr.r) (by decide) (by decide)).fr g18 (by decide) (by decide))⟩, ⟨(CA1.em (ca8.fr (W := W_c1) (Fr.sI (inW_c (by decide) _) (Fr.sI (by decide) (Fr.sI (by decide) Fr.r))) (by decide)) (by omega) p15_0 rfl), (RA1.em (((ra8.fr (W := W_r0) (Fr.sI (by decide) Fr.r) (by decide)).fr g17 (by decide)).fr (W := W_r1) (Fr.sI (inW_c (by decide) _) Fr.r) (by decide)) (by omega) p18_0 rfl), ((lc8.fr (W := W_c1) (Fr.sI (inW_c (by decide) _) (Fr.sI (by decide) (Fr.sI (by decide) Fr.r))) (by decide)).fr g15 (by decide)), ((((lr8.fr (W := W_r0) (Fr.sI (by decide) Fr.r) (by decide)).fr g17 (by decide)).fr (W := W_r1) (Fr.sI (inW_c (by decide) _) Fr.r) (by decide)).fr g18 (by decide)), (CU.set (b := 4) (CU.args (v := a8) (cu8.fr (W := W_c0) (Fr.sI (by decide) (Fr.sI (by decide) Fr.r)) (by decide)) ⟨by omega, by omega⟩ ((au8 0 _ (by omega)).trans hux)) ⟨by omega, by omega⟩ ((pq_k (by decide)).trans ((pq_k (by decide)).trans ((au8 0 _ (by omega)).trans hux))) p15_1 g15 (by decide)), (RU.set (RU.args (v := a8) ((ru8.fr (W := W_r0) (Fr.sI (by decide) Fr.r) (by decide)).fr g17 (by decide)) ⟨by omega, by omega⟩) ⟨by omega, by omega⟩ p18_1 g18 (by decide))⟩, ⟨by omega, by omega, by omega, by omega, by omega, by omega, by omega, by omega, by omega, by omega, by omega, by omega⟩, ⟨by omega, by omega, by omega, by omega, by omega, by omega⟩, (Ag.pu ag8 (by omega)), (Ag.ps (Ag.pq (Ag.pq (Ag.t Ag.r au8 (by omega)) (by omega)) (by omega)) (by omega)), ax8⟩)
          ·
            by_cases c19 : ((kd i8)) = 1
            ·
              refine rsl (cV_e (a64_1 (by omega) hS (hC.fr FL8) (hTk.fr (WL := W_cp) FL8 (by decide)) (q8_12) (q8_13) (q8_10) (li_41) (by omega))) ?_
              refine rsl (gtP_q (w := some 77) (ck_65 (hC.fr FL8).sI.sI.sI) (cf_65_17 (hC.fr FL8).sI.sI.sI)) ?_
              refine rsl (alP_q (n := 6) (z := 2) (w := some 80) (ck_77 (hC.fr FL8).sI.sI.sI) (li_2) (by omega) (cf_77_2 (hC.fr FL8).sI.sI.sI)) ?_
              refine rsl (asI_q (n := 1500) (z := x) (y := a8) (ck_80 (hC.fr FL8).sI.sI.sI) (hv0) (by omega) (hy1_8)) ?_
              refine rsl (vC_e (ck_65 (hC.fr FL8).sI.sI.sI.sI)) ?_
              refine RlV (y105 (by omega) (hC.fr FL8).sI.sI.sI.sI (hTk.fr (WL := W_cp) (Fr.sI (inW_c (by decide) _) (Fr.sI (by decide) (Fr.sI (by decide) (Fr.sI (by decide) FL8)))) (by decide)) ((sI_ne (by decide)).trans ((sI_nej (by decide)).trans ((sI_nej (by decide)).trans ((sI_nej (by decide)).trans (q8_12))))) ((sI_ne (by decide)).trans (sI_eq)) ((sI_ne (by decide)).trans ((sI_nej (by decide)).trans ((sI_nej (by decide)).trans (sI_eq)))) ((sI_ne (by decide)).trans ((sI_nej (by decide)).trans (sI_eq))) ((sI_ne (by decide)).trans ((sI_nej (by decide)).trans ((sI_nej (by decide)).trans ((sI_nej (by decide)).trans (q8_9))))) ((sI_ne (by decide)).trans ((sI_nej (by decide)).trans ((sI_nej (by decide)).trans ((sI_nej (by decide)).trans (q8_16))))) ((sI_ne (by decide)).trans ((sI_nej (by decide)).trans ((sI_nej (by decide)).trans ((sI_nej (by decide)).trans (q8_19))))) (hv0) (li_4) (li_7) (by omega)) fun v Ma21 h21 => ?_
              obtain ⟨sz20, sn20, uc20, g21, e21_sz20, e21_sn20, e21_uc20, e21_k0, e21_k1, e21_k2, e21_k3, p21_0, p21_1, p21_2⟩ := h21
              have f21 : Fr W_cp Mc Ma21 := Fr.t (Fr.sI (inW_c (by decide) _) (Fr.sI (by decide) (Fr.sI (by decide) (Fr.sI (by decide) FL8)))) (Fr.m g21 (by decide))
              refine rsl (cV_e rfl) ?_
              refine rsr (if_pos (eqI_p (hy5_8) (li_0) (by omega))) ?_
              refine rsr (jv_e) ?_
              try dsimp only
              refine rsr (gtI_q (w := iI 0) (rk_160 (hR.fr FR8)) (w8_41)) ?_
              refine rsr (if_pos (eqI_p (rfl) (li_0) (by omega))) ?_
              refine rsr (gtI_q (w := iI ((kr (kd i8)))) (rk_160 (hR.fr FR8)) (w8_36)) ?_
              refine rsr (jn_v) ?_
              refine rsr (if_neg (krI_n (k := 41) (rfl) (li_41) (hS.ok i8 (by omega) (by omega)) (by unfold KdOK sgk; omega) (by decide +kernel) (by omega) (by omega))) ?_
              refine rsr (jv_e) ?_
              refine rsr (vC_e (rk_160 (hR.fr FR8))) ?_
              refine rsr (cI_e (ar193_1 (by omega) hS (hR.fr FR8) (w8_36) (w8_37) (w8_41) (li_0) (by omega))) ?_
              refine rsr (if_pos (eqI_p (rfl) (li_0) (by omega))) ?_
              refine rsr (jv_e) ?_
              try dsimp only
              refine rsr (gtP_q (w := some 206) (rk_160 (hR.fr FR8).sI.sI) (rf_60 (hR.fr FR8).sI.sI)) ?_
              refine rsr (asI_q (n := 2000) (z := (u - 1)) (y := a8) (rk_206 (hR.fr FR8).sI.sI) (hw0) (by omega) (hy4_8)) ?_
              refine rsr (vC_e (rk_160 (hR.fr FR8).sI.sI.sI)) ?_
              refine RrV (x202_s (by omega) (hR.fr FR8).sI.sI.sI ((sI_ne (by decide)).trans ((sI_nej (by decide)).trans (sI_eq))) ((sI_ne (by decide)).trans (sI_eq)) ((sI_ne (by decide)).trans ((sI_nej (by decide)).trans ((sI_nej (by decide)).trans (w8_43)))) ((sI_ne (by decide)).trans ((sI_nej (by decide)).trans ((sI_nej (by decide)).trans (w8_51)))) ((sI_ne (by decide)).trans ((sI_nej (by decide)).trans ((sI_nej (by decide)).trans (w8_53)))) ((sI_ne (by decide)).trans ((sI_nej (by decide)).trans ((sI_nej (by decide)).trans ((FR8.i _ _ (by decide)).trans h48)))) ((sI_ne (by decide)).trans ((sI_nej (by decide)).trans ((sI_nej (by decide)).trans ((FR8.i _ _ (by decide)).trans h49)))) (hw0) (li_4) (li_7) (by omega)) fun v Ma23 h23 => ?_
              obtain ⟨em22, g23, e23_em22, e23_k0, e23_k1, e23_k2, e23_k3, e23_k4, p23_0⟩ := h23
              have f23 : Fr W_rp Mr Ma23 := Fr.t (Fr.sI (inW_c (by decide) _) (Fr.sI (by decide) (Fr.sI (by decide) (Fr.m FR8 (by decide))))) (Fr.m g23 (by decide))
              refine rsr (cV_e rfl) ?_
              exact Rs.ok (Or.inr ⟨1, ((pl i8)), f21, f23, ⟨i8, sz20, sn20, uc20, e21_k0, e21_k1, e21_k2, e21_k3, e21_sz20, e21_sn20, e21_uc20, by omega⟩, ⟨em22, s, u8, mu, ut, e23_k0, e23_k1, e23_em22, e23_k2, e23_k3, e23_k4, (g23.i _ _ (by decide)).trans ((sI_ne (by decide)).trans ((sI_nej (by decide)).trans ((sI_nej (by decide)).trans ((FR8.i _ _ (by decide)).trans h49)))), by omega⟩⟩)
            ·
              refine rsl (cV_e (a64_2 (by omega) hS (hC.fr FL8) (hTk.fr (WL := W_cp) FL8 (by decide)) (q8_12) (q8_13) (q8_10) (li_41) (by omega))) ?_
              refine rsl (gtP_q (w := some 77) (ck_65 (hC.fr FL8).sI.sI.sI) (cf_65_17 (hC.fr FL8).sI.sI.sI)) ?_
              refine rsl (alP_q (n := 6) (z := 2) (w := some 80) (ck_77 (hC.fr FL8).sI.sI.sI) (li_2) (by omega) (cf_77_2 (hC.fr FL8).sI.sI.sI)) ?_
              refine rsl (asI_q (n := 1500) (z := x) (y := a8) (ck_80 (hC.fr FL8).sI.sI.sI) (hv0) (by omega) (hy1_8)) ?_
              refine rsl (vC_e (ck_65 (hC.fr FL8).sI.sI.sI.sI)) ?_
              refine RlV (y105 (by omega) (hC.fr FL8).sI.sI.sI.sI (hTk.fr (WL := W_cp) (Fr.sI (inW_c (by decide) _) (Fr.sI (by decide) (Fr.sI (by decide) (Fr.sI (by decide) FL8)))) (by decide)) ((sI_ne (by decide)).trans ((sI_nej (by decide)).trans ((sI_nej (by decide)).trans ((sI_nej (by decide)).trans (q8_12))))) ((sI_ne (by decide)).trans (sI_eq)) ((sI_ne (by decide)).trans ((sI_nej (by decide)).trans ((sI_nej (by decide)).trans (sI_eq)))) ((sI_ne (by decide)).trans ((sI_nej (by decide)).trans (sI_eq))) ((sI_ne (by decide)).trans ((sI_nej (by decide)).trans ((sI_nej (by decide)).trans ((sI_nej (by decide)).trans (q8_9))))) ((sI_ne (by decide)).trans ((sI_nej (by decide)).trans ((sI_nej (by decide)).trans ((sI_nej (by decide)).trans (q8_16))))) ((sI_ne (by decide)).trans ((sI_nej (by decide)).trans ((sI_nej (by decide)).trans ((sI_nej (by decide)).trans (q8_19))))) (hv0) (li_4) (li_7) (by omega)) fun v Ma25 h25 => ?_
              obtain ⟨sz24, sn24, uc24, g25, e25_sz24, e25_sn24, e25_uc24, e25_k0, e25_k1, e25_k2, e25_k3, p25_0, p25_1, p25_2⟩ := h25
              have f25 : Fr W_cp Mc Ma25 := Fr.t (Fr.sI (inW_c (by decide) _) (Fr.sI (by decide) (Fr.sI (by decide) (Fr.sI (by decide) FL8)))) (Fr.m g25 (by decide))
              refine rsl (cV_e rfl) ?_
              refine rsr (if_pos (eqI_p (hy5_8) (li_0) (by omega))) ?_
              refine rsr (jv_e) ?_
              try dsimp only
              refine rsr (gtI_q (w := iI 0) (rk_160 (hR.fr FR8)) (w8_41)) ?_
              refine rsr (if_pos (eqI_p (rfl) (li_0) (by omega))) ?_
              refine rsr (gtI_q (w := iI ((kr (kd i8)))) (rk_160 (hR.fr FR8)) (w8_36)) ?_
              refine rsr (jn_v) ?_
              refine rsr (if_neg (krI_n (k := 41) (rfl) (li_41) (hS.ok i8 (by omega) (by omega)) (by unfold KdOK sgk; omega) (by decide +kernel) (by omega) (by omega))) ?_
              refine rsr (jv_e) ?_
              refine rsr (vC_e (rk_160 (hR.fr FR8))) ?_
              refine rsr (cI_e (ar193_2 (by omega) hS (hR.fr FR8) (w8_36) (w8_37) (w8_41) (li_0) (by omega))) ?_
              refine rsr (if_pos (eqI_p (rfl) (li_0) (by omega))) ?_
              refine rsr (jv_e) ?_
              try dsimp only
              refine rsr (gtP_q (w := some 206) (rk_160 (hR.fr FR8).sI.sI) (rf_60 (hR.fr FR8).sI.sI)) ?_
              refine rsr (asI_q (n := 2000) (z := (u - 1)) (y := a8) (rk_206 (hR.fr FR8).sI.sI) (hw0) (by omega) (hy4_8)) ?_
              refine rsr (vC_e (rk_160 (hR.fr FR8).sI.sI.sI)) ?_
              refine RrV (x202_s (by omega) (hR.fr FR8).sI.sI.sI ((sI_ne (by decide)).trans ((sI_nej (by decide)).trans (sI_eq))) ((sI_ne (by decide)).trans (sI_eq)) ((sI_ne (by decide)).trans ((sI_nej (by decide)).trans ((sI_nej (by decide)).trans (w8_43)))) ((sI_ne (by decide)).trans ((sI_nej (by decide)).trans ((sI_nej (by decide)).trans (w8_51)))) ((sI_ne (by decide)).trans ((sI_nej (by decide)).trans ((sI_nej (by decide)).trans (w8_53)))) ((sI_ne (by decide)).trans ((sI_nej (by decide)).trans ((sI_nej (by decide)).trans ((FR8.i _ _ (by decide)).trans h48)))) ((sI_ne (by decide)).trans ((sI_nej (by decide)).trans ((sI_nej (by decide)).trans ((FR8.i _ _ (by decide)).trans h49)))) (hw0) (li_4) (li_7) (by omega)) fun v Ma27 h27 => ?_
              obtain ⟨em26, g27, e27_em26, e27_k0, e27_k1, e27_k2, e27_k3, e27_k4, p27_0⟩ := h27
              have f27 : Fr W_rp Mr Ma27 := Fr.t (Fr.sI (inW_c (by decide) _) (Fr.sI (by decide) (Fr.sI (by decide) (Fr.m FR8 (by decide))))) (Fr.m g27 (by decide))
              refine rsr (cV_e rfl) ?_
              exact Rs.ok (Or.inr ⟨2, ((pl i8)), f25, f27, ⟨i8, sz24, sn24, uc24, e25_k0, e25_k1, e25_k2, e25_k3, e25_sz24, e25_sn24, e25_uc24, by omega⟩, ⟨em26, s, u8, mu, ut, e27_k0, e27_k1, e27_em26, e27_k2, e27_k3, e27_k4, (g27.i _ _ (by decide)).trans ((sI_ne (by decide)).trans ((sI_nej (by decide)).trans ((sI_nej (by decide)).trans ((FR8.i _ _ (by decide)).trans h49)))), by omega⟩⟩)
        · refine rsl (if_neg (eqI_n (hy2_8) (li_0) (by omega))) ?_
          refine rsl (vC_e (ck_65 (hC.fr FL8))) ?_
          refine rsr (if_neg (eqI_n (hy5_8) (li_0) (by omega))) ?_
          refine rsr (vC_e (rk_160 (hR.fr FR8))) ?_
          refine Rb_VV ((hE (by omega)) _ _ (by omega) (by omega) T n m kd pl E tx ua ut mu _ _ G8 U8 Hl X8 i8 e8 s u8 uc8 _ hS (hCx.fr FL8 FR8) ⟨q8_12, q8_13, q8_10, q8_9, q8_16, q8_19⟩ ⟨w8_36, w8_37, w8_38, w8_41, w8_43, w8_51, w8_53, w8_50, w8_n⟩ ⟨ca8, ra8, lc8, lr8, cu8, ru8⟩ ⟨by omega, by omega, by omega, by omega, by omega, by omega, by omega, by omega, by omega, by omega, by omega, by omega⟩ (vs2 (li_0) (adI (hv1) (li_1)))) fun v Mx28 w Nx28 hx28 => ?_
          rcases hx28 with ⟨i28, e28, u28, uc28, G28, U28, X28, fl28, fr28, sc28, sr28, rw28, bd28, mv28, ag28, au28, ax28⟩ | ⟨F28, P28, fl28, fr28, tc28, tr28⟩
          ·
            have FL28 : Fr W_cp Mc Mx28 := Fr.t FL8 fl28
            have FR28 : Fr W_rx Mr Nx28 := Fr.t FR8 fr28
            obtain ⟨bb28_0, bb28_1, bb28_2, bb28_3, bb28_4, bb28_5, bb28_6, bb28_7, bb28_8, bb28_9, bb28_10, bb28_11⟩ := bd28
            obtain ⟨q28_12, q28_13, q28_10, q28_9, q28_16, q28_19⟩ := sc28
            obtain ⟨w28_36, w28_37, w28_38, w28_41, w28_43, w28_51, w28_53, w28_50, w28_n⟩ := sr28
            obtain ⟨ca28, ra28, lc28, lr28, cu28, ru28⟩ := rw28
            have hk29 := (hS.ok i28 (by omega) (by omega)).r
            refine rsl (cV_e rfl) ?_
            refine rsr (cV_e rfl) ?_
            refine rsl (ltI_q (z := (a8 + 1)) (adI (hy1_8) (li_1))) ?_
            refine rsl (gtI_q (w := iI ((kd i28))) (ck_65 (hC.fr FL28)) (q28_13)) ?_
            refine rsl (jn_v) ?_
            by_cases c30 : ((kd i28)) = 44
            · refine rsl (if_pos (eqI_p (rfl) (li_44) (by omega))) ?_
              refine rsl (jv_e) ?_
              refine rsl (jn_v) ?_
              refine rsl (if_neg (eqI_n (li_1) (li_0) (by omega))) ?_
              refine rsl (vC_e (ck_65 (hC.fr FL28))) ?_
              have hm31 : i28 + 1 < m := hS.more i28 (by omega) (by omega) (by omega)
              refine rsl (cV_e (a63q (by omega) hS (hC.fr FL28) (hTk.fr (WL := W_cp) FL28 (by decide)) (q28_12) (q28_13) (q28_10) (i2 := (i28 + 1)) (by omega) (by omega))) ?_
              have hk32 := (hS.ok (i28 + 1) (by omega) (by omega)).r
              refine rsl (jv_e) ?_
              refine rsl (ltI_q (z := (k8 + 1)) (adI (hy3_8) (li_1))) ?_
              refine rsr (ltI_q (z := (a8 + 1)) (adI (hy4_8) (li_1))) ?_
              refine rsr (gtI_q (w := iI 0) (rk_160 (hR.fr FR28)) (w28_41)) ?_
              refine rsr (jn_v) ?_
              refine rsr (jn_v) ?_
              refine rsr (if_pos (eqI_p (rfl) (li_0) (by omega))) ?_
              refine rsr (gtI_q (w := iI ((kr (kd i28)))) (rk_160 (hR.fr FR28)) (w28_36)) ?_
              refine rsr (if_pos (krI_p (k := 44) (rfl) (li_44) (by omega) (by decide +kernel))) ?_
              refine rsr (jv_e) ?_
              refine rsr (if_neg (eqI_n (li_1) (li_0) (by omega))) ?_
              refine rsr (vC_e (rk_160 (hR.fr FR28))) ?_
              refine RrV (nx_ok (by omega) hS (hR.fr FR28) (hT.fr (W := W_rx) FR28 (by decide) (by decide)) (fun i a b => (Fr.lc (W := W_rx) FR28 _ (by decide) _).trans (hW i a b)) (i := i28) (w28_41) (w28_38) (by omega) (by omega)) fun v Ma34 h34 => ?_
              obtain ⟨g34, e34_k0, e34_k1, e34_k2, p34_0⟩ := h34
              have f34 : Fr W_rx Mr Ma34 := Fr.t FR28 (Fr.m g34 (by decide))
              refine rsr (cV_e rfl) ?_
              exact hgo (m - i28).toNat _ _ (by omega) (Or.inl ⟨(a8 + 1), 1, (k8 + 1), (i28 + 1), rfl, li_1, rfl, rfl, li_1, by omega, by omega, by omega, ⟨e28, u28, uc28, G28, U28, X28, (Fr.sI (by decide) (Fr.sI (by decide) FL28)), f34, ⟨(sI_nej (by decide)).trans (sI_eq), sI_eq, (sI_nej (by decide)).trans ((sI_nej (by decide)).trans (q28_10)), (sI_nej (by decide)).trans ((sI_nej (by decide)).trans (q28_9)), (sI_nej (by decide)).trans ((sI_nej (by decide)).trans (q28_16)), (sI_nej (by decide)).trans ((sI_nej (by decide)).trans (q28_19))⟩, ⟨e34_k0, e34_k1, e34_k2, (g34.i _ _ (by decide)).trans (w28_41), (g34.i _ _ (by decide)).trans (w28_43), (g34.i _ _ (by decide)).trans (w28_51), (g34.i _ _ (by decide)).trans (w28_53), (g34.i _ _ (by decide)).trans (w28_50), p34_0⟩, ⟨(ca28.fr (W := W_c0) (Fr.sI (by decide) (Fr.sI (by decide) Fr.r)) (by decide)), (ra28.fr g34 (by decide)), (lc28.fr (W := W_c0) (Fr.sI (by decide) (Fr.sI (by decide) Fr.r)) (by decide)), (lr28.fr g34 (by decide)), (cu28.fr (W := W_c0) (Fr.sI (by decide) (Fr.sI (by decide) Fr.r)) (by decide)), (ru28.fr g34 (by decide))⟩, ⟨by omega, by omega, by omega, by omega, by omega, by omega, by omega, by omega, by omega, by omega, by omega, by omega⟩, ⟨by omega, by omega, by omega, by omega, by omega, by omega⟩, (Ag.t ag8 ag28 (by omega)), (Ag.t (Ag.t Ag.r au8 (by omega)) au28 (by omega)), (AgL.t ax8 ax28 (by omega))⟩, by omega⟩)
            · refine rsl (if_neg (eqI_n (rfl) (li_44) (by omega))) ?_
              refine rsl (jv_e) ?_
              refine rsl (jn_v) ?_
              refine rsl (if_pos (eqI_p (li_0) (li_0) (by omega))) ?_
              refine rsl (jv_e) ?_
              refine rsl (ltI_q (z := (k8 + 1)) (adI (hy3_8) (li_1))) ?_
              refine rsr (ltI_q (z := (a8 + 1)) (adI (hy4_8) (li_1))) ?_
              refine rsr (gtI_q (w := iI 0) (rk_160 (hR.fr FR28)) (w28_41)) ?_
              refine rsr (jn_v) ?_
              refine rsr (jn_v) ?_
              refine rsr (if_pos (eqI_p (rfl) (li_0) (by omega))) ?_
              refine rsr (gtI_q (w := iI ((kr (kd i28)))) (rk_160 (hR.fr FR28)) (w28_36)) ?_
              refine rsr (if_neg (krI_n (k := 44) (rfl) (li_44) (hS.ok i28 (by omega) (by omega)) (by unfold KdOK sgk; omega) (by decide +kernel) (by omega) (by omega))) ?_
              refine rsr (jv_e) ?_
              refine rsr (jv_e) ?_
              refine rsr (if_pos (eqI_p (li_0) (li_0) (by omega))) ?_
              exact hgo (m - i28 + 1).toNat _ _ (by omega) (Or.inl ⟨(a8 + 1), 0, (k8 + 1), i28, rfl, li_0, rfl, rfl, li_0, by omega, by omega, by omega, ⟨e28, u28, uc28, G28, U28, X28, FL28, FR28, ⟨q28_12, q28_13, q28_10, q28_9, q28_16, q28_19⟩, ⟨w28_36, w28_37, w28_38, w28_41, w28_43, w28_51, w28_53, w28_50, w28_n⟩, ⟨ca28, ra28, lc28, lr28, cu28, ru28⟩, ⟨by omega, by omega, by omega, by omega, by omega, by omega, by omega, by omega, by omega, by omega, by omega, by omega⟩, ⟨by omega, by omega, by omega, by omega, by omega, by omega⟩, (Ag.t ag8 ag28 (by omega)), (Ag.t (Ag.t Ag.r au8 (by omega)) au28 (by omega)), (AgL.t ax8 ax28 (by omega))⟩, by omega⟩)
          ·
            have FL28 : Fr W_cp Mc Mx28 := Fr.t FL8 fl28
            have FR28 : Fr W_rp Mr Nx28 := Fr.t (Fr.m FR8 W_rx_p) fr28
            obtain ⟨ti28, tz28, tn28, tu28, t1328, t1028, t1128, t1228, t928, t1628, t1928, tb28⟩ := tc28
            obtain ⟨re28, rn28, ru28, rm28, rt28, u4128, u4228, u4328, u5128, u5328, u4828, u4928, ub28⟩ := tr28
            refine rsl (cV_e rfl) ?_
            refine rsr (cV_e rfl) ?_
            refine rsl (ltI_q (z := (a8 + 1)) (adI (hy1_8) (li_1))) ?_
            refine rsl (gtI_q (w := iI 2) (ck_65 (hC.fr FL28)) (t1328)) ?_
            refine rsl (jn_v) ?_
            refine rsl (if_neg (eqI_n (rfl) (li_44) (by omega))) ?_
            refine rsl (jv_e) ?_
            refine rsl (jn_v) ?_
            refine rsl (if_pos (eqI_p (li_0) (li_0) (by omega))) ?_
            refine rsl (jv_e) ?_
            refine rsl (ltI_q (z := (k8 + 1)) (adI (hy3_8) (li_1))) ?_
            refine rsr (ltI_q (z := (a8 + 1)) (adI (hy4_8) (li_1))) ?_
            refine rsr (gtI_q (w := iI F28) (rk_160 (hR.fr FR28)) (u4128)) ?_
            refine rsr (jn_v) ?_
            refine rsr (jn_v) ?_
            refine rsr (if_neg (eqI_n (rfl) (li_0) (by omega))) ?_
            refine rsr (jv_e) ?_
            refine rsr (jv_e) ?_
            refine rsr (if_pos (eqI_p (li_0) (li_0) (by omega))) ?_
            exact hgo 0 _ _ (by omega) (Or.inr ⟨(a8 + 1), (a8 + 1), (k8 + 1), F28, P28, rfl, li_0, rfl, rfl, li_0, by omega, FL28, FR28, ⟨ti28, tz28, tn28, tu28, t1328, t1028, t1128, t1228, t928, t1628, t1928, by omega⟩, ⟨re28, rn28, ru28, rm28, rt28, u4128, u4228, u4328, u5128, u5328, u4828, u4928, by omega⟩, rfl⟩)
      ·
        obtain ⟨a8, a28, k8, F8, P8, hy1_8, hy2_8, hy3_8, hy4_8, hy5_8, ⟨hka8, hkb8⟩, FL8, FR8, tc8, tr8, hm8⟩ := hq
        obtain ⟨ti8, tz8, tn8, tu8, t138, t108, t118, t128, t98, t168, t198, tb8⟩ := tc8
        obtain ⟨re8, rn8, ru8, rm8, rt8, u418, u428, u438, u518, u538, u488, u498, ub8⟩ := tr8
        unfold c97_28 c204_35
        refine rsl (if_neg (leI_n (li_3000) (hy3_8) (by omega))) ?_
        refine rsl (if_pos (eqI_p (hy2_8) (li_0) (by omega))) ?_
        refine rsl (jv_e) ?_
        try dsimp only
        refine rsl (vC_e (ck_65 (hC.fr FL8))) ?_
        refine RlV (y64 (by omega) (hC.fr FL8) (hTk.fr (WL := W_cp) FL8 (by decide)) (t128) (t138) (t108) (t118) (t98) (t168) (t198) (li_41) (by omega)) fun v Ma36 h36 => ?_
        obtain ⟨sz35, sn35, uc35, g36, e36_sz35, e36_sn35, e36_uc35, e36_k0, e36_k1, e36_k2, e36_k3, p36_0, p36_1, p36_2⟩ := h36
        have f36 : Fr W_cp Mc Ma36 := Fr.t FL8 (Fr.m g36 (by decide))
        refine rsl (cV_e rfl) ?_
        refine rsl (gtP_q (w := some 77) (ck_65 (hC.fr f36)) (cf_65_17 (hC.fr f36))) ?_
        refine rsl (alP_q (n := 6) (z := 2) (w := some 80) (ck_77 (hC.fr f36)) (li_2) (by omega) (cf_77_2 (hC.fr f36))) ?_
        refine rsl (asI_q (n := 1500) (z := x) (y := a8) (ck_80 (hC.fr f36)) (hv0) (by omega) (hy1_8)) ?_
        refine rsl (vC_e (ck_65 (hC.fr f36).sI)) ?_
        refine RlV (y105 (by omega) (hC.fr f36).sI (hTk.fr (WL := W_cp) (Fr.sI (inW_c (by decide) _) f36) (by decide)) ((sI_ne (by decide)).trans (e36_k3)) ((sI_ne (by decide)).trans (e36_k0)) ((sI_ne (by decide)).trans (e36_k1)) ((sI_ne (by decide)).trans (e36_k2)) ((sI_ne (by decide)).trans (e36_sz35)) ((sI_ne (by decide)).trans (e36_sn35)) ((sI_ne (by decide)).trans (e36_uc35)) (hv0) (li_4) (li_7) (by omega)) fun v Ma38 h38 => ?_
        obtain ⟨sz37, sn37, uc37, g38, e38_sz37, e38_sn37, e38_uc37, e38_k0, e38_k1, e38_k2, e38_k3, p38_0, p38_1, p38_2⟩ := h38
        have f38 : Fr W_cp Mc Ma38 := Fr.t (Fr.sI (inW_c (by decide) _) f36) (Fr.m g38 (by decide))
        refine rsl (cV_e rfl) ?_
        refine rsr (if_pos (eqI_p (hy5_8) (li_0) (by omega))) ?_
        refine rsr (jv_e) ?_
        try dsimp only
        refine rsr (gtI_q (w := iI F8) (rk_160 (hR.fr FR8)) (u418)) ?_
        refine rsr (if_neg (eqI_n (rfl) (li_0) (by omega))) ?_
        refine rsr (jv_e) ?_
        try dsimp only
        refine rsr (gtP_q (w := some 206) (rk_160 (hR.fr FR8)) (rf_60 (hR.fr FR8))) ?_
        refine rsr (asI_q (n := 2000) (z := (u - 1)) (y := a28) (rk_206 (hR.fr FR8)) (hw0) (by omega) (hy4_8)) ?_
        refine rsr (vC_e (rk_160 (hR.fr FR8).sI)) ?_
        refine RrV (x202_s (by omega) (hR.fr FR8).sI ((sI_ne (by decide)).trans (u418)) ((sI_ne (by decide)).trans (u428)) ((sI_ne (by decide)).trans (u438)) ((sI_ne (by decide)).trans (u518)) ((sI_ne (by decide)).trans (u538)) ((sI_ne (by decide)).trans (u488)) ((sI_ne (by decide)).trans (u498)) (hw0) (li_4) (li_7) (by omega)) fun v Ma40 h40 => ?_
        obtain ⟨em39, g40, e40_em39, e40_k0, e40_k1, e40_k2, e40_k3, e40_k4, p40_0⟩ := h40
        have f40 : Fr W_rp Mr Ma40 := Fr.t (Fr.sI (inW_c (by decide) _) FR8) (Fr.m g40 (by decide))
        refine rsr (cV_e rfl) ?_
        exact Rs.ok (Or.inr ⟨F8, P8, f38, f40, ⟨ti8, sz37, sn37, uc37, e38_k0, e38_k1, e38_k2, e38_k3, e38_sz37, e38_sn37, e38_uc37, by omega⟩, ⟨em39, rn8, ru8, rm8, rt8, e40_k0, e40_k1, e40_em39, e40_k2, e40_k3, e40_k4, (g40.i _ _ (by decide)).trans ((sI_ne (by decide)).trans (u498)), by omega⟩⟩)
    · refine rsl (if_neg (eqI_n (rfl) (li_41) (by omega))) ?_
      refine rsl (jv_e) ?_
      refine rsl (jn_v) ?_
      refine rsr (vC_e (rk_160 hR)) ?_
      refine rsr (cI_e (ar200_p (by omega) hS hR (wa_36) (wa_37) (wa_41) (wa_50) (by omega))) ?_
      refine rsr (jn_v) ?_
      refine rsr (if_neg (eqI_n (rfl) (li_0) (by omega))) ?_
      refine rsr (vC_e (rk_160 hR.sI)) ?_
      refine RrV (nx_ok (by omega) hS hR.sI (hT.fr (W := W_rx) (Fr.sI (by decide) Fr.r) (by decide) (by decide)) (fun i a b => (Fr.lc (W := W_rx) (Fr.sI (by decide) Fr.r) _ (by decide) _).trans (hW i a b)) (i := i) ((sI_nej (by decide)).trans (wa_41)) ((sI_nej (by decide)).trans (wa_38)) (by omega) (by omega)) fun v Ma42 h42 => ?_
      obtain ⟨g42, e42_k0, e42_k1, e42_k2, p42_0⟩ := h42
      have f42 : Fr W_rx Mr Ma42 := Fr.t (Fr.sI (by decide) Fr.r) (Fr.m g42 (by decide))
      refine rsr (cV_e rfl) ?_
      refine rsr (gtI_q (w := iI 0) (rk_160 (hR.fr f42)) ((g42.i _ _ (by decide)).trans ((sI_nej (by decide)).trans (wa_41)))) ?_
      refine rsr (jn_v) ?_
      refine rsr (jn_v) ?_
      refine rsr (if_pos (eqI_p (rfl) (li_0) (by omega))) ?_
      refine rsr (gtI_q (w := iI ((kr (kd (i + 1))))) (rk_160 (hR.fr f42)) (e42_k0)) ?_
      refine rsr (if_neg (krI_n (k := 41) (rfl) (li_41) (hS.ok (i + 1) (by omega) (by omega)) (by unfold KdOK sgk; omega) (by decide +kernel) (by omega) (by omega))) ?_
      refine rsr (jv_e) ?_
      refine rsr (jn_v) ?_
      refine Rb_lp (fun m2 q t => (∃ (a mo k i2 : Int), q.1 = iI a ∧ q.2.1 = iI mo ∧ q.2.2.1 = iI k ∧ t.1 = iI a ∧ t.2.1 = iI mo ∧ (0 ≤ k ∧ k ≤ i2) ∧ (0 ≤ mo ∧ mo ≤ 1) ∧ (0 ≤ a ∧ a ≤ 3000 + k) ∧ PK m kd pl E tx Mc Mr G U Hl X i e s u uc (dp + 1) q.2.2.2 t.2.2 i2 ∧ (m2 : Int) = m - i2 + 1) ∨ ∃ (a a2 k F P : Int), q.1 = iI a ∧ q.2.1 = iI 0 ∧ q.2.2.1 = iI k ∧ t.1 = iI a2 ∧ t.2.1 = iI 0 ∧ (0 ≤ k ∧ k ≤ 1500) ∧ Fr W_cp Mc q.2.2.2 ∧ Fr W_rp Mr t.2.2 ∧ FTc m F P q.2.2.2 ∧ FTr (2500 - 30 * dp - 25) F P t.2.2 ∧ m2 = 0) (fun m2 q t gl gr hq hgo => ?_) (m - i).toNat _ _ _ _ (by omega) (by omega) (Or.inl ⟨0, 1, 0, (i + 1), li_0, li_1, li_0, li_0, li_1, by omega, by omega, by omega, ⟨e, u, uc, G, U, X, (Fr.sI (by decide) (Fr.sI (by decide) Fr.r)), f42, ⟨(sI_nej (by decide)).trans (sI_eq), sI_eq, (sI_nej (by decide)).trans ((sI_nej (by decide)).trans (qa_10)), (sI_nej (by decide)).trans ((sI_nej (by decide)).trans (qa_9)), (sI_nej (by decide)).trans ((sI_nej (by decide)).trans (qa_16)), (sI_nej (by decide)).trans ((sI_nej (by decide)).trans (qa_19))⟩, ⟨e42_k0, e42_k1, e42_k2, (g42.i _ _ (by decide)).trans ((sI_nej (by decide)).trans (wa_41)), (g42.i _ _ (by decide)).trans ((sI_nej (by decide)).trans (wa_43)), (g42.i _ _ (by decide)).trans ((sI_nej (by decide)).trans (wa_51)), (g42.i _ _ (by decide)).trans ((sI_nej (by decide)).trans (wa_53)), (g42.i _ _ (by decide)).trans (sI_eq), p42_0⟩, ⟨(caa.fr (W := W_c0) (Fr.sI (by decide) (Fr.sI (by decide) Fr.r)) (by decide)), ((raa.fr (W := W_r0) (Fr.sI (by decide) Fr.r) (by decide)).fr g42 (by decide)), (lca.fr (W := W_c0) (Fr.sI (by decide) (Fr.sI (by decide) Fr.r)) (by decide)), ((lra.fr (W := W_r0) (Fr.sI (by decide) Fr.r) (by decide)).fr g42 (by decide)), (cua.fr (W := W_c0) (Fr.sI (by decide) (Fr.sI (by decide) Fr.r)) (by decide)), ((rua.fr (W := W_r0) (Fr.sI (by decide) Fr.r) (by decide)).fr g42 (by decide))⟩, ⟨by omega, by omega, by omega, by omega, by omega, by omega, by omega, by omega, by omega, by omega, by omega, by omega⟩, ⟨by omega, by omega, by omega, by omega, by omega, by omega⟩, Ag.r, Ag.r, AgL.r⟩, by omega⟩)
      obtain ⟨qa43, qb43, qc43, qm43⟩ := q
      obtain ⟨ta43, tb43, tm43⟩ := t
      dsimp only at hq
      try dsimp only
      rcases hq with hq | hq
      ·
        obtain ⟨a43, mo43, k43, i43, hy1_43, hy2_43, hy3_43, hy4_43, hy5_43, ⟨hka43, hkb43⟩, ⟨hma43, hmb43⟩, ⟨haa43, hab43⟩, ⟨e43, u43, uc43, G43, U43, X43, FL43, FR43, sc43, sr43, rw43, bd43, ⟨mv43_0, mv43_1, mv43_2, mv43_3, mv43_4, mv43_5⟩, ag43, au43, ax43⟩, hm43⟩ := hq
        obtain ⟨bb43_0, bb43_1, bb43_2, bb43_3, bb43_4, bb43_5, bb43_6, bb43_7, bb43_8, bb43_9, bb43_10, bb43_11⟩ := bd43
        obtain ⟨q43_12, q43_13, q43_10, q43_9, q43_16, q43_19⟩ := sc43
        obtain ⟨w43_36, w43_37, w43_38, w43_41, w43_43, w43_51, w43_53, w43_50, w43_n⟩ := sr43
        obtain ⟨ca43, ra43, lc43, lr43, cu43, ru43⟩ := rw43
        have hk44 := (hS.ok i43 (by omega) (by omega)).r
        unfold c97_28 c204_35
        refine rsl (if_neg (leI_n (li_3000) (hy3_43) (by omega))) ?_
        by_cases c45 : mo43 = 0
        · refine rsl (if_pos (eqI_p (hy2_43) (li_0) (by omega))) ?_
          refine rsl (jv_e) ?_
          try dsimp only
          refine rsl (vC_e (ck_65 (hC.fr FL43))) ?_
          by_cases c46 : ((kd i43)) = 41
          ·
            have hm47 : i43 + 1 < m := hS.more i43 (by omega) (by omega) (by omega)
            refine rsl (cV_e (a64q (by omega) hS (hC.fr FL43) (hTk.fr (WL := W_cp) FL43 (by decide)) (q43_12) (q43_13) (q43_10) (li_41) (i2 := (i43 + 1)) (by omega) (by omega))) ?_
            have hk48 := (hS.ok (i43 + 1) (by omega) (by omega)).r
            refine rsl (gtP_q (w := some 77) (ck_65 (hC.fr FL43).sI.sI) (cf_65_17 (hC.fr FL43).sI.sI)) ?_
            refine rsl (alP_q (n := 6) (z := 2) (w := some 80) (ck_77 (hC.fr FL43).sI.sI) (li_2) (by omega) (cf_77_2 (hC.fr FL43).sI.sI)) ?_
            refine rsl (asI_q (n := 1500) (z := x) (y := a43) (ck_80 (hC.fr FL43).sI.sI) (hv0) (by omega) (hy1_43)) ?_
            refine rsl (vC_e (ck_65 (hC.fr FL43).sI.sI.sI)) ?_
            refine RlV (a105 (by omega) (hC.fr FL43).sI.sI.sI ((sI_ne (by decide)).trans ((sI_nej (by decide)).trans ((sI_nej (by decide)).trans (q43_9)))) (hv0) (li_4) (li_7) (by omega)) fun v Ma50 h50 => ?_
            obtain ⟨g50, e50_k0, p50_0, p50_1⟩ := h50
            have f50 : Fr W_cp Mc Ma50 := Fr.t (Fr.sI (inW_c (by decide) _) (Fr.sI (by decide) (Fr.sI (by decide) FL43))) (Fr.m g50 (by decide))
            refine rsl (cV_e rfl) ?_
            refine rsr (if_pos (eqI_p (hy5_43) (li_0) (by omega))) ?_
            refine rsr (jv_e) ?_
            try dsimp only
            refine rsr (gtI_q (w := iI 0) (rk_160 (hR.fr FR43)) (w43_41)) ?_
            refine rsr (if_pos (eqI_p (rfl) (li_0) (by omega))) ?_
            refine rsr (gtI_q (w := iI ((kr (kd i43)))) (rk_160 (hR.fr FR43)) (w43_36)) ?_
            refine rsr (jn_v) ?_
            refine rsr (if_pos (krI_p (k := 41) (rfl) (li_41) (by omega) (by decide +kernel))) ?_
            refine rsr (jv_e) ?_
            refine rsr (vC_e (rk_160 (hR.fr FR43))) ?_
            refine rsr (cI_e (ar193_p (by omega) hS (hR.fr FR43) (w43_36) (w43_37) (w43_41) (li_1) (by omega))) ?_
            refine rsr (if_neg (eqI_n (rfl) (li_0) (by omega))) ?_
            refine rsr (gtI_q (w := iI (dp + 1)) (rk_160 (hR.fr FR43)) (w43_50)) ?_
            refine rsr (ptI_q (z := dp) (rk_160 (hR.fr FR43)) (cvI (sbI (rfl) (li_1)) (by omega))) ?_
            refine rsr (vC_e (rk_160 (hR.fr FR43).sI)) ?_
            refine RrV (nx_ok (by omega) hS (hR.fr FR43).sI (hT.fr (W := W_rx) (Fr.sI (by decide) FR43) (by decide) (by decide)) (fun i a b => (Fr.lc (W := W_rx) (Fr.sI (by decide) FR43) _ (by decide) _).trans (hW i a b)) (i := i43) ((sI_nej (by decide)).trans (w43_41)) ((sI_nej (by decide)).trans (w43_38)) (by omega) (by omega)) fun v Ma52 h52 => ?_
            obtain ⟨g52, e52_k0, e52_k1, e52_k2, p52_0⟩ := h52
            have f52 : Fr W_rx Mr Ma52 := Fr.t (Fr.sI (by decide) FR43) (Fr.m g52 (by decide))
            refine rsr (cV_e rfl) ?_
            refine rsr (jv_e) ?_
            try dsimp only
            refine rsr (gtP_q (w := some 206) (rk_160 (hR.fr f52)) (rf_60 (hR.fr f52))) ?_
            refine rsr (asI_q (n := 2000) (z := (u - 1)) (y := a43) (rk_206 (hR.fr f52)) (hw0) (by omega) (hy4_43)) ?_
            refine rsr (vC_e (rk_160 (hR.fr f52).sI)) ?_
            refine RrV (a202 (by omega) (hR.fr f52).sI ((sI_ne (by decide)).trans ((g52.i _ _ (by decide)).trans ((sI_nej (by decide)).trans (w43_43)))) ((sI_ne (by decide)).trans ((g52.i _ _ (by decide)).trans ((sI_nej (by decide)).trans ((FR43.i _ _ (by decide)).trans h49)))) ((sI_ne (by decide)).trans ((g52.i _ _ (by decide)).trans ((sI_nej (by decide)).trans ((FR43.i _ _ (by decide)).trans h48)))) (hw0) (li_4) (li_7) (by omega)) fun v Ma53 h53 => ?_
            obtain ⟨g53, e53_k0, p53_0, p53_1⟩ := h53
            have f53 : Fr W_rx Mr Ma53 := Fr.t (Fr.sI (inW_c (by decide) _) f52) (Fr.m g53 (by decide))
            refine rsr (cV_e rfl) ?_
            exact Rs.ok (Or.inl ⟨(i43 + 1), (e43 + 1), u43, uc43, (pu G43 e43 [7, 0, -2, (u - 1), ut, mu, a43]), (ps (pq (pq U43 9 (u - 1) a43) 5 (u - 1) a43) (u - 1) 4 4 e43), X43, f50, f53, ⟨(g50.i _ _ (by decide)).trans ((sI_ne (by decide)).trans ((sI_nej (by decide)).trans (sI_eq))), (g50.i _ _ (by decide)).trans ((sI_ne (by decide)).trans (sI_eq)), (g50.i _ _ (by decide)).trans ((sI_ne (by decide)).trans ((sI_nej (by decide)).trans ((sI_nej (by decide)).trans (q43_10)))), e50_k0, (g50.i _ _ (by decide)).trans ((sI_ne (by decide)).trans ((sI_nej (by decide)).trans ((sI_nej (by decide)).trans (q43_16)))), (g50.i _ _ (by decide)).trans ((sI_ne (by decide)).trans ((sI_nej (by decide)).trans ((sI_nej (by decide)).trans (q43_19))))⟩, ⟨(g53.i _ _ (by decide)).trans ((sI_ne (by decide)).trans (e52_k0)), (g53.i _ _ (by decide)).trans ((sI_ne (by decide)).trans (e52_k1)), (g53.i _ _ (by decide)).trans ((sI_ne (by decide)).trans (e52_k2)), (g53.i _ _ (by decide)).trans ((sI_ne (by decide)).trans ((g52.i _ _ (by decide)).trans ((sI_nej (by decide)).trans (w43_41)))), e53_k0, (g53.i _ _ (by decide)).trans ((sI_ne (by decide)).trans ((g52.i _ _ (by decide)).trans ((sI_nej (by decide)).trans (w43_51)))), (g53.i _ _ (by decide)).trans ((sI_ne (by decide)).trans ((g52.i _ _ (by decide)).trans ((sI_nej (by decide)).trans (w43_53)))), (g53.i _ _ (by decide)).trans ((sI_ne (by decide)).trans ((g52.i _ _ (by decide)).trans (sI_eq))), ((p52_0.fr (W := W_r1) (Fr.sI (inW_c (by decide) _) Fr.r) (by decide) (by decide)).fr g53 (by decide) (by decide))⟩, ⟨(CA1.em (ca43.fr (W := W_c1) (Fr.sI (inW_c (by decide) _) (Fr.sI (by decide) (Fr.sI (by decide) Fr.r))) (by decide)) (by omega) p50_0 rfl), (RA1.em (((ra43.fr (W := W_r0) (Fr.sI (by decide) Fr.r) (by decide)).fr g52 (by decide)).fr (W := W_r1) (Fr.sI (inW_c (by decide) _) Fr.r) (by decide)) (by omega) p53_0 rfl), ((lc43.fr (W := W_c1) (Fr.sI (inW_c (by decide) _) (Fr.sI (by decide) (Fr.sI (by decide) Fr.r))) (by decide)).fr g50 (by decide)), ((((lr43.fr (W := W_r0) (Fr.sI (by decide) Fr.r) (by decide)).fr g52 (by decide)).fr (W := W_r1) (Fr.sI (inW_c (by decide) _) Fr.r) (by decide)).fr g53 (by decide)), (CU.set (b := 4) (CU.args (v := a43) (cu43.fr (W := W_c0) (Fr.sI (by decide) (Fr.sI (by decide) Fr.r)) (by decide)) ⟨by omega, by omega⟩ ((au43 0 _ (by omega)).trans hux)) ⟨by omega, by omega⟩ ((pq_k (by decide)).trans ((pq_k (by decide)).trans ((au43 0 _ (by omega)).trans hux))) p50_1 g50 (by decide)), (RU.set (RU.args (v := a43) ((ru43.fr (W := W_r0) (Fr.sI (by decide) Fr.r) (by decide)).fr g52 (by decide)) ⟨by omega, by omega⟩) ⟨by omega, by omega⟩ p53_1 g53 (by decide))⟩, ⟨by omega, by omega, by omega, by omega, by omega, by omega, by omega, by omega, by omega, by omega, by omega, by omega⟩, ⟨by omega, by omega, by omega, by omega, by omega, by omega⟩, (Ag.pu ag43 (by omega)), (Ag.ps (Ag.pq (Ag.pq (Ag.t Ag.r au43 (by omega)) (by omega)) (by omega)) (by omega)), ax43⟩)
          ·
            by_cases c54 : ((kd i43)) = 1
            ·
              refine rsl (cV_e (a64_1 (by omega) hS (hC.fr FL43) (hTk.fr (WL := W_cp) FL43 (by decide)) (q43_12) (q43_13) (q43_10) (li_41) (by omega))) ?_
              refine rsl (gtP_q (w := some 77) (ck_65 (hC.fr FL43).sI.sI.sI) (cf_65_17 (hC.fr FL43).sI.sI.sI)) ?_
              refine rsl (alP_q (n := 6) (z := 2) (w := some 80) (ck_77 (hC.fr FL43).sI.sI.sI) (li_2) (by omega) (cf_77_2 (hC.fr FL43).sI.sI.sI)) ?_
              refine rsl (asI_q (n := 1500) (z := x) (y := a43) (ck_80 (hC.fr FL43).sI.sI.sI) (hv0) (by omega) (hy1_43)) ?_
              refine rsl (vC_e (ck_65 (hC.fr FL43).sI.sI.sI.sI)) ?_
              refine RlV (y105 (by omega) (hC.fr FL43).sI.sI.sI.sI (hTk.fr (WL := W_cp) (Fr.sI (inW_c (by decide) _) (Fr.sI (by decide) (Fr.sI (by decide) (Fr.sI (by decide) FL43)))) (by decide)) ((sI_ne (by decide)).trans ((sI_nej (by decide)).trans ((sI_nej (by decide)).trans ((sI_nej (by decide)).trans (q43_12))))) ((sI_ne (by decide)).trans (sI_eq)) ((sI_ne (by decide)).trans ((sI_nej (by decide)).trans ((sI_nej (by decide)).trans (sI_eq)))) ((sI_ne (by decide)).trans ((sI_nej (by decide)).trans (sI_eq))) ((sI_ne (by decide)).trans ((sI_nej (by decide)).trans ((sI_nej (by decide)).trans ((sI_nej (by decide)).trans (q43_9))))) ((sI_ne (by decide)).trans ((sI_nej (by decide)).trans ((sI_nej (by decide)).trans ((sI_nej (by decide)).trans (q43_16))))) ((sI_ne (by decide)).trans ((sI_nej (by decide)).trans ((sI_nej (by decide)).trans ((sI_nej (by decide)).trans (q43_19))))) (hv0) (li_4) (li_7) (by omega)) fun v Ma56 h56 => ?_
              obtain ⟨sz55, sn55, uc55, g56, e56_sz55, e56_sn55, e56_uc55, e56_k0, e56_k1, e56_k2, e56_k3, p56_0, p56_1, p56_2⟩ := h56
              have f56 : Fr W_cp Mc Ma56 := Fr.t (Fr.sI (inW_c (by decide) _) (Fr.sI (by decide) (Fr.sI (by decide) (Fr.sI (by decide) FL43)))) (Fr.m g56 (by decide))
              refine rsl (cV_e rfl) ?_
              refine rsr (if_pos (eqI_p (hy5_43) (li_0) (by omega))) ?_
              refine rsr (jv_e) ?_
              try dsimp only
              refine rsr (gtI_q (w := iI 0) (rk_160 (hR.fr FR43)) (w43_41)) ?_
              refine rsr (if_pos (eqI_p (rfl) (li_0) (by omega))) ?_
              refine rsr (gtI_q (w := iI ((kr (kd i43)))) (rk_160 (hR.fr FR43)) (w43_36)) ?_
              refine rsr (jn_v) ?_
              refine rsr (if_neg (krI_n (k := 41) (rfl) (li_41) (hS.ok i43 (by omega) (by omega)) (by unfold KdOK sgk; omega) (by decide +kernel) (by omega) (by omega))) ?_
              refine rsr (jv_e) ?_
              refine rsr (vC_e (rk_160 (hR.fr FR43))) ?_
              refine rsr (cI_e (ar193_1 (by omega) hS (hR.fr FR43) (w43_36) (w43_37) (w43_41) (li_0) (by omega))) ?_
              refine rsr (if_pos (eqI_p (rfl) (li_0) (by omega))) ?_
              refine rsr (jv_e) ?_
              try dsimp only
              refine rsr (gtP_q (w := some 206) (rk_160 (hR.fr FR43).sI.sI) (rf_60 (hR.fr FR43).sI.sI)) ?_
              refine rsr (asI_q (n := 2000) (z := (u - 1)) (y := a43) (rk_206 (hR.fr FR43).sI.sI) (hw0) (by omega) (hy4_43)) ?_
              refine rsr (vC_e (rk_160 (hR.fr FR43).sI.sI.sI)) ?_
              refine RrV (x202_s (by omega) (hR.fr FR43).sI.sI.sI ((sI_ne (by decide)).trans ((sI_nej (by decide)).trans (sI_eq))) ((sI_ne (by decide)).trans (sI_eq)) ((sI_ne (by decide)).trans ((sI_nej (by decide)).trans ((sI_nej (by decide)).trans (w43_43)))) ((sI_ne (by decide)).trans ((sI_nej (by decide)).trans ((sI_nej (by decide)).trans (w43_51)))) ((sI_ne (by decide)).trans ((sI_nej (by decide)).trans ((sI_nej (by decide)).trans (w43_53)))) ((sI_ne (by decide)).trans ((sI_nej (by decide)).trans ((sI_nej (by decide)).trans ((FR43.i _ _ (by decide)).trans h48)))) ((sI_ne (by decide)).trans ((sI_nej (by decide)).trans ((sI_nej (by decide)).trans ((FR43.i _ _ (by decide)).trans h49)))) (hw0) (li_4) (li_7) (by omega)) fun v Ma58 h58 => ?_
              obtain ⟨em57, g58, e58_em57, e58_k0, e58_k1, e58_k2, e58_k3, e58_k4, p58_0⟩ := h58
              have f58 : Fr W_rp Mr Ma58 := Fr.t (Fr.sI (inW_c (by decide) _) (Fr.sI (by decide) (Fr.sI (by decide) (Fr.m FR43 (by decide))))) (Fr.m g58 (by decide))
              refine rsr (cV_e rfl) ?_
              exact Rs.ok (Or.inr ⟨1, ((pl i43)), f56, f58, ⟨i43, sz55, sn55, uc55, e56_k0, e56_k1, e56_k2, e56_k3, e56_sz55, e56_sn55, e56_uc55, by omega⟩, ⟨em57, s, u43, mu, ut, e58_k0, e58_k1, e58_em57, e58_k2, e58_k3, e58_k4, (g58.i _ _ (by decide)).trans ((sI_ne (by decide)).trans ((sI_nej (by decide)).trans ((sI_nej (by decide)).trans ((FR43.i _ _ (by decide)).trans h49)))), by omega⟩⟩)
            ·
              refine rsl (cV_e (a64_2 (by omega) hS (hC.fr FL43) (hTk.fr (WL := W_cp) FL43 (by decide)) (q43_12) (q43_13) (q43_10) (li_41) (by omega))) ?_
              refine rsl (gtP_q (w := some 77) (ck_65 (hC.fr FL43).sI.sI.sI) (cf_65_17 (hC.fr FL43).sI.sI.sI)) ?_
              refine rsl (alP_q (n := 6) (z := 2) (w := some 80) (ck_77 (hC.fr FL43).sI.sI.sI) (li_2) (by omega) (cf_77_2 (hC.fr FL43).sI.sI.sI)) ?_
              refine rsl (asI_q (n := 1500) (z := x) (y := a43) (ck_80 (hC.fr FL43).sI.sI.sI) (hv0) (by omega) (hy1_43)) ?_
              refine rsl (vC_e (ck_65 (hC.fr FL43).sI.sI.sI.sI)) ?_
              refine RlV (y105 (by omega) (hC.fr FL43).sI.sI.sI.sI (hTk.fr (WL := W_cp) (Fr.sI (inW_c (by decide) _) (Fr.sI (by decide) (Fr.sI (by decide) (Fr.sI (by decide) FL43)))) (by decide)) ((sI_ne (by decide)).trans ((sI_nej (by decide)).trans ((sI_nej (by decide)).trans ((sI_nej (by decide)).trans (q43_12))))) ((sI_ne (by decide)).trans (sI_eq)) ((sI_ne (by decide)).trans ((sI_nej (by decide)).trans ((sI_nej (by decide)).trans (sI_eq)))) ((sI_ne (by decide)).trans ((sI_nej (by decide)).trans (sI_eq))) ((sI_ne (by decide)).trans ((sI_nej (by decide)).trans ((sI_nej (by decide)).trans ((sI_nej (by decide)).trans (q43_9))))) ((sI_ne (by decide)).trans ((sI_nej (by decide)).trans ((sI_nej (by decide)).trans ((sI_nej (by decide)).trans (q43_16))))) ((sI_ne (by decide)).trans ((sI_nej (by decide)).trans ((sI_nej (by decide)).trans ((sI_nej (by decide)).trans (q43_19))))) (hv0) (li_4) (li_7) (by omega)) fun v Ma60 h60 => ?_
              obtain ⟨sz59, sn59, uc59, g60, e60_sz59, e60_sn59, e60_uc59, e60_k0, e60_k1, e60_k2, e60_k3, p60_0, p60_1, p60_2⟩ := h60
              have f60 : Fr W_cp Mc Ma60 := Fr.t (Fr.sI (inW_c (by decide) _) (Fr.sI (by decide) (Fr.sI (by decide) (Fr.sI (by decide) FL43)))) (Fr.m g60 (by decide))
              refine rsl (cV_e rfl) ?_
              refine rsr (if_pos (eqI_p (hy5_43) (li_0) (by omega))) ?_
              refine rsr (jv_e) ?_
              try dsimp only
              refine rsr (gtI_q (w := iI 0) (rk_160 (hR.fr FR43)) (w43_41)) ?_
              refine rsr (if_pos (eqI_p (rfl) (li_0) (by omega))) ?_
              refine rsr (gtI_q (w := iI ((kr (kd i43)))) (rk_160 (hR.fr FR43)) (w43_36)) ?_
              refine rsr (jn_v) ?_
              refine rsr (if_neg (krI_n (k := 41) (rfl) (li_41) (hS.ok i43 (by omega) (by omega)) (by unfold KdOK sgk; omega) (by decide +kernel) (by omega) (by omega))) ?_
              refine rsr (jv_e) ?_
              refine rsr (vC_e (rk_160 (hR.fr FR43))) ?_
              refine rsr (cI_e (ar193_2 (by omega) hS (hR.fr FR43) (w43_36) (w43_37) (w43_41) (li_0) (by omega))) ?_
              refine rsr (if_pos (eqI_p (rfl) (li_0) (by omega))) ?_
              refine rsr (jv_e) ?_
              try dsimp only
              refine rsr (gtP_q (w := some 206) (rk_160 (hR.fr FR43).sI.sI) (rf_60 (hR.fr FR43).sI.sI)) ?_
              refine rsr (asI_q (n := 2000) (z := (u - 1)) (y := a43) (rk_206 (hR.fr FR43).sI.sI) (hw0) (by omega) (hy4_43)) ?_
              refine rsr (vC_e (rk_160 (hR.fr FR43).sI.sI.sI)) ?_
              refine RrV (x202_s (by omega) (hR.fr FR43).sI.sI.sI ((sI_ne (by decide)).trans ((sI_nej (by decide)).trans (sI_eq))) ((sI_ne (by decide)).trans (sI_eq)) ((sI_ne (by decide)).trans ((sI_nej (by decide)).trans ((sI_nej (by decide)).trans (w43_43)))) ((sI_ne (by decide)).trans ((sI_nej (by decide)).trans ((sI_nej (by decide)).trans (w43_51)))) ((sI_ne (by decide)).trans ((sI_nej (by decide)).trans ((sI_nej (by decide)).trans (w43_53)))) ((sI_ne (by decide)).trans ((sI_nej (by decide)).trans ((sI_nej (by decide)).trans ((FR43.i _ _ (by decide)).trans h48)))) ((sI_ne (by decide)).trans ((sI_nej (by decide)).trans ((sI_nej (by decide)).trans ((FR43.i _ _ (by decide)).trans h49)))) (hw0) (li_4) (li_7) (by omega)) fun v Ma62 h62 => ?_
              obtain ⟨em61, g62, e62_em61, e62_k0, e62_k1, e62_k2, e62_k3, e62_k4, p62_0⟩ := h62
              have f62 : Fr W_rp Mr Ma62 := Fr.t (Fr.sI (inW_c (by decide) _) (Fr.sI (by decide) (Fr.sI (by decide) (Fr.m FR43 (by decide))))) (Fr.m g62 (by decide))
              refine rsr (cV_e rfl) ?_
              exact Rs.ok (Or.inr ⟨2, ((pl i43)), f60, f62, ⟨i43, sz59, sn59, uc59, e60_k0, e60_k1, e60_k2, e60_k3, e60_sz59, e60_sn59, e60_uc59, by omega⟩, ⟨em61, s, u43, mu, ut, e62_k0, e62_k1, e62_em61, e62_k2, e62_k3, e62_k4, (g62.i _ _ (by decide)).trans ((sI_ne (by decide)).trans ((sI_nej (by decide)).trans ((sI_nej (by decide)).trans ((FR43.i _ _ (by decide)).trans h49)))), by omega⟩⟩)
        · refine rsl (if_neg (eqI_n (hy2_43) (li_0) (by omega))) ?_
          refine rsl (vC_e (ck_65 (hC.fr FL43))) ?_
          refine rsr (if_neg (eqI_n (hy5_43) (li_0) (by omega))) ?_
          refine rsr (vC_e (rk_160 (hR.fr FR43))) ?_
          refine Rb_VV ((hE (by omega)) _ _ (by omega) (by omega) T n m kd pl E tx ua ut mu _ _ G43 U43 Hl X43 i43 e43 s u43 uc43 _ hS (hCx.fr FL43 FR43) ⟨q43_12, q43_13, q43_10, q43_9, q43_16, q43_19⟩ ⟨w43_36, w43_37, w43_38, w43_41, w43_43, w43_51, w43_53, w43_50, w43_n⟩ ⟨ca43, ra43, lc43, lr43, cu43, ru43⟩ ⟨by omega, by omega, by omega, by omega, by omega, by omega, by omega, by omega, by omega, by omega, by omega, by omega⟩ (vs2 (li_0) (adI (hv1) (li_1)))) fun v Mx63 w Nx63 hx63 => ?_
          rcases hx63 with ⟨i63, e63, u63, uc63, G63, U63, X63, fl63, fr63, sc63, sr63, rw63, bd63, mv63, ag63, au63, ax63⟩ | ⟨F63, P63, fl63, fr63, tc63, tr63⟩
          ·
            have FL63 : Fr W_cp Mc Mx63 := Fr.t FL43 fl63
            have FR63 : Fr W_rx Mr Nx63 := Fr.t FR43 fr63
            obtain ⟨bb63_0, bb63_1, bb63_2, bb63_3, bb63_4, bb63_5, bb63_6, bb63_7, bb63_8, bb63_9, bb63_10, bb63_11⟩ := bd63
            obtain ⟨q63_12, q63_13, q63_10, q63_9, q63_16, q63_19⟩ := sc63
            obtain ⟨w63_36, w63_37, w63_38, w63_41, w63_43, w63_51, w63_53, w63_50, w63_n⟩ := sr63
            obtain ⟨ca63, ra63, lc63, lr63, cu63, ru63⟩ := rw63
            have hk64 := (hS.ok i63 (by omega) (by omega)).r
            refine rsl (cV_e rfl) ?_
            refine rsr (cV_e rfl) ?_
            refine rsl (ltI_q (z := (a43 + 1)) (adI (hy1_43) (li_1))) ?_
            refine rsl (gtI_q (w := iI ((kd i63))) (ck_65 (hC.fr FL63)) (q63_13)) ?_
            refine rsl (jn_v) ?_
            by_cases c65 : ((kd i63)) = 44
            · refine rsl (if_pos (eqI_p (rfl) (li_44) (by omega))) ?_
              refine rsl (jv_e) ?_
              refine rsl (jn_v) ?_
              refine rsl (if_neg (eqI_n (li_1) (li_0) (by omega))) ?_
              refine rsl (vC_e (ck_65 (hC.fr FL63))) ?_
              have hm66 : i63 + 1 < m := hS.more i63 (by omega) (by omega) (by omega)
              refine rsl (cV_e (a63q (by omega) hS (hC.fr FL63) (hTk.fr (WL := W_cp) FL63 (by decide)) (q63_12) (q63_13) (q63_10) (i2 := (i63 + 1)) (by omega) (by omega))) ?_
              have hk67 := (hS.ok (i63 + 1) (by omega) (by omega)).r
              refine rsl (jv_e) ?_
              refine rsl (ltI_q (z := (k43 + 1)) (adI (hy3_43) (li_1))) ?_
              refine rsr (ltI_q (z := (a43 + 1)) (adI (hy4_43) (li_1))) ?_
              refine rsr (gtI_q (w := iI 0) (rk_160 (hR.fr FR63)) (w63_41)) ?_
              refine rsr (jn_v) ?_
              refine rsr (jn_v) ?_
              refine rsr (if_pos (eqI_p (rfl) (li_0) (by omega))) ?_
              refine rsr (gtI_q (w := iI ((kr (kd i63)))) (rk_160 (hR.fr FR63)) (w63_36)) ?_
              refine rsr (if_pos (krI_p (k := 44) (rfl) (li_44) (by omega) (by decide +kernel))) ?_
              refine rsr (jv_e) ?_
              refine rsr (if_neg (eqI_n (li_1) (li_0) (by omega))) ?_
              refine rsr (vC_e (rk_160 (hR.fr FR63))) ?_
              refine RrV (nx_ok (by omega) hS (hR.fr FR63) (hT.fr (W := W_rx) FR63 (by decide) (by decide)) (fun i a b => (Fr.lc (W := W_rx) FR63 _ (by decide) _).trans (hW i a b)) (i := i63) (w63_41) (w63_38) (by omega) (by omega)) fun v Ma69 h69 => ?_
              obtain ⟨g69, e69_k0, e69_k1, e69_k2, p69_0⟩ := h69
              have f69 : Fr W_rx Mr Ma69 := Fr.t FR63 (Fr.m g69 (by decide))
              refine rsr (cV_e rfl) ?_
              exact hgo (m - i63).toNat _ _ (by omega) (Or.inl ⟨(a43 + 1), 1, (k43 + 1), (i63 + 1), rfl, li_1, rfl, rfl, li_1, by omega, by omega, by omega, ⟨e63, u63, uc63, G63, U63, X63, (Fr.sI (by decide) (Fr.sI (by decide) FL63)), f69, ⟨(sI_nej (by decide)).trans (sI_eq), sI_eq, (sI_nej (by decide)).trans ((sI_nej (by decide)).trans (q63_10)), (sI_nej (by decide)).trans ((sI_nej (by decide)).trans (q63_9)), (sI_nej (by decide)).trans ((sI_nej (by decide)).trans (q63_16)), (sI_nej (by decide)).trans ((sI_nej (by decide)).trans (q63_19))⟩, ⟨e69_k0, e69_k1, e69_k2, (g69.i _ _ (by decide)).trans (w63_41), (g69.i _ _ (by decide)).trans (w63_43), (g69.i _ _ (by decide)).trans (w63_51), (g69.i _ _ (by decide)).trans (w63_53), (g69.i _ _ (by decide)).trans (w63_50), p69_0⟩, ⟨(ca63.fr (W := W_c0) (Fr.sI (by decide) (Fr.sI (by decide) Fr.r)) (by decide)), (ra63.fr g69 (by decide)), (lc63.fr (W := W_c0) (Fr.sI (by decide) (Fr.sI (by decide) Fr.r)) (by decide)), (lr63.fr g69 (by decide)), (cu63.fr (W := W_c0) (Fr.sI (by decide) (Fr.sI (by decide) Fr.r)) (by decide)), (ru63.fr g69 (by decide))⟩, ⟨by omega, by omega, by omega, by omega, by omega, by omega, by omega, by omega, by omega, by omega, by omega, by omega⟩, ⟨by omega, by omega, by omega, by omega, by omega, by omega⟩, (Ag.t ag43 ag63 (by omega)), (Ag.t (Ag.t Ag.r au43 (by omega)) au63 (by omega)), (AgL.t ax43 ax63 (by omega))⟩, by omega⟩)
            · refine rsl (if_neg (eqI_n (rfl) (li_44) (by omega))) ?_
              refine rsl (jv_e) ?_
              refine rsl (jn_v) ?_
              refine rsl (if_pos (eqI_p (li_0) (li_0) (by omega))) ?_
              refine rsl (jv_e) ?_
              refine rsl (ltI_q (z := (k43 + 1)) (adI (hy3_43) (li_1))) ?_
              refine rsr (ltI_q (z := (a43 + 1)) (adI (hy4_43) (li_1))) ?_
              refine rsr (gtI_q (w := iI 0) (rk_160 (hR.fr FR63)) (w63_41)) ?_
              refine rsr (jn_v) ?_
              refine rsr (jn_v) ?_
              refine rsr (if_pos (eqI_p (rfl) (li_0) (by omega))) ?_
              refine rsr (gtI_q (w := iI ((kr (kd i63)))) (rk_160 (hR.fr FR63)) (w63_36)) ?_
              refine rsr (if_neg (krI_n (k := 44) (rfl) (li_44) (hS.ok i63 (by omega) (by omega)) (by unfold KdOK sgk; omega) (by decide +kernel) (by omega) (by omega))) ?_
              refine rsr (jv_e) ?_
              refine rsr (jv_e) ?_
              refine rsr (if_pos (eqI_p (li_0) (li_0) (by omega))) ?_
              exact hgo (m - i63 + 1).toNat _ _ (by omega) (Or.inl ⟨(a43 + 1), 0, (k43 + 1), i63, rfl, li_0, rfl, rfl, li_0, by omega, by omega, by omega, ⟨e63, u63, uc63, G63, U63, X63, FL63, FR63, ⟨q63_12, q63_13, q63_10, q63_9, q63_16, q63_19⟩, ⟨w63_36, w63_37, w63_38, w63_41, w63_43, w63_51, w63_53, w63_50, w63_n⟩, ⟨ca63, ra63, lc63, lr63, cu63, ru63⟩, ⟨by omega, by omega, by omega, by omega, by omega, by omega, by omega, by omega, by omega, by omega, by omega, by omega⟩, ⟨by omega, by omega, by omega, by omega, by omega, by omega⟩, (Ag.t ag43 ag63 (by omega)), (Ag.t (Ag.t Ag.r au43 (by omega)) au63 (by omega)), (AgL.t ax43 ax63 (by omega))⟩, by omega⟩)
          ·
            have FL63 : Fr W_cp Mc Mx63 := Fr.t FL43 fl63
            have FR63 : Fr W_rp Mr Nx63 := Fr.t (Fr.m FR43 W_rx_p) fr63
            obtain ⟨ti63, tz63, tn63, tu63, t1363, t1063, t1163, t1263, t963, t1663, t1963, tb63⟩ := tc63
            obtain ⟨re63, rn63, ru63, rm63, rt63, u4163, u4263, u4363, u5163, u5363, u4863, u4963, ub63⟩ := tr63
            refine rsl (cV_e rfl) ?_
            refine rsr (cV_e rfl) ?_
            refine rsl (ltI_q (z := (a43 + 1)) (adI (hy1_43) (li_1))) ?_
            refine rsl (gtI_q (w := iI 2) (ck_65 (hC.fr FL63)) (t1363)) ?_
            refine rsl (jn_v) ?_
            refine rsl (if_neg (eqI_n (rfl) (li_44) (by omega))) ?_
            refine rsl (jv_e) ?_
            refine rsl (jn_v) ?_
            refine rsl (if_pos (eqI_p (li_0) (li_0) (by omega))) ?_
            refine rsl (jv_e) ?_
            refine rsl (ltI_q (z := (k43 + 1)) (adI (hy3_43) (li_1))) ?_
            refine rsr (ltI_q (z := (a43 + 1)) (adI (hy4_43) (li_1))) ?_
            refine rsr (gtI_q (w := iI F63) (rk_160 (hR.fr FR63)) (u4163)) ?_
            refine rsr (jn_v) ?_
            refine rsr (jn_v) ?_
            refine rsr (if_neg (eqI_n (rfl) (li_0) (by omega))) ?_
            refine rsr (jv_e) ?_
            refine rsr (jv_e) ?_
            refine rsr (if_pos (eqI_p (li_0) (li_0) (by omega))) ?_
            exact hgo 0 _ _ (by omega) (Or.inr ⟨(a43 + 1), (a43 + 1), (k43 + 1), F63, P63, rfl, li_0, rfl, rfl, li_0, by omega, FL63, FR63, ⟨ti63, tz63, tn63, tu63, t1363, t1063, t1163, t1263, t963, t1663, t1963, by omega⟩, ⟨re63, rn63, ru63, rm63, rt63, u4163, u4263, u4363, u5163, u5363, u4863, u4963, by omega⟩, rfl⟩)
      ·
        obtain ⟨a43, a243, k43, F43, P43, hy1_43, hy2_43, hy3_43, hy4_43, hy5_43, ⟨hka43, hkb43⟩, FL43, FR43, tc43, tr43, hm43⟩ := hq
        obtain ⟨ti43, tz43, tn43, tu43, t1343, t1043, t1143, t1243, t943, t1643, t1943, tb43⟩ := tc43
        obtain ⟨re43, rn43, ru43, rm43, rt43, u4143, u4243, u4343, u5143, u5343, u4843, u4943, ub43⟩ := tr43
        unfold c97_28 c204_35
        refine rsl (if_neg (leI_n (li_3000) (hy3_43) (by omega))) ?_
        refine rsl (if_pos (eqI_p (hy2_43) (li_0) (by omega))) ?_
        refine rsl (jv_e) ?_
        try dsimp only
        refine rsl (vC_e (ck_65 (hC.fr FL43))) ?_
        refine RlV (y64 (by omega) (hC.fr FL43) (hTk.fr (WL := W_cp) FL43 (by decide)) (t1243) (t1343) (t1043) (t1143) (t943) (t1643) (t1943) (li_41) (by omega)) fun v Ma71 h71 => ?_
        obtain ⟨sz70, sn70, uc70, g71, e71_sz70, e71_sn70, e71_uc70, e71_k0, e71_k1, e71_k2, e71_k3, p71_0, p71_1, p71_2⟩ := h71
        have f71 : Fr W_cp Mc Ma71 := Fr.t FL43 (Fr.m g71 (by decide))
        refine rsl (cV_e rfl) ?_
        refine rsl (gtP_q (w := some 77) (ck_65 (hC.fr f71)) (cf_65_17 (hC.fr f71))) ?_
        refine rsl (alP_q (n := 6) (z := 2) (w := some 80) (ck_77 (hC.fr f71)) (li_2) (by omega) (cf_77_2 (hC.fr f71))) ?_
        refine rsl (asI_q (n := 1500) (z := x) (y := a43) (ck_80 (hC.fr f71)) (hv0) (by omega) (hy1_43)) ?_
        refine rsl (vC_e (ck_65 (hC.fr f71).sI)) ?_
        refine RlV (y105 (by omega) (hC.fr f71).sI (hTk.fr (WL := W_cp) (Fr.sI (inW_c (by decide) _) f71) (by decide)) ((sI_ne (by decide)).trans (e71_k3)) ((sI_ne (by decide)).trans (e71_k0)) ((sI_ne (by decide)).trans (e71_k1)) ((sI_ne (by decide)).trans (e71_k2)) ((sI_ne (by decide)).trans (e71_sz70)) ((sI_ne (by decide)).trans (e71_sn70)) ((sI_ne (by decide)).trans (e71_uc70)) (hv0) (li_4) (li_7) (by omega)) fun v Ma73 h73 => ?_
        obtain ⟨sz72, sn72, uc72, g73, e73_sz72, e73_sn72, e73_uc72, e73_k0, e73_k1, e73_k2, e73_k3, p73_0, p73_1, p73_2⟩ := h73
        have f73 : Fr W_cp Mc Ma73 := Fr.t (Fr.sI (inW_c (by decide) _) f71) (Fr.m g73 (by decide))
        refine rsl (cV_e rfl) ?_
        refine rsr (if_pos (eqI_p (hy5_43) (li_0) (by omega))) ?_
        refine rsr (jv_e) ?_
        try dsimp only
        refine rsr (gtI_q (w := iI F43) (rk_160 (hR.fr FR43)) (u4143)) ?_
        refine rsr (if_neg (eqI_n (rfl) (li_0) (by omega))) ?_
        refine rsr (jv_e) ?_
        try dsimp only
        refine rsr (gtP_q (w := some 206) (rk_160 (hR.fr FR43)) (rf_60 (hR.fr FR43))) ?_
        refine rsr (asI_q (n := 2000) (z := (u - 1)) (y := a243) (rk_206 (hR.fr FR43)) (hw0) (by omega) (hy4_43)) ?_
        refine rsr (vC_e (rk_160 (hR.fr FR43).sI)) ?_
        refine RrV (x202_s (by omega) (hR.fr FR43).sI ((sI_ne (by decide)).trans (u4143)) ((sI_ne (by decide)).trans (u4243)) ((sI_ne (by decide)).trans (u4343)) ((sI_ne (by decide)).trans (u5143)) ((sI_ne (by decide)).trans (u5343)) ((sI_ne (by decide)).trans (u4843)) ((sI_ne (by decide)).trans (u4943)) (hw0) (li_4) (li_7) (by omega)) fun v Ma75 h75 => ?_
        obtain ⟨em74, g75, e75_em74, e75_k0, e75_k1, e75_k2, e75_k3, e75_k4, p75_0⟩ := h75
        have f75 : Fr W_rp Mr Ma75 := Fr.t (Fr.sI (inW_c (by decide) _) FR43) (Fr.m g75 (by decide))
        refine rsr (cV_e rfl) ?_
        exact Rs.ok (Or.inr ⟨F43, P43, f73, f75, ⟨ti43, sz72, sn72, uc72, e73_k0, e73_k1, e73_k2, e73_k3, e73_sz72, e73_sn72, e73_uc72, by omega⟩, ⟨em74, rn43, ru43, rm43, rt43, e75_k0, e75_k1, e75_em74, e75_k2, e75_k3, e75_k4, (g75.i _ _ (by decide)).trans ((sI_ne (by decide)).trans (u4943)), by omega⟩⟩)
  ·
    refine rsl (cV_e (a69_6 (by omega) hS hC (hTk.fr (WL := W_cp) Fr.r (by decide)) (qa_12) (qa_13) (qa_10) (li_40) (hv1) (by omega))) ?_
    refine rsl (gtI_q (w := iI 2) (ck_65 hC.sI.sI.sI) (sI_eq)) ?_
    refine rsl (jn_v) ?_
    refine rsl (if_neg (eqI_n (rfl) (li_41) (by omega))) ?_
    refine rsl (jv_e) ?_
    refine rsl (jn_v) ?_
    refine rsl (lp_e) ?_
    unfold c97_28
    refine rsl (if_neg (leI_n (li_3000) (li_0) (by omega))) ?_
    refine rsl (if_neg (eqI_n (li_1) (li_0) (by omega))) ?_
    refine rsl (vC_e (ck_65 hC.sI.sI.sI)) ?_
    refine RlV (y99_0 (by omega) hC.sI.sI.sI (hTk.fr (WL := W_cp) (Fr.sI (by decide) (Fr.sI (by decide) (Fr.sI (by decide) Fr.r))) (by decide)) ((sI_nej (by decide)).trans ((sI_nej (by decide)).trans ((sI_nej (by decide)).trans (qa_12)))) (sI_eq) ((sI_nej (by decide)).trans ((sI_nej (by decide)).trans (sI_eq))) ((sI_nej (by decide)).trans (sI_eq)) ((sI_nej (by decide)).trans ((sI_nej (by decide)).trans ((sI_nej (by decide)).trans (qa_9)))) ((sI_nej (by decide)).trans ((sI_nej (by decide)).trans ((sI_nej (by decide)).trans (qa_16)))) ((sI_nej (by decide)).trans ((sI_nej (by decide)).trans ((sI_nej (by decide)).trans (qa_19)))) (li_0) (adI (hv1) (li_1)) (by omega)) fun v Ma77 h77 => ?_
    obtain ⟨sz76, sn76, uc76, g77, e77_sz76, e77_sn76, e77_uc76, e77_k0, e77_k1, e77_k2, e77_k3, p77_0, p77_1, p77_2⟩ := h77
    have f77 : Fr W_cp Mc Ma77 := Fr.t (Fr.sI (by decide) (Fr.sI (by decide) (Fr.sI (by decide) Fr.r))) (Fr.m g77 (by decide))
    refine rsl (cV_e rfl) ?_
    refine rsl (ltI_q (z := 1) (cvI (adI (li_0) (li_1)) (by omega))) ?_
    refine rsl (gtI_q (w := iI 2) (ck_65 (hC.fr f77)) (e77_k0)) ?_
    refine rsl (jn_v) ?_
    refine rsl (if_neg (eqI_n (rfl) (li_44) (by omega))) ?_
    refine rsl (jv_e) ?_
    refine rsl (jn_v) ?_
    refine rsl (if_pos (eqI_p (li_0) (li_0) (by omega))) ?_
    refine rsl (jv_e) ?_
    refine rsl (ltI_q (z := 1) (cvI (adI (li_0) (li_1)) (by omega))) ?_
    refine rsl (lp_e) ?_
    refine rsl (if_neg (leI_n (li_3000) (rfl) (by omega))) ?_
    refine rsl (if_pos (eqI_p (li_0) (li_0) (by omega))) ?_
    refine rsl (jv_e) ?_
    try dsimp only
    refine rsl (vC_e (ck_65 (hC.fr f77))) ?_
    refine RlV (y64 (by omega) (hC.fr f77) (hTk.fr (WL := W_cp) f77 (by decide)) (e77_k3) (e77_k0) (e77_k1) (e77_k2) (e77_sz76) (e77_sn76) (e77_uc76) (li_41) (by omega)) fun v Ma79 h79 => ?_
    obtain ⟨sz78, sn78, uc78, g79, e79_sz78, e79_sn78, e79_uc78, e79_k0, e79_k1, e79_k2, e79_k3, p79_0, p79_1, p79_2⟩ := h79
    have f79 : Fr W_cp Mc Ma79 := Fr.t f77 (Fr.m g79 (by decide))
    refine rsl (cV_e rfl) ?_
    refine rsl (gtP_q (w := some 77) (ck_65 (hC.fr f79)) (cf_65_17 (hC.fr f79))) ?_
    refine rsl (alP_q (n := 6) (z := 2) (w := some 80) (ck_77 (hC.fr f79)) (li_2) (by omega) (cf_77_2 (hC.fr f79))) ?_
    refine rsl (asI_q (n := 1500) (z := x) (y := 1) (ck_80 (hC.fr f79)) (hv0) (by omega) (rfl)) ?_
    refine rsl (vC_e (ck_65 (hC.fr f79).sI)) ?_
    refine RlV (y105 (by omega) (hC.fr f79).sI (hTk.fr (WL := W_cp) (Fr.sI (inW_c (by decide) _) f79) (by decide)) ((sI_ne (by decide)).trans (e79_k3)) ((sI_ne (by decide)).trans (e79_k0)) ((sI_ne (by decide)).trans (e79_k1)) ((sI_ne (by decide)).trans (e79_k2)) ((sI_ne (by decide)).trans (e79_sz78)) ((sI_ne (by decide)).trans (e79_sn78)) ((sI_ne (by decide)).trans (e79_uc78)) (hv0) (li_4) (li_7) (by omega)) fun v Ma81 h81 => ?_
    obtain ⟨sz80, sn80, uc80, g81, e81_sz80, e81_sn80, e81_uc80, e81_k0, e81_k1, e81_k2, e81_k3, p81_0, p81_1, p81_2⟩ := h81
    have f81 : Fr W_cp Mc Ma81 := Fr.t (Fr.sI (inW_c (by decide) _) f79) (Fr.m g81 (by decide))
    refine rsl (cV_e rfl) ?_
    refine rsr (vC_e (rk_160 hR)) ?_
    refine rsr (cI_e (ar200_6 (by omega) hS hR (wa_36) (wa_37) (wa_41) (wa_50) (by omega))) ?_
    refine rsr (jn_v) ?_
    refine rsr (if_pos (eqI_p (rfl) (li_0) (by omega))) ?_
    refine rsr (jv_e) ?_
    try dsimp only
    refine rsr (gtP_q (w := some 206) (rk_160 hR.sI.sI.sI) (rf_60 hR.sI.sI.sI)) ?_
    refine rsr (asI_q (n := 2000) (z := (u - 1)) (y := 0) (rk_206 hR.sI.sI.sI) (hw0) (by omega) (li_0)) ?_
    refine rsr (vC_e (rk_160 hR.sI.sI.sI.sI)) ?_
    refine RrV (x202_s (by omega) hR.sI.sI.sI.sI ((sI_ne (by decide)).trans ((sI_nej (by decide)).trans (sI_eq))) ((sI_ne (by decide)).trans (sI_eq)) ((sI_ne (by decide)).trans ((sI_nej (by decide)).trans ((sI_nej (by decide)).trans ((sI_nej (by decide)).trans (wa_43))))) ((sI_ne (by decide)).trans ((sI_nej (by decide)).trans ((sI_nej (by decide)).trans ((sI_nej (by decide)).trans (wa_51))))) ((sI_ne (by decide)).trans ((sI_nej (by decide)).trans ((sI_nej (by decide)).trans ((sI_nej (by decide)).trans (wa_53))))) ((sI_ne (by decide)).trans ((sI_nej (by decide)).trans ((sI_nej (by decide)).trans ((sI_nej (by decide)).trans (h48))))) ((sI_ne (by decide)).trans ((sI_nej (by decide)).trans ((sI_nej (by decide)).trans ((sI_nej (by decide)).trans (h49))))) (hw0) (li_4) (li_7) (by omega)) fun v Ma83 h83 => ?_
    obtain ⟨em82, g83, e83_em82, e83_k0, e83_k1, e83_k2, e83_k3, e83_k4, p83_0⟩ := h83
    have f83 : Fr W_rp Mr Ma83 := Fr.t (Fr.sI (inW_c (by decide) _) (Fr.sI (by decide) (Fr.sI (by decide) (Fr.sI (by decide) Fr.r)))) (Fr.m g83 (by decide))
    refine rsr (cV_e rfl) ?_
    exact Rs.ok (Or.inr ⟨6, ((pl i)), f81, f83, ⟨i, sz80, sn80, uc80, e81_k0, e81_k1, e81_k2, e81_k3, e81_sz80, e81_sn80, e81_uc80, by omega⟩, ⟨em82, s, u, mu, ut, e83_k0, e83_k1, e83_em82, e83_k2, e83_k3, e83_k4, (g83.i _ _ (by decide)).trans ((sI_ne (by decide)).trans ((sI_nej (by decide)).trans ((sI_nej (by decide)).trans ((sI_nej (by decide)).trans (h49))))), by omega⟩⟩)
