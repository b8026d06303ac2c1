/-! a call: its arguments -/
def W_c1 : List (Nat × Nat) := (80, 9999) :: W_c0
def W_r1 : List (Nat × Nat) := (206, 9999) :: W_r0
theorem Ag.pq {G G' : Nat → Int → Int} {a j v : Int} {k0 : Nat} (h : Ag G G' a) (hq : a ≤ j) : Ag G (pq G' k0 j v) a := fun k t z => (pq_t (by omega)).trans (h k t z)
theorem CU.args {M : Mem} {U : Nat → Int → Int} {X : Nat → Int → Int64} {u uc j x v : Int} (h : CU M U X u uc) (hj : 0 ≤ j ∧ j < u) (hx : U 0 j = x) : CU (sI M 80 x.toNat (iI v)) (pq (pq U 9 j v) 5 j v) X u uc := by
  obtain ⟨h1, h2, h3⟩ := h
  have z : ∀ k t, k ≠ 9 → k ≠ 5 → pq (pq U 9 j v) 5 j v k t = U k t := fun k t a b => by rw [pq_k b, pq_k a]
  have hxx := (h1 j hj.1 hj.2).1
  refine ⟨fun t a c => ?_, fun t w a c d => by rw [z _ _ (by decide) (by decide), z _ _ (by decide) (by decide)]; exact h2 t w a c d, fun y a c d => ?_⟩
  · obtain ⟨k, e1, e2, e3, e4, e5, e6, e7, e8⟩ := h1 t a c
    rw [z 0 t (by decide) (by decide), z 7 t (by decide) (by decide), z 8 t (by decide) (by decide), z 6 t (by decide) (by decide), z 10 t (by decide) (by decide), z 4 t (by decide) (by decide)]
    refine ⟨k, (sI_ne (by decide)).trans e1, (sI_ne (by decide)).trans e2, ?_, (sI_ne (by decide)).trans e4, (sI_ne (by decide)).trans e5, (sI_ne (by decide)).trans e6, e7, e8⟩
    rw [pq_k (by decide)]
    by_cases c2 : t = j
    · subst c2
      rw [pq_e, hx]; exact sI_eq
    · have : U 0 t ≠ x := fun e => by
        rcases Int.lt_or_le t j with q | q
        · have := h2 t j a q hj.2; omega
        · have := h2 j t hj.1 (by omega) c; omega
      rw [pq_t c2]
      exact (sI_nej (by omega)).trans e3
  · refine (sI_ne (by decide)).trans (h3 y a c fun t p2 q2 => ?_)
    have := d t p2 q2
    rw [z _ _ (by decide) (by decide)] at this
    exact this
theorem RU.args {M : Mem} {U : Nat → Int → Int} {X : Nat → Int → Int64} {u j v : Int} (h : RU M U X u) (hj : 0 ≤ j ∧ j < u) : RU (sI M 206 j.toNat (iI v)) (pq (pq U 9 j v) 5 j v) X u := fun t a c => by
  obtain ⟨e1, e2, e3, e4, e5, e6, e7, e8⟩ := h t a c
  have z : ∀ k, k ≠ 9 → k ≠ 5 → pq (pq U 9 j v) 5 j v k t = U k t := fun k a b => by rw [pq_k b, pq_k a]
  rw [z 2 (by decide) (by decide), z 1 (by decide) (by decide), z 3 (by decide) (by decide), z 4 (by decide) (by decide), z 6 (by decide) (by decide)]
  refine ⟨(sI_ne (by decide)).trans e1, (sI_ne (by decide)).trans e2, e3, (sI_ne (by decide)).trans e4, e5, (sI_ne (by decide)).trans e6, ?_, (sI_ne (by decide)).trans e8⟩
  by_cases c2 : t = j
  · subst c2
    rw [pq_e]; exact sI_eq
  · rw [pq_t c2, pq_k (by decide)]
    exact (sI_nej (by omega)).trans e7
theorem p_cl {D : Nat} {dp : Int} (hD : 20 ≤ D) (hE : dp < 20 → Pair D 99 [0] 211 14 (dp + 1)) : PairC (D + 3) 24 dp := by
  intro d d2 hd hd2 T n m kd pl E tx ua ut mu Mc Mr G U Hl X i e s u uc x v0 v1 w0 hS hx hsc hsr hrw hbd hK hpu hux hu6 hu3x hv0 hv1 hw0
  obtain ⟨d, rfl⟩ : ∃ e, d = e + 1 := ⟨d - 1, by omega⟩
  obtain ⟨d2, rfl⟩ : ∃ e, d2 = e + 1 := ⟨d2 - 1, by omega⟩
  rw [r97]; unfold b97; rw [aR_e, aI_e, aI_e, aZ_e]; unfold c97; rw [r204]; unfold b204; rw [aR_e, aI_e, aZ_e]; unfold c204
  have hCx := hx
  obtain ⟨hC, hR, hTk, hT, hW, ⟨hu1, hu2, hu3, hu4⟩, h49, h48, ⟨hb1, hb2, hb3, hb4⟩⟩ := hx
  obtain ⟨bb_0, bb_1, bb_2, bb_3, bb_4, bb_5, bb_6, bb_7, bb_8, bb_9, bb_10, bb_11⟩ := hbd
  have kua : KU uc Mc Mc := KU.r
  obtain ⟨qa_12, qa_13, qa_10, qa_9, qa_16, qa_19⟩ := hsc
  obtain ⟨wa_36, wa_37, wa_38, wa_41, wa_43, wa_51, wa_53, wa_50, wa_n⟩ := hsr
  obtain ⟨caa, raa, lca, lra, cua, rua⟩ := hrw
  have hk1 := (hS.ok i (by omega) (by omega)).r
  have ty2 := (Tye.r (G := G) (a := e) (s := s))
  have du3 := (DU.r (ut := ut) (mu := mu) (c := uc) (G := G) (U := U) (X := X) (a := e) (u := u))
  have hxr : 0 ≤ x ∧ x < uc := by have q := (cua.1 (u - 1) (by omega) (by omega)).1; rw [hux] at q; exact q
  refine rsl (vC_e (ck_65 hC)) ?_
  by_cases c4 : dp < 20
  ·
    have hm5 : i + 1 < m := hS.more i (by omega) (by omega) (by omega)
    refine rsl (cV_e (a69q (by omega) hS hC (hTk.fr (WL := W_cp) Fr.r (by decide)) (qa_12) (qa_13) (qa_10) (li_40) (hv1) (i2 := (i + 1)) (by omega) (by omega))) ?_
    have hk6 := (hS.ok (i + 1) (by omega) (by omega)).r
    refine rsl (gtI_q (w := iI ((kd (i + 1)))) (ck_65 hC.sI.sI) (sI_eq)) ?_
    refine rsl (jn_v) ?_
    by_cases c7 : ((kd (i + 1))) = 41
    · refine rsl (if_pos (eqI_p (rfl) (li_41) (by omega))) ?_
      refine rsl (jv_e) ?_
      refine rsl (jn_v) ?_
      refine rsr (vC_e (rk_160 hR)) ?_
      refine rsr (cI_e (ar200_p (by omega) hS hR (wa_36) (wa_37) (wa_41) (wa_50) (by omega))) ?_
      refine rsr (jn_v) ?_
      refine rsr (if_neg (eqI_n (rfl) (li_0) (by omega))) ?_
      refine rsr (vC_e (rk_160 hR.sI)) ?_
      refine RrV (nx_ok (by omega) hS hR.sI (hT.fr (W := W_rx) (Fr.sI (by decide) Fr.r) (by decide) (by decide)) (fun i a b => (Fr.lc (W := W_rx) (Fr.sI (by decide) Fr.r) _ (by decide) _).trans (hW i a b)) (i := i) ((sI_nej (by decide)).trans (wa_41)) ((sI_nej (by decide)).trans (wa_38)) (by omega) (by omega)) fun v Ma9 h9 => ?_
      obtain ⟨g9, e9_k0, e9_k1, e9_k2, p9_0⟩ := h9
      have f9 : Fr W_rx Mr Ma9 := Fr.t (Fr.sI (by decide) Fr.r) (Fr.m g9 (by decide))
      refine rsr (cV_e rfl) ?_
      refine rsr (gtI_q (w := iI 0) (rk_160 (hR.fr f9)) ((g9.i _ _ (by decide)).trans ((sI_nej (by decide)).trans (wa_41)))) ?_
      refine rsr (jn_v) ?_
      refine rsr (jn_v) ?_
      refine rsr (if_pos (eqI_p (rfl) (li_0) (by omega))) ?_
      refine rsr (gtI_q (w := iI ((kr (kd (i + 1))))) (rk_160 (hR.fr f9)) (e9_k0)) ?_
      refine rsr (if_pos (krI_p (k := 41) (rfl) (li_41) (by omega) (by decide +kernel))) ?_
      refine rsr (jv_e) ?_
      refine rsr (jv_e) ?_
      refine rsr (jn_v) ?_
      refine Rb_lp (fun m2 q t => (∃ (a mo k i2 : Int), q.1 = iI a ∧ q.2.1 = iI mo ∧ q.2.2.1 = iI k ∧ t.1 = iI a ∧ t.2.1 = iI mo ∧ (0 ≤ k ∧ k ≤ i2) ∧ (0 ≤ mo ∧ mo ≤ 1) ∧ (0 ≤ a ∧ a ≤ 3000 + k) ∧ PK a ut mu m kd pl E tx Mc Mr G U Hl X i e s u uc (dp + 1) q.2.2.2 t.2.2 i2 ∧ (m2 : Int) = m - i2 + 1) ∨ ∃ (a a2 k F P : Int), q.1 = iI a ∧ q.2.1 = iI 0 ∧ q.2.2.1 = iI k ∧ t.1 = iI a2 ∧ t.2.1 = iI 0 ∧ (0 ≤ k ∧ k ≤ 1500) ∧ Fr W_cp Mc q.2.2.2 ∧ Fr W_rp Mr t.2.2 ∧ FTc m F P q.2.2.2 ∧ FTr (2500 - 30 * dp - 25) F P t.2.2 ∧ m2 = 0) (fun m2 q t gl gr hq hgo => ?_) (m - i).toNat _ _ _ _ (by omega) (by omega) (Or.inl ⟨0, 0, 0, (i + 1), li_0, li_0, li_0, li_0, li_0, by omega, by omega, by omega, ⟨e, u, uc, G, U, X, (Fr.sI (by decide) (Fr.sI (by decide) Fr.r)), f9, ⟨(sI_nej (by decide)).trans (sI_eq), sI_eq, (sI_nej (by decide)).trans ((sI_nej (by decide)).trans (qa_10)), (sI_nej (by decide)).trans ((sI_nej (by decide)).trans (qa_9)), (sI_nej (by decide)).trans ((sI_nej (by decide)).trans (qa_16)), (sI_nej (by decide)).trans ((sI_nej (by decide)).trans (qa_19))⟩, ⟨e9_k0, e9_k1, e9_k2, (g9.i _ _ (by decide)).trans ((sI_nej (by decide)).trans (wa_41)), (g9.i _ _ (by decide)).trans ((sI_nej (by decide)).trans (wa_43)), (g9.i _ _ (by decide)).trans ((sI_nej (by decide)).trans (wa_51)), (g9.i _ _ (by decide)).trans ((sI_nej (by decide)).trans (wa_53)), (g9.i _ _ (by decide)).trans (sI_eq), p9_0⟩, ⟨(caa.fr (W := W_c0) (Fr.sI (by decide) (Fr.sI (by decide) Fr.r)) (by decide)), ((raa.fr (W := W_r0) (Fr.sI (by decide) Fr.r) (by decide)).fr g9 (by decide)), (lca.fr (W := W_c0) (Fr.sI (by decide) (Fr.sI (by decide) Fr.r)) (by decide)), ((lra.fr (W := W_r0) (Fr.sI (by decide) Fr.r) (by decide)).fr g9 (by decide)), (cua.fr (W := W_c0) (Fr.sI (by decide) (Fr.sI (by decide) Fr.r)) (by decide)), ((rua.fr (W := W_r0) (Fr.sI (by decide) Fr.r) (by decide)).fr g9 (by decide))⟩, ⟨by omega, by omega, by omega, by omega, by omega, by omega, by omega, by omega, by omega, by omega, by omega, by omega⟩, ⟨by omega, by omega, by omega, by omega, by omega, by omega⟩, Ag.r, Ag.r, AgL.r, ty2, (DU.r (ut := ut) (mu := mu) (c := uc) (G := G) (U := U) (X := X) (a := e) (u := u)), (kua.fr (W := W_c0) (Fr.sI (by decide) (Fr.sI (by decide) Fr.r)) (by decide))⟩, by omega⟩)
      obtain ⟨qa10, qb10, qc10, qm10⟩ := q
      obtain ⟨ta10, tb10, tm10⟩ := t
      dsimp only at hq
      try dsimp only
      rcases hq with hq | hq
      ·
        obtain ⟨a10, mo10, k10, i10, hy1_10, hy2_10, hy3_10, hy4_10, hy5_10, ⟨hka10, hkb10⟩, ⟨hma10, hmb10⟩, ⟨haa10, hab10⟩, ⟨e10, u10, uc10, G10, U10, X10, FL10, FR10, sc10, sr10, rw10, bd10, ⟨mv10_0, mv10_1, mv10_2, mv10_3, mv10_4, mv10_5⟩, ag10, au10, ax10, tp10, dp10, ku10⟩, hm10⟩ := hq
        obtain ⟨bb10_0, bb10_1, bb10_2, bb10_3, bb10_4, bb10_5, bb10_6, bb10_7, bb10_8, bb10_9, bb10_10, bb10_11⟩ := bd10
        obtain ⟨q10_12, q10_13, q10_10, q10_9, q10_16, q10_19⟩ := sc10
        obtain ⟨w10_36, w10_37, w10_38, w10_41, w10_43, w10_51, w10_53, w10_50, w10_n⟩ := sr10
        obtain ⟨ca10, ra10, lc10, lr10, cu10, ru10⟩ := rw10
        have hk11 := (hS.ok i10 (by omega) (by omega)).r
        unfold c97_28 c204_35
        refine rsl (if_neg (leI_n (li_3000) (hy3_10) (by omega))) ?_
        by_cases c12 : mo10 = 0
        · refine rsl (if_pos (eqI_p (hy2_10) (li_0) (by omega))) ?_
          refine rsl (jv_e) ?_
          try dsimp only
          refine rsl (vC_e (ck_65 (hC.fr FL10))) ?_
          by_cases c13 : ((kd i10)) = 41
          ·
            have hm14 : i10 + 1 < m := hS.more i10 (by omega) (by omega) (by omega)
            refine rsl (cV_e (a64q (by omega) hS (hC.fr FL10) (hTk.fr (WL := W_cp) FL10 (by decide)) (q10_12) (q10_13) (q10_10) (li_41) (i2 := (i10 + 1)) (by omega) (by omega))) ?_
            have hk15 := (hS.ok (i10 + 1) (by omega) (by omega)).r
            refine rsl (gtP_q (w := some 77) (ck_65 (hC.fr FL10).sI.sI) (cf_65_17 (hC.fr FL10).sI.sI)) ?_
            refine rsl (alP_q (n := 6) (z := 2) (w := some 80) (ck_77 (hC.fr FL10).sI.sI) (li_2) (by omega) (cf_77_2 (hC.fr FL10).sI.sI)) ?_
            refine rsl (asI_q (n := 1500) (z := x) (y := a10) (ck_80 (hC.fr FL10).sI.sI) (hv0) (by omega) (hy1_10)) ?_
            refine rsl (vC_e (ck_65 (hC.fr FL10).sI.sI.sI)) ?_
            have ty17 := Tye.em (d := a10) (d' := 1) (q := (e10 + 1)) (n1 := 0) (ut := ut) (mu := mu) (l := []) tp10 (Or.inr (Or.inr (Or.inr (Or.inr (Or.inr (Or.inr (Or.inl (by omega))))))) : Eff 7 (u - 1) a10 a10 s 1 s) (by omega) ⟨by omega, by omega⟩ (by omega)
            have du18 := DU.set (U := (pq (pq U10 9 (u - 1) a10) 5 (u - 1) a10)) (X := X10) (c := x) (b1 := 4) (p := 4) (q := (e10 + 1)) (u := (u - 1)) (o := 7) (n1 := 0) (p1 := -2) (n3 := (u - 1)) (l := []) (g := a10) ((dp10.pq (by omega)).pq (by omega)) (by omega) (by omega) (by omega) (by omega) (fun _ => ⟨(pq_k (by decide)).trans (pq_e.trans pq_e.symm), pq_e⟩) (Int.le_of_eq (Eq.symm ((pq_k (by decide)).trans ((pq_k (by decide)).trans ((au10 0 _ (by omega)).trans hux))))) ((pq_k (by decide)).trans ((pq_k (by decide)).trans ((au10 6 _ (by omega)).trans hu6))) (U3tr rfl ((pq_k (by decide)).trans (pq_k (by decide))) ((pq_k (by decide)).trans (pq_k (by decide))) (U3tr (ax10 0 _ (by omega)) (au10 3 _ (by omega)) (au10 10 _ (by omega)) hu3x)) (by omega) (by omega)
            refine RlV (a105 (by omega) (hC.fr FL10).sI.sI.sI ((sI_ne (by decide)).trans ((sI_nej (by decide)).trans ((sI_nej (by decide)).trans (q10_9)))) (hv0) (li_4) (li_7) (by omega)) fun v Ma19 h19 => ?_
            obtain ⟨g19, e19_k0, p19_0, p19_1⟩ := h19
            have f19 : Fr W_cp Mc Ma19 := Fr.t (Fr.sI (inW_c (by decide) _) (Fr.sI (by decide) (Fr.sI (by decide) FL10))) (Fr.m g19 (by decide))
            refine rsl (cV_e rfl) ?_
            refine rsr (if_pos (eqI_p (hy5_10) (li_0) (by omega))) ?_
            refine rsr (jv_e) ?_
            try dsimp only
            refine rsr (gtI_q (w := iI 0) (rk_160 (hR.fr FR10)) (w10_41)) ?_
            refine rsr (if_pos (eqI_p (rfl) (li_0) (by omega))) ?_
            refine rsr (gtI_q (w := iI ((kr (kd i10)))) (rk_160 (hR.fr FR10)) (w10_36)) ?_
            refine rsr (jn_v) ?_
            refine rsr (if_pos (krI_p (k := 41) (rfl) (li_41) (by omega) (by decide +kernel))) ?_
            refine rsr (jv_e) ?_
            refine rsr (vC_e (rk_160 (hR.fr FR10))) ?_
            refine rsr (cI_e (ar193_p (by omega) hS (hR.fr FR10) (w10_36) (w10_37) (w10_41) (li_1) (by omega))) ?_
            refine rsr (if_neg (eqI_n (rfl) (li_0) (by omega))) ?_
            refine rsr (gtI_q (w := iI (dp + 1)) (rk_160 (hR.fr FR10)) (w10_50)) ?_
            refine rsr (ptI_q (z := dp) (rk_160 (hR.fr FR10)) (cvI (sbI (rfl) (li_1)) (by omega))) ?_
            refine rsr (vC_e (rk_160 (hR.fr FR10).sI)) ?_
            refine RrV (nx_ok (by omega) hS (hR.fr FR10).sI (hT.fr (W := W_rx) (Fr.sI (by decide) FR10) (by decide) (by decide)) (fun i a b => (Fr.lc (W := W_rx) (Fr.sI (by decide) FR10) _ (by decide) _).trans (hW i a b)) (i := i10) ((sI_nej (by decide)).trans (w10_41)) ((sI_nej (by decide)).trans (w10_38)) (by omega) (by omega)) fun v Ma21 h21 => ?_
            obtain ⟨g21, e21_k0, e21_k1, e21_k2, p21_0⟩ := h21
            have f21 : Fr W_rx Mr Ma21 := Fr.t (Fr.sI (by decide) FR10) (Fr.m g21 (by decide))
            refine rsr (cV_e rfl) ?_
            refine rsr (jv_e) ?_
            try dsimp only
            refine rsr (gtP_q (w := some 206) (rk_160 (hR.fr f21)) (rf_60 (hR.fr f21))) ?_
            refine rsr (asI_q (n := 2000) (z := (u - 1)) (y := a10) (rk_206 (hR.fr f21)) (hw0) (by omega) (hy4_10)) ?_
            refine rsr (vC_e (rk_160 (hR.fr f21).sI)) ?_
            refine RrV (a202 (by omega) (hR.fr f21).sI ((sI_ne (by decide)).trans ((g21.i _ _ (by decide)).trans ((sI_nej (by decide)).trans (w10_43)))) ((sI_ne (by decide)).trans ((g21.i _ _ (by decide)).trans ((sI_nej (by decide)).trans ((FR10.i _ _ (by decide)).trans h49)))) ((sI_ne (by decide)).trans ((g21.i _ _ (by decide)).trans ((sI_nej (by decide)).trans ((FR10.i _ _ (by decide)).trans h48)))) (hw0) (li_4) (li_7) (by omega)) fun v Ma22 h22 => ?_
            obtain ⟨g22, e22_k0, p22_0, p22_1⟩ := h22
            have f22 : Fr W_rx Mr Ma22 := Fr.t (Fr.sI (inW_c (by decide) _) f21) (Fr.m g22 (by decide))
            refine rsr (cV_e rfl) ?_
            exact Rs.ok (Or.inl ⟨(i10 + 1), (e10 + 1), u10, uc10, (pu G10 e10 [7, 0, -2, (u - 1), ut, mu, a10]), (ps (pq (pq U10 9 (u - 1) a10) 5 (u - 1) a10) (u - 1) 4 4 e10), X10, f19, f22, ⟨(g19.i _ _ (by decide)).trans ((sI_ne (by decide)).trans ((sI_nej (by decide)).trans (sI_eq))), (g19.i _ _ (by decide)).trans ((sI_ne (by decide)).trans (sI_eq)), (g19.i _ _ (by decide)).trans ((sI_ne (by decide)).trans ((sI_nej (by decide)).trans ((sI_nej (by decide)).trans (q10_10)))), e19_k0, (g19.i _ _ (by decide)).trans ((sI_ne (by decide)).trans ((sI_nej (by decide)).trans ((sI_nej (by decide)).trans (q10_16)))), (g19.i _ _ (by decide)).trans ((sI_ne (by decide)).trans ((sI_nej (by decide)).trans ((sI_nej (by decide)).trans (q10_19))))⟩, ⟨(g22.i _ _ (by decide)).trans ((sI_ne (by decide)).trans (e21_k0)), (g22.i _ _ (by decide)).trans ((sI_ne (by decide)).trans (e21_k1)), (g22.i _ _ (by decide)).trans ((sI_ne (by decide)).trans (e21_k2)), (g22.i _ _ (by decide)).trans ((sI_ne (by decide)).trans ((g21.i _ _ (by decide)).trans ((sI_nej (by decide)).trans (w10_41)))), e22_k0, (g22.i _ _ (by decide)).trans ((sI_ne (by decide)).trans ((g21.i _ _ (by decide)).trans ((sI_nej (by decide)).trans (w10_51)))), (g22.i _ _ (by decide)).trans ((sI_ne (by decide)).trans ((g21.i _ _ (by decide)).trans ((sI_nej (by decide)).trans (w10_53)))), (g22.i _ _ (by decide)).trans ((sI_ne (by decide)).trans ((g21.i _ _ (by decide)).trans (sI_eq))), ((p21_0.fr (W := W_r1) (Fr.sI (inW_c (by decide) _) Fr.r) (by decide) (by decide)).fr g22 (by decide) (by decide))⟩, ⟨(CA1.em (ca10.fr (W := W_c1) (Fr.sI (inW_c (by decide) _) (Fr.sI (by decide) (Fr.sI (by decide) Fr.r))) (by decide)) (by omega) p19_0 rfl), (RA1.em (((ra10.fr (W := W_r0) (Fr.sI (by decide) Fr.r) (by decide)).fr g21 (by decide)).fr (W := W_r1) (Fr.sI (inW_c (by decide) _) Fr.r) (by decide)) (by omega) p22_0 rfl), ((lc10.fr (W := W_c1) (Fr.sI (inW_c (by decide) _) (Fr.sI (by decide) (Fr.sI (by decide) Fr.r))) (by decide)).fr g19 (by decide)), ((((lr10.fr (W := W_r0) (Fr.sI (by decide) Fr.r) (by decide)).fr g21 (by decide)).fr (W := W_r1) (Fr.sI (inW_c (by decide) _) Fr.r) (by decide)).fr g22 (by decide)), (CU.set (b := 4) (CU.args (v := a10) (cu10.fr (W := W_c0) (Fr.sI (by decide) (Fr.sI (by decide) Fr.r)) (by decide)) ⟨by omega, by omega⟩ ((au10 0 _ (by omega)).trans hux)) ⟨by omega, by omega⟩ ((pq_k (by decide)).trans ((pq_k (by decide)).trans ((au10 0 _ (by omega)).trans hux))) p19_1 g19 (by decide)), (RU.set (RU.args (v := a10) ((ru10.fr (W := W_r0) (Fr.sI (by decide) Fr.r) (by decide)).fr g21 (by decide)) ⟨by omega, by omega⟩) ⟨by omega, by omega⟩ p22_1 g22 (by decide))⟩, ⟨by omega, by omega, by omega, by omega, by omega, by omega, by omega, by omega, by omega, by omega, by omega, by omega⟩, ⟨by omega, by omega, by omega, by omega, by omega, by omega⟩, (Ag.pu ag10 (by omega)), (Ag.ps (Ag.pq (Ag.pq (Ag.t Ag.r au10 (by omega)) (by omega)) (by omega)) (by omega)), ax10, ty17, du18, ((ku10.fr (W := W_c1) (Fr.sI (inW_c (by decide) _) (Fr.sI (by decide) (Fr.sI (by decide) Fr.r))) (by decide)).fr g19 (by decide))⟩)
          ·
            by_cases c23 : ((kd i10)) = 1
            ·
              refine rsl (cV_e (a64_1 (by omega) hS (hC.fr FL10) (hTk.fr (WL := W_cp) FL10 (by decide)) (q10_12) (q10_13) (q10_10) (li_41) (by omega))) ?_
              refine rsl (gtP_q (w := some 77) (ck_65 (hC.fr FL10).sI.sI.sI) (cf_65_17 (hC.fr FL10).sI.sI.sI)) ?_
              refine rsl (alP_q (n := 6) (z := 2) (w := some 80) (ck_77 (hC.fr FL10).sI.sI.sI) (li_2) (by omega) (cf_77_2 (hC.fr FL10).sI.sI.sI)) ?_
              refine rsl (asI_q (n := 1500) (z := x) (y := a10) (ck_80 (hC.fr FL10).sI.sI.sI) (hv0) (by omega) (hy1_10)) ?_
              refine rsl (vC_e (ck_65 (hC.fr FL10).sI.sI.sI.sI)) ?_
              refine RlV (y105 (by omega) (hC.fr FL10).sI.sI.sI.sI (hTk.fr (WL := W_cp) (Fr.sI (inW_c (by decide) _) (Fr.sI (by decide) (Fr.sI (by decide) (Fr.sI (by decide) FL10)))) (by decide)) ((sI_ne (by decide)).trans ((sI_nej (by decide)).trans ((sI_nej (by decide)).trans ((sI_nej (by decide)).trans (q10_12))))) ((sI_ne (by decide)).trans (sI_eq)) ((sI_ne (by decide)).trans ((sI_nej (by decide)).trans ((sI_nej (by decide)).trans (sI_eq)))) ((sI_ne (by decide)).trans ((sI_nej (by decide)).trans (sI_eq))) ((sI_ne (by decide)).trans ((sI_nej (by decide)).trans ((sI_nej (by decide)).trans ((sI_nej (by decide)).trans (q10_9))))) ((sI_ne (by decide)).trans ((sI_nej (by decide)).trans ((sI_nej (by decide)).trans ((sI_nej (by decide)).trans (q10_16))))) ((sI_ne (by decide)).trans ((sI_nej (by decide)).trans ((sI_nej (by decide)).trans ((sI_nej (by decide)).trans (q10_19))))) (hv0) (li_4) (li_7) (by omega)) fun v Ma25 h25 => ?_
              obtain ⟨sz24, sn24, uc24, g25, e25_sz24, e25_sn24, e25_uc24, e25_k0, e25_k1, e25_k2, e25_k3, p25_0, p25_1, p25_2⟩ := h25
              have f25 : Fr W_cp Mc Ma25 := Fr.t (Fr.sI (inW_c (by decide) _) (Fr.sI (by decide) (Fr.sI (by decide) (Fr.sI (by decide) FL10)))) (Fr.m g25 (by decide))
              refine rsl (cV_e rfl) ?_
              refine rsr (if_pos (eqI_p (hy5_10) (li_0) (by omega))) ?_
              refine rsr (jv_e) ?_
              try dsimp only
              refine rsr (gtI_q (w := iI 0) (rk_160 (hR.fr FR10)) (w10_41)) ?_
              refine rsr (if_pos (eqI_p (rfl) (li_0) (by omega))) ?_
              refine rsr (gtI_q (w := iI ((kr (kd i10)))) (rk_160 (hR.fr FR10)) (w10_36)) ?_
              refine rsr (jn_v) ?_
              refine rsr (if_neg (krI_n (k := 41) (rfl) (li_41) (hS.ok i10 (by omega) (by omega)) (by unfold KdOK sgk; omega) (by decide +kernel) (by omega) (by omega))) ?_
              refine rsr (jv_e) ?_
              refine rsr (vC_e (rk_160 (hR.fr FR10))) ?_
              refine rsr (cI_e (ar193_1 (by omega) hS (hR.fr FR10) (w10_36) (w10_37) (w10_41) (li_0) (by omega))) ?_
              refine rsr (if_pos (eqI_p (rfl) (li_0) (by omega))) ?_
              refine rsr (jv_e) ?_
              try dsimp only
              refine rsr (gtP_q (w := some 206) (rk_160 (hR.fr FR10).sI.sI) (rf_60 (hR.fr FR10).sI.sI)) ?_
              refine rsr (asI_q (n := 2000) (z := (u - 1)) (y := a10) (rk_206 (hR.fr FR10).sI.sI) (hw0) (by omega) (hy4_10)) ?_
              refine rsr (vC_e (rk_160 (hR.fr FR10).sI.sI.sI)) ?_
              refine RrV (x202_s (by omega) (hR.fr FR10).sI.sI.sI ((sI_ne (by decide)).trans ((sI_nej (by decide)).trans (sI_eq))) ((sI_ne (by decide)).trans (sI_eq)) ((sI_ne (by decide)).trans ((sI_nej (by decide)).trans ((sI_nej (by decide)).trans (w10_43)))) ((sI_ne (by decide)).trans ((sI_nej (by decide)).trans ((sI_nej (by decide)).trans (w10_51)))) ((sI_ne (by decide)).trans ((sI_nej (by decide)).trans ((sI_nej (by decide)).trans (w10_53)))) ((sI_ne (by decide)).trans ((sI_nej (by decide)).trans ((sI_nej (by decide)).trans ((FR10.i _ _ (by decide)).trans h48)))) ((sI_ne (by decide)).trans ((sI_nej (by decide)).trans ((sI_nej (by decide)).trans ((FR10.i _ _ (by decide)).trans h49)))) (hw0) (li_4) (li_7) (by omega)) fun v Ma27 h27 => ?_
              obtain ⟨em26, g27, e27_em26, e27_k0, e27_k1, e27_k2, e27_k3, e27_k4, p27_0⟩ := h27
              have f27 : Fr W_rp Mr Ma27 := Fr.t (Fr.sI (inW_c (by decide) _) (Fr.sI (by decide) (Fr.sI (by decide) (Fr.m FR10 (by decide))))) (Fr.m g27 (by decide))
              refine rsr (cV_e rfl) ?_
              exact Rs.ok (Or.inr ⟨1, ((pl i10)), f25, f27, ⟨i10, sz24, sn24, uc24, e25_k0, e25_k1, e25_k2, e25_k3, e25_sz24, e25_sn24, e25_uc24, by omega⟩, ⟨em26, s, u10, mu, ut, e27_k0, e27_k1, e27_em26, e27_k2, e27_k3, e27_k4, (g27.i _ _ (by decide)).trans ((sI_ne (by decide)).trans ((sI_nej (by decide)).trans ((sI_nej (by decide)).trans ((FR10.i _ _ (by decide)).trans h49)))), by omega⟩⟩)
            ·
              refine rsl (cV_e (a64_2 (by omega) hS (hC.fr FL10) (hTk.fr (WL := W_cp) FL10 (by decide)) (q10_12) (q10_13) (q10_10) (li_41) (by omega))) ?_
              refine rsl (gtP_q (w := some 77) (ck_65 (hC.fr FL10).sI.sI.sI) (cf_65_17 (hC.fr FL10).sI.sI.sI)) ?_
              refine rsl (alP_q (n := 6) (z := 2) (w := some 80) (ck_77 (hC.fr FL10).sI.sI.sI) (li_2) (by omega) (cf_77_2 (hC.fr FL10).sI.sI.sI)) ?_
              refine rsl (asI_q (n := 1500) (z := x) (y := a10) (ck_80 (hC.fr FL10).sI.sI.sI) (hv0) (by omega) (hy1_10)) ?_
              refine rsl (vC_e (ck_65 (hC.fr FL10).sI.sI.sI.sI)) ?_
              refine RlV (y105 (by omega) (hC.fr FL10).sI.sI.sI.sI (hTk.fr (WL := W_cp) (Fr.sI (inW_c (by decide) _) (Fr.sI (by decide) (Fr.sI (by decide) (Fr.sI (by decide) FL10)))) (by decide)) ((sI_ne (by decide)).trans ((sI_nej (by decide)).trans ((sI_nej (by decide)).trans ((sI_nej (by decide)).trans (q10_12))))) ((sI_ne (by decide)).trans (sI_eq)) ((sI_ne (by decide)).trans ((sI_nej (by decide)).trans ((sI_nej (by decide)).trans (sI_eq)))) ((sI_ne (by decide)).trans ((sI_nej (by decide)).trans (sI_eq))) ((sI_ne (by decide)).trans ((sI_nej (by decide)).trans ((sI_nej (by decide)).trans ((sI_nej (by decide)).trans (q10_9))))) ((sI_ne (by decide)).trans ((sI_nej (by decide)).trans ((sI_nej (by decide)).trans ((sI_nej (by decide)).trans (q10_16))))) ((sI_ne (by decide)).trans ((sI_nej (by decide)).trans ((sI_nej (by decide)).trans ((sI_nej (by decide)).trans (q10_19))))) (hv0) (li_4) (li_7) (by omega)) fun v Ma29 h29 => ?_
              obtain ⟨sz28, sn28, uc28, g29, e29_sz28, e29_sn28, e29_uc28, e29_k0, e29_k1, e29_k2, e29_k3, p29_0, p29_1, p29_2⟩ := h29
              have f29 : Fr W_cp Mc Ma29 := Fr.t (Fr.sI (inW_c (by decide) _) (Fr.sI (by decide) (Fr.sI (by decide) (Fr.sI (by decide) FL10)))) (Fr.m g29 (by decide))
              refine rsl (cV_e rfl) ?_
              refine rsr (if_pos (eqI_p (hy5_10) (li_0) (by omega))) ?_
              refine rsr (jv_e) ?_
              try dsimp only
              refine rsr (gtI_q (w := iI 0) (rk_160 (hR.fr FR10)) (w10_41)) ?_
              refine rsr (if_pos (eqI_p (rfl) (li_0) (by omega))) ?_
              refine rsr (gtI_q (w := iI ((kr (kd i10)))) (rk_160 (hR.fr FR10)) (w10_36)) ?_
              refine rsr (jn_v) ?_
              refine rsr (if_neg (krI_n (k := 41) (rfl) (li_41) (hS.ok i10 (by omega) (by omega)) (by unfold KdOK sgk; omega) (by decide +kernel) (by omega) (by omega))) ?_
              refine rsr (jv_e) ?_
              refine rsr (vC_e (rk_160 (hR.fr FR10))) ?_
              refine rsr (cI_e (ar193_2 (by omega) hS (hR.fr FR10) (w10_36) (w10_37) (w10_41) (li_0) (by omega))) ?_
              refine rsr (if_pos (eqI_p (rfl) (li_0) (by omega))) ?_
              refine rsr (jv_e) ?_
              try dsimp only
              refine rsr (gtP_q (w := some 206) (rk_160 (hR.fr FR10).sI.sI) (rf_60 (hR.fr FR10).sI.sI)) ?_
              refine rsr (asI_q (n := 2000) (z := (u - 1)) (y := a10) (rk_206 (hR.fr FR10).sI.sI) (hw0) (by omega) (hy4_10)) ?_
              refine rsr (vC_e (rk_160 (hR.fr FR10).sI.sI.sI)) ?_
              refine RrV (x202_s (by omega) (hR.fr FR10).sI.sI.sI ((sI_ne (by decide)).trans ((sI_nej (by decide)).trans (sI_eq))) ((sI_ne (by decide)).trans (sI_eq)) ((sI_ne (by decide)).trans ((sI_nej (by decide)).trans ((sI_nej (by decide)).trans (w10_43)))) ((sI_ne (by decide)).trans ((sI_nej (by decide)).trans ((sI_nej (by decide)).trans (w10_51)))) ((sI_ne (by decide)).trans ((sI_nej (by decide)).trans ((sI_nej (by decide)).trans (w10_53)))) ((sI_ne (by decide)).trans ((sI_nej (by decide)).trans ((sI_nej (by decide)).trans ((FR10.i _ _ (by decide)).trans h48)))) ((sI_ne (by decide)).trans ((sI_nej (by decide)).trans ((sI_nej (by decide)).trans ((FR10.i _ _ (by decide)).trans h49)))) (hw0) (li_4) (li_7) (by omega)) fun v Ma31 h31 => ?_
              obtain ⟨em30, g31, e31_em30, e31_k0, e31_k1, e31_k2, e31_k3, e31_k4, p31_0⟩ := h31
              have f31 : Fr W_rp Mr Ma31 := Fr.t (Fr.sI (inW_c (by decide) _) (Fr.sI (by decide) (Fr.sI (by decide) (Fr.m FR10 (by decide))))) (Fr.m g31 (by decide))
              refine rsr (cV_e rfl) ?_
              exact Rs.ok (Or.inr ⟨2, ((pl i10)), f29, f31, ⟨i10, sz28, sn28, uc28, e29_k0, e29_k1, e29_k2, e29_k3, e29_sz28, e29_sn28, e29_uc28, by omega⟩, ⟨em30, s, u10, mu, ut, e31_k0, e31_k1, e31_em30, e31_k2, e31_k3, e31_k4, (g31.i _ _ (by decide)).trans ((sI_ne (by decide)).trans ((sI_nej (by decide)).trans ((sI_nej (by decide)).trans ((FR10.i _ _ (by decide)).trans h49)))), by omega⟩⟩)
        · refine rsl (if_neg (eqI_n (hy2_10) (li_0) (by omega))) ?_
          refine rsl (vC_e (ck_65 (hC.fr FL10))) ?_
          refine rsr (if_neg (eqI_n (hy5_10) (li_0) (by omega))) ?_
          refine rsr (vC_e (rk_160 (hR.fr FR10))) ?_
          refine Rb_VV ((hE (by omega)) _ _ (by omega) (by omega) T n m kd pl E tx ua ut mu _ _ G10 U10 Hl X10 i10 e10 s u10 uc10 _ hS (hCx.fr FL10 FR10) ⟨q10_12, q10_13, q10_10, q10_9, q10_16, q10_19⟩ ⟨w10_36, w10_37, w10_38, w10_41, w10_43, w10_51, w10_53, w10_50, w10_n⟩ ⟨ca10, ra10, lc10, lr10, cu10, ru10⟩ ⟨by omega, by omega, by omega, by omega, by omega, by omega, by omega, by omega, by omega, by omega, by omega, by omega⟩ (vs2 (li_0) (adI (hv1) (li_1)))) fun v Mx32 w Nx32 hx32 => ?_
          rcases hx32 with ⟨i32, e32, u32, uc32, G32, U32, X32, fl32, fr32, sc32, sr32, rw32, bd32, mv32, ag32, au32, ax32, tp32, dp32, kv32⟩ | ⟨F32, P32, fl32, fr32, tc32, tr32⟩
          ·
            have FL32 : Fr W_cp Mc Mx32 := Fr.t FL10 fl32
            have FR32 : Fr W_rx Mr Nx32 := Fr.t FR10 fr32
            obtain ⟨bb32_0, bb32_1, bb32_2, bb32_3, bb32_4, bb32_5, bb32_6, bb32_7, bb32_8, bb32_9, bb32_10, bb32_11⟩ := bd32
            obtain ⟨q32_12, q32_13, q32_10, q32_9, q32_16, q32_19⟩ := sc32
            obtain ⟨w32_36, w32_37, w32_38, w32_41, w32_43, w32_51, w32_53, w32_50, w32_n⟩ := sr32
            obtain ⟨ca32, ra32, lc32, lr32, cu32, ru32⟩ := rw32
            have hk33 := (hS.ok i32 (by omega) (by omega)).r
            have ku32 := KU.t ku10 kv32 (by omega)
            have ty34 := Tye.t (d3 := (a10 + 1)) tp10 ag32 tp32 (by omega)
            have du35 := DU.t dp10 ag32 au32 ax32 dp32 (by omega)
            refine rsl (cV_e rfl) ?_
            refine rsr (cV_e rfl) ?_
            refine rsl (ltI_q (z := (a10 + 1)) (adI (hy1_10) (li_1))) ?_
            refine rsl (gtI_q (w := iI ((kd i32))) (ck_65 (hC.fr FL32)) (q32_13)) ?_
            refine rsl (jn_v) ?_
            by_cases c36 : ((kd i32)) = 44
            · refine rsl (if_pos (eqI_p (rfl) (li_44) (by omega))) ?_
              refine rsl (jv_e) ?_
              refine rsl (jn_v) ?_
              refine rsl (if_neg (eqI_n (li_1) (li_0) (by omega))) ?_
              refine rsl (vC_e (ck_65 (hC.fr FL32))) ?_
              have hm37 : i32 + 1 < m := hS.more i32 (by omega) (by omega) (by omega)
              refine rsl (cV_e (a63q (by omega) hS (hC.fr FL32) (hTk.fr (WL := W_cp) FL32 (by decide)) (q32_12) (q32_13) (q32_10) (i2 := (i32 + 1)) (by omega) (by omega))) ?_
              have hk38 := (hS.ok (i32 + 1) (by omega) (by omega)).r
              refine rsl (jv_e) ?_
              refine rsl (ltI_q (z := (k10 + 1)) (adI (hy3_10) (li_1))) ?_
              refine rsr (ltI_q (z := (a10 + 1)) (adI (hy4_10) (li_1))) ?_
              refine rsr (gtI_q (w := iI 0) (rk_160 (hR.fr FR32)) (w32_41)) ?_
              refine rsr (jn_v) ?_
              refine rsr (jn_v) ?_
              refine rsr (if_pos (eqI_p (rfl) (li_0) (by omega))) ?_
              refine rsr (gtI_q (w := iI ((kr (kd i32)))) (rk_160 (hR.fr FR32)) (w32_36)) ?_
              refine rsr (if_pos (krI_p (k := 44) (rfl) (li_44) (by omega) (by decide +kernel))) ?_
              refine rsr (jv_e) ?_
              refine rsr (if_neg (eqI_n (li_1) (li_0) (by omega))) ?_
              refine rsr (vC_e (rk_160 (hR.fr FR32))) ?_
              refine RrV (nx_ok (by omega) hS (hR.fr FR32) (hT.fr (W := W_rx) FR32 (by decide) (by decide)) (fun i a b => (Fr.lc (W := W_rx) FR32 _ (by decide) _).trans (hW i a b)) (i := i32) (w32_41) (w32_38) (by omega) (by omega)) fun v Ma40 h40 => ?_
              obtain ⟨g40, e40_k0, e40_k1, e40_k2, p40_0⟩ := h40
              have f40 : Fr W_rx Mr Ma40 := Fr.t FR32 (Fr.m g40 (by decide))
              refine rsr (cV_e rfl) ?_
              exact hgo (m - i32).toNat _ _ (by omega) (Or.inl ⟨(a10 + 1), 1, (k10 + 1), (i32 + 1), rfl, li_1, rfl, rfl, li_1, by omega, by omega, by omega, ⟨e32, u32, uc32, G32, U32, X32, (Fr.sI (by decide) (Fr.sI (by decide) FL32)), f40, ⟨(sI_nej (by decide)).trans (sI_eq), sI_eq, (sI_nej (by decide)).trans ((sI_nej (by decide)).trans (q32_10)), (sI_nej (by decide)).trans ((sI_nej (by decide)).trans (q32_9)), (sI_nej (by decide)).trans ((sI_nej (by decide)).trans (q32_16)), (sI_nej (by decide)).trans ((sI_nej (by decide)).trans (q32_19))⟩, ⟨e40_k0, e40_k1, e40_k2, (g40.i _ _ (by decide)).trans (w32_41), (g40.i _ _ (by decide)).trans (w32_43), (g40.i _ _ (by decide)).trans (w32_51), (g40.i _ _ (by decide)).trans (w32_53), (g40.i _ _ (by decide)).trans (w32_50), p40_0⟩, ⟨(ca32.fr (W := W_c0) (Fr.sI (by decide) (Fr.sI (by decide) Fr.r)) (by decide)), (ra32.fr g40 (by decide)), (lc32.fr (W := W_c0) (Fr.sI (by decide) (Fr.sI (by decide) Fr.r)) (by decide)), (lr32.fr g40 (by decide)), (cu32.fr (W := W_c0) (Fr.sI (by decide) (Fr.sI (by decide) Fr.r)) (by decide)), (ru32.fr g40 (by decide))⟩, ⟨by omega, by omega, by omega, by omega, by omega, by omega, by omega, by omega, by omega, by omega, by omega, by omega⟩, ⟨by omega, by omega, by omega, by omega, by omega, by omega⟩, (Ag.t ag10 ag32 (by omega)), (Ag.t (Ag.t Ag.r au10 (by omega)) au32 (by omega)), (AgL.t ax10 ax32 (by omega)), ty34, du35, (ku32.fr (W := W_c0) (Fr.sI (by decide) (Fr.sI (by decide) Fr.r)) (by decide))⟩, by omega⟩)
            · refine rsl (if_neg (eqI_n (rfl) (li_44) (by omega))) ?_
              refine rsl (jv_e) ?_
              refine rsl (jn_v) ?_
              refine rsl (if_pos (eqI_p (li_0) (li_0) (by omega))) ?_
              refine rsl (jv_e) ?_
              refine rsl (ltI_q (z := (k10 + 1)) (adI (hy3_10) (li_1))) ?_
              refine rsr (ltI_q (z := (a10 + 1)) (adI (hy4_10) (li_1))) ?_
              refine rsr (gtI_q (w := iI 0) (rk_160 (hR.fr FR32)) (w32_41)) ?_
              refine rsr (jn_v) ?_
              refine rsr (jn_v) ?_
              refine rsr (if_pos (eqI_p (rfl) (li_0) (by omega))) ?_
              refine rsr (gtI_q (w := iI ((kr (kd i32)))) (rk_160 (hR.fr FR32)) (w32_36)) ?_
              refine rsr (if_neg (krI_n (k := 44) (rfl) (li_44) (hS.ok i32 (by omega) (by omega)) (by unfold KdOK sgk; omega) (by decide +kernel) (by omega) (by omega))) ?_
              refine rsr (jv_e) ?_
              refine rsr (jv_e) ?_
              refine rsr (if_pos (eqI_p (li_0) (li_0) (by omega))) ?_
              exact hgo (m - i32 + 1).toNat _ _ (by omega) (Or.inl ⟨(a10 + 1), 0, (k10 + 1), i32, rfl, li_0, rfl, rfl, li_0, by omega, by omega, by omega, ⟨e32, u32, uc32, G32, U32, X32, FL32, FR32, ⟨q32_12, q32_13, q32_10, q32_9, q32_16, q32_19⟩, ⟨w32_36, w32_37, w32_38, w32_41, w32_43, w32_51, w32_53, w32_50, w32_n⟩, ⟨ca32, ra32, lc32, lr32, cu32, ru32⟩, ⟨by omega, by omega, by omega, by omega, by omega, by omega, by omega, by omega, by omega, by omega, by omega, by omega⟩, ⟨by omega, by omega, by omega, by omega, by omega, by omega⟩, (Ag.t ag10 ag32 (by omega)), (Ag.t (Ag.t Ag.r au10 (by omega)) au32 (by omega)), (AgL.t ax10 ax32 (by omega)), ty34, du35, ku32⟩, by omega⟩)
          ·
            have FL32 : Fr W_cp Mc Mx32 := Fr.t FL10 fl32
            have FR32 : Fr W_rp Mr Nx32 := Fr.t (Fr.m FR10 W_rx_p) fr32
            obtain ⟨ti32, tz32, tn32, tu32, t1332, t1032, t1132, t1232, t932, t1632, t1932, tb32⟩ := tc32
            obtain ⟨re32, rn32, ru32, rm32, rt32, u4132, u4232, u4332, u5132, u5332, u4832, u4932, ub32⟩ := tr32
            refine rsl (cV_e rfl) ?_
            refine rsr (cV_e rfl) ?_
            refine rsl (ltI_q (z := (a10 + 1)) (adI (hy1_10) (li_1))) ?_
            refine rsl (gtI_q (w := iI 2) (ck_65 (hC.fr FL32)) (t1332)) ?_
            refine rsl (jn_v) ?_
            refine rsl (if_neg (eqI_n (rfl) (li_44) (by omega))) ?_
            refine rsl (jv_e) ?_
            refine rsl (jn_v) ?_
            refine rsl (if_pos (eqI_p (li_0) (li_0) (by omega))) ?_
            refine rsl (jv_e) ?_
            refine rsl (ltI_q (z := (k10 + 1)) (adI (hy3_10) (li_1))) ?_
            refine rsr (ltI_q (z := (a10 + 1)) (adI (hy4_10) (li_1))) ?_
            refine rsr (gtI_q (w := iI F32) (rk_160 (hR.fr FR32)) (u4132)) ?_
            refine rsr (jn_v) ?_
            refine rsr (jn_v) ?_
            refine rsr (if_neg (eqI_n (rfl) (li_0) (by omega))) ?_
            refine rsr (jv_e) ?_
            refine rsr (jv_e) ?_
            refine rsr (if_pos (eqI_p (li_0) (li_0) (by omega))) ?_
            exact hgo 0 _ _ (by omega) (Or.inr ⟨(a10 + 1), (a10 + 1), (k10 + 1), F32, P32, rfl, li_0, rfl, rfl, li_0, by omega, FL32, FR32, ⟨ti32, tz32, tn32, tu32, t1332, t1032, t1132, t1232, t932, t1632, t1932, by omega⟩, ⟨re32, rn32, ru32, rm32, rt32, u4132, u4232, u4332, u5132, u5332, u4832, u4932, by omega⟩, rfl⟩)
      ·
        obtain ⟨a10, a210, k10, F10, P10, hy1_10, hy2_10, hy3_10, hy4_10, hy5_10, ⟨hka10, hkb10⟩, FL10, FR10, tc10, tr10, hm10⟩ := hq
        obtain ⟨ti10, tz10, tn10, tu10, t1310, t1010, t1110, t1210, t910, t1610, t1910, tb10⟩ := tc10
        obtain ⟨re10, rn10, ru10, rm10, rt10, u4110, u4210, u4310, u5110, u5310, u4810, u4910, ub10⟩ := tr10
        unfold c97_28 c204_35
        refine rsl (if_neg (leI_n (li_3000) (hy3_10) (by omega))) ?_
        refine rsl (if_pos (eqI_p (hy2_10) (li_0) (by omega))) ?_
        refine rsl (jv_e) ?_
        try dsimp only
        refine rsl (vC_e (ck_65 (hC.fr FL10))) ?_
        refine RlV (y64 (by omega) (hC.fr FL10) (hTk.fr (WL := W_cp) FL10 (by decide)) (t1210) (t1310) (t1010) (t1110) (t910) (t1610) (t1910) (li_41) (by omega)) fun v Ma42 h42 => ?_
        obtain ⟨sz41, sn41, uc41, g42, e42_sz41, e42_sn41, e42_uc41, e42_k0, e42_k1, e42_k2, e42_k3, p42_0, p42_1, p42_2⟩ := h42
        have f42 : Fr W_cp Mc Ma42 := Fr.t FL10 (Fr.m g42 (by decide))
        refine rsl (cV_e rfl) ?_
        refine rsl (gtP_q (w := some 77) (ck_65 (hC.fr f42)) (cf_65_17 (hC.fr f42))) ?_
        refine rsl (alP_q (n := 6) (z := 2) (w := some 80) (ck_77 (hC.fr f42)) (li_2) (by omega) (cf_77_2 (hC.fr f42))) ?_
        refine rsl (asI_q (n := 1500) (z := x) (y := a10) (ck_80 (hC.fr f42)) (hv0) (by omega) (hy1_10)) ?_
        refine rsl (vC_e (ck_65 (hC.fr f42).sI)) ?_
        refine RlV (y105 (by omega) (hC.fr f42).sI (hTk.fr (WL := W_cp) (Fr.sI (inW_c (by decide) _) f42) (by decide)) ((sI_ne (by decide)).trans (e42_k3)) ((sI_ne (by decide)).trans (e42_k0)) ((sI_ne (by decide)).trans (e42_k1)) ((sI_ne (by decide)).trans (e42_k2)) ((sI_ne (by decide)).trans (e42_sz41)) ((sI_ne (by decide)).trans (e42_sn41)) ((sI_ne (by decide)).trans (e42_uc41)) (hv0) (li_4) (li_7) (by omega)) fun v Ma44 h44 => ?_
        obtain ⟨sz43, sn43, uc43, g44, e44_sz43, e44_sn43, e44_uc43, e44_k0, e44_k1, e44_k2, e44_k3, p44_0, p44_1, p44_2⟩ := h44
        have f44 : Fr W_cp Mc Ma44 := Fr.t (Fr.sI (inW_c (by decide) _) f42) (Fr.m g44 (by decide))
        refine rsl (cV_e rfl) ?_
        refine rsr (if_pos (eqI_p (hy5_10) (li_0) (by omega))) ?_
        refine rsr (jv_e) ?_
        try dsimp only
        refine rsr (gtI_q (w := iI F10) (rk_160 (hR.fr FR10)) (u4110)) ?_
        refine rsr (if_neg (eqI_n (rfl) (li_0) (by omega))) ?_
        refine rsr (jv_e) ?_
        try dsimp only
        refine rsr (gtP_q (w := some 206) (rk_160 (hR.fr FR10)) (rf_60 (hR.fr FR10))) ?_
        refine rsr (asI_q (n := 2000) (z := (u - 1)) (y := a210) (rk_206 (hR.fr FR10)) (hw0) (by omega) (hy4_10)) ?_
        refine rsr (vC_e (rk_160 (hR.fr FR10).sI)) ?_
        refine RrV (x202_s (by omega) (hR.fr FR10).sI ((sI_ne (by decide)).trans (u4110)) ((sI_ne (by decide)).trans (u4210)) ((sI_ne (by decide)).trans (u4310)) ((sI_ne (by decide)).trans (u5110)) ((sI_ne (by decide)).trans (u5310)) ((sI_ne (by decide)).trans (u4810)) ((sI_ne (by decide)).trans (u4910)) (hw0) (li_4) (li_7) (by omega)) fun v Ma46 h46 => ?_
        obtain ⟨em45, g46, e46_em45, e46_k0, e46_k1, e46_k2, e46_k3, e46_k4, p46_0⟩ := h46
        have f46 : Fr W_rp Mr Ma46 := Fr.t (Fr.sI (inW_c (by decide) _) FR10) (Fr.m g46 (by decide))
        refine rsr (cV_e rfl) ?_
        exact Rs.ok (Or.inr ⟨F10, P10, f44, f46, ⟨ti10, sz43, sn43, uc43, e44_k0, e44_k1, e44_k2, e44_k3, e44_sz43, e44_sn43, e44_uc43, by omega⟩, ⟨em45, rn10, ru10, rm10, rt10, e46_k0, e46_k1, e46_em45, e46_k2, e46_k3, e46_k4, (g46.i _ _ (by decide)).trans ((sI_ne (by decide)).trans (u4910)), by omega⟩⟩)
    · refine rsl (if_neg (eqI_n (rfl) (li_41) (by omega))) ?_
      refine rsl (jv_e) ?_
      refine rsl (jn_v) ?_
      refine rsr (vC_e (rk_160 hR)) ?_
      refine rsr (cI_e (ar200_p (by omega) hS hR (wa_36) (wa_37) (wa_41) (wa_50) (by omega))) ?_
      refine rsr (jn_v) ?_
      refine rsr (if_neg (eqI_n (rfl) (li_0) (by omega))) ?_
      refine rsr (vC_e (rk_160 hR.sI)) ?_
      refine RrV (nx_ok (by omega) hS hR.sI (hT.fr (W := W_rx) (Fr.sI (by decide) Fr.r) (by decide) (by decide)) (fun i a b => (Fr.lc (W := W_rx) (Fr.sI (by decide) Fr.r) _ (by decide) _).trans (hW i a b)) (i := i) ((sI_nej (by decide)).trans (wa_41)) ((sI_nej (by decide)).trans (wa_38)) (by omega) (by omega)) fun v Ma48 h48 => ?_
      obtain ⟨g48, e48_k0, e48_k1, e48_k2, p48_0⟩ := h48
      have f48 : Fr W_rx Mr Ma48 := Fr.t (Fr.sI (by decide) Fr.r) (Fr.m g48 (by decide))
      refine rsr (cV_e rfl) ?_
      refine rsr (gtI_q (w := iI 0) (rk_160 (hR.fr f48)) ((g48.i _ _ (by decide)).trans ((sI_nej (by decide)).trans (wa_41)))) ?_
      refine rsr (jn_v) ?_
      refine rsr (jn_v) ?_
      refine rsr (if_pos (eqI_p (rfl) (li_0) (by omega))) ?_
      refine rsr (gtI_q (w := iI ((kr (kd (i + 1))))) (rk_160 (hR.fr f48)) (e48_k0)) ?_
      refine rsr (if_neg (krI_n (k := 41) (rfl) (li_41) (hS.ok (i + 1) (by omega) (by omega)) (by unfold KdOK sgk; omega) (by decide +kernel) (by omega) (by omega))) ?_
      refine rsr (jv_e) ?_
      refine rsr (jn_v) ?_
      refine Rb_lp (fun m2 q t => (∃ (a mo k i2 : Int), q.1 = iI a ∧ q.2.1 = iI mo ∧ q.2.2.1 = iI k ∧ t.1 = iI a ∧ t.2.1 = iI mo ∧ (0 ≤ k ∧ k ≤ i2) ∧ (0 ≤ mo ∧ mo ≤ 1) ∧ (0 ≤ a ∧ a ≤ 3000 + k) ∧ PK a ut mu m kd pl E tx Mc Mr G U Hl X i e s u uc (dp + 1) q.2.2.2 t.2.2 i2 ∧ (m2 : Int) = m - i2 + 1) ∨ ∃ (a a2 k F P : Int), q.1 = iI a ∧ q.2.1 = iI 0 ∧ q.2.2.1 = iI k ∧ t.1 = iI a2 ∧ t.2.1 = iI 0 ∧ (0 ≤ k ∧ k ≤ 1500) ∧ Fr W_cp Mc q.2.2.2 ∧ Fr W_rp Mr t.2.2 ∧ FTc m F P q.2.2.2 ∧ FTr (2500 - 30 * dp - 25) F P t.2.2 ∧ m2 = 0) (fun m2 q t gl gr hq hgo => ?_) (m - i).toNat _ _ _ _ (by omega) (by omega) (Or.inl ⟨0, 1, 0, (i + 1), li_0, li_1, li_0, li_0, li_1, by omega, by omega, by omega, ⟨e, u, uc, G, U, X, (Fr.sI (by decide) (Fr.sI (by decide) Fr.r)), f48, ⟨(sI_nej (by decide)).trans (sI_eq), sI_eq, (sI_nej (by decide)).trans ((sI_nej (by decide)).trans (qa_10)), (sI_nej (by decide)).trans ((sI_nej (by decide)).trans (qa_9)), (sI_nej (by decide)).trans ((sI_nej (by decide)).trans (qa_16)), (sI_nej (by decide)).trans ((sI_nej (by decide)).trans (qa_19))⟩, ⟨e48_k0, e48_k1, e48_k2, (g48.i _ _ (by decide)).trans ((sI_nej (by decide)).trans (wa_41)), (g48.i _ _ (by decide)).trans ((sI_nej (by decide)).trans (wa_43)), (g48.i _ _ (by decide)).trans ((sI_nej (by decide)).trans (wa_51)), (g48.i _ _ (by decide)).trans ((sI_nej (by decide)).trans (wa_53)), (g48.i _ _ (by decide)).trans (sI_eq), p48_0⟩, ⟨(caa.fr (W := W_c0) (Fr.sI (by decide) (Fr.sI (by decide) Fr.r)) (by decide)), ((raa.fr (W := W_r0) (Fr.sI (by decide) Fr.r) (by decide)).fr g48 (by decide)), (lca.fr (W := W_c0) (Fr.sI (by decide) (Fr.sI (by decide) Fr.r)) (by decide)), ((lra.fr (W := W_r0) (Fr.sI (by decide) Fr.r) (by decide)).fr g48 (by decide)), (cua.fr (W := W_c0) (Fr.sI (by decide) (Fr.sI (by decide) Fr.r)) (by decide)), ((rua.fr (W := W_r0) (Fr.sI (by decide) Fr.r) (by decide)).fr g48 (by decide))⟩, ⟨by omega, by omega, by omega, by omega, by omega, by omega, by omega, by omega, by omega, by omega, by omega, by omega⟩, ⟨by omega, by omega, by omega, by omega, by omega, by omega⟩, Ag.r, Ag.r, AgL.r, ty2, (DU.r (ut := ut) (mu := mu) (c := uc) (G := G) (U := U) (X := X) (a := e) (u := u)), (kua.fr (W := W_c0) (Fr.sI (by decide) (Fr.sI (by decide) Fr.r)) (by decide))⟩, by omega⟩)
      obtain ⟨qa49, qb49, qc49, qm49⟩ := q
      obtain ⟨ta49, tb49, tm49⟩ := t
      dsimp only at hq
      try dsimp only
      rcases hq with hq | hq
      ·
        obtain ⟨a49, mo49, k49, i49, hy1_49, hy2_49, hy3_49, hy4_49, hy5_49, ⟨hka49, hkb49⟩, ⟨hma49, hmb49⟩, ⟨haa49, hab49⟩, ⟨e49, u49, uc49, G49, U49, X49, FL49, FR49, sc49, sr49, rw49, bd49, ⟨mv49_0, mv49_1, mv49_2, mv49_3, mv49_4, mv49_5⟩, ag49, au49, ax49, tp49, dp49, ku49⟩, hm49⟩ := hq
        obtain ⟨bb49_0, bb49_1, bb49_2, bb49_3, bb49_4, bb49_5, bb49_6, bb49_7, bb49_8, bb49_9, bb49_10, bb49_11⟩ := bd49
        obtain ⟨q49_12, q49_13, q49_10, q49_9, q49_16, q49_19⟩ := sc49
        obtain ⟨w49_36, w49_37, w49_38, w49_41, w49_43, w49_51, w49_53, w49_50, w49_n⟩ := sr49
        obtain ⟨ca49, ra49, lc49, lr49, cu49, ru49⟩ := rw49
        have hk50 := (hS.ok i49 (by omega) (by omega)).r
        unfold c97_28 c204_35
        refine rsl (if_neg (leI_n (li_3000) (hy3_49) (by omega))) ?_
        by_cases c51 : mo49 = 0
        · refine rsl (if_pos (eqI_p (hy2_49) (li_0) (by omega))) ?_
          refine rsl (jv_e) ?_
          try dsimp only
          refine rsl (vC_e (ck_65 (hC.fr FL49))) ?_
          by_cases c52 : ((kd i49)) = 41
          ·
            have hm53 : i49 + 1 < m := hS.more i49 (by omega) (by omega) (by omega)
            refine rsl (cV_e (a64q (by omega) hS (hC.fr FL49) (hTk.fr (WL := W_cp) FL49 (by decide)) (q49_12) (q49_13) (q49_10) (li_41) (i2 := (i49 + 1)) (by omega) (by omega))) ?_
            have hk54 := (hS.ok (i49 + 1) (by omega) (by omega)).r
            refine rsl (gtP_q (w := some 77) (ck_65 (hC.fr FL49).sI.sI) (cf_65_17 (hC.fr FL49).sI.sI)) ?_
            refine rsl (alP_q (n := 6) (z := 2) (w := some 80) (ck_77 (hC.fr FL49).sI.sI) (li_2) (by omega) (cf_77_2 (hC.fr FL49).sI.sI)) ?_
            refine rsl (asI_q (n := 1500) (z := x) (y := a49) (ck_80 (hC.fr FL49).sI.sI) (hv0) (by omega) (hy1_49)) ?_
            refine rsl (vC_e (ck_65 (hC.fr FL49).sI.sI.sI)) ?_
            have ty56 := Tye.em (d := a49) (d' := 1) (q := (e49 + 1)) (n1 := 0) (ut := ut) (mu := mu) (l := []) tp49 (Or.inr (Or.inr (Or.inr (Or.inr (Or.inr (Or.inr (Or.inl (by omega))))))) : Eff 7 (u - 1) a49 a49 s 1 s) (by omega) ⟨by omega, by omega⟩ (by omega)
            have du57 := DU.set (U := (pq (pq U49 9 (u - 1) a49) 5 (u - 1) a49)) (X := X49) (c := x) (b1 := 4) (p := 4) (q := (e49 + 1)) (u := (u - 1)) (o := 7) (n1 := 0) (p1 := -2) (n3 := (u - 1)) (l := []) (g := a49) ((dp49.pq (by omega)).pq (by omega)) (by omega) (by omega) (by omega) (by omega) (fun _ => ⟨(pq_k (by decide)).trans (pq_e.trans pq_e.symm), pq_e⟩) (Int.le_of_eq (Eq.symm ((pq_k (by decide)).trans ((pq_k (by decide)).trans ((au49 0 _ (by omega)).trans hux))))) ((pq_k (by decide)).trans ((pq_k (by decide)).trans ((au49 6 _ (by omega)).trans hu6))) (U3tr rfl ((pq_k (by decide)).trans (pq_k (by decide))) ((pq_k (by decide)).trans (pq_k (by decide))) (U3tr (ax49 0 _ (by omega)) (au49 3 _ (by omega)) (au49 10 _ (by omega)) hu3x)) (by omega) (by omega)
            refine RlV (a105 (by omega) (hC.fr FL49).sI.sI.sI ((sI_ne (by decide)).trans ((sI_nej (by decide)).trans ((sI_nej (by decide)).trans (q49_9)))) (hv0) (li_4) (li_7) (by omega)) fun v Ma58 h58 => ?_
            obtain ⟨g58, e58_k0, p58_0, p58_1⟩ := h58
            have f58 : Fr W_cp Mc Ma58 := Fr.t (Fr.sI (inW_c (by decide) _) (Fr.sI (by decide) (Fr.sI (by decide) FL49))) (Fr.m g58 (by decide))
            refine rsl (cV_e rfl) ?_
            refine rsr (if_pos (eqI_p (hy5_49) (li_0) (by omega))) ?_
            refine rsr (jv_e) ?_
            try dsimp only
            refine rsr (gtI_q (w := iI 0) (rk_160 (hR.fr FR49)) (w49_41)) ?_
            refine rsr (if_pos (eqI_p (rfl) (li_0) (by omega))) ?_
            refine rsr (gtI_q (w := iI ((kr (kd i49)))) (rk_160 (hR.fr FR49)) (w49_36)) ?_
            refine rsr (jn_v) ?_
            refine rsr (if_pos (krI_p (k := 41) (rfl) (li_41) (by omega) (by decide +kernel))) ?_
            refine rsr (jv_e) ?_
            refine rsr (vC_e (rk_160 (hR.fr FR49))) ?_
            refine rsr (cI_e (ar193_p (by omega) hS (hR.fr FR49) (w49_36) (w49_37) (w49_41) (li_1) (by omega))) ?_
            refine rsr (if_neg (eqI_n (rfl) (li_0) (by omega))) ?_
            refine rsr (gtI_q (w := iI (dp + 1)) (rk_160 (hR.fr FR49)) (w49_50)) ?_
            refine rsr (ptI_q (z := dp) (rk_160 (hR.fr FR49)) (cvI (sbI (rfl) (li_1)) (by omega))) ?_
            refine rsr (vC_e (rk_160 (hR.fr FR49).sI)) ?_
            refine RrV (nx_ok (by omega) hS (hR.fr FR49).sI (hT.fr (W := W_rx) (Fr.sI (by decide) FR49) (by decide) (by decide)) (fun i a b => (Fr.lc (W := W_rx) (Fr.sI (by decide) FR49) _ (by decide) _).trans (hW i a b)) (i := i49) ((sI_nej (by decide)).trans (w49_41)) ((sI_nej (by decide)).trans (w49_38)) (by omega) (by omega)) fun v Ma60 h60 => ?_
            obtain ⟨g60, e60_k0, e60_k1, e60_k2, p60_0⟩ := h60
            have f60 : Fr W_rx Mr Ma60 := Fr.t (Fr.sI (by decide) FR49) (Fr.m g60 (by decide))
            refine rsr (cV_e rfl) ?_
            refine rsr (jv_e) ?_
            try dsimp only
            refine rsr (gtP_q (w := some 206) (rk_160 (hR.fr f60)) (rf_60 (hR.fr f60))) ?_
            refine rsr (asI_q (n := 2000) (z := (u - 1)) (y := a49) (rk_206 (hR.fr f60)) (hw0) (by omega) (hy4_49)) ?_
            refine rsr (vC_e (rk_160 (hR.fr f60).sI)) ?_
            refine RrV (a202 (by omega) (hR.fr f60).sI ((sI_ne (by decide)).trans ((g60.i _ _ (by decide)).trans ((sI_nej (by decide)).trans (w49_43)))) ((sI_ne (by decide)).trans ((g60.i _ _ (by decide)).trans ((sI_nej (by decide)).trans ((FR49.i _ _ (by decide)).trans h49)))) ((sI_ne (by decide)).trans ((g60.i _ _ (by decide)).trans ((sI_nej (by decide)).trans ((FR49.i _ _ (by decide)).trans h48)))) (hw0) (li_4) (li_7) (by omega)) fun v Ma61 h61 => ?_
            obtain ⟨g61, e61_k0, p61_0, p61_1⟩ := h61
            have f61 : Fr W_rx Mr Ma61 := Fr.t (Fr.sI (inW_c (by decide) _) f60) (Fr.m g61 (by decide))
            refine rsr (cV_e rfl) ?_
            exact Rs.ok (Or.inl ⟨(i49 + 1), (e49 + 1), u49, uc49, (pu G49 e49 [7, 0, -2, (u - 1), ut, mu, a49]), (ps (pq (pq U49 9 (u - 1) a49) 5 (u - 1) a49) (u - 1) 4 4 e49), X49, f58, f61, ⟨(g58.i _ _ (by decide)).trans ((sI_ne (by decide)).trans ((sI_nej (by decide)).trans (sI_eq))), (g58.i _ _ (by decide)).trans ((sI_ne (by decide)).trans (sI_eq)), (g58.i _ _ (by decide)).trans ((sI_ne (by decide)).trans ((sI_nej (by decide)).trans ((sI_nej (by decide)).trans (q49_10)))), e58_k0, (g58.i _ _ (by decide)).trans ((sI_ne (by decide)).trans ((sI_nej (by decide)).trans ((sI_nej (by decide)).trans (q49_16)))), (g58.i _ _ (by decide)).trans ((sI_ne (by decide)).trans ((sI_nej (by decide)).trans ((sI_nej (by decide)).trans (q49_19))))⟩, ⟨(g61.i _ _ (by decide)).trans ((sI_ne (by decide)).trans (e60_k0)), (g61.i _ _ (by decide)).trans ((sI_ne (by decide)).trans (e60_k1)), (g61.i _ _ (by decide)).trans ((sI_ne (by decide)).trans (e60_k2)), (g61.i _ _ (by decide)).trans ((sI_ne (by decide)).trans ((g60.i _ _ (by decide)).trans ((sI_nej (by decide)).trans (w49_41)))), e61_k0, (g61.i _ _ (by decide)).trans ((sI_ne (by decide)).trans ((g60.i _ _ (by decide)).trans ((sI_nej (by decide)).trans (w49_51)))), (g61.i _ _ (by decide)).trans ((sI_ne (by decide)).trans ((g60.i _ _ (by decide)).trans ((sI_nej (by decide)).trans (w49_53)))), (g61.i _ _ (by decide)).trans ((sI_ne (by decide)).trans ((g60.i _ _ (by decide)).trans (sI_eq))), ((p60_0.fr (W := W_r1) (Fr.sI (inW_c (by decide) _) Fr.r) (by decide) (by decide)).fr g61 (by decide) (by decide))⟩, ⟨(CA1.em (ca49.fr (W := W_c1) (Fr.sI (inW_c (by decide) _) (Fr.sI (by decide) (Fr.sI (by decide) Fr.r))) (by decide)) (by omega) p58_0 rfl), (RA1.em (((ra49.fr (W := W_r0) (Fr.sI (by decide) Fr.r) (by decide)).fr g60 (by decide)).fr (W := W_r1) (Fr.sI (inW_c (by decide) _) Fr.r) (by decide)) (by omega) p61_0 rfl), ((lc49.fr (W := W_c1) (Fr.sI (inW_c (by decide) _) (Fr.sI (by decide) (Fr.sI (by decide) Fr.r))) (by decide)).fr g58 (by decide)), ((((lr49.fr (W := W_r0) (Fr.sI (by decide) Fr.r) (by decide)).fr g60 (by decide)).fr (W := W_r1) (Fr.sI (inW_c (by decide) _) Fr.r) (by decide)).fr g61 (by decide)), (CU.set (b := 4) (CU.args (v := a49) (cu49.fr (W := W_c0) (Fr.sI (by decide) (Fr.sI (by decide) Fr.r)) (by decide)) ⟨by omega, by omega⟩ ((au49 0 _ (by omega)).trans hux)) ⟨by omega, by omega⟩ ((pq_k (by decide)).trans ((pq_k (by decide)).trans ((au49 0 _ (by omega)).trans hux))) p58_1 g58 (by decide)), (RU.set (RU.args (v := a49) ((ru49.fr (W := W_r0) (Fr.sI (by decide) Fr.r) (by decide)).fr g60 (by decide)) ⟨by omega, by omega⟩) ⟨by omega, by omega⟩ p61_1 g61 (by decide))⟩, ⟨by omega, by omega, by omega, by omega, by omega, by omega, by omega, by omega, by omega, by omega, by omega, by omega⟩, ⟨by omega, by omega, by omega, by omega, by omega, by omega⟩, (Ag.pu ag49 (by omega)), (Ag.ps (Ag.pq (Ag.pq (Ag.t Ag.r au49 (by omega)) (by omega)) (by omega)) (by omega)), ax49, ty56, du57, ((ku49.fr (W := W_c1) (Fr.sI (inW_c (by decide) _) (Fr.sI (by decide) (Fr.sI (by decide) Fr.r))) (by decide)).fr g58 (by decide))⟩)
          ·
            by_cases c62 : ((kd i49)) = 1
            ·
              refine rsl (cV_e (a64_1 (by omega) hS (hC.fr FL49) (hTk.fr (WL := W_cp) FL49 (by decide)) (q49_12) (q49_13) (q49_10) (li_41) (by omega))) ?_
              refine rsl (gtP_q (w := some 77) (ck_65 (hC.fr FL49).sI.sI.sI) (cf_65_17 (hC.fr FL49).sI.sI.sI)) ?_
              refine rsl (alP_q (n := 6) (z := 2) (w := some 80) (ck_77 (hC.fr FL49).sI.sI.sI) (li_2) (by omega) (cf_77_2 (hC.fr FL49).sI.sI.sI)) ?_
              refine rsl (asI_q (n := 1500) (z := x) (y := a49) (ck_80 (hC.fr FL49).sI.sI.sI) (hv0) (by omega) (hy1_49)) ?_
              refine rsl (vC_e (ck_65 (hC.fr FL49).sI.sI.sI.sI)) ?_
              refine RlV (y105 (by omega) (hC.fr FL49).sI.sI.sI.sI (hTk.fr (WL := W_cp) (Fr.sI (inW_c (by decide) _) (Fr.sI (by decide) (Fr.sI (by decide) (Fr.sI (by decide) FL49)))) (by decide)) ((sI_ne (by decide)).trans ((sI_nej (by decide)).trans ((sI_nej (by decide)).trans ((sI_nej (by decide)).trans (q49_12))))) ((sI_ne (by decide)).trans (sI_eq)) ((sI_ne (by decide)).trans ((sI_nej (by decide)).trans ((sI_nej (by decide)).trans (sI_eq)))) ((sI_ne (by decide)).trans ((sI_nej (by decide)).trans (sI_eq))) ((sI_ne (by decide)).trans ((sI_nej (by decide)).trans ((sI_nej (by decide)).trans ((sI_nej (by decide)).trans (q49_9))))) ((sI_ne (by decide)).trans ((sI_nej (by decide)).trans ((sI_nej (by decide)).trans ((sI_nej (by decide)).trans (q49_16))))) ((sI_ne (by decide)).trans ((sI_nej (by decide)).trans ((sI_nej (by decide)).trans ((sI_nej (by decide)).trans (q49_19))))) (hv0) (li_4) (li_7) (by omega)) fun v Ma64 h64 => ?_
              obtain ⟨sz63, sn63, uc63, g64, e64_sz63, e64_sn63, e64_uc63, e64_k0, e64_k1, e64_k2, e64_k3, p64_0, p64_1, p64_2⟩ := h64
              have f64 : Fr W_cp Mc Ma64 := Fr.t (Fr.sI (inW_c (by decide) _) (Fr.sI (by decide) (Fr.sI (by decide) (Fr.sI (by decide) FL49)))) (Fr.m g64 (by decide))
              refine rsl (cV_e rfl) ?_
              refine rsr (if_pos (eqI_p (hy5_49) (li_0) (by omega))) ?_
              refine rsr (jv_e) ?_
              try dsimp only
              refine rsr (gtI_q (w := iI 0) (rk_160 (hR.fr FR49)) (w49_41)) ?_
              refine rsr (if_pos (eqI_p (rfl) (li_0) (by omega))) ?_
              refine rsr (gtI_q (w := iI ((kr (kd i49)))) (rk_160 (hR.fr FR49)) (w49_36)) ?_
              refine rsr (jn_v) ?_
              refine rsr (if_neg (krI_n (k := 41) (rfl) (li_41) (hS.ok i49 (by omega) (by omega)) (by unfold KdOK sgk; omega) (by decide +kernel) (by omega) (by omega))) ?_
              refine rsr (jv_e) ?_
              refine rsr (vC_e (rk_160 (hR.fr FR49))) ?_
              refine rsr (cI_e (ar193_1 (by omega) hS (hR.fr FR49) (w49_36) (w49_37) (w49_41) (li_0) (by omega))) ?_
              refine rsr (if_pos (eqI_p (rfl) (li_0) (by omega))) ?_
              refine rsr (jv_e) ?_
              try dsimp only
              refine rsr (gtP_q (w := some 206) (rk_160 (hR.fr FR49).sI.sI) (rf_60 (hR.fr FR49).sI.sI)) ?_
              refine rsr (asI_q (n := 2000) (z := (u - 1)) (y := a49) (rk_206 (hR.fr FR49).sI.sI) (hw0) (by omega) (hy4_49)) ?_
              refine rsr (vC_e (rk_160 (hR.fr FR49).sI.sI.sI)) ?_
              refine RrV (x202_s (by omega) (hR.fr FR49).sI.sI.sI ((sI_ne (by decide)).trans ((sI_nej (by decide)).trans (sI_eq))) ((sI_ne (by decide)).trans (sI_eq)) ((sI_ne (by decide)).trans ((sI_nej (by decide)).trans ((sI_nej (by decide)).trans (w49_43)))) ((sI_ne (by decide)).trans ((sI_nej (by decide)).trans ((sI_nej (by decide)).trans (w49_51)))) ((sI_ne (by decide)).trans ((sI_nej (by decide)).trans ((sI_nej (by decide)).trans (w49_53)))) ((sI_ne (by decide)).trans ((sI_nej (by decide)).trans ((sI_nej (by decide)).trans ((FR49.i _ _ (by decide)).trans h48)))) ((sI_ne (by decide)).trans ((sI_nej (by decide)).trans ((sI_nej (by decide)).trans ((FR49.i _ _ (by decide)).trans h49)))) (hw0) (li_4) (li_7) (by omega)) fun v Ma66 h66 => ?_
              obtain ⟨em65, g66, e66_em65, e66_k0, e66_k1, e66_k2, e66_k3, e66_k4, p66_0⟩ := h66
              have f66 : Fr W_rp Mr Ma66 := Fr.t (Fr.sI (inW_c (by decide) _) (Fr.sI (by decide) (Fr.sI (by decide) (Fr.m FR49 (by decide))))) (Fr.m g66 (by decide))
              refine rsr (cV_e rfl) ?_
              exact Rs.ok (Or.inr ⟨1, ((pl i49)), f64, f66, ⟨i49, sz63, sn63, uc63, e64_k0, e64_k1, e64_k2, e64_k3, e64_sz63, e64_sn63, e64_uc63, by omega⟩, ⟨em65, s, u49, mu, ut, e66_k0, e66_k1, e66_em65, e66_k2, e66_k3, e66_k4, (g66.i _ _ (by decide)).trans ((sI_ne (by decide)).trans ((sI_nej (by decide)).trans ((sI_nej (by decide)).trans ((FR49.i _ _ (by decide)).trans h49)))), by omega⟩⟩)
            ·
              refine rsl (cV_e (a64_2 (by omega) hS (hC.fr FL49) (hTk.fr (WL := W_cp) FL49 (by decide)) (q49_12) (q49_13) (q49_10) (li_41) (by omega))) ?_
              refine rsl (gtP_q (w := some 77) (ck_65 (hC.fr FL49).sI.sI.sI) (cf_65_17 (hC.fr FL49).sI.sI.sI)) ?_
              refine rsl (alP_q (n := 6) (z := 2) (w := some 80) (ck_77 (hC.fr FL49).sI.sI.sI) (li_2) (by omega) (cf_77_2 (hC.fr FL49).sI.sI.sI)) ?_
              refine rsl (asI_q (n := 1500) (z := x) (y := a49) (ck_80 (hC.fr FL49).sI.sI.sI) (hv0) (by omega) (hy1_49)) ?_
              refine rsl (vC_e (ck_65 (hC.fr FL49).sI.sI.sI.sI)) ?_
              refine RlV (y105 (by omega) (hC.fr FL49).sI.sI.sI.sI (hTk.fr (WL := W_cp) (Fr.sI (inW_c (by decide) _) (Fr.sI (by decide) (Fr.sI (by decide) (Fr.sI (by decide) FL49)))) (by decide)) ((sI_ne (by decide)).trans ((sI_nej (by decide)).trans ((sI_nej (by decide)).trans ((sI_nej (by decide)).trans (q49_12))))) ((sI_ne (by decide)).trans (sI_eq)) ((sI_ne (by decide)).trans ((sI_nej (by decide)).trans ((sI_nej (by decide)).trans (sI_eq)))) ((sI_ne (by decide)).trans ((sI_nej (by decide)).trans (sI_eq))) ((sI_ne (by decide)).trans ((sI_nej (by decide)).trans ((sI_nej (by decide)).trans ((sI_nej (by decide)).trans (q49_9))))) ((sI_ne (by decide)).trans ((sI_nej (by decide)).trans ((sI_nej (by decide)).trans ((sI_nej (by decide)).trans (q49_16))))) ((sI_ne (by decide)).trans ((sI_nej (by decide)).trans ((sI_nej (by decide)).trans ((sI_nej (by decide)).trans (q49_19))))) (hv0) (li_4) (li_7) (by omega)) fun v Ma68 h68 => ?_
              obtain ⟨sz67, sn67, uc67, g68, e68_sz67, e68_sn67, e68_uc67, e68_k0, e68_k1, e68_k2, e68_k3, p68_0, p68_1, p68_2⟩ := h68
              have f68 : Fr W_cp Mc Ma68 := Fr.t (Fr.sI (inW_c (by decide) _) (Fr.sI (by decide) (Fr.sI (by decide) (Fr.sI (by decide) FL49)))) (Fr.m g68 (by decide))
              refine rsl (cV_e rfl) ?_
              refine rsr (if_pos (eqI_p (hy5_49) (li_0) (by omega))) ?_
              refine rsr (jv_e) ?_
              try dsimp only
              refine rsr (gtI_q (w := iI 0) (rk_160 (hR.fr FR49)) (w49_41)) ?_
              refine rsr (if_pos (eqI_p (rfl) (li_0) (by omega))) ?_
              refine rsr (gtI_q (w := iI ((kr (kd i49)))) (rk_160 (hR.fr FR49)) (w49_36)) ?_
              refine rsr (jn_v) ?_
              refine rsr (if_neg (krI_n (k := 41) (rfl) (li_41) (hS.ok i49 (by omega) (by omega)) (by unfold KdOK sgk; omega) (by decide +kernel) (by omega) (by omega))) ?_
              refine rsr (jv_e) ?_
              refine rsr (vC_e (rk_160 (hR.fr FR49))) ?_
              refine rsr (cI_e (ar193_2 (by omega) hS (hR.fr FR49) (w49_36) (w49_37) (w49_41) (li_0) (by omega))) ?_
              refine rsr (if_pos (eqI_p (rfl) (li_0) (by omega))) ?_
              refine rsr (jv_e) ?_
              try dsimp only
              refine rsr (gtP_q (w := some 206) (rk_160 (hR.fr FR49).sI.sI) (rf_60 (hR.fr FR49).sI.sI)) ?_
              refine rsr (asI_q (n := 2000) (z := (u - 1)) (y := a49) (rk_206 (hR.fr FR49).sI.sI) (hw0) (by omega) (hy4_49)) ?_
              refine rsr (vC_e (rk_160 (hR.fr FR49).sI.sI.sI)) ?_
              refine RrV (x202_s (by omega) (hR.fr FR49).sI.sI.sI ((sI_ne (by decide)).trans ((sI_nej (by decide)).trans (sI_eq))) ((sI_ne (by decide)).trans (sI_eq)) ((sI_ne (by decide)).trans ((sI_nej (by decide)).trans ((sI_nej (by decide)).trans (w49_43)))) ((sI_ne (by decide)).trans ((sI_nej (by decide)).trans ((sI_nej (by decide)).trans (w49_51)))) ((sI_ne (by decide)).trans ((sI_nej (by decide)).trans ((sI_nej (by decide)).trans (w49_53)))) ((sI_ne (by decide)).trans ((sI_nej (by decide)).trans ((sI_nej (by decide)).trans ((FR49.i _ _ (by decide)).trans h48)))) ((sI_ne (by decide)).trans ((sI_nej (by decide)).trans ((sI_nej (by decide)).trans ((FR49.i _ _ (by decide)).trans h49)))) (hw0) (li_4) (li_7) (by omega)) fun v Ma70 h70 => ?_
              obtain ⟨em69, g70, e70_em69, e70_k0, e70_k1, e70_k2, e70_k3, e70_k4, p70_0⟩ := h70
              have f70 : Fr W_rp Mr Ma70 := Fr.t (Fr.sI (inW_c (by decide) _) (Fr.sI (by decide) (Fr.sI (by decide) (Fr.m FR49 (by decide))))) (Fr.m g70 (by decide))
              refine rsr (cV_e rfl) ?_
              exact Rs.ok (Or.inr ⟨2, ((pl i49)), f68, f70, ⟨i49, sz67, sn67, uc67, e68_k0, e68_k1, e68_k2, e68_k3, e68_sz67, e68_sn67, e68_uc67, by omega⟩, ⟨em69, s, u49, mu, ut, e70_k0, e70_k1, e70_em69, e70_k2, e70_k3, e70_k4, (g70.i _ _ (by decide)).trans ((sI_ne (by decide)).trans ((sI_nej (by decide)).trans ((sI_nej (by decide)).trans ((FR49.i _ _ (by decide)).trans h49)))), by omega⟩⟩)
        · refine rsl (if_neg (eqI_n (hy2_49) (li_0) (by omega))) ?_
          refine rsl (vC_e (ck_65 (hC.fr FL49))) ?_
          refine rsr (if_neg (eqI_n (hy5_49) (li_0) (by omega))) ?_
          refine rsr (vC_e (rk_160 (hR.fr FR49))) ?_
          refine Rb_VV ((hE (by omega)) _ _ (by omega) (by omega) T n m kd pl E tx ua ut mu _ _ G49 U49 Hl X49 i49 e49 s u49 uc49 _ hS (hCx.fr FL49 FR49) ⟨q49_12, q49_13, q49_10, q49_9, q49_16, q49_19⟩ ⟨w49_36, w49_37, w49_38, w49_41, w49_43, w49_51, w49_53, w49_50, w49_n⟩ ⟨ca49, ra49, lc49, lr49, cu49, ru49⟩ ⟨by omega, by omega, by omega, by omega, by omega, by omega, by omega, by omega, by omega, by omega, by omega, by omega⟩ (vs2 (li_0) (adI (hv1) (li_1)))) fun v Mx71 w Nx71 hx71 => ?_
          rcases hx71 with ⟨i71, e71, u71, uc71, G71, U71, X71, fl71, fr71, sc71, sr71, rw71, bd71, mv71, ag71, au71, ax71, tp71, dp71, kv71⟩ | ⟨F71, P71, fl71, fr71, tc71, tr71⟩
          ·
            have FL71 : Fr W_cp Mc Mx71 := Fr.t FL49 fl71
            have FR71 : Fr W_rx Mr Nx71 := Fr.t FR49 fr71
            obtain ⟨bb71_0, bb71_1, bb71_2, bb71_3, bb71_4, bb71_5, bb71_6, bb71_7, bb71_8, bb71_9, bb71_10, bb71_11⟩ := bd71
            obtain ⟨q71_12, q71_13, q71_10, q71_9, q71_16, q71_19⟩ := sc71
            obtain ⟨w71_36, w71_37, w71_38, w71_41, w71_43, w71_51, w71_53, w71_50, w71_n⟩ := sr71
            obtain ⟨ca71, ra71, lc71, lr71, cu71, ru71⟩ := rw71
            have hk72 := (hS.ok i71 (by omega) (by omega)).r
            have ku71 := KU.t ku49 kv71 (by omega)
            have ty73 := Tye.t (d3 := (a49 + 1)) tp49 ag71 tp71 (by omega)
            have du74 := DU.t dp49 ag71 au71 ax71 dp71 (by omega)
            refine rsl (cV_e rfl) ?_
            refine rsr (cV_e rfl) ?_
            refine rsl (ltI_q (z := (a49 + 1)) (adI (hy1_49) (li_1))) ?_
            refine rsl (gtI_q (w := iI ((kd i71))) (ck_65 (hC.fr FL71)) (q71_13)) ?_
            refine rsl (jn_v) ?_
            by_cases c75 : ((kd i71)) = 44
            · refine rsl (if_pos (eqI_p (rfl) (li_44) (by omega))) ?_
              refine rsl (jv_e) ?_
              refine rsl (jn_v) ?_
              refine rsl (if_neg (eqI_n (li_1) (li_0) (by omega))) ?_
              refine rsl (vC_e (ck_65 (hC.fr FL71))) ?_
              have hm76 : i71 + 1 < m := hS.more i71 (by omega) (by omega) (by omega)
              refine rsl (cV_e (a63q (by omega) hS (hC.fr FL71) (hTk.fr (WL := W_cp) FL71 (by decide)) (q71_12) (q71_13) (q71_10) (i2 := (i71 + 1)) (by omega) (by omega))) ?_
              have hk77 := (hS.ok (i71 + 1) (by omega) (by omega)).r
              refine rsl (jv_e) ?_
              refine rsl (ltI_q (z := (k49 + 1)) (adI (hy3_49) (li_1))) ?_
              refine rsr (ltI_q (z := (a49 + 1)) (adI (hy4_49) (li_1))) ?_
              refine rsr (gtI_q (w := iI 0) (rk_160 (hR.fr FR71)) (w71_41)) ?_
              refine rsr (jn_v) ?_
              refine rsr (jn_v) ?_
              refine rsr (if_pos (eqI_p (rfl) (li_0) (by omega))) ?_
              refine rsr (gtI_q (w := iI ((kr (kd i71)))) (rk_160 (hR.fr FR71)) (w71_36)) ?_
              refine rsr (if_pos (krI_p (k := 44) (rfl) (li_44) (by omega) (by decide +kernel))) ?_
              refine rsr (jv_e) ?_
              refine rsr (if_neg (eqI_n (li_1) (li_0) (by omega))) ?_
              refine rsr (vC_e (rk_160 (hR.fr FR71))) ?_
              refine RrV (nx_ok (by omega) hS (hR.fr FR71) (hT.fr (W := W_rx) FR71 (by decide) (by decide)) (fun i a b => (Fr.lc (W := W_rx) FR71 _ (by decide) _).trans (hW i a b)) (i := i71) (w71_41) (w71_38) (by omega) (by omega)) fun v Ma79 h79 => ?_
              obtain ⟨g79, e79_k0, e79_k1, e79_k2, p79_0⟩ := h79
              have f79 : Fr W_rx Mr Ma79 := Fr.t FR71 (Fr.m g79 (by decide))
              refine rsr (cV_e rfl) ?_
              exact hgo (m - i71).toNat _ _ (by omega) (Or.inl ⟨(a49 + 1), 1, (k49 + 1), (i71 + 1), rfl, li_1, rfl, rfl, li_1, by omega, by omega, by omega, ⟨e71, u71, uc71, G71, U71, X71, (Fr.sI (by decide) (Fr.sI (by decide) FL71)), f79, ⟨(sI_nej (by decide)).trans (sI_eq), sI_eq, (sI_nej (by decide)).trans ((sI_nej (by decide)).trans (q71_10)), (sI_nej (by decide)).trans ((sI_nej (by decide)).trans (q71_9)), (sI_nej (by decide)).trans ((sI_nej (by decide)).trans (q71_16)), (sI_nej (by decide)).trans ((sI_nej (by decide)).trans (q71_19))⟩, ⟨e79_k0, e79_k1, e79_k2, (g79.i _ _ (by decide)).trans (w71_41), (g79.i _ _ (by decide)).trans (w71_43), (g79.i _ _ (by decide)).trans (w71_51), (g79.i _ _ (by decide)).trans (w71_53), (g79.i _ _ (by decide)).trans (w71_50), p79_0⟩, ⟨(ca71.fr (W := W_c0) (Fr.sI (by decide) (Fr.sI (by decide) Fr.r)) (by decide)), (ra71.fr g79 (by decide)), (lc71.fr (W := W_c0) (Fr.sI (by decide) (Fr.sI (by decide) Fr.r)) (by decide)), (lr71.fr g79 (by decide)), (cu71.fr (W := W_c0) (Fr.sI (by decide) (Fr.sI (by decide) Fr.r)) (by decide)), (ru71.fr g79 (by decide))⟩, ⟨by omega, by omega, by omega, by omega, by omega, by omega, by omega, by omega, by omega, by omega, by omega, by omega⟩, ⟨by omega, by omega, by omega, by omega, by omega, by omega⟩, (Ag.t ag49 ag71 (by omega)), (Ag.t (Ag.t Ag.r au49 (by omega)) au71 (by omega)), (AgL.t ax49 ax71 (by omega)), ty73, du74, (ku71.fr (W := W_c0) (Fr.sI (by decide) (Fr.sI (by decide) Fr.r)) (by decide))⟩, by omega⟩)
            · refine rsl (if_neg (eqI_n (rfl) (li_44) (by omega))) ?_
              refine rsl (jv_e) ?_
              refine rsl (jn_v) ?_
              refine rsl (if_pos (eqI_p (li_0) (li_0) (by omega))) ?_
              refine rsl (jv_e) ?_
              refine rsl (ltI_q (z := (k49 + 1)) (adI (hy3_49) (li_1))) ?_
              refine rsr (ltI_q (z := (a49 + 1)) (adI (hy4_49) (li_1))) ?_
              refine rsr (gtI_q (w := iI 0) (rk_160 (hR.fr FR71)) (w71_41)) ?_
              refine rsr (jn_v) ?_
              refine rsr (jn_v) ?_
              refine rsr (if_pos (eqI_p (rfl) (li_0) (by omega))) ?_
              refine rsr (gtI_q (w := iI ((kr (kd i71)))) (rk_160 (hR.fr FR71)) (w71_36)) ?_
              refine rsr (if_neg (krI_n (k := 44) (rfl) (li_44) (hS.ok i71 (by omega) (by omega)) (by unfold KdOK sgk; omega) (by decide +kernel) (by omega) (by omega))) ?_
              refine rsr (jv_e) ?_
              refine rsr (jv_e) ?_
              refine rsr (if_pos (eqI_p (li_0) (li_0) (by omega))) ?_
              exact hgo (m - i71 + 1).toNat _ _ (by omega) (Or.inl ⟨(a49 + 1), 0, (k49 + 1), i71, rfl, li_0, rfl, rfl, li_0, by omega, by omega, by omega, ⟨e71, u71, uc71, G71, U71, X71, FL71, FR71, ⟨q71_12, q71_13, q71_10, q71_9, q71_16, q71_19⟩, ⟨w71_36, w71_37, w71_38, w71_41, w71_43, w71_51, w71_53, w71_50, w71_n⟩, ⟨ca71, ra71, lc71, lr71, cu71, ru71⟩, ⟨by omega, by omega, by omega, by omega, by omega, by omega, by omega, by omega, by omega, by omega, by omega, by omega⟩, ⟨by omega, by omega, by omega, by omega, by omega, by omega⟩, (Ag.t ag49 ag71 (by omega)), (Ag.t (Ag.t Ag.r au49 (by omega)) au71 (by omega)), (AgL.t ax49 ax71 (by omega)), ty73, du74, ku71⟩, by omega⟩)
          ·
            have FL71 : Fr W_cp Mc Mx71 := Fr.t FL49 fl71
            have FR71 : Fr W_rp Mr Nx71 := Fr.t (Fr.m FR49 W_rx_p) fr71
            obtain ⟨ti71, tz71, tn71, tu71, t1371, t1071, t1171, t1271, t971, t1671, t1971, tb71⟩ := tc71
            obtain ⟨re71, rn71, ru71, rm71, rt71, u4171, u4271, u4371, u5171, u5371, u4871, u4971, ub71⟩ := tr71
            refine rsl (cV_e rfl) ?_
            refine rsr (cV_e rfl) ?_
            refine rsl (ltI_q (z := (a49 + 1)) (adI (hy1_49) (li_1))) ?_
            refine rsl (gtI_q (w := iI 2) (ck_65 (hC.fr FL71)) (t1371)) ?_
            refine rsl (jn_v) ?_
            refine rsl (if_neg (eqI_n (rfl) (li_44) (by omega))) ?_
            refine rsl (jv_e) ?_
            refine rsl (jn_v) ?_
            refine rsl (if_pos (eqI_p (li_0) (li_0) (by omega))) ?_
            refine rsl (jv_e) ?_
            refine rsl (ltI_q (z := (k49 + 1)) (adI (hy3_49) (li_1))) ?_
            refine rsr (ltI_q (z := (a49 + 1)) (adI (hy4_49) (li_1))) ?_
            refine rsr (gtI_q (w := iI F71) (rk_160 (hR.fr FR71)) (u4171)) ?_
            refine rsr (jn_v) ?_
            refine rsr (jn_v) ?_
            refine rsr (if_neg (eqI_n (rfl) (li_0) (by omega))) ?_
            refine rsr (jv_e) ?_
            refine rsr (jv_e) ?_
            refine rsr (if_pos (eqI_p (li_0) (li_0) (by omega))) ?_
            exact hgo 0 _ _ (by omega) (Or.inr ⟨(a49 + 1), (a49 + 1), (k49 + 1), F71, P71, rfl, li_0, rfl, rfl, li_0, by omega, FL71, FR71, ⟨ti71, tz71, tn71, tu71, t1371, t1071, t1171, t1271, t971, t1671, t1971, by omega⟩, ⟨re71, rn71, ru71, rm71, rt71, u4171, u4271, u4371, u5171, u5371, u4871, u4971, by omega⟩, rfl⟩)
      ·
        obtain ⟨a49, a249, k49, F49, P49, hy1_49, hy2_49, hy3_49, hy4_49, hy5_49, ⟨hka49, hkb49⟩, FL49, FR49, tc49, tr49, hm49⟩ := hq
        obtain ⟨ti49, tz49, tn49, tu49, t1349, t1049, t1149, t1249, t949, t1649, t1949, tb49⟩ := tc49
        obtain ⟨re49, rn49, ru49, rm49, rt49, u4149, u4249, u4349, u5149, u5349, u4849, u4949, ub49⟩ := tr49
        unfold c97_28 c204_35
        refine rsl (if_neg (leI_n (li_3000) (hy3_49) (by omega))) ?_
        refine rsl (if_pos (eqI_p (hy2_49) (li_0) (by omega))) ?_
        refine rsl (jv_e) ?_
        try dsimp only
        refine rsl (vC_e (ck_65 (hC.fr FL49))) ?_
        refine RlV (y64 (by omega) (hC.fr FL49) (hTk.fr (WL := W_cp) FL49 (by decide)) (t1249) (t1349) (t1049) (t1149) (t949) (t1649) (t1949) (li_41) (by omega)) fun v Ma81 h81 => ?_
        obtain ⟨sz80, sn80, uc80, g81, e81_sz80, e81_sn80, e81_uc80, e81_k0, e81_k1, e81_k2, e81_k3, p81_0, p81_1, p81_2⟩ := h81
        have f81 : Fr W_cp Mc Ma81 := Fr.t FL49 (Fr.m g81 (by decide))
        refine rsl (cV_e rfl) ?_
        refine rsl (gtP_q (w := some 77) (ck_65 (hC.fr f81)) (cf_65_17 (hC.fr f81))) ?_
        refine rsl (alP_q (n := 6) (z := 2) (w := some 80) (ck_77 (hC.fr f81)) (li_2) (by omega) (cf_77_2 (hC.fr f81))) ?_
        refine rsl (asI_q (n := 1500) (z := x) (y := a49) (ck_80 (hC.fr f81)) (hv0) (by omega) (hy1_49)) ?_
        refine rsl (vC_e (ck_65 (hC.fr f81).sI)) ?_
        refine RlV (y105 (by omega) (hC.fr f81).sI (hTk.fr (WL := W_cp) (Fr.sI (inW_c (by decide) _) f81) (by decide)) ((sI_ne (by decide)).trans (e81_k3)) ((sI_ne (by decide)).trans (e81_k0)) ((sI_ne (by decide)).trans (e81_k1)) ((sI_ne (by decide)).trans (e81_k2)) ((sI_ne (by decide)).trans (e81_sz80)) ((sI_ne (by decide)).trans (e81_sn80)) ((sI_ne (by decide)).trans (e81_uc80)) (hv0) (li_4) (li_7) (by omega)) fun v Ma83 h83 => ?_
        obtain ⟨sz82, sn82, uc82, g83, e83_sz82, e83_sn82, e83_uc82, e83_k0, e83_k1, e83_k2, e83_k3, p83_0, p83_1, p83_2⟩ := h83
        have f83 : Fr W_cp Mc Ma83 := Fr.t (Fr.sI (inW_c (by decide) _) f81) (Fr.m g83 (by decide))
        refine rsl (cV_e rfl) ?_
        refine rsr (if_pos (eqI_p (hy5_49) (li_0) (by omega))) ?_
        refine rsr (jv_e) ?_
        try dsimp only
        refine rsr (gtI_q (w := iI F49) (rk_160 (hR.fr FR49)) (u4149)) ?_
        refine rsr (if_neg (eqI_n (rfl) (li_0) (by omega))) ?_
        refine rsr (jv_e) ?_
        try dsimp only
        refine rsr (gtP_q (w := some 206) (rk_160 (hR.fr FR49)) (rf_60 (hR.fr FR49))) ?_
        refine rsr (asI_q (n := 2000) (z := (u - 1)) (y := a249) (rk_206 (hR.fr FR49)) (hw0) (by omega) (hy4_49)) ?_
        refine rsr (vC_e (rk_160 (hR.fr FR49).sI)) ?_
        refine RrV (x202_s (by omega) (hR.fr FR49).sI ((sI_ne (by decide)).trans (u4149)) ((sI_ne (by decide)).trans (u4249)) ((sI_ne (by decide)).trans (u4349)) ((sI_ne (by decide)).trans (u5149)) ((sI_ne (by decide)).trans (u5349)) ((sI_ne (by decide)).trans (u4849)) ((sI_ne (by decide)).trans (u4949)) (hw0) (li_4) (li_7) (by omega)) fun v Ma85 h85 => ?_
        obtain ⟨em84, g85, e85_em84, e85_k0, e85_k1, e85_k2, e85_k3, e85_k4, p85_0⟩ := h85
        have f85 : Fr W_rp Mr Ma85 := Fr.t (Fr.sI (inW_c (by decide) _) FR49) (Fr.m g85 (by decide))
        refine rsr (cV_e rfl) ?_
        exact Rs.ok (Or.inr ⟨F49, P49, f83, f85, ⟨ti49, sz82, sn82, uc82, e83_k0, e83_k1, e83_k2, e83_k3, e83_sz82, e83_sn82, e83_uc82, by omega⟩, ⟨em84, rn49, ru49, rm49, rt49, e85_k0, e85_k1, e85_em84, e85_k2, e85_k3, e85_k4, (g85.i _ _ (by decide)).trans ((sI_ne (by decide)).trans (u4949)), by omega⟩⟩)
  ·
    refine rsl (cV_e (a69_6 (by omega) hS hC (hTk.fr (WL := W_cp) Fr.r (by decide)) (qa_12) (qa_13) (qa_10) (li_40) (hv1) (by omega))) ?_
    refine rsl (gtI_q (w := iI 2) (ck_65 hC.sI.sI.sI) (sI_eq)) ?_
    refine rsl (jn_v) ?_
    refine rsl (if_neg (eqI_n (rfl) (li_41) (by omega))) ?_
    refine rsl (jv_e) ?_
    refine rsl (jn_v) ?_
    refine rsl (lp_e) ?_
    unfold c97_28
    refine rsl (if_neg (leI_n (li_3000) (li_0) (by omega))) ?_
    refine rsl (if_neg (eqI_n (li_1) (li_0) (by omega))) ?_
    refine rsl (vC_e (ck_65 hC.sI.sI.sI)) ?_
    refine RlV (y99_0 (by omega) hC.sI.sI.sI (hTk.fr (WL := W_cp) (Fr.sI (by decide) (Fr.sI (by decide) (Fr.sI (by decide) Fr.r))) (by decide)) ((sI_nej (by decide)).trans ((sI_nej (by decide)).trans ((sI_nej (by decide)).trans (qa_12)))) (sI_eq) ((sI_nej (by decide)).trans ((sI_nej (by decide)).trans (sI_eq))) ((sI_nej (by decide)).trans (sI_eq)) ((sI_nej (by decide)).trans ((sI_nej (by decide)).trans ((sI_nej (by decide)).trans (qa_9)))) ((sI_nej (by decide)).trans ((sI_nej (by decide)).trans ((sI_nej (by decide)).trans (qa_16)))) ((sI_nej (by decide)).trans ((sI_nej (by decide)).trans ((sI_nej (by decide)).trans (qa_19)))) (li_0) (adI (hv1) (li_1)) (by omega)) fun v Ma87 h87 => ?_
    obtain ⟨sz86, sn86, uc86, g87, e87_sz86, e87_sn86, e87_uc86, e87_k0, e87_k1, e87_k2, e87_k3, p87_0, p87_1, p87_2⟩ := h87
    have f87 : Fr W_cp Mc Ma87 := Fr.t (Fr.sI (by decide) (Fr.sI (by decide) (Fr.sI (by decide) Fr.r))) (Fr.m g87 (by decide))
    refine rsl (cV_e rfl) ?_
    refine rsl (ltI_q (z := 1) (cvI (adI (li_0) (li_1)) (by omega))) ?_
    refine rsl (gtI_q (w := iI 2) (ck_65 (hC.fr f87)) (e87_k0)) ?_
    refine rsl (jn_v) ?_
    refine rsl (if_neg (eqI_n (rfl) (li_44) (by omega))) ?_
    refine rsl (jv_e) ?_
    refine rsl (jn_v) ?_
    refine rsl (if_pos (eqI_p (li_0) (li_0) (by omega))) ?_
    refine rsl (jv_e) ?_
    refine rsl (ltI_q (z := 1) (cvI (adI (li_0) (li_1)) (by omega))) ?_
    refine rsl (lp_e) ?_
    refine rsl (if_neg (leI_n (li_3000) (rfl) (by omega))) ?_
    refine rsl (if_pos (eqI_p (li_0) (li_0) (by omega))) ?_
    refine rsl (jv_e) ?_
    try dsimp only
    refine rsl (vC_e (ck_65 (hC.fr f87))) ?_
    refine RlV (y64 (by omega) (hC.fr f87) (hTk.fr (WL := W_cp) f87 (by decide)) (e87_k3) (e87_k0) (e87_k1) (e87_k2) (e87_sz86) (e87_sn86) (e87_uc86) (li_41) (by omega)) fun v Ma89 h89 => ?_
    obtain ⟨sz88, sn88, uc88, g89, e89_sz88, e89_sn88, e89_uc88, e89_k0, e89_k1, e89_k2, e89_k3, p89_0, p89_1, p89_2⟩ := h89
    have f89 : Fr W_cp Mc Ma89 := Fr.t f87 (Fr.m g89 (by decide))
    refine rsl (cV_e rfl) ?_
    refine rsl (gtP_q (w := some 77) (ck_65 (hC.fr f89)) (cf_65_17 (hC.fr f89))) ?_
    refine rsl (alP_q (n := 6) (z := 2) (w := some 80) (ck_77 (hC.fr f89)) (li_2) (by omega) (cf_77_2 (hC.fr f89))) ?_
    refine rsl (asI_q (n := 1500) (z := x) (y := 1) (ck_80 (hC.fr f89)) (hv0) (by omega) (rfl)) ?_
    refine rsl (vC_e (ck_65 (hC.fr f89).sI)) ?_
    refine RlV (y105 (by omega) (hC.fr f89).sI (hTk.fr (WL := W_cp) (Fr.sI (inW_c (by decide) _) f89) (by decide)) ((sI_ne (by decide)).trans (e89_k3)) ((sI_ne (by decide)).trans (e89_k0)) ((sI_ne (by decide)).trans (e89_k1)) ((sI_ne (by decide)).trans (e89_k2)) ((sI_ne (by decide)).trans (e89_sz88)) ((sI_ne (by decide)).trans (e89_sn88)) ((sI_ne (by decide)).trans (e89_uc88)) (hv0) (li_4) (li_7) (by omega)) fun v Ma91 h91 => ?_
    obtain ⟨sz90, sn90, uc90, g91, e91_sz90, e91_sn90, e91_uc90, e91_k0, e91_k1, e91_k2, e91_k3, p91_0, p91_1, p91_2⟩ := h91
    have f91 : Fr W_cp Mc Ma91 := Fr.t (Fr.sI (inW_c (by decide) _) f89) (Fr.m g91 (by decide))
    refine rsl (cV_e rfl) ?_
    refine rsr (vC_e (rk_160 hR)) ?_
    refine rsr (cI_e (ar200_6 (by omega) hS hR (wa_36) (wa_37) (wa_41) (wa_50) (by omega))) ?_
    refine rsr (jn_v) ?_
    refine rsr (if_pos (eqI_p (rfl) (li_0) (by omega))) ?_
    refine rsr (jv_e) ?_
    try dsimp only
    refine rsr (gtP_q (w := some 206) (rk_160 hR.sI.sI.sI) (rf_60 hR.sI.sI.sI)) ?_
    refine rsr (asI_q (n := 2000) (z := (u - 1)) (y := 0) (rk_206 hR.sI.sI.sI) (hw0) (by omega) (li_0)) ?_
    refine rsr (vC_e (rk_160 hR.sI.sI.sI.sI)) ?_
    refine RrV (x202_s (by omega) hR.sI.sI.sI.sI ((sI_ne (by decide)).trans ((sI_nej (by decide)).trans (sI_eq))) ((sI_ne (by decide)).trans (sI_eq)) ((sI_ne (by decide)).trans ((sI_nej (by decide)).trans ((sI_nej (by decide)).trans ((sI_nej (by decide)).trans (wa_43))))) ((sI_ne (by decide)).trans ((sI_nej (by decide)).trans ((sI_nej (by decide)).trans ((sI_nej (by decide)).trans (wa_51))))) ((sI_ne (by decide)).trans ((sI_nej (by decide)).trans ((sI_nej (by decide)).trans ((sI_nej (by decide)).trans (wa_53))))) ((sI_ne (by decide)).trans ((sI_nej (by decide)).trans ((sI_nej (by decide)).trans ((sI_nej (by decide)).trans (h48))))) ((sI_ne (by decide)).trans ((sI_nej (by decide)).trans ((sI_nej (by decide)).trans ((sI_nej (by decide)).trans (h49))))) (hw0) (li_4) (li_7) (by omega)) fun v Ma93 h93 => ?_
    obtain ⟨em92, g93, e93_em92, e93_k0, e93_k1, e93_k2, e93_k3, e93_k4, p93_0⟩ := h93
    have f93 : Fr W_rp Mr Ma93 := Fr.t (Fr.sI (inW_c (by decide) _) (Fr.sI (by decide) (Fr.sI (by decide) (Fr.sI (by decide) Fr.r)))) (Fr.m g93 (by decide))
    refine rsr (cV_e rfl) ?_
    exact Rs.ok (Or.inr ⟨6, ((pl i)), f91, f93, ⟨i, sz90, sn90, uc90, e91_k0, e91_k1, e91_k2, e91_k3, e91_sz90, e91_sn90, e91_uc90, by omega⟩, ⟨em92, s, u, mu, ut, e93_k0, e93_k1, e93_em92, e93_k2, e93_k3, e93_k4, (g93.i _ _ (by decide)).trans ((sI_ne (by decide)).trans ((sI_nej (by decide)).trans ((sI_nej (by decide)).trans ((sI_nej (by decide)).trans (h49))))), by omega⟩⟩)
