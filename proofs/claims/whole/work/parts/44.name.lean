/-! a NAME in an expression -/
theorem CU.loc2 {M M2 : Mem} {U : Nat → Int → Int} {X : Nat → Int → Int64} {u uc x e : Int} {W : List (Nat × Nat)} (h : CU M U X u uc) (hx : ∀ j, 0 ≤ j → j < u → U 0 j < x) (g : SetC M M2 x 0 e) (f : Fr W M M2) (w : ∀ z, z ∈ W → z.1 ≠ 80 ∧ z.1 ≠ 81 ∧ z.1 ≠ 82 ∧ z.1 ≠ 83 ∧ z.1 ≠ 85 ∧ z.1 ≠ 86) : CU M2 U X u uc := by
  obtain ⟨h1, h2, h3⟩ := h
  refine ⟨fun t a c => ?_, h2, fun y a c d => ?_⟩
  · obtain ⟨k, e1, e2, e3, e4, e5, e6, e7, e8⟩ := h1 t a c
    have := hx t a c
    exact ⟨k, (g.1 _ (by omega)).1.trans e1, (g.1 _ (by omega)).2.trans e2, (f.c _ (fun z y => (w z y).1) _).trans e3, (f.c _ (fun z y => (w z y).2.1) _).trans e4, (f.c _ (fun z y => (w z y).2.2.1) _).trans e5, (f.c _ (fun z y => (w z y).2.2.2.1) _).trans e6, (f.lc _ (fun z y => (w z y).2.2.2.2.1) _).trans e7, (f.lc _ (fun z y => (w z y).2.2.2.2.2) _).trans e8⟩
  · by_cases c2 : y.toNat = x.toNat
    · rw [c2]; exact g.2.1
    · exact (g.1 _ c2).1.trans (h3 y a c d)
/-- behind a call: its use, which was pending, is settled -/
def PKc (m : Int) (kd pl E : Int → Int) (tx : Int → Int64) (Mc Mr : Mem) (G U : Nat → Int → Int) (Hl : Int → Int64) (X : Nat → Int → Int64) (i e s u uc dp : Int) (Mc' Mr' : Mem) (i' : Int) : Prop := ∃ (e' u' uc' : Int) (G' U' : Nat → Int → Int) (X' : Nat → Int → Int64), Fr W_cp Mc Mc' ∧ Fr W_rx Mr Mr' ∧ SC Mc' kd i' e' s uc' ∧ SR Mr' kd pl E tx i' e' s u' dp ∧ RW Mc' Mr' G' U' Hl X' e' s u' uc' ∧ BD m i' e' s u' uc' dp ∧ (i < i' ∧ e ≤ e' ∧ e' - e ≤ i' - i ∧ u ≤ u' ∧ uc' - uc ≤ i' - i ∧ uc ≤ uc') ∧ Ag G G' e ∧ Ag U U' (u - 1) ∧ AgL X X' u
def POc (m : Int) (kd pl E : Int → Int) (tx : Int → Int64) (Mc Mr : Mem) (G U : Nat → Int → Int) (Hl : Int → Int64) (X : Nat → Int → Int64) (i e s u uc dp b : Int) (Mc' Mr' : Mem) : Prop := (∃ i' : Int, PKc m kd pl E tx Mc Mr G U Hl X i e s u uc dp Mc' Mr' i') ∨ ∃ F P : Int, Fr W_cp Mc Mc' ∧ Fr W_rp Mr Mr' ∧ FTc m F P Mc' ∧ FTr b F P Mr'
def PairC (D : Nat) (off : Int) (dp : Int) : Prop := ∀ (d d' : Nat), D ≤ d → D ≤ d' → ∀ (T : Int → Int) (n m : Int) (kd pl E : Int → Int) (tx : Int → Int64) (ua : Nat) (ut mu : Int) (Mc Mr : Mem) (G U : Nat → Int → Int) (Hl : Int → Int64) (X : Nat → Int → Int64) (i e s u uc : Int) (x : Int) (v0 v1 w0 : Int32), TkS T n m kd pl E tx → Cx T n m kd pl tx ua ut mu Mc Mr → SC Mc kd i e s uc → SR Mr kd pl E tx i e s u dp → RW Mc Mr G U Hl X e s u uc → BD m i e s u uc dp → kd i = 40 → 1 ≤ u → U 0 (u - 1) = x → v0 = iI x → v1 = iI dp → w0 = iI (u - 1) → Rs (runX d 97 [va_rf (some 65), .int v0, .int v1] Mc) (runX d' 204 [va_rf (some 160), .int w0] Mr) (fun _ Mc' _ Mr' => POc m kd pl E tx Mc Mr G U Hl X i e s u uc dp (2500 - 30 * dp - off) Mc' Mr')
theorem p_n {D : Nat} {dp : Int} (hD : 20 ≤ D) (hX : PairK 91 D 98 [] 203 24 dp) (hCl : PairC D 24 dp) : PairK 3 (D + 1) 101 [] 205 22 dp := by
  intro d d2 hd hd2 T n m kd pl E tx ua ut mu Mc Mr G U Hl X i e s u uc vs hS hx hsc hsr hrw hbd hK hvs
  subst hvs
  obtain ⟨d, rfl⟩ : ∃ e, d = e + 1 := ⟨d - 1, by omega⟩
  obtain ⟨d2, rfl⟩ : ∃ e, d2 = e + 1 := ⟨d2 - 1, by omega⟩
  show Rs (runX (d + 1) 101 [va_rf (some 65), .int (iI dp)] Mc) (runX (d2 + 1) 205 [va_rf (some 160)] Mr) _
  rw [r101]; unfold b101; rw [aR_e, aI_e, aZ_e]; unfold c101; rw [r205]; unfold b205; rw [aR_e, aZ_e]; unfold c205
  have hCx := hx
  obtain ⟨hC, hR, hTk, hT, hW, ⟨hu1, hu2, hu3, hu4⟩, h49, h48, ⟨hb1, hb2, hb3, hb4⟩⟩ := hx
  obtain ⟨bb_0, bb_1, bb_2, bb_3, bb_4, bb_5, bb_6, bb_7, bb_8, bb_9, bb_10, bb_11⟩ := hbd
  obtain ⟨qa_12, qa_13, qa_10, qa_9, qa_16, qa_19⟩ := hsc
  obtain ⟨wa_36, wa_37, wa_38, wa_41, wa_43, wa_51, wa_53, wa_50, wa_n⟩ := hsr
  obtain ⟨caa, raa, lca, lra, cua, rua⟩ := hrw
  have hk1 := (hS.ok i (by omega) (by omega)).r
  refine rsl (vC_e (ck_65 hC)) ?_
  have hm2 : i + 1 < m := hS.more i (by omega) (by omega) (by omega)
  have hk3 := (hS.ok (i + 1) (by omega) (by omega)).r
  by_cases c4 : ((kd (i + 1))) = 46
  ·
    have hm5 : (i + 1) + 1 < m := hS.more (i + 1) (by omega) (by omega) (by omega)
    have hk6 := (hS.ok (i + 2) (by omega) (by omega)).r
    by_cases c7 : ((kd (i + 2))) = 3
    ·
      have hm8 : (i + 2) + 1 < m := hS.more (i + 2) (by omega) (by omega) (by omega)
      have hk9 := (hS.ok (i + 3) (by omega) (by omega)).r
      have hlt : ∀ j, 0 ≤ j → j < u → U 0 j < uc := fun j a b => (cua.1 j a b).1.2
      refine RlI (a104_d (by omega) hS hC (hTk.fr (WL := W_cp) Fr.r (by decide)) hu1 (by rw [(Fr.r : Fr W_cp Mc _).p]; exact hu2) (Fr.kd (W := W_cp) Fr.r hu3) ((Fr.i (W := W_cp) Fr.r _ _ (inW_hi (by decide) hu1 _)).trans hu4) (qa_12) (qa_13) (qa_10) (qa_19) (by omega)) fun v Ma11 h11 => ?_
      obtain ⟨r10, rfl, g11, e11_k0, e11_k1, e11_k2, e11_k3, p11_0, p11_1⟩ := h11
      have f11 : Fr W_cp Mc Ma11 := Fr.t Fr.r (Fr.m g11 (by decide))
      refine rsl (cI_e rfl) ?_
      refine rsl (gtI_q (w := iI ((kd (i + 3)))) (ck_65 (hC.fr f11)) (e11_k2)) ?_
      refine rsl (jn_v) ?_
      by_cases c12 : ((kd (i + 3))) = 40
      · refine rsl (if_pos (eqI_p (rfl) (li_40) (by omega))) ?_
        refine rsl (vC_e (ck_65 (hC.fr f11))) ?_
        refine rsr (vC_e (rk_160 hR)) ?_
        refine RrI (a201_d (by omega) hS hR (hT.fr (W := W_rx) Fr.r (by decide) (by decide)) (fun i a b => (Fr.lc (W := W_rx) Fr.r _ (by decide) _).trans (hW i a b)) (wa_36) (wa_37) (wa_38) (wa_41) (h49) (wa_53) wa_n (by omega)) fun v Ma14 h14 => ?_
        obtain ⟨r13, rfl, g14, e14_k0, e14_k1, e14_k2, e14_k3, e14_k4, p14_0, p14_1, p14_2⟩ := h14
        have f14 : Fr W_rx Mr Ma14 := Fr.t Fr.r (Fr.m g14 (by decide))
        refine rsr (cI_e rfl) ?_
        refine rsr (gtI_q (w := iI 0) (rk_160 (hR.fr f14)) (e14_k4)) ?_
        refine rsr (if_pos (eqI_p (rfl) (li_0) (by omega))) ?_
        refine rsr (gtP_q (w := some 202) (rk_160 (hR.fr f14)) (rf_56 (hR.fr f14))) ?_
        refine rsr (alL_q (n := 2000) (z := u) (w := (tx i)) (rk_202 (hR.fr f14)) (congrArg iI p14_0) (by omega) (p14_1.2.2.2.1)) ?_
        refine rsr (jn_v) ?_
        by_cases c15 : (tx i) = (0 : Int64)
        ·
          refine rsr (if_pos (lgc_p (rfl) (rfl) c15)) ?_
          refine rsr (gtP_q (w := some 204) (rk_160 (hR.fr f14)) (rf_58 (hR.fr f14))) ?_
          refine rsr (alL_q (n := 2000) (z := u) (w := (tx (i + 2))) (rk_204 (hR.fr f14)) (congrArg iI p14_0) (by omega) (p14_1.2.2.2.2.2.1)) ?_
          refine rsr (vC_e (rk_160 (hR.fr f14))) ?_
          obtain ⟨rl, hrl⟩ : ∃ r, LcF Hl s (tx (i + 2)) r := by have q := LcF_ex (Hl := Hl) (y := (tx (i + 2))) s.toNat; rw [show ((s.toNat : Nat) : Int) = s by omega] at q; exact q
          have brl := hrl.bd
          by_cases crl : rl = -1
          ·
            subst crl
            refine RrI (a197 (by omega) (hR.fr f14) ((g14.i _ _ (by decide)).trans (wa_51)) (lra.fr g14 (by decide)) (by omega)) fun v Nl16 hl16 => ?_
            obtain ⟨r9, rfl, hMl, hr9⟩ := hl16
            rw [hMl]
            have q9 := LcF.one hr9 hrl
            rw [q9]
            refine rsr (cI_e rfl) ?_
            refine rsr (jv_e) ?_
            try dsimp only
            refine rsr (gtI_q (w := iI ((kr (kd (i + 3))))) (rk_160 (hR.fr f14)) (e14_k1)) ?_
            refine rsr (jn_v) ?_
            refine rsr (if_pos (krI_p (k := 40) (rfl) (li_40) (by omega) (by decide +kernel))) ?_
            refine rsr (vC_e (rk_160 (hR.fr f14))) ?_
            refine Rb_VV (hCl _ _ (by omega) (by omega) T n m kd pl E tx ua ut mu _ _ G (pu U u [uc, (V Mr 201 u.toNat), (V Mr 200 u.toNat), (pl i), (pl (i + 2)), (V Mr 206 u.toNat), ut, 0, (V Mc 79 uc.toNat), (V Mc 80 uc.toNat), (pl i)]) Hl (pux X u [(tx i), (tx (i + 2))]) (i + 3) e s (u + 1) (uc + 1) _ _ _ hS (hCx.fr f11 f14) ⟨e11_k0, e11_k2, e11_k3, (g11.i _ _ (by decide)).trans (qa_9), (g11.i _ _ (by decide)).trans (qa_16), e11_k1⟩ ⟨e14_k1, e14_k2, e14_k3, e14_k4, (g14.i _ _ (by decide)).trans (wa_43), (g14.i _ _ (by decide)).trans (wa_51), e14_k0, (g14.i _ _ (by decide)).trans (wa_50), p14_2⟩ ⟨(caa.fr g11 (by decide)), (raa.fr g14 (by decide)), (lca.fr g11 (by decide)), (lra.fr g14 (by decide)), (CU.add cua (by omega) (by omega) p11_1 rfl rfl), (RU.add rua (by omega) p14_1 rfl)⟩ ⟨by omega, by omega, by omega, by omega, by omega, by omega, by omega, by omega, by omega, by omega, by omega, by omega⟩ (x := uc) (by omega) (by omega) (pu_e (by omega)) (congrArg iI p11_0) (rfl) (cvI (congrArg iI p14_0) (by omega))) fun v Mx17 w Nx17 hx17 => ?_
            rcases hx17 with ⟨i17, e17, u17, uc17, G17, U17, X17, fl17, fr17, sc17, sr17, rw17, bd17, mv17, ag17, au17, ax17⟩ | ⟨F17, P17, fl17, fr17, tc17, tr17⟩
            ·
              have FL17 : Fr W_cp Mc Mx17 := Fr.t f11 fl17
              have FR17 : Fr W_rx Mr Nx17 := Fr.t f14 fr17
              obtain ⟨bb17_0, bb17_1, bb17_2, bb17_3, bb17_4, bb17_5, bb17_6, bb17_7, bb17_8, bb17_9, bb17_10, bb17_11⟩ := bd17
              obtain ⟨q17_12, q17_13, q17_10, q17_9, q17_16, q17_19⟩ := sc17
              obtain ⟨w17_36, w17_37, w17_38, w17_41, w17_43, w17_51, w17_53, w17_50, w17_n⟩ := sr17
              obtain ⟨ca17, ra17, lc17, lr17, cu17, ru17⟩ := rw17
              have hk18 := (hS.ok i17 (by omega) (by omega)).r
              refine rsl (cV_e rfl) ?_
              refine rsr (cV_e rfl) ?_
              refine rsl (jv_e) ?_
              refine rsr (jv_e) ?_
              exact Rs.ok (Or.inl ⟨i17, e17, u17, uc17, G17, U17, X17, FL17, FR17, ⟨q17_12, q17_13, q17_10, q17_9, q17_16, q17_19⟩, ⟨w17_36, w17_37, w17_38, w17_41, w17_43, w17_51, w17_53, w17_50, w17_n⟩, ⟨ca17, ra17, lc17, lr17, cu17, ru17⟩, ⟨by omega, by omega, by omega, by omega, by omega, by omega, by omega, by omega, by omega, by omega, by omega, by omega⟩, ⟨by omega, by omega, by omega, by omega, by omega, by omega⟩, (Ag.t Ag.r ag17 (by omega)), (Ag.t (Ag.pu Ag.r (by omega)) au17 (by omega)), (AgL.t (AgL.pu AgL.r (by omega)) ax17 (by omega))⟩)
            ·
              have FL17 : Fr W_cp Mc Mx17 := Fr.t f11 fl17
              have FR17 : Fr W_rp Mr Nx17 := Fr.t (Fr.m f14 W_rx_p) fr17
              obtain ⟨ti17, tz17, tn17, tu17, t1317, t1017, t1117, t1217, t917, t1617, t1917, tb17⟩ := tc17
              obtain ⟨re17, rn17, ru17, rm17, rt17, u4117, u4217, u4317, u5117, u5317, u4817, u4917, ub17⟩ := tr17
              refine rsl (cV_e rfl) ?_
              refine rsr (cV_e rfl) ?_
              refine rsl (jv_e) ?_
              refine rsr (jv_e) ?_
              exact Rs.ok (Or.inr ⟨F17, P17, FL17, FR17, ⟨ti17, tz17, tn17, tu17, t1317, t1017, t1117, t1217, t917, t1617, t1917, by omega⟩, ⟨re17, rn17, ru17, rm17, rt17, u4117, u4217, u4317, u5117, u5317, u4817, u4917, by omega⟩⟩)
          ·
            refine RrI (a197 (by omega) (hR.fr f14) ((g14.i _ _ (by decide)).trans (wa_51)) (lra.fr g14 (by decide)) (by omega)) fun v Nl16 hl16 => ?_
            obtain ⟨r9, rfl, hMl, hr9⟩ := hl16
            rw [hMl]
            have q9 := LcF.one hr9 hrl
            rw [q9]
            refine rsr (cI_e rfl) ?_
            refine rsr (jv_e) ?_
            try dsimp only
            refine rsr (gtI_q (w := iI ((kr (kd (i + 3))))) (rk_160 (hR.fr f14)) (e14_k1)) ?_
            refine rsr (jn_v) ?_
            refine rsr (if_pos (krI_p (k := 40) (rfl) (li_40) (by omega) (by decide +kernel))) ?_
            refine rsr (vC_e (rk_160 (hR.fr f14))) ?_
            refine Rb_VV (hCl _ _ (by omega) (by omega) T n m kd pl E tx ua ut mu _ _ G (pu U u [uc, (V Mr 201 u.toNat), (V Mr 200 u.toNat), (pl i), (pl (i + 2)), (V Mr 206 u.toNat), ut, 0, (V Mc 79 uc.toNat), (V Mc 80 uc.toNat), (pl i)]) Hl (pux X u [(tx i), (tx (i + 2))]) (i + 3) e s (u + 1) (uc + 1) _ _ _ hS (hCx.fr f11 f14) ⟨e11_k0, e11_k2, e11_k3, (g11.i _ _ (by decide)).trans (qa_9), (g11.i _ _ (by decide)).trans (qa_16), e11_k1⟩ ⟨e14_k1, e14_k2, e14_k3, e14_k4, (g14.i _ _ (by decide)).trans (wa_43), (g14.i _ _ (by decide)).trans (wa_51), e14_k0, (g14.i _ _ (by decide)).trans (wa_50), p14_2⟩ ⟨(caa.fr g11 (by decide)), (raa.fr g14 (by decide)), (lca.fr g11 (by decide)), (lra.fr g14 (by decide)), (CU.add cua (by omega) (by omega) p11_1 rfl rfl), (RU.add rua (by omega) p14_1 rfl)⟩ ⟨by omega, by omega, by omega, by omega, by omega, by omega, by omega, by omega, by omega, by omega, by omega, by omega⟩ (x := uc) (by omega) (by omega) (pu_e (by omega)) (congrArg iI p11_0) (rfl) (cvI (congrArg iI p14_0) (by omega))) fun v Mx19 w Nx19 hx19 => ?_
            rcases hx19 with ⟨i19, e19, u19, uc19, G19, U19, X19, fl19, fr19, sc19, sr19, rw19, bd19, mv19, ag19, au19, ax19⟩ | ⟨F19, P19, fl19, fr19, tc19, tr19⟩
            ·
              have FL19 : Fr W_cp Mc Mx19 := Fr.t f11 fl19
              have FR19 : Fr W_rx Mr Nx19 := Fr.t f14 fr19
              obtain ⟨bb19_0, bb19_1, bb19_2, bb19_3, bb19_4, bb19_5, bb19_6, bb19_7, bb19_8, bb19_9, bb19_10, bb19_11⟩ := bd19
              obtain ⟨q19_12, q19_13, q19_10, q19_9, q19_16, q19_19⟩ := sc19
              obtain ⟨w19_36, w19_37, w19_38, w19_41, w19_43, w19_51, w19_53, w19_50, w19_n⟩ := sr19
              obtain ⟨ca19, ra19, lc19, lr19, cu19, ru19⟩ := rw19
              have hk20 := (hS.ok i19 (by omega) (by omega)).r
              refine rsl (cV_e rfl) ?_
              refine rsr (cV_e rfl) ?_
              refine rsl (jv_e) ?_
              refine rsr (jv_e) ?_
              exact Rs.ok (Or.inl ⟨i19, e19, u19, uc19, G19, U19, X19, FL19, FR19, ⟨q19_12, q19_13, q19_10, q19_9, q19_16, q19_19⟩, ⟨w19_36, w19_37, w19_38, w19_41, w19_43, w19_51, w19_53, w19_50, w19_n⟩, ⟨ca19, ra19, lc19, lr19, cu19, ru19⟩, ⟨by omega, by omega, by omega, by omega, by omega, by omega, by omega, by omega, by omega, by omega, by omega, by omega⟩, ⟨by omega, by omega, by omega, by omega, by omega, by omega⟩, (Ag.t Ag.r ag19 (by omega)), (Ag.t (Ag.pu Ag.r (by omega)) au19 (by omega)), (AgL.t (AgL.pu AgL.r (by omega)) ax19 (by omega))⟩)
            ·
              have FL19 : Fr W_cp Mc Mx19 := Fr.t f11 fl19
              have FR19 : Fr W_rp Mr Nx19 := Fr.t (Fr.m f14 W_rx_p) fr19
              obtain ⟨ti19, tz19, tn19, tu19, t1319, t1019, t1119, t1219, t919, t1619, t1919, tb19⟩ := tc19
              obtain ⟨re19, rn19, ru19, rm19, rt19, u4119, u4219, u4319, u5119, u5319, u4819, u4919, ub19⟩ := tr19
              refine rsl (cV_e rfl) ?_
              refine rsr (cV_e rfl) ?_
              refine rsl (jv_e) ?_
              refine rsr (jv_e) ?_
              exact Rs.ok (Or.inr ⟨F19, P19, FL19, FR19, ⟨ti19, tz19, tn19, tu19, t1319, t1019, t1119, t1219, t919, t1619, t1919, by omega⟩, ⟨re19, rn19, ru19, rm19, rt19, u4119, u4219, u4319, u5119, u5319, u4819, u4919, by omega⟩⟩)
        ·
          refine rsr (if_neg (lgc_n (rfl) (rfl) c15)) ?_
          refine rsr (jv_e) ?_
          try dsimp only
          refine rsr (gtI_q (w := iI ((kr (kd (i + 3))))) (rk_160 (hR.fr f14)) (e14_k1)) ?_
          refine rsr (jn_v) ?_
          refine rsr (if_pos (krI_p (k := 40) (rfl) (li_40) (by omega) (by decide +kernel))) ?_
          refine rsr (vC_e (rk_160 (hR.fr f14))) ?_
          refine Rb_VV (hCl _ _ (by omega) (by omega) T n m kd pl E tx ua ut mu _ _ G (pu U u [uc, (V Mr 201 u.toNat), (V Mr 200 u.toNat), (pl i), (pl (i + 2)), (V Mr 206 u.toNat), ut, 0, (V Mc 79 uc.toNat), (V Mc 80 uc.toNat), (pl i)]) Hl (pux X u [(tx i), (tx (i + 2))]) (i + 3) e s (u + 1) (uc + 1) _ _ _ hS (hCx.fr f11 f14) ⟨e11_k0, e11_k2, e11_k3, (g11.i _ _ (by decide)).trans (qa_9), (g11.i _ _ (by decide)).trans (qa_16), e11_k1⟩ ⟨e14_k1, e14_k2, e14_k3, e14_k4, (g14.i _ _ (by decide)).trans (wa_43), (g14.i _ _ (by decide)).trans (wa_51), e14_k0, (g14.i _ _ (by decide)).trans (wa_50), p14_2⟩ ⟨(caa.fr g11 (by decide)), (raa.fr g14 (by decide)), (lca.fr g11 (by decide)), (lra.fr g14 (by decide)), (CU.add cua (by omega) (by omega) p11_1 rfl rfl), (RU.add rua (by omega) p14_1 rfl)⟩ ⟨by omega, by omega, by omega, by omega, by omega, by omega, by omega, by omega, by omega, by omega, by omega, by omega⟩ (x := uc) (by omega) (by omega) (pu_e (by omega)) (congrArg iI p11_0) (rfl) (cvI (congrArg iI p14_0) (by omega))) fun v Mx21 w Nx21 hx21 => ?_
          rcases hx21 with ⟨i21, e21, u21, uc21, G21, U21, X21, fl21, fr21, sc21, sr21, rw21, bd21, mv21, ag21, au21, ax21⟩ | ⟨F21, P21, fl21, fr21, tc21, tr21⟩
          ·
            have FL21 : Fr W_cp Mc Mx21 := Fr.t f11 fl21
            have FR21 : Fr W_rx Mr Nx21 := Fr.t f14 fr21
            obtain ⟨bb21_0, bb21_1, bb21_2, bb21_3, bb21_4, bb21_5, bb21_6, bb21_7, bb21_8, bb21_9, bb21_10, bb21_11⟩ := bd21
            obtain ⟨q21_12, q21_13, q21_10, q21_9, q21_16, q21_19⟩ := sc21
            obtain ⟨w21_36, w21_37, w21_38, w21_41, w21_43, w21_51, w21_53, w21_50, w21_n⟩ := sr21
            obtain ⟨ca21, ra21, lc21, lr21, cu21, ru21⟩ := rw21
            have hk22 := (hS.ok i21 (by omega) (by omega)).r
            refine rsl (cV_e rfl) ?_
            refine rsr (cV_e rfl) ?_
            refine rsl (jv_e) ?_
            refine rsr (jv_e) ?_
            exact Rs.ok (Or.inl ⟨i21, e21, u21, uc21, G21, U21, X21, FL21, FR21, ⟨q21_12, q21_13, q21_10, q21_9, q21_16, q21_19⟩, ⟨w21_36, w21_37, w21_38, w21_41, w21_43, w21_51, w21_53, w21_50, w21_n⟩, ⟨ca21, ra21, lc21, lr21, cu21, ru21⟩, ⟨by omega, by omega, by omega, by omega, by omega, by omega, by omega, by omega, by omega, by omega, by omega, by omega⟩, ⟨by omega, by omega, by omega, by omega, by omega, by omega⟩, (Ag.t Ag.r ag21 (by omega)), (Ag.t (Ag.pu Ag.r (by omega)) au21 (by omega)), (AgL.t (AgL.pu AgL.r (by omega)) ax21 (by omega))⟩)
          ·
            have FL21 : Fr W_cp Mc Mx21 := Fr.t f11 fl21
            have FR21 : Fr W_rp Mr Nx21 := Fr.t (Fr.m f14 W_rx_p) fr21
            obtain ⟨ti21, tz21, tn21, tu21, t1321, t1021, t1121, t1221, t921, t1621, t1921, tb21⟩ := tc21
            obtain ⟨re21, rn21, ru21, rm21, rt21, u4121, u4221, u4321, u5121, u5321, u4821, u4921, ub21⟩ := tr21
            refine rsl (cV_e rfl) ?_
            refine rsr (cV_e rfl) ?_
            refine rsl (jv_e) ?_
            refine rsr (jv_e) ?_
            exact Rs.ok (Or.inr ⟨F21, P21, FL21, FR21, ⟨ti21, tz21, tn21, tu21, t1321, t1021, t1121, t1221, t921, t1621, t1921, by omega⟩, ⟨re21, rn21, ru21, rm21, rt21, u4121, u4221, u4321, u5121, u5321, u4821, u4921, by omega⟩⟩)
      · refine rsl (if_neg (eqI_n (rfl) (li_40) (by omega))) ?_
        refine rsl (gtI_q (w := iI ((kd (i + 3)))) (ck_65 (hC.fr f11)) (e11_k2)) ?_
        by_cases c23 : ((kd (i + 3))) = 91
        · refine rsl (if_pos (eqI_p (rfl) (li_91) (by omega))) ?_
          refine rsl (vC_e (ck_65 (hC.fr f11))) ?_
          refine rsr (vC_e (rk_160 hR)) ?_
          refine RrI (a201_d (by omega) hS hR (hT.fr (W := W_rx) Fr.r (by decide) (by decide)) (fun i a b => (Fr.lc (W := W_rx) Fr.r _ (by decide) _).trans (hW i a b)) (wa_36) (wa_37) (wa_38) (wa_41) (h49) (wa_53) wa_n (by omega)) fun v Ma25 h25 => ?_
          obtain ⟨r24, rfl, g25, e25_k0, e25_k1, e25_k2, e25_k3, e25_k4, p25_0, p25_1, p25_2⟩ := h25
          have f25 : Fr W_rx Mr Ma25 := Fr.t Fr.r (Fr.m g25 (by decide))
          refine rsr (cI_e rfl) ?_
          refine rsr (gtI_q (w := iI 0) (rk_160 (hR.fr f25)) (e25_k4)) ?_
          refine rsr (if_pos (eqI_p (rfl) (li_0) (by omega))) ?_
          refine rsr (gtP_q (w := some 202) (rk_160 (hR.fr f25)) (rf_56 (hR.fr f25))) ?_
          refine rsr (alL_q (n := 2000) (z := u) (w := (tx i)) (rk_202 (hR.fr f25)) (congrArg iI p25_0) (by omega) (p25_1.2.2.2.1)) ?_
          refine rsr (jn_v) ?_
          by_cases c26 : (tx i) = (0 : Int64)
          ·
            refine rsr (if_pos (lgc_p (rfl) (rfl) c26)) ?_
            refine rsr (gtP_q (w := some 204) (rk_160 (hR.fr f25)) (rf_58 (hR.fr f25))) ?_
            refine rsr (alL_q (n := 2000) (z := u) (w := (tx (i + 2))) (rk_204 (hR.fr f25)) (congrArg iI p25_0) (by omega) (p25_1.2.2.2.2.2.1)) ?_
            refine rsr (vC_e (rk_160 (hR.fr f25))) ?_
            obtain ⟨rl, hrl⟩ : ∃ r, LcF Hl s (tx (i + 2)) r := by have q := LcF_ex (Hl := Hl) (y := (tx (i + 2))) s.toNat; rw [show ((s.toNat : Nat) : Int) = s by omega] at q; exact q
            have brl := hrl.bd
            by_cases crl : rl = -1
            ·
              subst crl
              refine RrI (a197 (by omega) (hR.fr f25) ((g25.i _ _ (by decide)).trans (wa_51)) (lra.fr g25 (by decide)) (by omega)) fun v Nl27 hl27 => ?_
              obtain ⟨r9, rfl, hMl, hr9⟩ := hl27
              rw [hMl]
              have q9 := LcF.one hr9 hrl
              rw [q9]
              refine rsr (cI_e rfl) ?_
              refine rsr (jv_e) ?_
              try dsimp only
              refine rsr (gtI_q (w := iI ((kr (kd (i + 3))))) (rk_160 (hR.fr f25)) (e25_k1)) ?_
              refine rsr (jn_v) ?_
              refine rsr (if_neg (krI_n (k := 40) (rfl) (li_40) (hS.ok (i + 3) (by omega) (by omega)) (by unfold KdOK sgk; omega) (by decide +kernel) (by omega) (by omega))) ?_
              refine rsr (gtI_q (w := iI ((kr (kd (i + 3))))) (rk_160 (hR.fr f25)) (e25_k1)) ?_
              refine rsr (if_pos (krI_p (k := 91) (rfl) (li_91) (by omega) (by decide +kernel))) ?_
              refine rsr (vC_e (rk_160 (hR.fr f25))) ?_
              refine Rb_VV (hX _ _ (by omega) (by omega) T n m kd pl E tx ua ut mu _ _ G (pu U u [uc, (V Mr 201 u.toNat), (V Mr 200 u.toNat), (pl i), (pl (i + 2)), (V Mr 206 u.toNat), ut, 0, (V Mc 79 uc.toNat), (V Mc 80 uc.toNat), (pl i)]) Hl (pux X u [(tx i), (tx (i + 2))]) (i + 3) e s (u + 1) (uc + 1) _ hS (hCx.fr f11 f25) ⟨e11_k0, e11_k2, e11_k3, (g11.i _ _ (by decide)).trans (qa_9), (g11.i _ _ (by decide)).trans (qa_16), e11_k1⟩ ⟨e25_k1, e25_k2, e25_k3, e25_k4, (g25.i _ _ (by decide)).trans (wa_43), (g25.i _ _ (by decide)).trans (wa_51), e25_k0, (g25.i _ _ (by decide)).trans (wa_50), p25_2⟩ ⟨(caa.fr g11 (by decide)), (raa.fr g25 (by decide)), (lca.fr g11 (by decide)), (lra.fr g25 (by decide)), (CU.add cua (by omega) (by omega) p11_1 rfl rfl), (RU.add rua (by omega) p25_1 rfl)⟩ ⟨by omega, by omega, by omega, by omega, by omega, by omega, by omega, by omega, by omega, by omega, by omega, by omega⟩ (by omega) (vs1 (rfl))) fun v Mx28 w Nx28 hx28 => ?_
              rcases hx28 with ⟨i28, e28, u28, uc28, G28, U28, X28, fl28, fr28, sc28, sr28, rw28, bd28, mv28, ag28, au28, ax28⟩ | ⟨F28, P28, fl28, fr28, tc28, tr28⟩
              ·
                have FL28 : Fr W_cp Mc Mx28 := Fr.t f11 fl28
                have FR28 : Fr W_rx Mr Nx28 := Fr.t f25 fr28
                obtain ⟨bb28_0, bb28_1, bb28_2, bb28_3, bb28_4, bb28_5, bb28_6, bb28_7, bb28_8, bb28_9, bb28_10, bb28_11⟩ := bd28
                obtain ⟨q28_12, q28_13, q28_10, q28_9, q28_16, q28_19⟩ := sc28
                obtain ⟨w28_36, w28_37, w28_38, w28_41, w28_43, w28_51, w28_53, w28_50, w28_n⟩ := sr28
                obtain ⟨ca28, ra28, lc28, lr28, cu28, ru28⟩ := rw28
                have hk29 := (hS.ok i28 (by omega) (by omega)).r
                refine rsl (cV_e rfl) ?_
                refine rsr (cV_e rfl) ?_
                refine rsl (vC_e (ck_65 (hC.fr FL28))) ?_
                refine RlV (a105 (by omega) (hC.fr FL28) (q28_9) (congrArg iI p11_0) (li_3) (li_5) (by omega)) fun v Ma31 h31 => ?_
                obtain ⟨g31, e31_k0, p31_0, p31_1⟩ := h31
                have f31 : Fr W_cp Mc Ma31 := Fr.t FL28 (Fr.m g31 (by decide))
                refine rsl (cV_e rfl) ?_
                refine rsl (jv_e) ?_
                refine rsr (vC_e (rk_160 (hR.fr FR28))) ?_
                refine RrV (a202 (by omega) (hR.fr FR28) (w28_43) ((FR28.i _ _ (by decide)).trans h49) ((FR28.i _ _ (by decide)).trans h48) (congrArg iI p25_0) (li_2) (li_5) (by omega)) fun v Ma32 h32 => ?_
                obtain ⟨g32, e32_k0, p32_0, p32_1⟩ := h32
                have f32 : Fr W_rx Mr Ma32 := Fr.t FR28 (Fr.m g32 (by decide))
                refine rsr (cV_e rfl) ?_
                refine rsr (jv_e) ?_
                exact Rs.ok (Or.inl ⟨i28, (e28 + 1), u28, uc28, (pu G28 e28 [5, 0, -2, u, ut, mu, 0]), (ps U28 u 2 3 e28), X28, f31, f32, ⟨(g31.i _ _ (by decide)).trans (q28_12), (g31.i _ _ (by decide)).trans (q28_13), (g31.i _ _ (by decide)).trans (q28_10), e31_k0, (g31.i _ _ (by decide)).trans (q28_16), (g31.i _ _ (by decide)).trans (q28_19)⟩, ⟨(g32.i _ _ (by decide)).trans (w28_36), (g32.i _ _ (by decide)).trans (w28_37), (g32.i _ _ (by decide)).trans (w28_38), (g32.i _ _ (by decide)).trans (w28_41), e32_k0, (g32.i _ _ (by decide)).trans (w28_51), (g32.i _ _ (by decide)).trans (w28_53), (g32.i _ _ (by decide)).trans (w28_50), (w28_n.fr g32 (by decide) (by decide))⟩, ⟨(CA1.em ca28 (by omega) p31_0 rfl), (RA1.em ra28 (by omega) p32_0 rfl), (lc28.fr g31 (by decide)), (lr28.fr g32 (by decide)), (CU.set (b := 2) cu28 ⟨by omega, by omega⟩ ((au28 0 _ (by omega)).trans (pu_e rfl)) p31_1 g31 (by decide)), (RU.set ru28 ⟨by omega, by omega⟩ p32_1 g32 (by decide))⟩, ⟨by omega, by omega, by omega, by omega, by omega, by omega, by omega, by omega, by omega, by omega, by omega, by omega⟩, ⟨by omega, by omega, by omega, by omega, by omega, by omega⟩, (Ag.pu (Ag.t Ag.r ag28 (by omega)) (by omega)), (Ag.ps (Ag.t (Ag.pu Ag.r (by omega)) au28 (by omega)) (by omega)), (AgL.t (AgL.pu AgL.r (by omega)) ax28 (by omega))⟩)
              ·
                have FL28 : Fr W_cp Mc Mx28 := Fr.t f11 fl28
                have FR28 : Fr W_rp Mr Nx28 := Fr.t (Fr.m f25 W_rx_p) fr28
                obtain ⟨ti28, tz28, tn28, tu28, t1328, t1028, t1128, t1228, t928, t1628, t1928, tb28⟩ := tc28
                obtain ⟨re28, rn28, ru28, rm28, rt28, u4128, u4228, u4328, u5128, u5328, u4828, u4928, ub28⟩ := tr28
                refine rsl (cV_e rfl) ?_
                refine rsr (cV_e rfl) ?_
                refine rsl (vC_e (ck_65 (hC.fr FL28))) ?_
                refine RlV (y105 (by omega) (hC.fr FL28) (hTk.fr (WL := W_cp) FL28 (by decide)) (t1228) (t1328) (t1028) (t1128) (t928) (t1628) (t1928) (congrArg iI p11_0) (li_3) (li_5) (by omega)) fun v Ma34 h34 => ?_
                obtain ⟨sz33, sn33, uc33, g34, e34_sz33, e34_sn33, e34_uc33, e34_k0, e34_k1, e34_k2, e34_k3, p34_0, p34_1, p34_2⟩ := h34
                have f34 : Fr W_cp Mc Ma34 := Fr.t FL28 (Fr.m g34 (by decide))
                refine rsl (cV_e rfl) ?_
                refine rsl (jv_e) ?_
                refine rsr (vC_e (rk_160 (hR.fr FR28))) ?_
                refine RrV (x202_s (by omega) (hR.fr FR28) (u4128) (u4228) (u4328) (u5128) (u5328) (u4828) (u4928) (congrArg iI p25_0) (li_2) (li_5) (by omega)) fun v Ma36 h36 => ?_
                obtain ⟨em35, g36, e36_em35, e36_k0, e36_k1, e36_k2, e36_k3, e36_k4, p36_0⟩ := h36
                have f36 : Fr W_rp Mr Ma36 := Fr.t FR28 (Fr.m g36 (by decide))
                refine rsr (cV_e rfl) ?_
                refine rsr (jv_e) ?_
                exact Rs.ok (Or.inr ⟨F28, P28, f34, f36, ⟨ti28, sz33, sn33, uc33, e34_k0, e34_k1, e34_k2, e34_k3, e34_sz33, e34_sn33, e34_uc33, by omega⟩, ⟨em35, rn28, ru28, rm28, rt28, e36_k0, e36_k1, e36_em35, e36_k2, e36_k3, e36_k4, (g36.i _ _ (by decide)).trans (u4928), by omega⟩⟩)
            ·
              refine RrI (a197 (by omega) (hR.fr f25) ((g25.i _ _ (by decide)).trans (wa_51)) (lra.fr g25 (by decide)) (by omega)) fun v Nl27 hl27 => ?_
              obtain ⟨r9, rfl, hMl, hr9⟩ := hl27
              rw [hMl]
              have q9 := LcF.one hr9 hrl
              rw [q9]
              refine rsr (cI_e rfl) ?_
              refine rsr (jv_e) ?_
              try dsimp only
              refine rsr (gtI_q (w := iI ((kr (kd (i + 3))))) (rk_160 (hR.fr f25)) (e25_k1)) ?_
              refine rsr (jn_v) ?_
              refine rsr (if_neg (krI_n (k := 40) (rfl) (li_40) (hS.ok (i + 3) (by omega) (by omega)) (by unfold KdOK sgk; omega) (by decide +kernel) (by omega) (by omega))) ?_
              refine rsr (gtI_q (w := iI ((kr (kd (i + 3))))) (rk_160 (hR.fr f25)) (e25_k1)) ?_
              refine rsr (if_pos (krI_p (k := 91) (rfl) (li_91) (by omega) (by decide +kernel))) ?_
              refine rsr (vC_e (rk_160 (hR.fr f25))) ?_
              refine Rb_VV (hX _ _ (by omega) (by omega) T n m kd pl E tx ua ut mu _ _ G (pu U u [uc, (V Mr 201 u.toNat), (V Mr 200 u.toNat), (pl i), (pl (i + 2)), (V Mr 206 u.toNat), ut, 0, (V Mc 79 uc.toNat), (V Mc 80 uc.toNat), (pl i)]) Hl (pux X u [(tx i), (tx (i + 2))]) (i + 3) e s (u + 1) (uc + 1) _ hS (hCx.fr f11 f25) ⟨e11_k0, e11_k2, e11_k3, (g11.i _ _ (by decide)).trans (qa_9), (g11.i _ _ (by decide)).trans (qa_16), e11_k1⟩ ⟨e25_k1, e25_k2, e25_k3, e25_k4, (g25.i _ _ (by decide)).trans (wa_43), (g25.i _ _ (by decide)).trans (wa_51), e25_k0, (g25.i _ _ (by decide)).trans (wa_50), p25_2⟩ ⟨(caa.fr g11 (by decide)), (raa.fr g25 (by decide)), (lca.fr g11 (by decide)), (lra.fr g25 (by decide)), (CU.add cua (by omega) (by omega) p11_1 rfl rfl), (RU.add rua (by omega) p25_1 rfl)⟩ ⟨by omega, by omega, by omega, by omega, by omega, by omega, by omega, by omega, by omega, by omega, by omega, by omega⟩ (by omega) (vs1 (rfl))) fun v Mx37 w Nx37 hx37 => ?_
              rcases hx37 with ⟨i37, e37, u37, uc37, G37, U37, X37, fl37, fr37, sc37, sr37, rw37, bd37, mv37, ag37, au37, ax37⟩ | ⟨F37, P37, fl37, fr37, tc37, tr37⟩
              ·
                have FL37 : Fr W_cp Mc Mx37 := Fr.t f11 fl37
                have FR37 : Fr W_rx Mr Nx37 := Fr.t f25 fr37
                obtain ⟨bb37_0, bb37_1, bb37_2, bb37_3, bb37_4, bb37_5, bb37_6, bb37_7, bb37_8, bb37_9, bb37_10, bb37_11⟩ := bd37
                obtain ⟨q37_12, q37_13, q37_10, q37_9, q37_16, q37_19⟩ := sc37
                obtain ⟨w37_36, w37_37, w37_38, w37_41, w37_43, w37_51, w37_53, w37_50, w37_n⟩ := sr37
                obtain ⟨ca37, ra37, lc37, lr37, cu37, ru37⟩ := rw37
                have hk38 := (hS.ok i37 (by omega) (by omega)).r
                refine rsl (cV_e rfl) ?_
                refine rsr (cV_e rfl) ?_
                refine rsl (vC_e (ck_65 (hC.fr FL37))) ?_
                refine RlV (a105 (by omega) (hC.fr FL37) (q37_9) (congrArg iI p11_0) (li_3) (li_5) (by omega)) fun v Ma40 h40 => ?_
                obtain ⟨g40, e40_k0, p40_0, p40_1⟩ := h40
                have f40 : Fr W_cp Mc Ma40 := Fr.t FL37 (Fr.m g40 (by decide))
                refine rsl (cV_e rfl) ?_
                refine rsl (jv_e) ?_
                refine rsr (vC_e (rk_160 (hR.fr FR37))) ?_
                refine RrV (a202 (by omega) (hR.fr FR37) (w37_43) ((FR37.i _ _ (by decide)).trans h49) ((FR37.i _ _ (by decide)).trans h48) (congrArg iI p25_0) (li_2) (li_5) (by omega)) fun v Ma41 h41 => ?_
                obtain ⟨g41, e41_k0, p41_0, p41_1⟩ := h41
                have f41 : Fr W_rx Mr Ma41 := Fr.t FR37 (Fr.m g41 (by decide))
                refine rsr (cV_e rfl) ?_
                refine rsr (jv_e) ?_
                exact Rs.ok (Or.inl ⟨i37, (e37 + 1), u37, uc37, (pu G37 e37 [5, 0, -2, u, ut, mu, 0]), (ps U37 u 2 3 e37), X37, f40, f41, ⟨(g40.i _ _ (by decide)).trans (q37_12), (g40.i _ _ (by decide)).trans (q37_13), (g40.i _ _ (by decide)).trans (q37_10), e40_k0, (g40.i _ _ (by decide)).trans (q37_16), (g40.i _ _ (by decide)).trans (q37_19)⟩, ⟨(g41.i _ _ (by decide)).trans (w37_36), (g41.i _ _ (by decide)).trans (w37_37), (g41.i _ _ (by decide)).trans (w37_38), (g41.i _ _ (by decide)).trans (w37_41), e41_k0, (g41.i _ _ (by decide)).trans (w37_51), (g41.i _ _ (by decide)).trans (w37_53), (g41.i _ _ (by decide)).trans (w37_50), (w37_n.fr g41 (by decide) (by decide))⟩, ⟨(CA1.em ca37 (by omega) p40_0 rfl), (RA1.em ra37 (by omega) p41_0 rfl), (lc37.fr g40 (by decide)), (lr37.fr g41 (by decide)), (CU.set (b := 2) cu37 ⟨by omega, by omega⟩ ((au37 0 _ (by omega)).trans (pu_e rfl)) p40_1 g40 (by decide)), (RU.set ru37 ⟨by omega, by omega⟩ p41_1 g41 (by decide))⟩, ⟨by omega, by omega, by omega, by omega, by omega, by omega, by omega, by omega, by omega, by omega, by omega, by omega⟩, ⟨by omega, by omega, by omega, by omega, by omega, by omega⟩, (Ag.pu (Ag.t Ag.r ag37 (by omega)) (by omega)), (Ag.ps (Ag.t (Ag.pu Ag.r (by omega)) au37 (by omega)) (by omega)), (AgL.t (AgL.pu AgL.r (by omega)) ax37 (by omega))⟩)
              ·
                have FL37 : Fr W_cp Mc Mx37 := Fr.t f11 fl37
                have FR37 : Fr W_rp Mr Nx37 := Fr.t (Fr.m f25 W_rx_p) fr37
                obtain ⟨ti37, tz37, tn37, tu37, t1337, t1037, t1137, t1237, t937, t1637, t1937, tb37⟩ := tc37
                obtain ⟨re37, rn37, ru37, rm37, rt37, u4137, u4237, u4337, u5137, u5337, u4837, u4937, ub37⟩ := tr37
                refine rsl (cV_e rfl) ?_
                refine rsr (cV_e rfl) ?_
                refine rsl (vC_e (ck_65 (hC.fr FL37))) ?_
                refine RlV (y105 (by omega) (hC.fr FL37) (hTk.fr (WL := W_cp) FL37 (by decide)) (t1237) (t1337) (t1037) (t1137) (t937) (t1637) (t1937) (congrArg iI p11_0) (li_3) (li_5) (by omega)) fun v Ma43 h43 => ?_
                obtain ⟨sz42, sn42, uc42, g43, e43_sz42, e43_sn42, e43_uc42, e43_k0, e43_k1, e43_k2, e43_k3, p43_0, p43_1, p43_2⟩ := h43
                have f43 : Fr W_cp Mc Ma43 := Fr.t FL37 (Fr.m g43 (by decide))
                refine rsl (cV_e rfl) ?_
                refine rsl (jv_e) ?_
                refine rsr (vC_e (rk_160 (hR.fr FR37))) ?_
                refine RrV (x202_s (by omega) (hR.fr FR37) (u4137) (u4237) (u4337) (u5137) (u5337) (u4837) (u4937) (congrArg iI p25_0) (li_2) (li_5) (by omega)) fun v Ma45 h45 => ?_
                obtain ⟨em44, g45, e45_em44, e45_k0, e45_k1, e45_k2, e45_k3, e45_k4, p45_0⟩ := h45
                have f45 : Fr W_rp Mr Ma45 := Fr.t FR37 (Fr.m g45 (by decide))
                refine rsr (cV_e rfl) ?_
                refine rsr (jv_e) ?_
                exact Rs.ok (Or.inr ⟨F37, P37, f43, f45, ⟨ti37, sz42, sn42, uc42, e43_k0, e43_k1, e43_k2, e43_k3, e43_sz42, e43_sn42, e43_uc42, by omega⟩, ⟨em44, rn37, ru37, rm37, rt37, e45_k0, e45_k1, e45_em44, e45_k2, e45_k3, e45_k4, (g45.i _ _ (by decide)).trans (u4937), by omega⟩⟩)
          ·
            refine rsr (if_neg (lgc_n (rfl) (rfl) c26)) ?_
            refine rsr (jv_e) ?_
            try dsimp only
            refine rsr (gtI_q (w := iI ((kr (kd (i + 3))))) (rk_160 (hR.fr f25)) (e25_k1)) ?_
            refine rsr (jn_v) ?_
            refine rsr (if_neg (krI_n (k := 40) (rfl) (li_40) (hS.ok (i + 3) (by omega) (by omega)) (by unfold KdOK sgk; omega) (by decide +kernel) (by omega) (by omega))) ?_
            refine rsr (gtI_q (w := iI ((kr (kd (i + 3))))) (rk_160 (hR.fr f25)) (e25_k1)) ?_
            refine rsr (if_pos (krI_p (k := 91) (rfl) (li_91) (by omega) (by decide +kernel))) ?_
            refine rsr (vC_e (rk_160 (hR.fr f25))) ?_
            refine Rb_VV (hX _ _ (by omega) (by omega) T n m kd pl E tx ua ut mu _ _ G (pu U u [uc, (V Mr 201 u.toNat), (V Mr 200 u.toNat), (pl i), (pl (i + 2)), (V Mr 206 u.toNat), ut, 0, (V Mc 79 uc.toNat), (V Mc 80 uc.toNat), (pl i)]) Hl (pux X u [(tx i), (tx (i + 2))]) (i + 3) e s (u + 1) (uc + 1) _ hS (hCx.fr f11 f25) ⟨e11_k0, e11_k2, e11_k3, (g11.i _ _ (by decide)).trans (qa_9), (g11.i _ _ (by decide)).trans (qa_16), e11_k1⟩ ⟨e25_k1, e25_k2, e25_k3, e25_k4, (g25.i _ _ (by decide)).trans (wa_43), (g25.i _ _ (by decide)).trans (wa_51), e25_k0, (g25.i _ _ (by decide)).trans (wa_50), p25_2⟩ ⟨(caa.fr g11 (by decide)), (raa.fr g25 (by decide)), (lca.fr g11 (by decide)), (lra.fr g25 (by decide)), (CU.add cua (by omega) (by omega) p11_1 rfl rfl), (RU.add rua (by omega) p25_1 rfl)⟩ ⟨by omega, by omega, by omega, by omega, by omega, by omega, by omega, by omega, by omega, by omega, by omega, by omega⟩ (by omega) (vs1 (rfl))) fun v Mx46 w Nx46 hx46 => ?_
            rcases hx46 with ⟨i46, e46, u46, uc46, G46, U46, X46, fl46, fr46, sc46, sr46, rw46, bd46, mv46, ag46, au46, ax46⟩ | ⟨F46, P46, fl46, fr46, tc46, tr46⟩
            ·
              have FL46 : Fr W_cp Mc Mx46 := Fr.t f11 fl46
              have FR46 : Fr W_rx Mr Nx46 := Fr.t f25 fr46
              obtain ⟨bb46_0, bb46_1, bb46_2, bb46_3, bb46_4, bb46_5, bb46_6, bb46_7, bb46_8, bb46_9, bb46_10, bb46_11⟩ := bd46
              obtain ⟨q46_12, q46_13, q46_10, q46_9, q46_16, q46_19⟩ := sc46
              obtain ⟨w46_36, w46_37, w46_38, w46_41, w46_43, w46_51, w46_53, w46_50, w46_n⟩ := sr46
              obtain ⟨ca46, ra46, lc46, lr46, cu46, ru46⟩ := rw46
              have hk47 := (hS.ok i46 (by omega) (by omega)).r
              refine rsl (cV_e rfl) ?_
              refine rsr (cV_e rfl) ?_
              refine rsl (vC_e (ck_65 (hC.fr FL46))) ?_
              refine RlV (a105 (by omega) (hC.fr FL46) (q46_9) (congrArg iI p11_0) (li_3) (li_5) (by omega)) fun v Ma49 h49 => ?_
              obtain ⟨g49, e49_k0, p49_0, p49_1⟩ := h49
              have f49 : Fr W_cp Mc Ma49 := Fr.t FL46 (Fr.m g49 (by decide))
              refine rsl (cV_e rfl) ?_
              refine rsl (jv_e) ?_
              refine rsr (vC_e (rk_160 (hR.fr FR46))) ?_
              refine RrV (a202 (by omega) (hR.fr FR46) (w46_43) ((FR46.i _ _ (by decide)).trans h49) ((FR46.i _ _ (by decide)).trans h48) (congrArg iI p25_0) (li_2) (li_5) (by omega)) fun v Ma50 h50 => ?_
              obtain ⟨g50, e50_k0, p50_0, p50_1⟩ := h50
              have f50 : Fr W_rx Mr Ma50 := Fr.t FR46 (Fr.m g50 (by decide))
              refine rsr (cV_e rfl) ?_
              refine rsr (jv_e) ?_
              exact Rs.ok (Or.inl ⟨i46, (e46 + 1), u46, uc46, (pu G46 e46 [5, 0, -2, u, ut, mu, 0]), (ps U46 u 2 3 e46), X46, f49, f50, ⟨(g49.i _ _ (by decide)).trans (q46_12), (g49.i _ _ (by decide)).trans (q46_13), (g49.i _ _ (by decide)).trans (q46_10), e49_k0, (g49.i _ _ (by decide)).trans (q46_16), (g49.i _ _ (by decide)).trans (q46_19)⟩, ⟨(g50.i _ _ (by decide)).trans (w46_36), (g50.i _ _ (by decide)).trans (w46_37), (g50.i _ _ (by decide)).trans (w46_38), (g50.i _ _ (by decide)).trans (w46_41), e50_k0, (g50.i _ _ (by decide)).trans (w46_51), (g50.i _ _ (by decide)).trans (w46_53), (g50.i _ _ (by decide)).trans (w46_50), (w46_n.fr g50 (by decide) (by decide))⟩, ⟨(CA1.em ca46 (by omega) p49_0 rfl), (RA1.em ra46 (by omega) p50_0 rfl), (lc46.fr g49 (by decide)), (lr46.fr g50 (by decide)), (CU.set (b := 2) cu46 ⟨by omega, by omega⟩ ((au46 0 _ (by omega)).trans (pu_e rfl)) p49_1 g49 (by decide)), (RU.set ru46 ⟨by omega, by omega⟩ p50_1 g50 (by decide))⟩, ⟨by omega, by omega, by omega, by omega, by omega, by omega, by omega, by omega, by omega, by omega, by omega, by omega⟩, ⟨by omega, by omega, by omega, by omega, by omega, by omega⟩, (Ag.pu (Ag.t Ag.r ag46 (by omega)) (by omega)), (Ag.ps (Ag.t (Ag.pu Ag.r (by omega)) au46 (by omega)) (by omega)), (AgL.t (AgL.pu AgL.r (by omega)) ax46 (by omega))⟩)
            ·
              have FL46 : Fr W_cp Mc Mx46 := Fr.t f11 fl46
              have FR46 : Fr W_rp Mr Nx46 := Fr.t (Fr.m f25 W_rx_p) fr46
              obtain ⟨ti46, tz46, tn46, tu46, t1346, t1046, t1146, t1246, t946, t1646, t1946, tb46⟩ := tc46
              obtain ⟨re46, rn46, ru46, rm46, rt46, u4146, u4246, u4346, u5146, u5346, u4846, u4946, ub46⟩ := tr46
              refine rsl (cV_e rfl) ?_
              refine rsr (cV_e rfl) ?_
              refine rsl (vC_e (ck_65 (hC.fr FL46))) ?_
              refine RlV (y105 (by omega) (hC.fr FL46) (hTk.fr (WL := W_cp) FL46 (by decide)) (t1246) (t1346) (t1046) (t1146) (t946) (t1646) (t1946) (congrArg iI p11_0) (li_3) (li_5) (by omega)) fun v Ma52 h52 => ?_
              obtain ⟨sz51, sn51, uc51, g52, e52_sz51, e52_sn51, e52_uc51, e52_k0, e52_k1, e52_k2, e52_k3, p52_0, p52_1, p52_2⟩ := h52
              have f52 : Fr W_cp Mc Ma52 := Fr.t FL46 (Fr.m g52 (by decide))
              refine rsl (cV_e rfl) ?_
              refine rsl (jv_e) ?_
              refine rsr (vC_e (rk_160 (hR.fr FR46))) ?_
              refine RrV (x202_s (by omega) (hR.fr FR46) (u4146) (u4246) (u4346) (u5146) (u5346) (u4846) (u4946) (congrArg iI p25_0) (li_2) (li_5) (by omega)) fun v Ma54 h54 => ?_
              obtain ⟨em53, g54, e54_em53, e54_k0, e54_k1, e54_k2, e54_k3, e54_k4, p54_0⟩ := h54
              have f54 : Fr W_rp Mr Ma54 := Fr.t FR46 (Fr.m g54 (by decide))
              refine rsr (cV_e rfl) ?_
              refine rsr (jv_e) ?_
              exact Rs.ok (Or.inr ⟨F46, P46, f52, f54, ⟨ti46, sz51, sn51, uc51, e52_k0, e52_k1, e52_k2, e52_k3, e52_sz51, e52_sn51, e52_uc51, by omega⟩, ⟨em53, rn46, ru46, rm46, rt46, e54_k0, e54_k1, e54_em53, e54_k2, e54_k3, e54_k4, (g54.i _ _ (by decide)).trans (u4946), by omega⟩⟩)
        · refine rsl (if_neg (eqI_n (rfl) (li_91) (by omega))) ?_
          refine rsl (vC_e (ck_65 (hC.fr f11))) ?_
          by_cases c55 : (tx i) = (0 : Int64)
          ·
            obtain ⟨rl, hrl⟩ : ∃ r, LcF Hl s (tx (i + 2)) r := by have q := LcF_ex (Hl := Hl) (y := (tx (i + 2))) s.toNat; rw [show ((s.toNat : Nat) : Int) = s by omega] at q; exact q
            have brl := hrl.bd
            by_cases crl : rl = -1
            ·
              subst crl
              refine RlV (a106_n (by omega) (hC.fr f11) ((g11.i _ _ (by decide)).trans (qa_9)) (congrArg iI p11_0) (li_1) (li_1) (li_3) ((g11.i _ _ (by decide)).trans (qa_16)) (lca.fr g11 (by decide)) p11_1.2.2.2.2.2.2.2.1 p11_1.2.2.2.2.2.2.2.2 hrl c55 (by omega)) fun v Ma56 h56 => ?_
              obtain ⟨g56, e56_k0, p56_0, p56_1⟩ := h56
              have f56 : Fr W_cp Mc Ma56 := Fr.t f11 (Fr.m g56 (by decide))
              refine rsl (cV_e rfl) ?_
              refine rsl (jv_e) ?_
              refine rsr (vC_e (rk_160 hR)) ?_
              refine RrI (a201_d (by omega) hS hR (hT.fr (W := W_rx) Fr.r (by decide) (by decide)) (fun i a b => (Fr.lc (W := W_rx) Fr.r _ (by decide) _).trans (hW i a b)) (wa_36) (wa_37) (wa_38) (wa_41) (h49) (wa_53) wa_n (by omega)) fun v Ma58 h58 => ?_
              obtain ⟨r57, rfl, g58, e58_k0, e58_k1, e58_k2, e58_k3, e58_k4, p58_0, p58_1, p58_2⟩ := h58
              have f58 : Fr W_rx Mr Ma58 := Fr.t Fr.r (Fr.m g58 (by decide))
              refine rsr (cI_e rfl) ?_
              refine rsr (gtI_q (w := iI 0) (rk_160 (hR.fr f58)) (e58_k4)) ?_
              refine rsr (if_pos (eqI_p (rfl) (li_0) (by omega))) ?_
              refine rsr (gtP_q (w := some 202) (rk_160 (hR.fr f58)) (rf_56 (hR.fr f58))) ?_
              refine rsr (alL_q (n := 2000) (z := u) (w := (tx i)) (rk_202 (hR.fr f58)) (congrArg iI p58_0) (by omega) (p58_1.2.2.2.1)) ?_
              refine rsr (jn_v) ?_
              refine rsr (if_pos (lgc_p (rfl) (rfl) c55)) ?_
              refine rsr (gtP_q (w := some 204) (rk_160 (hR.fr f58)) (rf_58 (hR.fr f58))) ?_
              refine rsr (alL_q (n := 2000) (z := u) (w := (tx (i + 2))) (rk_204 (hR.fr f58)) (congrArg iI p58_0) (by omega) (p58_1.2.2.2.2.2.1)) ?_
              refine rsr (vC_e (rk_160 (hR.fr f58))) ?_
              refine RrI (a197 (by omega) (hR.fr f58) ((g58.i _ _ (by decide)).trans (wa_51)) (lra.fr g58 (by decide)) (by omega)) fun v Nl59 hl59 => ?_
              obtain ⟨r9, rfl, hMl, hr9⟩ := hl59
              rw [hMl]
              have q9 := LcF.one hr9 hrl
              rw [q9]
              refine rsr (cI_e rfl) ?_
              refine rsr (jv_e) ?_
              try dsimp only
              refine rsr (gtI_q (w := iI ((kr (kd (i + 3))))) (rk_160 (hR.fr f58)) (e58_k1)) ?_
              refine rsr (jn_v) ?_
              refine rsr (if_neg (krI_n (k := 40) (rfl) (li_40) (hS.ok (i + 3) (by omega) (by omega)) (by unfold KdOK sgk; omega) (by decide +kernel) (by omega) (by omega))) ?_
              refine rsr (gtI_q (w := iI ((kr (kd (i + 3))))) (rk_160 (hR.fr f58)) (e58_k1)) ?_
              refine rsr (if_neg (krI_n (k := 91) (rfl) (li_91) (hS.ok (i + 3) (by omega) (by omega)) (by unfold KdOK sgk; omega) (by decide +kernel) (by omega) (by omega))) ?_
              refine rsr (if_pos (lsI_p (congrArg iI (if_pos rfl)) (li_0) (by omega))) ?_
              refine rsr (vC_e (rk_160 (hR.fr f58))) ?_
              refine RrV (a202 (by omega) (hR.fr f58) ((g58.i _ _ (by decide)).trans (wa_43)) ((g58.i _ _ (by decide)).trans (h49)) ((g58.i _ _ (by decide)).trans (h48)) (congrArg iI p58_0) (li_0) (li_3) (by omega)) fun v Ma60 h60 => ?_
              obtain ⟨g60, e60_k0, p60_0, p60_1⟩ := h60
              have f60 : Fr W_rx Mr Ma60 := Fr.t f58 (Fr.m g60 (by decide))
              refine rsr (cV_e rfl) ?_
              refine rsr (jv_e) ?_
              exact Rs.ok (Or.inl ⟨(i + 3), (e + 1), (u + 1), (uc + 1), (pu G e [3, 0, -2, u, ut, mu, 0]), (ps (pu U u [uc, (V Mr 201 u.toNat), (V Mr 200 u.toNat), (pl i), (pl (i + 2)), (V Mr 206 u.toNat), ut, 0, (V Mc 79 uc.toNat), (V Mc 80 uc.toNat), (pl i)]) u 0 1 e), (pux X u [(tx i), (tx (i + 2))]), f56, f60, ⟨(g56.i _ _ (by decide)).trans (e11_k0), (g56.i _ _ (by decide)).trans (e11_k2), (g56.i _ _ (by decide)).trans (e11_k3), e56_k0, (g56.i _ _ (by decide)).trans ((g11.i _ _ (by decide)).trans (qa_16)), (g56.i _ _ (by decide)).trans (e11_k1)⟩, ⟨(g60.i _ _ (by decide)).trans (e58_k1), (g60.i _ _ (by decide)).trans (e58_k2), (g60.i _ _ (by decide)).trans (e58_k3), (g60.i _ _ (by decide)).trans (e58_k4), e60_k0, (g60.i _ _ (by decide)).trans ((g58.i _ _ (by decide)).trans (wa_51)), (g60.i _ _ (by decide)).trans (e58_k0), (g60.i _ _ (by decide)).trans ((g58.i _ _ (by decide)).trans (wa_50)), (p58_2.fr g60 (by decide) (by decide))⟩, ⟨(CA1.em (caa.fr g11 (by decide)) (by omega) p56_0 rfl), (RA1.em (raa.fr g58 (by decide)) (by omega) p60_0 rfl), ((lca.fr g11 (by decide)).fr g56 (by decide)), ((lra.fr g58 (by decide)).fr g60 (by decide)), (CU.set (b := 0) (CU.add cua (by omega) (by omega) p11_1 rfl rfl) ⟨by omega, by omega⟩ (pu_e rfl) p56_1 g56 (by decide)), (RU.set (RU.add rua (by omega) p58_1 rfl) ⟨by omega, by omega⟩ p60_1 g60 (by decide))⟩, ⟨by omega, by omega, by omega, by omega, by omega, by omega, by omega, by omega, by omega, by omega, by omega, by omega⟩, ⟨by omega, by omega, by omega, by omega, by omega, by omega⟩, (Ag.pu Ag.r (by omega)), (Ag.ps (Ag.pu Ag.r (by omega)) (by omega)), (AgL.pu AgL.r (by omega))⟩)
            ·
              refine RlV (a106_l (by omega) (hC.fr f11) ((g11.i _ _ (by decide)).trans (qa_9)) (congrArg iI p11_0) (li_1) (li_1) (li_3) ((g11.i _ _ (by decide)).trans (qa_16)) (lca.fr g11 (by decide)) p11_1.2.2.2.2.2.2.2.1 p11_1.2.2.2.2.2.2.2.2 hrl ⟨by omega, by omega⟩ c55 (by omega)) fun v Ma61 h61 => ?_
              obtain ⟨g61, e61_k0, p61_0, p61_1⟩ := h61
              have f61 : Fr W_cp Mc Ma61 := Fr.t f11 (Fr.m g61 (by decide))
              refine rsl (cV_e rfl) ?_
              refine rsl (jv_e) ?_
              refine rsr (vC_e (rk_160 hR)) ?_
              refine RrI (a201_d (by omega) hS hR (hT.fr (W := W_rx) Fr.r (by decide) (by decide)) (fun i a b => (Fr.lc (W := W_rx) Fr.r _ (by decide) _).trans (hW i a b)) (wa_36) (wa_37) (wa_38) (wa_41) (h49) (wa_53) wa_n (by omega)) fun v Ma63 h63 => ?_
              obtain ⟨r62, rfl, g63, e63_k0, e63_k1, e63_k2, e63_k3, e63_k4, p63_0, p63_1, p63_2⟩ := h63
              have f63 : Fr W_rx Mr Ma63 := Fr.t Fr.r (Fr.m g63 (by decide))
              refine rsr (cI_e rfl) ?_
              refine rsr (gtI_q (w := iI 0) (rk_160 (hR.fr f63)) (e63_k4)) ?_
              refine rsr (if_pos (eqI_p (rfl) (li_0) (by omega))) ?_
              refine rsr (gtP_q (w := some 202) (rk_160 (hR.fr f63)) (rf_56 (hR.fr f63))) ?_
              refine rsr (alL_q (n := 2000) (z := u) (w := (tx i)) (rk_202 (hR.fr f63)) (congrArg iI p63_0) (by omega) (p63_1.2.2.2.1)) ?_
              refine rsr (jn_v) ?_
              refine rsr (if_pos (lgc_p (rfl) (rfl) c55)) ?_
              refine rsr (gtP_q (w := some 204) (rk_160 (hR.fr f63)) (rf_58 (hR.fr f63))) ?_
              refine rsr (alL_q (n := 2000) (z := u) (w := (tx (i + 2))) (rk_204 (hR.fr f63)) (congrArg iI p63_0) (by omega) (p63_1.2.2.2.2.2.1)) ?_
              refine rsr (vC_e (rk_160 (hR.fr f63))) ?_
              refine RrI (a197 (by omega) (hR.fr f63) ((g63.i _ _ (by decide)).trans (wa_51)) (lra.fr g63 (by decide)) (by omega)) fun v Nl64 hl64 => ?_
              obtain ⟨r9, rfl, hMl, hr9⟩ := hl64
              rw [hMl]
              have q9 := LcF.one hr9 hrl
              rw [q9]
              refine rsr (cI_e rfl) ?_
              refine rsr (jv_e) ?_
              try dsimp only
              refine rsr (gtI_q (w := iI ((kr (kd (i + 3))))) (rk_160 (hR.fr f63)) (e63_k1)) ?_
              refine rsr (jn_v) ?_
              refine rsr (if_neg (krI_n (k := 40) (rfl) (li_40) (hS.ok (i + 3) (by omega) (by omega)) (by unfold KdOK sgk; omega) (by decide +kernel) (by omega) (by omega))) ?_
              refine rsr (gtI_q (w := iI ((kr (kd (i + 3))))) (rk_160 (hR.fr f63)) (e63_k1)) ?_
              refine rsr (if_neg (krI_n (k := 91) (rfl) (li_91) (hS.ok (i + 3) (by omega) (by omega)) (by unfold KdOK sgk; omega) (by decide +kernel) (by omega) (by omega))) ?_
              refine rsr (if_neg (lsI_n (congrArg iI (if_neg (by omega))) (li_0) (by omega))) ?_
              refine rsr (gtI_q (w := iI (u + 1)) (rk_160 (hR.fr f63)) (e63_k0)) ?_
              refine rsr (ptI_q (z := u) (rk_160 (hR.fr f63)) (cvI (sbI (rfl) (li_1)) (by omega))) ?_
              refine rsr (vC_e (rk_160 (hR.fr f63).sI)) ?_
              refine RrI (a196 (by omega) (hR.fr f63).sI ((sI_nej (by decide)).trans ((g63.i _ _ (by decide)).trans (wa_43))) ((sI_nej (by decide)).trans ((g63.i _ _ (by decide)).trans (h49))) ((sI_nej (by decide)).trans ((g63.i _ _ (by decide)).trans (h48))) (li_1) (congrArg iI (if_neg (by omega))) (by omega)) fun v Ma66 h66 => ?_
              obtain ⟨r65, rfl, g66, e66_k0, p66_0, p66_1⟩ := h66
              have f66 : Fr W_rx Mr Ma66 := Fr.t (Fr.sI (by decide) f63) (Fr.m g66 (by decide))
              refine rsr (cI_e rfl) ?_
              refine rsr (jv_e) ?_
              exact Rs.ok (Or.inl ⟨(i + 3), (e + 1), u, (uc + 1), (pu G e [1, rl, -2, rl, ut, mu, 0]), U, X, f61, f66, ⟨(g61.i _ _ (by decide)).trans (e11_k0), (g61.i _ _ (by decide)).trans (e11_k2), (g61.i _ _ (by decide)).trans (e11_k3), e61_k0, (g61.i _ _ (by decide)).trans ((g11.i _ _ (by decide)).trans (qa_16)), (g61.i _ _ (by decide)).trans (e11_k1)⟩, ⟨(g66.i _ _ (by decide)).trans ((sI_nej (by decide)).trans (e63_k1)), (g66.i _ _ (by decide)).trans ((sI_nej (by decide)).trans (e63_k2)), (g66.i _ _ (by decide)).trans ((sI_nej (by decide)).trans (e63_k3)), (g66.i _ _ (by decide)).trans ((sI_nej (by decide)).trans (e63_k4)), e66_k0, (g66.i _ _ (by decide)).trans ((sI_nej (by decide)).trans ((g63.i _ _ (by decide)).trans (wa_51))), (g66.i _ _ (by decide)).trans (sI_eq), (g66.i _ _ (by decide)).trans ((sI_nej (by decide)).trans ((g63.i _ _ (by decide)).trans (wa_50))), ((p63_2.fr (W := W_r0) (Fr.sI (by decide) Fr.r) (by decide) (by decide)).fr g66 (by decide) (by decide))⟩, ⟨(CA1.em (caa.fr g11 (by decide)) (by omega) p61_0 rfl), (RA1.em ((raa.fr g63 (by decide)).fr (W := W_r0) (Fr.sI (by decide) Fr.r) (by decide)) (by omega) p66_1 rfl), ((lca.fr g11 (by decide)).fr g61 (by decide)), (((lra.fr g63 (by decide)).fr (W := W_r0) (Fr.sI (by decide) Fr.r) (by decide)).fr g66 (by decide)), (CU.loc2 (CU.keep cua (by omega) p11_1 rfl) hlt p61_1 g61 (by decide)), (((RU.keep rua p63_1).fr (W := W_r0) (Fr.sI (by decide) Fr.r) (by decide)).fr g66 (by decide))⟩, ⟨by omega, by omega, by omega, by omega, by omega, by omega, by omega, by omega, by omega, by omega, by omega, by omega⟩, ⟨by omega, by omega, by omega, by omega, by omega, by omega⟩, (Ag.pu Ag.r (by omega)), Ag.r, AgL.r⟩)
          ·
            refine RlV (a106_q (by omega) (hC.fr f11) ((g11.i _ _ (by decide)).trans (qa_9)) (congrArg iI p11_0) (li_1) (li_1) (li_3) ((g11.i _ _ (by decide)).trans (qa_16)) (lca.fr g11 (by decide)) p11_1.2.2.2.2.2.2.2.1 p11_1.2.2.2.2.2.2.2.2 c55 (by omega)) fun v Ma67 h67 => ?_
            obtain ⟨g67, e67_k0, p67_0, p67_1⟩ := h67
            have f67 : Fr W_cp Mc Ma67 := Fr.t f11 (Fr.m g67 (by decide))
            refine rsl (cV_e rfl) ?_
            refine rsl (jv_e) ?_
            refine rsr (vC_e (rk_160 hR)) ?_
            refine RrI (a201_d (by omega) hS hR (hT.fr (W := W_rx) Fr.r (by decide) (by decide)) (fun i a b => (Fr.lc (W := W_rx) Fr.r _ (by decide) _).trans (hW i a b)) (wa_36) (wa_37) (wa_38) (wa_41) (h49) (wa_53) wa_n (by omega)) fun v Ma69 h69 => ?_
            obtain ⟨r68, rfl, g69, e69_k0, e69_k1, e69_k2, e69_k3, e69_k4, p69_0, p69_1, p69_2⟩ := h69
            have f69 : Fr W_rx Mr Ma69 := Fr.t Fr.r (Fr.m g69 (by decide))
            refine rsr (cI_e rfl) ?_
            refine rsr (gtI_q (w := iI 0) (rk_160 (hR.fr f69)) (e69_k4)) ?_
            refine rsr (if_pos (eqI_p (rfl) (li_0) (by omega))) ?_
            refine rsr (gtP_q (w := some 202) (rk_160 (hR.fr f69)) (rf_56 (hR.fr f69))) ?_
            refine rsr (alL_q (n := 2000) (z := u) (w := (tx i)) (rk_202 (hR.fr f69)) (congrArg iI p69_0) (by omega) (p69_1.2.2.2.1)) ?_
            refine rsr (jn_v) ?_
            refine rsr (if_neg (lgc_n (rfl) (rfl) c55)) ?_
            refine rsr (jv_e) ?_
            try dsimp only
            refine rsr (gtI_q (w := iI ((kr (kd (i + 3))))) (rk_160 (hR.fr f69)) (e69_k1)) ?_
            refine rsr (jn_v) ?_
            refine rsr (if_neg (krI_n (k := 40) (rfl) (li_40) (hS.ok (i + 3) (by omega) (by omega)) (by unfold KdOK sgk; omega) (by decide +kernel) (by omega) (by omega))) ?_
            refine rsr (gtI_q (w := iI ((kr (kd (i + 3))))) (rk_160 (hR.fr f69)) (e69_k1)) ?_
            refine rsr (if_neg (krI_n (k := 91) (rfl) (li_91) (hS.ok (i + 3) (by omega) (by omega)) (by unfold KdOK sgk; omega) (by decide +kernel) (by omega) (by omega))) ?_
            refine rsr (if_pos (lsI_p (li_m1) (li_0) (by omega))) ?_
            refine rsr (vC_e (rk_160 (hR.fr f69))) ?_
            refine RrV (a202 (by omega) (hR.fr f69) ((g69.i _ _ (by decide)).trans (wa_43)) ((g69.i _ _ (by decide)).trans (h49)) ((g69.i _ _ (by decide)).trans (h48)) (congrArg iI p69_0) (li_0) (li_3) (by omega)) fun v Ma70 h70 => ?_
            obtain ⟨g70, e70_k0, p70_0, p70_1⟩ := h70
            have f70 : Fr W_rx Mr Ma70 := Fr.t f69 (Fr.m g70 (by decide))
            refine rsr (cV_e rfl) ?_
            refine rsr (jv_e) ?_
            exact Rs.ok (Or.inl ⟨(i + 3), (e + 1), (u + 1), (uc + 1), (pu G e [3, 0, -2, u, ut, mu, 0]), (ps (pu U u [uc, (V Mr 201 u.toNat), (V Mr 200 u.toNat), (pl i), (pl (i + 2)), (V Mr 206 u.toNat), ut, 0, (V Mc 79 uc.toNat), (V Mc 80 uc.toNat), (pl i)]) u 0 1 e), (pux X u [(tx i), (tx (i + 2))]), f67, f70, ⟨(g67.i _ _ (by decide)).trans (e11_k0), (g67.i _ _ (by decide)).trans (e11_k2), (g67.i _ _ (by decide)).trans (e11_k3), e67_k0, (g67.i _ _ (by decide)).trans ((g11.i _ _ (by decide)).trans (qa_16)), (g67.i _ _ (by decide)).trans (e11_k1)⟩, ⟨(g70.i _ _ (by decide)).trans (e69_k1), (g70.i _ _ (by decide)).trans (e69_k2), (g70.i _ _ (by decide)).trans (e69_k3), (g70.i _ _ (by decide)).trans (e69_k4), e70_k0, (g70.i _ _ (by decide)).trans ((g69.i _ _ (by decide)).trans (wa_51)), (g70.i _ _ (by decide)).trans (e69_k0), (g70.i _ _ (by decide)).trans ((g69.i _ _ (by decide)).trans (wa_50)), (p69_2.fr g70 (by decide) (by decide))⟩, ⟨(CA1.em (caa.fr g11 (by decide)) (by omega) p67_0 rfl), (RA1.em (raa.fr g69 (by decide)) (by omega) p70_0 rfl), ((lca.fr g11 (by decide)).fr g67 (by decide)), ((lra.fr g69 (by decide)).fr g70 (by decide)), (CU.set (b := 0) (CU.add cua (by omega) (by omega) p11_1 rfl rfl) ⟨by omega, by omega⟩ (pu_e rfl) p67_1 g67 (by decide)), (RU.set (RU.add rua (by omega) p69_1 rfl) ⟨by omega, by omega⟩ p70_1 g70 (by decide))⟩, ⟨by omega, by omega, by omega, by omega, by omega, by omega, by omega, by omega, by omega, by omega, by omega, by omega⟩, ⟨by omega, by omega, by omega, by omega, by omega, by omega⟩, (Ag.pu Ag.r (by omega)), (Ag.ps (Ag.pu Ag.r (by omega)) (by omega)), (AgL.pu AgL.r (by omega))⟩)
    ·
      by_cases c71 : ((kd (i + 2))) = 1
      ·
        refine RlI (a104_1 (by omega) hS hC (hTk.fr (WL := W_cp) Fr.r (by decide)) hu1 (by rw [(Fr.r : Fr W_cp Mc _).p]; exact hu2) (Fr.kd (W := W_cp) Fr.r hu3) ((Fr.i (W := W_cp) Fr.r _ _ (inW_hi (by decide) hu1 _)).trans hu4) (qa_12) (qa_13) (qa_10) (qa_19) (by omega)) fun v Ma73 h73 => ?_
        obtain ⟨r72, rfl, g73, e73_k0, e73_k1, e73_k2, e73_k3, e73_k4, p73_0, p73_1⟩ := h73
        have f73 : Fr W_cp Mc Ma73 := Fr.t Fr.r (Fr.m g73 (by decide))
        refine rsl (cI_e rfl) ?_
        refine rsl (gtI_q (w := iI 2) (ck_65 (hC.fr f73)) (e73_k2)) ?_
        refine rsl (jn_v) ?_
        refine rsl (if_neg (eqI_n (rfl) (li_40) (by omega))) ?_
        refine rsl (gtI_q (w := iI 2) (ck_65 (hC.fr f73)) (e73_k2)) ?_
        refine rsl (if_neg (eqI_n (rfl) (li_91) (by omega))) ?_
        refine rsl (vC_e (ck_65 (hC.fr f73))) ?_
        refine RlV (y106 (by omega) (hC.fr f73) (hTk.fr (WL := W_cp) f73 (by decide)) (e73_k0) (e73_k2) (e73_k3) (e73_k4) ((g73.i _ _ (by decide)).trans (qa_9)) ((g73.i _ _ (by decide)).trans (qa_16)) (e73_k1) (congrArg iI p73_0) (li_1) (li_1) (li_3) (by omega)) fun v Ma75 h75 => ?_
        obtain ⟨sz74, sn74, uc74, g75, e75_sz74, e75_sn74, e75_uc74, e75_k0, e75_k1, e75_k2, e75_k3, p75_0, p75_1, p75_2⟩ := h75
        have f75 : Fr W_cp Mc Ma75 := Fr.t f73 (Fr.m g75 (by decide))
        refine rsl (cV_e rfl) ?_
        refine rsl (jv_e) ?_
        refine rsr (vC_e (rk_160 hR)) ?_
        refine RrI (a201_1 (by omega) hS hR (hT.fr (W := W_rx) Fr.r (by decide) (by decide)) (fun i a b => (Fr.lc (W := W_rx) Fr.r _ (by decide) _).trans (hW i a b)) (wa_36) (wa_37) (wa_38) (wa_41) (h49) (wa_53) wa_n (by omega)) fun v Ma77 h77 => ?_
        obtain ⟨r76, rfl, g77, e77_k0, e77_k1, e77_k2, e77_k3, e77_k4, e77_k5, p77_0⟩ := h77
        have f77 : Fr W_rx Mr Ma77 := Fr.t Fr.r (Fr.m g77 (by decide))
        refine rsr (cI_e rfl) ?_
        refine rsr (gtI_q (w := iI 1) (rk_160 (hR.fr f77)) (e77_k4)) ?_
        refine rsr (if_neg (eqI_n (rfl) (li_0) (by omega))) ?_
        exact Rs.ok (Or.inr ⟨1, ((pl (i + 2))), f75, (Fr.m f77 (by decide)), ⟨(i + 2), sz74, sn74, uc74, e75_k0, e75_k1, e75_k2, e75_k3, e75_sz74, e75_sn74, e75_uc74, by omega⟩, ⟨e, s, (u + 1), mu, ut, e77_k4, e77_k5, (g77.i _ _ (by decide)).trans (wa_43), (g77.i _ _ (by decide)).trans (wa_51), e77_k0, (g77.i _ _ (by decide)).trans (h48), (g77.i _ _ (by decide)).trans (h49), by omega⟩⟩)
      ·
        refine RlI (a104_2 (by omega) hS hC (hTk.fr (WL := W_cp) Fr.r (by decide)) hu1 (by rw [(Fr.r : Fr W_cp Mc _).p]; exact hu2) (Fr.kd (W := W_cp) Fr.r hu3) ((Fr.i (W := W_cp) Fr.r _ _ (inW_hi (by decide) hu1 _)).trans hu4) (qa_12) (qa_13) (qa_10) (qa_19) (by omega)) fun v Ma79 h79 => ?_
        obtain ⟨r78, rfl, g79, e79_k0, e79_k1, e79_k2, e79_k3, e79_k4, p79_0, p79_1⟩ := h79
        have f79 : Fr W_cp Mc Ma79 := Fr.t Fr.r (Fr.m g79 (by decide))
        refine rsl (cI_e rfl) ?_
        refine rsl (gtI_q (w := iI 2) (ck_65 (hC.fr f79)) (e79_k2)) ?_
        refine rsl (jn_v) ?_
        refine rsl (if_neg (eqI_n (rfl) (li_40) (by omega))) ?_
        refine rsl (gtI_q (w := iI 2) (ck_65 (hC.fr f79)) (e79_k2)) ?_
        refine rsl (if_neg (eqI_n (rfl) (li_91) (by omega))) ?_
        refine rsl (vC_e (ck_65 (hC.fr f79))) ?_
        refine RlV (y106 (by omega) (hC.fr f79) (hTk.fr (WL := W_cp) f79 (by decide)) (e79_k0) (e79_k2) (e79_k3) (e79_k4) ((g79.i _ _ (by decide)).trans (qa_9)) ((g79.i _ _ (by decide)).trans (qa_16)) (e79_k1) (congrArg iI p79_0) (li_1) (li_1) (li_3) (by omega)) fun v Ma81 h81 => ?_
        obtain ⟨sz80, sn80, uc80, g81, e81_sz80, e81_sn80, e81_uc80, e81_k0, e81_k1, e81_k2, e81_k3, p81_0, p81_1, p81_2⟩ := h81
        have f81 : Fr W_cp Mc Ma81 := Fr.t f79 (Fr.m g81 (by decide))
        refine rsl (cV_e rfl) ?_
        refine rsl (jv_e) ?_
        refine rsr (vC_e (rk_160 hR)) ?_
        refine RrI (a201_2 (by omega) hS hR (hT.fr (W := W_rx) Fr.r (by decide) (by decide)) (fun i a b => (Fr.lc (W := W_rx) Fr.r _ (by decide) _).trans (hW i a b)) (wa_36) (wa_37) (wa_38) (wa_41) (h49) (wa_53) wa_n (by omega)) fun v Ma83 h83 => ?_
        obtain ⟨r82, rfl, g83, e83_k0, e83_k1, e83_k2, e83_k3, e83_k4, e83_k5, p83_0⟩ := h83
        have f83 : Fr W_rx Mr Ma83 := Fr.t Fr.r (Fr.m g83 (by decide))
        refine rsr (cI_e rfl) ?_
        refine rsr (gtI_q (w := iI 2) (rk_160 (hR.fr f83)) (e83_k4)) ?_
        refine rsr (if_neg (eqI_n (rfl) (li_0) (by omega))) ?_
        exact Rs.ok (Or.inr ⟨2, ((pl (i + 2))), f81, (Fr.m f83 (by decide)), ⟨(i + 2), sz80, sn80, uc80, e81_k0, e81_k1, e81_k2, e81_k3, e81_sz80, e81_sn80, e81_uc80, by omega⟩, ⟨e, s, (u + 1), mu, ut, e83_k4, e83_k5, (g83.i _ _ (by decide)).trans (wa_43), (g83.i _ _ (by decide)).trans (wa_51), e83_k0, (g83.i _ _ (by decide)).trans (h48), (g83.i _ _ (by decide)).trans (h49), by omega⟩⟩)
  ·
    have hlt : ∀ j, 0 ≤ j → j < u → U 0 j < uc := fun j a b => (cua.1 j a b).1.2
    refine RlI (a104_u (by omega) hS hC (hTk.fr (WL := W_cp) Fr.r (by decide)) hu1 (by rw [(Fr.r : Fr W_cp Mc _).p]; exact hu2) (Fr.kd (W := W_cp) Fr.r hu3) ((Fr.i (W := W_cp) Fr.r _ _ (inW_hi (by decide) hu1 _)).trans hu4) (qa_12) (qa_13) (qa_10) (qa_19) (by omega)) fun v Ma85 h85 => ?_
    obtain ⟨r84, rfl, g85, e85_k0, e85_k1, e85_k2, e85_k3, p85_0, p85_1⟩ := h85
    have f85 : Fr W_cp Mc Ma85 := Fr.t Fr.r (Fr.m g85 (by decide))
    refine rsl (cI_e rfl) ?_
    refine rsl (gtI_q (w := iI ((kd (i + 1)))) (ck_65 (hC.fr f85)) (e85_k2)) ?_
    refine rsl (jn_v) ?_
    by_cases c86 : ((kd (i + 1))) = 40
    · refine rsl (if_pos (eqI_p (rfl) (li_40) (by omega))) ?_
      refine rsl (vC_e (ck_65 (hC.fr f85))) ?_
      refine rsr (vC_e (rk_160 hR)) ?_
      refine RrI (a201_u (by omega) hS hR (hT.fr (W := W_rx) Fr.r (by decide) (by decide)) (fun i a b => (Fr.lc (W := W_rx) Fr.r _ (by decide) _).trans (hW i a b)) (wa_36) (wa_37) (wa_38) (wa_41) (h49) (wa_53) wa_n (by omega)) fun v Ma88 h88 => ?_
      obtain ⟨r87, rfl, g88, e88_k0, e88_k1, e88_k2, e88_k3, e88_k4, p88_0, p88_1, p88_2⟩ := h88
      have f88 : Fr W_rx Mr Ma88 := Fr.t Fr.r (Fr.m g88 (by decide))
      refine rsr (cI_e rfl) ?_
      refine rsr (gtI_q (w := iI 0) (rk_160 (hR.fr f88)) (e88_k4)) ?_
      refine rsr (if_pos (eqI_p (rfl) (li_0) (by omega))) ?_
      refine rsr (gtP_q (w := some 202) (rk_160 (hR.fr f88)) (rf_56 (hR.fr f88))) ?_
      refine rsr (alL_q (n := 2000) (z := u) (w := (0 : Int64)) (rk_202 (hR.fr f88)) (congrArg iI p88_0) (by omega) (p88_1.2.2.2.1)) ?_
      refine rsr (jn_v) ?_
      by_cases c89 : (0 : Int64) = (0 : Int64)
      ·
        refine rsr (if_pos (lgc_p (rfl) (rfl) c89)) ?_
        refine rsr (gtP_q (w := some 204) (rk_160 (hR.fr f88)) (rf_58 (hR.fr f88))) ?_
        refine rsr (alL_q (n := 2000) (z := u) (w := (tx i)) (rk_204 (hR.fr f88)) (congrArg iI p88_0) (by omega) (p88_1.2.2.2.2.2.1)) ?_
        refine rsr (vC_e (rk_160 (hR.fr f88))) ?_
        obtain ⟨rl, hrl⟩ : ∃ r, LcF Hl s (tx i) r := by have q := LcF_ex (Hl := Hl) (y := (tx i)) s.toNat; rw [show ((s.toNat : Nat) : Int) = s by omega] at q; exact q
        have brl := hrl.bd
        by_cases crl : rl = -1
        ·
          subst crl
          refine RrI (a197 (by omega) (hR.fr f88) ((g88.i _ _ (by decide)).trans (wa_51)) (lra.fr g88 (by decide)) (by omega)) fun v Nl90 hl90 => ?_
          obtain ⟨r9, rfl, hMl, hr9⟩ := hl90
          rw [hMl]
          have q9 := LcF.one hr9 hrl
          rw [q9]
          refine rsr (cI_e rfl) ?_
          refine rsr (jv_e) ?_
          try dsimp only
          refine rsr (gtI_q (w := iI ((kr (kd (i + 1))))) (rk_160 (hR.fr f88)) (e88_k1)) ?_
          refine rsr (jn_v) ?_
          refine rsr (if_pos (krI_p (k := 40) (rfl) (li_40) (by omega) (by decide +kernel))) ?_
          refine rsr (vC_e (rk_160 (hR.fr f88))) ?_
          refine Rb_VV (hCl _ _ (by omega) (by omega) T n m kd pl E tx ua ut mu _ _ G (pu U u [uc, (V Mr 201 u.toNat), (V Mr 200 u.toNat), (V Mr 203 u.toNat), (pl i), (V Mr 206 u.toNat), ut, 0, (V Mc 79 uc.toNat), (V Mc 80 uc.toNat), (V Mc 82 uc.toNat)]) Hl (pux X u [(0 : Int64), (tx i)]) (i + 1) e s (u + 1) (uc + 1) _ _ _ hS (hCx.fr f85 f88) ⟨e85_k0, e85_k2, e85_k3, (g85.i _ _ (by decide)).trans (qa_9), (g85.i _ _ (by decide)).trans (qa_16), e85_k1⟩ ⟨e88_k1, e88_k2, e88_k3, e88_k4, (g88.i _ _ (by decide)).trans (wa_43), (g88.i _ _ (by decide)).trans (wa_51), e88_k0, (g88.i _ _ (by decide)).trans (wa_50), p88_2⟩ ⟨(caa.fr g85 (by decide)), (raa.fr g88 (by decide)), (lca.fr g85 (by decide)), (lra.fr g88 (by decide)), (CU.add cua (by omega) (by omega) p85_1 rfl rfl), (RU.add rua (by omega) p88_1 rfl)⟩ ⟨by omega, by omega, by omega, by omega, by omega, by omega, by omega, by omega, by omega, by omega, by omega, by omega⟩ (x := uc) (by omega) (by omega) (pu_e (by omega)) (congrArg iI p85_0) (rfl) (cvI (congrArg iI p88_0) (by omega))) fun v Mx91 w Nx91 hx91 => ?_
          rcases hx91 with ⟨i91, e91, u91, uc91, G91, U91, X91, fl91, fr91, sc91, sr91, rw91, bd91, mv91, ag91, au91, ax91⟩ | ⟨F91, P91, fl91, fr91, tc91, tr91⟩
          ·
            have FL91 : Fr W_cp Mc Mx91 := Fr.t f85 fl91
            have FR91 : Fr W_rx Mr Nx91 := Fr.t f88 fr91
            obtain ⟨bb91_0, bb91_1, bb91_2, bb91_3, bb91_4, bb91_5, bb91_6, bb91_7, bb91_8, bb91_9, bb91_10, bb91_11⟩ := bd91
            obtain ⟨q91_12, q91_13, q91_10, q91_9, q91_16, q91_19⟩ := sc91
            obtain ⟨w91_36, w91_37, w91_38, w91_41, w91_43, w91_51, w91_53, w91_50, w91_n⟩ := sr91
            obtain ⟨ca91, ra91, lc91, lr91, cu91, ru91⟩ := rw91
            have hk92 := (hS.ok i91 (by omega) (by omega)).r
            refine rsl (cV_e rfl) ?_
            refine rsr (cV_e rfl) ?_
            refine rsl (jv_e) ?_
            refine rsr (jv_e) ?_
            exact Rs.ok (Or.inl ⟨i91, e91, u91, uc91, G91, U91, X91, FL91, FR91, ⟨q91_12, q91_13, q91_10, q91_9, q91_16, q91_19⟩, ⟨w91_36, w91_37, w91_38, w91_41, w91_43, w91_51, w91_53, w91_50, w91_n⟩, ⟨ca91, ra91, lc91, lr91, cu91, ru91⟩, ⟨by omega, by omega, by omega, by omega, by omega, by omega, by omega, by omega, by omega, by omega, by omega, by omega⟩, ⟨by omega, by omega, by omega, by omega, by omega, by omega⟩, (Ag.t Ag.r ag91 (by omega)), (Ag.t (Ag.pu Ag.r (by omega)) au91 (by omega)), (AgL.t (AgL.pu AgL.r (by omega)) ax91 (by omega))⟩)
          ·
            have FL91 : Fr W_cp Mc Mx91 := Fr.t f85 fl91
            have FR91 : Fr W_rp Mr Nx91 := Fr.t (Fr.m f88 W_rx_p) fr91
            obtain ⟨ti91, tz91, tn91, tu91, t1391, t1091, t1191, t1291, t991, t1691, t1991, tb91⟩ := tc91
            obtain ⟨re91, rn91, ru91, rm91, rt91, u4191, u4291, u4391, u5191, u5391, u4891, u4991, ub91⟩ := tr91
            refine rsl (cV_e rfl) ?_
            refine rsr (cV_e rfl) ?_
            refine rsl (jv_e) ?_
            refine rsr (jv_e) ?_
            exact Rs.ok (Or.inr ⟨F91, P91, FL91, FR91, ⟨ti91, tz91, tn91, tu91, t1391, t1091, t1191, t1291, t991, t1691, t1991, by omega⟩, ⟨re91, rn91, ru91, rm91, rt91, u4191, u4291, u4391, u5191, u5391, u4891, u4991, by omega⟩⟩)
        ·
          refine RrI (a197 (by omega) (hR.fr f88) ((g88.i _ _ (by decide)).trans (wa_51)) (lra.fr g88 (by decide)) (by omega)) fun v Nl90 hl90 => ?_
          obtain ⟨r9, rfl, hMl, hr9⟩ := hl90
          rw [hMl]
          have q9 := LcF.one hr9 hrl
          rw [q9]
          refine rsr (cI_e rfl) ?_
          refine rsr (jv_e) ?_
          try dsimp only
          refine rsr (gtI_q (w := iI ((kr (kd (i + 1))))) (rk_160 (hR.fr f88)) (e88_k1)) ?_
          refine rsr (jn_v) ?_
          refine rsr (if_pos (krI_p (k := 40) (rfl) (li_40) (by omega) (by decide +kernel))) ?_
          refine rsr (vC_e (rk_160 (hR.fr f88))) ?_
          refine Rb_VV (hCl _ _ (by omega) (by omega) T n m kd pl E tx ua ut mu _ _ G (pu U u [uc, (V Mr 201 u.toNat), (V Mr 200 u.toNat), (V Mr 203 u.toNat), (pl i), (V Mr 206 u.toNat), ut, 0, (V Mc 79 uc.toNat), (V Mc 80 uc.toNat), (V Mc 82 uc.toNat)]) Hl (pux X u [(0 : Int64), (tx i)]) (i + 1) e s (u + 1) (uc + 1) _ _ _ hS (hCx.fr f85 f88) ⟨e85_k0, e85_k2, e85_k3, (g85.i _ _ (by decide)).trans (qa_9), (g85.i _ _ (by decide)).trans (qa_16), e85_k1⟩ ⟨e88_k1, e88_k2, e88_k3, e88_k4, (g88.i _ _ (by decide)).trans (wa_43), (g88.i _ _ (by decide)).trans (wa_51), e88_k0, (g88.i _ _ (by decide)).trans (wa_50), p88_2⟩ ⟨(caa.fr g85 (by decide)), (raa.fr g88 (by decide)), (lca.fr g85 (by decide)), (lra.fr g88 (by decide)), (CU.add cua (by omega) (by omega) p85_1 rfl rfl), (RU.add rua (by omega) p88_1 rfl)⟩ ⟨by omega, by omega, by omega, by omega, by omega, by omega, by omega, by omega, by omega, by omega, by omega, by omega⟩ (x := uc) (by omega) (by omega) (pu_e (by omega)) (congrArg iI p85_0) (rfl) (cvI (congrArg iI p88_0) (by omega))) fun v Mx93 w Nx93 hx93 => ?_
          rcases hx93 with ⟨i93, e93, u93, uc93, G93, U93, X93, fl93, fr93, sc93, sr93, rw93, bd93, mv93, ag93, au93, ax93⟩ | ⟨F93, P93, fl93, fr93, tc93, tr93⟩
          ·
            have FL93 : Fr W_cp Mc Mx93 := Fr.t f85 fl93
            have FR93 : Fr W_rx Mr Nx93 := Fr.t f88 fr93
            obtain ⟨bb93_0, bb93_1, bb93_2, bb93_3, bb93_4, bb93_5, bb93_6, bb93_7, bb93_8, bb93_9, bb93_10, bb93_11⟩ := bd93
            obtain ⟨q93_12, q93_13, q93_10, q93_9, q93_16, q93_19⟩ := sc93
            obtain ⟨w93_36, w93_37, w93_38, w93_41, w93_43, w93_51, w93_53, w93_50, w93_n⟩ := sr93
            obtain ⟨ca93, ra93, lc93, lr93, cu93, ru93⟩ := rw93
            have hk94 := (hS.ok i93 (by omega) (by omega)).r
            refine rsl (cV_e rfl) ?_
            refine rsr (cV_e rfl) ?_
            refine rsl (jv_e) ?_
            refine rsr (jv_e) ?_
            exact Rs.ok (Or.inl ⟨i93, e93, u93, uc93, G93, U93, X93, FL93, FR93, ⟨q93_12, q93_13, q93_10, q93_9, q93_16, q93_19⟩, ⟨w93_36, w93_37, w93_38, w93_41, w93_43, w93_51, w93_53, w93_50, w93_n⟩, ⟨ca93, ra93, lc93, lr93, cu93, ru93⟩, ⟨by omega, by omega, by omega, by omega, by omega, by omega, by omega, by omega, by omega, by omega, by omega, by omega⟩, ⟨by omega, by omega, by omega, by omega, by omega, by omega⟩, (Ag.t Ag.r ag93 (by omega)), (Ag.t (Ag.pu Ag.r (by omega)) au93 (by omega)), (AgL.t (AgL.pu AgL.r (by omega)) ax93 (by omega))⟩)
          ·
            have FL93 : Fr W_cp Mc Mx93 := Fr.t f85 fl93
            have FR93 : Fr W_rp Mr Nx93 := Fr.t (Fr.m f88 W_rx_p) fr93
            obtain ⟨ti93, tz93, tn93, tu93, t1393, t1093, t1193, t1293, t993, t1693, t1993, tb93⟩ := tc93
            obtain ⟨re93, rn93, ru93, rm93, rt93, u4193, u4293, u4393, u5193, u5393, u4893, u4993, ub93⟩ := tr93
            refine rsl (cV_e rfl) ?_
            refine rsr (cV_e rfl) ?_
            refine rsl (jv_e) ?_
            refine rsr (jv_e) ?_
            exact Rs.ok (Or.inr ⟨F93, P93, FL93, FR93, ⟨ti93, tz93, tn93, tu93, t1393, t1093, t1193, t1293, t993, t1693, t1993, by omega⟩, ⟨re93, rn93, ru93, rm93, rt93, u4193, u4293, u4393, u5193, u5393, u4893, u4993, by omega⟩⟩)
      ·
        refine rsr (if_neg (lgc_n (rfl) (rfl) c89)) ?_
        refine rsr (jv_e) ?_
        try dsimp only
        refine rsr (gtI_q (w := iI ((kr (kd (i + 1))))) (rk_160 (hR.fr f88)) (e88_k1)) ?_
        refine rsr (jn_v) ?_
        refine rsr (if_pos (krI_p (k := 40) (rfl) (li_40) (by omega) (by decide +kernel))) ?_
        refine rsr (vC_e (rk_160 (hR.fr f88))) ?_
        refine Rb_VV (hCl _ _ (by omega) (by omega) T n m kd pl E tx ua ut mu _ _ G (pu U u [uc, (V Mr 201 u.toNat), (V Mr 200 u.toNat), (V Mr 203 u.toNat), (pl i), (V Mr 206 u.toNat), ut, 0, (V Mc 79 uc.toNat), (V Mc 80 uc.toNat), (V Mc 82 uc.toNat)]) Hl (pux X u [(0 : Int64), (tx i)]) (i + 1) e s (u + 1) (uc + 1) _ _ _ hS (hCx.fr f85 f88) ⟨e85_k0, e85_k2, e85_k3, (g85.i _ _ (by decide)).trans (qa_9), (g85.i _ _ (by decide)).trans (qa_16), e85_k1⟩ ⟨e88_k1, e88_k2, e88_k3, e88_k4, (g88.i _ _ (by decide)).trans (wa_43), (g88.i _ _ (by decide)).trans (wa_51), e88_k0, (g88.i _ _ (by decide)).trans (wa_50), p88_2⟩ ⟨(caa.fr g85 (by decide)), (raa.fr g88 (by decide)), (lca.fr g85 (by decide)), (lra.fr g88 (by decide)), (CU.add cua (by omega) (by omega) p85_1 rfl rfl), (RU.add rua (by omega) p88_1 rfl)⟩ ⟨by omega, by omega, by omega, by omega, by omega, by omega, by omega, by omega, by omega, by omega, by omega, by omega⟩ (x := uc) (by omega) (by omega) (pu_e (by omega)) (congrArg iI p85_0) (rfl) (cvI (congrArg iI p88_0) (by omega))) fun v Mx95 w Nx95 hx95 => ?_
        rcases hx95 with ⟨i95, e95, u95, uc95, G95, U95, X95, fl95, fr95, sc95, sr95, rw95, bd95, mv95, ag95, au95, ax95⟩ | ⟨F95, P95, fl95, fr95, tc95, tr95⟩
        ·
          have FL95 : Fr W_cp Mc Mx95 := Fr.t f85 fl95
          have FR95 : Fr W_rx Mr Nx95 := Fr.t f88 fr95
          obtain ⟨bb95_0, bb95_1, bb95_2, bb95_3, bb95_4, bb95_5, bb95_6, bb95_7, bb95_8, bb95_9, bb95_10, bb95_11⟩ := bd95
          obtain ⟨q95_12, q95_13, q95_10, q95_9, q95_16, q95_19⟩ := sc95
          obtain ⟨w95_36, w95_37, w95_38, w95_41, w95_43, w95_51, w95_53, w95_50, w95_n⟩ := sr95
          obtain ⟨ca95, ra95, lc95, lr95, cu95, ru95⟩ := rw95
          have hk96 := (hS.ok i95 (by omega) (by omega)).r
          refine rsl (cV_e rfl) ?_
          refine rsr (cV_e rfl) ?_
          refine rsl (jv_e) ?_
          refine rsr (jv_e) ?_
          exact Rs.ok (Or.inl ⟨i95, e95, u95, uc95, G95, U95, X95, FL95, FR95, ⟨q95_12, q95_13, q95_10, q95_9, q95_16, q95_19⟩, ⟨w95_36, w95_37, w95_38, w95_41, w95_43, w95_51, w95_53, w95_50, w95_n⟩, ⟨ca95, ra95, lc95, lr95, cu95, ru95⟩, ⟨by omega, by omega, by omega, by omega, by omega, by omega, by omega, by omega, by omega, by omega, by omega, by omega⟩, ⟨by omega, by omega, by omega, by omega, by omega, by omega⟩, (Ag.t Ag.r ag95 (by omega)), (Ag.t (Ag.pu Ag.r (by omega)) au95 (by omega)), (AgL.t (AgL.pu AgL.r (by omega)) ax95 (by omega))⟩)
        ·
          have FL95 : Fr W_cp Mc Mx95 := Fr.t f85 fl95
          have FR95 : Fr W_rp Mr Nx95 := Fr.t (Fr.m f88 W_rx_p) fr95
          obtain ⟨ti95, tz95, tn95, tu95, t1395, t1095, t1195, t1295, t995, t1695, t1995, tb95⟩ := tc95
          obtain ⟨re95, rn95, ru95, rm95, rt95, u4195, u4295, u4395, u5195, u5395, u4895, u4995, ub95⟩ := tr95
          refine rsl (cV_e rfl) ?_
          refine rsr (cV_e rfl) ?_
          refine rsl (jv_e) ?_
          refine rsr (jv_e) ?_
          exact Rs.ok (Or.inr ⟨F95, P95, FL95, FR95, ⟨ti95, tz95, tn95, tu95, t1395, t1095, t1195, t1295, t995, t1695, t1995, by omega⟩, ⟨re95, rn95, ru95, rm95, rt95, u4195, u4295, u4395, u5195, u5395, u4895, u4995, by omega⟩⟩)
    · refine rsl (if_neg (eqI_n (rfl) (li_40) (by omega))) ?_
      refine rsl (gtI_q (w := iI ((kd (i + 1)))) (ck_65 (hC.fr f85)) (e85_k2)) ?_
      by_cases c97 : ((kd (i + 1))) = 91
      · refine rsl (if_pos (eqI_p (rfl) (li_91) (by omega))) ?_
        refine rsl (vC_e (ck_65 (hC.fr f85))) ?_
        refine rsr (vC_e (rk_160 hR)) ?_
        refine RrI (a201_u (by omega) hS hR (hT.fr (W := W_rx) Fr.r (by decide) (by decide)) (fun i a b => (Fr.lc (W := W_rx) Fr.r _ (by decide) _).trans (hW i a b)) (wa_36) (wa_37) (wa_38) (wa_41) (h49) (wa_53) wa_n (by omega)) fun v Ma99 h99 => ?_
        obtain ⟨r98, rfl, g99, e99_k0, e99_k1, e99_k2, e99_k3, e99_k4, p99_0, p99_1, p99_2⟩ := h99
        have f99 : Fr W_rx Mr Ma99 := Fr.t Fr.r (Fr.m g99 (by decide))
        refine rsr (cI_e rfl) ?_
        refine rsr (gtI_q (w := iI 0) (rk_160 (hR.fr f99)) (e99_k4)) ?_
        refine rsr (if_pos (eqI_p (rfl) (li_0) (by omega))) ?_
        refine rsr (gtP_q (w := some 202) (rk_160 (hR.fr f99)) (rf_56 (hR.fr f99))) ?_
        refine rsr (alL_q (n := 2000) (z := u) (w := (0 : Int64)) (rk_202 (hR.fr f99)) (congrArg iI p99_0) (by omega) (p99_1.2.2.2.1)) ?_
        refine rsr (jn_v) ?_
        by_cases c100 : (0 : Int64) = (0 : Int64)
        ·
          refine rsr (if_pos (lgc_p (rfl) (rfl) c100)) ?_
          refine rsr (gtP_q (w := some 204) (rk_160 (hR.fr f99)) (rf_58 (hR.fr f99))) ?_
          refine rsr (alL_q (n := 2000) (z := u) (w := (tx i)) (rk_204 (hR.fr f99)) (congrArg iI p99_0) (by omega) (p99_1.2.2.2.2.2.1)) ?_
          refine rsr (vC_e (rk_160 (hR.fr f99))) ?_
          obtain ⟨rl, hrl⟩ : ∃ r, LcF Hl s (tx i) r := by have q := LcF_ex (Hl := Hl) (y := (tx i)) s.toNat; rw [show ((s.toNat : Nat) : Int) = s by omega] at q; exact q
          have brl := hrl.bd
          by_cases crl : rl = -1
          ·
            subst crl
            refine RrI (a197 (by omega) (hR.fr f99) ((g99.i _ _ (by decide)).trans (wa_51)) (lra.fr g99 (by decide)) (by omega)) fun v Nl101 hl101 => ?_
            obtain ⟨r9, rfl, hMl, hr9⟩ := hl101
            rw [hMl]
            have q9 := LcF.one hr9 hrl
            rw [q9]
            refine rsr (cI_e rfl) ?_
            refine rsr (jv_e) ?_
            try dsimp only
            refine rsr (gtI_q (w := iI ((kr (kd (i + 1))))) (rk_160 (hR.fr f99)) (e99_k1)) ?_
            refine rsr (jn_v) ?_
            refine rsr (if_neg (krI_n (k := 40) (rfl) (li_40) (hS.ok (i + 1) (by omega) (by omega)) (by unfold KdOK sgk; omega) (by decide +kernel) (by omega) (by omega))) ?_
            refine rsr (gtI_q (w := iI ((kr (kd (i + 1))))) (rk_160 (hR.fr f99)) (e99_k1)) ?_
            refine rsr (if_pos (krI_p (k := 91) (rfl) (li_91) (by omega) (by decide +kernel))) ?_
            refine rsr (vC_e (rk_160 (hR.fr f99))) ?_
            refine Rb_VV (hX _ _ (by omega) (by omega) T n m kd pl E tx ua ut mu _ _ G (pu U u [uc, (V Mr 201 u.toNat), (V Mr 200 u.toNat), (V Mr 203 u.toNat), (pl i), (V Mr 206 u.toNat), ut, 0, (V Mc 79 uc.toNat), (V Mc 80 uc.toNat), (V Mc 82 uc.toNat)]) Hl (pux X u [(0 : Int64), (tx i)]) (i + 1) e s (u + 1) (uc + 1) _ hS (hCx.fr f85 f99) ⟨e85_k0, e85_k2, e85_k3, (g85.i _ _ (by decide)).trans (qa_9), (g85.i _ _ (by decide)).trans (qa_16), e85_k1⟩ ⟨e99_k1, e99_k2, e99_k3, e99_k4, (g99.i _ _ (by decide)).trans (wa_43), (g99.i _ _ (by decide)).trans (wa_51), e99_k0, (g99.i _ _ (by decide)).trans (wa_50), p99_2⟩ ⟨(caa.fr g85 (by decide)), (raa.fr g99 (by decide)), (lca.fr g85 (by decide)), (lra.fr g99 (by decide)), (CU.add cua (by omega) (by omega) p85_1 rfl rfl), (RU.add rua (by omega) p99_1 rfl)⟩ ⟨by omega, by omega, by omega, by omega, by omega, by omega, by omega, by omega, by omega, by omega, by omega, by omega⟩ (by omega) (vs1 (rfl))) fun v Mx102 w Nx102 hx102 => ?_
            rcases hx102 with ⟨i102, e102, u102, uc102, G102, U102, X102, fl102, fr102, sc102, sr102, rw102, bd102, mv102, ag102, au102, ax102⟩ | ⟨F102, P102, fl102, fr102, tc102, tr102⟩
            ·
              have FL102 : Fr W_cp Mc Mx102 := Fr.t f85 fl102
              have FR102 : Fr W_rx Mr Nx102 := Fr.t f99 fr102
              obtain ⟨bb102_0, bb102_1, bb102_2, bb102_3, bb102_4, bb102_5, bb102_6, bb102_7, bb102_8, bb102_9, bb102_10, bb102_11⟩ := bd102
              obtain ⟨q102_12, q102_13, q102_10, q102_9, q102_16, q102_19⟩ := sc102
              obtain ⟨w102_36, w102_37, w102_38, w102_41, w102_43, w102_51, w102_53, w102_50, w102_n⟩ := sr102
              obtain ⟨ca102, ra102, lc102, lr102, cu102, ru102⟩ := rw102
              have hk103 := (hS.ok i102 (by omega) (by omega)).r
              refine rsl (cV_e rfl) ?_
              refine rsr (cV_e rfl) ?_
              refine rsl (vC_e (ck_65 (hC.fr FL102))) ?_
              refine RlV (a105 (by omega) (hC.fr FL102) (q102_9) (congrArg iI p85_0) (li_3) (li_5) (by omega)) fun v Ma105 h105 => ?_
              obtain ⟨g105, e105_k0, p105_0, p105_1⟩ := h105
              have f105 : Fr W_cp Mc Ma105 := Fr.t FL102 (Fr.m g105 (by decide))
              refine rsl (cV_e rfl) ?_
              refine rsl (jv_e) ?_
              refine rsr (vC_e (rk_160 (hR.fr FR102))) ?_
              refine RrV (a202 (by omega) (hR.fr FR102) (w102_43) ((FR102.i _ _ (by decide)).trans h49) ((FR102.i _ _ (by decide)).trans h48) (congrArg iI p99_0) (li_2) (li_5) (by omega)) fun v Ma106 h106 => ?_
              obtain ⟨g106, e106_k0, p106_0, p106_1⟩ := h106
              have f106 : Fr W_rx Mr Ma106 := Fr.t FR102 (Fr.m g106 (by decide))
              refine rsr (cV_e rfl) ?_
              refine rsr (jv_e) ?_
              exact Rs.ok (Or.inl ⟨i102, (e102 + 1), u102, uc102, (pu G102 e102 [5, 0, -2, u, ut, mu, 0]), (ps U102 u 2 3 e102), X102, f105, f106, ⟨(g105.i _ _ (by decide)).trans (q102_12), (g105.i _ _ (by decide)).trans (q102_13), (g105.i _ _ (by decide)).trans (q102_10), e105_k0, (g105.i _ _ (by decide)).trans (q102_16), (g105.i _ _ (by decide)).trans (q102_19)⟩, ⟨(g106.i _ _ (by decide)).trans (w102_36), (g106.i _ _ (by decide)).trans (w102_37), (g106.i _ _ (by decide)).trans (w102_38), (g106.i _ _ (by decide)).trans (w102_41), e106_k0, (g106.i _ _ (by decide)).trans (w102_51), (g106.i _ _ (by decide)).trans (w102_53), (g106.i _ _ (by decide)).trans (w102_50), (w102_n.fr g106 (by decide) (by decide))⟩, ⟨(CA1.em ca102 (by omega) p105_0 rfl), (RA1.em ra102 (by omega) p106_0 rfl), (lc102.fr g105 (by decide)), (lr102.fr g106 (by decide)), (CU.set (b := 2) cu102 ⟨by omega, by omega⟩ ((au102 0 _ (by omega)).trans (pu_e rfl)) p105_1 g105 (by decide)), (RU.set ru102 ⟨by omega, by omega⟩ p106_1 g106 (by decide))⟩, ⟨by omega, by omega, by omega, by omega, by omega, by omega, by omega, by omega, by omega, by omega, by omega, by omega⟩, ⟨by omega, by omega, by omega, by omega, by omega, by omega⟩, (Ag.pu (Ag.t Ag.r ag102 (by omega)) (by omega)), (Ag.ps (Ag.t (Ag.pu Ag.r (by omega)) au102 (by omega)) (by omega)), (AgL.t (AgL.pu AgL.r (by omega)) ax102 (by omega))⟩)
            ·
              have FL102 : Fr W_cp Mc Mx102 := Fr.t f85 fl102
              have FR102 : Fr W_rp Mr Nx102 := Fr.t (Fr.m f99 W_rx_p) fr102
              obtain ⟨ti102, tz102, tn102, tu102, t13102, t10102, t11102, t12102, t9102, t16102, t19102, tb102⟩ := tc102
              obtain ⟨re102, rn102, ru102, rm102, rt102, u41102, u42102, u43102, u51102, u53102, u48102, u49102, ub102⟩ := tr102
              refine rsl (cV_e rfl) ?_
              refine rsr (cV_e rfl) ?_
              refine rsl (vC_e (ck_65 (hC.fr FL102))) ?_
              refine RlV (y105 (by omega) (hC.fr FL102) (hTk.fr (WL := W_cp) FL102 (by decide)) (t12102) (t13102) (t10102) (t11102) (t9102) (t16102) (t19102) (congrArg iI p85_0) (li_3) (li_5) (by omega)) fun v Ma108 h108 => ?_
              obtain ⟨sz107, sn107, uc107, g108, e108_sz107, e108_sn107, e108_uc107, e108_k0, e108_k1, e108_k2, e108_k3, p108_0, p108_1, p108_2⟩ := h108
              have f108 : Fr W_cp Mc Ma108 := Fr.t FL102 (Fr.m g108 (by decide))
              refine rsl (cV_e rfl) ?_
              refine rsl (jv_e) ?_
              refine rsr (vC_e (rk_160 (hR.fr FR102))) ?_
              refine RrV (x202_s (by omega) (hR.fr FR102) (u41102) (u42102) (u43102) (u51102) (u53102) (u48102) (u49102) (congrArg iI p99_0) (li_2) (li_5) (by omega)) fun v Ma110 h110 => ?_
              obtain ⟨em109, g110, e110_em109, e110_k0, e110_k1, e110_k2, e110_k3, e110_k4, p110_0⟩ := h110
              have f110 : Fr W_rp Mr Ma110 := Fr.t FR102 (Fr.m g110 (by decide))
              refine rsr (cV_e rfl) ?_
              refine rsr (jv_e) ?_
              exact Rs.ok (Or.inr ⟨F102, P102, f108, f110, ⟨ti102, sz107, sn107, uc107, e108_k0, e108_k1, e108_k2, e108_k3, e108_sz107, e108_sn107, e108_uc107, by omega⟩, ⟨em109, rn102, ru102, rm102, rt102, e110_k0, e110_k1, e110_em109, e110_k2, e110_k3, e110_k4, (g110.i _ _ (by decide)).trans (u49102), by omega⟩⟩)
          ·
            refine RrI (a197 (by omega) (hR.fr f99) ((g99.i _ _ (by decide)).trans (wa_51)) (lra.fr g99 (by decide)) (by omega)) fun v Nl101 hl101 => ?_
            obtain ⟨r9, rfl, hMl, hr9⟩ := hl101
            rw [hMl]
            have q9 := LcF.one hr9 hrl
            rw [q9]
            refine rsr (cI_e rfl) ?_
            refine rsr (jv_e) ?_
            try dsimp only
            refine rsr (gtI_q (w := iI ((kr (kd (i + 1))))) (rk_160 (hR.fr f99)) (e99_k1)) ?_
            refine rsr (jn_v) ?_
            refine rsr (if_neg (krI_n (k := 40) (rfl) (li_40) (hS.ok (i + 1) (by omega) (by omega)) (by unfold KdOK sgk; omega) (by decide +kernel) (by omega) (by omega))) ?_
            refine rsr (gtI_q (w := iI ((kr (kd (i + 1))))) (rk_160 (hR.fr f99)) (e99_k1)) ?_
            refine rsr (if_pos (krI_p (k := 91) (rfl) (li_91) (by omega) (by decide +kernel))) ?_
            refine rsr (vC_e (rk_160 (hR.fr f99))) ?_
            refine Rb_VV (hX _ _ (by omega) (by omega) T n m kd pl E tx ua ut mu _ _ G (pu U u [uc, (V Mr 201 u.toNat), (V Mr 200 u.toNat), (V Mr 203 u.toNat), (pl i), (V Mr 206 u.toNat), ut, 0, (V Mc 79 uc.toNat), (V Mc 80 uc.toNat), (V Mc 82 uc.toNat)]) Hl (pux X u [(0 : Int64), (tx i)]) (i + 1) e s (u + 1) (uc + 1) _ hS (hCx.fr f85 f99) ⟨e85_k0, e85_k2, e85_k3, (g85.i _ _ (by decide)).trans (qa_9), (g85.i _ _ (by decide)).trans (qa_16), e85_k1⟩ ⟨e99_k1, e99_k2, e99_k3, e99_k4, (g99.i _ _ (by decide)).trans (wa_43), (g99.i _ _ (by decide)).trans (wa_51), e99_k0, (g99.i _ _ (by decide)).trans (wa_50), p99_2⟩ ⟨(caa.fr g85 (by decide)), (raa.fr g99 (by decide)), (lca.fr g85 (by decide)), (lra.fr g99 (by decide)), (CU.add cua (by omega) (by omega) p85_1 rfl rfl), (RU.add rua (by omega) p99_1 rfl)⟩ ⟨by omega, by omega, by omega, by omega, by omega, by omega, by omega, by omega, by omega, by omega, by omega, by omega⟩ (by omega) (vs1 (rfl))) fun v Mx111 w Nx111 hx111 => ?_
            rcases hx111 with ⟨i111, e111, u111, uc111, G111, U111, X111, fl111, fr111, sc111, sr111, rw111, bd111, mv111, ag111, au111, ax111⟩ | ⟨F111, P111, fl111, fr111, tc111, tr111⟩
            ·
              have FL111 : Fr W_cp Mc Mx111 := Fr.t f85 fl111
              have FR111 : Fr W_rx Mr Nx111 := Fr.t f99 fr111
              obtain ⟨bb111_0, bb111_1, bb111_2, bb111_3, bb111_4, bb111_5, bb111_6, bb111_7, bb111_8, bb111_9, bb111_10, bb111_11⟩ := bd111
              obtain ⟨q111_12, q111_13, q111_10, q111_9, q111_16, q111_19⟩ := sc111
              obtain ⟨w111_36, w111_37, w111_38, w111_41, w111_43, w111_51, w111_53, w111_50, w111_n⟩ := sr111
              obtain ⟨ca111, ra111, lc111, lr111, cu111, ru111⟩ := rw111
              have hk112 := (hS.ok i111 (by omega) (by omega)).r
              refine rsl (cV_e rfl) ?_
              refine rsr (cV_e rfl) ?_
              refine rsl (vC_e (ck_65 (hC.fr FL111))) ?_
              refine RlV (a105 (by omega) (hC.fr FL111) (q111_9) (congrArg iI p85_0) (li_3) (li_5) (by omega)) fun v Ma114 h114 => ?_
              obtain ⟨g114, e114_k0, p114_0, p114_1⟩ := h114
              have f114 : Fr W_cp Mc Ma114 := Fr.t FL111 (Fr.m g114 (by decide))
              refine rsl (cV_e rfl) ?_
              refine rsl (jv_e) ?_
              refine rsr (vC_e (rk_160 (hR.fr FR111))) ?_
              refine RrV (a202 (by omega) (hR.fr FR111) (w111_43) ((FR111.i _ _ (by decide)).trans h49) ((FR111.i _ _ (by decide)).trans h48) (congrArg iI p99_0) (li_2) (li_5) (by omega)) fun v Ma115 h115 => ?_
              obtain ⟨g115, e115_k0, p115_0, p115_1⟩ := h115
              have f115 : Fr W_rx Mr Ma115 := Fr.t FR111 (Fr.m g115 (by decide))
              refine rsr (cV_e rfl) ?_
              refine rsr (jv_e) ?_
              exact Rs.ok (Or.inl ⟨i111, (e111 + 1), u111, uc111, (pu G111 e111 [5, 0, -2, u, ut, mu, 0]), (ps U111 u 2 3 e111), X111, f114, f115, ⟨(g114.i _ _ (by decide)).trans (q111_12), (g114.i _ _ (by decide)).trans (q111_13), (g114.i _ _ (by decide)).trans (q111_10), e114_k0, (g114.i _ _ (by decide)).trans (q111_16), (g114.i _ _ (by decide)).trans (q111_19)⟩, ⟨(g115.i _ _ (by decide)).trans (w111_36), (g115.i _ _ (by decide)).trans (w111_37), (g115.i _ _ (by decide)).trans (w111_38), (g115.i _ _ (by decide)).trans (w111_41), e115_k0, (g115.i _ _ (by decide)).trans (w111_51), (g115.i _ _ (by decide)).trans (w111_53), (g115.i _ _ (by decide)).trans (w111_50), (w111_n.fr g115 (by decide) (by decide))⟩, ⟨(CA1.em ca111 (by omega) p114_0 rfl), (RA1.em ra111 (by omega) p115_0 rfl), (lc111.fr g114 (by decide)), (lr111.fr g115 (by decide)), (CU.set (b := 2) cu111 ⟨by omega, by omega⟩ ((au111 0 _ (by omega)).trans (pu_e rfl)) p114_1 g114 (by decide)), (RU.set ru111 ⟨by omega, by omega⟩ p115_1 g115 (by decide))⟩, ⟨by omega, by omega, by omega, by omega, by omega, by omega, by omega, by omega, by omega, by omega, by omega, by omega⟩, ⟨by omega, by omega, by omega, by omega, by omega, by omega⟩, (Ag.pu (Ag.t Ag.r ag111 (by omega)) (by omega)), (Ag.ps (Ag.t (Ag.pu Ag.r (by omega)) au111 (by omega)) (by omega)), (AgL.t (AgL.pu AgL.r (by omega)) ax111 (by omega))⟩)
            ·
              have FL111 : Fr W_cp Mc Mx111 := Fr.t f85 fl111
              have FR111 : Fr W_rp Mr Nx111 := Fr.t (Fr.m f99 W_rx_p) fr111
              obtain ⟨ti111, tz111, tn111, tu111, t13111, t10111, t11111, t12111, t9111, t16111, t19111, tb111⟩ := tc111
              obtain ⟨re111, rn111, ru111, rm111, rt111, u41111, u42111, u43111, u51111, u53111, u48111, u49111, ub111⟩ := tr111
              refine rsl (cV_e rfl) ?_
              refine rsr (cV_e rfl) ?_
              refine rsl (vC_e (ck_65 (hC.fr FL111))) ?_
              refine RlV (y105 (by omega) (hC.fr FL111) (hTk.fr (WL := W_cp) FL111 (by decide)) (t12111) (t13111) (t10111) (t11111) (t9111) (t16111) (t19111) (congrArg iI p85_0) (li_3) (li_5) (by omega)) fun v Ma117 h117 => ?_
              obtain ⟨sz116, sn116, uc116, g117, e117_sz116, e117_sn116, e117_uc116, e117_k0, e117_k1, e117_k2, e117_k3, p117_0, p117_1, p117_2⟩ := h117
              have f117 : Fr W_cp Mc Ma117 := Fr.t FL111 (Fr.m g117 (by decide))
              refine rsl (cV_e rfl) ?_
              refine rsl (jv_e) ?_
              refine rsr (vC_e (rk_160 (hR.fr FR111))) ?_
              refine RrV (x202_s (by omega) (hR.fr FR111) (u41111) (u42111) (u43111) (u51111) (u53111) (u48111) (u49111) (congrArg iI p99_0) (li_2) (li_5) (by omega)) fun v Ma119 h119 => ?_
              obtain ⟨em118, g119, e119_em118, e119_k0, e119_k1, e119_k2, e119_k3, e119_k4, p119_0⟩ := h119
              have f119 : Fr W_rp Mr Ma119 := Fr.t FR111 (Fr.m g119 (by decide))
              refine rsr (cV_e rfl) ?_
              refine rsr (jv_e) ?_
              exact Rs.ok (Or.inr ⟨F111, P111, f117, f119, ⟨ti111, sz116, sn116, uc116, e117_k0, e117_k1, e117_k2, e117_k3, e117_sz116, e117_sn116, e117_uc116, by omega⟩, ⟨em118, rn111, ru111, rm111, rt111, e119_k0, e119_k1, e119_em118, e119_k2, e119_k3, e119_k4, (g119.i _ _ (by decide)).trans (u49111), by omega⟩⟩)
        ·
          refine rsr (if_neg (lgc_n (rfl) (rfl) c100)) ?_
          refine rsr (jv_e) ?_
          try dsimp only
          refine rsr (gtI_q (w := iI ((kr (kd (i + 1))))) (rk_160 (hR.fr f99)) (e99_k1)) ?_
          refine rsr (jn_v) ?_
          refine rsr (if_neg (krI_n (k := 40) (rfl) (li_40) (hS.ok (i + 1) (by omega) (by omega)) (by unfold KdOK sgk; omega) (by decide +kernel) (by omega) (by omega))) ?_
          refine rsr (gtI_q (w := iI ((kr (kd (i + 1))))) (rk_160 (hR.fr f99)) (e99_k1)) ?_
          refine rsr (if_pos (krI_p (k := 91) (rfl) (li_91) (by omega) (by decide +kernel))) ?_
          refine rsr (vC_e (rk_160 (hR.fr f99))) ?_
          refine Rb_VV (hX _ _ (by omega) (by omega) T n m kd pl E tx ua ut mu _ _ G (pu U u [uc, (V Mr 201 u.toNat), (V Mr 200 u.toNat), (V Mr 203 u.toNat), (pl i), (V Mr 206 u.toNat), ut, 0, (V Mc 79 uc.toNat), (V Mc 80 uc.toNat), (V Mc 82 uc.toNat)]) Hl (pux X u [(0 : Int64), (tx i)]) (i + 1) e s (u + 1) (uc + 1) _ hS (hCx.fr f85 f99) ⟨e85_k0, e85_k2, e85_k3, (g85.i _ _ (by decide)).trans (qa_9), (g85.i _ _ (by decide)).trans (qa_16), e85_k1⟩ ⟨e99_k1, e99_k2, e99_k3, e99_k4, (g99.i _ _ (by decide)).trans (wa_43), (g99.i _ _ (by decide)).trans (wa_51), e99_k0, (g99.i _ _ (by decide)).trans (wa_50), p99_2⟩ ⟨(caa.fr g85 (by decide)), (raa.fr g99 (by decide)), (lca.fr g85 (by decide)), (lra.fr g99 (by decide)), (CU.add cua (by omega) (by omega) p85_1 rfl rfl), (RU.add rua (by omega) p99_1 rfl)⟩ ⟨by omega, by omega, by omega, by omega, by omega, by omega, by omega, by omega, by omega, by omega, by omega, by omega⟩ (by omega) (vs1 (rfl))) fun v Mx120 w Nx120 hx120 => ?_
          rcases hx120 with ⟨i120, e120, u120, uc120, G120, U120, X120, fl120, fr120, sc120, sr120, rw120, bd120, mv120, ag120, au120, ax120⟩ | ⟨F120, P120, fl120, fr120, tc120, tr120⟩
          ·
            have FL120 : Fr W_cp Mc Mx120 := Fr.t f85 fl120
            have FR120 : Fr W_rx Mr Nx120 := Fr.t f99 fr120
            obtain ⟨bb120_0, bb120_1, bb120_2, bb120_3, bb120_4, bb120_5, bb120_6, bb120_7, bb120_8, bb120_9, bb120_10, bb120_11⟩ := bd120
            obtain ⟨q120_12, q120_13, q120_10, q120_9, q120_16, q120_19⟩ := sc120
            obtain ⟨w120_36, w120_37, w120_38, w120_41, w120_43, w120_51, w120_53, w120_50, w120_n⟩ := sr120
            obtain ⟨ca120, ra120, lc120, lr120, cu120, ru120⟩ := rw120
            have hk121 := (hS.ok i120 (by omega) (by omega)).r
            refine rsl (cV_e rfl) ?_
            refine rsr (cV_e rfl) ?_
            refine rsl (vC_e (ck_65 (hC.fr FL120))) ?_
            refine RlV (a105 (by omega) (hC.fr FL120) (q120_9) (congrArg iI p85_0) (li_3) (li_5) (by omega)) fun v Ma123 h123 => ?_
            obtain ⟨g123, e123_k0, p123_0, p123_1⟩ := h123
            have f123 : Fr W_cp Mc Ma123 := Fr.t FL120 (Fr.m g123 (by decide))
            refine rsl (cV_e rfl) ?_
            refine rsl (jv_e) ?_
            refine rsr (vC_e (rk_160 (hR.fr FR120))) ?_
            refine RrV (a202 (by omega) (hR.fr FR120) (w120_43) ((FR120.i _ _ (by decide)).trans h49) ((FR120.i _ _ (by decide)).trans h48) (congrArg iI p99_0) (li_2) (li_5) (by omega)) fun v Ma124 h124 => ?_
            obtain ⟨g124, e124_k0, p124_0, p124_1⟩ := h124
            have f124 : Fr W_rx Mr Ma124 := Fr.t FR120 (Fr.m g124 (by decide))
            refine rsr (cV_e rfl) ?_
            refine rsr (jv_e) ?_
            exact Rs.ok (Or.inl ⟨i120, (e120 + 1), u120, uc120, (pu G120 e120 [5, 0, -2, u, ut, mu, 0]), (ps U120 u 2 3 e120), X120, f123, f124, ⟨(g123.i _ _ (by decide)).trans (q120_12), (g123.i _ _ (by decide)).trans (q120_13), (g123.i _ _ (by decide)).trans (q120_10), e123_k0, (g123.i _ _ (by decide)).trans (q120_16), (g123.i _ _ (by decide)).trans (q120_19)⟩, ⟨(g124.i _ _ (by decide)).trans (w120_36), (g124.i _ _ (by decide)).trans (w120_37), (g124.i _ _ (by decide)).trans (w120_38), (g124.i _ _ (by decide)).trans (w120_41), e124_k0, (g124.i _ _ (by decide)).trans (w120_51), (g124.i _ _ (by decide)).trans (w120_53), (g124.i _ _ (by decide)).trans (w120_50), (w120_n.fr g124 (by decide) (by decide))⟩, ⟨(CA1.em ca120 (by omega) p123_0 rfl), (RA1.em ra120 (by omega) p124_0 rfl), (lc120.fr g123 (by decide)), (lr120.fr g124 (by decide)), (CU.set (b := 2) cu120 ⟨by omega, by omega⟩ ((au120 0 _ (by omega)).trans (pu_e rfl)) p123_1 g123 (by decide)), (RU.set ru120 ⟨by omega, by omega⟩ p124_1 g124 (by decide))⟩, ⟨by omega, by omega, by omega, by omega, by omega, by omega, by omega, by omega, by omega, by omega, by omega, by omega⟩, ⟨by omega, by omega, by omega, by omega, by omega, by omega⟩, (Ag.pu (Ag.t Ag.r ag120 (by omega)) (by omega)), (Ag.ps (Ag.t (Ag.pu Ag.r (by omega)) au120 (by omega)) (by omega)), (AgL.t (AgL.pu AgL.r (by omega)) ax120 (by omega))⟩)
          ·
            have FL120 : Fr W_cp Mc Mx120 := Fr.t f85 fl120
            have FR120 : Fr W_rp Mr Nx120 := Fr.t (Fr.m f99 W_rx_p) fr120
            obtain ⟨ti120, tz120, tn120, tu120, t13120, t10120, t11120, t12120, t9120, t16120, t19120, tb120⟩ := tc120
            obtain ⟨re120, rn120, ru120, rm120, rt120, u41120, u42120, u43120, u51120, u53120, u48120, u49120, ub120⟩ := tr120
            refine rsl (cV_e rfl) ?_
            refine rsr (cV_e rfl) ?_
            refine rsl (vC_e (ck_65 (hC.fr FL120))) ?_
            refine RlV (y105 (by omega) (hC.fr FL120) (hTk.fr (WL := W_cp) FL120 (by decide)) (t12120) (t13120) (t10120) (t11120) (t9120) (t16120) (t19120) (congrArg iI p85_0) (li_3) (li_5) (by omega)) fun v Ma126 h126 => ?_
            obtain ⟨sz125, sn125, uc125, g126, e126_sz125, e126_sn125, e126_uc125, e126_k0, e126_k1, e126_k2, e126_k3, p126_0, p126_1, p126_2⟩ := h126
            have f126 : Fr W_cp Mc Ma126 := Fr.t FL120 (Fr.m g126 (by decide))
            refine rsl (cV_e rfl) ?_
            refine rsl (jv_e) ?_
            refine rsr (vC_e (rk_160 (hR.fr FR120))) ?_
            refine RrV (x202_s (by omega) (hR.fr FR120) (u41120) (u42120) (u43120) (u51120) (u53120) (u48120) (u49120) (congrArg iI p99_0) (li_2) (li_5) (by omega)) fun v Ma128 h128 => ?_
            obtain ⟨em127, g128, e128_em127, e128_k0, e128_k1, e128_k2, e128_k3, e128_k4, p128_0⟩ := h128
            have f128 : Fr W_rp Mr Ma128 := Fr.t FR120 (Fr.m g128 (by decide))
            refine rsr (cV_e rfl) ?_
            refine rsr (jv_e) ?_
            exact Rs.ok (Or.inr ⟨F120, P120, f126, f128, ⟨ti120, sz125, sn125, uc125, e126_k0, e126_k1, e126_k2, e126_k3, e126_sz125, e126_sn125, e126_uc125, by omega⟩, ⟨em127, rn120, ru120, rm120, rt120, e128_k0, e128_k1, e128_em127, e128_k2, e128_k3, e128_k4, (g128.i _ _ (by decide)).trans (u49120), by omega⟩⟩)
      · refine rsl (if_neg (eqI_n (rfl) (li_91) (by omega))) ?_
        refine rsl (vC_e (ck_65 (hC.fr f85))) ?_
        obtain ⟨rl, hrl⟩ : ∃ r, LcF Hl s (tx i) r := by have q := LcF_ex (Hl := Hl) (y := (tx i)) s.toNat; rw [show ((s.toNat : Nat) : Int) = s by omega] at q; exact q
        have brl := hrl.bd
        by_cases crl : rl = -1
        ·
          subst crl
          refine RlV (a106_n (by omega) (hC.fr f85) ((g85.i _ _ (by decide)).trans (qa_9)) (congrArg iI p85_0) (li_1) (li_1) (li_3) ((g85.i _ _ (by decide)).trans (qa_16)) (lca.fr g85 (by decide)) p85_1.2.2.2.2.2.2.2.1 p85_1.2.2.2.2.2.2.2.2 hrl rfl (by omega)) fun v Ma129 h129 => ?_
          obtain ⟨g129, e129_k0, p129_0, p129_1⟩ := h129
          have f129 : Fr W_cp Mc Ma129 := Fr.t f85 (Fr.m g129 (by decide))
          refine rsl (cV_e rfl) ?_
          refine rsl (jv_e) ?_
          refine rsr (vC_e (rk_160 hR)) ?_
          refine RrI (a201_u (by omega) hS hR (hT.fr (W := W_rx) Fr.r (by decide) (by decide)) (fun i a b => (Fr.lc (W := W_rx) Fr.r _ (by decide) _).trans (hW i a b)) (wa_36) (wa_37) (wa_38) (wa_41) (h49) (wa_53) wa_n (by omega)) fun v Ma131 h131 => ?_
          obtain ⟨r130, rfl, g131, e131_k0, e131_k1, e131_k2, e131_k3, e131_k4, p131_0, p131_1, p131_2⟩ := h131
          have f131 : Fr W_rx Mr Ma131 := Fr.t Fr.r (Fr.m g131 (by decide))
          refine rsr (cI_e rfl) ?_
          refine rsr (gtI_q (w := iI 0) (rk_160 (hR.fr f131)) (e131_k4)) ?_
          refine rsr (if_pos (eqI_p (rfl) (li_0) (by omega))) ?_
          refine rsr (gtP_q (w := some 202) (rk_160 (hR.fr f131)) (rf_56 (hR.fr f131))) ?_
          refine rsr (alL_q (n := 2000) (z := u) (w := (0 : Int64)) (rk_202 (hR.fr f131)) (congrArg iI p131_0) (by omega) (p131_1.2.2.2.1)) ?_
          refine rsr (jn_v) ?_
          refine rsr (if_pos (lgc_p (rfl) (rfl) rfl)) ?_
          refine rsr (gtP_q (w := some 204) (rk_160 (hR.fr f131)) (rf_58 (hR.fr f131))) ?_
          refine rsr (alL_q (n := 2000) (z := u) (w := (tx i)) (rk_204 (hR.fr f131)) (congrArg iI p131_0) (by omega) (p131_1.2.2.2.2.2.1)) ?_
          refine rsr (vC_e (rk_160 (hR.fr f131))) ?_
          refine RrI (a197 (by omega) (hR.fr f131) ((g131.i _ _ (by decide)).trans (wa_51)) (lra.fr g131 (by decide)) (by omega)) fun v Nl132 hl132 => ?_
          obtain ⟨r9, rfl, hMl, hr9⟩ := hl132
          rw [hMl]
          have q9 := LcF.one hr9 hrl
          rw [q9]
          refine rsr (cI_e rfl) ?_
          refine rsr (jv_e) ?_
          try dsimp only
          refine rsr (gtI_q (w := iI ((kr (kd (i + 1))))) (rk_160 (hR.fr f131)) (e131_k1)) ?_
          refine rsr (jn_v) ?_
          refine rsr (if_neg (krI_n (k := 40) (rfl) (li_40) (hS.ok (i + 1) (by omega) (by omega)) (by unfold KdOK sgk; omega) (by decide +kernel) (by omega) (by omega))) ?_
          refine rsr (gtI_q (w := iI ((kr (kd (i + 1))))) (rk_160 (hR.fr f131)) (e131_k1)) ?_
          refine rsr (if_neg (krI_n (k := 91) (rfl) (li_91) (hS.ok (i + 1) (by omega) (by omega)) (by unfold KdOK sgk; omega) (by decide +kernel) (by omega) (by omega))) ?_
          refine rsr (if_pos (lsI_p (congrArg iI (if_pos rfl)) (li_0) (by omega))) ?_
          refine rsr (vC_e (rk_160 (hR.fr f131))) ?_
          refine RrV (a202 (by omega) (hR.fr f131) ((g131.i _ _ (by decide)).trans (wa_43)) ((g131.i _ _ (by decide)).trans (h49)) ((g131.i _ _ (by decide)).trans (h48)) (congrArg iI p131_0) (li_0) (li_3) (by omega)) fun v Ma133 h133 => ?_
          obtain ⟨g133, e133_k0, p133_0, p133_1⟩ := h133
          have f133 : Fr W_rx Mr Ma133 := Fr.t f131 (Fr.m g133 (by decide))
          refine rsr (cV_e rfl) ?_
          refine rsr (jv_e) ?_
          exact Rs.ok (Or.inl ⟨(i + 1), (e + 1), (u + 1), (uc + 1), (pu G e [3, 0, -2, u, ut, mu, 0]), (ps (pu U u [uc, (V Mr 201 u.toNat), (V Mr 200 u.toNat), (V Mr 203 u.toNat), (pl i), (V Mr 206 u.toNat), ut, 0, (V Mc 79 uc.toNat), (V Mc 80 uc.toNat), (V Mc 82 uc.toNat)]) u 0 1 e), (pux X u [(0 : Int64), (tx i)]), f129, f133, ⟨(g129.i _ _ (by decide)).trans (e85_k0), (g129.i _ _ (by decide)).trans (e85_k2), (g129.i _ _ (by decide)).trans (e85_k3), e129_k0, (g129.i _ _ (by decide)).trans ((g85.i _ _ (by decide)).trans (qa_16)), (g129.i _ _ (by decide)).trans (e85_k1)⟩, ⟨(g133.i _ _ (by decide)).trans (e131_k1), (g133.i _ _ (by decide)).trans (e131_k2), (g133.i _ _ (by decide)).trans (e131_k3), (g133.i _ _ (by decide)).trans (e131_k4), e133_k0, (g133.i _ _ (by decide)).trans ((g131.i _ _ (by decide)).trans (wa_51)), (g133.i _ _ (by decide)).trans (e131_k0), (g133.i _ _ (by decide)).trans ((g131.i _ _ (by decide)).trans (wa_50)), (p131_2.fr g133 (by decide) (by decide))⟩, ⟨(CA1.em (caa.fr g85 (by decide)) (by omega) p129_0 rfl), (RA1.em (raa.fr g131 (by decide)) (by omega) p133_0 rfl), ((lca.fr g85 (by decide)).fr g129 (by decide)), ((lra.fr g131 (by decide)).fr g133 (by decide)), (CU.set (b := 0) (CU.add cua (by omega) (by omega) p85_1 rfl rfl) ⟨by omega, by omega⟩ (pu_e rfl) p129_1 g129 (by decide)), (RU.set (RU.add rua (by omega) p131_1 rfl) ⟨by omega, by omega⟩ p133_1 g133 (by decide))⟩, ⟨by omega, by omega, by omega, by omega, by omega, by omega, by omega, by omega, by omega, by omega, by omega, by omega⟩, ⟨by omega, by omega, by omega, by omega, by omega, by omega⟩, (Ag.pu Ag.r (by omega)), (Ag.ps (Ag.pu Ag.r (by omega)) (by omega)), (AgL.pu AgL.r (by omega))⟩)
        ·
          refine RlV (a106_l (by omega) (hC.fr f85) ((g85.i _ _ (by decide)).trans (qa_9)) (congrArg iI p85_0) (li_1) (li_1) (li_3) ((g85.i _ _ (by decide)).trans (qa_16)) (lca.fr g85 (by decide)) p85_1.2.2.2.2.2.2.2.1 p85_1.2.2.2.2.2.2.2.2 hrl ⟨by omega, by omega⟩ rfl (by omega)) fun v Ma134 h134 => ?_
          obtain ⟨g134, e134_k0, p134_0, p134_1⟩ := h134
          have f134 : Fr W_cp Mc Ma134 := Fr.t f85 (Fr.m g134 (by decide))
          refine rsl (cV_e rfl) ?_
          refine rsl (jv_e) ?_
          refine rsr (vC_e (rk_160 hR)) ?_
          refine RrI (a201_u (by omega) hS hR (hT.fr (W := W_rx) Fr.r (by decide) (by decide)) (fun i a b => (Fr.lc (W := W_rx) Fr.r _ (by decide) _).trans (hW i a b)) (wa_36) (wa_37) (wa_38) (wa_41) (h49) (wa_53) wa_n (by omega)) fun v Ma136 h136 => ?_
          obtain ⟨r135, rfl, g136, e136_k0, e136_k1, e136_k2, e136_k3, e136_k4, p136_0, p136_1, p136_2⟩ := h136
          have f136 : Fr W_rx Mr Ma136 := Fr.t Fr.r (Fr.m g136 (by decide))
          refine rsr (cI_e rfl) ?_
          refine rsr (gtI_q (w := iI 0) (rk_160 (hR.fr f136)) (e136_k4)) ?_
          refine rsr (if_pos (eqI_p (rfl) (li_0) (by omega))) ?_
          refine rsr (gtP_q (w := some 202) (rk_160 (hR.fr f136)) (rf_56 (hR.fr f136))) ?_
          refine rsr (alL_q (n := 2000) (z := u) (w := (0 : Int64)) (rk_202 (hR.fr f136)) (congrArg iI p136_0) (by omega) (p136_1.2.2.2.1)) ?_
          refine rsr (jn_v) ?_
          refine rsr (if_pos (lgc_p (rfl) (rfl) rfl)) ?_
          refine rsr (gtP_q (w := some 204) (rk_160 (hR.fr f136)) (rf_58 (hR.fr f136))) ?_
          refine rsr (alL_q (n := 2000) (z := u) (w := (tx i)) (rk_204 (hR.fr f136)) (congrArg iI p136_0) (by omega) (p136_1.2.2.2.2.2.1)) ?_
          refine rsr (vC_e (rk_160 (hR.fr f136))) ?_
          refine RrI (a197 (by omega) (hR.fr f136) ((g136.i _ _ (by decide)).trans (wa_51)) (lra.fr g136 (by decide)) (by omega)) fun v Nl137 hl137 => ?_
          obtain ⟨r9, rfl, hMl, hr9⟩ := hl137
          rw [hMl]
          have q9 := LcF.one hr9 hrl
          rw [q9]
          refine rsr (cI_e rfl) ?_
          refine rsr (jv_e) ?_
          try dsimp only
          refine rsr (gtI_q (w := iI ((kr (kd (i + 1))))) (rk_160 (hR.fr f136)) (e136_k1)) ?_
          refine rsr (jn_v) ?_
          refine rsr (if_neg (krI_n (k := 40) (rfl) (li_40) (hS.ok (i + 1) (by omega) (by omega)) (by unfold KdOK sgk; omega) (by decide +kernel) (by omega) (by omega))) ?_
          refine rsr (gtI_q (w := iI ((kr (kd (i + 1))))) (rk_160 (hR.fr f136)) (e136_k1)) ?_
          refine rsr (if_neg (krI_n (k := 91) (rfl) (li_91) (hS.ok (i + 1) (by omega) (by omega)) (by unfold KdOK sgk; omega) (by decide +kernel) (by omega) (by omega))) ?_
          refine rsr (if_neg (lsI_n (congrArg iI (if_neg (by omega))) (li_0) (by omega))) ?_
          refine rsr (gtI_q (w := iI (u + 1)) (rk_160 (hR.fr f136)) (e136_k0)) ?_
          refine rsr (ptI_q (z := u) (rk_160 (hR.fr f136)) (cvI (sbI (rfl) (li_1)) (by omega))) ?_
          refine rsr (vC_e (rk_160 (hR.fr f136).sI)) ?_
          refine RrI (a196 (by omega) (hR.fr f136).sI ((sI_nej (by decide)).trans ((g136.i _ _ (by decide)).trans (wa_43))) ((sI_nej (by decide)).trans ((g136.i _ _ (by decide)).trans (h49))) ((sI_nej (by decide)).trans ((g136.i _ _ (by decide)).trans (h48))) (li_1) (congrArg iI (if_neg (by omega))) (by omega)) fun v Ma139 h139 => ?_
          obtain ⟨r138, rfl, g139, e139_k0, p139_0, p139_1⟩ := h139
          have f139 : Fr W_rx Mr Ma139 := Fr.t (Fr.sI (by decide) f136) (Fr.m g139 (by decide))
          refine rsr (cI_e rfl) ?_
          refine rsr (jv_e) ?_
          exact Rs.ok (Or.inl ⟨(i + 1), (e + 1), u, (uc + 1), (pu G e [1, rl, -2, rl, ut, mu, 0]), U, X, f134, f139, ⟨(g134.i _ _ (by decide)).trans (e85_k0), (g134.i _ _ (by decide)).trans (e85_k2), (g134.i _ _ (by decide)).trans (e85_k3), e134_k0, (g134.i _ _ (by decide)).trans ((g85.i _ _ (by decide)).trans (qa_16)), (g134.i _ _ (by decide)).trans (e85_k1)⟩, ⟨(g139.i _ _ (by decide)).trans ((sI_nej (by decide)).trans (e136_k1)), (g139.i _ _ (by decide)).trans ((sI_nej (by decide)).trans (e136_k2)), (g139.i _ _ (by decide)).trans ((sI_nej (by decide)).trans (e136_k3)), (g139.i _ _ (by decide)).trans ((sI_nej (by decide)).trans (e136_k4)), e139_k0, (g139.i _ _ (by decide)).trans ((sI_nej (by decide)).trans ((g136.i _ _ (by decide)).trans (wa_51))), (g139.i _ _ (by decide)).trans (sI_eq), (g139.i _ _ (by decide)).trans ((sI_nej (by decide)).trans ((g136.i _ _ (by decide)).trans (wa_50))), ((p136_2.fr (W := W_r0) (Fr.sI (by decide) Fr.r) (by decide) (by decide)).fr g139 (by decide) (by decide))⟩, ⟨(CA1.em (caa.fr g85 (by decide)) (by omega) p134_0 rfl), (RA1.em ((raa.fr g136 (by decide)).fr (W := W_r0) (Fr.sI (by decide) Fr.r) (by decide)) (by omega) p139_1 rfl), ((lca.fr g85 (by decide)).fr g134 (by decide)), (((lra.fr g136 (by decide)).fr (W := W_r0) (Fr.sI (by decide) Fr.r) (by decide)).fr g139 (by decide)), (CU.loc2 (CU.keep cua (by omega) p85_1 rfl) hlt p134_1 g134 (by decide)), (((RU.keep rua p136_1).fr (W := W_r0) (Fr.sI (by decide) Fr.r) (by decide)).fr g139 (by decide))⟩, ⟨by omega, by omega, by omega, by omega, by omega, by omega, by omega, by omega, by omega, by omega, by omega, by omega⟩, ⟨by omega, by omega, by omega, by omega, by omega, by omega⟩, (Ag.pu Ag.r (by omega)), Ag.r, AgL.r⟩)
