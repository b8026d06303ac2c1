/-! a NAME in an expression -/
theorem CU.loc2 {M M2 : Mem} {U : Nat → Int → Int} {X : Nat → Int → Int64} {u uc x e : Int} {W : List (Nat × Nat)} (h : CU M U X u uc) (hx : ∀ j, 0 ≤ j → j < u → U 0 j < x) (g : SetC M M2 x 0 e) (f : Fr W M M2) (w : ∀ z, z ∈ W → z.1 ≠ 80 ∧ z.1 ≠ 81 ∧ z.1 ≠ 82 ∧ z.1 ≠ 83 ∧ z.1 ≠ 85 ∧ z.1 ≠ 86) : CU M2 U X u uc := by
  obtain ⟨h1, h2, h3⟩ := h
  refine ⟨fun t a c => ?_, h2, fun y a c d => ?_⟩
  · obtain ⟨k, e1, e2, e3, e4, e5, e6, e7, e8⟩ := h1 t a c
    have := hx t a c
    exact ⟨k, (g.1 _ (by omega)).1.trans e1, (g.1 _ (by omega)).2.trans e2, (f.c _ (fun z y => (w z y).1) _).trans e3, (f.c _ (fun z y => (w z y).2.1) _).trans e4, (f.c _ (fun z y => (w z y).2.2.1) _).trans e5, (f.c _ (fun z y => (w z y).2.2.2.1) _).trans e6, (f.lc _ (fun z y => (w z y).2.2.2.2.1) _).trans e7, (f.lc _ (fun z y => (w z y).2.2.2.2.2) _).trans e8⟩
  · by_cases c2 : y.toNat = x.toNat
    · rw [c2]; exact g.2.1
    · exact (g.1 _ c2).1.trans (h3 y a c d)
theorem KU.us {c : Int} {M0 M M2 : Mem} {x a4 a6 a8 a9 a10 : Int} {x0 x1 : Int64} {W : List (Nat × Nat)} (h : KU c M0 M) (g : UsC M M2 x a4 a6 a8 a9 a10 x0 x1) (f : Fr W M M2) (w : ∀ z, z ∈ W → z ≠ (65, 14) ∧ z ≠ (65, 9999)) (hc : c ≤ x) : KU c M0 M2 := ⟨(f.i _ _ (inW_14 w)).trans h.1, fun y p q => by
  have := g.1 y.toNat (by omega)
  exact ⟨this.2.2.2.2.2.2.1.trans (h.2 y p q).1, this.2.2.2.2.2.2.2.trans (h.2 y p q).2⟩⟩
theorem U3tr {U U' : Nat → Int → Int} {X X' : Nat → Int → Int64} {j : Int} (hx : X' 0 j = X 0 j) (h3 : U' 3 j = U 3 j) (h10 : U' 10 j = U 10 j) (h : X 0 j = 0 ∨ U 3 j = U 10 j) : X' 0 j = 0 ∨ U' 3 j = U' 10 j := by rw [hx, h3, h10]; exact h
theorem DU.pq {ut mu c : Int} {G U : Nat → Int → Int} {X : Nat → Int → Int64} {a b u v j z : Int} {k0 : Nat} (h : DU ut mu c G U X a b u v) (hj : j < u) : DU ut mu c G (pq U k0 j z) X a b u v := h.cg (fun _ _ _ _ => rfl) (fun k t p _ => pq_t (by omega)) (fun _ _ _ _ => rfl)
/-- the pending use is settled, its code comes -/
theorem DU.set {ut mu c c2 : Int} {G U : Nat → Int → Int} {X : Nat → Int → Int64} {a b q u u2 v b1 p o n1 p1 n3 g : Int} {l : List Int} (h : DU ut mu c2 G U X a b u2 v) (hc : c ≤ c2) (hu : u2 = u + 1) (hb : 0 ≤ b1 ∧ b1 ≤ 4) (hp : b1 < 3 ∧ p = b1 + 1 ∨ 3 ≤ b1 ∧ p = b1) (h4 : b1 = 4 → U 9 u = U 5 u ∧ U 5 u = g) (h0 : c ≤ U 0 u) (h6 : U 6 u = ut) (hx : X 0 u = 0 ∨ U 3 u = U 10 u) (ho : o = b1 + 3) (hq : q = b + 1) : DU ut mu c (pu G b (o :: n1 :: p1 :: n3 :: ut :: mu :: g :: l)) (ps U u b1 p b) X a q u v := by
  obtain ⟨⟨q1, q2⟩, k1, k2⟩ := h
  refine ⟨⟨by omega, by omega⟩, fun j p z => ?_, fun j p z => ?_⟩
  · by_cases y : j = u
    · subst y
      unfold UsK
      rw [ps_1, ps_7, ps_8, ps_2, ps_k (k := 9) (by decide), ps_k (k := 5) (by decide), ps_k (k := 0) (by decide), ps_k (k := 6) (by decide), ps_k (k := 3) (by decide), ps_k (k := 10) (by decide), pu_e rfl, pu_e rfl]
      exact ⟨hb, hp, rfl, ⟨q1, by omega⟩, ho, fun e => ⟨(h4 e).1, (h4 e).2.symm⟩, h0, h6, hx⟩
    · exact (k1 j (by omega) z).ag (fun k t _ z => pu_n (by omega)) (fun k => ps_t y) (fun _ => rfl) (Int.le_refl _) (by omega) hc
  · by_cases y : j = b
    · unfold CoK
      rw [pu_e y, pu_e y]
      exact ⟨⟨rfl, rfl⟩, Or.inr ⟨u, by omega, by omega, by rw [ps_2, y]⟩⟩
    · exact (k2 j p (by omega)).ag (fun k => pu_n y) (fun k t _ _ => ps_t (by omega)) (by omega) (Int.le_refl _)
/-- behind a call: its use, which was pending, is settled -/
def PKc (x dl ut mu m : Int) (kd pl E : Int → Int) (tx : Int → Int64) (Mc Mr : Mem) (G U : Nat → Int → Int) (Hl : Int → Int64) (X : Nat → Int → Int64) (i e s u uc dp : Int) (Mc' Mr' : Mem) (i' : Int) : Prop := ∃ (e' u' uc' : Int) (G' U' : Nat → Int → Int) (X' : Nat → Int → Int64), Fr W_cp Mc Mc' ∧ Fr W_rx Mr Mr' ∧ SC Mc' kd i' e' s uc' ∧ SR Mr' kd pl E tx i' e' s u' dp ∧ RW Mc' Mr' G' U' Hl X' e' s u' uc' ∧ BD m i' e' s u' uc' dp ∧ (i < i' ∧ e ≤ e' ∧ e' - e ≤ i' - i ∧ u ≤ u' ∧ uc' - uc ≤ i' - i ∧ uc ≤ uc') ∧ Ag G G' e ∧ Ag U U' (u - 1) ∧ AgL X X' u ∧ Tye G' e e' s dl ∧ DU ut mu x G' U' X' e e' (u - 1) u' ∧ KU uc Mc Mc'
def POc (x dl ut mu m : Int) (kd pl E : Int → Int) (tx : Int → Int64) (Mc Mr : Mem) (G U : Nat → Int → Int) (Hl : Int → Int64) (X : Nat → Int → Int64) (i e s u uc dp b : Int) (Mc' Mr' : Mem) : Prop := (∃ i' : Int, PKc x dl ut mu m kd pl E tx Mc Mr G U Hl X i e s u uc dp Mc' Mr' i') ∨ ∃ F P : Int, Fr W_cp Mc Mc' ∧ Fr W_rp Mr Mr' ∧ FTc m F P Mc' ∧ FTr b F P Mr'
def PairC (D : Nat) (off : Int) (dp : Int) : Prop := ∀ (d d' : Nat), D ≤ d → D ≤ d' → ∀ (T : Int → Int) (n m : Int) (kd pl E : Int → Int) (tx : Int → Int64) (ua : Nat) (ut mu : Int) (Mc Mr : Mem) (G U : Nat → Int → Int) (Hl : Int → Int64) (X : Nat → Int → Int64) (i e s u uc : Int) (x : Int) (v0 v1 w0 : Int32), TkS T n m kd pl E tx → Cx T n m kd pl tx ua ut mu Mc Mr → SC Mc kd i e s uc → SR Mr kd pl E tx i e s u dp → RW Mc Mr G U Hl X e s u uc → BD m i e s u uc dp → kd i = 40 → 1 ≤ u → U 0 (u - 1) = x → U 6 (u - 1) = ut → (X 0 (u - 1) = 0 ∨ U 3 (u - 1) = U 10 (u - 1)) → v0 = iI x → v1 = iI dp → w0 = iI (u - 1) → Rs (runX d 97 [va_rf (some 65), .int v0, .int v1] Mc) (runX d' 204 [va_rf (some 160), .int w0] Mr) (fun _ Mc' _ Mr' => POc x 1 ut mu m kd pl E tx Mc Mr G U Hl X i e s u uc dp (2500 - 30 * dp - off) Mc' Mr')
theorem p_n {D : Nat} {dp : Int} (hD : 20 ≤ D) (hX : PairK 91 D 98 [] 203 24 dp) (hCl : PairC D 24 dp) : PairK 3 (D + 1) 101 [] 205 22 dp := by
  intro d d2 hd hd2 T n m kd pl E tx ua ut mu Mc Mr G U Hl X i e s u uc vs hS hx hsc hsr hrw hbd hK hvs
  subst hvs
  obtain ⟨d, rfl⟩ : ∃ e, d = e + 1 := ⟨d - 1, by omega⟩
  obtain ⟨d2, rfl⟩ : ∃ e, d2 = e + 1 := ⟨d2 - 1, by omega⟩
  show Rs (runX (d + 1) 101 [va_rf (some 65), .int (iI dp)] Mc) (runX (d2 + 1) 205 [va_rf (some 160)] Mr) _
  rw [r101]; unfold b101; rw [aR_e, aI_e, aZ_e]; unfold c101; rw [r205]; unfold b205; rw [aR_e, aZ_e]; unfold c205
  have hCx := hx
  obtain ⟨hC, hR, hTk, hT, hW, ⟨hu1, hu2, hu3, hu4⟩, h49, h48, ⟨hb1, hb2, hb3, hb4⟩⟩ := hx
  obtain ⟨bb_0, bb_1, bb_2, bb_3, bb_4, bb_5, bb_6, bb_7, bb_8, bb_9, bb_10, bb_11⟩ := hbd
  have kua : KU uc Mc Mc := KU.r
  obtain ⟨qa_12, qa_13, qa_10, qa_9, qa_16, qa_19⟩ := hsc
  obtain ⟨wa_36, wa_37, wa_38, wa_41, wa_43, wa_51, wa_53, wa_50, wa_n⟩ := hsr
  obtain ⟨caa, raa, lca, lra, cua, rua⟩ := hrw
  have hk1 := (hS.ok i (by omega) (by omega)).r
  have ty2 := (Tye.r (G := G) (a := e) (s := s))
  have du3 := (DU.r (ut := ut) (mu := mu) (c := uc) (G := G) (U := U) (X := X) (a := e) (u := u))
  refine rsl (vC_e (ck_65 hC)) ?_
  have hm4 : i + 1 < m := hS.more i (by omega) (by omega) (by omega)
  have hk5 := (hS.ok (i + 1) (by omega) (by omega)).r
  by_cases c6 : ((kd (i + 1))) = 46
  ·
    have hm7 : (i + 1) + 1 < m := hS.more (i + 1) (by omega) (by omega) (by omega)
    have hk8 := (hS.ok (i + 2) (by omega) (by omega)).r
    by_cases c9 : ((kd (i + 2))) = 3
    ·
      have hm10 : (i + 2) + 1 < m := hS.more (i + 2) (by omega) (by omega) (by omega)
      have hk11 := (hS.ok (i + 3) (by omega) (by omega)).r
      have hlt : ∀ j, 0 ≤ j → j < u → U 0 j < uc := fun j a b => (cua.1 j a b).1.2
      refine RlI (a104_d (by omega) hS hC (hTk.fr (WL := W_cp) Fr.r (by decide)) hu1 (by rw [(Fr.r : Fr W_cp Mc _).p]; exact hu2) (Fr.kd (W := W_cp) Fr.r hu3) ((Fr.i (W := W_cp) Fr.r _ _ (inW_hi (by decide) hu1 _)).trans hu4) (qa_12) (qa_13) (qa_10) (qa_19) (by omega)) fun v Ma13 h13 => ?_
      obtain ⟨r12, rfl, g13, e13_k0, e13_k1, e13_k2, e13_k3, p13_0, p13_1⟩ := h13
      have f13 : Fr W_cp Mc Ma13 := Fr.t Fr.r (Fr.m g13 (by decide))
      refine rsl (cI_e rfl) ?_
      refine rsl (gtI_q (w := iI ((kd (i + 3)))) (ck_65 (hC.fr f13)) (e13_k2)) ?_
      refine rsl (jn_v) ?_
      by_cases c14 : ((kd (i + 3))) = 40
      · refine rsl (if_pos (eqI_p (rfl) (li_40) (by omega))) ?_
        refine rsl (vC_e (ck_65 (hC.fr f13))) ?_
        refine rsr (vC_e (rk_160 hR)) ?_
        refine RrI (a201_d (by omega) hS hR (hT.fr (W := W_rx) Fr.r (by decide) (by decide)) (fun i a b => (Fr.lc (W := W_rx) Fr.r _ (by decide) _).trans (hW i a b)) (wa_36) (wa_37) (wa_38) (wa_41) (h49) (wa_53) wa_n (by omega)) fun v Ma16 h16 => ?_
        obtain ⟨r15, rfl, g16, e16_k0, e16_k1, e16_k2, e16_k3, e16_k4, p16_0, p16_1, p16_2⟩ := h16
        have f16 : Fr W_rx Mr Ma16 := Fr.t Fr.r (Fr.m g16 (by decide))
        refine rsr (cI_e rfl) ?_
        refine rsr (gtI_q (w := iI 0) (rk_160 (hR.fr f16)) (e16_k4)) ?_
        refine rsr (if_pos (eqI_p (rfl) (li_0) (by omega))) ?_
        refine rsr (gtP_q (w := some 202) (rk_160 (hR.fr f16)) (rf_56 (hR.fr f16))) ?_
        refine rsr (alL_q (n := 2000) (z := u) (w := (tx i)) (rk_202 (hR.fr f16)) (congrArg iI p16_0) (by omega) (p16_1.2.2.2.1)) ?_
        refine rsr (jn_v) ?_
        by_cases c17 : (tx i) = (0 : Int64)
        ·
          refine rsr (if_pos (lgc_p (rfl) (rfl) c17)) ?_
          refine rsr (gtP_q (w := some 204) (rk_160 (hR.fr f16)) (rf_58 (hR.fr f16))) ?_
          refine rsr (alL_q (n := 2000) (z := u) (w := (tx (i + 2))) (rk_204 (hR.fr f16)) (congrArg iI p16_0) (by omega) (p16_1.2.2.2.2.2.1)) ?_
          refine rsr (vC_e (rk_160 (hR.fr f16))) ?_
          obtain ⟨rl, hrl⟩ : ∃ r, LcF Hl s (tx (i + 2)) r := by have q := LcF_ex (Hl := Hl) (y := (tx (i + 2))) s.toNat; rw [show ((s.toNat : Nat) : Int) = s by omega] at q; exact q
          have brl := hrl.bd
          by_cases crl : rl = -1
          ·
            subst crl
            refine RrI (a197 (by omega) (hR.fr f16) ((g16.i _ _ (by decide)).trans (wa_51)) (lra.fr g16 (by decide)) (by omega)) fun v Nl18 hl18 => ?_
            obtain ⟨r9, rfl, hMl, hr9⟩ := hl18
            rw [hMl]
            have q9 := LcF.one hr9 hrl
            rw [q9]
            refine rsr (cI_e rfl) ?_
            refine rsr (jv_e) ?_
            try dsimp only
            refine rsr (gtI_q (w := iI ((kr (kd (i + 3))))) (rk_160 (hR.fr f16)) (e16_k1)) ?_
            refine rsr (jn_v) ?_
            refine rsr (if_pos (krI_p (k := 40) (rfl) (li_40) (by omega) (by decide +kernel))) ?_
            refine rsr (vC_e (rk_160 (hR.fr f16))) ?_
            refine Rb_VV (hCl _ _ (by omega) (by omega) T n m kd pl E tx ua ut mu _ _ G (pu U u [uc, (V Mr 201 u.toNat), (V Mr 200 u.toNat), (pl i), (pl (i + 2)), (V Mr 206 u.toNat), ut, 0, (V Mc 79 uc.toNat), (V Mc 80 uc.toNat), (pl i)]) Hl (pux X u [(tx i), (tx (i + 2))]) (i + 3) e s (u + 1) (uc + 1) _ _ _ hS (hCx.fr f13 f16) ⟨e13_k0, e13_k2, e13_k3, (g13.i _ _ (by decide)).trans (qa_9), (g13.i _ _ (by decide)).trans (qa_16), e13_k1⟩ ⟨e16_k1, e16_k2, e16_k3, e16_k4, (g16.i _ _ (by decide)).trans (wa_43), (g16.i _ _ (by decide)).trans (wa_51), e16_k0, (g16.i _ _ (by decide)).trans (wa_50), p16_2⟩ ⟨(caa.fr g13 (by decide)), (raa.fr g16 (by decide)), (lca.fr g13 (by decide)), (lra.fr g16 (by decide)), (CU.add cua (by omega) (by omega) p13_1 rfl rfl), (RU.add rua (by omega) p16_1 rfl)⟩ ⟨by omega, by omega, by omega, by omega, by omega, by omega, by omega, by omega, by omega, by omega, by omega, by omega⟩ (x := uc) (by omega) (by omega) (pu_e (by omega)) (pu_e (by omega)) (Or.inr ((pu_e (by omega)).trans (pu_e (by omega)).symm)) (congrArg iI p13_0) (rfl) (cvI (congrArg iI p16_0) (by omega))) fun v Mx19 w Nx19 hx19 => ?_
            rcases hx19 with ⟨i19, e19, u19, uc19, G19, U19, X19, fl19, fr19, sc19, sr19, rw19, bd19, mv19, ag19, au19, ax19, tp19, dp19, kv19⟩ | ⟨F19, P19, fl19, fr19, tc19, tr19⟩
            ·
              have FL19 : Fr W_cp Mc Mx19 := Fr.t f13 fl19
              have FR19 : Fr W_rx Mr Nx19 := Fr.t f16 fr19
              obtain ⟨bb19_0, bb19_1, bb19_2, bb19_3, bb19_4, bb19_5, bb19_6, bb19_7, bb19_8, bb19_9, bb19_10, bb19_11⟩ := bd19
              obtain ⟨q19_12, q19_13, q19_10, q19_9, q19_16, q19_19⟩ := sc19
              obtain ⟨w19_36, w19_37, w19_38, w19_41, w19_43, w19_51, w19_53, w19_50, w19_n⟩ := sr19
              obtain ⟨ca19, ra19, lc19, lr19, cu19, ru19⟩ := rw19
              have hk20 := (hS.ok i19 (by omega) (by omega)).r
              have ku19 := KU.t (KU.us kua p13_1 g13 (by decide) (by omega)) kv19 (by omega)
              have ty21 := Tye.t (d3 := 1) ty2 ag19 tp19 (by omega)
              refine rsl (cV_e rfl) ?_
              refine rsr (cV_e rfl) ?_
              refine rsl (jv_e) ?_
              refine rsr (jv_e) ?_
              exact Rs.ok (Or.inl ⟨i19, e19, u19, uc19, G19, U19, X19, FL19, FR19, ⟨q19_12, q19_13, q19_10, q19_9, q19_16, q19_19⟩, ⟨w19_36, w19_37, w19_38, w19_41, w19_43, w19_51, w19_53, w19_50, w19_n⟩, ⟨ca19, ra19, lc19, lr19, cu19, ru19⟩, ⟨by omega, by omega, by omega, by omega, by omega, by omega, by omega, by omega, by omega, by omega, by omega, by omega⟩, ⟨by omega, by omega, by omega, by omega, by omega, by omega⟩, (Ag.t Ag.r ag19 (by omega)), (Ag.t (Ag.pu Ag.r (by omega)) au19 (by omega)), (AgL.t (AgL.pu AgL.r (by omega)) ax19 (by omega)), ty21, dp19, ku19⟩)
            ·
              have FL19 : Fr W_cp Mc Mx19 := Fr.t f13 fl19
              have FR19 : Fr W_rp Mr Nx19 := Fr.t (Fr.m f16 W_rx_p) fr19
              obtain ⟨ti19, tz19, tn19, tu19, t1319, t1019, t1119, t1219, t919, t1619, t1919, tb19⟩ := tc19
              obtain ⟨re19, rn19, ru19, rm19, rt19, u4119, u4219, u4319, u5119, u5319, u4819, u4919, ub19⟩ := tr19
              refine rsl (cV_e rfl) ?_
              refine rsr (cV_e rfl) ?_
              refine rsl (jv_e) ?_
              refine rsr (jv_e) ?_
              exact Rs.ok (Or.inr ⟨F19, P19, FL19, FR19, ⟨ti19, tz19, tn19, tu19, t1319, t1019, t1119, t1219, t919, t1619, t1919, by omega⟩, ⟨re19, rn19, ru19, rm19, rt19, u4119, u4219, u4319, u5119, u5319, u4819, u4919, by omega⟩⟩)
          ·
            refine RrI (a197 (by omega) (hR.fr f16) ((g16.i _ _ (by decide)).trans (wa_51)) (lra.fr g16 (by decide)) (by omega)) fun v Nl18 hl18 => ?_
            obtain ⟨r9, rfl, hMl, hr9⟩ := hl18
            rw [hMl]
            have q9 := LcF.one hr9 hrl
            rw [q9]
            refine rsr (cI_e rfl) ?_
            refine rsr (jv_e) ?_
            try dsimp only
            refine rsr (gtI_q (w := iI ((kr (kd (i + 3))))) (rk_160 (hR.fr f16)) (e16_k1)) ?_
            refine rsr (jn_v) ?_
            refine rsr (if_pos (krI_p (k := 40) (rfl) (li_40) (by omega) (by decide +kernel))) ?_
            refine rsr (vC_e (rk_160 (hR.fr f16))) ?_
            refine Rb_VV (hCl _ _ (by omega) (by omega) T n m kd pl E tx ua ut mu _ _ G (pu U u [uc, (V Mr 201 u.toNat), (V Mr 200 u.toNat), (pl i), (pl (i + 2)), (V Mr 206 u.toNat), ut, 0, (V Mc 79 uc.toNat), (V Mc 80 uc.toNat), (pl i)]) Hl (pux X u [(tx i), (tx (i + 2))]) (i + 3) e s (u + 1) (uc + 1) _ _ _ hS (hCx.fr f13 f16) ⟨e13_k0, e13_k2, e13_k3, (g13.i _ _ (by decide)).trans (qa_9), (g13.i _ _ (by decide)).trans (qa_16), e13_k1⟩ ⟨e16_k1, e16_k2, e16_k3, e16_k4, (g16.i _ _ (by decide)).trans (wa_43), (g16.i _ _ (by decide)).trans (wa_51), e16_k0, (g16.i _ _ (by decide)).trans (wa_50), p16_2⟩ ⟨(caa.fr g13 (by decide)), (raa.fr g16 (by decide)), (lca.fr g13 (by decide)), (lra.fr g16 (by decide)), (CU.add cua (by omega) (by omega) p13_1 rfl rfl), (RU.add rua (by omega) p16_1 rfl)⟩ ⟨by omega, by omega, by omega, by omega, by omega, by omega, by omega, by omega, by omega, by omega, by omega, by omega⟩ (x := uc) (by omega) (by omega) (pu_e (by omega)) (pu_e (by omega)) (Or.inr ((pu_e (by omega)).trans (pu_e (by omega)).symm)) (congrArg iI p13_0) (rfl) (cvI (congrArg iI p16_0) (by omega))) fun v Mx22 w Nx22 hx22 => ?_
            rcases hx22 with ⟨i22, e22, u22, uc22, G22, U22, X22, fl22, fr22, sc22, sr22, rw22, bd22, mv22, ag22, au22, ax22, tp22, dp22, kv22⟩ | ⟨F22, P22, fl22, fr22, tc22, tr22⟩
            ·
              have FL22 : Fr W_cp Mc Mx22 := Fr.t f13 fl22
              have FR22 : Fr W_rx Mr Nx22 := Fr.t f16 fr22
              obtain ⟨bb22_0, bb22_1, bb22_2, bb22_3, bb22_4, bb22_5, bb22_6, bb22_7, bb22_8, bb22_9, bb22_10, bb22_11⟩ := bd22
              obtain ⟨q22_12, q22_13, q22_10, q22_9, q22_16, q22_19⟩ := sc22
              obtain ⟨w22_36, w22_37, w22_38, w22_41, w22_43, w22_51, w22_53, w22_50, w22_n⟩ := sr22
              obtain ⟨ca22, ra22, lc22, lr22, cu22, ru22⟩ := rw22
              have hk23 := (hS.ok i22 (by omega) (by omega)).r
              have ku22 := KU.t (KU.us kua p13_1 g13 (by decide) (by omega)) kv22 (by omega)
              have ty24 := Tye.t (d3 := 1) ty2 ag22 tp22 (by omega)
              refine rsl (cV_e rfl) ?_
              refine rsr (cV_e rfl) ?_
              refine rsl (jv_e) ?_
              refine rsr (jv_e) ?_
              exact Rs.ok (Or.inl ⟨i22, e22, u22, uc22, G22, U22, X22, FL22, FR22, ⟨q22_12, q22_13, q22_10, q22_9, q22_16, q22_19⟩, ⟨w22_36, w22_37, w22_38, w22_41, w22_43, w22_51, w22_53, w22_50, w22_n⟩, ⟨ca22, ra22, lc22, lr22, cu22, ru22⟩, ⟨by omega, by omega, by omega, by omega, by omega, by omega, by omega, by omega, by omega, by omega, by omega, by omega⟩, ⟨by omega, by omega, by omega, by omega, by omega, by omega⟩, (Ag.t Ag.r ag22 (by omega)), (Ag.t (Ag.pu Ag.r (by omega)) au22 (by omega)), (AgL.t (AgL.pu AgL.r (by omega)) ax22 (by omega)), ty24, dp22, ku22⟩)
            ·
              have FL22 : Fr W_cp Mc Mx22 := Fr.t f13 fl22
              have FR22 : Fr W_rp Mr Nx22 := Fr.t (Fr.m f16 W_rx_p) fr22
              obtain ⟨ti22, tz22, tn22, tu22, t1322, t1022, t1122, t1222, t922, t1622, t1922, tb22⟩ := tc22
              obtain ⟨re22, rn22, ru22, rm22, rt22, u4122, u4222, u4322, u5122, u5322, u4822, u4922, ub22⟩ := tr22
              refine rsl (cV_e rfl) ?_
              refine rsr (cV_e rfl) ?_
              refine rsl (jv_e) ?_
              refine rsr (jv_e) ?_
              exact Rs.ok (Or.inr ⟨F22, P22, FL22, FR22, ⟨ti22, tz22, tn22, tu22, t1322, t1022, t1122, t1222, t922, t1622, t1922, by omega⟩, ⟨re22, rn22, ru22, rm22, rt22, u4122, u4222, u4322, u5122, u5322, u4822, u4922, by omega⟩⟩)
        ·
          refine rsr (if_neg (lgc_n (rfl) (rfl) c17)) ?_
          refine rsr (jv_e) ?_
          try dsimp only
          refine rsr (gtI_q (w := iI ((kr (kd (i + 3))))) (rk_160 (hR.fr f16)) (e16_k1)) ?_
          refine rsr (jn_v) ?_
          refine rsr (if_pos (krI_p (k := 40) (rfl) (li_40) (by omega) (by decide +kernel))) ?_
          refine rsr (vC_e (rk_160 (hR.fr f16))) ?_
          refine Rb_VV (hCl _ _ (by omega) (by omega) T n m kd pl E tx ua ut mu _ _ G (pu U u [uc, (V Mr 201 u.toNat), (V Mr 200 u.toNat), (pl i), (pl (i + 2)), (V Mr 206 u.toNat), ut, 0, (V Mc 79 uc.toNat), (V Mc 80 uc.toNat), (pl i)]) Hl (pux X u [(tx i), (tx (i + 2))]) (i + 3) e s (u + 1) (uc + 1) _ _ _ hS (hCx.fr f13 f16) ⟨e13_k0, e13_k2, e13_k3, (g13.i _ _ (by decide)).trans (qa_9), (g13.i _ _ (by decide)).trans (qa_16), e13_k1⟩ ⟨e16_k1, e16_k2, e16_k3, e16_k4, (g16.i _ _ (by decide)).trans (wa_43), (g16.i _ _ (by decide)).trans (wa_51), e16_k0, (g16.i _ _ (by decide)).trans (wa_50), p16_2⟩ ⟨(caa.fr g13 (by decide)), (raa.fr g16 (by decide)), (lca.fr g13 (by decide)), (lra.fr g16 (by decide)), (CU.add cua (by omega) (by omega) p13_1 rfl rfl), (RU.add rua (by omega) p16_1 rfl)⟩ ⟨by omega, by omega, by omega, by omega, by omega, by omega, by omega, by omega, by omega, by omega, by omega, by omega⟩ (x := uc) (by omega) (by omega) (pu_e (by omega)) (pu_e (by omega)) (Or.inr ((pu_e (by omega)).trans (pu_e (by omega)).symm)) (congrArg iI p13_0) (rfl) (cvI (congrArg iI p16_0) (by omega))) fun v Mx25 w Nx25 hx25 => ?_
          rcases hx25 with ⟨i25, e25, u25, uc25, G25, U25, X25, fl25, fr25, sc25, sr25, rw25, bd25, mv25, ag25, au25, ax25, tp25, dp25, kv25⟩ | ⟨F25, P25, fl25, fr25, tc25, tr25⟩
          ·
            have FL25 : Fr W_cp Mc Mx25 := Fr.t f13 fl25
            have FR25 : Fr W_rx Mr Nx25 := Fr.t f16 fr25
            obtain ⟨bb25_0, bb25_1, bb25_2, bb25_3, bb25_4, bb25_5, bb25_6, bb25_7, bb25_8, bb25_9, bb25_10, bb25_11⟩ := bd25
            obtain ⟨q25_12, q25_13, q25_10, q25_9, q25_16, q25_19⟩ := sc25
            obtain ⟨w25_36, w25_37, w25_38, w25_41, w25_43, w25_51, w25_53, w25_50, w25_n⟩ := sr25
            obtain ⟨ca25, ra25, lc25, lr25, cu25, ru25⟩ := rw25
            have hk26 := (hS.ok i25 (by omega) (by omega)).r
            have ku25 := KU.t (KU.us kua p13_1 g13 (by decide) (by omega)) kv25 (by omega)
            have ty27 := Tye.t (d3 := 1) ty2 ag25 tp25 (by omega)
            refine rsl (cV_e rfl) ?_
            refine rsr (cV_e rfl) ?_
            refine rsl (jv_e) ?_
            refine rsr (jv_e) ?_
            exact Rs.ok (Or.inl ⟨i25, e25, u25, uc25, G25, U25, X25, FL25, FR25, ⟨q25_12, q25_13, q25_10, q25_9, q25_16, q25_19⟩, ⟨w25_36, w25_37, w25_38, w25_41, w25_43, w25_51, w25_53, w25_50, w25_n⟩, ⟨ca25, ra25, lc25, lr25, cu25, ru25⟩, ⟨by omega, by omega, by omega, by omega, by omega, by omega, by omega, by omega, by omega, by omega, by omega, by omega⟩, ⟨by omega, by omega, by omega, by omega, by omega, by omega⟩, (Ag.t Ag.r ag25 (by omega)), (Ag.t (Ag.pu Ag.r (by omega)) au25 (by omega)), (AgL.t (AgL.pu AgL.r (by omega)) ax25 (by omega)), ty27, dp25, ku25⟩)
          ·
            have FL25 : Fr W_cp Mc Mx25 := Fr.t f13 fl25
            have FR25 : Fr W_rp Mr Nx25 := Fr.t (Fr.m f16 W_rx_p) fr25
            obtain ⟨ti25, tz25, tn25, tu25, t1325, t1025, t1125, t1225, t925, t1625, t1925, tb25⟩ := tc25
            obtain ⟨re25, rn25, ru25, rm25, rt25, u4125, u4225, u4325, u5125, u5325, u4825, u4925, ub25⟩ := tr25
            refine rsl (cV_e rfl) ?_
            refine rsr (cV_e rfl) ?_
            refine rsl (jv_e) ?_
            refine rsr (jv_e) ?_
            exact Rs.ok (Or.inr ⟨F25, P25, FL25, FR25, ⟨ti25, tz25, tn25, tu25, t1325, t1025, t1125, t1225, t925, t1625, t1925, by omega⟩, ⟨re25, rn25, ru25, rm25, rt25, u4125, u4225, u4325, u5125, u5325, u4825, u4925, by omega⟩⟩)
      · refine rsl (if_neg (eqI_n (rfl) (li_40) (by omega))) ?_
        refine rsl (gtI_q (w := iI ((kd (i + 3)))) (ck_65 (hC.fr f13)) (e13_k2)) ?_
        by_cases c28 : ((kd (i + 3))) = 91
        · refine rsl (if_pos (eqI_p (rfl) (li_91) (by omega))) ?_
          refine rsl (vC_e (ck_65 (hC.fr f13))) ?_
          refine rsr (vC_e (rk_160 hR)) ?_
          refine RrI (a201_d (by omega) hS hR (hT.fr (W := W_rx) Fr.r (by decide) (by decide)) (fun i a b => (Fr.lc (W := W_rx) Fr.r _ (by decide) _).trans (hW i a b)) (wa_36) (wa_37) (wa_38) (wa_41) (h49) (wa_53) wa_n (by omega)) fun v Ma30 h30 => ?_
          obtain ⟨r29, rfl, g30, e30_k0, e30_k1, e30_k2, e30_k3, e30_k4, p30_0, p30_1, p30_2⟩ := h30
          have f30 : Fr W_rx Mr Ma30 := Fr.t Fr.r (Fr.m g30 (by decide))
          refine rsr (cI_e rfl) ?_
          refine rsr (gtI_q (w := iI 0) (rk_160 (hR.fr f30)) (e30_k4)) ?_
          refine rsr (if_pos (eqI_p (rfl) (li_0) (by omega))) ?_
          refine rsr (gtP_q (w := some 202) (rk_160 (hR.fr f30)) (rf_56 (hR.fr f30))) ?_
          refine rsr (alL_q (n := 2000) (z := u) (w := (tx i)) (rk_202 (hR.fr f30)) (congrArg iI p30_0) (by omega) (p30_1.2.2.2.1)) ?_
          refine rsr (jn_v) ?_
          by_cases c31 : (tx i) = (0 : Int64)
          ·
            refine rsr (if_pos (lgc_p (rfl) (rfl) c31)) ?_
            refine rsr (gtP_q (w := some 204) (rk_160 (hR.fr f30)) (rf_58 (hR.fr f30))) ?_
            refine rsr (alL_q (n := 2000) (z := u) (w := (tx (i + 2))) (rk_204 (hR.fr f30)) (congrArg iI p30_0) (by omega) (p30_1.2.2.2.2.2.1)) ?_
            refine rsr (vC_e (rk_160 (hR.fr f30))) ?_
            obtain ⟨rl, hrl⟩ : ∃ r, LcF Hl s (tx (i + 2)) r := by have q := LcF_ex (Hl := Hl) (y := (tx (i + 2))) s.toNat; rw [show ((s.toNat : Nat) : Int) = s by omega] at q; exact q
            have brl := hrl.bd
            by_cases crl : rl = -1
            ·
              subst crl
              refine RrI (a197 (by omega) (hR.fr f30) ((g30.i _ _ (by decide)).trans (wa_51)) (lra.fr g30 (by decide)) (by omega)) fun v Nl32 hl32 => ?_
              obtain ⟨r9, rfl, hMl, hr9⟩ := hl32
              rw [hMl]
              have q9 := LcF.one hr9 hrl
              rw [q9]
              refine rsr (cI_e rfl) ?_
              refine rsr (jv_e) ?_
              try dsimp only
              refine rsr (gtI_q (w := iI ((kr (kd (i + 3))))) (rk_160 (hR.fr f30)) (e30_k1)) ?_
              refine rsr (jn_v) ?_
              refine rsr (if_neg (krI_n (k := 40) (rfl) (li_40) (hS.ok (i + 3) (by omega) (by omega)) (by unfold KdOK sgk; omega) (by decide +kernel) (by omega) (by omega))) ?_
              refine rsr (gtI_q (w := iI ((kr (kd (i + 3))))) (rk_160 (hR.fr f30)) (e30_k1)) ?_
              refine rsr (if_pos (krI_p (k := 91) (rfl) (li_91) (by omega) (by decide +kernel))) ?_
              refine rsr (vC_e (rk_160 (hR.fr f30))) ?_
              refine Rb_VV (hX _ _ (by omega) (by omega) T n m kd pl E tx ua ut mu _ _ G (pu U u [uc, (V Mr 201 u.toNat), (V Mr 200 u.toNat), (pl i), (pl (i + 2)), (V Mr 206 u.toNat), ut, 0, (V Mc 79 uc.toNat), (V Mc 80 uc.toNat), (pl i)]) Hl (pux X u [(tx i), (tx (i + 2))]) (i + 3) e s (u + 1) (uc + 1) _ hS (hCx.fr f13 f30) ⟨e13_k0, e13_k2, e13_k3, (g13.i _ _ (by decide)).trans (qa_9), (g13.i _ _ (by decide)).trans (qa_16), e13_k1⟩ ⟨e30_k1, e30_k2, e30_k3, e30_k4, (g30.i _ _ (by decide)).trans (wa_43), (g30.i _ _ (by decide)).trans (wa_51), e30_k0, (g30.i _ _ (by decide)).trans (wa_50), p30_2⟩ ⟨(caa.fr g13 (by decide)), (raa.fr g30 (by decide)), (lca.fr g13 (by decide)), (lra.fr g30 (by decide)), (CU.add cua (by omega) (by omega) p13_1 rfl rfl), (RU.add rua (by omega) p30_1 rfl)⟩ ⟨by omega, by omega, by omega, by omega, by omega, by omega, by omega, by omega, by omega, by omega, by omega, by omega⟩ (by omega) (vs1 (rfl))) fun v Mx33 w Nx33 hx33 => ?_
              rcases hx33 with ⟨i33, e33, u33, uc33, G33, U33, X33, fl33, fr33, sc33, sr33, rw33, bd33, mv33, ag33, au33, ax33, tp33, dp33, kv33⟩ | ⟨F33, P33, fl33, fr33, tc33, tr33⟩
              ·
                have FL33 : Fr W_cp Mc Mx33 := Fr.t f13 fl33
                have FR33 : Fr W_rx Mr Nx33 := Fr.t f30 fr33
                obtain ⟨bb33_0, bb33_1, bb33_2, bb33_3, bb33_4, bb33_5, bb33_6, bb33_7, bb33_8, bb33_9, bb33_10, bb33_11⟩ := bd33
                obtain ⟨q33_12, q33_13, q33_10, q33_9, q33_16, q33_19⟩ := sc33
                obtain ⟨w33_36, w33_37, w33_38, w33_41, w33_43, w33_51, w33_53, w33_50, w33_n⟩ := sr33
                obtain ⟨ca33, ra33, lc33, lr33, cu33, ru33⟩ := rw33
                have hk34 := (hS.ok i33 (by omega) (by omega)).r
                have ku33 := KU.t (KU.us kua p13_1 g13 (by decide) (by omega)) kv33 (by omega)
                have ty35 := Tye.t (d3 := 1) ty2 ag33 tp33 (by omega)
                have du36 := DU.t (DU.r (ut := ut) (mu := mu) (c := uc) (G := G) (a := e)) ag33 au33 ax33 dp33 (by omega)
                refine rsl (cV_e rfl) ?_
                refine rsr (cV_e rfl) ?_
                refine rsl (vC_e (ck_65 (hC.fr FL33))) ?_
                have ty38 := Tye.em (d := 1) (d' := 1) (q := (e33 + 1)) (n1 := 0) (ut := ut) (mu := mu) (l := []) ty35 (Or.inr (Or.inr (Or.inr (Or.inr (Or.inl (by omega))))) : Eff 5 u 0 1 s 1 s) (by omega) ⟨by omega, by omega⟩ (by omega)
                have du39 := DU.set (b1 := 2) (p := 3) (q := (e33 + 1)) (u := u) (o := 5) (n1 := 0) (p1 := -2) (n3 := u) (l := []) (g := 0) du36 (by omega) (by omega) (by omega) (by omega) (fun q => absurd q (by decide)) (Int.le_of_eq (Eq.symm ((au33 0 _ (by omega)).trans (pu_e rfl)))) ((au33 6 _ (by omega)).trans (pu_e (by omega))) (U3tr (ax33 0 _ (by omega)) (au33 3 _ (by omega)) (au33 10 _ (by omega)) (Or.inr ((pu_e (by omega)).trans (pu_e (by omega)).symm))) (by omega) (by omega)
                refine RlV (a105 (by omega) (hC.fr FL33) (q33_9) (congrArg iI p13_0) (li_3) (li_5) (by omega)) fun v Ma40 h40 => ?_
                obtain ⟨g40, e40_k0, p40_0, p40_1⟩ := h40
                have f40 : Fr W_cp Mc Ma40 := Fr.t FL33 (Fr.m g40 (by decide))
                refine rsl (cV_e rfl) ?_
                refine rsl (jv_e) ?_
                refine rsr (vC_e (rk_160 (hR.fr FR33))) ?_
                refine RrV (a202 (by omega) (hR.fr FR33) (w33_43) ((FR33.i _ _ (by decide)).trans h49) ((FR33.i _ _ (by decide)).trans h48) (congrArg iI p30_0) (li_2) (li_5) (by omega)) fun v Ma41 h41 => ?_
                obtain ⟨g41, e41_k0, p41_0, p41_1⟩ := h41
                have f41 : Fr W_rx Mr Ma41 := Fr.t FR33 (Fr.m g41 (by decide))
                refine rsr (cV_e rfl) ?_
                refine rsr (jv_e) ?_
                exact Rs.ok (Or.inl ⟨i33, (e33 + 1), u33, uc33, (pu G33 e33 [5, 0, -2, u, ut, mu, 0]), (ps U33 u 2 3 e33), X33, f40, f41, ⟨(g40.i _ _ (by decide)).trans (q33_12), (g40.i _ _ (by decide)).trans (q33_13), (g40.i _ _ (by decide)).trans (q33_10), e40_k0, (g40.i _ _ (by decide)).trans (q33_16), (g40.i _ _ (by decide)).trans (q33_19)⟩, ⟨(g41.i _ _ (by decide)).trans (w33_36), (g41.i _ _ (by decide)).trans (w33_37), (g41.i _ _ (by decide)).trans (w33_38), (g41.i _ _ (by decide)).trans (w33_41), e41_k0, (g41.i _ _ (by decide)).trans (w33_51), (g41.i _ _ (by decide)).trans (w33_53), (g41.i _ _ (by decide)).trans (w33_50), (w33_n.fr g41 (by decide) (by decide))⟩, ⟨(CA1.em ca33 (by omega) p40_0 rfl), (RA1.em ra33 (by omega) p41_0 rfl), (lc33.fr g40 (by decide)), (lr33.fr g41 (by decide)), (CU.set (b := 2) cu33 ⟨by omega, by omega⟩ ((au33 0 _ (by omega)).trans (pu_e rfl)) p40_1 g40 (by decide)), (RU.set ru33 ⟨by omega, by omega⟩ p41_1 g41 (by decide))⟩, ⟨by omega, by omega, by omega, by omega, by omega, by omega, by omega, by omega, by omega, by omega, by omega, by omega⟩, ⟨by omega, by omega, by omega, by omega, by omega, by omega⟩, (Ag.pu (Ag.t Ag.r ag33 (by omega)) (by omega)), (Ag.ps (Ag.t (Ag.pu Ag.r (by omega)) au33 (by omega)) (by omega)), (AgL.t (AgL.pu AgL.r (by omega)) ax33 (by omega)), ty38, du39, (ku33.fr g40 (by decide))⟩)
              ·
                have FL33 : Fr W_cp Mc Mx33 := Fr.t f13 fl33
                have FR33 : Fr W_rp Mr Nx33 := Fr.t (Fr.m f30 W_rx_p) fr33
                obtain ⟨ti33, tz33, tn33, tu33, t1333, t1033, t1133, t1233, t933, t1633, t1933, tb33⟩ := tc33
                obtain ⟨re33, rn33, ru33, rm33, rt33, u4133, u4233, u4333, u5133, u5333, u4833, u4933, ub33⟩ := tr33
                refine rsl (cV_e rfl) ?_
                refine rsr (cV_e rfl) ?_
                refine rsl (vC_e (ck_65 (hC.fr FL33))) ?_
                refine RlV (y105 (by omega) (hC.fr FL33) (hTk.fr (WL := W_cp) FL33 (by decide)) (t1233) (t1333) (t1033) (t1133) (t933) (t1633) (t1933) (congrArg iI p13_0) (li_3) (li_5) (by omega)) fun v Ma43 h43 => ?_
                obtain ⟨sz42, sn42, uc42, g43, e43_sz42, e43_sn42, e43_uc42, e43_k0, e43_k1, e43_k2, e43_k3, p43_0, p43_1, p43_2⟩ := h43
                have f43 : Fr W_cp Mc Ma43 := Fr.t FL33 (Fr.m g43 (by decide))
                refine rsl (cV_e rfl) ?_
                refine rsl (jv_e) ?_
                refine rsr (vC_e (rk_160 (hR.fr FR33))) ?_
                refine RrV (x202_s (by omega) (hR.fr FR33) (u4133) (u4233) (u4333) (u5133) (u5333) (u4833) (u4933) (congrArg iI p30_0) (li_2) (li_5) (by omega)) fun v Ma45 h45 => ?_
                obtain ⟨em44, g45, e45_em44, e45_k0, e45_k1, e45_k2, e45_k3, e45_k4, p45_0⟩ := h45
                have f45 : Fr W_rp Mr Ma45 := Fr.t FR33 (Fr.m g45 (by decide))
                refine rsr (cV_e rfl) ?_
                refine rsr (jv_e) ?_
                exact Rs.ok (Or.inr ⟨F33, P33, f43, f45, ⟨ti33, sz42, sn42, uc42, e43_k0, e43_k1, e43_k2, e43_k3, e43_sz42, e43_sn42, e43_uc42, by omega⟩, ⟨em44, rn33, ru33, rm33, rt33, e45_k0, e45_k1, e45_em44, e45_k2, e45_k3, e45_k4, (g45.i _ _ (by decide)).trans (u4933), by omega⟩⟩)
            ·
              refine RrI (a197 (by omega) (hR.fr f30) ((g30.i _ _ (by decide)).trans (wa_51)) (lra.fr g30 (by decide)) (by omega)) fun v Nl32 hl32 => ?_
              obtain ⟨r9, rfl, hMl, hr9⟩ := hl32
              rw [hMl]
              have q9 := LcF.one hr9 hrl
              rw [q9]
              refine rsr (cI_e rfl) ?_
              refine rsr (jv_e) ?_
              try dsimp only
              refine rsr (gtI_q (w := iI ((kr (kd (i + 3))))) (rk_160 (hR.fr f30)) (e30_k1)) ?_
              refine rsr (jn_v) ?_
              refine rsr (if_neg (krI_n (k := 40) (rfl) (li_40) (hS.ok (i + 3) (by omega) (by omega)) (by unfold KdOK sgk; omega) (by decide +kernel) (by omega) (by omega))) ?_
              refine rsr (gtI_q (w := iI ((kr (kd (i + 3))))) (rk_160 (hR.fr f30)) (e30_k1)) ?_
              refine rsr (if_pos (krI_p (k := 91) (rfl) (li_91) (by omega) (by decide +kernel))) ?_
              refine rsr (vC_e (rk_160 (hR.fr f30))) ?_
              refine Rb_VV (hX _ _ (by omega) (by omega) T n m kd pl E tx ua ut mu _ _ G (pu U u [uc, (V Mr 201 u.toNat), (V Mr 200 u.toNat), (pl i), (pl (i + 2)), (V Mr 206 u.toNat), ut, 0, (V Mc 79 uc.toNat), (V Mc 80 uc.toNat), (pl i)]) Hl (pux X u [(tx i), (tx (i + 2))]) (i + 3) e s (u + 1) (uc + 1) _ hS (hCx.fr f13 f30) ⟨e13_k0, e13_k2, e13_k3, (g13.i _ _ (by decide)).trans (qa_9), (g13.i _ _ (by decide)).trans (qa_16), e13_k1⟩ ⟨e30_k1, e30_k2, e30_k3, e30_k4, (g30.i _ _ (by decide)).trans (wa_43), (g30.i _ _ (by decide)).trans (wa_51), e30_k0, (g30.i _ _ (by decide)).trans (wa_50), p30_2⟩ ⟨(caa.fr g13 (by decide)), (raa.fr g30 (by decide)), (lca.fr g13 (by decide)), (lra.fr g30 (by decide)), (CU.add cua (by omega) (by omega) p13_1 rfl rfl), (RU.add rua (by omega) p30_1 rfl)⟩ ⟨by omega, by omega, by omega, by omega, by omega, by omega, by omega, by omega, by omega, by omega, by omega, by omega⟩ (by omega) (vs1 (rfl))) fun v Mx46 w Nx46 hx46 => ?_
              rcases hx46 with ⟨i46, e46, u46, uc46, G46, U46, X46, fl46, fr46, sc46, sr46, rw46, bd46, mv46, ag46, au46, ax46, tp46, dp46, kv46⟩ | ⟨F46, P46, fl46, fr46, tc46, tr46⟩
              ·
                have FL46 : Fr W_cp Mc Mx46 := Fr.t f13 fl46
                have FR46 : Fr W_rx Mr Nx46 := Fr.t f30 fr46
                obtain ⟨bb46_0, bb46_1, bb46_2, bb46_3, bb46_4, bb46_5, bb46_6, bb46_7, bb46_8, bb46_9, bb46_10, bb46_11⟩ := bd46
                obtain ⟨q46_12, q46_13, q46_10, q46_9, q46_16, q46_19⟩ := sc46
                obtain ⟨w46_36, w46_37, w46_38, w46_41, w46_43, w46_51, w46_53, w46_50, w46_n⟩ := sr46
                obtain ⟨ca46, ra46, lc46, lr46, cu46, ru46⟩ := rw46
                have hk47 := (hS.ok i46 (by omega) (by omega)).r
                have ku46 := KU.t (KU.us kua p13_1 g13 (by decide) (by omega)) kv46 (by omega)
                have ty48 := Tye.t (d3 := 1) ty2 ag46 tp46 (by omega)
                have du49 := DU.t (DU.r (ut := ut) (mu := mu) (c := uc) (G := G) (a := e)) ag46 au46 ax46 dp46 (by omega)
                refine rsl (cV_e rfl) ?_
                refine rsr (cV_e rfl) ?_
                refine rsl (vC_e (ck_65 (hC.fr FL46))) ?_
                have ty51 := Tye.em (d := 1) (d' := 1) (q := (e46 + 1)) (n1 := 0) (ut := ut) (mu := mu) (l := []) ty48 (Or.inr (Or.inr (Or.inr (Or.inr (Or.inl (by omega))))) : Eff 5 u 0 1 s 1 s) (by omega) ⟨by omega, by omega⟩ (by omega)
                have du52 := DU.set (b1 := 2) (p := 3) (q := (e46 + 1)) (u := u) (o := 5) (n1 := 0) (p1 := -2) (n3 := u) (l := []) (g := 0) du49 (by omega) (by omega) (by omega) (by omega) (fun q => absurd q (by decide)) (Int.le_of_eq (Eq.symm ((au46 0 _ (by omega)).trans (pu_e rfl)))) ((au46 6 _ (by omega)).trans (pu_e (by omega))) (U3tr (ax46 0 _ (by omega)) (au46 3 _ (by omega)) (au46 10 _ (by omega)) (Or.inr ((pu_e (by omega)).trans (pu_e (by omega)).symm))) (by omega) (by omega)
                refine RlV (a105 (by omega) (hC.fr FL46) (q46_9) (congrArg iI p13_0) (li_3) (li_5) (by omega)) fun v Ma53 h53 => ?_
                obtain ⟨g53, e53_k0, p53_0, p53_1⟩ := h53
                have f53 : Fr W_cp Mc Ma53 := Fr.t FL46 (Fr.m g53 (by decide))
                refine rsl (cV_e rfl) ?_
                refine rsl (jv_e) ?_
                refine rsr (vC_e (rk_160 (hR.fr FR46))) ?_
                refine RrV (a202 (by omega) (hR.fr FR46) (w46_43) ((FR46.i _ _ (by decide)).trans h49) ((FR46.i _ _ (by decide)).trans h48) (congrArg iI p30_0) (li_2) (li_5) (by omega)) fun v Ma54 h54 => ?_
                obtain ⟨g54, e54_k0, p54_0, p54_1⟩ := h54
                have f54 : Fr W_rx Mr Ma54 := Fr.t FR46 (Fr.m g54 (by decide))
                refine rsr (cV_e rfl) ?_
                refine rsr (jv_e) ?_
                exact Rs.ok (Or.inl ⟨i46, (e46 + 1), u46, uc46, (pu G46 e46 [5, 0, -2, u, ut, mu, 0]), (ps U46 u 2 3 e46), X46, f53, f54, ⟨(g53.i _ _ (by decide)).trans (q46_12), (g53.i _ _ (by decide)).trans (q46_13), (g53.i _ _ (by decide)).trans (q46_10), e53_k0, (g53.i _ _ (by decide)).trans (q46_16), (g53.i _ _ (by decide)).trans (q46_19)⟩, ⟨(g54.i _ _ (by decide)).trans (w46_36), (g54.i _ _ (by decide)).trans (w46_37), (g54.i _ _ (by decide)).trans (w46_38), (g54.i _ _ (by decide)).trans (w46_41), e54_k0, (g54.i _ _ (by decide)).trans (w46_51), (g54.i _ _ (by decide)).trans (w46_53), (g54.i _ _ (by decide)).trans (w46_50), (w46_n.fr g54 (by decide) (by decide))⟩, ⟨(CA1.em ca46 (by omega) p53_0 rfl), (RA1.em ra46 (by omega) p54_0 rfl), (lc46.fr g53 (by decide)), (lr46.fr g54 (by decide)), (CU.set (b := 2) cu46 ⟨by omega, by omega⟩ ((au46 0 _ (by omega)).trans (pu_e rfl)) p53_1 g53 (by decide)), (RU.set ru46 ⟨by omega, by omega⟩ p54_1 g54 (by decide))⟩, ⟨by omega, by omega, by omega, by omega, by omega, by omega, by omega, by omega, by omega, by omega, by omega, by omega⟩, ⟨by omega, by omega, by omega, by omega, by omega, by omega⟩, (Ag.pu (Ag.t Ag.r ag46 (by omega)) (by omega)), (Ag.ps (Ag.t (Ag.pu Ag.r (by omega)) au46 (by omega)) (by omega)), (AgL.t (AgL.pu AgL.r (by omega)) ax46 (by omega)), ty51, du52, (ku46.fr g53 (by decide))⟩)
              ·
                have FL46 : Fr W_cp Mc Mx46 := Fr.t f13 fl46
                have FR46 : Fr W_rp Mr Nx46 := Fr.t (Fr.m f30 W_rx_p) fr46
                obtain ⟨ti46, tz46, tn46, tu46, t1346, t1046, t1146, t1246, t946, t1646, t1946, tb46⟩ := tc46
                obtain ⟨re46, rn46, ru46, rm46, rt46, u4146, u4246, u4346, u5146, u5346, u4846, u4946, ub46⟩ := tr46
                refine rsl (cV_e rfl) ?_
                refine rsr (cV_e rfl) ?_
                refine rsl (vC_e (ck_65 (hC.fr FL46))) ?_
                refine RlV (y105 (by omega) (hC.fr FL46) (hTk.fr (WL := W_cp) FL46 (by decide)) (t1246) (t1346) (t1046) (t1146) (t946) (t1646) (t1946) (congrArg iI p13_0) (li_3) (li_5) (by omega)) fun v Ma56 h56 => ?_
                obtain ⟨sz55, sn55, uc55, g56, e56_sz55, e56_sn55, e56_uc55, e56_k0, e56_k1, e56_k2, e56_k3, p56_0, p56_1, p56_2⟩ := h56
                have f56 : Fr W_cp Mc Ma56 := Fr.t FL46 (Fr.m g56 (by decide))
                refine rsl (cV_e rfl) ?_
                refine rsl (jv_e) ?_
                refine rsr (vC_e (rk_160 (hR.fr FR46))) ?_
                refine RrV (x202_s (by omega) (hR.fr FR46) (u4146) (u4246) (u4346) (u5146) (u5346) (u4846) (u4946) (congrArg iI p30_0) (li_2) (li_5) (by omega)) fun v Ma58 h58 => ?_
                obtain ⟨em57, g58, e58_em57, e58_k0, e58_k1, e58_k2, e58_k3, e58_k4, p58_0⟩ := h58
                have f58 : Fr W_rp Mr Ma58 := Fr.t FR46 (Fr.m g58 (by decide))
                refine rsr (cV_e rfl) ?_
                refine rsr (jv_e) ?_
                exact Rs.ok (Or.inr ⟨F46, P46, f56, f58, ⟨ti46, sz55, sn55, uc55, e56_k0, e56_k1, e56_k2, e56_k3, e56_sz55, e56_sn55, e56_uc55, by omega⟩, ⟨em57, rn46, ru46, rm46, rt46, e58_k0, e58_k1, e58_em57, e58_k2, e58_k3, e58_k4, (g58.i _ _ (by decide)).trans (u4946), by omega⟩⟩)
          ·
            refine rsr (if_neg (lgc_n (rfl) (rfl) c31)) ?_
            refine rsr (jv_e) ?_
            try dsimp only
            refine rsr (gtI_q (w := iI ((kr (kd (i + 3))))) (rk_160 (hR.fr f30)) (e30_k1)) ?_
            refine rsr (jn_v) ?_
            refine rsr (if_neg (krI_n (k := 40) (rfl) (li_40) (hS.ok (i + 3) (by omega) (by omega)) (by unfold KdOK sgk; omega) (by decide +kernel) (by omega) (by omega))) ?_
            refine rsr (gtI_q (w := iI ((kr (kd (i + 3))))) (rk_160 (hR.fr f30)) (e30_k1)) ?_
            refine rsr (if_pos (krI_p (k := 91) (rfl) (li_91) (by omega) (by decide +kernel))) ?_
            refine rsr (vC_e (rk_160 (hR.fr f30))) ?_
            refine Rb_VV (hX _ _ (by omega) (by omega) T n m kd pl E tx ua ut mu _ _ G (pu U u [uc, (V Mr 201 u.toNat), (V Mr 200 u.toNat), (pl i), (pl (i + 2)), (V Mr 206 u.toNat), ut, 0, (V Mc 79 uc.toNat), (V Mc 80 uc.toNat), (pl i)]) Hl (pux X u [(tx i), (tx (i + 2))]) (i + 3) e s (u + 1) (uc + 1) _ hS (hCx.fr f13 f30) ⟨e13_k0, e13_k2, e13_k3, (g13.i _ _ (by decide)).trans (qa_9), (g13.i _ _ (by decide)).trans (qa_16), e13_k1⟩ ⟨e30_k1, e30_k2, e30_k3, e30_k4, (g30.i _ _ (by decide)).trans (wa_43), (g30.i _ _ (by decide)).trans (wa_51), e30_k0, (g30.i _ _ (by decide)).trans (wa_50), p30_2⟩ ⟨(caa.fr g13 (by decide)), (raa.fr g30 (by decide)), (lca.fr g13 (by decide)), (lra.fr g30 (by decide)), (CU.add cua (by omega) (by omega) p13_1 rfl rfl), (RU.add rua (by omega) p30_1 rfl)⟩ ⟨by omega, by omega, by omega, by omega, by omega, by omega, by omega, by omega, by omega, by omega, by omega, by omega⟩ (by omega) (vs1 (rfl))) fun v Mx59 w Nx59 hx59 => ?_
            rcases hx59 with ⟨i59, e59, u59, uc59, G59, U59, X59, fl59, fr59, sc59, sr59, rw59, bd59, mv59, ag59, au59, ax59, tp59, dp59, kv59⟩ | ⟨F59, P59, fl59, fr59, tc59, tr59⟩
            ·
              have FL59 : Fr W_cp Mc Mx59 := Fr.t f13 fl59
              have FR59 : Fr W_rx Mr Nx59 := Fr.t f30 fr59
              obtain ⟨bb59_0, bb59_1, bb59_2, bb59_3, bb59_4, bb59_5, bb59_6, bb59_7, bb59_8, bb59_9, bb59_10, bb59_11⟩ := bd59
              obtain ⟨q59_12, q59_13, q59_10, q59_9, q59_16, q59_19⟩ := sc59
              obtain ⟨w59_36, w59_37, w59_38, w59_41, w59_43, w59_51, w59_53, w59_50, w59_n⟩ := sr59
              obtain ⟨ca59, ra59, lc59, lr59, cu59, ru59⟩ := rw59
              have hk60 := (hS.ok i59 (by omega) (by omega)).r
              have ku59 := KU.t (KU.us kua p13_1 g13 (by decide) (by omega)) kv59 (by omega)
              have ty61 := Tye.t (d3 := 1) ty2 ag59 tp59 (by omega)
              have du62 := DU.t (DU.r (ut := ut) (mu := mu) (c := uc) (G := G) (a := e)) ag59 au59 ax59 dp59 (by omega)
              refine rsl (cV_e rfl) ?_
              refine rsr (cV_e rfl) ?_
              refine rsl (vC_e (ck_65 (hC.fr FL59))) ?_
              have ty64 := Tye.em (d := 1) (d' := 1) (q := (e59 + 1)) (n1 := 0) (ut := ut) (mu := mu) (l := []) ty61 (Or.inr (Or.inr (Or.inr (Or.inr (Or.inl (by omega))))) : Eff 5 u 0 1 s 1 s) (by omega) ⟨by omega, by omega⟩ (by omega)
              have du65 := DU.set (b1 := 2) (p := 3) (q := (e59 + 1)) (u := u) (o := 5) (n1 := 0) (p1 := -2) (n3 := u) (l := []) (g := 0) du62 (by omega) (by omega) (by omega) (by omega) (fun q => absurd q (by decide)) (Int.le_of_eq (Eq.symm ((au59 0 _ (by omega)).trans (pu_e rfl)))) ((au59 6 _ (by omega)).trans (pu_e (by omega))) (U3tr (ax59 0 _ (by omega)) (au59 3 _ (by omega)) (au59 10 _ (by omega)) (Or.inr ((pu_e (by omega)).trans (pu_e (by omega)).symm))) (by omega) (by omega)
              refine RlV (a105 (by omega) (hC.fr FL59) (q59_9) (congrArg iI p13_0) (li_3) (li_5) (by omega)) fun v Ma66 h66 => ?_
              obtain ⟨g66, e66_k0, p66_0, p66_1⟩ := h66
              have f66 : Fr W_cp Mc Ma66 := Fr.t FL59 (Fr.m g66 (by decide))
              refine rsl (cV_e rfl) ?_
              refine rsl (jv_e) ?_
              refine rsr (vC_e (rk_160 (hR.fr FR59))) ?_
              refine RrV (a202 (by omega) (hR.fr FR59) (w59_43) ((FR59.i _ _ (by decide)).trans h49) ((FR59.i _ _ (by decide)).trans h48) (congrArg iI p30_0) (li_2) (li_5) (by omega)) fun v Ma67 h67 => ?_
              obtain ⟨g67, e67_k0, p67_0, p67_1⟩ := h67
              have f67 : Fr W_rx Mr Ma67 := Fr.t FR59 (Fr.m g67 (by decide))
              refine rsr (cV_e rfl) ?_
              refine rsr (jv_e) ?_
              exact Rs.ok (Or.inl ⟨i59, (e59 + 1), u59, uc59, (pu G59 e59 [5, 0, -2, u, ut, mu, 0]), (ps U59 u 2 3 e59), X59, f66, f67, ⟨(g66.i _ _ (by decide)).trans (q59_12), (g66.i _ _ (by decide)).trans (q59_13), (g66.i _ _ (by decide)).trans (q59_10), e66_k0, (g66.i _ _ (by decide)).trans (q59_16), (g66.i _ _ (by decide)).trans (q59_19)⟩, ⟨(g67.i _ _ (by decide)).trans (w59_36), (g67.i _ _ (by decide)).trans (w59_37), (g67.i _ _ (by decide)).trans (w59_38), (g67.i _ _ (by decide)).trans (w59_41), e67_k0, (g67.i _ _ (by decide)).trans (w59_51), (g67.i _ _ (by decide)).trans (w59_53), (g67.i _ _ (by decide)).trans (w59_50), (w59_n.fr g67 (by decide) (by decide))⟩, ⟨(CA1.em ca59 (by omega) p66_0 rfl), (RA1.em ra59 (by omega) p67_0 rfl), (lc59.fr g66 (by decide)), (lr59.fr g67 (by decide)), (CU.set (b := 2) cu59 ⟨by omega, by omega⟩ ((au59 0 _ (by omega)).trans (pu_e rfl)) p66_1 g66 (by decide)), (RU.set ru59 ⟨by omega, by omega⟩ p67_1 g67 (by decide))⟩, ⟨by omega, by omega, by omega, by omega, by omega, by omega, by omega, by omega, by omega, by omega, by omega, by omega⟩, ⟨by omega, by omega, by omega, by omega, by omega, by omega⟩, (Ag.pu (Ag.t Ag.r ag59 (by omega)) (by omega)), (Ag.ps (Ag.t (Ag.pu Ag.r (by omega)) au59 (by omega)) (by omega)), (AgL.t (AgL.pu AgL.r (by omega)) ax59 (by omega)), ty64, du65, (ku59.fr g66 (by decide))⟩)
            ·
              have FL59 : Fr W_cp Mc Mx59 := Fr.t f13 fl59
              have FR59 : Fr W_rp Mr Nx59 := Fr.t (Fr.m f30 W_rx_p) fr59
              obtain ⟨ti59, tz59, tn59, tu59, t1359, t1059, t1159, t1259, t959, t1659, t1959, tb59⟩ := tc59
              obtain ⟨re59, rn59, ru59, rm59, rt59, u4159, u4259, u4359, u5159, u5359, u4859, u4959, ub59⟩ := tr59
              refine rsl (cV_e rfl) ?_
              refine rsr (cV_e rfl) ?_
              refine rsl (vC_e (ck_65 (hC.fr FL59))) ?_
              refine RlV (y105 (by omega) (hC.fr FL59) (hTk.fr (WL := W_cp) FL59 (by decide)) (t1259) (t1359) (t1059) (t1159) (t959) (t1659) (t1959) (congrArg iI p13_0) (li_3) (li_5) (by omega)) fun v Ma69 h69 => ?_
              obtain ⟨sz68, sn68, uc68, g69, e69_sz68, e69_sn68, e69_uc68, e69_k0, e69_k1, e69_k2, e69_k3, p69_0, p69_1, p69_2⟩ := h69
              have f69 : Fr W_cp Mc Ma69 := Fr.t FL59 (Fr.m g69 (by decide))
              refine rsl (cV_e rfl) ?_
              refine rsl (jv_e) ?_
              refine rsr (vC_e (rk_160 (hR.fr FR59))) ?_
              refine RrV (x202_s (by omega) (hR.fr FR59) (u4159) (u4259) (u4359) (u5159) (u5359) (u4859) (u4959) (congrArg iI p30_0) (li_2) (li_5) (by omega)) fun v Ma71 h71 => ?_
              obtain ⟨em70, g71, e71_em70, e71_k0, e71_k1, e71_k2, e71_k3, e71_k4, p71_0⟩ := h71
              have f71 : Fr W_rp Mr Ma71 := Fr.t FR59 (Fr.m g71 (by decide))
              refine rsr (cV_e rfl) ?_
              refine rsr (jv_e) ?_
              exact Rs.ok (Or.inr ⟨F59, P59, f69, f71, ⟨ti59, sz68, sn68, uc68, e69_k0, e69_k1, e69_k2, e69_k3, e69_sz68, e69_sn68, e69_uc68, by omega⟩, ⟨em70, rn59, ru59, rm59, rt59, e71_k0, e71_k1, e71_em70, e71_k2, e71_k3, e71_k4, (g71.i _ _ (by decide)).trans (u4959), by omega⟩⟩)
        · refine rsl (if_neg (eqI_n (rfl) (li_91) (by omega))) ?_
          refine rsl (vC_e (ck_65 (hC.fr f13))) ?_
          by_cases c72 : (tx i) = (0 : Int64)
          ·
            obtain ⟨rl, hrl⟩ : ∃ r, LcF Hl s (tx (i + 2)) r := by have q := LcF_ex (Hl := Hl) (y := (tx (i + 2))) s.toNat; rw [show ((s.toNat : Nat) : Int) = s by omega] at q; exact q
            have brl := hrl.bd
            by_cases crl : rl = -1
            ·
              subst crl
              have ty73 := Tye.em (d := 0) (d' := 1) (q := (e + 1)) (n1 := 0) (ut := ut) (mu := mu) (l := []) ty2 (Or.inl (by omega) : Eff 3 u 0 0 s 1 s) (by omega) ⟨by omega, by omega⟩ (by omega)
              have du74 := DU.set (b1 := 0) (p := 1) (q := (e + 1)) (u := u) (o := 3) (n1 := 0) (p1 := -2) (n3 := u) (l := []) (g := 0) (DU.r (ut := ut) (mu := mu) (c := uc) (G := G) (a := e)) (by omega) (by omega) (by omega) (by omega) (fun q => absurd q (by decide)) (Int.le_of_eq (Eq.symm (pu_e rfl))) (pu_e (by omega)) (Or.inr ((pu_e (by omega)).trans (pu_e (by omega)).symm)) (by omega) (by omega)
              refine RlV (a106_n (by omega) (hC.fr f13) ((g13.i _ _ (by decide)).trans (qa_9)) (congrArg iI p13_0) (li_1) (li_1) (li_3) ((g13.i _ _ (by decide)).trans (qa_16)) (lca.fr g13 (by decide)) p13_1.2.2.2.2.2.2.2.1 p13_1.2.2.2.2.2.2.2.2 hrl c72 (by omega)) fun v Ma75 h75 => ?_
              obtain ⟨g75, e75_k0, p75_0, p75_1⟩ := h75
              have f75 : Fr W_cp Mc Ma75 := Fr.t f13 (Fr.m g75 (by decide))
              refine rsl (cV_e rfl) ?_
              refine rsl (jv_e) ?_
              refine rsr (vC_e (rk_160 hR)) ?_
              refine RrI (a201_d (by omega) hS hR (hT.fr (W := W_rx) Fr.r (by decide) (by decide)) (fun i a b => (Fr.lc (W := W_rx) Fr.r _ (by decide) _).trans (hW i a b)) (wa_36) (wa_37) (wa_38) (wa_41) (h49) (wa_53) wa_n (by omega)) fun v Ma77 h77 => ?_
              obtain ⟨r76, rfl, g77, e77_k0, e77_k1, e77_k2, e77_k3, e77_k4, p77_0, p77_1, p77_2⟩ := h77
              have f77 : Fr W_rx Mr Ma77 := Fr.t Fr.r (Fr.m g77 (by decide))
              refine rsr (cI_e rfl) ?_
              refine rsr (gtI_q (w := iI 0) (rk_160 (hR.fr f77)) (e77_k4)) ?_
              refine rsr (if_pos (eqI_p (rfl) (li_0) (by omega))) ?_
              refine rsr (gtP_q (w := some 202) (rk_160 (hR.fr f77)) (rf_56 (hR.fr f77))) ?_
              refine rsr (alL_q (n := 2000) (z := u) (w := (tx i)) (rk_202 (hR.fr f77)) (congrArg iI p77_0) (by omega) (p77_1.2.2.2.1)) ?_
              refine rsr (jn_v) ?_
              refine rsr (if_pos (lgc_p (rfl) (rfl) c72)) ?_
              refine rsr (gtP_q (w := some 204) (rk_160 (hR.fr f77)) (rf_58 (hR.fr f77))) ?_
              refine rsr (alL_q (n := 2000) (z := u) (w := (tx (i + 2))) (rk_204 (hR.fr f77)) (congrArg iI p77_0) (by omega) (p77_1.2.2.2.2.2.1)) ?_
              refine rsr (vC_e (rk_160 (hR.fr f77))) ?_
              refine RrI (a197 (by omega) (hR.fr f77) ((g77.i _ _ (by decide)).trans (wa_51)) (lra.fr g77 (by decide)) (by omega)) fun v Nl78 hl78 => ?_
              obtain ⟨r9, rfl, hMl, hr9⟩ := hl78
              rw [hMl]
              have q9 := LcF.one hr9 hrl
              rw [q9]
              refine rsr (cI_e rfl) ?_
              refine rsr (jv_e) ?_
              try dsimp only
              refine rsr (gtI_q (w := iI ((kr (kd (i + 3))))) (rk_160 (hR.fr f77)) (e77_k1)) ?_
              refine rsr (jn_v) ?_
              refine rsr (if_neg (krI_n (k := 40) (rfl) (li_40) (hS.ok (i + 3) (by omega) (by omega)) (by unfold KdOK sgk; omega) (by decide +kernel) (by omega) (by omega))) ?_
              refine rsr (gtI_q (w := iI ((kr (kd (i + 3))))) (rk_160 (hR.fr f77)) (e77_k1)) ?_
              refine rsr (if_neg (krI_n (k := 91) (rfl) (li_91) (hS.ok (i + 3) (by omega) (by omega)) (by unfold KdOK sgk; omega) (by decide +kernel) (by omega) (by omega))) ?_
              refine rsr (if_pos (lsI_p (congrArg iI (if_pos rfl)) (li_0) (by omega))) ?_
              refine rsr (vC_e (rk_160 (hR.fr f77))) ?_
              refine RrV (a202 (by omega) (hR.fr f77) ((g77.i _ _ (by decide)).trans (wa_43)) ((g77.i _ _ (by decide)).trans (h49)) ((g77.i _ _ (by decide)).trans (h48)) (congrArg iI p77_0) (li_0) (li_3) (by omega)) fun v Ma79 h79 => ?_
              obtain ⟨g79, e79_k0, p79_0, p79_1⟩ := h79
              have f79 : Fr W_rx Mr Ma79 := Fr.t f77 (Fr.m g79 (by decide))
              refine rsr (cV_e rfl) ?_
              refine rsr (jv_e) ?_
              exact Rs.ok (Or.inl ⟨(i + 3), (e + 1), (u + 1), (uc + 1), (pu G e [3, 0, -2, u, ut, mu, 0]), (ps (pu U u [uc, (V Mr 201 u.toNat), (V Mr 200 u.toNat), (pl i), (pl (i + 2)), (V Mr 206 u.toNat), ut, 0, (V Mc 79 uc.toNat), (V Mc 80 uc.toNat), (pl i)]) u 0 1 e), (pux X u [(tx i), (tx (i + 2))]), f75, f79, ⟨(g75.i _ _ (by decide)).trans (e13_k0), (g75.i _ _ (by decide)).trans (e13_k2), (g75.i _ _ (by decide)).trans (e13_k3), e75_k0, (g75.i _ _ (by decide)).trans ((g13.i _ _ (by decide)).trans (qa_16)), (g75.i _ _ (by decide)).trans (e13_k1)⟩, ⟨(g79.i _ _ (by decide)).trans (e77_k1), (g79.i _ _ (by decide)).trans (e77_k2), (g79.i _ _ (by decide)).trans (e77_k3), (g79.i _ _ (by decide)).trans (e77_k4), e79_k0, (g79.i _ _ (by decide)).trans ((g77.i _ _ (by decide)).trans (wa_51)), (g79.i _ _ (by decide)).trans (e77_k0), (g79.i _ _ (by decide)).trans ((g77.i _ _ (by decide)).trans (wa_50)), (p77_2.fr g79 (by decide) (by decide))⟩, ⟨(CA1.em (caa.fr g13 (by decide)) (by omega) p75_0 rfl), (RA1.em (raa.fr g77 (by decide)) (by omega) p79_0 rfl), ((lca.fr g13 (by decide)).fr g75 (by decide)), ((lra.fr g77 (by decide)).fr g79 (by decide)), (CU.set (b := 0) (CU.add cua (by omega) (by omega) p13_1 rfl rfl) ⟨by omega, by omega⟩ (pu_e rfl) p75_1 g75 (by decide)), (RU.set (RU.add rua (by omega) p77_1 rfl) ⟨by omega, by omega⟩ p79_1 g79 (by decide))⟩, ⟨by omega, by omega, by omega, by omega, by omega, by omega, by omega, by omega, by omega, by omega, by omega, by omega⟩, ⟨by omega, by omega, by omega, by omega, by omega, by omega⟩, (Ag.pu Ag.r (by omega)), (Ag.ps (Ag.pu Ag.r (by omega)) (by omega)), (AgL.pu AgL.r (by omega)), ty73, du74, ((KU.us kua p13_1 g13 (by decide) (by omega)).fr g75 (by decide))⟩)
            ·
              have ty80 := Tye.em (d := 0) (d' := 1) (q := (e + 1)) (n1 := rl) (ut := ut) (mu := mu) (l := []) ty2 (Or.inr (Or.inl (by omega)) : Eff 1 rl 0 0 s 1 s) (by omega) ⟨by omega, by omega⟩ (by omega)
              have du81 := DU.em (q := (e + 1)) (o := 1) (n := rl) (p := -2) (l := [0]) du3 (by omega) (by omega)
              refine RlV (a106_l (by omega) (hC.fr f13) ((g13.i _ _ (by decide)).trans (qa_9)) (congrArg iI p13_0) (li_1) (li_1) (li_3) ((g13.i _ _ (by decide)).trans (qa_16)) (lca.fr g13 (by decide)) p13_1.2.2.2.2.2.2.2.1 p13_1.2.2.2.2.2.2.2.2 hrl ⟨by omega, by omega⟩ c72 (by omega)) fun v Ma82 h82 => ?_
              obtain ⟨g82, e82_k0, p82_0, p82_1⟩ := h82
              have f82 : Fr W_cp Mc Ma82 := Fr.t f13 (Fr.m g82 (by decide))
              refine rsl (cV_e rfl) ?_
              refine rsl (jv_e) ?_
              refine rsr (vC_e (rk_160 hR)) ?_
              refine RrI (a201_d (by omega) hS hR (hT.fr (W := W_rx) Fr.r (by decide) (by decide)) (fun i a b => (Fr.lc (W := W_rx) Fr.r _ (by decide) _).trans (hW i a b)) (wa_36) (wa_37) (wa_38) (wa_41) (h49) (wa_53) wa_n (by omega)) fun v Ma84 h84 => ?_
              obtain ⟨r83, rfl, g84, e84_k0, e84_k1, e84_k2, e84_k3, e84_k4, p84_0, p84_1, p84_2⟩ := h84
              have f84 : Fr W_rx Mr Ma84 := Fr.t Fr.r (Fr.m g84 (by decide))
              refine rsr (cI_e rfl) ?_
              refine rsr (gtI_q (w := iI 0) (rk_160 (hR.fr f84)) (e84_k4)) ?_
              refine rsr (if_pos (eqI_p (rfl) (li_0) (by omega))) ?_
              refine rsr (gtP_q (w := some 202) (rk_160 (hR.fr f84)) (rf_56 (hR.fr f84))) ?_
              refine rsr (alL_q (n := 2000) (z := u) (w := (tx i)) (rk_202 (hR.fr f84)) (congrArg iI p84_0) (by omega) (p84_1.2.2.2.1)) ?_
              refine rsr (jn_v) ?_
              refine rsr (if_pos (lgc_p (rfl) (rfl) c72)) ?_
              refine rsr (gtP_q (w := some 204) (rk_160 (hR.fr f84)) (rf_58 (hR.fr f84))) ?_
              refine rsr (alL_q (n := 2000) (z := u) (w := (tx (i + 2))) (rk_204 (hR.fr f84)) (congrArg iI p84_0) (by omega) (p84_1.2.2.2.2.2.1)) ?_
              refine rsr (vC_e (rk_160 (hR.fr f84))) ?_
              refine RrI (a197 (by omega) (hR.fr f84) ((g84.i _ _ (by decide)).trans (wa_51)) (lra.fr g84 (by decide)) (by omega)) fun v Nl85 hl85 => ?_
              obtain ⟨r9, rfl, hMl, hr9⟩ := hl85
              rw [hMl]
              have q9 := LcF.one hr9 hrl
              rw [q9]
              refine rsr (cI_e rfl) ?_
              refine rsr (jv_e) ?_
              try dsimp only
              refine rsr (gtI_q (w := iI ((kr (kd (i + 3))))) (rk_160 (hR.fr f84)) (e84_k1)) ?_
              refine rsr (jn_v) ?_
              refine rsr (if_neg (krI_n (k := 40) (rfl) (li_40) (hS.ok (i + 3) (by omega) (by omega)) (by unfold KdOK sgk; omega) (by decide +kernel) (by omega) (by omega))) ?_
              refine rsr (gtI_q (w := iI ((kr (kd (i + 3))))) (rk_160 (hR.fr f84)) (e84_k1)) ?_
              refine rsr (if_neg (krI_n (k := 91) (rfl) (li_91) (hS.ok (i + 3) (by omega) (by omega)) (by unfold KdOK sgk; omega) (by decide +kernel) (by omega) (by omega))) ?_
              refine rsr (if_neg (lsI_n (congrArg iI (if_neg (by omega))) (li_0) (by omega))) ?_
              refine rsr (gtI_q (w := iI (u + 1)) (rk_160 (hR.fr f84)) (e84_k0)) ?_
              refine rsr (ptI_q (z := u) (rk_160 (hR.fr f84)) (cvI (sbI (rfl) (li_1)) (by omega))) ?_
              refine rsr (vC_e (rk_160 (hR.fr f84).sI)) ?_
              refine RrI (a196 (by omega) (hR.fr f84).sI ((sI_nej (by decide)).trans ((g84.i _ _ (by decide)).trans (wa_43))) ((sI_nej (by decide)).trans ((g84.i _ _ (by decide)).trans (h49))) ((sI_nej (by decide)).trans ((g84.i _ _ (by decide)).trans (h48))) (li_1) (congrArg iI (if_neg (by omega))) (by omega)) fun v Ma87 h87 => ?_
              obtain ⟨r86, rfl, g87, e87_k0, p87_0, p87_1⟩ := h87
              have f87 : Fr W_rx Mr Ma87 := Fr.t (Fr.sI (by decide) f84) (Fr.m g87 (by decide))
              refine rsr (cI_e rfl) ?_
              refine rsr (jv_e) ?_
              exact Rs.ok (Or.inl ⟨(i + 3), (e + 1), u, (uc + 1), (pu G e [1, rl, -2, rl, ut, mu, 0]), U, X, f82, f87, ⟨(g82.i _ _ (by decide)).trans (e13_k0), (g82.i _ _ (by decide)).trans (e13_k2), (g82.i _ _ (by decide)).trans (e13_k3), e82_k0, (g82.i _ _ (by decide)).trans ((g13.i _ _ (by decide)).trans (qa_16)), (g82.i _ _ (by decide)).trans (e13_k1)⟩, ⟨(g87.i _ _ (by decide)).trans ((sI_nej (by decide)).trans (e84_k1)), (g87.i _ _ (by decide)).trans ((sI_nej (by decide)).trans (e84_k2)), (g87.i _ _ (by decide)).trans ((sI_nej (by decide)).trans (e84_k3)), (g87.i _ _ (by decide)).trans ((sI_nej (by decide)).trans (e84_k4)), e87_k0, (g87.i _ _ (by decide)).trans ((sI_nej (by decide)).trans ((g84.i _ _ (by decide)).trans (wa_51))), (g87.i _ _ (by decide)).trans (sI_eq), (g87.i _ _ (by decide)).trans ((sI_nej (by decide)).trans ((g84.i _ _ (by decide)).trans (wa_50))), ((p84_2.fr (W := W_r0) (Fr.sI (by decide) Fr.r) (by decide) (by decide)).fr g87 (by decide) (by decide))⟩, ⟨(CA1.em (caa.fr g13 (by decide)) (by omega) p82_0 rfl), (RA1.em ((raa.fr g84 (by decide)).fr (W := W_r0) (Fr.sI (by decide) Fr.r) (by decide)) (by omega) p87_1 rfl), ((lca.fr g13 (by decide)).fr g82 (by decide)), (((lra.fr g84 (by decide)).fr (W := W_r0) (Fr.sI (by decide) Fr.r) (by decide)).fr g87 (by decide)), (CU.loc2 (CU.keep cua (by omega) p13_1 rfl) hlt p82_1 g82 (by decide)), (((RU.keep rua p84_1).fr (W := W_r0) (Fr.sI (by decide) Fr.r) (by decide)).fr g87 (by decide))⟩, ⟨by omega, by omega, by omega, by omega, by omega, by omega, by omega, by omega, by omega, by omega, by omega, by omega⟩, ⟨by omega, by omega, by omega, by omega, by omega, by omega⟩, (Ag.pu Ag.r (by omega)), Ag.r, AgL.r, ty80, du81, ((KU.us kua p13_1 g13 (by decide) (by omega)).fr g82 (by decide))⟩)
          ·
            have ty88 := Tye.em (d := 0) (d' := 1) (q := (e + 1)) (n1 := 0) (ut := ut) (mu := mu) (l := []) ty2 (Or.inl (by omega) : Eff 3 u 0 0 s 1 s) (by omega) ⟨by omega, by omega⟩ (by omega)
            have du89 := DU.set (b1 := 0) (p := 1) (q := (e + 1)) (u := u) (o := 3) (n1 := 0) (p1 := -2) (n3 := u) (l := []) (g := 0) (DU.r (ut := ut) (mu := mu) (c := uc) (G := G) (a := e)) (by omega) (by omega) (by omega) (by omega) (fun q => absurd q (by decide)) (Int.le_of_eq (Eq.symm (pu_e rfl))) (pu_e (by omega)) (Or.inr ((pu_e (by omega)).trans (pu_e (by omega)).symm)) (by omega) (by omega)
            refine RlV (a106_q (by omega) (hC.fr f13) ((g13.i _ _ (by decide)).trans (qa_9)) (congrArg iI p13_0) (li_1) (li_1) (li_3) ((g13.i _ _ (by decide)).trans (qa_16)) (lca.fr g13 (by decide)) p13_1.2.2.2.2.2.2.2.1 p13_1.2.2.2.2.2.2.2.2 c72 (by omega)) fun v Ma90 h90 => ?_
            obtain ⟨g90, e90_k0, p90_0, p90_1⟩ := h90
            have f90 : Fr W_cp Mc Ma90 := Fr.t f13 (Fr.m g90 (by decide))
            refine rsl (cV_e rfl) ?_
            refine rsl (jv_e) ?_
            refine rsr (vC_e (rk_160 hR)) ?_
            refine RrI (a201_d (by omega) hS hR (hT.fr (W := W_rx) Fr.r (by decide) (by decide)) (fun i a b => (Fr.lc (W := W_rx) Fr.r _ (by decide) _).trans (hW i a b)) (wa_36) (wa_37) (wa_38) (wa_41) (h49) (wa_53) wa_n (by omega)) fun v Ma92 h92 => ?_
            obtain ⟨r91, rfl, g92, e92_k0, e92_k1, e92_k2, e92_k3, e92_k4, p92_0, p92_1, p92_2⟩ := h92
            have f92 : Fr W_rx Mr Ma92 := Fr.t Fr.r (Fr.m g92 (by decide))
            refine rsr (cI_e rfl) ?_
            refine rsr (gtI_q (w := iI 0) (rk_160 (hR.fr f92)) (e92_k4)) ?_
            refine rsr (if_pos (eqI_p (rfl) (li_0) (by omega))) ?_
            refine rsr (gtP_q (w := some 202) (rk_160 (hR.fr f92)) (rf_56 (hR.fr f92))) ?_
            refine rsr (alL_q (n := 2000) (z := u) (w := (tx i)) (rk_202 (hR.fr f92)) (congrArg iI p92_0) (by omega) (p92_1.2.2.2.1)) ?_
            refine rsr (jn_v) ?_
            refine rsr (if_neg (lgc_n (rfl) (rfl) c72)) ?_
            refine rsr (jv_e) ?_
            try dsimp only
            refine rsr (gtI_q (w := iI ((kr (kd (i + 3))))) (rk_160 (hR.fr f92)) (e92_k1)) ?_
            refine rsr (jn_v) ?_
            refine rsr (if_neg (krI_n (k := 40) (rfl) (li_40) (hS.ok (i + 3) (by omega) (by omega)) (by unfold KdOK sgk; omega) (by decide +kernel) (by omega) (by omega))) ?_
            refine rsr (gtI_q (w := iI ((kr (kd (i + 3))))) (rk_160 (hR.fr f92)) (e92_k1)) ?_
            refine rsr (if_neg (krI_n (k := 91) (rfl) (li_91) (hS.ok (i + 3) (by omega) (by omega)) (by unfold KdOK sgk; omega) (by decide +kernel) (by omega) (by omega))) ?_
            refine rsr (if_pos (lsI_p (li_m1) (li_0) (by omega))) ?_
            refine rsr (vC_e (rk_160 (hR.fr f92))) ?_
            refine RrV (a202 (by omega) (hR.fr f92) ((g92.i _ _ (by decide)).trans (wa_43)) ((g92.i _ _ (by decide)).trans (h49)) ((g92.i _ _ (by decide)).trans (h48)) (congrArg iI p92_0) (li_0) (li_3) (by omega)) fun v Ma93 h93 => ?_
            obtain ⟨g93, e93_k0, p93_0, p93_1⟩ := h93
            have f93 : Fr W_rx Mr Ma93 := Fr.t f92 (Fr.m g93 (by decide))
            refine rsr (cV_e rfl) ?_
            refine rsr (jv_e) ?_
            exact Rs.ok (Or.inl ⟨(i + 3), (e + 1), (u + 1), (uc + 1), (pu G e [3, 0, -2, u, ut, mu, 0]), (ps (pu U u [uc, (V Mr 201 u.toNat), (V Mr 200 u.toNat), (pl i), (pl (i + 2)), (V Mr 206 u.toNat), ut, 0, (V Mc 79 uc.toNat), (V Mc 80 uc.toNat), (pl i)]) u 0 1 e), (pux X u [(tx i), (tx (i + 2))]), f90, f93, ⟨(g90.i _ _ (by decide)).trans (e13_k0), (g90.i _ _ (by decide)).trans (e13_k2), (g90.i _ _ (by decide)).trans (e13_k3), e90_k0, (g90.i _ _ (by decide)).trans ((g13.i _ _ (by decide)).trans (qa_16)), (g90.i _ _ (by decide)).trans (e13_k1)⟩, ⟨(g93.i _ _ (by decide)).trans (e92_k1), (g93.i _ _ (by decide)).trans (e92_k2), (g93.i _ _ (by decide)).trans (e92_k3), (g93.i _ _ (by decide)).trans (e92_k4), e93_k0, (g93.i _ _ (by decide)).trans ((g92.i _ _ (by decide)).trans (wa_51)), (g93.i _ _ (by decide)).trans (e92_k0), (g93.i _ _ (by decide)).trans ((g92.i _ _ (by decide)).trans (wa_50)), (p92_2.fr g93 (by decide) (by decide))⟩, ⟨(CA1.em (caa.fr g13 (by decide)) (by omega) p90_0 rfl), (RA1.em (raa.fr g92 (by decide)) (by omega) p93_0 rfl), ((lca.fr g13 (by decide)).fr g90 (by decide)), ((lra.fr g92 (by decide)).fr g93 (by decide)), (CU.set (b := 0) (CU.add cua (by omega) (by omega) p13_1 rfl rfl) ⟨by omega, by omega⟩ (pu_e rfl) p90_1 g90 (by decide)), (RU.set (RU.add rua (by omega) p92_1 rfl) ⟨by omega, by omega⟩ p93_1 g93 (by decide))⟩, ⟨by omega, by omega, by omega, by omega, by omega, by omega, by omega, by omega, by omega, by omega, by omega, by omega⟩, ⟨by omega, by omega, by omega, by omega, by omega, by omega⟩, (Ag.pu Ag.r (by omega)), (Ag.ps (Ag.pu Ag.r (by omega)) (by omega)), (AgL.pu AgL.r (by omega)), ty88, du89, ((KU.us kua p13_1 g13 (by decide) (by omega)).fr g90 (by decide))⟩)
    ·
      by_cases c94 : ((kd (i + 2))) = 1
      ·
        refine RlI (a104_1 (by omega) hS hC (hTk.fr (WL := W_cp) Fr.r (by decide)) hu1 (by rw [(Fr.r : Fr W_cp Mc _).p]; exact hu2) (Fr.kd (W := W_cp) Fr.r hu3) ((Fr.i (W := W_cp) Fr.r _ _ (inW_hi (by decide) hu1 _)).trans hu4) (qa_12) (qa_13) (qa_10) (qa_19) (by omega)) fun v Ma96 h96 => ?_
        obtain ⟨r95, rfl, g96, e96_k0, e96_k1, e96_k2, e96_k3, e96_k4, p96_0, p96_1⟩ := h96
        have f96 : Fr W_cp Mc Ma96 := Fr.t Fr.r (Fr.m g96 (by decide))
        refine rsl (cI_e rfl) ?_
        refine rsl (gtI_q (w := iI 2) (ck_65 (hC.fr f96)) (e96_k2)) ?_
        refine rsl (jn_v) ?_
        refine rsl (if_neg (eqI_n (rfl) (li_40) (by omega))) ?_
        refine rsl (gtI_q (w := iI 2) (ck_65 (hC.fr f96)) (e96_k2)) ?_
        refine rsl (if_neg (eqI_n (rfl) (li_91) (by omega))) ?_
        refine rsl (vC_e (ck_65 (hC.fr f96))) ?_
        refine RlV (y106 (by omega) (hC.fr f96) (hTk.fr (WL := W_cp) f96 (by decide)) (e96_k0) (e96_k2) (e96_k3) (e96_k4) ((g96.i _ _ (by decide)).trans (qa_9)) ((g96.i _ _ (by decide)).trans (qa_16)) (e96_k1) (congrArg iI p96_0) (li_1) (li_1) (li_3) (by omega)) fun v Ma98 h98 => ?_
        obtain ⟨sz97, sn97, uc97, g98, e98_sz97, e98_sn97, e98_uc97, e98_k0, e98_k1, e98_k2, e98_k3, p98_0, p98_1, p98_2⟩ := h98
        have f98 : Fr W_cp Mc Ma98 := Fr.t f96 (Fr.m g98 (by decide))
        refine rsl (cV_e rfl) ?_
        refine rsl (jv_e) ?_
        refine rsr (vC_e (rk_160 hR)) ?_
        refine RrI (a201_1 (by omega) hS hR (hT.fr (W := W_rx) Fr.r (by decide) (by decide)) (fun i a b => (Fr.lc (W := W_rx) Fr.r _ (by decide) _).trans (hW i a b)) (wa_36) (wa_37) (wa_38) (wa_41) (h49) (wa_53) wa_n (by omega)) fun v Ma100 h100 => ?_
        obtain ⟨r99, rfl, g100, e100_k0, e100_k1, e100_k2, e100_k3, e100_k4, e100_k5, p100_0⟩ := h100
        have f100 : Fr W_rx Mr Ma100 := Fr.t Fr.r (Fr.m g100 (by decide))
        refine rsr (cI_e rfl) ?_
        refine rsr (gtI_q (w := iI 1) (rk_160 (hR.fr f100)) (e100_k4)) ?_
        refine rsr (if_neg (eqI_n (rfl) (li_0) (by omega))) ?_
        exact Rs.ok (Or.inr ⟨1, ((pl (i + 2))), f98, (Fr.m f100 (by decide)), ⟨(i + 2), sz97, sn97, uc97, e98_k0, e98_k1, e98_k2, e98_k3, e98_sz97, e98_sn97, e98_uc97, by omega⟩, ⟨e, s, (u + 1), mu, ut, e100_k4, e100_k5, (g100.i _ _ (by decide)).trans (wa_43), (g100.i _ _ (by decide)).trans (wa_51), e100_k0, (g100.i _ _ (by decide)).trans (h48), (g100.i _ _ (by decide)).trans (h49), by omega⟩⟩)
      ·
        refine RlI (a104_2 (by omega) hS hC (hTk.fr (WL := W_cp) Fr.r (by decide)) hu1 (by rw [(Fr.r : Fr W_cp Mc _).p]; exact hu2) (Fr.kd (W := W_cp) Fr.r hu3) ((Fr.i (W := W_cp) Fr.r _ _ (inW_hi (by decide) hu1 _)).trans hu4) (qa_12) (qa_13) (qa_10) (qa_19) (by omega)) fun v Ma102 h102 => ?_
        obtain ⟨r101, rfl, g102, e102_k0, e102_k1, e102_k2, e102_k3, e102_k4, p102_0, p102_1⟩ := h102
        have f102 : Fr W_cp Mc Ma102 := Fr.t Fr.r (Fr.m g102 (by decide))
        refine rsl (cI_e rfl) ?_
        refine rsl (gtI_q (w := iI 2) (ck_65 (hC.fr f102)) (e102_k2)) ?_
        refine rsl (jn_v) ?_
        refine rsl (if_neg (eqI_n (rfl) (li_40) (by omega))) ?_
        refine rsl (gtI_q (w := iI 2) (ck_65 (hC.fr f102)) (e102_k2)) ?_
        refine rsl (if_neg (eqI_n (rfl) (li_91) (by omega))) ?_
        refine rsl (vC_e (ck_65 (hC.fr f102))) ?_
        refine RlV (y106 (by omega) (hC.fr f102) (hTk.fr (WL := W_cp) f102 (by decide)) (e102_k0) (e102_k2) (e102_k3) (e102_k4) ((g102.i _ _ (by decide)).trans (qa_9)) ((g102.i _ _ (by decide)).trans (qa_16)) (e102_k1) (congrArg iI p102_0) (li_1) (li_1) (li_3) (by omega)) fun v Ma104 h104 => ?_
        obtain ⟨sz103, sn103, uc103, g104, e104_sz103, e104_sn103, e104_uc103, e104_k0, e104_k1, e104_k2, e104_k3, p104_0, p104_1, p104_2⟩ := h104
        have f104 : Fr W_cp Mc Ma104 := Fr.t f102 (Fr.m g104 (by decide))
        refine rsl (cV_e rfl) ?_
        refine rsl (jv_e) ?_
        refine rsr (vC_e (rk_160 hR)) ?_
        refine RrI (a201_2 (by omega) hS hR (hT.fr (W := W_rx) Fr.r (by decide) (by decide)) (fun i a b => (Fr.lc (W := W_rx) Fr.r _ (by decide) _).trans (hW i a b)) (wa_36) (wa_37) (wa_38) (wa_41) (h49) (wa_53) wa_n (by omega)) fun v Ma106 h106 => ?_
        obtain ⟨r105, rfl, g106, e106_k0, e106_k1, e106_k2, e106_k3, e106_k4, e106_k5, p106_0⟩ := h106
        have f106 : Fr W_rx Mr Ma106 := Fr.t Fr.r (Fr.m g106 (by decide))
        refine rsr (cI_e rfl) ?_
        refine rsr (gtI_q (w := iI 2) (rk_160 (hR.fr f106)) (e106_k4)) ?_
        refine rsr (if_neg (eqI_n (rfl) (li_0) (by omega))) ?_
        exact Rs.ok (Or.inr ⟨2, ((pl (i + 2))), f104, (Fr.m f106 (by decide)), ⟨(i + 2), sz103, sn103, uc103, e104_k0, e104_k1, e104_k2, e104_k3, e104_sz103, e104_sn103, e104_uc103, by omega⟩, ⟨e, s, (u + 1), mu, ut, e106_k4, e106_k5, (g106.i _ _ (by decide)).trans (wa_43), (g106.i _ _ (by decide)).trans (wa_51), e106_k0, (g106.i _ _ (by decide)).trans (h48), (g106.i _ _ (by decide)).trans (h49), by omega⟩⟩)
  ·
    have hlt : ∀ j, 0 ≤ j → j < u → U 0 j < uc := fun j a b => (cua.1 j a b).1.2
    refine RlI (a104_u (by omega) hS hC (hTk.fr (WL := W_cp) Fr.r (by decide)) hu1 (by rw [(Fr.r : Fr W_cp Mc _).p]; exact hu2) (Fr.kd (W := W_cp) Fr.r hu3) ((Fr.i (W := W_cp) Fr.r _ _ (inW_hi (by decide) hu1 _)).trans hu4) (qa_12) (qa_13) (qa_10) (qa_19) (by omega)) fun v Ma108 h108 => ?_
    obtain ⟨r107, rfl, g108, e108_k0, e108_k1, e108_k2, e108_k3, p108_0, p108_1⟩ := h108
    have f108 : Fr W_cp Mc Ma108 := Fr.t Fr.r (Fr.m g108 (by decide))
    refine rsl (cI_e rfl) ?_
    refine rsl (gtI_q (w := iI ((kd (i + 1)))) (ck_65 (hC.fr f108)) (e108_k2)) ?_
    refine rsl (jn_v) ?_
    by_cases c109 : ((kd (i + 1))) = 40
    · refine rsl (if_pos (eqI_p (rfl) (li_40) (by omega))) ?_
      refine rsl (vC_e (ck_65 (hC.fr f108))) ?_
      refine rsr (vC_e (rk_160 hR)) ?_
      refine RrI (a201_u (by omega) hS hR (hT.fr (W := W_rx) Fr.r (by decide) (by decide)) (fun i a b => (Fr.lc (W := W_rx) Fr.r _ (by decide) _).trans (hW i a b)) (wa_36) (wa_37) (wa_38) (wa_41) (h49) (wa_53) wa_n (by omega)) fun v Ma111 h111 => ?_
      obtain ⟨r110, rfl, g111, e111_k0, e111_k1, e111_k2, e111_k3, e111_k4, p111_0, p111_1, p111_2⟩ := h111
      have f111 : Fr W_rx Mr Ma111 := Fr.t Fr.r (Fr.m g111 (by decide))
      refine rsr (cI_e rfl) ?_
      refine rsr (gtI_q (w := iI 0) (rk_160 (hR.fr f111)) (e111_k4)) ?_
      refine rsr (if_pos (eqI_p (rfl) (li_0) (by omega))) ?_
      refine rsr (gtP_q (w := some 202) (rk_160 (hR.fr f111)) (rf_56 (hR.fr f111))) ?_
      refine rsr (alL_q (n := 2000) (z := u) (w := (0 : Int64)) (rk_202 (hR.fr f111)) (congrArg iI p111_0) (by omega) (p111_1.2.2.2.1)) ?_
      refine rsr (jn_v) ?_
      by_cases c112 : (0 : Int64) = (0 : Int64)
      ·
        refine rsr (if_pos (lgc_p (rfl) (rfl) c112)) ?_
        refine rsr (gtP_q (w := some 204) (rk_160 (hR.fr f111)) (rf_58 (hR.fr f111))) ?_
        refine rsr (alL_q (n := 2000) (z := u) (w := (tx i)) (rk_204 (hR.fr f111)) (congrArg iI p111_0) (by omega) (p111_1.2.2.2.2.2.1)) ?_
        refine rsr (vC_e (rk_160 (hR.fr f111))) ?_
        obtain ⟨rl, hrl⟩ : ∃ r, LcF Hl s (tx i) r := by have q := LcF_ex (Hl := Hl) (y := (tx i)) s.toNat; rw [show ((s.toNat : Nat) : Int) = s by omega] at q; exact q
        have brl := hrl.bd
        by_cases crl : rl = -1
        ·
          subst crl
          refine RrI (a197 (by omega) (hR.fr f111) ((g111.i _ _ (by decide)).trans (wa_51)) (lra.fr g111 (by decide)) (by omega)) fun v Nl113 hl113 => ?_
          obtain ⟨r9, rfl, hMl, hr9⟩ := hl113
          rw [hMl]
          have q9 := LcF.one hr9 hrl
          rw [q9]
          refine rsr (cI_e rfl) ?_
          refine rsr (jv_e) ?_
          try dsimp only
          refine rsr (gtI_q (w := iI ((kr (kd (i + 1))))) (rk_160 (hR.fr f111)) (e111_k1)) ?_
          refine rsr (jn_v) ?_
          refine rsr (if_pos (krI_p (k := 40) (rfl) (li_40) (by omega) (by decide +kernel))) ?_
          refine rsr (vC_e (rk_160 (hR.fr f111))) ?_
          refine Rb_VV (hCl _ _ (by omega) (by omega) T n m kd pl E tx ua ut mu _ _ G (pu U u [uc, (V Mr 201 u.toNat), (V Mr 200 u.toNat), (V Mr 203 u.toNat), (pl i), (V Mr 206 u.toNat), ut, 0, (V Mc 79 uc.toNat), (V Mc 80 uc.toNat), (V Mc 82 uc.toNat)]) Hl (pux X u [(0 : Int64), (tx i)]) (i + 1) e s (u + 1) (uc + 1) _ _ _ hS (hCx.fr f108 f111) ⟨e108_k0, e108_k2, e108_k3, (g108.i _ _ (by decide)).trans (qa_9), (g108.i _ _ (by decide)).trans (qa_16), e108_k1⟩ ⟨e111_k1, e111_k2, e111_k3, e111_k4, (g111.i _ _ (by decide)).trans (wa_43), (g111.i _ _ (by decide)).trans (wa_51), e111_k0, (g111.i _ _ (by decide)).trans (wa_50), p111_2⟩ ⟨(caa.fr g108 (by decide)), (raa.fr g111 (by decide)), (lca.fr g108 (by decide)), (lra.fr g111 (by decide)), (CU.add cua (by omega) (by omega) p108_1 rfl rfl), (RU.add rua (by omega) p111_1 rfl)⟩ ⟨by omega, by omega, by omega, by omega, by omega, by omega, by omega, by omega, by omega, by omega, by omega, by omega⟩ (x := uc) (by omega) (by omega) (pu_e (by omega)) (pu_e (by omega)) (Or.inl (pux_e (by omega))) (congrArg iI p108_0) (rfl) (cvI (congrArg iI p111_0) (by omega))) fun v Mx114 w Nx114 hx114 => ?_
          rcases hx114 with ⟨i114, e114, u114, uc114, G114, U114, X114, fl114, fr114, sc114, sr114, rw114, bd114, mv114, ag114, au114, ax114, tp114, dp114, kv114⟩ | ⟨F114, P114, fl114, fr114, tc114, tr114⟩
          ·
            have FL114 : Fr W_cp Mc Mx114 := Fr.t f108 fl114
            have FR114 : Fr W_rx Mr Nx114 := Fr.t f111 fr114
            obtain ⟨bb114_0, bb114_1, bb114_2, bb114_3, bb114_4, bb114_5, bb114_6, bb114_7, bb114_8, bb114_9, bb114_10, bb114_11⟩ := bd114
            obtain ⟨q114_12, q114_13, q114_10, q114_9, q114_16, q114_19⟩ := sc114
            obtain ⟨w114_36, w114_37, w114_38, w114_41, w114_43, w114_51, w114_53, w114_50, w114_n⟩ := sr114
            obtain ⟨ca114, ra114, lc114, lr114, cu114, ru114⟩ := rw114
            have hk115 := (hS.ok i114 (by omega) (by omega)).r
            have ku114 := KU.t (KU.us kua p108_1 g108 (by decide) (by omega)) kv114 (by omega)
            have ty116 := Tye.t (d3 := 1) ty2 ag114 tp114 (by omega)
            refine rsl (cV_e rfl) ?_
            refine rsr (cV_e rfl) ?_
            refine rsl (jv_e) ?_
            refine rsr (jv_e) ?_
            exact Rs.ok (Or.inl ⟨i114, e114, u114, uc114, G114, U114, X114, FL114, FR114, ⟨q114_12, q114_13, q114_10, q114_9, q114_16, q114_19⟩, ⟨w114_36, w114_37, w114_38, w114_41, w114_43, w114_51, w114_53, w114_50, w114_n⟩, ⟨ca114, ra114, lc114, lr114, cu114, ru114⟩, ⟨by omega, by omega, by omega, by omega, by omega, by omega, by omega, by omega, by omega, by omega, by omega, by omega⟩, ⟨by omega, by omega, by omega, by omega, by omega, by omega⟩, (Ag.t Ag.r ag114 (by omega)), (Ag.t (Ag.pu Ag.r (by omega)) au114 (by omega)), (AgL.t (AgL.pu AgL.r (by omega)) ax114 (by omega)), ty116, dp114, ku114⟩)
          ·
            have FL114 : Fr W_cp Mc Mx114 := Fr.t f108 fl114
            have FR114 : Fr W_rp Mr Nx114 := Fr.t (Fr.m f111 W_rx_p) fr114
            obtain ⟨ti114, tz114, tn114, tu114, t13114, t10114, t11114, t12114, t9114, t16114, t19114, tb114⟩ := tc114
            obtain ⟨re114, rn114, ru114, rm114, rt114, u41114, u42114, u43114, u51114, u53114, u48114, u49114, ub114⟩ := tr114
            refine rsl (cV_e rfl) ?_
            refine rsr (cV_e rfl) ?_
            refine rsl (jv_e) ?_
            refine rsr (jv_e) ?_
            exact Rs.ok (Or.inr ⟨F114, P114, FL114, FR114, ⟨ti114, tz114, tn114, tu114, t13114, t10114, t11114, t12114, t9114, t16114, t19114, by omega⟩, ⟨re114, rn114, ru114, rm114, rt114, u41114, u42114, u43114, u51114, u53114, u48114, u49114, by omega⟩⟩)
        ·
          refine RrI (a197 (by omega) (hR.fr f111) ((g111.i _ _ (by decide)).trans (wa_51)) (lra.fr g111 (by decide)) (by omega)) fun v Nl113 hl113 => ?_
          obtain ⟨r9, rfl, hMl, hr9⟩ := hl113
          rw [hMl]
          have q9 := LcF.one hr9 hrl
          rw [q9]
          refine rsr (cI_e rfl) ?_
          refine rsr (jv_e) ?_
          try dsimp only
          refine rsr (gtI_q (w := iI ((kr (kd (i + 1))))) (rk_160 (hR.fr f111)) (e111_k1)) ?_
          refine rsr (jn_v) ?_
          refine rsr (if_pos (krI_p (k := 40) (rfl) (li_40) (by omega) (by decide +kernel))) ?_
          refine rsr (vC_e (rk_160 (hR.fr f111))) ?_
          refine Rb_VV (hCl _ _ (by omega) (by omega) T n m kd pl E tx ua ut mu _ _ G (pu U u [uc, (V Mr 201 u.toNat), (V Mr 200 u.toNat), (V Mr 203 u.toNat), (pl i), (V Mr 206 u.toNat), ut, 0, (V Mc 79 uc.toNat), (V Mc 80 uc.toNat), (V Mc 82 uc.toNat)]) Hl (pux X u [(0 : Int64), (tx i)]) (i + 1) e s (u + 1) (uc + 1) _ _ _ hS (hCx.fr f108 f111) ⟨e108_k0, e108_k2, e108_k3, (g108.i _ _ (by decide)).trans (qa_9), (g108.i _ _ (by decide)).trans (qa_16), e108_k1⟩ ⟨e111_k1, e111_k2, e111_k3, e111_k4, (g111.i _ _ (by decide)).trans (wa_43), (g111.i _ _ (by decide)).trans (wa_51), e111_k0, (g111.i _ _ (by decide)).trans (wa_50), p111_2⟩ ⟨(caa.fr g108 (by decide)), (raa.fr g111 (by decide)), (lca.fr g108 (by decide)), (lra.fr g111 (by decide)), (CU.add cua (by omega) (by omega) p108_1 rfl rfl), (RU.add rua (by omega) p111_1 rfl)⟩ ⟨by omega, by omega, by omega, by omega, by omega, by omega, by omega, by omega, by omega, by omega, by omega, by omega⟩ (x := uc) (by omega) (by omega) (pu_e (by omega)) (pu_e (by omega)) (Or.inl (pux_e (by omega))) (congrArg iI p108_0) (rfl) (cvI (congrArg iI p111_0) (by omega))) fun v Mx117 w Nx117 hx117 => ?_
          rcases hx117 with ⟨i117, e117, u117, uc117, G117, U117, X117, fl117, fr117, sc117, sr117, rw117, bd117, mv117, ag117, au117, ax117, tp117, dp117, kv117⟩ | ⟨F117, P117, fl117, fr117, tc117, tr117⟩
          ·
            have FL117 : Fr W_cp Mc Mx117 := Fr.t f108 fl117
            have FR117 : Fr W_rx Mr Nx117 := Fr.t f111 fr117
            obtain ⟨bb117_0, bb117_1, bb117_2, bb117_3, bb117_4, bb117_5, bb117_6, bb117_7, bb117_8, bb117_9, bb117_10, bb117_11⟩ := bd117
            obtain ⟨q117_12, q117_13, q117_10, q117_9, q117_16, q117_19⟩ := sc117
            obtain ⟨w117_36, w117_37, w117_38, w117_41, w117_43, w117_51, w117_53, w117_50, w117_n⟩ := sr117
            obtain ⟨ca117, ra117, lc117, lr117, cu117, ru117⟩ := rw117
            have hk118 := (hS.ok i117 (by omega) (by omega)).r
            have ku117 := KU.t (KU.us kua p108_1 g108 (by decide) (by omega)) kv117 (by omega)
            have ty119 := Tye.t (d3 := 1) ty2 ag117 tp117 (by omega)
            refine rsl (cV_e rfl) ?_
            refine rsr (cV_e rfl) ?_
            refine rsl (jv_e) ?_
            refine rsr (jv_e) ?_
            exact Rs.ok (Or.inl ⟨i117, e117, u117, uc117, G117, U117, X117, FL117, FR117, ⟨q117_12, q117_13, q117_10, q117_9, q117_16, q117_19⟩, ⟨w117_36, w117_37, w117_38, w117_41, w117_43, w117_51, w117_53, w117_50, w117_n⟩, ⟨ca117, ra117, lc117, lr117, cu117, ru117⟩, ⟨by omega, by omega, by omega, by omega, by omega, by omega, by omega, by omega, by omega, by omega, by omega, by omega⟩, ⟨by omega, by omega, by omega, by omega, by omega, by omega⟩, (Ag.t Ag.r ag117 (by omega)), (Ag.t (Ag.pu Ag.r (by omega)) au117 (by omega)), (AgL.t (AgL.pu AgL.r (by omega)) ax117 (by omega)), ty119, dp117, ku117⟩)
          ·
            have FL117 : Fr W_cp Mc Mx117 := Fr.t f108 fl117
            have FR117 : Fr W_rp Mr Nx117 := Fr.t (Fr.m f111 W_rx_p) fr117
            obtain ⟨ti117, tz117, tn117, tu117, t13117, t10117, t11117, t12117, t9117, t16117, t19117, tb117⟩ := tc117
            obtain ⟨re117, rn117, ru117, rm117, rt117, u41117, u42117, u43117, u51117, u53117, u48117, u49117, ub117⟩ := tr117
            refine rsl (cV_e rfl) ?_
            refine rsr (cV_e rfl) ?_
            refine rsl (jv_e) ?_
            refine rsr (jv_e) ?_
            exact Rs.ok (Or.inr ⟨F117, P117, FL117, FR117, ⟨ti117, tz117, tn117, tu117, t13117, t10117, t11117, t12117, t9117, t16117, t19117, by omega⟩, ⟨re117, rn117, ru117, rm117, rt117, u41117, u42117, u43117, u51117, u53117, u48117, u49117, by omega⟩⟩)
      ·
        refine rsr (if_neg (lgc_n (rfl) (rfl) c112)) ?_
        refine rsr (jv_e) ?_
        try dsimp only
        refine rsr (gtI_q (w := iI ((kr (kd (i + 1))))) (rk_160 (hR.fr f111)) (e111_k1)) ?_
        refine rsr (jn_v) ?_
        refine rsr (if_pos (krI_p (k := 40) (rfl) (li_40) (by omega) (by decide +kernel))) ?_
        refine rsr (vC_e (rk_160 (hR.fr f111))) ?_
        refine Rb_VV (hCl _ _ (by omega) (by omega) T n m kd pl E tx ua ut mu _ _ G (pu U u [uc, (V Mr 201 u.toNat), (V Mr 200 u.toNat), (V Mr 203 u.toNat), (pl i), (V Mr 206 u.toNat), ut, 0, (V Mc 79 uc.toNat), (V Mc 80 uc.toNat), (V Mc 82 uc.toNat)]) Hl (pux X u [(0 : Int64), (tx i)]) (i + 1) e s (u + 1) (uc + 1) _ _ _ hS (hCx.fr f108 f111) ⟨e108_k0, e108_k2, e108_k3, (g108.i _ _ (by decide)).trans (qa_9), (g108.i _ _ (by decide)).trans (qa_16), e108_k1⟩ ⟨e111_k1, e111_k2, e111_k3, e111_k4, (g111.i _ _ (by decide)).trans (wa_43), (g111.i _ _ (by decide)).trans (wa_51), e111_k0, (g111.i _ _ (by decide)).trans (wa_50), p111_2⟩ ⟨(caa.fr g108 (by decide)), (raa.fr g111 (by decide)), (lca.fr g108 (by decide)), (lra.fr g111 (by decide)), (CU.add cua (by omega) (by omega) p108_1 rfl rfl), (RU.add rua (by omega) p111_1 rfl)⟩ ⟨by omega, by omega, by omega, by omega, by omega, by omega, by omega, by omega, by omega, by omega, by omega, by omega⟩ (x := uc) (by omega) (by omega) (pu_e (by omega)) (pu_e (by omega)) (Or.inl (pux_e (by omega))) (congrArg iI p108_0) (rfl) (cvI (congrArg iI p111_0) (by omega))) fun v Mx120 w Nx120 hx120 => ?_
        rcases hx120 with ⟨i120, e120, u120, uc120, G120, U120, X120, fl120, fr120, sc120, sr120, rw120, bd120, mv120, ag120, au120, ax120, tp120, dp120, kv120⟩ | ⟨F120, P120, fl120, fr120, tc120, tr120⟩
        ·
          have FL120 : Fr W_cp Mc Mx120 := Fr.t f108 fl120
          have FR120 : Fr W_rx Mr Nx120 := Fr.t f111 fr120
          obtain ⟨bb120_0, bb120_1, bb120_2, bb120_3, bb120_4, bb120_5, bb120_6, bb120_7, bb120_8, bb120_9, bb120_10, bb120_11⟩ := bd120
          obtain ⟨q120_12, q120_13, q120_10, q120_9, q120_16, q120_19⟩ := sc120
          obtain ⟨w120_36, w120_37, w120_38, w120_41, w120_43, w120_51, w120_53, w120_50, w120_n⟩ := sr120
          obtain ⟨ca120, ra120, lc120, lr120, cu120, ru120⟩ := rw120
          have hk121 := (hS.ok i120 (by omega) (by omega)).r
          have ku120 := KU.t (KU.us kua p108_1 g108 (by decide) (by omega)) kv120 (by omega)
          have ty122 := Tye.t (d3 := 1) ty2 ag120 tp120 (by omega)
          refine rsl (cV_e rfl) ?_
          refine rsr (cV_e rfl) ?_
          refine rsl (jv_e) ?_
          refine rsr (jv_e) ?_
          exact Rs.ok (Or.inl ⟨i120, e120, u120, uc120, G120, U120, X120, FL120, FR120, ⟨q120_12, q120_13, q120_10, q120_9, q120_16, q120_19⟩, ⟨w120_36, w120_37, w120_38, w120_41, w120_43, w120_51, w120_53, w120_50, w120_n⟩, ⟨ca120, ra120, lc120, lr120, cu120, ru120⟩, ⟨by omega, by omega, by omega, by omega, by omega, by omega, by omega, by omega, by omega, by omega, by omega, by omega⟩, ⟨by omega, by omega, by omega, by omega, by omega, by omega⟩, (Ag.t Ag.r ag120 (by omega)), (Ag.t (Ag.pu Ag.r (by omega)) au120 (by omega)), (AgL.t (AgL.pu AgL.r (by omega)) ax120 (by omega)), ty122, dp120, ku120⟩)
        ·
          have FL120 : Fr W_cp Mc Mx120 := Fr.t f108 fl120
          have FR120 : Fr W_rp Mr Nx120 := Fr.t (Fr.m f111 W_rx_p) fr120
          obtain ⟨ti120, tz120, tn120, tu120, t13120, t10120, t11120, t12120, t9120, t16120, t19120, tb120⟩ := tc120
          obtain ⟨re120, rn120, ru120, rm120, rt120, u41120, u42120, u43120, u51120, u53120, u48120, u49120, ub120⟩ := tr120
          refine rsl (cV_e rfl) ?_
          refine rsr (cV_e rfl) ?_
          refine rsl (jv_e) ?_
          refine rsr (jv_e) ?_
          exact Rs.ok (Or.inr ⟨F120, P120, FL120, FR120, ⟨ti120, tz120, tn120, tu120, t13120, t10120, t11120, t12120, t9120, t16120, t19120, by omega⟩, ⟨re120, rn120, ru120, rm120, rt120, u41120, u42120, u43120, u51120, u53120, u48120, u49120, by omega⟩⟩)
    · refine rsl (if_neg (eqI_n (rfl) (li_40) (by omega))) ?_
      refine rsl (gtI_q (w := iI ((kd (i + 1)))) (ck_65 (hC.fr f108)) (e108_k2)) ?_
      by_cases c123 : ((kd (i + 1))) = 91
      · refine rsl (if_pos (eqI_p (rfl) (li_91) (by omega))) ?_
        refine rsl (vC_e (ck_65 (hC.fr f108))) ?_
        refine rsr (vC_e (rk_160 hR)) ?_
        refine RrI (a201_u (by omega) hS hR (hT.fr (W := W_rx) Fr.r (by decide) (by decide)) (fun i a b => (Fr.lc (W := W_rx) Fr.r _ (by decide) _).trans (hW i a b)) (wa_36) (wa_37) (wa_38) (wa_41) (h49) (wa_53) wa_n (by omega)) fun v Ma125 h125 => ?_
        obtain ⟨r124, rfl, g125, e125_k0, e125_k1, e125_k2, e125_k3, e125_k4, p125_0, p125_1, p125_2⟩ := h125
        have f125 : Fr W_rx Mr Ma125 := Fr.t Fr.r (Fr.m g125 (by decide))
        refine rsr (cI_e rfl) ?_
        refine rsr (gtI_q (w := iI 0) (rk_160 (hR.fr f125)) (e125_k4)) ?_
        refine rsr (if_pos (eqI_p (rfl) (li_0) (by omega))) ?_
        refine rsr (gtP_q (w := some 202) (rk_160 (hR.fr f125)) (rf_56 (hR.fr f125))) ?_
        refine rsr (alL_q (n := 2000) (z := u) (w := (0 : Int64)) (rk_202 (hR.fr f125)) (congrArg iI p125_0) (by omega) (p125_1.2.2.2.1)) ?_
        refine rsr (jn_v) ?_
        by_cases c126 : (0 : Int64) = (0 : Int64)
        ·
          refine rsr (if_pos (lgc_p (rfl) (rfl) c126)) ?_
          refine rsr (gtP_q (w := some 204) (rk_160 (hR.fr f125)) (rf_58 (hR.fr f125))) ?_
          refine rsr (alL_q (n := 2000) (z := u) (w := (tx i)) (rk_204 (hR.fr f125)) (congrArg iI p125_0) (by omega) (p125_1.2.2.2.2.2.1)) ?_
          refine rsr (vC_e (rk_160 (hR.fr f125))) ?_
          obtain ⟨rl, hrl⟩ : ∃ r, LcF Hl s (tx i) r := by have q := LcF_ex (Hl := Hl) (y := (tx i)) s.toNat; rw [show ((s.toNat : Nat) : Int) = s by omega] at q; exact q
          have brl := hrl.bd
          by_cases crl : rl = -1
          ·
            subst crl
            refine RrI (a197 (by omega) (hR.fr f125) ((g125.i _ _ (by decide)).trans (wa_51)) (lra.fr g125 (by decide)) (by omega)) fun v Nl127 hl127 => ?_
            obtain ⟨r9, rfl, hMl, hr9⟩ := hl127
            rw [hMl]
            have q9 := LcF.one hr9 hrl
            rw [q9]
            refine rsr (cI_e rfl) ?_
            refine rsr (jv_e) ?_
            try dsimp only
            refine rsr (gtI_q (w := iI ((kr (kd (i + 1))))) (rk_160 (hR.fr f125)) (e125_k1)) ?_
            refine rsr (jn_v) ?_
            refine rsr (if_neg (krI_n (k := 40) (rfl) (li_40) (hS.ok (i + 1) (by omega) (by omega)) (by unfold KdOK sgk; omega) (by decide +kernel) (by omega) (by omega))) ?_
            refine rsr (gtI_q (w := iI ((kr (kd (i + 1))))) (rk_160 (hR.fr f125)) (e125_k1)) ?_
            refine rsr (if_pos (krI_p (k := 91) (rfl) (li_91) (by omega) (by decide +kernel))) ?_
            refine rsr (vC_e (rk_160 (hR.fr f125))) ?_
            refine Rb_VV (hX _ _ (by omega) (by omega) T n m kd pl E tx ua ut mu _ _ G (pu U u [uc, (V Mr 201 u.toNat), (V Mr 200 u.toNat), (V Mr 203 u.toNat), (pl i), (V Mr 206 u.toNat), ut, 0, (V Mc 79 uc.toNat), (V Mc 80 uc.toNat), (V Mc 82 uc.toNat)]) Hl (pux X u [(0 : Int64), (tx i)]) (i + 1) e s (u + 1) (uc + 1) _ hS (hCx.fr f108 f125) ⟨e108_k0, e108_k2, e108_k3, (g108.i _ _ (by decide)).trans (qa_9), (g108.i _ _ (by decide)).trans (qa_16), e108_k1⟩ ⟨e125_k1, e125_k2, e125_k3, e125_k4, (g125.i _ _ (by decide)).trans (wa_43), (g125.i _ _ (by decide)).trans (wa_51), e125_k0, (g125.i _ _ (by decide)).trans (wa_50), p125_2⟩ ⟨(caa.fr g108 (by decide)), (raa.fr g125 (by decide)), (lca.fr g108 (by decide)), (lra.fr g125 (by decide)), (CU.add cua (by omega) (by omega) p108_1 rfl rfl), (RU.add rua (by omega) p125_1 rfl)⟩ ⟨by omega, by omega, by omega, by omega, by omega, by omega, by omega, by omega, by omega, by omega, by omega, by omega⟩ (by omega) (vs1 (rfl))) fun v Mx128 w Nx128 hx128 => ?_
            rcases hx128 with ⟨i128, e128, u128, uc128, G128, U128, X128, fl128, fr128, sc128, sr128, rw128, bd128, mv128, ag128, au128, ax128, tp128, dp128, kv128⟩ | ⟨F128, P128, fl128, fr128, tc128, tr128⟩
            ·
              have FL128 : Fr W_cp Mc Mx128 := Fr.t f108 fl128
              have FR128 : Fr W_rx Mr Nx128 := Fr.t f125 fr128
              obtain ⟨bb128_0, bb128_1, bb128_2, bb128_3, bb128_4, bb128_5, bb128_6, bb128_7, bb128_8, bb128_9, bb128_10, bb128_11⟩ := bd128
              obtain ⟨q128_12, q128_13, q128_10, q128_9, q128_16, q128_19⟩ := sc128
              obtain ⟨w128_36, w128_37, w128_38, w128_41, w128_43, w128_51, w128_53, w128_50, w128_n⟩ := sr128
              obtain ⟨ca128, ra128, lc128, lr128, cu128, ru128⟩ := rw128
              have hk129 := (hS.ok i128 (by omega) (by omega)).r
              have ku128 := KU.t (KU.us kua p108_1 g108 (by decide) (by omega)) kv128 (by omega)
              have ty130 := Tye.t (d3 := 1) ty2 ag128 tp128 (by omega)
              have du131 := DU.t (DU.r (ut := ut) (mu := mu) (c := uc) (G := G) (a := e)) ag128 au128 ax128 dp128 (by omega)
              refine rsl (cV_e rfl) ?_
              refine rsr (cV_e rfl) ?_
              refine rsl (vC_e (ck_65 (hC.fr FL128))) ?_
              have ty133 := Tye.em (d := 1) (d' := 1) (q := (e128 + 1)) (n1 := 0) (ut := ut) (mu := mu) (l := []) ty130 (Or.inr (Or.inr (Or.inr (Or.inr (Or.inl (by omega))))) : Eff 5 u 0 1 s 1 s) (by omega) ⟨by omega, by omega⟩ (by omega)
              have du134 := DU.set (b1 := 2) (p := 3) (q := (e128 + 1)) (u := u) (o := 5) (n1 := 0) (p1 := -2) (n3 := u) (l := []) (g := 0) du131 (by omega) (by omega) (by omega) (by omega) (fun q => absurd q (by decide)) (Int.le_of_eq (Eq.symm ((au128 0 _ (by omega)).trans (pu_e rfl)))) ((au128 6 _ (by omega)).trans (pu_e (by omega))) (U3tr (ax128 0 _ (by omega)) (au128 3 _ (by omega)) (au128 10 _ (by omega)) (Or.inl (pux_e (by omega)))) (by omega) (by omega)
              refine RlV (a105 (by omega) (hC.fr FL128) (q128_9) (congrArg iI p108_0) (li_3) (li_5) (by omega)) fun v Ma135 h135 => ?_
              obtain ⟨g135, e135_k0, p135_0, p135_1⟩ := h135
              have f135 : Fr W_cp Mc Ma135 := Fr.t FL128 (Fr.m g135 (by decide))
              refine rsl (cV_e rfl) ?_
              refine rsl (jv_e) ?_
              refine rsr (vC_e (rk_160 (hR.fr FR128))) ?_
              refine RrV (a202 (by omega) (hR.fr FR128) (w128_43) ((FR128.i _ _ (by decide)).trans h49) ((FR128.i _ _ (by decide)).trans h48) (congrArg iI p125_0) (li_2) (li_5) (by omega)) fun v Ma136 h136 => ?_
              obtain ⟨g136, e136_k0, p136_0, p136_1⟩ := h136
              have f136 : Fr W_rx Mr Ma136 := Fr.t FR128 (Fr.m g136 (by decide))
              refine rsr (cV_e rfl) ?_
              refine rsr (jv_e) ?_
              exact Rs.ok (Or.inl ⟨i128, (e128 + 1), u128, uc128, (pu G128 e128 [5, 0, -2, u, ut, mu, 0]), (ps U128 u 2 3 e128), X128, f135, f136, ⟨(g135.i _ _ (by decide)).trans (q128_12), (g135.i _ _ (by decide)).trans (q128_13), (g135.i _ _ (by decide)).trans (q128_10), e135_k0, (g135.i _ _ (by decide)).trans (q128_16), (g135.i _ _ (by decide)).trans (q128_19)⟩, ⟨(g136.i _ _ (by decide)).trans (w128_36), (g136.i _ _ (by decide)).trans (w128_37), (g136.i _ _ (by decide)).trans (w128_38), (g136.i _ _ (by decide)).trans (w128_41), e136_k0, (g136.i _ _ (by decide)).trans (w128_51), (g136.i _ _ (by decide)).trans (w128_53), (g136.i _ _ (by decide)).trans (w128_50), (w128_n.fr g136 (by decide) (by decide))⟩, ⟨(CA1.em ca128 (by omega) p135_0 rfl), (RA1.em ra128 (by omega) p136_0 rfl), (lc128.fr g135 (by decide)), (lr128.fr g136 (by decide)), (CU.set (b := 2) cu128 ⟨by omega, by omega⟩ ((au128 0 _ (by omega)).trans (pu_e rfl)) p135_1 g135 (by decide)), (RU.set ru128 ⟨by omega, by omega⟩ p136_1 g136 (by decide))⟩, ⟨by omega, by omega, by omega, by omega, by omega, by omega, by omega, by omega, by omega, by omega, by omega, by omega⟩, ⟨by omega, by omega, by omega, by omega, by omega, by omega⟩, (Ag.pu (Ag.t Ag.r ag128 (by omega)) (by omega)), (Ag.ps (Ag.t (Ag.pu Ag.r (by omega)) au128 (by omega)) (by omega)), (AgL.t (AgL.pu AgL.r (by omega)) ax128 (by omega)), ty133, du134, (ku128.fr g135 (by decide))⟩)
            ·
              have FL128 : Fr W_cp Mc Mx128 := Fr.t f108 fl128
              have FR128 : Fr W_rp Mr Nx128 := Fr.t (Fr.m f125 W_rx_p) fr128
              obtain ⟨ti128, tz128, tn128, tu128, t13128, t10128, t11128, t12128, t9128, t16128, t19128, tb128⟩ := tc128
              obtain ⟨re128, rn128, ru128, rm128, rt128, u41128, u42128, u43128, u51128, u53128, u48128, u49128, ub128⟩ := tr128
              refine rsl (cV_e rfl) ?_
              refine rsr (cV_e rfl) ?_
              refine rsl (vC_e (ck_65 (hC.fr FL128))) ?_
              refine RlV (y105 (by omega) (hC.fr FL128) (hTk.fr (WL := W_cp) FL128 (by decide)) (t12128) (t13128) (t10128) (t11128) (t9128) (t16128) (t19128) (congrArg iI p108_0) (li_3) (li_5) (by omega)) fun v Ma138 h138 => ?_
              obtain ⟨sz137, sn137, uc137, g138, e138_sz137, e138_sn137, e138_uc137, e138_k0, e138_k1, e138_k2, e138_k3, p138_0, p138_1, p138_2⟩ := h138
              have f138 : Fr W_cp Mc Ma138 := Fr.t FL128 (Fr.m g138 (by decide))
              refine rsl (cV_e rfl) ?_
              refine rsl (jv_e) ?_
              refine rsr (vC_e (rk_160 (hR.fr FR128))) ?_
              refine RrV (x202_s (by omega) (hR.fr FR128) (u41128) (u42128) (u43128) (u51128) (u53128) (u48128) (u49128) (congrArg iI p125_0) (li_2) (li_5) (by omega)) fun v Ma140 h140 => ?_
              obtain ⟨em139, g140, e140_em139, e140_k0, e140_k1, e140_k2, e140_k3, e140_k4, p140_0⟩ := h140
              have f140 : Fr W_rp Mr Ma140 := Fr.t FR128 (Fr.m g140 (by decide))
              refine rsr (cV_e rfl) ?_
              refine rsr (jv_e) ?_
              exact Rs.ok (Or.inr ⟨F128, P128, f138, f140, ⟨ti128, sz137, sn137, uc137, e138_k0, e138_k1, e138_k2, e138_k3, e138_sz137, e138_sn137, e138_uc137, by omega⟩, ⟨em139, rn128, ru128, rm128, rt128, e140_k0, e140_k1, e140_em139, e140_k2, e140_k3, e140_k4, (g140.i _ _ (by decide)).trans (u49128), by omega⟩⟩)
          ·
            refine RrI (a197 (by omega) (hR.fr f125) ((g125.i _ _ (by decide)).trans (wa_51)) (lra.fr g125 (by decide)) (by omega)) fun v Nl127 hl127 => ?_
            obtain ⟨r9, rfl, hMl, hr9⟩ := hl127
            rw [hMl]
            have q9 := LcF.one hr9 hrl
            rw [q9]
            refine rsr (cI_e rfl) ?_
            refine rsr (jv_e) ?_
            try dsimp only
            refine rsr (gtI_q (w := iI ((kr (kd (i + 1))))) (rk_160 (hR.fr f125)) (e125_k1)) ?_
            refine rsr (jn_v) ?_
            refine rsr (if_neg (krI_n (k := 40) (rfl) (li_40) (hS.ok (i + 1) (by omega) (by omega)) (by unfold KdOK sgk; omega) (by decide +kernel) (by omega) (by omega))) ?_
            refine rsr (gtI_q (w := iI ((kr (kd (i + 1))))) (rk_160 (hR.fr f125)) (e125_k1)) ?_
            refine rsr (if_pos (krI_p (k := 91) (rfl) (li_91) (by omega) (by decide +kernel))) ?_
            refine rsr (vC_e (rk_160 (hR.fr f125))) ?_
            refine Rb_VV (hX _ _ (by omega) (by omega) T n m kd pl E tx ua ut mu _ _ G (pu U u [uc, (V Mr 201 u.toNat), (V Mr 200 u.toNat), (V Mr 203 u.toNat), (pl i), (V Mr 206 u.toNat), ut, 0, (V Mc 79 uc.toNat), (V Mc 80 uc.toNat), (V Mc 82 uc.toNat)]) Hl (pux X u [(0 : Int64), (tx i)]) (i + 1) e s (u + 1) (uc + 1) _ hS (hCx.fr f108 f125) ⟨e108_k0, e108_k2, e108_k3, (g108.i _ _ (by decide)).trans (qa_9), (g108.i _ _ (by decide)).trans (qa_16), e108_k1⟩ ⟨e125_k1, e125_k2, e125_k3, e125_k4, (g125.i _ _ (by decide)).trans (wa_43), (g125.i _ _ (by decide)).trans (wa_51), e125_k0, (g125.i _ _ (by decide)).trans (wa_50), p125_2⟩ ⟨(caa.fr g108 (by decide)), (raa.fr g125 (by decide)), (lca.fr g108 (by decide)), (lra.fr g125 (by decide)), (CU.add cua (by omega) (by omega) p108_1 rfl rfl), (RU.add rua (by omega) p125_1 rfl)⟩ ⟨by omega, by omega, by omega, by omega, by omega, by omega, by omega, by omega, by omega, by omega, by omega, by omega⟩ (by omega) (vs1 (rfl))) fun v Mx141 w Nx141 hx141 => ?_
            rcases hx141 with ⟨i141, e141, u141, uc141, G141, U141, X141, fl141, fr141, sc141, sr141, rw141, bd141, mv141, ag141, au141, ax141, tp141, dp141, kv141⟩ | ⟨F141, P141, fl141, fr141, tc141, tr141⟩
            ·
              have FL141 : Fr W_cp Mc Mx141 := Fr.t f108 fl141
              have FR141 : Fr W_rx Mr Nx141 := Fr.t f125 fr141
              obtain ⟨bb141_0, bb141_1, bb141_2, bb141_3, bb141_4, bb141_5, bb141_6, bb141_7, bb141_8, bb141_9, bb141_10, bb141_11⟩ := bd141
              obtain ⟨q141_12, q141_13, q141_10, q141_9, q141_16, q141_19⟩ := sc141
              obtain ⟨w141_36, w141_37, w141_38, w141_41, w141_43, w141_51, w141_53, w141_50, w141_n⟩ := sr141
              obtain ⟨ca141, ra141, lc141, lr141, cu141, ru141⟩ := rw141
              have hk142 := (hS.ok i141 (by omega) (by omega)).r
              have ku141 := KU.t (KU.us kua p108_1 g108 (by decide) (by omega)) kv141 (by omega)
              have ty143 := Tye.t (d3 := 1) ty2 ag141 tp141 (by omega)
              have du144 := DU.t (DU.r (ut := ut) (mu := mu) (c := uc) (G := G) (a := e)) ag141 au141 ax141 dp141 (by omega)
              refine rsl (cV_e rfl) ?_
              refine rsr (cV_e rfl) ?_
              refine rsl (vC_e (ck_65 (hC.fr FL141))) ?_
              have ty146 := Tye.em (d := 1) (d' := 1) (q := (e141 + 1)) (n1 := 0) (ut := ut) (mu := mu) (l := []) ty143 (Or.inr (Or.inr (Or.inr (Or.inr (Or.inl (by omega))))) : Eff 5 u 0 1 s 1 s) (by omega) ⟨by omega, by omega⟩ (by omega)
              have du147 := DU.set (b1 := 2) (p := 3) (q := (e141 + 1)) (u := u) (o := 5) (n1 := 0) (p1 := -2) (n3 := u) (l := []) (g := 0) du144 (by omega) (by omega) (by omega) (by omega) (fun q => absurd q (by decide)) (Int.le_of_eq (Eq.symm ((au141 0 _ (by omega)).trans (pu_e rfl)))) ((au141 6 _ (by omega)).trans (pu_e (by omega))) (U3tr (ax141 0 _ (by omega)) (au141 3 _ (by omega)) (au141 10 _ (by omega)) (Or.inl (pux_e (by omega)))) (by omega) (by omega)
              refine RlV (a105 (by omega) (hC.fr FL141) (q141_9) (congrArg iI p108_0) (li_3) (li_5) (by omega)) fun v Ma148 h148 => ?_
              obtain ⟨g148, e148_k0, p148_0, p148_1⟩ := h148
              have f148 : Fr W_cp Mc Ma148 := Fr.t FL141 (Fr.m g148 (by decide))
              refine rsl (cV_e rfl) ?_
              refine rsl (jv_e) ?_
              refine rsr (vC_e (rk_160 (hR.fr FR141))) ?_
              refine RrV (a202 (by omega) (hR.fr FR141) (w141_43) ((FR141.i _ _ (by decide)).trans h49) ((FR141.i _ _ (by decide)).trans h48) (congrArg iI p125_0) (li_2) (li_5) (by omega)) fun v Ma149 h149 => ?_
              obtain ⟨g149, e149_k0, p149_0, p149_1⟩ := h149
              have f149 : Fr W_rx Mr Ma149 := Fr.t FR141 (Fr.m g149 (by decide))
              refine rsr (cV_e rfl) ?_
              refine rsr (jv_e) ?_
              exact Rs.ok (Or.inl ⟨i141, (e141 + 1), u141, uc141, (pu G141 e141 [5, 0, -2, u, ut, mu, 0]), (ps U141 u 2 3 e141), X141, f148, f149, ⟨(g148.i _ _ (by decide)).trans (q141_12), (g148.i _ _ (by decide)).trans (q141_13), (g148.i _ _ (by decide)).trans (q141_10), e148_k0, (g148.i _ _ (by decide)).trans (q141_16), (g148.i _ _ (by decide)).trans (q141_19)⟩, ⟨(g149.i _ _ (by decide)).trans (w141_36), (g149.i _ _ (by decide)).trans (w141_37), (g149.i _ _ (by decide)).trans (w141_38), (g149.i _ _ (by decide)).trans (w141_41), e149_k0, (g149.i _ _ (by decide)).trans (w141_51), (g149.i _ _ (by decide)).trans (w141_53), (g149.i _ _ (by decide)).trans (w141_50), (w141_n.fr g149 (by decide) (by decide))⟩, ⟨(CA1.em ca141 (by omega) p148_0 rfl), (RA1.em ra141 (by omega) p149_0 rfl), (lc141.fr g148 (by decide)), (lr141.fr g149 (by decide)), (CU.set (b := 2) cu141 ⟨by omega, by omega⟩ ((au141 0 _ (by omega)).trans (pu_e rfl)) p148_1 g148 (by decide)), (RU.set ru141 ⟨by omega, by omega⟩ p149_1 g149 (by decide))⟩, ⟨by omega, by omega, by omega, by omega, by omega, by omega, by omega, by omega, by omega, by omega, by omega, by omega⟩, ⟨by omega, by omega, by omega, by omega, by omega, by omega⟩, (Ag.pu (Ag.t Ag.r ag141 (by omega)) (by omega)), (Ag.ps (Ag.t (Ag.pu Ag.r (by omega)) au141 (by omega)) (by omega)), (AgL.t (AgL.pu AgL.r (by omega)) ax141 (by omega)), ty146, du147, (ku141.fr g148 (by decide))⟩)
            ·
              have FL141 : Fr W_cp Mc Mx141 := Fr.t f108 fl141
              have FR141 : Fr W_rp Mr Nx141 := Fr.t (Fr.m f125 W_rx_p) fr141
              obtain ⟨ti141, tz141, tn141, tu141, t13141, t10141, t11141, t12141, t9141, t16141, t19141, tb141⟩ := tc141
              obtain ⟨re141, rn141, ru141, rm141, rt141, u41141, u42141, u43141, u51141, u53141, u48141, u49141, ub141⟩ := tr141
              refine rsl (cV_e rfl) ?_
              refine rsr (cV_e rfl) ?_
              refine rsl (vC_e (ck_65 (hC.fr FL141))) ?_
              refine RlV (y105 (by omega) (hC.fr FL141) (hTk.fr (WL := W_cp) FL141 (by decide)) (t12141) (t13141) (t10141) (t11141) (t9141) (t16141) (t19141) (congrArg iI p108_0) (li_3) (li_5) (by omega)) fun v Ma151 h151 => ?_
              obtain ⟨sz150, sn150, uc150, g151, e151_sz150, e151_sn150, e151_uc150, e151_k0, e151_k1, e151_k2, e151_k3, p151_0, p151_1, p151_2⟩ := h151
              have f151 : Fr W_cp Mc Ma151 := Fr.t FL141 (Fr.m g151 (by decide))
              refine rsl (cV_e rfl) ?_
              refine rsl (jv_e) ?_
              refine rsr (vC_e (rk_160 (hR.fr FR141))) ?_
              refine RrV (x202_s (by omega) (hR.fr FR141) (u41141) (u42141) (u43141) (u51141) (u53141) (u48141) (u49141) (congrArg iI p125_0) (li_2) (li_5) (by omega)) fun v Ma153 h153 => ?_
              obtain ⟨em152, g153, e153_em152, e153_k0, e153_k1, e153_k2, e153_k3, e153_k4, p153_0⟩ := h153
              have f153 : Fr W_rp Mr Ma153 := Fr.t FR141 (Fr.m g153 (by decide))
              refine rsr (cV_e rfl) ?_
              refine rsr (jv_e) ?_
              exact Rs.ok (Or.inr ⟨F141, P141, f151, f153, ⟨ti141, sz150, sn150, uc150, e151_k0, e151_k1, e151_k2, e151_k3, e151_sz150, e151_sn150, e151_uc150, by omega⟩, ⟨em152, rn141, ru141, rm141, rt141, e153_k0, e153_k1, e153_em152, e153_k2, e153_k3, e153_k4, (g153.i _ _ (by decide)).trans (u49141), by omega⟩⟩)
        ·
          refine rsr (if_neg (lgc_n (rfl) (rfl) c126)) ?_
          refine rsr (jv_e) ?_
          try dsimp only
          refine rsr (gtI_q (w := iI ((kr (kd (i + 1))))) (rk_160 (hR.fr f125)) (e125_k1)) ?_
          refine rsr (jn_v) ?_
          refine rsr (if_neg (krI_n (k := 40) (rfl) (li_40) (hS.ok (i + 1) (by omega) (by omega)) (by unfold KdOK sgk; omega) (by decide +kernel) (by omega) (by omega))) ?_
          refine rsr (gtI_q (w := iI ((kr (kd (i + 1))))) (rk_160 (hR.fr f125)) (e125_k1)) ?_
          refine rsr (if_pos (krI_p (k := 91) (rfl) (li_91) (by omega) (by decide +kernel))) ?_
          refine rsr (vC_e (rk_160 (hR.fr f125))) ?_
          refine Rb_VV (hX _ _ (by omega) (by omega) T n m kd pl E tx ua ut mu _ _ G (pu U u [uc, (V Mr 201 u.toNat), (V Mr 200 u.toNat), (V Mr 203 u.toNat), (pl i), (V Mr 206 u.toNat), ut, 0, (V Mc 79 uc.toNat), (V Mc 80 uc.toNat), (V Mc 82 uc.toNat)]) Hl (pux X u [(0 : Int64), (tx i)]) (i + 1) e s (u + 1) (uc + 1) _ hS (hCx.fr f108 f125) ⟨e108_k0, e108_k2, e108_k3, (g108.i _ _ (by decide)).trans (qa_9), (g108.i _ _ (by decide)).trans (qa_16), e108_k1⟩ ⟨e125_k1, e125_k2, e125_k3, e125_k4, (g125.i _ _ (by decide)).trans (wa_43), (g125.i _ _ (by decide)).trans (wa_51), e125_k0, (g125.i _ _ (by decide)).trans (wa_50), p125_2⟩ ⟨(caa.fr g108 (by decide)), (raa.fr g125 (by decide)), (lca.fr g108 (by decide)), (lra.fr g125 (by decide)), (CU.add cua (by omega) (by omega) p108_1 rfl rfl), (RU.add rua (by omega) p125_1 rfl)⟩ ⟨by omega, by omega, by omega, by omega, by omega, by omega, by omega, by omega, by omega, by omega, by omega, by omega⟩ (by omega) (vs1 (rfl))) fun v Mx154 w Nx154 hx154 => ?_
          rcases hx154 with ⟨i154, e154, u154, uc154, G154, U154, X154, fl154, fr154, sc154, sr154, rw154, bd154, mv154, ag154, au154, ax154, tp154, dp154, kv154⟩ | ⟨F154, P154, fl154, fr154, tc154, tr154⟩
          ·
            have FL154 : Fr W_cp Mc Mx154 := Fr.t f108 fl154
            have FR154 : Fr W_rx Mr Nx154 := Fr.t f125 fr154
            obtain ⟨bb154_0, bb154_1, bb154_2, bb154_3, bb154_4, bb154_5, bb154_6, bb154_7, bb154_8, bb154_9, bb154_10, bb154_11⟩ := bd154
            obtain ⟨q154_12, q154_13, q154_10, q154_9, q154_16, q154_19⟩ := sc154
            obtain ⟨w154_36, w154_37, w154_38, w154_41, w154_43, w154_51, w154_53, w154_50, w154_n⟩ := sr154
            obtain ⟨ca154, ra154, lc154, lr154, cu154, ru154⟩ := rw154
            have hk155 := (hS.ok i154 (by omega) (by omega)).r
            have ku154 := KU.t (KU.us kua p108_1 g108 (by decide) (by omega)) kv154 (by omega)
            have ty156 := Tye.t (d3 := 1) ty2 ag154 tp154 (by omega)
            have du157 := DU.t (DU.r (ut := ut) (mu := mu) (c := uc) (G := G) (a := e)) ag154 au154 ax154 dp154 (by omega)
            refine rsl (cV_e rfl) ?_
            refine rsr (cV_e rfl) ?_
            refine rsl (vC_e (ck_65 (hC.fr FL154))) ?_
            have ty159 := Tye.em (d := 1) (d' := 1) (q := (e154 + 1)) (n1 := 0) (ut := ut) (mu := mu) (l := []) ty156 (Or.inr (Or.inr (Or.inr (Or.inr (Or.inl (by omega))))) : Eff 5 u 0 1 s 1 s) (by omega) ⟨by omega, by omega⟩ (by omega)
            have du160 := DU.set (b1 := 2) (p := 3) (q := (e154 + 1)) (u := u) (o := 5) (n1 := 0) (p1 := -2) (n3 := u) (l := []) (g := 0) du157 (by omega) (by omega) (by omega) (by omega) (fun q => absurd q (by decide)) (Int.le_of_eq (Eq.symm ((au154 0 _ (by omega)).trans (pu_e rfl)))) ((au154 6 _ (by omega)).trans (pu_e (by omega))) (U3tr (ax154 0 _ (by omega)) (au154 3 _ (by omega)) (au154 10 _ (by omega)) (Or.inl (pux_e (by omega)))) (by omega) (by omega)
            refine RlV (a105 (by omega) (hC.fr FL154) (q154_9) (congrArg iI p108_0) (li_3) (li_5) (by omega)) fun v Ma161 h161 => ?_
            obtain ⟨g161, e161_k0, p161_0, p161_1⟩ := h161
            have f161 : Fr W_cp Mc Ma161 := Fr.t FL154 (Fr.m g161 (by decide))
            refine rsl (cV_e rfl) ?_
            refine rsl (jv_e) ?_
            refine rsr (vC_e (rk_160 (hR.fr FR154))) ?_
            refine RrV (a202 (by omega) (hR.fr FR154) (w154_43) ((FR154.i _ _ (by decide)).trans h49) ((FR154.i _ _ (by decide)).trans h48) (congrArg iI p125_0) (li_2) (li_5) (by omega)) fun v Ma162 h162 => ?_
            obtain ⟨g162, e162_k0, p162_0, p162_1⟩ := h162
            have f162 : Fr W_rx Mr Ma162 := Fr.t FR154 (Fr.m g162 (by decide))
            refine rsr (cV_e rfl) ?_
            refine rsr (jv_e) ?_
            exact Rs.ok (Or.inl ⟨i154, (e154 + 1), u154, uc154, (pu G154 e154 [5, 0, -2, u, ut, mu, 0]), (ps U154 u 2 3 e154), X154, f161, f162, ⟨(g161.i _ _ (by decide)).trans (q154_12), (g161.i _ _ (by decide)).trans (q154_13), (g161.i _ _ (by decide)).trans (q154_10), e161_k0, (g161.i _ _ (by decide)).trans (q154_16), (g161.i _ _ (by decide)).trans (q154_19)⟩, ⟨(g162.i _ _ (by decide)).trans (w154_36), (g162.i _ _ (by decide)).trans (w154_37), (g162.i _ _ (by decide)).trans (w154_38), (g162.i _ _ (by decide)).trans (w154_41), e162_k0, (g162.i _ _ (by decide)).trans (w154_51), (g162.i _ _ (by decide)).trans (w154_53), (g162.i _ _ (by decide)).trans (w154_50), (w154_n.fr g162 (by decide) (by decide))⟩, ⟨(CA1.em ca154 (by omega) p161_0 rfl), (RA1.em ra154 (by omega) p162_0 rfl), (lc154.fr g161 (by decide)), (lr154.fr g162 (by decide)), (CU.set (b := 2) cu154 ⟨by omega, by omega⟩ ((au154 0 _ (by omega)).trans (pu_e rfl)) p161_1 g161 (by decide)), (RU.set ru154 ⟨by omega, by omega⟩ p162_1 g162 (by decide))⟩, ⟨by omega, by omega, by omega, by omega, by omega, by omega, by omega, by omega, by omega, by omega, by omega, by omega⟩, ⟨by omega, by omega, by omega, by omega, by omega, by omega⟩, (Ag.pu (Ag.t Ag.r ag154 (by omega)) (by omega)), (Ag.ps (Ag.t (Ag.pu Ag.r (by omega)) au154 (by omega)) (by omega)), (AgL.t (AgL.pu AgL.r (by omega)) ax154 (by omega)), ty159, du160, (ku154.fr g161 (by decide))⟩)
          ·
            have FL154 : Fr W_cp Mc Mx154 := Fr.t f108 fl154
            have FR154 : Fr W_rp Mr Nx154 := Fr.t (Fr.m f125 W_rx_p) fr154
            obtain ⟨ti154, tz154, tn154, tu154, t13154, t10154, t11154, t12154, t9154, t16154, t19154, tb154⟩ := tc154
            obtain ⟨re154, rn154, ru154, rm154, rt154, u41154, u42154, u43154, u51154, u53154, u48154, u49154, ub154⟩ := tr154
            refine rsl (cV_e rfl) ?_
            refine rsr (cV_e rfl) ?_
            refine rsl (vC_e (ck_65 (hC.fr FL154))) ?_
            refine RlV (y105 (by omega) (hC.fr FL154) (hTk.fr (WL := W_cp) FL154 (by decide)) (t12154) (t13154) (t10154) (t11154) (t9154) (t16154) (t19154) (congrArg iI p108_0) (li_3) (li_5) (by omega)) fun v Ma164 h164 => ?_
            obtain ⟨sz163, sn163, uc163, g164, e164_sz163, e164_sn163, e164_uc163, e164_k0, e164_k1, e164_k2, e164_k3, p164_0, p164_1, p164_2⟩ := h164
            have f164 : Fr W_cp Mc Ma164 := Fr.t FL154 (Fr.m g164 (by decide))
            refine rsl (cV_e rfl) ?_
            refine rsl (jv_e) ?_
            refine rsr (vC_e (rk_160 (hR.fr FR154))) ?_
            refine RrV (x202_s (by omega) (hR.fr FR154) (u41154) (u42154) (u43154) (u51154) (u53154) (u48154) (u49154) (congrArg iI p125_0) (li_2) (li_5) (by omega)) fun v Ma166 h166 => ?_
            obtain ⟨em165, g166, e166_em165, e166_k0, e166_k1, e166_k2, e166_k3, e166_k4, p166_0⟩ := h166
            have f166 : Fr W_rp Mr Ma166 := Fr.t FR154 (Fr.m g166 (by decide))
            refine rsr (cV_e rfl) ?_
            refine rsr (jv_e) ?_
            exact Rs.ok (Or.inr ⟨F154, P154, f164, f166, ⟨ti154, sz163, sn163, uc163, e164_k0, e164_k1, e164_k2, e164_k3, e164_sz163, e164_sn163, e164_uc163, by omega⟩, ⟨em165, rn154, ru154, rm154, rt154, e166_k0, e166_k1, e166_em165, e166_k2, e166_k3, e166_k4, (g166.i _ _ (by decide)).trans (u49154), by omega⟩⟩)
      · refine rsl (if_neg (eqI_n (rfl) (li_91) (by omega))) ?_
        refine rsl (vC_e (ck_65 (hC.fr f108))) ?_
        obtain ⟨rl, hrl⟩ : ∃ r, LcF Hl s (tx i) r := by have q := LcF_ex (Hl := Hl) (y := (tx i)) s.toNat; rw [show ((s.toNat : Nat) : Int) = s by omega] at q; exact q
        have brl := hrl.bd
        by_cases crl : rl = -1
        ·
          subst crl
          have ty167 := Tye.em (d := 0) (d' := 1) (q := (e + 1)) (n1 := 0) (ut := ut) (mu := mu) (l := []) ty2 (Or.inl (by omega) : Eff 3 u 0 0 s 1 s) (by omega) ⟨by omega, by omega⟩ (by omega)
          have du168 := DU.set (b1 := 0) (p := 1) (q := (e + 1)) (u := u) (o := 3) (n1 := 0) (p1 := -2) (n3 := u) (l := []) (g := 0) (DU.r (ut := ut) (mu := mu) (c := uc) (G := G) (a := e)) (by omega) (by omega) (by omega) (by omega) (fun q => absurd q (by decide)) (Int.le_of_eq (Eq.symm (pu_e rfl))) (pu_e (by omega)) (Or.inl (pux_e (by omega))) (by omega) (by omega)
          refine RlV (a106_n (by omega) (hC.fr f108) ((g108.i _ _ (by decide)).trans (qa_9)) (congrArg iI p108_0) (li_1) (li_1) (li_3) ((g108.i _ _ (by decide)).trans (qa_16)) (lca.fr g108 (by decide)) p108_1.2.2.2.2.2.2.2.1 p108_1.2.2.2.2.2.2.2.2 hrl rfl (by omega)) fun v Ma169 h169 => ?_
          obtain ⟨g169, e169_k0, p169_0, p169_1⟩ := h169
          have f169 : Fr W_cp Mc Ma169 := Fr.t f108 (Fr.m g169 (by decide))
          refine rsl (cV_e rfl) ?_
          refine rsl (jv_e) ?_
          refine rsr (vC_e (rk_160 hR)) ?_
          refine RrI (a201_u (by omega) hS hR (hT.fr (W := W_rx) Fr.r (by decide) (by decide)) (fun i a b => (Fr.lc (W := W_rx) Fr.r _ (by decide) _).trans (hW i a b)) (wa_36) (wa_37) (wa_38) (wa_41) (h49) (wa_53) wa_n (by omega)) fun v Ma171 h171 => ?_
          obtain ⟨r170, rfl, g171, e171_k0, e171_k1, e171_k2, e171_k3, e171_k4, p171_0, p171_1, p171_2⟩ := h171
          have f171 : Fr W_rx Mr Ma171 := Fr.t Fr.r (Fr.m g171 (by decide))
          refine rsr (cI_e rfl) ?_
          refine rsr (gtI_q (w := iI 0) (rk_160 (hR.fr f171)) (e171_k4)) ?_
          refine rsr (if_pos (eqI_p (rfl) (li_0) (by omega))) ?_
          refine rsr (gtP_q (w := some 202) (rk_160 (hR.fr f171)) (rf_56 (hR.fr f171))) ?_
          refine rsr (alL_q (n := 2000) (z := u) (w := (0 : Int64)) (rk_202 (hR.fr f171)) (congrArg iI p171_0) (by omega) (p171_1.2.2.2.1)) ?_
          refine rsr (jn_v) ?_
          refine rsr (if_pos (lgc_p (rfl) (rfl) rfl)) ?_
          refine rsr (gtP_q (w := some 204) (rk_160 (hR.fr f171)) (rf_58 (hR.fr f171))) ?_
          refine rsr (alL_q (n := 2000) (z := u) (w := (tx i)) (rk_204 (hR.fr f171)) (congrArg iI p171_0) (by omega) (p171_1.2.2.2.2.2.1)) ?_
          refine rsr (vC_e (rk_160 (hR.fr f171))) ?_
          refine RrI (a197 (by omega) (hR.fr f171) ((g171.i _ _ (by decide)).trans (wa_51)) (lra.fr g171 (by decide)) (by omega)) fun v Nl172 hl172 => ?_
          obtain ⟨r9, rfl, hMl, hr9⟩ := hl172
          rw [hMl]
          have q9 := LcF.one hr9 hrl
          rw [q9]
          refine rsr (cI_e rfl) ?_
          refine rsr (jv_e) ?_
          try dsimp only
          refine rsr (gtI_q (w := iI ((kr (kd (i + 1))))) (rk_160 (hR.fr f171)) (e171_k1)) ?_
          refine rsr (jn_v) ?_
          refine rsr (if_neg (krI_n (k := 40) (rfl) (li_40) (hS.ok (i + 1) (by omega) (by omega)) (by unfold KdOK sgk; omega) (by decide +kernel) (by omega) (by omega))) ?_
          refine rsr (gtI_q (w := iI ((kr (kd (i + 1))))) (rk_160 (hR.fr f171)) (e171_k1)) ?_
          refine rsr (if_neg (krI_n (k := 91) (rfl) (li_91) (hS.ok (i + 1) (by omega) (by omega)) (by unfold KdOK sgk; omega) (by decide +kernel) (by omega) (by omega))) ?_
          refine rsr (if_pos (lsI_p (congrArg iI (if_pos rfl)) (li_0) (by omega))) ?_
          refine rsr (vC_e (rk_160 (hR.fr f171))) ?_
          refine RrV (a202 (by omega) (hR.fr f171) ((g171.i _ _ (by decide)).trans (wa_43)) ((g171.i _ _ (by decide)).trans (h49)) ((g171.i _ _ (by decide)).trans (h48)) (congrArg iI p171_0) (li_0) (li_3) (by omega)) fun v Ma173 h173 => ?_
          obtain ⟨g173, e173_k0, p173_0, p173_1⟩ := h173
          have f173 : Fr W_rx Mr Ma173 := Fr.t f171 (Fr.m g173 (by decide))
          refine rsr (cV_e rfl) ?_
          refine rsr (jv_e) ?_
          exact Rs.ok (Or.inl ⟨(i + 1), (e + 1), (u + 1), (uc + 1), (pu G e [3, 0, -2, u, ut, mu, 0]), (ps (pu U u [uc, (V Mr 201 u.toNat), (V Mr 200 u.toNat), (V Mr 203 u.toNat), (pl i), (V Mr 206 u.toNat), ut, 0, (V Mc 79 uc.toNat), (V Mc 80 uc.toNat), (V Mc 82 uc.toNat)]) u 0 1 e), (pux X u [(0 : Int64), (tx i)]), f169, f173, ⟨(g169.i _ _ (by decide)).trans (e108_k0), (g169.i _ _ (by decide)).trans (e108_k2), (g169.i _ _ (by decide)).trans (e108_k3), e169_k0, (g169.i _ _ (by decide)).trans ((g108.i _ _ (by decide)).trans (qa_16)), (g169.i _ _ (by decide)).trans (e108_k1)⟩, ⟨(g173.i _ _ (by decide)).trans (e171_k1), (g173.i _ _ (by decide)).trans (e171_k2), (g173.i _ _ (by decide)).trans (e171_k3), (g173.i _ _ (by decide)).trans (e171_k4), e173_k0, (g173.i _ _ (by decide)).trans ((g171.i _ _ (by decide)).trans (wa_51)), (g173.i _ _ (by decide)).trans (e171_k0), (g173.i _ _ (by decide)).trans ((g171.i _ _ (by decide)).trans (wa_50)), (p171_2.fr g173 (by decide) (by decide))⟩, ⟨(CA1.em (caa.fr g108 (by decide)) (by omega) p169_0 rfl), (RA1.em (raa.fr g171 (by decide)) (by omega) p173_0 rfl), ((lca.fr g108 (by decide)).fr g169 (by decide)), ((lra.fr g171 (by decide)).fr g173 (by decide)), (CU.set (b := 0) (CU.add cua (by omega) (by omega) p108_1 rfl rfl) ⟨by omega, by omega⟩ (pu_e rfl) p169_1 g169 (by decide)), (RU.set (RU.add rua (by omega) p171_1 rfl) ⟨by omega, by omega⟩ p173_1 g173 (by decide))⟩, ⟨by omega, by omega, by omega, by omega, by omega, by omega, by omega, by omega, by omega, by omega, by omega, by omega⟩, ⟨by omega, by omega, by omega, by omega, by omega, by omega⟩, (Ag.pu Ag.r (by omega)), (Ag.ps (Ag.pu Ag.r (by omega)) (by omega)), (AgL.pu AgL.r (by omega)), ty167, du168, ((KU.us kua p108_1 g108 (by decide) (by omega)).fr g169 (by decide))⟩)
        ·
          have ty174 := Tye.em (d := 0) (d' := 1) (q := (e + 1)) (n1 := rl) (ut := ut) (mu := mu) (l := []) ty2 (Or.inr (Or.inl (by omega)) : Eff 1 rl 0 0 s 1 s) (by omega) ⟨by omega, by omega⟩ (by omega)
          have du175 := DU.em (q := (e + 1)) (o := 1) (n := rl) (p := -2) (l := [0]) du3 (by omega) (by omega)
          refine RlV (a106_l (by omega) (hC.fr f108) ((g108.i _ _ (by decide)).trans (qa_9)) (congrArg iI p108_0) (li_1) (li_1) (li_3) ((g108.i _ _ (by decide)).trans (qa_16)) (lca.fr g108 (by decide)) p108_1.2.2.2.2.2.2.2.1 p108_1.2.2.2.2.2.2.2.2 hrl ⟨by omega, by omega⟩ rfl (by omega)) fun v Ma176 h176 => ?_
          obtain ⟨g176, e176_k0, p176_0, p176_1⟩ := h176
          have f176 : Fr W_cp Mc Ma176 := Fr.t f108 (Fr.m g176 (by decide))
          refine rsl (cV_e rfl) ?_
          refine rsl (jv_e) ?_
          refine rsr (vC_e (rk_160 hR)) ?_
          refine RrI (a201_u (by omega) hS hR (hT.fr (W := W_rx) Fr.r (by decide) (by decide)) (fun i a b => (Fr.lc (W := W_rx) Fr.r _ (by decide) _).trans (hW i a b)) (wa_36) (wa_37) (wa_38) (wa_41) (h49) (wa_53) wa_n (by omega)) fun v Ma178 h178 => ?_
          obtain ⟨r177, rfl, g178, e178_k0, e178_k1, e178_k2, e178_k3, e178_k4, p178_0, p178_1, p178_2⟩ := h178
          have f178 : Fr W_rx Mr Ma178 := Fr.t Fr.r (Fr.m g178 (by decide))
          refine rsr (cI_e rfl) ?_
          refine rsr (gtI_q (w := iI 0) (rk_160 (hR.fr f178)) (e178_k4)) ?_
          refine rsr (if_pos (eqI_p (rfl) (li_0) (by omega))) ?_
          refine rsr (gtP_q (w := some 202) (rk_160 (hR.fr f178)) (rf_56 (hR.fr f178))) ?_
          refine rsr (alL_q (n := 2000) (z := u) (w := (0 : Int64)) (rk_202 (hR.fr f178)) (congrArg iI p178_0) (by omega) (p178_1.2.2.2.1)) ?_
          refine rsr (jn_v) ?_
          refine rsr (if_pos (lgc_p (rfl) (rfl) rfl)) ?_
          refine rsr (gtP_q (w := some 204) (rk_160 (hR.fr f178)) (rf_58 (hR.fr f178))) ?_
          refine rsr (alL_q (n := 2000) (z := u) (w := (tx i)) (rk_204 (hR.fr f178)) (congrArg iI p178_0) (by omega) (p178_1.2.2.2.2.2.1)) ?_
          refine rsr (vC_e (rk_160 (hR.fr f178))) ?_
          refine RrI (a197 (by omega) (hR.fr f178) ((g178.i _ _ (by decide)).trans (wa_51)) (lra.fr g178 (by decide)) (by omega)) fun v Nl179 hl179 => ?_
          obtain ⟨r9, rfl, hMl, hr9⟩ := hl179
          rw [hMl]
          have q9 := LcF.one hr9 hrl
          rw [q9]
          refine rsr (cI_e rfl) ?_
          refine rsr (jv_e) ?_
          try dsimp only
          refine rsr (gtI_q (w := iI ((kr (kd (i + 1))))) (rk_160 (hR.fr f178)) (e178_k1)) ?_
          refine rsr (jn_v) ?_
          refine rsr (if_neg (krI_n (k := 40) (rfl) (li_40) (hS.ok (i + 1) (by omega) (by omega)) (by unfold KdOK sgk; omega) (by decide +kernel) (by omega) (by omega))) ?_
          refine rsr (gtI_q (w := iI ((kr (kd (i + 1))))) (rk_160 (hR.fr f178)) (e178_k1)) ?_
          refine rsr (if_neg (krI_n (k := 91) (rfl) (li_91) (hS.ok (i + 1) (by omega) (by omega)) (by unfold KdOK sgk; omega) (by decide +kernel) (by omega) (by omega))) ?_
          refine rsr (if_neg (lsI_n (congrArg iI (if_neg (by omega))) (li_0) (by omega))) ?_
          refine rsr (gtI_q (w := iI (u + 1)) (rk_160 (hR.fr f178)) (e178_k0)) ?_
          refine rsr (ptI_q (z := u) (rk_160 (hR.fr f178)) (cvI (sbI (rfl) (li_1)) (by omega))) ?_
          refine rsr (vC_e (rk_160 (hR.fr f178).sI)) ?_
          refine RrI (a196 (by omega) (hR.fr f178).sI ((sI_nej (by decide)).trans ((g178.i _ _ (by decide)).trans (wa_43))) ((sI_nej (by decide)).trans ((g178.i _ _ (by decide)).trans (h49))) ((sI_nej (by decide)).trans ((g178.i _ _ (by decide)).trans (h48))) (li_1) (congrArg iI (if_neg (by omega))) (by omega)) fun v Ma181 h181 => ?_
          obtain ⟨r180, rfl, g181, e181_k0, p181_0, p181_1⟩ := h181
          have f181 : Fr W_rx Mr Ma181 := Fr.t (Fr.sI (by decide) f178) (Fr.m g181 (by decide))
          refine rsr (cI_e rfl) ?_
          refine rsr (jv_e) ?_
          exact Rs.ok (Or.inl ⟨(i + 1), (e + 1), u, (uc + 1), (pu G e [1, rl, -2, rl, ut, mu, 0]), U, X, f176, f181, ⟨(g176.i _ _ (by decide)).trans (e108_k0), (g176.i _ _ (by decide)).trans (e108_k2), (g176.i _ _ (by decide)).trans (e108_k3), e176_k0, (g176.i _ _ (by decide)).trans ((g108.i _ _ (by decide)).trans (qa_16)), (g176.i _ _ (by decide)).trans (e108_k1)⟩, ⟨(g181.i _ _ (by decide)).trans ((sI_nej (by decide)).trans (e178_k1)), (g181.i _ _ (by decide)).trans ((sI_nej (by decide)).trans (e178_k2)), (g181.i _ _ (by decide)).trans ((sI_nej (by decide)).trans (e178_k3)), (g181.i _ _ (by decide)).trans ((sI_nej (by decide)).trans (e178_k4)), e181_k0, (g181.i _ _ (by decide)).trans ((sI_nej (by decide)).trans ((g178.i _ _ (by decide)).trans (wa_51))), (g181.i _ _ (by decide)).trans (sI_eq), (g181.i _ _ (by decide)).trans ((sI_nej (by decide)).trans ((g178.i _ _ (by decide)).trans (wa_50))), ((p178_2.fr (W := W_r0) (Fr.sI (by decide) Fr.r) (by decide) (by decide)).fr g181 (by decide) (by decide))⟩, ⟨(CA1.em (caa.fr g108 (by decide)) (by omega) p176_0 rfl), (RA1.em ((raa.fr g178 (by decide)).fr (W := W_r0) (Fr.sI (by decide) Fr.r) (by decide)) (by omega) p181_1 rfl), ((lca.fr g108 (by decide)).fr g176 (by decide)), (((lra.fr g178 (by decide)).fr (W := W_r0) (Fr.sI (by decide) Fr.r) (by decide)).fr g181 (by decide)), (CU.loc2 (CU.keep cua (by omega) p108_1 rfl) hlt p176_1 g176 (by decide)), (((RU.keep rua p178_1).fr (W := W_r0) (Fr.sI (by decide) Fr.r) (by decide)).fr g181 (by decide))⟩, ⟨by omega, by omega, by omega, by omega, by omega, by omega, by omega, by omega, by omega, by omega, by omega, by omega⟩, ⟨by omega, by omega, by omega, by omega, by omega, by omega⟩, (Ag.pu Ag.r (by omega)), Ag.r, AgL.r, ty174, du175, ((KU.us kua p108_1 g108 (by decide) (by omega)).fr g176 (by decide))⟩)
