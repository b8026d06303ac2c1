/-! a NAME in an expression -/
theorem CU.loc2 {M M2 : Mem} {U : Nat → Int → Int} {X : Nat → Int → Int64} {u uc x e : Int} {W : List (Nat × Nat)} (h : CU M U X u uc) (hx : ∀ j, 0 ≤ j → j < u → U 0 j < x) (g : SetC M M2 x 0 e) (f : Fr W M M2) (w : ∀ z, z ∈ W → z.1 ≠ 80 ∧ z.1 ≠ 81 ∧ z.1 ≠ 82 ∧ z.1 ≠ 83 ∧ z.1 ≠ 85 ∧ z.1 ≠ 86) : CU M2 U X u uc := by
  obtain ⟨h1, h2, h3⟩ := h
  refine ⟨fun t a c => ?_, h2, fun y a c d => ?_⟩
  · obtain ⟨k, e1, e2, e3, e4, e5, e6, e7, e8⟩ := h1 t a c
    have := hx t a c
    exact ⟨k, (g.1 _ (by omega)).1.trans e1, (g.1 _ (by omega)).2.trans e2, (f.c _ (fun z y => (w z y).1) _).trans e3, (f.c _ (fun z y => (w z y).2.1) _).trans e4, (f.c _ (fun z y => (w z y).2.2.1) _).trans e5, (f.c _ (fun z y => (w z y).2.2.2.1) _).trans e6, (f.lc _ (fun z y => (w z y).2.2.2.2.1) _).trans e7, (f.lc _ (fun z y => (w z y).2.2.2.2.2) _).trans e8⟩
  · by_cases c2 : y.toNat = x.toNat
    · rw [c2]; exact g.2.1
    · exact (g.1 _ c2).1.trans (h3 y a c d)
theorem KU.us {c : Int} {M0 M M2 : Mem} {x a4 a6 a8 a9 a10 : Int} {x0 x1 : Int64} {W : List (Nat × Nat)} (h : KU c M0 M) (g : UsC M M2 x a4 a6 a8 a9 a10 x0 x1) (f : Fr W M M2) (w : ∀ z, z ∈ W → z.1 ≠ 75 ∧ z ≠ (65, 14) ∧ z ≠ (65, 9999)) (hc : c ≤ x) : KU c M0 M2 := ⟨(f.i _ _ (inW_14 fun z y => (w z y).2)).trans h.1, fun y p q => by
  have := g.1 y.toNat (by omega)
  exact ⟨this.2.2.2.2.2.2.1.trans (h.2.1 y p q).1, this.2.2.2.2.2.2.2.trans (h.2.1 y p q).2⟩, fun j => (f.c _ (fun z y => (w z y).1) _).trans (h.2.2 j)⟩
theorem pu_310 {U : Nat → Int → Int} {u j : Int} {l : List Int} (h : j = u) (e : l.getD 3 0 = l.getD 10 0) : pu U u l 3 j = pu U u l 10 j := by rw [pu_e h, pu_e h, e]
theorem DU.cu {ut mu c : Int} {G U : Nat → Int → Int} {X : Nat → Int → Int64} {a b u v w : Int} (h : DU ut mu c G U X a b u v) (e : u = w) : DU ut mu c G U X a b w v := e ▸ h
theorem U3tr {U U' : Nat → Int → Int} {X X' : Nat → Int → Int64} {j : Int} (hx : X' 0 j = X 0 j) (h3 : U' 3 j = U 3 j) (h10 : U' 10 j = U 10 j) (h : X 0 j = 0 ∨ U 3 j = U 10 j) : X' 0 j = 0 ∨ U' 3 j = U' 10 j := by rw [hx, h3, h10]; exact h
theorem DU.pq {ut mu c : Int} {G U : Nat → Int → Int} {X : Nat → Int → Int64} {a b u v j z : Int} {k0 : Nat} (h : DU ut mu c G U X a b u v) (hj : j < u) : DU ut mu c G (pq U k0 j z) X a b u v := h.cg (fun _ _ _ _ => rfl) (fun k t p _ => pq_t (by omega)) (fun _ _ _ _ => rfl)
/-- the pending use is settled, its code comes -/
theorem DU.set {ut mu c c2 : Int} {G U : Nat → Int → Int} {X : Nat → Int → Int64} {a b q u u2 v b1 p o n1 p1 n3 g : Int} {l : List Int} (h : DU ut mu c2 G U X a b u2 v) (hc : c ≤ c2) (hu : u2 = u + 1) (hb : 0 ≤ b1 ∧ b1 ≤ 4) (hp : b1 < 3 ∧ p = b1 + 1 ∨ 3 ≤ b1 ∧ p = b1) (h4 : b1 = 4 → U 9 u = U 5 u ∧ U 5 u = g) (h0 : c ≤ U 0 u) (h6 : U 6 u = ut) (hx : X 0 u = 0 ∨ U 3 u = U 10 u) (ho : o = b1 + 3) (hq : q = b + 1) : DU ut mu c (pu G b (o :: n1 :: p1 :: n3 :: ut :: mu :: g :: l)) (ps U u b1 p b) X a q u v := by
  obtain ⟨⟨q1, q2⟩, k1, k2⟩ := h
  refine ⟨⟨by omega, by omega⟩, fun j p z => ?_, fun j p z => ?_⟩
  · by_cases y : j = u
    · subst y
      unfold UsK
      rw [ps_1, ps_7, ps_8, ps_2, ps_k (k := 9) (by decide), ps_k (k := 5) (by decide), ps_k (k := 0) (by decide), ps_k (k := 6) (by decide), ps_k (k := 3) (by decide), ps_k (k := 10) (by decide), pu_e rfl, pu_e rfl]
      exact ⟨hb, hp, rfl, ⟨q1, by omega⟩, ho, fun e => ⟨(h4 e).1, (h4 e).2.symm⟩, h0, h6, hx⟩
    · exact (k1 j (by omega) z).ag (fun k t _ z => pu_n (by omega)) (fun k => ps_t y) (fun _ => rfl) (Int.le_refl _) (by omega) hc
  · by_cases y : j = b
    · unfold CoK
      rw [pu_e y, pu_e y]
      exact ⟨⟨rfl, rfl⟩, Or.inr ⟨u, by omega, by omega, by rw [ps_2, y]⟩⟩
    · exact (k2 j p (by omega)).ag (fun k => pu_n y) (fun k t _ _ => ps_t (by omega)) (by omega) (Int.le_refl _)
/-- behind a call: its use, which was pending, is settled -/
def PKc (x dl ut mu m : Int) (kd pl E : Int → Int) (tx : Int → Int64) (Mc Mr : Mem) (G U : Nat → Int → Int) (Hl : Int → Int64) (X : Nat → Int → Int64) (i e s u uc dp : Int) (Mc' Mr' : Mem) (i' : Int) : Prop := ∃ (e' u' uc' : Int) (G' U' : Nat → Int → Int) (X' : Nat → Int → Int64), Fr W_cp Mc Mc' ∧ Fr W_rx Mr Mr' ∧ SC Mc' kd i' e' s uc' ∧ SR Mr' kd pl E tx i' e' s u' dp ∧ RW Mc' Mr' G' U' Hl X' e' s u' uc' ∧ BD m i' e' s u' uc' dp ∧ (i < i' ∧ e ≤ e' ∧ e' - e ≤ i' - i ∧ u ≤ u' ∧ uc' - uc ≤ i' - i ∧ uc ≤ uc') ∧ Ag G G' e ∧ Ag U U' (u - 1) ∧ AgL X X' u ∧ Tye G' e e' s dl ∧ DU ut mu x G' U' X' e e' (u - 1) u' ∧ KU uc Mc Mc'
def POc (x dl ut mu m : Int) (kd pl E : Int → Int) (tx : Int → Int64) (Mc Mr : Mem) (G U : Nat → Int → Int) (Hl : Int → Int64) (X : Nat → Int → Int64) (i e s u uc dp b : Int) (Mc' Mr' : Mem) : Prop := (∃ i' : Int, PKc x dl ut mu m kd pl E tx Mc Mr G U Hl X i e s u uc dp Mc' Mr' i') ∨ ∃ F P : Int, Fr W_cp Mc Mc' ∧ Fr W_rp Mr Mr' ∧ FTc m F P Mc' ∧ FTr b F P Mr'
def PairC (D : Nat) (off : Int) (dp : Int) : Prop := ∀ (d d' : Nat), D ≤ d → D ≤ d' → ∀ (T : Int → Int) (n m : Int) (kd pl E : Int → Int) (tx : Int → Int64) (ua : Nat) (ut mu : Int) (Mc Mr : Mem) (G U : Nat → Int → Int) (Hl : Int → Int64) (X : Nat → Int → Int64) (i e s u uc : Int) (x : Int) (v0 v1 w0 : Int32), TkS T n m kd pl E tx → Cx T n m kd pl tx ua ut mu Mc Mr → SC Mc kd i e s uc → SR Mr kd pl E tx i e s u dp → RW Mc Mr G U Hl X e s u uc → BD m i e s u uc dp → kd i = 40 → 1 ≤ u → U 0 (u - 1) = x → U 6 (u - 1) = ut → (X 0 (u - 1) = 0 ∨ U 3 (u - 1) = U 10 (u - 1)) → v0 = iI x → v1 = iI dp → w0 = iI (u - 1) → Rs (runX d 97 [va_rf (some 65), .int v0, .int v1] Mc) (runX d' 204 [va_rf (some 160), .int w0] Mr) (fun _ Mc' _ Mr' => POc x 1 ut mu m kd pl E tx Mc Mr G U Hl X i e s u uc dp (2500 - 30 * dp - off) Mc' Mr')
theorem p_n {D : Nat} {dp : Int} (hD : 20 ≤ D) (hX : PairK 91 D 98 [] 203 24 dp) (hCl : PairC D 24 dp) : PairK 3 (D + 1) 101 [] 205 22 dp := by
  intro d d2 hd hd2 T n m kd pl E tx ua ut mu Mc Mr G U Hl X i e s u uc vs hS hx hsc hsr hrw hbd hK hvs
  subst hvs
  obtain ⟨d, rfl⟩ : ∃ e, d = e + 1 := ⟨d - 1, by omega⟩
  obtain ⟨d2, rfl⟩ : ∃ e, d2 = e + 1 := ⟨d2 - 1, by omega⟩
  show Rs (runX (d + 1) 101 [va_rf (some 65), .int (iI dp)] Mc) (runX (d2 + 1) 205 [va_rf (some 160)] Mr) _
  rw [r101]; unfold b101; rw [aR_e, aI_e, aZ_e]; unfold c101; rw [r205]; unfold b205; rw [aR_e, aZ_e]; unfold c205
  have hCx := hx
  obtain ⟨hC, hR, hTk, hT, hW, ⟨hu1, hu2, hu3, hu4⟩, h49, h48, ⟨hb1, hb2, hb3, hb4⟩⟩ := hx
  obtain ⟨bb_0, bb_1, bb_2, bb_3, bb_4, bb_5, bb_6, bb_7, bb_8, bb_9, bb_10, bb_11⟩ := hbd
  have kua : KU uc Mc Mc := KU.r
  obtain ⟨qa_12, qa_13, qa_10, qa_9, qa_16, qa_19⟩ := hsc
  obtain ⟨wa_36, wa_37, wa_38, wa_41, wa_43, wa_51, wa_53, wa_50, wa_n⟩ := hsr
  obtain ⟨caa, raa, lca, lra, cua, rua⟩ := hrw
  have hk1 := (hS.ok i (by omega) (by omega)).r
  have ty2 := (Tye.r (G := G) (a := e) (s := s))
  have du3 := (DU.r (ut := ut) (mu := mu) (c := uc) (G := G) (U := U) (X := X) (a := e) (u := u))
  refine rsl (vC_e (ck_65 hC)) ?_
  have hm4 : i + 1 < m := hS.more i (by omega) (by omega) (by omega)
  have hk5 := (hS.ok (i + 1) (by omega) (by omega)).r
  by_cases c6 : ((kd (i + 1))) = 46
  ·
    have hm7 : (i + 1) + 1 < m := hS.more (i + 1) (by omega) (by omega) (by omega)
    have hk8 := (hS.ok (i + 2) (by omega) (by omega)).r
    by_cases c9 : ((kd (i + 2))) = 3
    ·
      have hm10 : (i + 2) + 1 < m := hS.more (i + 2) (by omega) (by omega) (by omega)
      have hk11 := (hS.ok (i + 3) (by omega) (by omega)).r
      have hlt : ∀ j, 0 ≤ j → j < u → U 0 j < uc := fun j a b => (cua.1 j a b).1.2
      refine RlI (a104_d (by omega) hS hC (hTk.fr (WL := W_cp) Fr.r (by decide)) hu1 (by rw [(Fr.r : Fr W_cp Mc _).p]; exact hu2) (Fr.kd (W := W_cp) Fr.r hu3) ((Fr.i (W := W_cp) Fr.r _ _ (inW_hi (by decide) hu1 _)).trans hu4) (qa_12) (qa_13) (qa_10) (qa_19) (by omega)) fun v Ma13 h13 => ?_
      obtain ⟨r12, rfl, g13, e13_k0, e13_k1, e13_k2, e13_k3, p13_0, p13_1⟩ := h13
      have f13 : Fr W_cp Mc Ma13 := Fr.t Fr.r (Fr.m g13 (by decide))
      refine rsl (cI_e rfl) ?_
      refine rsl (gtI_q (w := iI ((kd (i + 3)))) (ck_65 (hC.fr f13)) (e13_k2)) ?_
      refine rsl (jn_v) ?_
      by_cases c14 : ((kd (i + 3))) = 40
      · refine rsl (if_pos (eqI_p (rfl) (li_40) (by omega))) ?_
        refine rsl (vC_e (ck_65 (hC.fr f13))) ?_
        refine rsr (vC_e (rk_160 hR)) ?_
        refine RrI (a201_d (by omega) hS hR (hT.fr (W := W_rx) Fr.r (by decide) (by decide)) (fun i a b => (Fr.lc (W := W_rx) Fr.r _ (by decide) _).trans (hW i a b)) (wa_36) (wa_37) (wa_38) (wa_41) (h49) (wa_53) wa_n (by omega)) fun v Ma16 h16 => ?_
        obtain ⟨r15, rfl, g16, e16_k0, e16_k1, e16_k2, e16_k3, e16_k4, p16_0, p16_1, p16_2⟩ := h16
        have f16 : Fr W_rx Mr Ma16 := Fr.t Fr.r (Fr.m g16 (by decide))
        refine rsr (cI_e rfl) ?_
        refine rsr (gtI_q (w := iI 0) (rk_160 (hR.fr f16)) (e16_k4)) ?_
        refine rsr (if_pos (eqI_p (rfl) (li_0) (by omega))) ?_
        refine rsr (gtP_q (w := some 202) (rk_160 (hR.fr f16)) (rf_56 (hR.fr f16))) ?_
        refine rsr (alL_q (n := 2000) (z := u) (w := (tx i)) (rk_202 (hR.fr f16)) (congrArg iI p16_0) (by omega) (p16_1.2.2.2.1)) ?_
        refine rsr (jn_v) ?_
        by_cases c17 : (tx i) = (0 : Int64)
        ·
          refine rsr (if_pos (lgc_p (rfl) (rfl) c17)) ?_
          refine rsr (gtP_q (w := some 204) (rk_160 (hR.fr f16)) (rf_58 (hR.fr f16))) ?_
          refine rsr (alL_q (n := 2000) (z := u) (w := (tx (i + 2))) (rk_204 (hR.fr f16)) (congrArg iI p16_0) (by omega) (p16_1.2.2.2.2.2.1)) ?_
          refine rsr (vC_e (rk_160 (hR.fr f16))) ?_
          obtain ⟨rl, hrl⟩ : ∃ r, LcF Hl s (tx (i + 2)) r := by have q := LcF_ex (Hl := Hl) (y := (tx (i + 2))) s.toNat; rw [show ((s.toNat : Nat) : Int) = s by omega] at q; exact q
          have brl := hrl.bd
          by_cases crl : rl = -1
          ·
            subst crl
            refine RrI (a197 (by omega) (hR.fr f16) ((g16.i _ _ (by decide)).trans (wa_51)) (lra.fr g16 (by decide)) (by omega)) fun v Nl18 hl18 => ?_
            obtain ⟨r9, rfl, hMl, hr9⟩ := hl18
            rw [hMl]
            have q9 := LcF.one hr9 hrl
            rw [q9]
            refine rsr (cI_e rfl) ?_
            refine rsr (jv_e) ?_
            try dsimp only
            refine rsr (gtI_q (w := iI ((kr (kd (i + 3))))) (rk_160 (hR.fr f16)) (e16_k1)) ?_
            refine rsr (jn_v) ?_
            refine rsr (if_pos (krI_p (k := 40) (rfl) (li_40) (by omega) (by decide +kernel))) ?_
            refine rsr (vC_e (rk_160 (hR.fr f16))) ?_
            refine Rb_VV (hCl _ _ (by omega) (by omega) T n m kd pl E tx ua ut mu _ _ G (pu U u [uc, (V Mr 201 u.toNat), (V Mr 200 u.toNat), (pl i), (pl (i + 2)), (V Mr 206 u.toNat), ut, 0, (V Mc 79 uc.toNat), (V Mc 80 uc.toNat), (pl i)]) Hl (pux X u [(tx i), (tx (i + 2))]) (i + 3) e s (u + 1) (uc + 1) _ _ _ hS (hCx.fr f13 f16) ⟨e13_k0, e13_k2, e13_k3, (g13.i _ _ (by decide)).trans (qa_9), (g13.i _ _ (by decide)).trans (qa_16), e13_k1⟩ ⟨e16_k1, e16_k2, e16_k3, e16_k4, (g16.i _ _ (by decide)).trans (wa_43), (g16.i _ _ (by decide)).trans (wa_51), e16_k0, (g16.i _ _ (by decide)).trans (wa_50), p16_2⟩ ⟨(caa.fr g13 (by decide)), (raa.fr g16 (by decide)), (lca.fr g13 (by decide)), (lra.fr g16 (by decide)), (CU.add cua (by omega) (by omega) p13_1 rfl rfl), (RU.add rua (by omega) p16_1 rfl)⟩ ⟨by omega, by omega, by omega, by omega, by omega, by omega, by omega, by omega, by omega, by omega, by omega, by omega⟩ (x := uc) (by omega) (by omega) (pu_e (by omega)) (pu_e (by omega)) (Or.inr (pu_310 (by omega) rfl)) (congrArg iI p13_0) (rfl) (cvI (congrArg iI p16_0) (by omega))) fun v Mx19 w Nx19 hx19 => ?_
            rcases hx19 with ⟨i19, e19, u19, uc19, G19, U19, X19, fl19, fr19, sc19, sr19, rw19, bd19, mv19, ag19, au19, ax19, tp19, dp19, kv19⟩ | ⟨F19, P19, fl19, fr19, tc19, tr19⟩
            ·
              have FL19 : Fr W_cp Mc Mx19 := Fr.t f13 fl19
              have FR19 : Fr W_rx Mr Nx19 := Fr.t f16 fr19
              obtain ⟨bb19_0, bb19_1, bb19_2, bb19_3, bb19_4, bb19_5, bb19_6, bb19_7, bb19_8, bb19_9, bb19_10, bb19_11⟩ := bd19
              obtain ⟨q19_12, q19_13, q19_10, q19_9, q19_16, q19_19⟩ := sc19
              obtain ⟨w19_36, w19_37, w19_38, w19_41, w19_43, w19_51, w19_53, w19_50, w19_n⟩ := sr19
              obtain ⟨ca19, ra19, lc19, lr19, cu19, ru19⟩ := rw19
              have hk20 := (hS.ok i19 (by omega) (by omega)).r
              have ku19 := KU.t (KU.us kua p13_1 g13 (by decide) (by omega)) kv19 (by omega)
              have ty21 := Tye.t (d3 := 1) ty2 ag19 tp19 (by omega)
              have du22 := DU.cu (w := u) dp19 (by omega)
              refine rsl (cV_e rfl) ?_
              refine rsr (cV_e rfl) ?_
              refine rsl (jv_e) ?_
              refine rsr (jv_e) ?_
              exact Rs.ok (Or.inl ⟨i19, e19, u19, uc19, G19, U19, X19, FL19, FR19, ⟨q19_12, q19_13, q19_10, q19_9, q19_16, q19_19⟩, ⟨w19_36, w19_37, w19_38, w19_41, w19_43, w19_51, w19_53, w19_50, w19_n⟩, ⟨ca19, ra19, lc19, lr19, cu19, ru19⟩, ⟨by omega, by omega, by omega, by omega, by omega, by omega, by omega, by omega, by omega, by omega, by omega, by omega⟩, ⟨by omega, by omega, by omega, by omega, by omega, by omega⟩, (Ag.t Ag.r ag19 (by omega)), (Ag.t (Ag.pu Ag.r (by omega)) au19 (by omega)), (AgL.t (AgL.pu AgL.r (by omega)) ax19 (by omega)), ty21, du22, ku19⟩)
            ·
              have FL19 : Fr W_cp Mc Mx19 := Fr.t f13 fl19
              have FR19 : Fr W_rp Mr Nx19 := Fr.t (Fr.m f16 W_rx_p) fr19
              obtain ⟨ti19, tz19, tn19, tu19, t1319, t1019, t1119, t1219, t919, t1619, t1919, tb19⟩ := tc19
              obtain ⟨re19, rn19, ru19, rm19, rt19, u4119, u4219, u4319, u5119, u5319, u4819, u4919, ub19⟩ := tr19
              refine rsl (cV_e rfl) ?_
              refine rsr (cV_e rfl) ?_
              refine rsl (jv_e) ?_
              refine rsr (jv_e) ?_
              exact Rs.ok (Or.inr ⟨F19, P19, FL19, FR19, ⟨ti19, tz19, tn19, tu19, t1319, t1019, t1119, t1219, t919, t1619, t1919, by omega⟩, ⟨re19, rn19, ru19, rm19, rt19, u4119, u4219, u4319, u5119, u5319, u4819, u4919, by omega⟩⟩)
          ·
            refine RrI (a197 (by omega) (hR.fr f16) ((g16.i _ _ (by decide)).trans (wa_51)) (lra.fr g16 (by decide)) (by omega)) fun v Nl18 hl18 => ?_
            obtain ⟨r9, rfl, hMl, hr9⟩ := hl18
            rw [hMl]
            have q9 := LcF.one hr9 hrl
            rw [q9]
            refine rsr (cI_e rfl) ?_
            refine rsr (jv_e) ?_
            try dsimp only
            refine rsr (gtI_q (w := iI ((kr (kd (i + 3))))) (rk_160 (hR.fr f16)) (e16_k1)) ?_
            refine rsr (jn_v) ?_
            refine rsr (if_pos (krI_p (k := 40) (rfl) (li_40) (by omega) (by decide +kernel))) ?_
            refine rsr (vC_e (rk_160 (hR.fr f16))) ?_
            refine Rb_VV (hCl _ _ (by omega) (by omega) T n m kd pl E tx ua ut mu _ _ G (pu U u [uc, (V Mr 201 u.toNat), (V Mr 200 u.toNat), (pl i), (pl (i + 2)), (V Mr 206 u.toNat), ut, 0, (V Mc 79 uc.toNat), (V Mc 80 uc.toNat), (pl i)]) Hl (pux X u [(tx i), (tx (i + 2))]) (i + 3) e s (u + 1) (uc + 1) _ _ _ hS (hCx.fr f13 f16) ⟨e13_k0, e13_k2, e13_k3, (g13.i _ _ (by decide)).trans (qa_9), (g13.i _ _ (by decide)).trans (qa_16), e13_k1⟩ ⟨e16_k1, e16_k2, e16_k3, e16_k4, (g16.i _ _ (by decide)).trans (wa_43), (g16.i _ _ (by decide)).trans (wa_51), e16_k0, (g16.i _ _ (by decide)).trans (wa_50), p16_2⟩ ⟨(caa.fr g13 (by decide)), (raa.fr g16 (by decide)), (lca.fr g13 (by decide)), (lra.fr g16 (by decide)), (CU.add cua (by omega) (by omega) p13_1 rfl rfl), (RU.add rua (by omega) p16_1 rfl)⟩ ⟨by omega, by omega, by omega, by omega, by omega, by omega, by omega, by omega, by omega, by omega, by omega, by omega⟩ (x := uc) (by omega) (by omega) (pu_e (by omega)) (pu_e (by omega)) (Or.inr (pu_310 (by omega) rfl)) (congrArg iI p13_0) (rfl) (cvI (congrArg iI p16_0) (by omega))) fun v Mx23 w Nx23 hx23 => ?_
            rcases hx23 with ⟨i23, e23, u23, uc23, G23, U23, X23, fl23, fr23, sc23, sr23, rw23, bd23, mv23, ag23, au23, ax23, tp23, dp23, kv23⟩ | ⟨F23, P23, fl23, fr23, tc23, tr23⟩
            ·
              have FL23 : Fr W_cp Mc Mx23 := Fr.t f13 fl23
              have FR23 : Fr W_rx Mr Nx23 := Fr.t f16 fr23
              obtain ⟨bb23_0, bb23_1, bb23_2, bb23_3, bb23_4, bb23_5, bb23_6, bb23_7, bb23_8, bb23_9, bb23_10, bb23_11⟩ := bd23
              obtain ⟨q23_12, q23_13, q23_10, q23_9, q23_16, q23_19⟩ := sc23
              obtain ⟨w23_36, w23_37, w23_38, w23_41, w23_43, w23_51, w23_53, w23_50, w23_n⟩ := sr23
              obtain ⟨ca23, ra23, lc23, lr23, cu23, ru23⟩ := rw23
              have hk24 := (hS.ok i23 (by omega) (by omega)).r
              have ku23 := KU.t (KU.us kua p13_1 g13 (by decide) (by omega)) kv23 (by omega)
              have ty25 := Tye.t (d3 := 1) ty2 ag23 tp23 (by omega)
              have du26 := DU.cu (w := u) dp23 (by omega)
              refine rsl (cV_e rfl) ?_
              refine rsr (cV_e rfl) ?_
              refine rsl (jv_e) ?_
              refine rsr (jv_e) ?_
              exact Rs.ok (Or.inl ⟨i23, e23, u23, uc23, G23, U23, X23, FL23, FR23, ⟨q23_12, q23_13, q23_10, q23_9, q23_16, q23_19⟩, ⟨w23_36, w23_37, w23_38, w23_41, w23_43, w23_51, w23_53, w23_50, w23_n⟩, ⟨ca23, ra23, lc23, lr23, cu23, ru23⟩, ⟨by omega, by omega, by omega, by omega, by omega, by omega, by omega, by omega, by omega, by omega, by omega, by omega⟩, ⟨by omega, by omega, by omega, by omega, by omega, by omega⟩, (Ag.t Ag.r ag23 (by omega)), (Ag.t (Ag.pu Ag.r (by omega)) au23 (by omega)), (AgL.t (AgL.pu AgL.r (by omega)) ax23 (by omega)), ty25, du26, ku23⟩)
            ·
              have FL23 : Fr W_cp Mc Mx23 := Fr.t f13 fl23
              have FR23 : Fr W_rp Mr Nx23 := Fr.t (Fr.m f16 W_rx_p) fr23
              obtain ⟨ti23, tz23, tn23, tu23, t1323, t1023, t1123, t1223, t923, t1623, t1923, tb23⟩ := tc23
              obtain ⟨re23, rn23, ru23, rm23, rt23, u4123, u4223, u4323, u5123, u5323, u4823, u4923, ub23⟩ := tr23
              refine rsl (cV_e rfl) ?_
              refine rsr (cV_e rfl) ?_
              refine rsl (jv_e) ?_
              refine rsr (jv_e) ?_
              exact Rs.ok (Or.inr ⟨F23, P23, FL23, FR23, ⟨ti23, tz23, tn23, tu23, t1323, t1023, t1123, t1223, t923, t1623, t1923, by omega⟩, ⟨re23, rn23, ru23, rm23, rt23, u4123, u4223, u4323, u5123, u5323, u4823, u4923, by omega⟩⟩)
        ·
          refine rsr (if_neg (lgc_n (rfl) (rfl) c17)) ?_
          refine rsr (jv_e) ?_
          try dsimp only
          refine rsr (gtI_q (w := iI ((kr (kd (i + 3))))) (rk_160 (hR.fr f16)) (e16_k1)) ?_
          refine rsr (jn_v) ?_
          refine rsr (if_pos (krI_p (k := 40) (rfl) (li_40) (by omega) (by decide +kernel))) ?_
          refine rsr (vC_e (rk_160 (hR.fr f16))) ?_
          refine Rb_VV (hCl _ _ (by omega) (by omega) T n m kd pl E tx ua ut mu _ _ G (pu U u [uc, (V Mr 201 u.toNat), (V Mr 200 u.toNat), (pl i), (pl (i + 2)), (V Mr 206 u.toNat), ut, 0, (V Mc 79 uc.toNat), (V Mc 80 uc.toNat), (pl i)]) Hl (pux X u [(tx i), (tx (i + 2))]) (i + 3) e s (u + 1) (uc + 1) _ _ _ hS (hCx.fr f13 f16) ⟨e13_k0, e13_k2, e13_k3, (g13.i _ _ (by decide)).trans (qa_9), (g13.i _ _ (by decide)).trans (qa_16), e13_k1⟩ ⟨e16_k1, e16_k2, e16_k3, e16_k4, (g16.i _ _ (by decide)).trans (wa_43), (g16.i _ _ (by decide)).trans (wa_51), e16_k0, (g16.i _ _ (by decide)).trans (wa_50), p16_2⟩ ⟨(caa.fr g13 (by decide)), (raa.fr g16 (by decide)), (lca.fr g13 (by decide)), (lra.fr g16 (by decide)), (CU.add cua (by omega) (by omega) p13_1 rfl rfl), (RU.add rua (by omega) p16_1 rfl)⟩ ⟨by omega, by omega, by omega, by omega, by omega, by omega, by omega, by omega, by omega, by omega, by omega, by omega⟩ (x := uc) (by omega) (by omega) (pu_e (by omega)) (pu_e (by omega)) (Or.inr (pu_310 (by omega) rfl)) (congrArg iI p13_0) (rfl) (cvI (congrArg iI p16_0) (by omega))) fun v Mx27 w Nx27 hx27 => ?_
          rcases hx27 with ⟨i27, e27, u27, uc27, G27, U27, X27, fl27, fr27, sc27, sr27, rw27, bd27, mv27, ag27, au27, ax27, tp27, dp27, kv27⟩ | ⟨F27, P27, fl27, fr27, tc27, tr27⟩
          ·
            have FL27 : Fr W_cp Mc Mx27 := Fr.t f13 fl27
            have FR27 : Fr W_rx Mr Nx27 := Fr.t f16 fr27
            obtain ⟨bb27_0, bb27_1, bb27_2, bb27_3, bb27_4, bb27_5, bb27_6, bb27_7, bb27_8, bb27_9, bb27_10, bb27_11⟩ := bd27
            obtain ⟨q27_12, q27_13, q27_10, q27_9, q27_16, q27_19⟩ := sc27
            obtain ⟨w27_36, w27_37, w27_38, w27_41, w27_43, w27_51, w27_53, w27_50, w27_n⟩ := sr27
            obtain ⟨ca27, ra27, lc27, lr27, cu27, ru27⟩ := rw27
            have hk28 := (hS.ok i27 (by omega) (by omega)).r
            have ku27 := KU.t (KU.us kua p13_1 g13 (by decide) (by omega)) kv27 (by omega)
            have ty29 := Tye.t (d3 := 1) ty2 ag27 tp27 (by omega)
            have du30 := DU.cu (w := u) dp27 (by omega)
            refine rsl (cV_e rfl) ?_
            refine rsr (cV_e rfl) ?_
            refine rsl (jv_e) ?_
            refine rsr (jv_e) ?_
            exact Rs.ok (Or.inl ⟨i27, e27, u27, uc27, G27, U27, X27, FL27, FR27, ⟨q27_12, q27_13, q27_10, q27_9, q27_16, q27_19⟩, ⟨w27_36, w27_37, w27_38, w27_41, w27_43, w27_51, w27_53, w27_50, w27_n⟩, ⟨ca27, ra27, lc27, lr27, cu27, ru27⟩, ⟨by omega, by omega, by omega, by omega, by omega, by omega, by omega, by omega, by omega, by omega, by omega, by omega⟩, ⟨by omega, by omega, by omega, by omega, by omega, by omega⟩, (Ag.t Ag.r ag27 (by omega)), (Ag.t (Ag.pu Ag.r (by omega)) au27 (by omega)), (AgL.t (AgL.pu AgL.r (by omega)) ax27 (by omega)), ty29, du30, ku27⟩)
          ·
            have FL27 : Fr W_cp Mc Mx27 := Fr.t f13 fl27
            have FR27 : Fr W_rp Mr Nx27 := Fr.t (Fr.m f16 W_rx_p) fr27
            obtain ⟨ti27, tz27, tn27, tu27, t1327, t1027, t1127, t1227, t927, t1627, t1927, tb27⟩ := tc27
            obtain ⟨re27, rn27, ru27, rm27, rt27, u4127, u4227, u4327, u5127, u5327, u4827, u4927, ub27⟩ := tr27
            refine rsl (cV_e rfl) ?_
            refine rsr (cV_e rfl) ?_
            refine rsl (jv_e) ?_
            refine rsr (jv_e) ?_
            exact Rs.ok (Or.inr ⟨F27, P27, FL27, FR27, ⟨ti27, tz27, tn27, tu27, t1327, t1027, t1127, t1227, t927, t1627, t1927, by omega⟩, ⟨re27, rn27, ru27, rm27, rt27, u4127, u4227, u4327, u5127, u5327, u4827, u4927, by omega⟩⟩)
      · refine rsl (if_neg (eqI_n (rfl) (li_40) (by omega))) ?_
        refine rsl (gtI_q (w := iI ((kd (i + 3)))) (ck_65 (hC.fr f13)) (e13_k2)) ?_
        by_cases c31 : ((kd (i + 3))) = 91
        · refine rsl (if_pos (eqI_p (rfl) (li_91) (by omega))) ?_
          refine rsl (vC_e (ck_65 (hC.fr f13))) ?_
          refine rsr (vC_e (rk_160 hR)) ?_
          refine RrI (a201_d (by omega) hS hR (hT.fr (W := W_rx) Fr.r (by decide) (by decide)) (fun i a b => (Fr.lc (W := W_rx) Fr.r _ (by decide) _).trans (hW i a b)) (wa_36) (wa_37) (wa_38) (wa_41) (h49) (wa_53) wa_n (by omega)) fun v Ma33 h33 => ?_
          obtain ⟨r32, rfl, g33, e33_k0, e33_k1, e33_k2, e33_k3, e33_k4, p33_0, p33_1, p33_2⟩ := h33
          have f33 : Fr W_rx Mr Ma33 := Fr.t Fr.r (Fr.m g33 (by decide))
          refine rsr (cI_e rfl) ?_
          refine rsr (gtI_q (w := iI 0) (rk_160 (hR.fr f33)) (e33_k4)) ?_
          refine rsr (if_pos (eqI_p (rfl) (li_0) (by omega))) ?_
          refine rsr (gtP_q (w := some 202) (rk_160 (hR.fr f33)) (rf_56 (hR.fr f33))) ?_
          refine rsr (alL_q (n := 2000) (z := u) (w := (tx i)) (rk_202 (hR.fr f33)) (congrArg iI p33_0) (by omega) (p33_1.2.2.2.1)) ?_
          refine rsr (jn_v) ?_
          by_cases c34 : (tx i) = (0 : Int64)
          ·
            refine rsr (if_pos (lgc_p (rfl) (rfl) c34)) ?_
            refine rsr (gtP_q (w := some 204) (rk_160 (hR.fr f33)) (rf_58 (hR.fr f33))) ?_
            refine rsr (alL_q (n := 2000) (z := u) (w := (tx (i + 2))) (rk_204 (hR.fr f33)) (congrArg iI p33_0) (by omega) (p33_1.2.2.2.2.2.1)) ?_
            refine rsr (vC_e (rk_160 (hR.fr f33))) ?_
            obtain ⟨rl, hrl⟩ : ∃ r, LcF Hl s (tx (i + 2)) r := by have q := LcF_ex (Hl := Hl) (y := (tx (i + 2))) s.toNat; rw [show ((s.toNat : Nat) : Int) = s by omega] at q; exact q
            have brl := hrl.bd
            by_cases crl : rl = -1
            ·
              subst crl
              refine RrI (a197 (by omega) (hR.fr f33) ((g33.i _ _ (by decide)).trans (wa_51)) (lra.fr g33 (by decide)) (by omega)) fun v Nl35 hl35 => ?_
              obtain ⟨r9, rfl, hMl, hr9⟩ := hl35
              rw [hMl]
              have q9 := LcF.one hr9 hrl
              rw [q9]
              refine rsr (cI_e rfl) ?_
              refine rsr (jv_e) ?_
              try dsimp only
              refine rsr (gtI_q (w := iI ((kr (kd (i + 3))))) (rk_160 (hR.fr f33)) (e33_k1)) ?_
              refine rsr (jn_v) ?_
              refine rsr (if_neg (krI_n (k := 40) (rfl) (li_40) (hS.ok (i + 3) (by omega) (by omega)) (by unfold KdOK sgk; omega) (by decide +kernel) (by omega) (by omega))) ?_
              refine rsr (gtI_q (w := iI ((kr (kd (i + 3))))) (rk_160 (hR.fr f33)) (e33_k1)) ?_
              refine rsr (if_pos (krI_p (k := 91) (rfl) (li_91) (by omega) (by decide +kernel))) ?_
              refine rsr (vC_e (rk_160 (hR.fr f33))) ?_
              refine Rb_VV (hX _ _ (by omega) (by omega) T n m kd pl E tx ua ut mu _ _ G (pu U u [uc, (V Mr 201 u.toNat), (V Mr 200 u.toNat), (pl i), (pl (i + 2)), (V Mr 206 u.toNat), ut, 0, (V Mc 79 uc.toNat), (V Mc 80 uc.toNat), (pl i)]) Hl (pux X u [(tx i), (tx (i + 2))]) (i + 3) e s (u + 1) (uc + 1) _ hS (hCx.fr f13 f33) ⟨e13_k0, e13_k2, e13_k3, (g13.i _ _ (by decide)).trans (qa_9), (g13.i _ _ (by decide)).trans (qa_16), e13_k1⟩ ⟨e33_k1, e33_k2, e33_k3, e33_k4, (g33.i _ _ (by decide)).trans (wa_43), (g33.i _ _ (by decide)).trans (wa_51), e33_k0, (g33.i _ _ (by decide)).trans (wa_50), p33_2⟩ ⟨(caa.fr g13 (by decide)), (raa.fr g33 (by decide)), (lca.fr g13 (by decide)), (lra.fr g33 (by decide)), (CU.add cua (by omega) (by omega) p13_1 rfl rfl), (RU.add rua (by omega) p33_1 rfl)⟩ ⟨by omega, by omega, by omega, by omega, by omega, by omega, by omega, by omega, by omega, by omega, by omega, by omega⟩ (by omega) (vs1 (rfl))) fun v Mx36 w Nx36 hx36 => ?_
              rcases hx36 with ⟨i36, e36, u36, uc36, G36, U36, X36, fl36, fr36, sc36, sr36, rw36, bd36, mv36, ag36, au36, ax36, tp36, dp36, kv36⟩ | ⟨F36, P36, fl36, fr36, tc36, tr36⟩
              ·
                have FL36 : Fr W_cp Mc Mx36 := Fr.t f13 fl36
                have FR36 : Fr W_rx Mr Nx36 := Fr.t f33 fr36
                obtain ⟨bb36_0, bb36_1, bb36_2, bb36_3, bb36_4, bb36_5, bb36_6, bb36_7, bb36_8, bb36_9, bb36_10, bb36_11⟩ := bd36
                obtain ⟨q36_12, q36_13, q36_10, q36_9, q36_16, q36_19⟩ := sc36
                obtain ⟨w36_36, w36_37, w36_38, w36_41, w36_43, w36_51, w36_53, w36_50, w36_n⟩ := sr36
                obtain ⟨ca36, ra36, lc36, lr36, cu36, ru36⟩ := rw36
                have hk37 := (hS.ok i36 (by omega) (by omega)).r
                have ku36 := KU.t (KU.us kua p13_1 g13 (by decide) (by omega)) kv36 (by omega)
                have ty38 := Tye.t (d3 := 1) ty2 ag36 tp36 (by omega)
                have du39 := DU.t (DU.r (ut := ut) (mu := mu) (c := uc) (G := G) (a := e) (u := (u + 1))) ag36 au36 ax36 dp36 (by omega)
                refine rsl (cV_e rfl) ?_
                refine rsr (cV_e rfl) ?_
                refine rsl (vC_e (ck_65 (hC.fr FL36))) ?_
                have ty41 := Tye.em (d := 1) (d' := 1) (q := (e36 + 1)) (n1 := 0) (ut := ut) (mu := mu) (l := []) ty38 (Or.inr (Or.inr (Or.inr (Or.inr (Or.inl (by omega))))) : Eff 5 u 0 1 s 1 s) (by omega) ⟨by omega, by omega⟩ (by omega)
                have du42 := DU.set (U := U36) (X := X36) (c := uc) (b1 := 2) (p := 3) (q := (e36 + 1)) (u := u) (o := 5) (n1 := 0) (p1 := -2) (n3 := u) (l := []) (g := 0) du39 (by omega) (by omega) (by omega) (by omega) (fun q => absurd q (by decide)) (Int.le_of_eq (Eq.symm ((au36 0 _ (by omega)).trans (pu_e rfl)))) ((au36 6 _ (by omega)).trans (pu_e (by omega))) (U3tr (ax36 0 _ (by omega)) (au36 3 _ (by omega)) (au36 10 _ (by omega)) (Or.inr (pu_310 (by omega) rfl))) (by omega) (by omega)
                refine RlV (a105 (by omega) (hC.fr FL36) (q36_9) (congrArg iI p13_0) (li_3) (li_5) (by omega)) fun v Ma43 h43 => ?_
                obtain ⟨g43, e43_k0, p43_0, p43_1⟩ := h43
                have f43 : Fr W_cp Mc Ma43 := Fr.t FL36 (Fr.m g43 (by decide))
                refine rsl (cV_e rfl) ?_
                refine rsl (jv_e) ?_
                refine rsr (vC_e (rk_160 (hR.fr FR36))) ?_
                refine RrV (a202 (by omega) (hR.fr FR36) (w36_43) ((FR36.i _ _ (by decide)).trans h49) ((FR36.i _ _ (by decide)).trans h48) (congrArg iI p33_0) (li_2) (li_5) (by omega)) fun v Ma44 h44 => ?_
                obtain ⟨g44, e44_k0, p44_0, p44_1⟩ := h44
                have f44 : Fr W_rx Mr Ma44 := Fr.t FR36 (Fr.m g44 (by decide))
                refine rsr (cV_e rfl) ?_
                refine rsr (jv_e) ?_
                exact Rs.ok (Or.inl ⟨i36, (e36 + 1), u36, uc36, (pu G36 e36 [5, 0, -2, u, ut, mu, 0]), (ps U36 u 2 3 e36), X36, f43, f44, ⟨(g43.i _ _ (by decide)).trans (q36_12), (g43.i _ _ (by decide)).trans (q36_13), (g43.i _ _ (by decide)).trans (q36_10), e43_k0, (g43.i _ _ (by decide)).trans (q36_16), (g43.i _ _ (by decide)).trans (q36_19)⟩, ⟨(g44.i _ _ (by decide)).trans (w36_36), (g44.i _ _ (by decide)).trans (w36_37), (g44.i _ _ (by decide)).trans (w36_38), (g44.i _ _ (by decide)).trans (w36_41), e44_k0, (g44.i _ _ (by decide)).trans (w36_51), (g44.i _ _ (by decide)).trans (w36_53), (g44.i _ _ (by decide)).trans (w36_50), (w36_n.fr g44 (by decide) (by decide))⟩, ⟨(CA1.em ca36 (by omega) p43_0 rfl), (RA1.em ra36 (by omega) p44_0 rfl), (lc36.fr g43 (by decide)), (lr36.fr g44 (by decide)), (CU.set (b := 2) cu36 ⟨by omega, by omega⟩ ((au36 0 _ (by omega)).trans (pu_e rfl)) p43_1 g43 (by decide)), (RU.set ru36 ⟨by omega, by omega⟩ p44_1 g44 (by decide))⟩, ⟨by omega, by omega, by omega, by omega, by omega, by omega, by omega, by omega, by omega, by omega, by omega, by omega⟩, ⟨by omega, by omega, by omega, by omega, by omega, by omega⟩, (Ag.pu (Ag.t Ag.r ag36 (by omega)) (by omega)), (Ag.ps (Ag.t (Ag.pu Ag.r (by omega)) au36 (by omega)) (by omega)), (AgL.t (AgL.pu AgL.r (by omega)) ax36 (by omega)), ty41, du42, (ku36.fr g43 (by decide))⟩)
              ·
                have FL36 : Fr W_cp Mc Mx36 := Fr.t f13 fl36
                have FR36 : Fr W_rp Mr Nx36 := Fr.t (Fr.m f33 W_rx_p) fr36
                obtain ⟨ti36, tz36, tn36, tu36, t1336, t1036, t1136, t1236, t936, t1636, t1936, tb36⟩ := tc36
                obtain ⟨re36, rn36, ru36, rm36, rt36, u4136, u4236, u4336, u5136, u5336, u4836, u4936, ub36⟩ := tr36
                refine rsl (cV_e rfl) ?_
                refine rsr (cV_e rfl) ?_
                refine rsl (vC_e (ck_65 (hC.fr FL36))) ?_
                refine RlV (y105 (by omega) (hC.fr FL36) (hTk.fr (WL := W_cp) FL36 (by decide)) (t1236) (t1336) (t1036) (t1136) (t936) (t1636) (t1936) (congrArg iI p13_0) (li_3) (li_5) (by omega)) fun v Ma46 h46 => ?_
                obtain ⟨sz45, sn45, uc45, g46, e46_sz45, e46_sn45, e46_uc45, e46_k0, e46_k1, e46_k2, e46_k3, p46_0, p46_1, p46_2⟩ := h46
                have f46 : Fr W_cp Mc Ma46 := Fr.t FL36 (Fr.m g46 (by decide))
                refine rsl (cV_e rfl) ?_
                refine rsl (jv_e) ?_
                refine rsr (vC_e (rk_160 (hR.fr FR36))) ?_
                refine RrV (x202_s (by omega) (hR.fr FR36) (u4136) (u4236) (u4336) (u5136) (u5336) (u4836) (u4936) (congrArg iI p33_0) (li_2) (li_5) (by omega)) fun v Ma48 h48 => ?_
                obtain ⟨em47, g48, e48_em47, e48_k0, e48_k1, e48_k2, e48_k3, e48_k4, p48_0⟩ := h48
                have f48 : Fr W_rp Mr Ma48 := Fr.t FR36 (Fr.m g48 (by decide))
                refine rsr (cV_e rfl) ?_
                refine rsr (jv_e) ?_
                exact Rs.ok (Or.inr ⟨F36, P36, f46, f48, ⟨ti36, sz45, sn45, uc45, e46_k0, e46_k1, e46_k2, e46_k3, e46_sz45, e46_sn45, e46_uc45, by omega⟩, ⟨em47, rn36, ru36, rm36, rt36, e48_k0, e48_k1, e48_em47, e48_k2, e48_k3, e48_k4, (g48.i _ _ (by decide)).trans (u4936), by omega⟩⟩)
            ·
              refine RrI (a197 (by omega) (hR.fr f33) ((g33.i _ _ (by decide)).trans (wa_51)) (lra.fr g33 (by decide)) (by omega)) fun v Nl35 hl35 => ?_
              obtain ⟨r9, rfl, hMl, hr9⟩ := hl35
              rw [hMl]
              have q9 := LcF.one hr9 hrl
              rw [q9]
              refine rsr (cI_e rfl) ?_
              refine rsr (jv_e) ?_
              try dsimp only
              refine rsr (gtI_q (w := iI ((kr (kd (i + 3))))) (rk_160 (hR.fr f33)) (e33_k1)) ?_
              refine rsr (jn_v) ?_
              refine rsr (if_neg (krI_n (k := 40) (rfl) (li_40) (hS.ok (i + 3) (by omega) (by omega)) (by unfold KdOK sgk; omega) (by decide +kernel) (by omega) (by omega))) ?_
              refine rsr (gtI_q (w := iI ((kr (kd (i + 3))))) (rk_160 (hR.fr f33)) (e33_k1)) ?_
              refine rsr (if_pos (krI_p (k := 91) (rfl) (li_91) (by omega) (by decide +kernel))) ?_
              refine rsr (vC_e (rk_160 (hR.fr f33))) ?_
              refine Rb_VV (hX _ _ (by omega) (by omega) T n m kd pl E tx ua ut mu _ _ G (pu U u [uc, (V Mr 201 u.toNat), (V Mr 200 u.toNat), (pl i), (pl (i + 2)), (V Mr 206 u.toNat), ut, 0, (V Mc 79 uc.toNat), (V Mc 80 uc.toNat), (pl i)]) Hl (pux X u [(tx i), (tx (i + 2))]) (i + 3) e s (u + 1) (uc + 1) _ hS (hCx.fr f13 f33) ⟨e13_k0, e13_k2, e13_k3, (g13.i _ _ (by decide)).trans (qa_9), (g13.i _ _ (by decide)).trans (qa_16), e13_k1⟩ ⟨e33_k1, e33_k2, e33_k3, e33_k4, (g33.i _ _ (by decide)).trans (wa_43), (g33.i _ _ (by decide)).trans (wa_51), e33_k0, (g33.i _ _ (by decide)).trans (wa_50), p33_2⟩ ⟨(caa.fr g13 (by decide)), (raa.fr g33 (by decide)), (lca.fr g13 (by decide)), (lra.fr g33 (by decide)), (CU.add cua (by omega) (by omega) p13_1 rfl rfl), (RU.add rua (by omega) p33_1 rfl)⟩ ⟨by omega, by omega, by omega, by omega, by omega, by omega, by omega, by omega, by omega, by omega, by omega, by omega⟩ (by omega) (vs1 (rfl))) fun v Mx49 w Nx49 hx49 => ?_
              rcases hx49 with ⟨i49, e49, u49, uc49, G49, U49, X49, fl49, fr49, sc49, sr49, rw49, bd49, mv49, ag49, au49, ax49, tp49, dp49, kv49⟩ | ⟨F49, P49, fl49, fr49, tc49, tr49⟩
              ·
                have FL49 : Fr W_cp Mc Mx49 := Fr.t f13 fl49
                have FR49 : Fr W_rx Mr Nx49 := Fr.t f33 fr49
                obtain ⟨bb49_0, bb49_1, bb49_2, bb49_3, bb49_4, bb49_5, bb49_6, bb49_7, bb49_8, bb49_9, bb49_10, bb49_11⟩ := bd49
                obtain ⟨q49_12, q49_13, q49_10, q49_9, q49_16, q49_19⟩ := sc49
                obtain ⟨w49_36, w49_37, w49_38, w49_41, w49_43, w49_51, w49_53, w49_50, w49_n⟩ := sr49
                obtain ⟨ca49, ra49, lc49, lr49, cu49, ru49⟩ := rw49
                have hk50 := (hS.ok i49 (by omega) (by omega)).r
                have ku49 := KU.t (KU.us kua p13_1 g13 (by decide) (by omega)) kv49 (by omega)
                have ty51 := Tye.t (d3 := 1) ty2 ag49 tp49 (by omega)
                have du52 := DU.t (DU.r (ut := ut) (mu := mu) (c := uc) (G := G) (a := e) (u := (u + 1))) ag49 au49 ax49 dp49 (by omega)
                refine rsl (cV_e rfl) ?_
                refine rsr (cV_e rfl) ?_
                refine rsl (vC_e (ck_65 (hC.fr FL49))) ?_
                have ty54 := Tye.em (d := 1) (d' := 1) (q := (e49 + 1)) (n1 := 0) (ut := ut) (mu := mu) (l := []) ty51 (Or.inr (Or.inr (Or.inr (Or.inr (Or.inl (by omega))))) : Eff 5 u 0 1 s 1 s) (by omega) ⟨by omega, by omega⟩ (by omega)
                have du55 := DU.set (U := U49) (X := X49) (c := uc) (b1 := 2) (p := 3) (q := (e49 + 1)) (u := u) (o := 5) (n1 := 0) (p1 := -2) (n3 := u) (l := []) (g := 0) du52 (by omega) (by omega) (by omega) (by omega) (fun q => absurd q (by decide)) (Int.le_of_eq (Eq.symm ((au49 0 _ (by omega)).trans (pu_e rfl)))) ((au49 6 _ (by omega)).trans (pu_e (by omega))) (U3tr (ax49 0 _ (by omega)) (au49 3 _ (by omega)) (au49 10 _ (by omega)) (Or.inr (pu_310 (by omega) rfl))) (by omega) (by omega)
                refine RlV (a105 (by omega) (hC.fr FL49) (q49_9) (congrArg iI p13_0) (li_3) (li_5) (by omega)) fun v Ma56 h56 => ?_
                obtain ⟨g56, e56_k0, p56_0, p56_1⟩ := h56
                have f56 : Fr W_cp Mc Ma56 := Fr.t FL49 (Fr.m g56 (by decide))
                refine rsl (cV_e rfl) ?_
                refine rsl (jv_e) ?_
                refine rsr (vC_e (rk_160 (hR.fr FR49))) ?_
                refine RrV (a202 (by omega) (hR.fr FR49) (w49_43) ((FR49.i _ _ (by decide)).trans h49) ((FR49.i _ _ (by decide)).trans h48) (congrArg iI p33_0) (li_2) (li_5) (by omega)) fun v Ma57 h57 => ?_
                obtain ⟨g57, e57_k0, p57_0, p57_1⟩ := h57
                have f57 : Fr W_rx Mr Ma57 := Fr.t FR49 (Fr.m g57 (by decide))
                refine rsr (cV_e rfl) ?_
                refine rsr (jv_e) ?_
                exact Rs.ok (Or.inl ⟨i49, (e49 + 1), u49, uc49, (pu G49 e49 [5, 0, -2, u, ut, mu, 0]), (ps U49 u 2 3 e49), X49, f56, f57, ⟨(g56.i _ _ (by decide)).trans (q49_12), (g56.i _ _ (by decide)).trans (q49_13), (g56.i _ _ (by decide)).trans (q49_10), e56_k0, (g56.i _ _ (by decide)).trans (q49_16), (g56.i _ _ (by decide)).trans (q49_19)⟩, ⟨(g57.i _ _ (by decide)).trans (w49_36), (g57.i _ _ (by decide)).trans (w49_37), (g57.i _ _ (by decide)).trans (w49_38), (g57.i _ _ (by decide)).trans (w49_41), e57_k0, (g57.i _ _ (by decide)).trans (w49_51), (g57.i _ _ (by decide)).trans (w49_53), (g57.i _ _ (by decide)).trans (w49_50), (w49_n.fr g57 (by decide) (by decide))⟩, ⟨(CA1.em ca49 (by omega) p56_0 rfl), (RA1.em ra49 (by omega) p57_0 rfl), (lc49.fr g56 (by decide)), (lr49.fr g57 (by decide)), (CU.set (b := 2) cu49 ⟨by omega, by omega⟩ ((au49 0 _ (by omega)).trans (pu_e rfl)) p56_1 g56 (by decide)), (RU.set ru49 ⟨by omega, by omega⟩ p57_1 g57 (by decide))⟩, ⟨by omega, by omega, by omega, by omega, by omega, by omega, by omega, by omega, by omega, by omega, by omega, by omega⟩, ⟨by omega, by omega, by omega, by omega, by omega, by omega⟩, (Ag.pu (Ag.t Ag.r ag49 (by omega)) (by omega)), (Ag.ps (Ag.t (Ag.pu Ag.r (by omega)) au49 (by omega)) (by omega)), (AgL.t (AgL.pu AgL.r (by omega)) ax49 (by omega)), ty54, du55, (ku49.fr g56 (by decide))⟩)
              ·
                have FL49 : Fr W_cp Mc Mx49 := Fr.t f13 fl49
                have FR49 : Fr W_rp Mr Nx49 := Fr.t (Fr.m f33 W_rx_p) fr49
                obtain ⟨ti49, tz49, tn49, tu49, t1349, t1049, t1149, t1249, t949, t1649, t1949, tb49⟩ := tc49
                obtain ⟨re49, rn49, ru49, rm49, rt49, u4149, u4249, u4349, u5149, u5349, u4849, u4949, ub49⟩ := tr49
                refine rsl (cV_e rfl) ?_
                refine rsr (cV_e rfl) ?_
                refine rsl (vC_e (ck_65 (hC.fr FL49))) ?_
                refine RlV (y105 (by omega) (hC.fr FL49) (hTk.fr (WL := W_cp) FL49 (by decide)) (t1249) (t1349) (t1049) (t1149) (t949) (t1649) (t1949) (congrArg iI p13_0) (li_3) (li_5) (by omega)) fun v Ma59 h59 => ?_
                obtain ⟨sz58, sn58, uc58, g59, e59_sz58, e59_sn58, e59_uc58, e59_k0, e59_k1, e59_k2, e59_k3, p59_0, p59_1, p59_2⟩ := h59
                have f59 : Fr W_cp Mc Ma59 := Fr.t FL49 (Fr.m g59 (by decide))
                refine rsl (cV_e rfl) ?_
                refine rsl (jv_e) ?_
                refine rsr (vC_e (rk_160 (hR.fr FR49))) ?_
                refine RrV (x202_s (by omega) (hR.fr FR49) (u4149) (u4249) (u4349) (u5149) (u5349) (u4849) (u4949) (congrArg iI p33_0) (li_2) (li_5) (by omega)) fun v Ma61 h61 => ?_
                obtain ⟨em60, g61, e61_em60, e61_k0, e61_k1, e61_k2, e61_k3, e61_k4, p61_0⟩ := h61
                have f61 : Fr W_rp Mr Ma61 := Fr.t FR49 (Fr.m g61 (by decide))
                refine rsr (cV_e rfl) ?_
                refine rsr (jv_e) ?_
                exact Rs.ok (Or.inr ⟨F49, P49, f59, f61, ⟨ti49, sz58, sn58, uc58, e59_k0, e59_k1, e59_k2, e59_k3, e59_sz58, e59_sn58, e59_uc58, by omega⟩, ⟨em60, rn49, ru49, rm49, rt49, e61_k0, e61_k1, e61_em60, e61_k2, e61_k3, e61_k4, (g61.i _ _ (by decide)).trans (u4949), by omega⟩⟩)
          ·
            refine rsr (if_neg (lgc_n (rfl) (rfl) c34)) ?_
            refine rsr (jv_e) ?_
            try dsimp only
            refine rsr (gtI_q (w := iI ((kr (kd (i + 3))))) (rk_160 (hR.fr f33)) (e33_k1)) ?_
            refine rsr (jn_v) ?_
            refine rsr (if_neg (krI_n (k := 40) (rfl) (li_40) (hS.ok (i + 3) (by omega) (by omega)) (by unfold KdOK sgk; omega) (by decide +kernel) (by omega) (by omega))) ?_
            refine rsr (gtI_q (w := iI ((kr (kd (i + 3))))) (rk_160 (hR.fr f33)) (e33_k1)) ?_
            refine rsr (if_pos (krI_p (k := 91) (rfl) (li_91) (by omega) (by decide +kernel))) ?_
            refine rsr (vC_e (rk_160 (hR.fr f33))) ?_
            refine Rb_VV (hX _ _ (by omega) (by omega) T n m kd pl E tx ua ut mu _ _ G (pu U u [uc, (V Mr 201 u.toNat), (V Mr 200 u.toNat), (pl i), (pl (i + 2)), (V Mr 206 u.toNat), ut, 0, (V Mc 79 uc.toNat), (V Mc 80 uc.toNat), (pl i)]) Hl (pux X u [(tx i), (tx (i + 2))]) (i + 3) e s (u + 1) (uc + 1) _ hS (hCx.fr f13 f33) ⟨e13_k0, e13_k2, e13_k3, (g13.i _ _ (by decide)).trans (qa_9), (g13.i _ _ (by decide)).trans (qa_16), e13_k1⟩ ⟨e33_k1, e33_k2, e33_k3, e33_k4, (g33.i _ _ (by decide)).trans (wa_43), (g33.i _ _ (by decide)).trans (wa_51), e33_k0, (g33.i _ _ (by decide)).trans (wa_50), p33_2⟩ ⟨(caa.fr g13 (by decide)), (raa.fr g33 (by decide)), (lca.fr g13 (by decide)), (lra.fr g33 (by decide)), (CU.add cua (by omega) (by omega) p13_1 rfl rfl), (RU.add rua (by omega) p33_1 rfl)⟩ ⟨by omega, by omega, by omega, by omega, by omega, by omega, by omega, by omega, by omega, by omega, by omega, by omega⟩ (by omega) (vs1 (rfl))) fun v Mx62 w Nx62 hx62 => ?_
            rcases hx62 with ⟨i62, e62, u62, uc62, G62, U62, X62, fl62, fr62, sc62, sr62, rw62, bd62, mv62, ag62, au62, ax62, tp62, dp62, kv62⟩ | ⟨F62, P62, fl62, fr62, tc62, tr62⟩
            ·
              have FL62 : Fr W_cp Mc Mx62 := Fr.t f13 fl62
              have FR62 : Fr W_rx Mr Nx62 := Fr.t f33 fr62
              obtain ⟨bb62_0, bb62_1, bb62_2, bb62_3, bb62_4, bb62_5, bb62_6, bb62_7, bb62_8, bb62_9, bb62_10, bb62_11⟩ := bd62
              obtain ⟨q62_12, q62_13, q62_10, q62_9, q62_16, q62_19⟩ := sc62
              obtain ⟨w62_36, w62_37, w62_38, w62_41, w62_43, w62_51, w62_53, w62_50, w62_n⟩ := sr62
              obtain ⟨ca62, ra62, lc62, lr62, cu62, ru62⟩ := rw62
              have hk63 := (hS.ok i62 (by omega) (by omega)).r
              have ku62 := KU.t (KU.us kua p13_1 g13 (by decide) (by omega)) kv62 (by omega)
              have ty64 := Tye.t (d3 := 1) ty2 ag62 tp62 (by omega)
              have du65 := DU.t (DU.r (ut := ut) (mu := mu) (c := uc) (G := G) (a := e) (u := (u + 1))) ag62 au62 ax62 dp62 (by omega)
              refine rsl (cV_e rfl) ?_
              refine rsr (cV_e rfl) ?_
              refine rsl (vC_e (ck_65 (hC.fr FL62))) ?_
              have ty67 := Tye.em (d := 1) (d' := 1) (q := (e62 + 1)) (n1 := 0) (ut := ut) (mu := mu) (l := []) ty64 (Or.inr (Or.inr (Or.inr (Or.inr (Or.inl (by omega))))) : Eff 5 u 0 1 s 1 s) (by omega) ⟨by omega, by omega⟩ (by omega)
              have du68 := DU.set (U := U62) (X := X62) (c := uc) (b1 := 2) (p := 3) (q := (e62 + 1)) (u := u) (o := 5) (n1 := 0) (p1 := -2) (n3 := u) (l := []) (g := 0) du65 (by omega) (by omega) (by omega) (by omega) (fun q => absurd q (by decide)) (Int.le_of_eq (Eq.symm ((au62 0 _ (by omega)).trans (pu_e rfl)))) ((au62 6 _ (by omega)).trans (pu_e (by omega))) (U3tr (ax62 0 _ (by omega)) (au62 3 _ (by omega)) (au62 10 _ (by omega)) (Or.inr (pu_310 (by omega) rfl))) (by omega) (by omega)
              refine RlV (a105 (by omega) (hC.fr FL62) (q62_9) (congrArg iI p13_0) (li_3) (li_5) (by omega)) fun v Ma69 h69 => ?_
              obtain ⟨g69, e69_k0, p69_0, p69_1⟩ := h69
              have f69 : Fr W_cp Mc Ma69 := Fr.t FL62 (Fr.m g69 (by decide))
              refine rsl (cV_e rfl) ?_
              refine rsl (jv_e) ?_
              refine rsr (vC_e (rk_160 (hR.fr FR62))) ?_
              refine RrV (a202 (by omega) (hR.fr FR62) (w62_43) ((FR62.i _ _ (by decide)).trans h49) ((FR62.i _ _ (by decide)).trans h48) (congrArg iI p33_0) (li_2) (li_5) (by omega)) fun v Ma70 h70 => ?_
              obtain ⟨g70, e70_k0, p70_0, p70_1⟩ := h70
              have f70 : Fr W_rx Mr Ma70 := Fr.t FR62 (Fr.m g70 (by decide))
              refine rsr (cV_e rfl) ?_
              refine rsr (jv_e) ?_
              exact Rs.ok (Or.inl ⟨i62, (e62 + 1), u62, uc62, (pu G62 e62 [5, 0, -2, u, ut, mu, 0]), (ps U62 u 2 3 e62), X62, f69, f70, ⟨(g69.i _ _ (by decide)).trans (q62_12), (g69.i _ _ (by decide)).trans (q62_13), (g69.i _ _ (by decide)).trans (q62_10), e69_k0, (g69.i _ _ (by decide)).trans (q62_16), (g69.i _ _ (by decide)).trans (q62_19)⟩, ⟨(g70.i _ _ (by decide)).trans (w62_36), (g70.i _ _ (by decide)).trans (w62_37), (g70.i _ _ (by decide)).trans (w62_38), (g70.i _ _ (by decide)).trans (w62_41), e70_k0, (g70.i _ _ (by decide)).trans (w62_51), (g70.i _ _ (by decide)).trans (w62_53), (g70.i _ _ (by decide)).trans (w62_50), (w62_n.fr g70 (by decide) (by decide))⟩, ⟨(CA1.em ca62 (by omega) p69_0 rfl), (RA1.em ra62 (by omega) p70_0 rfl), (lc62.fr g69 (by decide)), (lr62.fr g70 (by decide)), (CU.set (b := 2) cu62 ⟨by omega, by omega⟩ ((au62 0 _ (by omega)).trans (pu_e rfl)) p69_1 g69 (by decide)), (RU.set ru62 ⟨by omega, by omega⟩ p70_1 g70 (by decide))⟩, ⟨by omega, by omega, by omega, by omega, by omega, by omega, by omega, by omega, by omega, by omega, by omega, by omega⟩, ⟨by omega, by omega, by omega, by omega, by omega, by omega⟩, (Ag.pu (Ag.t Ag.r ag62 (by omega)) (by omega)), (Ag.ps (Ag.t (Ag.pu Ag.r (by omega)) au62 (by omega)) (by omega)), (AgL.t (AgL.pu AgL.r (by omega)) ax62 (by omega)), ty67, du68, (ku62.fr g69 (by decide))⟩)
            ·
              have FL62 : Fr W_cp Mc Mx62 := Fr.t f13 fl62
              have FR62 : Fr W_rp Mr Nx62 := Fr.t (Fr.m f33 W_rx_p) fr62
              obtain ⟨ti62, tz62, tn62, tu62, t1362, t1062, t1162, t1262, t962, t1662, t1962, tb62⟩ := tc62
              obtain ⟨re62, rn62, ru62, rm62, rt62, u4162, u4262, u4362, u5162, u5362, u4862, u4962, ub62⟩ := tr62
              refine rsl (cV_e rfl) ?_
              refine rsr (cV_e rfl) ?_
              refine rsl (vC_e (ck_65 (hC.fr FL62))) ?_
              refine RlV (y105 (by omega) (hC.fr FL62) (hTk.fr (WL := W_cp) FL62 (by decide)) (t1262) (t1362) (t1062) (t1162) (t962) (t1662) (t1962) (congrArg iI p13_0) (li_3) (li_5) (by omega)) fun v Ma72 h72 => ?_
              obtain ⟨sz71, sn71, uc71, g72, e72_sz71, e72_sn71, e72_uc71, e72_k0, e72_k1, e72_k2, e72_k3, p72_0, p72_1, p72_2⟩ := h72
              have f72 : Fr W_cp Mc Ma72 := Fr.t FL62 (Fr.m g72 (by decide))
              refine rsl (cV_e rfl) ?_
              refine rsl (jv_e) ?_
              refine rsr (vC_e (rk_160 (hR.fr FR62))) ?_
              refine RrV (x202_s (by omega) (hR.fr FR62) (u4162) (u4262) (u4362) (u5162) (u5362) (u4862) (u4962) (congrArg iI p33_0) (li_2) (li_5) (by omega)) fun v Ma74 h74 => ?_
              obtain ⟨em73, g74, e74_em73, e74_k0, e74_k1, e74_k2, e74_k3, e74_k4, p74_0⟩ := h74
              have f74 : Fr W_rp Mr Ma74 := Fr.t FR62 (Fr.m g74 (by decide))
              refine rsr (cV_e rfl) ?_
              refine rsr (jv_e) ?_
              exact Rs.ok (Or.inr ⟨F62, P62, f72, f74, ⟨ti62, sz71, sn71, uc71, e72_k0, e72_k1, e72_k2, e72_k3, e72_sz71, e72_sn71, e72_uc71, by omega⟩, ⟨em73, rn62, ru62, rm62, rt62, e74_k0, e74_k1, e74_em73, e74_k2, e74_k3, e74_k4, (g74.i _ _ (by decide)).trans (u4962), by omega⟩⟩)
        · refine rsl (if_neg (eqI_n (rfl) (li_91) (by omega))) ?_
          refine rsl (vC_e (ck_65 (hC.fr f13))) ?_
          by_cases c75 : (tx i) = (0 : Int64)
          ·
            obtain ⟨rl, hrl⟩ : ∃ r, LcF Hl s (tx (i + 2)) r := by have q := LcF_ex (Hl := Hl) (y := (tx (i + 2))) s.toNat; rw [show ((s.toNat : Nat) : Int) = s by omega] at q; exact q
            have brl := hrl.bd
            by_cases crl : rl = -1
            ·
              subst crl
              have ty76 := Tye.em (d := 0) (d' := 1) (q := (e + 1)) (n1 := 0) (ut := ut) (mu := mu) (l := []) ty2 (Or.inl (by omega) : Eff 3 u 0 0 s 1 s) (by omega) ⟨by omega, by omega⟩ (by omega)
              have du77 := DU.set (U := (pu U u [uc, (V Mr 201 u.toNat), (V Mr 200 u.toNat), (pl i), (pl (i + 2)), (V Mr 206 u.toNat), ut, 0, (V Mc 79 uc.toNat), (V Mc 80 uc.toNat), (pl i)])) (X := (pux X u [(tx i), (tx (i + 2))])) (c := uc) (b1 := 0) (p := 1) (q := (e + 1)) (u := u) (o := 3) (n1 := 0) (p1 := -2) (n3 := u) (l := []) (g := 0) (DU.r (ut := ut) (mu := mu) (c := uc) (G := G) (a := e) (u := (u + 1))) (by omega) (by omega) (by omega) (by omega) (fun q => absurd q (by decide)) (Int.le_of_eq (Eq.symm (pu_e rfl))) (pu_e (by omega)) (Or.inr (pu_310 (by omega) rfl)) (by omega) (by omega)
              refine RlV (a106_n (by omega) (hC.fr f13) ((g13.i _ _ (by decide)).trans (qa_9)) (congrArg iI p13_0) (li_1) (li_1) (li_3) ((g13.i _ _ (by decide)).trans (qa_16)) (lca.fr g13 (by decide)) p13_1.2.2.2.2.2.2.2.1 p13_1.2.2.2.2.2.2.2.2 hrl c75 (by omega)) fun v Ma78 h78 => ?_
              obtain ⟨g78, e78_k0, p78_0, p78_1⟩ := h78
              have f78 : Fr W_cp Mc Ma78 := Fr.t f13 (Fr.m g78 (by decide))
              refine rsl (cV_e rfl) ?_
              refine rsl (jv_e) ?_
              refine rsr (vC_e (rk_160 hR)) ?_
              refine RrI (a201_d (by omega) hS hR (hT.fr (W := W_rx) Fr.r (by decide) (by decide)) (fun i a b => (Fr.lc (W := W_rx) Fr.r _ (by decide) _).trans (hW i a b)) (wa_36) (wa_37) (wa_38) (wa_41) (h49) (wa_53) wa_n (by omega)) fun v Ma80 h80 => ?_
              obtain ⟨r79, rfl, g80, e80_k0, e80_k1, e80_k2, e80_k3, e80_k4, p80_0, p80_1, p80_2⟩ := h80
              have f80 : Fr W_rx Mr Ma80 := Fr.t Fr.r (Fr.m g80 (by decide))
              refine rsr (cI_e rfl) ?_
              refine rsr (gtI_q (w := iI 0) (rk_160 (hR.fr f80)) (e80_k4)) ?_
              refine rsr (if_pos (eqI_p (rfl) (li_0) (by omega))) ?_
              refine rsr (gtP_q (w := some 202) (rk_160 (hR.fr f80)) (rf_56 (hR.fr f80))) ?_
              refine rsr (alL_q (n := 2000) (z := u) (w := (tx i)) (rk_202 (hR.fr f80)) (congrArg iI p80_0) (by omega) (p80_1.2.2.2.1)) ?_
              refine rsr (jn_v) ?_
              refine rsr (if_pos (lgc_p (rfl) (rfl) c75)) ?_
              refine rsr (gtP_q (w := some 204) (rk_160 (hR.fr f80)) (rf_58 (hR.fr f80))) ?_
              refine rsr (alL_q (n := 2000) (z := u) (w := (tx (i + 2))) (rk_204 (hR.fr f80)) (congrArg iI p80_0) (by omega) (p80_1.2.2.2.2.2.1)) ?_
              refine rsr (vC_e (rk_160 (hR.fr f80))) ?_
              refine RrI (a197 (by omega) (hR.fr f80) ((g80.i _ _ (by decide)).trans (wa_51)) (lra.fr g80 (by decide)) (by omega)) fun v Nl81 hl81 => ?_
              obtain ⟨r9, rfl, hMl, hr9⟩ := hl81
              rw [hMl]
              have q9 := LcF.one hr9 hrl
              rw [q9]
              refine rsr (cI_e rfl) ?_
              refine rsr (jv_e) ?_
              try dsimp only
              refine rsr (gtI_q (w := iI ((kr (kd (i + 3))))) (rk_160 (hR.fr f80)) (e80_k1)) ?_
              refine rsr (jn_v) ?_
              refine rsr (if_neg (krI_n (k := 40) (rfl) (li_40) (hS.ok (i + 3) (by omega) (by omega)) (by unfold KdOK sgk; omega) (by decide +kernel) (by omega) (by omega))) ?_
              refine rsr (gtI_q (w := iI ((kr (kd (i + 3))))) (rk_160 (hR.fr f80)) (e80_k1)) ?_
              refine rsr (if_neg (krI_n (k := 91) (rfl) (li_91) (hS.ok (i + 3) (by omega) (by omega)) (by unfold KdOK sgk; omega) (by decide +kernel) (by omega) (by omega))) ?_
              refine rsr (if_pos (lsI_p (congrArg iI (if_pos rfl)) (li_0) (by omega))) ?_
              refine rsr (vC_e (rk_160 (hR.fr f80))) ?_
              refine RrV (a202 (by omega) (hR.fr f80) ((g80.i _ _ (by decide)).trans (wa_43)) ((g80.i _ _ (by decide)).trans (h49)) ((g80.i _ _ (by decide)).trans (h48)) (congrArg iI p80_0) (li_0) (li_3) (by omega)) fun v Ma82 h82 => ?_
              obtain ⟨g82, e82_k0, p82_0, p82_1⟩ := h82
              have f82 : Fr W_rx Mr Ma82 := Fr.t f80 (Fr.m g82 (by decide))
              refine rsr (cV_e rfl) ?_
              refine rsr (jv_e) ?_
              exact Rs.ok (Or.inl ⟨(i + 3), (e + 1), (u + 1), (uc + 1), (pu G e [3, 0, -2, u, ut, mu, 0]), (ps (pu U u [uc, (V Mr 201 u.toNat), (V Mr 200 u.toNat), (pl i), (pl (i + 2)), (V Mr 206 u.toNat), ut, 0, (V Mc 79 uc.toNat), (V Mc 80 uc.toNat), (pl i)]) u 0 1 e), (pux X u [(tx i), (tx (i + 2))]), f78, f82, ⟨(g78.i _ _ (by decide)).trans (e13_k0), (g78.i _ _ (by decide)).trans (e13_k2), (g78.i _ _ (by decide)).trans (e13_k3), e78_k0, (g78.i _ _ (by decide)).trans ((g13.i _ _ (by decide)).trans (qa_16)), (g78.i _ _ (by decide)).trans (e13_k1)⟩, ⟨(g82.i _ _ (by decide)).trans (e80_k1), (g82.i _ _ (by decide)).trans (e80_k2), (g82.i _ _ (by decide)).trans (e80_k3), (g82.i _ _ (by decide)).trans (e80_k4), e82_k0, (g82.i _ _ (by decide)).trans ((g80.i _ _ (by decide)).trans (wa_51)), (g82.i _ _ (by decide)).trans (e80_k0), (g82.i _ _ (by decide)).trans ((g80.i _ _ (by decide)).trans (wa_50)), (p80_2.fr g82 (by decide) (by decide))⟩, ⟨(CA1.em (caa.fr g13 (by decide)) (by omega) p78_0 rfl), (RA1.em (raa.fr g80 (by decide)) (by omega) p82_0 rfl), ((lca.fr g13 (by decide)).fr g78 (by decide)), ((lra.fr g80 (by decide)).fr g82 (by decide)), (CU.set (b := 0) (CU.add cua (by omega) (by omega) p13_1 rfl rfl) ⟨by omega, by omega⟩ (pu_e rfl) p78_1 g78 (by decide)), (RU.set (RU.add rua (by omega) p80_1 rfl) ⟨by omega, by omega⟩ p82_1 g82 (by decide))⟩, ⟨by omega, by omega, by omega, by omega, by omega, by omega, by omega, by omega, by omega, by omega, by omega, by omega⟩, ⟨by omega, by omega, by omega, by omega, by omega, by omega⟩, (Ag.pu Ag.r (by omega)), (Ag.ps (Ag.pu Ag.r (by omega)) (by omega)), (AgL.pu AgL.r (by omega)), ty76, du77, ((KU.us kua p13_1 g13 (by decide) (by omega)).fr g78 (by decide))⟩)
            ·
              have ty83 := Tye.em (d := 0) (d' := 1) (q := (e + 1)) (n1 := rl) (ut := ut) (mu := mu) (l := []) ty2 (Or.inr (Or.inl (by omega)) : Eff 1 rl 0 0 s 1 s) (by omega) ⟨by omega, by omega⟩ (by omega)
              have du84 := DU.em (q := (e + 1)) (o := 1) (n := rl) (p := -2) (l := [0]) du3 (by omega) (by omega)
              refine RlV (a106_l (by omega) (hC.fr f13) ((g13.i _ _ (by decide)).trans (qa_9)) (congrArg iI p13_0) (li_1) (li_1) (li_3) ((g13.i _ _ (by decide)).trans (qa_16)) (lca.fr g13 (by decide)) p13_1.2.2.2.2.2.2.2.1 p13_1.2.2.2.2.2.2.2.2 hrl ⟨by omega, by omega⟩ c75 (by omega)) fun v Ma85 h85 => ?_
              obtain ⟨g85, e85_k0, p85_0, p85_1⟩ := h85
              have f85 : Fr W_cp Mc Ma85 := Fr.t f13 (Fr.m g85 (by decide))
              refine rsl (cV_e rfl) ?_
              refine rsl (jv_e) ?_
              refine rsr (vC_e (rk_160 hR)) ?_
              refine RrI (a201_d (by omega) hS hR (hT.fr (W := W_rx) Fr.r (by decide) (by decide)) (fun i a b => (Fr.lc (W := W_rx) Fr.r _ (by decide) _).trans (hW i a b)) (wa_36) (wa_37) (wa_38) (wa_41) (h49) (wa_53) wa_n (by omega)) fun v Ma87 h87 => ?_
              obtain ⟨r86, rfl, g87, e87_k0, e87_k1, e87_k2, e87_k3, e87_k4, p87_0, p87_1, p87_2⟩ := h87
              have f87 : Fr W_rx Mr Ma87 := Fr.t Fr.r (Fr.m g87 (by decide))
              refine rsr (cI_e rfl) ?_
              refine rsr (gtI_q (w := iI 0) (rk_160 (hR.fr f87)) (e87_k4)) ?_
              refine rsr (if_pos (eqI_p (rfl) (li_0) (by omega))) ?_
              refine rsr (gtP_q (w := some 202) (rk_160 (hR.fr f87)) (rf_56 (hR.fr f87))) ?_
              refine rsr (alL_q (n := 2000) (z := u) (w := (tx i)) (rk_202 (hR.fr f87)) (congrArg iI p87_0) (by omega) (p87_1.2.2.2.1)) ?_
              refine rsr (jn_v) ?_
              refine rsr (if_pos (lgc_p (rfl) (rfl) c75)) ?_
              refine rsr (gtP_q (w := some 204) (rk_160 (hR.fr f87)) (rf_58 (hR.fr f87))) ?_
              refine rsr (alL_q (n := 2000) (z := u) (w := (tx (i + 2))) (rk_204 (hR.fr f87)) (congrArg iI p87_0) (by omega) (p87_1.2.2.2.2.2.1)) ?_
              refine rsr (vC_e (rk_160 (hR.fr f87))) ?_
              refine RrI (a197 (by omega) (hR.fr f87) ((g87.i _ _ (by decide)).trans (wa_51)) (lra.fr g87 (by decide)) (by omega)) fun v Nl88 hl88 => ?_
              obtain ⟨r9, rfl, hMl, hr9⟩ := hl88
              rw [hMl]
              have q9 := LcF.one hr9 hrl
              rw [q9]
              refine rsr (cI_e rfl) ?_
              refine rsr (jv_e) ?_
              try dsimp only
              refine rsr (gtI_q (w := iI ((kr (kd (i + 3))))) (rk_160 (hR.fr f87)) (e87_k1)) ?_
              refine rsr (jn_v) ?_
              refine rsr (if_neg (krI_n (k := 40) (rfl) (li_40) (hS.ok (i + 3) (by omega) (by omega)) (by unfold KdOK sgk; omega) (by decide +kernel) (by omega) (by omega))) ?_
              refine rsr (gtI_q (w := iI ((kr (kd (i + 3))))) (rk_160 (hR.fr f87)) (e87_k1)) ?_
              refine rsr (if_neg (krI_n (k := 91) (rfl) (li_91) (hS.ok (i + 3) (by omega) (by omega)) (by unfold KdOK sgk; omega) (by decide +kernel) (by omega) (by omega))) ?_
              refine rsr (if_neg (lsI_n (congrArg iI (if_neg (by omega))) (li_0) (by omega))) ?_
              refine rsr (gtI_q (w := iI (u + 1)) (rk_160 (hR.fr f87)) (e87_k0)) ?_
              refine rsr (ptI_q (z := u) (rk_160 (hR.fr f87)) (cvI (sbI (rfl) (li_1)) (by omega))) ?_
              refine rsr (vC_e (rk_160 (hR.fr f87).sI)) ?_
              refine RrI (a196 (by omega) (hR.fr f87).sI ((sI_nej (by decide)).trans ((g87.i _ _ (by decide)).trans (wa_43))) ((sI_nej (by decide)).trans ((g87.i _ _ (by decide)).trans (h49))) ((sI_nej (by decide)).trans ((g87.i _ _ (by decide)).trans (h48))) (li_1) (congrArg iI (if_neg (by omega))) (by omega)) fun v Ma90 h90 => ?_
              obtain ⟨r89, rfl, g90, e90_k0, p90_0, p90_1⟩ := h90
              have f90 : Fr W_rx Mr Ma90 := Fr.t (Fr.sI (by decide) f87) (Fr.m g90 (by decide))
              refine rsr (cI_e rfl) ?_
              refine rsr (jv_e) ?_
              exact Rs.ok (Or.inl ⟨(i + 3), (e + 1), u, (uc + 1), (pu G e [1, rl, -2, rl, ut, mu, 0]), U, X, f85, f90, ⟨(g85.i _ _ (by decide)).trans (e13_k0), (g85.i _ _ (by decide)).trans (e13_k2), (g85.i _ _ (by decide)).trans (e13_k3), e85_k0, (g85.i _ _ (by decide)).trans ((g13.i _ _ (by decide)).trans (qa_16)), (g85.i _ _ (by decide)).trans (e13_k1)⟩, ⟨(g90.i _ _ (by decide)).trans ((sI_nej (by decide)).trans (e87_k1)), (g90.i _ _ (by decide)).trans ((sI_nej (by decide)).trans (e87_k2)), (g90.i _ _ (by decide)).trans ((sI_nej (by decide)).trans (e87_k3)), (g90.i _ _ (by decide)).trans ((sI_nej (by decide)).trans (e87_k4)), e90_k0, (g90.i _ _ (by decide)).trans ((sI_nej (by decide)).trans ((g87.i _ _ (by decide)).trans (wa_51))), (g90.i _ _ (by decide)).trans (sI_eq), (g90.i _ _ (by decide)).trans ((sI_nej (by decide)).trans ((g87.i _ _ (by decide)).trans (wa_50))), ((p87_2.fr (W := W_r0) (Fr.sI (by decide) Fr.r) (by decide) (by decide)).fr g90 (by decide) (by decide))⟩, ⟨(CA1.em (caa.fr g13 (by decide)) (by omega) p85_0 rfl), (RA1.em ((raa.fr g87 (by decide)).fr (W := W_r0) (Fr.sI (by decide) Fr.r) (by decide)) (by omega) p90_1 rfl), ((lca.fr g13 (by decide)).fr g85 (by decide)), (((lra.fr g87 (by decide)).fr (W := W_r0) (Fr.sI (by decide) Fr.r) (by decide)).fr g90 (by decide)), (CU.loc2 (CU.keep cua (by omega) p13_1 rfl) hlt p85_1 g85 (by decide)), (((RU.keep rua p87_1).fr (W := W_r0) (Fr.sI (by decide) Fr.r) (by decide)).fr g90 (by decide))⟩, ⟨by omega, by omega, by omega, by omega, by omega, by omega, by omega, by omega, by omega, by omega, by omega, by omega⟩, ⟨by omega, by omega, by omega, by omega, by omega, by omega⟩, (Ag.pu Ag.r (by omega)), Ag.r, AgL.r, ty83, du84, ((KU.us kua p13_1 g13 (by decide) (by omega)).fr g85 (by decide))⟩)
          ·
            have ty91 := Tye.em (d := 0) (d' := 1) (q := (e + 1)) (n1 := 0) (ut := ut) (mu := mu) (l := []) ty2 (Or.inl (by omega) : Eff 3 u 0 0 s 1 s) (by omega) ⟨by omega, by omega⟩ (by omega)
            have du92 := DU.set (U := (pu U u [uc, (V Mr 201 u.toNat), (V Mr 200 u.toNat), (pl i), (pl (i + 2)), (V Mr 206 u.toNat), ut, 0, (V Mc 79 uc.toNat), (V Mc 80 uc.toNat), (pl i)])) (X := (pux X u [(tx i), (tx (i + 2))])) (c := uc) (b1 := 0) (p := 1) (q := (e + 1)) (u := u) (o := 3) (n1 := 0) (p1 := -2) (n3 := u) (l := []) (g := 0) (DU.r (ut := ut) (mu := mu) (c := uc) (G := G) (a := e) (u := (u + 1))) (by omega) (by omega) (by omega) (by omega) (fun q => absurd q (by decide)) (Int.le_of_eq (Eq.symm (pu_e rfl))) (pu_e (by omega)) (Or.inr (pu_310 (by omega) rfl)) (by omega) (by omega)
            refine RlV (a106_q (by omega) (hC.fr f13) ((g13.i _ _ (by decide)).trans (qa_9)) (congrArg iI p13_0) (li_1) (li_1) (li_3) ((g13.i _ _ (by decide)).trans (qa_16)) (lca.fr g13 (by decide)) p13_1.2.2.2.2.2.2.2.1 p13_1.2.2.2.2.2.2.2.2 c75 (by omega)) fun v Ma93 h93 => ?_
            obtain ⟨g93, e93_k0, p93_0, p93_1⟩ := h93
            have f93 : Fr W_cp Mc Ma93 := Fr.t f13 (Fr.m g93 (by decide))
            refine rsl (cV_e rfl) ?_
            refine rsl (jv_e) ?_
            refine rsr (vC_e (rk_160 hR)) ?_
            refine RrI (a201_d (by omega) hS hR (hT.fr (W := W_rx) Fr.r (by decide) (by decide)) (fun i a b => (Fr.lc (W := W_rx) Fr.r _ (by decide) _).trans (hW i a b)) (wa_36) (wa_37) (wa_38) (wa_41) (h49) (wa_53) wa_n (by omega)) fun v Ma95 h95 => ?_
            obtain ⟨r94, rfl, g95, e95_k0, e95_k1, e95_k2, e95_k3, e95_k4, p95_0, p95_1, p95_2⟩ := h95
            have f95 : Fr W_rx Mr Ma95 := Fr.t Fr.r (Fr.m g95 (by decide))
            refine rsr (cI_e rfl) ?_
            refine rsr (gtI_q (w := iI 0) (rk_160 (hR.fr f95)) (e95_k4)) ?_
            refine rsr (if_pos (eqI_p (rfl) (li_0) (by omega))) ?_
            refine rsr (gtP_q (w := some 202) (rk_160 (hR.fr f95)) (rf_56 (hR.fr f95))) ?_
            refine rsr (alL_q (n := 2000) (z := u) (w := (tx i)) (rk_202 (hR.fr f95)) (congrArg iI p95_0) (by omega) (p95_1.2.2.2.1)) ?_
            refine rsr (jn_v) ?_
            refine rsr (if_neg (lgc_n (rfl) (rfl) c75)) ?_
            refine rsr (jv_e) ?_
            try dsimp only
            refine rsr (gtI_q (w := iI ((kr (kd (i + 3))))) (rk_160 (hR.fr f95)) (e95_k1)) ?_
            refine rsr (jn_v) ?_
            refine rsr (if_neg (krI_n (k := 40) (rfl) (li_40) (hS.ok (i + 3) (by omega) (by omega)) (by unfold KdOK sgk; omega) (by decide +kernel) (by omega) (by omega))) ?_
            refine rsr (gtI_q (w := iI ((kr (kd (i + 3))))) (rk_160 (hR.fr f95)) (e95_k1)) ?_
            refine rsr (if_neg (krI_n (k := 91) (rfl) (li_91) (hS.ok (i + 3) (by omega) (by omega)) (by unfold KdOK sgk; omega) (by decide +kernel) (by omega) (by omega))) ?_
            refine rsr (if_pos (lsI_p (li_m1) (li_0) (by omega))) ?_
            refine rsr (vC_e (rk_160 (hR.fr f95))) ?_
            refine RrV (a202 (by omega) (hR.fr f95) ((g95.i _ _ (by decide)).trans (wa_43)) ((g95.i _ _ (by decide)).trans (h49)) ((g95.i _ _ (by decide)).trans (h48)) (congrArg iI p95_0) (li_0) (li_3) (by omega)) fun v Ma96 h96 => ?_
            obtain ⟨g96, e96_k0, p96_0, p96_1⟩ := h96
            have f96 : Fr W_rx Mr Ma96 := Fr.t f95 (Fr.m g96 (by decide))
            refine rsr (cV_e rfl) ?_
            refine rsr (jv_e) ?_
            exact Rs.ok (Or.inl ⟨(i + 3), (e + 1), (u + 1), (uc + 1), (pu G e [3, 0, -2, u, ut, mu, 0]), (ps (pu U u [uc, (V Mr 201 u.toNat), (V Mr 200 u.toNat), (pl i), (pl (i + 2)), (V Mr 206 u.toNat), ut, 0, (V Mc 79 uc.toNat), (V Mc 80 uc.toNat), (pl i)]) u 0 1 e), (pux X u [(tx i), (tx (i + 2))]), f93, f96, ⟨(g93.i _ _ (by decide)).trans (e13_k0), (g93.i _ _ (by decide)).trans (e13_k2), (g93.i _ _ (by decide)).trans (e13_k3), e93_k0, (g93.i _ _ (by decide)).trans ((g13.i _ _ (by decide)).trans (qa_16)), (g93.i _ _ (by decide)).trans (e13_k1)⟩, ⟨(g96.i _ _ (by decide)).trans (e95_k1), (g96.i _ _ (by decide)).trans (e95_k2), (g96.i _ _ (by decide)).trans (e95_k3), (g96.i _ _ (by decide)).trans (e95_k4), e96_k0, (g96.i _ _ (by decide)).trans ((g95.i _ _ (by decide)).trans (wa_51)), (g96.i _ _ (by decide)).trans (e95_k0), (g96.i _ _ (by decide)).trans ((g95.i _ _ (by decide)).trans (wa_50)), (p95_2.fr g96 (by decide) (by decide))⟩, ⟨(CA1.em (caa.fr g13 (by decide)) (by omega) p93_0 rfl), (RA1.em (raa.fr g95 (by decide)) (by omega) p96_0 rfl), ((lca.fr g13 (by decide)).fr g93 (by decide)), ((lra.fr g95 (by decide)).fr g96 (by decide)), (CU.set (b := 0) (CU.add cua (by omega) (by omega) p13_1 rfl rfl) ⟨by omega, by omega⟩ (pu_e rfl) p93_1 g93 (by decide)), (RU.set (RU.add rua (by omega) p95_1 rfl) ⟨by omega, by omega⟩ p96_1 g96 (by decide))⟩, ⟨by omega, by omega, by omega, by omega, by omega, by omega, by omega, by omega, by omega, by omega, by omega, by omega⟩, ⟨by omega, by omega, by omega, by omega, by omega, by omega⟩, (Ag.pu Ag.r (by omega)), (Ag.ps (Ag.pu Ag.r (by omega)) (by omega)), (AgL.pu AgL.r (by omega)), ty91, du92, ((KU.us kua p13_1 g13 (by decide) (by omega)).fr g93 (by decide))⟩)
    ·
      by_cases c97 : ((kd (i + 2))) = 1
      ·
        refine RlI (a104_1 (by omega) hS hC (hTk.fr (WL := W_cp) Fr.r (by decide)) hu1 (by rw [(Fr.r : Fr W_cp Mc _).p]; exact hu2) (Fr.kd (W := W_cp) Fr.r hu3) ((Fr.i (W := W_cp) Fr.r _ _ (inW_hi (by decide) hu1 _)).trans hu4) (qa_12) (qa_13) (qa_10) (qa_19) (by omega)) fun v Ma99 h99 => ?_
        obtain ⟨r98, rfl, g99, e99_k0, e99_k1, e99_k2, e99_k3, e99_k4, p99_0, p99_1⟩ := h99
        have f99 : Fr W_cp Mc Ma99 := Fr.t Fr.r (Fr.m g99 (by decide))
        refine rsl (cI_e rfl) ?_
        refine rsl (gtI_q (w := iI 2) (ck_65 (hC.fr f99)) (e99_k2)) ?_
        refine rsl (jn_v) ?_
        refine rsl (if_neg (eqI_n (rfl) (li_40) (by omega))) ?_
        refine rsl (gtI_q (w := iI 2) (ck_65 (hC.fr f99)) (e99_k2)) ?_
        refine rsl (if_neg (eqI_n (rfl) (li_91) (by omega))) ?_
        refine rsl (vC_e (ck_65 (hC.fr f99))) ?_
        refine RlV (y106 (by omega) (hC.fr f99) (hTk.fr (WL := W_cp) f99 (by decide)) (e99_k0) (e99_k2) (e99_k3) (e99_k4) ((g99.i _ _ (by decide)).trans (qa_9)) ((g99.i _ _ (by decide)).trans (qa_16)) (e99_k1) (congrArg iI p99_0) (li_1) (li_1) (li_3) (by omega)) fun v Ma101 h101 => ?_
        obtain ⟨sz100, sn100, uc100, g101, e101_sz100, e101_sn100, e101_uc100, e101_k0, e101_k1, e101_k2, e101_k3, p101_0, p101_1, p101_2⟩ := h101
        have f101 : Fr W_cp Mc Ma101 := Fr.t f99 (Fr.m g101 (by decide))
        refine rsl (cV_e rfl) ?_
        refine rsl (jv_e) ?_
        refine rsr (vC_e (rk_160 hR)) ?_
        refine RrI (a201_1 (by omega) hS hR (hT.fr (W := W_rx) Fr.r (by decide) (by decide)) (fun i a b => (Fr.lc (W := W_rx) Fr.r _ (by decide) _).trans (hW i a b)) (wa_36) (wa_37) (wa_38) (wa_41) (h49) (wa_53) wa_n (by omega)) fun v Ma103 h103 => ?_
        obtain ⟨r102, rfl, g103, e103_k0, e103_k1, e103_k2, e103_k3, e103_k4, e103_k5, p103_0⟩ := h103
        have f103 : Fr W_rx Mr Ma103 := Fr.t Fr.r (Fr.m g103 (by decide))
        refine rsr (cI_e rfl) ?_
        refine rsr (gtI_q (w := iI 1) (rk_160 (hR.fr f103)) (e103_k4)) ?_
        refine rsr (if_neg (eqI_n (rfl) (li_0) (by omega))) ?_
        exact Rs.ok (Or.inr ⟨1, ((pl (i + 2))), f101, (Fr.m f103 (by decide)), ⟨(i + 2), sz100, sn100, uc100, e101_k0, e101_k1, e101_k2, e101_k3, e101_sz100, e101_sn100, e101_uc100, by omega⟩, ⟨e, s, (u + 1), mu, ut, e103_k4, e103_k5, (g103.i _ _ (by decide)).trans (wa_43), (g103.i _ _ (by decide)).trans (wa_51), e103_k0, (g103.i _ _ (by decide)).trans (h48), (g103.i _ _ (by decide)).trans (h49), by omega⟩⟩)
      ·
        refine RlI (a104_2 (by omega) hS hC (hTk.fr (WL := W_cp) Fr.r (by decide)) hu1 (by rw [(Fr.r : Fr W_cp Mc _).p]; exact hu2) (Fr.kd (W := W_cp) Fr.r hu3) ((Fr.i (W := W_cp) Fr.r _ _ (inW_hi (by decide) hu1 _)).trans hu4) (qa_12) (qa_13) (qa_10) (qa_19) (by omega)) fun v Ma105 h105 => ?_
        obtain ⟨r104, rfl, g105, e105_k0, e105_k1, e105_k2, e105_k3, e105_k4, p105_0, p105_1⟩ := h105
        have f105 : Fr W_cp Mc Ma105 := Fr.t Fr.r (Fr.m g105 (by decide))
        refine rsl (cI_e rfl) ?_
        refine rsl (gtI_q (w := iI 2) (ck_65 (hC.fr f105)) (e105_k2)) ?_
        refine rsl (jn_v) ?_
        refine rsl (if_neg (eqI_n (rfl) (li_40) (by omega))) ?_
        refine rsl (gtI_q (w := iI 2) (ck_65 (hC.fr f105)) (e105_k2)) ?_
        refine rsl (if_neg (eqI_n (rfl) (li_91) (by omega))) ?_
        refine rsl (vC_e (ck_65 (hC.fr f105))) ?_
        refine RlV (y106 (by omega) (hC.fr f105) (hTk.fr (WL := W_cp) f105 (by decide)) (e105_k0) (e105_k2) (e105_k3) (e105_k4) ((g105.i _ _ (by decide)).trans (qa_9)) ((g105.i _ _ (by decide)).trans (qa_16)) (e105_k1) (congrArg iI p105_0) (li_1) (li_1) (li_3) (by omega)) fun v Ma107 h107 => ?_
        obtain ⟨sz106, sn106, uc106, g107, e107_sz106, e107_sn106, e107_uc106, e107_k0, e107_k1, e107_k2, e107_k3, p107_0, p107_1, p107_2⟩ := h107
        have f107 : Fr W_cp Mc Ma107 := Fr.t f105 (Fr.m g107 (by decide))
        refine rsl (cV_e rfl) ?_
        refine rsl (jv_e) ?_
        refine rsr (vC_e (rk_160 hR)) ?_
        refine RrI (a201_2 (by omega) hS hR (hT.fr (W := W_rx) Fr.r (by decide) (by decide)) (fun i a b => (Fr.lc (W := W_rx) Fr.r _ (by decide) _).trans (hW i a b)) (wa_36) (wa_37) (wa_38) (wa_41) (h49) (wa_53) wa_n (by omega)) fun v Ma109 h109 => ?_
        obtain ⟨r108, rfl, g109, e109_k0, e109_k1, e109_k2, e109_k3, e109_k4, e109_k5, p109_0⟩ := h109
        have f109 : Fr W_rx Mr Ma109 := Fr.t Fr.r (Fr.m g109 (by decide))
        refine rsr (cI_e rfl) ?_
        refine rsr (gtI_q (w := iI 2) (rk_160 (hR.fr f109)) (e109_k4)) ?_
        refine rsr (if_neg (eqI_n (rfl) (li_0) (by omega))) ?_
        exact Rs.ok (Or.inr ⟨2, ((pl (i + 2))), f107, (Fr.m f109 (by decide)), ⟨(i + 2), sz106, sn106, uc106, e107_k0, e107_k1, e107_k2, e107_k3, e107_sz106, e107_sn106, e107_uc106, by omega⟩, ⟨e, s, (u + 1), mu, ut, e109_k4, e109_k5, (g109.i _ _ (by decide)).trans (wa_43), (g109.i _ _ (by decide)).trans (wa_51), e109_k0, (g109.i _ _ (by decide)).trans (h48), (g109.i _ _ (by decide)).trans (h49), by omega⟩⟩)
  ·
    have hlt : ∀ j, 0 ≤ j → j < u → U 0 j < uc := fun j a b => (cua.1 j a b).1.2
    refine RlI (a104_u (by omega) hS hC (hTk.fr (WL := W_cp) Fr.r (by decide)) hu1 (by rw [(Fr.r : Fr W_cp Mc _).p]; exact hu2) (Fr.kd (W := W_cp) Fr.r hu3) ((Fr.i (W := W_cp) Fr.r _ _ (inW_hi (by decide) hu1 _)).trans hu4) (qa_12) (qa_13) (qa_10) (qa_19) (by omega)) fun v Ma111 h111 => ?_
    obtain ⟨r110, rfl, g111, e111_k0, e111_k1, e111_k2, e111_k3, p111_0, p111_1⟩ := h111
    have f111 : Fr W_cp Mc Ma111 := Fr.t Fr.r (Fr.m g111 (by decide))
    refine rsl (cI_e rfl) ?_
    refine rsl (gtI_q (w := iI ((kd (i + 1)))) (ck_65 (hC.fr f111)) (e111_k2)) ?_
    refine rsl (jn_v) ?_
    by_cases c112 : ((kd (i + 1))) = 40
    · refine rsl (if_pos (eqI_p (rfl) (li_40) (by omega))) ?_
      refine rsl (vC_e (ck_65 (hC.fr f111))) ?_
      refine rsr (vC_e (rk_160 hR)) ?_
      refine RrI (a201_u (by omega) hS hR (hT.fr (W := W_rx) Fr.r (by decide) (by decide)) (fun i a b => (Fr.lc (W := W_rx) Fr.r _ (by decide) _).trans (hW i a b)) (wa_36) (wa_37) (wa_38) (wa_41) (h49) (wa_53) wa_n (by omega)) fun v Ma114 h114 => ?_
      obtain ⟨r113, rfl, g114, e114_k0, e114_k1, e114_k2, e114_k3, e114_k4, p114_0, p114_1, p114_2⟩ := h114
      have f114 : Fr W_rx Mr Ma114 := Fr.t Fr.r (Fr.m g114 (by decide))
      refine rsr (cI_e rfl) ?_
      refine rsr (gtI_q (w := iI 0) (rk_160 (hR.fr f114)) (e114_k4)) ?_
      refine rsr (if_pos (eqI_p (rfl) (li_0) (by omega))) ?_
      refine rsr (gtP_q (w := some 202) (rk_160 (hR.fr f114)) (rf_56 (hR.fr f114))) ?_
      refine rsr (alL_q (n := 2000) (z := u) (w := (0 : Int64)) (rk_202 (hR.fr f114)) (congrArg iI p114_0) (by omega) (p114_1.2.2.2.1)) ?_
      refine rsr (jn_v) ?_
      by_cases c115 : (0 : Int64) = (0 : Int64)
      ·
        refine rsr (if_pos (lgc_p (rfl) (rfl) c115)) ?_
        refine rsr (gtP_q (w := some 204) (rk_160 (hR.fr f114)) (rf_58 (hR.fr f114))) ?_
        refine rsr (alL_q (n := 2000) (z := u) (w := (tx i)) (rk_204 (hR.fr f114)) (congrArg iI p114_0) (by omega) (p114_1.2.2.2.2.2.1)) ?_
        refine rsr (vC_e (rk_160 (hR.fr f114))) ?_
        obtain ⟨rl, hrl⟩ : ∃ r, LcF Hl s (tx i) r := by have q := LcF_ex (Hl := Hl) (y := (tx i)) s.toNat; rw [show ((s.toNat : Nat) : Int) = s by omega] at q; exact q
        have brl := hrl.bd
        by_cases crl : rl = -1
        ·
          subst crl
          refine RrI (a197 (by omega) (hR.fr f114) ((g114.i _ _ (by decide)).trans (wa_51)) (lra.fr g114 (by decide)) (by omega)) fun v Nl116 hl116 => ?_
          obtain ⟨r9, rfl, hMl, hr9⟩ := hl116
          rw [hMl]
          have q9 := LcF.one hr9 hrl
          rw [q9]
          refine rsr (cI_e rfl) ?_
          refine rsr (jv_e) ?_
          try dsimp only
          refine rsr (gtI_q (w := iI ((kr (kd (i + 1))))) (rk_160 (hR.fr f114)) (e114_k1)) ?_
          refine rsr (jn_v) ?_
          refine rsr (if_pos (krI_p (k := 40) (rfl) (li_40) (by omega) (by decide +kernel))) ?_
          refine rsr (vC_e (rk_160 (hR.fr f114))) ?_
          refine Rb_VV (hCl _ _ (by omega) (by omega) T n m kd pl E tx ua ut mu _ _ G (pu U u [uc, (V Mr 201 u.toNat), (V Mr 200 u.toNat), (V Mr 203 u.toNat), (pl i), (V Mr 206 u.toNat), ut, 0, (V Mc 79 uc.toNat), (V Mc 80 uc.toNat), (V Mc 82 uc.toNat)]) Hl (pux X u [(0 : Int64), (tx i)]) (i + 1) e s (u + 1) (uc + 1) _ _ _ hS (hCx.fr f111 f114) ⟨e111_k0, e111_k2, e111_k3, (g111.i _ _ (by decide)).trans (qa_9), (g111.i _ _ (by decide)).trans (qa_16), e111_k1⟩ ⟨e114_k1, e114_k2, e114_k3, e114_k4, (g114.i _ _ (by decide)).trans (wa_43), (g114.i _ _ (by decide)).trans (wa_51), e114_k0, (g114.i _ _ (by decide)).trans (wa_50), p114_2⟩ ⟨(caa.fr g111 (by decide)), (raa.fr g114 (by decide)), (lca.fr g111 (by decide)), (lra.fr g114 (by decide)), (CU.add cua (by omega) (by omega) p111_1 rfl rfl), (RU.add rua (by omega) p114_1 rfl)⟩ ⟨by omega, by omega, by omega, by omega, by omega, by omega, by omega, by omega, by omega, by omega, by omega, by omega⟩ (x := uc) (by omega) (by omega) (pu_e (by omega)) (pu_e (by omega)) (Or.inl (pux_e (by omega))) (congrArg iI p111_0) (rfl) (cvI (congrArg iI p114_0) (by omega))) fun v Mx117 w Nx117 hx117 => ?_
          rcases hx117 with ⟨i117, e117, u117, uc117, G117, U117, X117, fl117, fr117, sc117, sr117, rw117, bd117, mv117, ag117, au117, ax117, tp117, dp117, kv117⟩ | ⟨F117, P117, fl117, fr117, tc117, tr117⟩
          ·
            have FL117 : Fr W_cp Mc Mx117 := Fr.t f111 fl117
            have FR117 : Fr W_rx Mr Nx117 := Fr.t f114 fr117
            obtain ⟨bb117_0, bb117_1, bb117_2, bb117_3, bb117_4, bb117_5, bb117_6, bb117_7, bb117_8, bb117_9, bb117_10, bb117_11⟩ := bd117
            obtain ⟨q117_12, q117_13, q117_10, q117_9, q117_16, q117_19⟩ := sc117
            obtain ⟨w117_36, w117_37, w117_38, w117_41, w117_43, w117_51, w117_53, w117_50, w117_n⟩ := sr117
            obtain ⟨ca117, ra117, lc117, lr117, cu117, ru117⟩ := rw117
            have hk118 := (hS.ok i117 (by omega) (by omega)).r
            have ku117 := KU.t (KU.us kua p111_1 g111 (by decide) (by omega)) kv117 (by omega)
            have ty119 := Tye.t (d3 := 1) ty2 ag117 tp117 (by omega)
            have du120 := DU.cu (w := u) dp117 (by omega)
            refine rsl (cV_e rfl) ?_
            refine rsr (cV_e rfl) ?_
            refine rsl (jv_e) ?_
            refine rsr (jv_e) ?_
            exact Rs.ok (Or.inl ⟨i117, e117, u117, uc117, G117, U117, X117, FL117, FR117, ⟨q117_12, q117_13, q117_10, q117_9, q117_16, q117_19⟩, ⟨w117_36, w117_37, w117_38, w117_41, w117_43, w117_51, w117_53, w117_50, w117_n⟩, ⟨ca117, ra117, lc117, lr117, cu117, ru117⟩, ⟨by omega, by omega, by omega, by omega, by omega, by omega, by omega, by omega, by omega, by omega, by omega, by omega⟩, ⟨by omega, by omega, by omega, by omega, by omega, by omega⟩, (Ag.t Ag.r ag117 (by omega)), (Ag.t (Ag.pu Ag.r (by omega)) au117 (by omega)), (AgL.t (AgL.pu AgL.r (by omega)) ax117 (by omega)), ty119, du120, ku117⟩)
          ·
            have FL117 : Fr W_cp Mc Mx117 := Fr.t f111 fl117
            have FR117 : Fr W_rp Mr Nx117 := Fr.t (Fr.m f114 W_rx_p) fr117
            obtain ⟨ti117, tz117, tn117, tu117, t13117, t10117, t11117, t12117, t9117, t16117, t19117, tb117⟩ := tc117
            obtain ⟨re117, rn117, ru117, rm117, rt117, u41117, u42117, u43117, u51117, u53117, u48117, u49117, ub117⟩ := tr117
            refine rsl (cV_e rfl) ?_
            refine rsr (cV_e rfl) ?_
            refine rsl (jv_e) ?_
            refine rsr (jv_e) ?_
            exact Rs.ok (Or.inr ⟨F117, P117, FL117, FR117, ⟨ti117, tz117, tn117, tu117, t13117, t10117, t11117, t12117, t9117, t16117, t19117, by omega⟩, ⟨re117, rn117, ru117, rm117, rt117, u41117, u42117, u43117, u51117, u53117, u48117, u49117, by omega⟩⟩)
        ·
          refine RrI (a197 (by omega) (hR.fr f114) ((g114.i _ _ (by decide)).trans (wa_51)) (lra.fr g114 (by decide)) (by omega)) fun v Nl116 hl116 => ?_
          obtain ⟨r9, rfl, hMl, hr9⟩ := hl116
          rw [hMl]
          have q9 := LcF.one hr9 hrl
          rw [q9]
          refine rsr (cI_e rfl) ?_
          refine rsr (jv_e) ?_
          try dsimp only
          refine rsr (gtI_q (w := iI ((kr (kd (i + 1))))) (rk_160 (hR.fr f114)) (e114_k1)) ?_
          refine rsr (jn_v) ?_
          refine rsr (if_pos (krI_p (k := 40) (rfl) (li_40) (by omega) (by decide +kernel))) ?_
          refine rsr (vC_e (rk_160 (hR.fr f114))) ?_
          refine Rb_VV (hCl _ _ (by omega) (by omega) T n m kd pl E tx ua ut mu _ _ G (pu U u [uc, (V Mr 201 u.toNat), (V Mr 200 u.toNat), (V Mr 203 u.toNat), (pl i), (V Mr 206 u.toNat), ut, 0, (V Mc 79 uc.toNat), (V Mc 80 uc.toNat), (V Mc 82 uc.toNat)]) Hl (pux X u [(0 : Int64), (tx i)]) (i + 1) e s (u + 1) (uc + 1) _ _ _ hS (hCx.fr f111 f114) ⟨e111_k0, e111_k2, e111_k3, (g111.i _ _ (by decide)).trans (qa_9), (g111.i _ _ (by decide)).trans (qa_16), e111_k1⟩ ⟨e114_k1, e114_k2, e114_k3, e114_k4, (g114.i _ _ (by decide)).trans (wa_43), (g114.i _ _ (by decide)).trans (wa_51), e114_k0, (g114.i _ _ (by decide)).trans (wa_50), p114_2⟩ ⟨(caa.fr g111 (by decide)), (raa.fr g114 (by decide)), (lca.fr g111 (by decide)), (lra.fr g114 (by decide)), (CU.add cua (by omega) (by omega) p111_1 rfl rfl), (RU.add rua (by omega) p114_1 rfl)⟩ ⟨by omega, by omega, by omega, by omega, by omega, by omega, by omega, by omega, by omega, by omega, by omega, by omega⟩ (x := uc) (by omega) (by omega) (pu_e (by omega)) (pu_e (by omega)) (Or.inl (pux_e (by omega))) (congrArg iI p111_0) (rfl) (cvI (congrArg iI p114_0) (by omega))) fun v Mx121 w Nx121 hx121 => ?_
          rcases hx121 with ⟨i121, e121, u121, uc121, G121, U121, X121, fl121, fr121, sc121, sr121, rw121, bd121, mv121, ag121, au121, ax121, tp121, dp121, kv121⟩ | ⟨F121, P121, fl121, fr121, tc121, tr121⟩
          ·
            have FL121 : Fr W_cp Mc Mx121 := Fr.t f111 fl121
            have FR121 : Fr W_rx Mr Nx121 := Fr.t f114 fr121
            obtain ⟨bb121_0, bb121_1, bb121_2, bb121_3, bb121_4, bb121_5, bb121_6, bb121_7, bb121_8, bb121_9, bb121_10, bb121_11⟩ := bd121
            obtain ⟨q121_12, q121_13, q121_10, q121_9, q121_16, q121_19⟩ := sc121
            obtain ⟨w121_36, w121_37, w121_38, w121_41, w121_43, w121_51, w121_53, w121_50, w121_n⟩ := sr121
            obtain ⟨ca121, ra121, lc121, lr121, cu121, ru121⟩ := rw121
            have hk122 := (hS.ok i121 (by omega) (by omega)).r
            have ku121 := KU.t (KU.us kua p111_1 g111 (by decide) (by omega)) kv121 (by omega)
            have ty123 := Tye.t (d3 := 1) ty2 ag121 tp121 (by omega)
            have du124 := DU.cu (w := u) dp121 (by omega)
            refine rsl (cV_e rfl) ?_
            refine rsr (cV_e rfl) ?_
            refine rsl (jv_e) ?_
            refine rsr (jv_e) ?_
            exact Rs.ok (Or.inl ⟨i121, e121, u121, uc121, G121, U121, X121, FL121, FR121, ⟨q121_12, q121_13, q121_10, q121_9, q121_16, q121_19⟩, ⟨w121_36, w121_37, w121_38, w121_41, w121_43, w121_51, w121_53, w121_50, w121_n⟩, ⟨ca121, ra121, lc121, lr121, cu121, ru121⟩, ⟨by omega, by omega, by omega, by omega, by omega, by omega, by omega, by omega, by omega, by omega, by omega, by omega⟩, ⟨by omega, by omega, by omega, by omega, by omega, by omega⟩, (Ag.t Ag.r ag121 (by omega)), (Ag.t (Ag.pu Ag.r (by omega)) au121 (by omega)), (AgL.t (AgL.pu AgL.r (by omega)) ax121 (by omega)), ty123, du124, ku121⟩)
          ·
            have FL121 : Fr W_cp Mc Mx121 := Fr.t f111 fl121
            have FR121 : Fr W_rp Mr Nx121 := Fr.t (Fr.m f114 W_rx_p) fr121
            obtain ⟨ti121, tz121, tn121, tu121, t13121, t10121, t11121, t12121, t9121, t16121, t19121, tb121⟩ := tc121
            obtain ⟨re121, rn121, ru121, rm121, rt121, u41121, u42121, u43121, u51121, u53121, u48121, u49121, ub121⟩ := tr121
            refine rsl (cV_e rfl) ?_
            refine rsr (cV_e rfl) ?_
            refine rsl (jv_e) ?_
            refine rsr (jv_e) ?_
            exact Rs.ok (Or.inr ⟨F121, P121, FL121, FR121, ⟨ti121, tz121, tn121, tu121, t13121, t10121, t11121, t12121, t9121, t16121, t19121, by omega⟩, ⟨re121, rn121, ru121, rm121, rt121, u41121, u42121, u43121, u51121, u53121, u48121, u49121, by omega⟩⟩)
      ·
        refine rsr (if_neg (lgc_n (rfl) (rfl) c115)) ?_
        refine rsr (jv_e) ?_
        try dsimp only
        refine rsr (gtI_q (w := iI ((kr (kd (i + 1))))) (rk_160 (hR.fr f114)) (e114_k1)) ?_
        refine rsr (jn_v) ?_
        refine rsr (if_pos (krI_p (k := 40) (rfl) (li_40) (by omega) (by decide +kernel))) ?_
        refine rsr (vC_e (rk_160 (hR.fr f114))) ?_
        refine Rb_VV (hCl _ _ (by omega) (by omega) T n m kd pl E tx ua ut mu _ _ G (pu U u [uc, (V Mr 201 u.toNat), (V Mr 200 u.toNat), (V Mr 203 u.toNat), (pl i), (V Mr 206 u.toNat), ut, 0, (V Mc 79 uc.toNat), (V Mc 80 uc.toNat), (V Mc 82 uc.toNat)]) Hl (pux X u [(0 : Int64), (tx i)]) (i + 1) e s (u + 1) (uc + 1) _ _ _ hS (hCx.fr f111 f114) ⟨e111_k0, e111_k2, e111_k3, (g111.i _ _ (by decide)).trans (qa_9), (g111.i _ _ (by decide)).trans (qa_16), e111_k1⟩ ⟨e114_k1, e114_k2, e114_k3, e114_k4, (g114.i _ _ (by decide)).trans (wa_43), (g114.i _ _ (by decide)).trans (wa_51), e114_k0, (g114.i _ _ (by decide)).trans (wa_50), p114_2⟩ ⟨(caa.fr g111 (by decide)), (raa.fr g114 (by decide)), (lca.fr g111 (by decide)), (lra.fr g114 (by decide)), (CU.add cua (by omega) (by omega) p111_1 rfl rfl), (RU.add rua (by omega) p114_1 rfl)⟩ ⟨by omega, by omega, by omega, by omega, by omega, by omega, by omega, by omega, by omega, by omega, by omega, by omega⟩ (x := uc) (by omega) (by omega) (pu_e (by omega)) (pu_e (by omega)) (Or.inl (pux_e (by omega))) (congrArg iI p111_0) (rfl) (cvI (congrArg iI p114_0) (by omega))) fun v Mx125 w Nx125 hx125 => ?_
        rcases hx125 with ⟨i125, e125, u125, uc125, G125, U125, X125, fl125, fr125, sc125, sr125, rw125, bd125, mv125, ag125, au125, ax125, tp125, dp125, kv125⟩ | ⟨F125, P125, fl125, fr125, tc125, tr125⟩
        ·
          have FL125 : Fr W_cp Mc Mx125 := Fr.t f111 fl125
          have FR125 : Fr W_rx Mr Nx125 := Fr.t f114 fr125
          obtain ⟨bb125_0, bb125_1, bb125_2, bb125_3, bb125_4, bb125_5, bb125_6, bb125_7, bb125_8, bb125_9, bb125_10, bb125_11⟩ := bd125
          obtain ⟨q125_12, q125_13, q125_10, q125_9, q125_16, q125_19⟩ := sc125
          obtain ⟨w125_36, w125_37, w125_38, w125_41, w125_43, w125_51, w125_53, w125_50, w125_n⟩ := sr125
          obtain ⟨ca125, ra125, lc125, lr125, cu125, ru125⟩ := rw125
          have hk126 := (hS.ok i125 (by omega) (by omega)).r
          have ku125 := KU.t (KU.us kua p111_1 g111 (by decide) (by omega)) kv125 (by omega)
          have ty127 := Tye.t (d3 := 1) ty2 ag125 tp125 (by omega)
          have du128 := DU.cu (w := u) dp125 (by omega)
          refine rsl (cV_e rfl) ?_
          refine rsr (cV_e rfl) ?_
          refine rsl (jv_e) ?_
          refine rsr (jv_e) ?_
          exact Rs.ok (Or.inl ⟨i125, e125, u125, uc125, G125, U125, X125, FL125, FR125, ⟨q125_12, q125_13, q125_10, q125_9, q125_16, q125_19⟩, ⟨w125_36, w125_37, w125_38, w125_41, w125_43, w125_51, w125_53, w125_50, w125_n⟩, ⟨ca125, ra125, lc125, lr125, cu125, ru125⟩, ⟨by omega, by omega, by omega, by omega, by omega, by omega, by omega, by omega, by omega, by omega, by omega, by omega⟩, ⟨by omega, by omega, by omega, by omega, by omega, by omega⟩, (Ag.t Ag.r ag125 (by omega)), (Ag.t (Ag.pu Ag.r (by omega)) au125 (by omega)), (AgL.t (AgL.pu AgL.r (by omega)) ax125 (by omega)), ty127, du128, ku125⟩)
        ·
          have FL125 : Fr W_cp Mc Mx125 := Fr.t f111 fl125
          have FR125 : Fr W_rp Mr Nx125 := Fr.t (Fr.m f114 W_rx_p) fr125
          obtain ⟨ti125, tz125, tn125, tu125, t13125, t10125, t11125, t12125, t9125, t16125, t19125, tb125⟩ := tc125
          obtain ⟨re125, rn125, ru125, rm125, rt125, u41125, u42125, u43125, u51125, u53125, u48125, u49125, ub125⟩ := tr125
          refine rsl (cV_e rfl) ?_
          refine rsr (cV_e rfl) ?_
          refine rsl (jv_e) ?_
          refine rsr (jv_e) ?_
          exact Rs.ok (Or.inr ⟨F125, P125, FL125, FR125, ⟨ti125, tz125, tn125, tu125, t13125, t10125, t11125, t12125, t9125, t16125, t19125, by omega⟩, ⟨re125, rn125, ru125, rm125, rt125, u41125, u42125, u43125, u51125, u53125, u48125, u49125, by omega⟩⟩)
    · refine rsl (if_neg (eqI_n (rfl) (li_40) (by omega))) ?_
      refine rsl (gtI_q (w := iI ((kd (i + 1)))) (ck_65 (hC.fr f111)) (e111_k2)) ?_
      by_cases c129 : ((kd (i + 1))) = 91
      · refine rsl (if_pos (eqI_p (rfl) (li_91) (by omega))) ?_
        refine rsl (vC_e (ck_65 (hC.fr f111))) ?_
        refine rsr (vC_e (rk_160 hR)) ?_
        refine RrI (a201_u (by omega) hS hR (hT.fr (W := W_rx) Fr.r (by decide) (by decide)) (fun i a b => (Fr.lc (W := W_rx) Fr.r _ (by decide) _).trans (hW i a b)) (wa_36) (wa_37) (wa_38) (wa_41) (h49) (wa_53) wa_n (by omega)) fun v Ma131 h131 => ?_
        obtain ⟨r130, rfl, g131, e131_k0, e131_k1, e131_k2, e131_k3, e131_k4, p131_0, p131_1, p131_2⟩ := h131
        have f131 : Fr W_rx Mr Ma131 := Fr.t Fr.r (Fr.m g131 (by decide))
        refine rsr (cI_e rfl) ?_
        refine rsr (gtI_q (w := iI 0) (rk_160 (hR.fr f131)) (e131_k4)) ?_
        refine rsr (if_pos (eqI_p (rfl) (li_0) (by omega))) ?_
        refine rsr (gtP_q (w := some 202) (rk_160 (hR.fr f131)) (rf_56 (hR.fr f131))) ?_
        refine rsr (alL_q (n := 2000) (z := u) (w := (0 : Int64)) (rk_202 (hR.fr f131)) (congrArg iI p131_0) (by omega) (p131_1.2.2.2.1)) ?_
        refine rsr (jn_v) ?_
        by_cases c132 : (0 : Int64) = (0 : Int64)
        ·
          refine rsr (if_pos (lgc_p (rfl) (rfl) c132)) ?_
          refine rsr (gtP_q (w := some 204) (rk_160 (hR.fr f131)) (rf_58 (hR.fr f131))) ?_
          refine rsr (alL_q (n := 2000) (z := u) (w := (tx i)) (rk_204 (hR.fr f131)) (congrArg iI p131_0) (by omega) (p131_1.2.2.2.2.2.1)) ?_
          refine rsr (vC_e (rk_160 (hR.fr f131))) ?_
          obtain ⟨rl, hrl⟩ : ∃ r, LcF Hl s (tx i) r := by have q := LcF_ex (Hl := Hl) (y := (tx i)) s.toNat; rw [show ((s.toNat : Nat) : Int) = s by omega] at q; exact q
          have brl := hrl.bd
          by_cases crl : rl = -1
          ·
            subst crl
            refine RrI (a197 (by omega) (hR.fr f131) ((g131.i _ _ (by decide)).trans (wa_51)) (lra.fr g131 (by decide)) (by omega)) fun v Nl133 hl133 => ?_
            obtain ⟨r9, rfl, hMl, hr9⟩ := hl133
            rw [hMl]
            have q9 := LcF.one hr9 hrl
            rw [q9]
            refine rsr (cI_e rfl) ?_
            refine rsr (jv_e) ?_
            try dsimp only
            refine rsr (gtI_q (w := iI ((kr (kd (i + 1))))) (rk_160 (hR.fr f131)) (e131_k1)) ?_
            refine rsr (jn_v) ?_
            refine rsr (if_neg (krI_n (k := 40) (rfl) (li_40) (hS.ok (i + 1) (by omega) (by omega)) (by unfold KdOK sgk; omega) (by decide +kernel) (by omega) (by omega))) ?_
            refine rsr (gtI_q (w := iI ((kr (kd (i + 1))))) (rk_160 (hR.fr f131)) (e131_k1)) ?_
            refine rsr (if_pos (krI_p (k := 91) (rfl) (li_91) (by omega) (by decide +kernel))) ?_
            refine rsr (vC_e (rk_160 (hR.fr f131))) ?_
            refine Rb_VV (hX _ _ (by omega) (by omega) T n m kd pl E tx ua ut mu _ _ G (pu U u [uc, (V Mr 201 u.toNat), (V Mr 200 u.toNat), (V Mr 203 u.toNat), (pl i), (V Mr 206 u.toNat), ut, 0, (V Mc 79 uc.toNat), (V Mc 80 uc.toNat), (V Mc 82 uc.toNat)]) Hl (pux X u [(0 : Int64), (tx i)]) (i + 1) e s (u + 1) (uc + 1) _ hS (hCx.fr f111 f131) ⟨e111_k0, e111_k2, e111_k3, (g111.i _ _ (by decide)).trans (qa_9), (g111.i _ _ (by decide)).trans (qa_16), e111_k1⟩ ⟨e131_k1, e131_k2, e131_k3, e131_k4, (g131.i _ _ (by decide)).trans (wa_43), (g131.i _ _ (by decide)).trans (wa_51), e131_k0, (g131.i _ _ (by decide)).trans (wa_50), p131_2⟩ ⟨(caa.fr g111 (by decide)), (raa.fr g131 (by decide)), (lca.fr g111 (by decide)), (lra.fr g131 (by decide)), (CU.add cua (by omega) (by omega) p111_1 rfl rfl), (RU.add rua (by omega) p131_1 rfl)⟩ ⟨by omega, by omega, by omega, by omega, by omega, by omega, by omega, by omega, by omega, by omega, by omega, by omega⟩ (by omega) (vs1 (rfl))) fun v Mx134 w Nx134 hx134 => ?_
            rcases hx134 with ⟨i134, e134, u134, uc134, G134, U134, X134, fl134, fr134, sc134, sr134, rw134, bd134, mv134, ag134, au134, ax134, tp134, dp134, kv134⟩ | ⟨F134, P134, fl134, fr134, tc134, tr134⟩
            ·
              have FL134 : Fr W_cp Mc Mx134 := Fr.t f111 fl134
              have FR134 : Fr W_rx Mr Nx134 := Fr.t f131 fr134
              obtain ⟨bb134_0, bb134_1, bb134_2, bb134_3, bb134_4, bb134_5, bb134_6, bb134_7, bb134_8, bb134_9, bb134_10, bb134_11⟩ := bd134
              obtain ⟨q134_12, q134_13, q134_10, q134_9, q134_16, q134_19⟩ := sc134
              obtain ⟨w134_36, w134_37, w134_38, w134_41, w134_43, w134_51, w134_53, w134_50, w134_n⟩ := sr134
              obtain ⟨ca134, ra134, lc134, lr134, cu134, ru134⟩ := rw134
              have hk135 := (hS.ok i134 (by omega) (by omega)).r
              have ku134 := KU.t (KU.us kua p111_1 g111 (by decide) (by omega)) kv134 (by omega)
              have ty136 := Tye.t (d3 := 1) ty2 ag134 tp134 (by omega)
              have du137 := DU.t (DU.r (ut := ut) (mu := mu) (c := uc) (G := G) (a := e) (u := (u + 1))) ag134 au134 ax134 dp134 (by omega)
              refine rsl (cV_e rfl) ?_
              refine rsr (cV_e rfl) ?_
              refine rsl (vC_e (ck_65 (hC.fr FL134))) ?_
              have ty139 := Tye.em (d := 1) (d' := 1) (q := (e134 + 1)) (n1 := 0) (ut := ut) (mu := mu) (l := []) ty136 (Or.inr (Or.inr (Or.inr (Or.inr (Or.inl (by omega))))) : Eff 5 u 0 1 s 1 s) (by omega) ⟨by omega, by omega⟩ (by omega)
              have du140 := DU.set (U := U134) (X := X134) (c := uc) (b1 := 2) (p := 3) (q := (e134 + 1)) (u := u) (o := 5) (n1 := 0) (p1 := -2) (n3 := u) (l := []) (g := 0) du137 (by omega) (by omega) (by omega) (by omega) (fun q => absurd q (by decide)) (Int.le_of_eq (Eq.symm ((au134 0 _ (by omega)).trans (pu_e rfl)))) ((au134 6 _ (by omega)).trans (pu_e (by omega))) (U3tr (ax134 0 _ (by omega)) (au134 3 _ (by omega)) (au134 10 _ (by omega)) (Or.inl (pux_e (by omega)))) (by omega) (by omega)
              refine RlV (a105 (by omega) (hC.fr FL134) (q134_9) (congrArg iI p111_0) (li_3) (li_5) (by omega)) fun v Ma141 h141 => ?_
              obtain ⟨g141, e141_k0, p141_0, p141_1⟩ := h141
              have f141 : Fr W_cp Mc Ma141 := Fr.t FL134 (Fr.m g141 (by decide))
              refine rsl (cV_e rfl) ?_
              refine rsl (jv_e) ?_
              refine rsr (vC_e (rk_160 (hR.fr FR134))) ?_
              refine RrV (a202 (by omega) (hR.fr FR134) (w134_43) ((FR134.i _ _ (by decide)).trans h49) ((FR134.i _ _ (by decide)).trans h48) (congrArg iI p131_0) (li_2) (li_5) (by omega)) fun v Ma142 h142 => ?_
              obtain ⟨g142, e142_k0, p142_0, p142_1⟩ := h142
              have f142 : Fr W_rx Mr Ma142 := Fr.t FR134 (Fr.m g142 (by decide))
              refine rsr (cV_e rfl) ?_
              refine rsr (jv_e) ?_
              exact Rs.ok (Or.inl ⟨i134, (e134 + 1), u134, uc134, (pu G134 e134 [5, 0, -2, u, ut, mu, 0]), (ps U134 u 2 3 e134), X134, f141, f142, ⟨(g141.i _ _ (by decide)).trans (q134_12), (g141.i _ _ (by decide)).trans (q134_13), (g141.i _ _ (by decide)).trans (q134_10), e141_k0, (g141.i _ _ (by decide)).trans (q134_16), (g141.i _ _ (by decide)).trans (q134_19)⟩, ⟨(g142.i _ _ (by decide)).trans (w134_36), (g142.i _ _ (by decide)).trans (w134_37), (g142.i _ _ (by decide)).trans (w134_38), (g142.i _ _ (by decide)).trans (w134_41), e142_k0, (g142.i _ _ (by decide)).trans (w134_51), (g142.i _ _ (by decide)).trans (w134_53), (g142.i _ _ (by decide)).trans (w134_50), (w134_n.fr g142 (by decide) (by decide))⟩, ⟨(CA1.em ca134 (by omega) p141_0 rfl), (RA1.em ra134 (by omega) p142_0 rfl), (lc134.fr g141 (by decide)), (lr134.fr g142 (by decide)), (CU.set (b := 2) cu134 ⟨by omega, by omega⟩ ((au134 0 _ (by omega)).trans (pu_e rfl)) p141_1 g141 (by decide)), (RU.set ru134 ⟨by omega, by omega⟩ p142_1 g142 (by decide))⟩, ⟨by omega, by omega, by omega, by omega, by omega, by omega, by omega, by omega, by omega, by omega, by omega, by omega⟩, ⟨by omega, by omega, by omega, by omega, by omega, by omega⟩, (Ag.pu (Ag.t Ag.r ag134 (by omega)) (by omega)), (Ag.ps (Ag.t (Ag.pu Ag.r (by omega)) au134 (by omega)) (by omega)), (AgL.t (AgL.pu AgL.r (by omega)) ax134 (by omega)), ty139, du140, (ku134.fr g141 (by decide))⟩)
            ·
              have FL134 : Fr W_cp Mc Mx134 := Fr.t f111 fl134
              have FR134 : Fr W_rp Mr Nx134 := Fr.t (Fr.m f131 W_rx_p) fr134
              obtain ⟨ti134, tz134, tn134, tu134, t13134, t10134, t11134, t12134, t9134, t16134, t19134, tb134⟩ := tc134
              obtain ⟨re134, rn134, ru134, rm134, rt134, u41134, u42134, u43134, u51134, u53134, u48134, u49134, ub134⟩ := tr134
              refine rsl (cV_e rfl) ?_
              refine rsr (cV_e rfl) ?_
              refine rsl (vC_e (ck_65 (hC.fr FL134))) ?_
              refine RlV (y105 (by omega) (hC.fr FL134) (hTk.fr (WL := W_cp) FL134 (by decide)) (t12134) (t13134) (t10134) (t11134) (t9134) (t16134) (t19134) (congrArg iI p111_0) (li_3) (li_5) (by omega)) fun v Ma144 h144 => ?_
              obtain ⟨sz143, sn143, uc143, g144, e144_sz143, e144_sn143, e144_uc143, e144_k0, e144_k1, e144_k2, e144_k3, p144_0, p144_1, p144_2⟩ := h144
              have f144 : Fr W_cp Mc Ma144 := Fr.t FL134 (Fr.m g144 (by decide))
              refine rsl (cV_e rfl) ?_
              refine rsl (jv_e) ?_
              refine rsr (vC_e (rk_160 (hR.fr FR134))) ?_
              refine RrV (x202_s (by omega) (hR.fr FR134) (u41134) (u42134) (u43134) (u51134) (u53134) (u48134) (u49134) (congrArg iI p131_0) (li_2) (li_5) (by omega)) fun v Ma146 h146 => ?_
              obtain ⟨em145, g146, e146_em145, e146_k0, e146_k1, e146_k2, e146_k3, e146_k4, p146_0⟩ := h146
              have f146 : Fr W_rp Mr Ma146 := Fr.t FR134 (Fr.m g146 (by decide))
              refine rsr (cV_e rfl) ?_
              refine rsr (jv_e) ?_
              exact Rs.ok (Or.inr ⟨F134, P134, f144, f146, ⟨ti134, sz143, sn143, uc143, e144_k0, e144_k1, e144_k2, e144_k3, e144_sz143, e144_sn143, e144_uc143, by omega⟩, ⟨em145, rn134, ru134, rm134, rt134, e146_k0, e146_k1, e146_em145, e146_k2, e146_k3, e146_k4, (g146.i _ _ (by decide)).trans (u49134), by omega⟩⟩)
          ·
            refine RrI (a197 (by omega) (hR.fr f131) ((g131.i _ _ (by decide)).trans (wa_51)) (lra.fr g131 (by decide)) (by omega)) fun v Nl133 hl133 => ?_
            obtain ⟨r9, rfl, hMl, hr9⟩ := hl133
            rw [hMl]
            have q9 := LcF.one hr9 hrl
            rw [q9]
            refine rsr (cI_e rfl) ?_
            refine rsr (jv_e) ?_
            try dsimp only
            refine rsr (gtI_q (w := iI ((kr (kd (i + 1))))) (rk_160 (hR.fr f131)) (e131_k1)) ?_
            refine rsr (jn_v) ?_
            refine rsr (if_neg (krI_n (k := 40) (rfl) (li_40) (hS.ok (i + 1) (by omega) (by omega)) (by unfold KdOK sgk; omega) (by decide +kernel) (by omega) (by omega))) ?_
            refine rsr (gtI_q (w := iI ((kr (kd (i + 1))))) (rk_160 (hR.fr f131)) (e131_k1)) ?_
            refine rsr (if_pos (krI_p (k := 91) (rfl) (li_91) (by omega) (by decide +kernel))) ?_
            refine rsr (vC_e (rk_160 (hR.fr f131))) ?_
            refine Rb_VV (hX _ _ (by omega) (by omega) T n m kd pl E tx ua ut mu _ _ G (pu U u [uc, (V Mr 201 u.toNat), (V Mr 200 u.toNat), (V Mr 203 u.toNat), (pl i), (V Mr 206 u.toNat), ut, 0, (V Mc 79 uc.toNat), (V Mc 80 uc.toNat), (V Mc 82 uc.toNat)]) Hl (pux X u [(0 : Int64), (tx i)]) (i + 1) e s (u + 1) (uc + 1) _ hS (hCx.fr f111 f131) ⟨e111_k0, e111_k2, e111_k3, (g111.i _ _ (by decide)).trans (qa_9), (g111.i _ _ (by decide)).trans (qa_16), e111_k1⟩ ⟨e131_k1, e131_k2, e131_k3, e131_k4, (g131.i _ _ (by decide)).trans (wa_43), (g131.i _ _ (by decide)).trans (wa_51), e131_k0, (g131.i _ _ (by decide)).trans (wa_50), p131_2⟩ ⟨(caa.fr g111 (by decide)), (raa.fr g131 (by decide)), (lca.fr g111 (by decide)), (lra.fr g131 (by decide)), (CU.add cua (by omega) (by omega) p111_1 rfl rfl), (RU.add rua (by omega) p131_1 rfl)⟩ ⟨by omega, by omega, by omega, by omega, by omega, by omega, by omega, by omega, by omega, by omega, by omega, by omega⟩ (by omega) (vs1 (rfl))) fun v Mx147 w Nx147 hx147 => ?_
            rcases hx147 with ⟨i147, e147, u147, uc147, G147, U147, X147, fl147, fr147, sc147, sr147, rw147, bd147, mv147, ag147, au147, ax147, tp147, dp147, kv147⟩ | ⟨F147, P147, fl147, fr147, tc147, tr147⟩
            ·
              have FL147 : Fr W_cp Mc Mx147 := Fr.t f111 fl147
              have FR147 : Fr W_rx Mr Nx147 := Fr.t f131 fr147
              obtain ⟨bb147_0, bb147_1, bb147_2, bb147_3, bb147_4, bb147_5, bb147_6, bb147_7, bb147_8, bb147_9, bb147_10, bb147_11⟩ := bd147
              obtain ⟨q147_12, q147_13, q147_10, q147_9, q147_16, q147_19⟩ := sc147
              obtain ⟨w147_36, w147_37, w147_38, w147_41, w147_43, w147_51, w147_53, w147_50, w147_n⟩ := sr147
              obtain ⟨ca147, ra147, lc147, lr147, cu147, ru147⟩ := rw147
              have hk148 := (hS.ok i147 (by omega) (by omega)).r
              have ku147 := KU.t (KU.us kua p111_1 g111 (by decide) (by omega)) kv147 (by omega)
              have ty149 := Tye.t (d3 := 1) ty2 ag147 tp147 (by omega)
              have du150 := DU.t (DU.r (ut := ut) (mu := mu) (c := uc) (G := G) (a := e) (u := (u + 1))) ag147 au147 ax147 dp147 (by omega)
              refine rsl (cV_e rfl) ?_
              refine rsr (cV_e rfl) ?_
              refine rsl (vC_e (ck_65 (hC.fr FL147))) ?_
              have ty152 := Tye.em (d := 1) (d' := 1) (q := (e147 + 1)) (n1 := 0) (ut := ut) (mu := mu) (l := []) ty149 (Or.inr (Or.inr (Or.inr (Or.inr (Or.inl (by omega))))) : Eff 5 u 0 1 s 1 s) (by omega) ⟨by omega, by omega⟩ (by omega)
              have du153 := DU.set (U := U147) (X := X147) (c := uc) (b1 := 2) (p := 3) (q := (e147 + 1)) (u := u) (o := 5) (n1 := 0) (p1 := -2) (n3 := u) (l := []) (g := 0) du150 (by omega) (by omega) (by omega) (by omega) (fun q => absurd q (by decide)) (Int.le_of_eq (Eq.symm ((au147 0 _ (by omega)).trans (pu_e rfl)))) ((au147 6 _ (by omega)).trans (pu_e (by omega))) (U3tr (ax147 0 _ (by omega)) (au147 3 _ (by omega)) (au147 10 _ (by omega)) (Or.inl (pux_e (by omega)))) (by omega) (by omega)
              refine RlV (a105 (by omega) (hC.fr FL147) (q147_9) (congrArg iI p111_0) (li_3) (li_5) (by omega)) fun v Ma154 h154 => ?_
              obtain ⟨g154, e154_k0, p154_0, p154_1⟩ := h154
              have f154 : Fr W_cp Mc Ma154 := Fr.t FL147 (Fr.m g154 (by decide))
              refine rsl (cV_e rfl) ?_
              refine rsl (jv_e) ?_
              refine rsr (vC_e (rk_160 (hR.fr FR147))) ?_
              refine RrV (a202 (by omega) (hR.fr FR147) (w147_43) ((FR147.i _ _ (by decide)).trans h49) ((FR147.i _ _ (by decide)).trans h48) (congrArg iI p131_0) (li_2) (li_5) (by omega)) fun v Ma155 h155 => ?_
              obtain ⟨g155, e155_k0, p155_0, p155_1⟩ := h155
              have f155 : Fr W_rx Mr Ma155 := Fr.t FR147 (Fr.m g155 (by decide))
              refine rsr (cV_e rfl) ?_
              refine rsr (jv_e) ?_
              exact Rs.ok (Or.inl ⟨i147, (e147 + 1), u147, uc147, (pu G147 e147 [5, 0, -2, u, ut, mu, 0]), (ps U147 u 2 3 e147), X147, f154, f155, ⟨(g154.i _ _ (by decide)).trans (q147_12), (g154.i _ _ (by decide)).trans (q147_13), (g154.i _ _ (by decide)).trans (q147_10), e154_k0, (g154.i _ _ (by decide)).trans (q147_16), (g154.i _ _ (by decide)).trans (q147_19)⟩, ⟨(g155.i _ _ (by decide)).trans (w147_36), (g155.i _ _ (by decide)).trans (w147_37), (g155.i _ _ (by decide)).trans (w147_38), (g155.i _ _ (by decide)).trans (w147_41), e155_k0, (g155.i _ _ (by decide)).trans (w147_51), (g155.i _ _ (by decide)).trans (w147_53), (g155.i _ _ (by decide)).trans (w147_50), (w147_n.fr g155 (by decide) (by decide))⟩, ⟨(CA1.em ca147 (by omega) p154_0 rfl), (RA1.em ra147 (by omega) p155_0 rfl), (lc147.fr g154 (by decide)), (lr147.fr g155 (by decide)), (CU.set (b := 2) cu147 ⟨by omega, by omega⟩ ((au147 0 _ (by omega)).trans (pu_e rfl)) p154_1 g154 (by decide)), (RU.set ru147 ⟨by omega, by omega⟩ p155_1 g155 (by decide))⟩, ⟨by omega, by omega, by omega, by omega, by omega, by omega, by omega, by omega, by omega, by omega, by omega, by omega⟩, ⟨by omega, by omega, by omega, by omega, by omega, by omega⟩, (Ag.pu (Ag.t Ag.r ag147 (by omega)) (by omega)), (Ag.ps (Ag.t (Ag.pu Ag.r (by omega)) au147 (by omega)) (by omega)), (AgL.t (AgL.pu AgL.r (by omega)) ax147 (by omega)), ty152, du153, (ku147.fr g154 (by decide))⟩)
            ·
              have FL147 : Fr W_cp Mc Mx147 := Fr.t f111 fl147
              have FR147 : Fr W_rp Mr Nx147 := Fr.t (Fr.m f131 W_rx_p) fr147
              obtain ⟨ti147, tz147, tn147, tu147, t13147, t10147, t11147, t12147, t9147, t16147, t19147, tb147⟩ := tc147
              obtain ⟨re147, rn147, ru147, rm147, rt147, u41147, u42147, u43147, u51147, u53147, u48147, u49147, ub147⟩ := tr147
              refine rsl (cV_e rfl) ?_
              refine rsr (cV_e rfl) ?_
              refine rsl (vC_e (ck_65 (hC.fr FL147))) ?_
              refine RlV (y105 (by omega) (hC.fr FL147) (hTk.fr (WL := W_cp) FL147 (by decide)) (t12147) (t13147) (t10147) (t11147) (t9147) (t16147) (t19147) (congrArg iI p111_0) (li_3) (li_5) (by omega)) fun v Ma157 h157 => ?_
              obtain ⟨sz156, sn156, uc156, g157, e157_sz156, e157_sn156, e157_uc156, e157_k0, e157_k1, e157_k2, e157_k3, p157_0, p157_1, p157_2⟩ := h157
              have f157 : Fr W_cp Mc Ma157 := Fr.t FL147 (Fr.m g157 (by decide))
              refine rsl (cV_e rfl) ?_
              refine rsl (jv_e) ?_
              refine rsr (vC_e (rk_160 (hR.fr FR147))) ?_
              refine RrV (x202_s (by omega) (hR.fr FR147) (u41147) (u42147) (u43147) (u51147) (u53147) (u48147) (u49147) (congrArg iI p131_0) (li_2) (li_5) (by omega)) fun v Ma159 h159 => ?_
              obtain ⟨em158, g159, e159_em158, e159_k0, e159_k1, e159_k2, e159_k3, e159_k4, p159_0⟩ := h159
              have f159 : Fr W_rp Mr Ma159 := Fr.t FR147 (Fr.m g159 (by decide))
              refine rsr (cV_e rfl) ?_
              refine rsr (jv_e) ?_
              exact Rs.ok (Or.inr ⟨F147, P147, f157, f159, ⟨ti147, sz156, sn156, uc156, e157_k0, e157_k1, e157_k2, e157_k3, e157_sz156, e157_sn156, e157_uc156, by omega⟩, ⟨em158, rn147, ru147, rm147, rt147, e159_k0, e159_k1, e159_em158, e159_k2, e159_k3, e159_k4, (g159.i _ _ (by decide)).trans (u49147), by omega⟩⟩)
        ·
          refine rsr (if_neg (lgc_n (rfl) (rfl) c132)) ?_
          refine rsr (jv_e) ?_
          try dsimp only
          refine rsr (gtI_q (w := iI ((kr (kd (i + 1))))) (rk_160 (hR.fr f131)) (e131_k1)) ?_
          refine rsr (jn_v) ?_
          refine rsr (if_neg (krI_n (k := 40) (rfl) (li_40) (hS.ok (i + 1) (by omega) (by omega)) (by unfold KdOK sgk; omega) (by decide +kernel) (by omega) (by omega))) ?_
          refine rsr (gtI_q (w := iI ((kr (kd (i + 1))))) (rk_160 (hR.fr f131)) (e131_k1)) ?_
          refine rsr (if_pos (krI_p (k := 91) (rfl) (li_91) (by omega) (by decide +kernel))) ?_
          refine rsr (vC_e (rk_160 (hR.fr f131))) ?_
          refine Rb_VV (hX _ _ (by omega) (by omega) T n m kd pl E tx ua ut mu _ _ G (pu U u [uc, (V Mr 201 u.toNat), (V Mr 200 u.toNat), (V Mr 203 u.toNat), (pl i), (V Mr 206 u.toNat), ut, 0, (V Mc 79 uc.toNat), (V Mc 80 uc.toNat), (V Mc 82 uc.toNat)]) Hl (pux X u [(0 : Int64), (tx i)]) (i + 1) e s (u + 1) (uc + 1) _ hS (hCx.fr f111 f131) ⟨e111_k0, e111_k2, e111_k3, (g111.i _ _ (by decide)).trans (qa_9), (g111.i _ _ (by decide)).trans (qa_16), e111_k1⟩ ⟨e131_k1, e131_k2, e131_k3, e131_k4, (g131.i _ _ (by decide)).trans (wa_43), (g131.i _ _ (by decide)).trans (wa_51), e131_k0, (g131.i _ _ (by decide)).trans (wa_50), p131_2⟩ ⟨(caa.fr g111 (by decide)), (raa.fr g131 (by decide)), (lca.fr g111 (by decide)), (lra.fr g131 (by decide)), (CU.add cua (by omega) (by omega) p111_1 rfl rfl), (RU.add rua (by omega) p131_1 rfl)⟩ ⟨by omega, by omega, by omega, by omega, by omega, by omega, by omega, by omega, by omega, by omega, by omega, by omega⟩ (by omega) (vs1 (rfl))) fun v Mx160 w Nx160 hx160 => ?_
          rcases hx160 with ⟨i160, e160, u160, uc160, G160, U160, X160, fl160, fr160, sc160, sr160, rw160, bd160, mv160, ag160, au160, ax160, tp160, dp160, kv160⟩ | ⟨F160, P160, fl160, fr160, tc160, tr160⟩
          ·
            have FL160 : Fr W_cp Mc Mx160 := Fr.t f111 fl160
            have FR160 : Fr W_rx Mr Nx160 := Fr.t f131 fr160
            obtain ⟨bb160_0, bb160_1, bb160_2, bb160_3, bb160_4, bb160_5, bb160_6, bb160_7, bb160_8, bb160_9, bb160_10, bb160_11⟩ := bd160
            obtain ⟨q160_12, q160_13, q160_10, q160_9, q160_16, q160_19⟩ := sc160
            obtain ⟨w160_36, w160_37, w160_38, w160_41, w160_43, w160_51, w160_53, w160_50, w160_n⟩ := sr160
            obtain ⟨ca160, ra160, lc160, lr160, cu160, ru160⟩ := rw160
            have hk161 := (hS.ok i160 (by omega) (by omega)).r
            have ku160 := KU.t (KU.us kua p111_1 g111 (by decide) (by omega)) kv160 (by omega)
            have ty162 := Tye.t (d3 := 1) ty2 ag160 tp160 (by omega)
            have du163 := DU.t (DU.r (ut := ut) (mu := mu) (c := uc) (G := G) (a := e) (u := (u + 1))) ag160 au160 ax160 dp160 (by omega)
            refine rsl (cV_e rfl) ?_
            refine rsr (cV_e rfl) ?_
            refine rsl (vC_e (ck_65 (hC.fr FL160))) ?_
            have ty165 := Tye.em (d := 1) (d' := 1) (q := (e160 + 1)) (n1 := 0) (ut := ut) (mu := mu) (l := []) ty162 (Or.inr (Or.inr (Or.inr (Or.inr (Or.inl (by omega))))) : Eff 5 u 0 1 s 1 s) (by omega) ⟨by omega, by omega⟩ (by omega)
            have du166 := DU.set (U := U160) (X := X160) (c := uc) (b1 := 2) (p := 3) (q := (e160 + 1)) (u := u) (o := 5) (n1 := 0) (p1 := -2) (n3 := u) (l := []) (g := 0) du163 (by omega) (by omega) (by omega) (by omega) (fun q => absurd q (by decide)) (Int.le_of_eq (Eq.symm ((au160 0 _ (by omega)).trans (pu_e rfl)))) ((au160 6 _ (by omega)).trans (pu_e (by omega))) (U3tr (ax160 0 _ (by omega)) (au160 3 _ (by omega)) (au160 10 _ (by omega)) (Or.inl (pux_e (by omega)))) (by omega) (by omega)
            refine RlV (a105 (by omega) (hC.fr FL160) (q160_9) (congrArg iI p111_0) (li_3) (li_5) (by omega)) fun v Ma167 h167 => ?_
            obtain ⟨g167, e167_k0, p167_0, p167_1⟩ := h167
            have f167 : Fr W_cp Mc Ma167 := Fr.t FL160 (Fr.m g167 (by decide))
            refine rsl (cV_e rfl) ?_
            refine rsl (jv_e) ?_
            refine rsr (vC_e (rk_160 (hR.fr FR160))) ?_
            refine RrV (a202 (by omega) (hR.fr FR160) (w160_43) ((FR160.i _ _ (by decide)).trans h49) ((FR160.i _ _ (by decide)).trans h48) (congrArg iI p131_0) (li_2) (li_5) (by omega)) fun v Ma168 h168 => ?_
            obtain ⟨g168, e168_k0, p168_0, p168_1⟩ := h168
            have f168 : Fr W_rx Mr Ma168 := Fr.t FR160 (Fr.m g168 (by decide))
            refine rsr (cV_e rfl) ?_
            refine rsr (jv_e) ?_
            exact Rs.ok (Or.inl ⟨i160, (e160 + 1), u160, uc160, (pu G160 e160 [5, 0, -2, u, ut, mu, 0]), (ps U160 u 2 3 e160), X160, f167, f168, ⟨(g167.i _ _ (by decide)).trans (q160_12), (g167.i _ _ (by decide)).trans (q160_13), (g167.i _ _ (by decide)).trans (q160_10), e167_k0, (g167.i _ _ (by decide)).trans (q160_16), (g167.i _ _ (by decide)).trans (q160_19)⟩, ⟨(g168.i _ _ (by decide)).trans (w160_36), (g168.i _ _ (by decide)).trans (w160_37), (g168.i _ _ (by decide)).trans (w160_38), (g168.i _ _ (by decide)).trans (w160_41), e168_k0, (g168.i _ _ (by decide)).trans (w160_51), (g168.i _ _ (by decide)).trans (w160_53), (g168.i _ _ (by decide)).trans (w160_50), (w160_n.fr g168 (by decide) (by decide))⟩, ⟨(CA1.em ca160 (by omega) p167_0 rfl), (RA1.em ra160 (by omega) p168_0 rfl), (lc160.fr g167 (by decide)), (lr160.fr g168 (by decide)), (CU.set (b := 2) cu160 ⟨by omega, by omega⟩ ((au160 0 _ (by omega)).trans (pu_e rfl)) p167_1 g167 (by decide)), (RU.set ru160 ⟨by omega, by omega⟩ p168_1 g168 (by decide))⟩, ⟨by omega, by omega, by omega, by omega, by omega, by omega, by omega, by omega, by omega, by omega, by omega, by omega⟩, ⟨by omega, by omega, by omega, by omega, by omega, by omega⟩, (Ag.pu (Ag.t Ag.r ag160 (by omega)) (by omega)), (Ag.ps (Ag.t (Ag.pu Ag.r (by omega)) au160 (by omega)) (by omega)), (AgL.t (AgL.pu AgL.r (by omega)) ax160 (by omega)), ty165, du166, (ku160.fr g167 (by decide))⟩)
          ·
            have FL160 : Fr W_cp Mc Mx160 := Fr.t f111 fl160
            have FR160 : Fr W_rp Mr Nx160 := Fr.t (Fr.m f131 W_rx_p) fr160
            obtain ⟨ti160, tz160, tn160, tu160, t13160, t10160, t11160, t12160, t9160, t16160, t19160, tb160⟩ := tc160
            obtain ⟨re160, rn160, ru160, rm160, rt160, u41160, u42160, u43160, u51160, u53160, u48160, u49160, ub160⟩ := tr160
            refine rsl (cV_e rfl) ?_
            refine rsr (cV_e rfl) ?_
            refine rsl (vC_e (ck_65 (hC.fr FL160))) ?_
            refine RlV (y105 (by omega) (hC.fr FL160) (hTk.fr (WL := W_cp) FL160 (by decide)) (t12160) (t13160) (t10160) (t11160) (t9160) (t16160) (t19160) (congrArg iI p111_0) (li_3) (li_5) (by omega)) fun v Ma170 h170 => ?_
            obtain ⟨sz169, sn169, uc169, g170, e170_sz169, e170_sn169, e170_uc169, e170_k0, e170_k1, e170_k2, e170_k3, p170_0, p170_1, p170_2⟩ := h170
            have f170 : Fr W_cp Mc Ma170 := Fr.t FL160 (Fr.m g170 (by decide))
            refine rsl (cV_e rfl) ?_
            refine rsl (jv_e) ?_
            refine rsr (vC_e (rk_160 (hR.fr FR160))) ?_
            refine RrV (x202_s (by omega) (hR.fr FR160) (u41160) (u42160) (u43160) (u51160) (u53160) (u48160) (u49160) (congrArg iI p131_0) (li_2) (li_5) (by omega)) fun v Ma172 h172 => ?_
            obtain ⟨em171, g172, e172_em171, e172_k0, e172_k1, e172_k2, e172_k3, e172_k4, p172_0⟩ := h172
            have f172 : Fr W_rp Mr Ma172 := Fr.t FR160 (Fr.m g172 (by decide))
            refine rsr (cV_e rfl) ?_
            refine rsr (jv_e) ?_
            exact Rs.ok (Or.inr ⟨F160, P160, f170, f172, ⟨ti160, sz169, sn169, uc169, e170_k0, e170_k1, e170_k2, e170_k3, e170_sz169, e170_sn169, e170_uc169, by omega⟩, ⟨em171, rn160, ru160, rm160, rt160, e172_k0, e172_k1, e172_em171, e172_k2, e172_k3, e172_k4, (g172.i _ _ (by decide)).trans (u49160), by omega⟩⟩)
      · refine rsl (if_neg (eqI_n (rfl) (li_91) (by omega))) ?_
        refine rsl (vC_e (ck_65 (hC.fr f111))) ?_
        obtain ⟨rl, hrl⟩ : ∃ r, LcF Hl s (tx i) r := by have q := LcF_ex (Hl := Hl) (y := (tx i)) s.toNat; rw [show ((s.toNat : Nat) : Int) = s by omega] at q; exact q
        have brl := hrl.bd
        by_cases crl : rl = -1
        ·
          subst crl
          have ty173 := Tye.em (d := 0) (d' := 1) (q := (e + 1)) (n1 := 0) (ut := ut) (mu := mu) (l := []) ty2 (Or.inl (by omega) : Eff 3 u 0 0 s 1 s) (by omega) ⟨by omega, by omega⟩ (by omega)
          have du174 := DU.set (U := (pu U u [uc, (V Mr 201 u.toNat), (V Mr 200 u.toNat), (V Mr 203 u.toNat), (pl i), (V Mr 206 u.toNat), ut, 0, (V Mc 79 uc.toNat), (V Mc 80 uc.toNat), (V Mc 82 uc.toNat)])) (X := (pux X u [(0 : Int64), (tx i)])) (c := uc) (b1 := 0) (p := 1) (q := (e + 1)) (u := u) (o := 3) (n1 := 0) (p1 := -2) (n3 := u) (l := []) (g := 0) (DU.r (ut := ut) (mu := mu) (c := uc) (G := G) (a := e) (u := (u + 1))) (by omega) (by omega) (by omega) (by omega) (fun q => absurd q (by decide)) (Int.le_of_eq (Eq.symm (pu_e rfl))) (pu_e (by omega)) (Or.inl (pux_e (by omega))) (by omega) (by omega)
          refine RlV (a106_n (by omega) (hC.fr f111) ((g111.i _ _ (by decide)).trans (qa_9)) (congrArg iI p111_0) (li_1) (li_1) (li_3) ((g111.i _ _ (by decide)).trans (qa_16)) (lca.fr g111 (by decide)) p111_1.2.2.2.2.2.2.2.1 p111_1.2.2.2.2.2.2.2.2 hrl rfl (by omega)) fun v Ma175 h175 => ?_
          obtain ⟨g175, e175_k0, p175_0, p175_1⟩ := h175
          have f175 : Fr W_cp Mc Ma175 := Fr.t f111 (Fr.m g175 (by decide))
          refine rsl (cV_e rfl) ?_
          refine rsl (jv_e) ?_
          refine rsr (vC_e (rk_160 hR)) ?_
          refine RrI (a201_u (by omega) hS hR (hT.fr (W := W_rx) Fr.r (by decide) (by decide)) (fun i a b => (Fr.lc (W := W_rx) Fr.r _ (by decide) _).trans (hW i a b)) (wa_36) (wa_37) (wa_38) (wa_41) (h49) (wa_53) wa_n (by omega)) fun v Ma177 h177 => ?_
          obtain ⟨r176, rfl, g177, e177_k0, e177_k1, e177_k2, e177_k3, e177_k4, p177_0, p177_1, p177_2⟩ := h177
          have f177 : Fr W_rx Mr Ma177 := Fr.t Fr.r (Fr.m g177 (by decide))
          refine rsr (cI_e rfl) ?_
          refine rsr (gtI_q (w := iI 0) (rk_160 (hR.fr f177)) (e177_k4)) ?_
          refine rsr (if_pos (eqI_p (rfl) (li_0) (by omega))) ?_
          refine rsr (gtP_q (w := some 202) (rk_160 (hR.fr f177)) (rf_56 (hR.fr f177))) ?_
          refine rsr (alL_q (n := 2000) (z := u) (w := (0 : Int64)) (rk_202 (hR.fr f177)) (congrArg iI p177_0) (by omega) (p177_1.2.2.2.1)) ?_
          refine rsr (jn_v) ?_
          refine rsr (if_pos (lgc_p (rfl) (rfl) rfl)) ?_
          refine rsr (gtP_q (w := some 204) (rk_160 (hR.fr f177)) (rf_58 (hR.fr f177))) ?_
          refine rsr (alL_q (n := 2000) (z := u) (w := (tx i)) (rk_204 (hR.fr f177)) (congrArg iI p177_0) (by omega) (p177_1.2.2.2.2.2.1)) ?_
          refine rsr (vC_e (rk_160 (hR.fr f177))) ?_
          refine RrI (a197 (by omega) (hR.fr f177) ((g177.i _ _ (by decide)).trans (wa_51)) (lra.fr g177 (by decide)) (by omega)) fun v Nl178 hl178 => ?_
          obtain ⟨r9, rfl, hMl, hr9⟩ := hl178
          rw [hMl]
          have q9 := LcF.one hr9 hrl
          rw [q9]
          refine rsr (cI_e rfl) ?_
          refine rsr (jv_e) ?_
          try dsimp only
          refine rsr (gtI_q (w := iI ((kr (kd (i + 1))))) (rk_160 (hR.fr f177)) (e177_k1)) ?_
          refine rsr (jn_v) ?_
          refine rsr (if_neg (krI_n (k := 40) (rfl) (li_40) (hS.ok (i + 1) (by omega) (by omega)) (by unfold KdOK sgk; omega) (by decide +kernel) (by omega) (by omega))) ?_
          refine rsr (gtI_q (w := iI ((kr (kd (i + 1))))) (rk_160 (hR.fr f177)) (e177_k1)) ?_
          refine rsr (if_neg (krI_n (k := 91) (rfl) (li_91) (hS.ok (i + 1) (by omega) (by omega)) (by unfold KdOK sgk; omega) (by decide +kernel) (by omega) (by omega))) ?_
          refine rsr (if_pos (lsI_p (congrArg iI (if_pos rfl)) (li_0) (by omega))) ?_
          refine rsr (vC_e (rk_160 (hR.fr f177))) ?_
          refine RrV (a202 (by omega) (hR.fr f177) ((g177.i _ _ (by decide)).trans (wa_43)) ((g177.i _ _ (by decide)).trans (h49)) ((g177.i _ _ (by decide)).trans (h48)) (congrArg iI p177_0) (li_0) (li_3) (by omega)) fun v Ma179 h179 => ?_
          obtain ⟨g179, e179_k0, p179_0, p179_1⟩ := h179
          have f179 : Fr W_rx Mr Ma179 := Fr.t f177 (Fr.m g179 (by decide))
          refine rsr (cV_e rfl) ?_
          refine rsr (jv_e) ?_
          exact Rs.ok (Or.inl ⟨(i + 1), (e + 1), (u + 1), (uc + 1), (pu G e [3, 0, -2, u, ut, mu, 0]), (ps (pu U u [uc, (V Mr 201 u.toNat), (V Mr 200 u.toNat), (V Mr 203 u.toNat), (pl i), (V Mr 206 u.toNat), ut, 0, (V Mc 79 uc.toNat), (V Mc 80 uc.toNat), (V Mc 82 uc.toNat)]) u 0 1 e), (pux X u [(0 : Int64), (tx i)]), f175, f179, ⟨(g175.i _ _ (by decide)).trans (e111_k0), (g175.i _ _ (by decide)).trans (e111_k2), (g175.i _ _ (by decide)).trans (e111_k3), e175_k0, (g175.i _ _ (by decide)).trans ((g111.i _ _ (by decide)).trans (qa_16)), (g175.i _ _ (by decide)).trans (e111_k1)⟩, ⟨(g179.i _ _ (by decide)).trans (e177_k1), (g179.i _ _ (by decide)).trans (e177_k2), (g179.i _ _ (by decide)).trans (e177_k3), (g179.i _ _ (by decide)).trans (e177_k4), e179_k0, (g179.i _ _ (by decide)).trans ((g177.i _ _ (by decide)).trans (wa_51)), (g179.i _ _ (by decide)).trans (e177_k0), (g179.i _ _ (by decide)).trans ((g177.i _ _ (by decide)).trans (wa_50)), (p177_2.fr g179 (by decide) (by decide))⟩, ⟨(CA1.em (caa.fr g111 (by decide)) (by omega) p175_0 rfl), (RA1.em (raa.fr g177 (by decide)) (by omega) p179_0 rfl), ((lca.fr g111 (by decide)).fr g175 (by decide)), ((lra.fr g177 (by decide)).fr g179 (by decide)), (CU.set (b := 0) (CU.add cua (by omega) (by omega) p111_1 rfl rfl) ⟨by omega, by omega⟩ (pu_e rfl) p175_1 g175 (by decide)), (RU.set (RU.add rua (by omega) p177_1 rfl) ⟨by omega, by omega⟩ p179_1 g179 (by decide))⟩, ⟨by omega, by omega, by omega, by omega, by omega, by omega, by omega, by omega, by omega, by omega, by omega, by omega⟩, ⟨by omega, by omega, by omega, by omega, by omega, by omega⟩, (Ag.pu Ag.r (by omega)), (Ag.ps (Ag.pu Ag.r (by omega)) (by omega)), (AgL.pu AgL.r (by omega)), ty173, du174, ((KU.us kua p111_1 g111 (by decide) (by omega)).fr g175 (by decide))⟩)
        ·
          have ty180 := Tye.em (d := 0) (d' := 1) (q := (e + 1)) (n1 := rl) (ut := ut) (mu := mu) (l := []) ty2 (Or.inr (Or.inl (by omega)) : Eff 1 rl 0 0 s 1 s) (by omega) ⟨by omega, by omega⟩ (by omega)
          have du181 := DU.em (q := (e + 1)) (o := 1) (n := rl) (p := -2) (l := [0]) du3 (by omega) (by omega)
          refine RlV (a106_l (by omega) (hC.fr f111) ((g111.i _ _ (by decide)).trans (qa_9)) (congrArg iI p111_0) (li_1) (li_1) (li_3) ((g111.i _ _ (by decide)).trans (qa_16)) (lca.fr g111 (by decide)) p111_1.2.2.2.2.2.2.2.1 p111_1.2.2.2.2.2.2.2.2 hrl ⟨by omega, by omega⟩ rfl (by omega)) fun v Ma182 h182 => ?_
          obtain ⟨g182, e182_k0, p182_0, p182_1⟩ := h182
          have f182 : Fr W_cp Mc Ma182 := Fr.t f111 (Fr.m g182 (by decide))
          refine rsl (cV_e rfl) ?_
          refine rsl (jv_e) ?_
          refine rsr (vC_e (rk_160 hR)) ?_
          refine RrI (a201_u (by omega) hS hR (hT.fr (W := W_rx) Fr.r (by decide) (by decide)) (fun i a b => (Fr.lc (W := W_rx) Fr.r _ (by decide) _).trans (hW i a b)) (wa_36) (wa_37) (wa_38) (wa_41) (h49) (wa_53) wa_n (by omega)) fun v Ma184 h184 => ?_
          obtain ⟨r183, rfl, g184, e184_k0, e184_k1, e184_k2, e184_k3, e184_k4, p184_0, p184_1, p184_2⟩ := h184
          have f184 : Fr W_rx Mr Ma184 := Fr.t Fr.r (Fr.m g184 (by decide))
          refine rsr (cI_e rfl) ?_
          refine rsr (gtI_q (w := iI 0) (rk_160 (hR.fr f184)) (e184_k4)) ?_
          refine rsr (if_pos (eqI_p (rfl) (li_0) (by omega))) ?_
          refine rsr (gtP_q (w := some 202) (rk_160 (hR.fr f184)) (rf_56 (hR.fr f184))) ?_
          refine rsr (alL_q (n := 2000) (z := u) (w := (0 : Int64)) (rk_202 (hR.fr f184)) (congrArg iI p184_0) (by omega) (p184_1.2.2.2.1)) ?_
          refine rsr (jn_v) ?_
          refine rsr (if_pos (lgc_p (rfl) (rfl) rfl)) ?_
          refine rsr (gtP_q (w := some 204) (rk_160 (hR.fr f184)) (rf_58 (hR.fr f184))) ?_
          refine rsr (alL_q (n := 2000) (z := u) (w := (tx i)) (rk_204 (hR.fr f184)) (congrArg iI p184_0) (by omega) (p184_1.2.2.2.2.2.1)) ?_
          refine rsr (vC_e (rk_160 (hR.fr f184))) ?_
          refine RrI (a197 (by omega) (hR.fr f184) ((g184.i _ _ (by decide)).trans (wa_51)) (lra.fr g184 (by decide)) (by omega)) fun v Nl185 hl185 => ?_
          obtain ⟨r9, rfl, hMl, hr9⟩ := hl185
          rw [hMl]
          have q9 := LcF.one hr9 hrl
          rw [q9]
          refine rsr (cI_e rfl) ?_
          refine rsr (jv_e) ?_
          try dsimp only
          refine rsr (gtI_q (w := iI ((kr (kd (i + 1))))) (rk_160 (hR.fr f184)) (e184_k1)) ?_
          refine rsr (jn_v) ?_
          refine rsr (if_neg (krI_n (k := 40) (rfl) (li_40) (hS.ok (i + 1) (by omega) (by omega)) (by unfold KdOK sgk; omega) (by decide +kernel) (by omega) (by omega))) ?_
          refine rsr (gtI_q (w := iI ((kr (kd (i + 1))))) (rk_160 (hR.fr f184)) (e184_k1)) ?_
          refine rsr (if_neg (krI_n (k := 91) (rfl) (li_91) (hS.ok (i + 1) (by omega) (by omega)) (by unfold KdOK sgk; omega) (by decide +kernel) (by omega) (by omega))) ?_
          refine rsr (if_neg (lsI_n (congrArg iI (if_neg (by omega))) (li_0) (by omega))) ?_
          refine rsr (gtI_q (w := iI (u + 1)) (rk_160 (hR.fr f184)) (e184_k0)) ?_
          refine rsr (ptI_q (z := u) (rk_160 (hR.fr f184)) (cvI (sbI (rfl) (li_1)) (by omega))) ?_
          refine rsr (vC_e (rk_160 (hR.fr f184).sI)) ?_
          refine RrI (a196 (by omega) (hR.fr f184).sI ((sI_nej (by decide)).trans ((g184.i _ _ (by decide)).trans (wa_43))) ((sI_nej (by decide)).trans ((g184.i _ _ (by decide)).trans (h49))) ((sI_nej (by decide)).trans ((g184.i _ _ (by decide)).trans (h48))) (li_1) (congrArg iI (if_neg (by omega))) (by omega)) fun v Ma187 h187 => ?_
          obtain ⟨r186, rfl, g187, e187_k0, p187_0, p187_1⟩ := h187
          have f187 : Fr W_rx Mr Ma187 := Fr.t (Fr.sI (by decide) f184) (Fr.m g187 (by decide))
          refine rsr (cI_e rfl) ?_
          refine rsr (jv_e) ?_
          exact Rs.ok (Or.inl ⟨(i + 1), (e + 1), u, (uc + 1), (pu G e [1, rl, -2, rl, ut, mu, 0]), U, X, f182, f187, ⟨(g182.i _ _ (by decide)).trans (e111_k0), (g182.i _ _ (by decide)).trans (e111_k2), (g182.i _ _ (by decide)).trans (e111_k3), e182_k0, (g182.i _ _ (by decide)).trans ((g111.i _ _ (by decide)).trans (qa_16)), (g182.i _ _ (by decide)).trans (e111_k1)⟩, ⟨(g187.i _ _ (by decide)).trans ((sI_nej (by decide)).trans (e184_k1)), (g187.i _ _ (by decide)).trans ((sI_nej (by decide)).trans (e184_k2)), (g187.i _ _ (by decide)).trans ((sI_nej (by decide)).trans (e184_k3)), (g187.i _ _ (by decide)).trans ((sI_nej (by decide)).trans (e184_k4)), e187_k0, (g187.i _ _ (by decide)).trans ((sI_nej (by decide)).trans ((g184.i _ _ (by decide)).trans (wa_51))), (g187.i _ _ (by decide)).trans (sI_eq), (g187.i _ _ (by decide)).trans ((sI_nej (by decide)).trans ((g184.i _ _ (by decide)).trans (wa_50))), ((p184_2.fr (W := W_r0) (Fr.sI (by decide) Fr.r) (by decide) (by decide)).fr g187 (by decide) (by decide))⟩, ⟨(CA1.em (caa.fr g111 (by decide)) (by omega) p182_0 rfl), (RA1.em ((raa.fr g184 (by decide)).fr (W := W_r0) (Fr.sI (by decide) Fr.r) (by decide)) (by omega) p187_1 rfl), ((lca.fr g111 (by decide)).fr g182 (by decide)), (((lra.fr g184 (by decide)).fr (W := W_r0) (Fr.sI (by decide) Fr.r) (by decide)).fr g187 (by decide)), (CU.loc2 (CU.keep cua (by omega) p111_1 rfl) hlt p182_1 g182 (by decide)), (((RU.keep rua p184_1).fr (W := W_r0) (Fr.sI (by decide) Fr.r) (by decide)).fr g187 (by decide))⟩, ⟨by omega, by omega, by omega, by omega, by omega, by omega, by omega, by omega, by omega, by omega, by omega, by omega⟩, ⟨by omega, by omega, by omega, by omega, by omega, by omega⟩, (Ag.pu Ag.r (by omega)), Ag.r, AgL.r, ty180, du181, ((KU.us kua p111_1 g111 (by decide) (by omega)).fr g182 (by decide))⟩)
