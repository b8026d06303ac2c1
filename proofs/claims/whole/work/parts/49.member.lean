/-! the end of a member's code -/
theorem a88_p {d : Nat} {M : Mem} (hd : 3 ≤ d) {T : Int → Int} {n m : Int} {kd pl E : Int → Int} {tx : Int → Int64} (hS : TkS T n m kd pl E tx) (hR : CT M) (hTk : TkA M m kd pl tx) {i : Int} (h12 : M.1 65 12 = iI i) (h13 : M.1 65 13 = iI (kd i)) (h10 : M.1 65 10 = iI 0) {e st ut mu : Int} {G : Nat → Int → Int} (h9 : M.1 65 9 = iI e) (h14 : M.1 65 14 = iI st) (hG : CA1 M G e) (h : 0 ≤ i ∧ i < m ∧ m ≤ 1400 ∧ kd i = 125 ∧ 0 ≤ e ∧ e ≤ 4000 ∧ 0 ≤ st ∧ st ≤ 4000 ∧ e + 2 - st ≤ 200 ∧ e + 2 ≤ 1000) : Rt (runX d 88 [va_rf (some 65)] M) (fun _ M2 => Fr W_em M M2 ∧ M2.1 65 9 = iI (e + 2) ∧ (CA1 M2 (pu (pu G e [0, 0, -2, 0, ut, mu, 0]) (e + 1) [8, 0, -2, 0, ut, mu, 0]) (e + 2))) := by
  obtain ⟨d, rfl⟩ : ∃ e, d = e + 1 := ⟨d - 1, by omega⟩
  rw [r88]; unfold b88; rw [aR_e, aZ_e]; unfold c88
  have hk0 := (hS.ok i (by omega) (by omega)).r
  have hm := hS.2.2.1
  refine rs1 (vC_e (ck_65 hR)) ?_
  refine Rc_I (a87 (by omega) hR (h9) (li_0) (li_0) (by omega)) fun v Ma2 h2 => ?_
  obtain ⟨r1, rfl, g2, e2_k0, p2_0, p2_1⟩ := h2
  have f2 : Fr W_em M Ma2 := Fr.t Fr.r (Fr.m g2 (by decide))
  refine rs1 (cI_e rfl) ?_
  refine rs1 (vC_e (ck_65 (hR.fr f2))) ?_
  refine Rc_I (a87 (by omega) (hR.fr f2) (e2_k0) (li_8) (li_0) (by omega)) fun v Ma4 h4 => ?_
  obtain ⟨r3, rfl, g4, e4_k0, p4_0, p4_1⟩ := h4
  have f4 : Fr W_em M Ma4 := Fr.t f2 (Fr.m g4 (by decide))
  refine rs1 (cI_e rfl) ?_
  refine rs1 (gtI_q (w := iI ((kd i))) (ck_65 (hR.fr f4)) ((g4.i _ _ (by decide)).trans ((g2.i _ _ (by decide)).trans (h13)))) ?_
  refine rs1 (jn_v) ?_
  refine rs1 (if_pos (eqI_p (rfl) (li_125) (by omega))) ?_
  refine rs1 (gtI_q (w := iI (e + 2)) (ck_65 (hR.fr f4)) (e4_k0)) ?_
  refine rs1 (gtI_q (w := iI st) (ck_65 (hR.fr f4)) ((g4.i _ _ (by decide)).trans ((g2.i _ _ (by decide)).trans (h14)))) ?_
  refine rs1 (jn_v) ?_
  refine rs1 (if_neg (lsI_n (li_200) (sbI (rfl) (rfl)) (by omega))) ?_
  refine rs1 (gtI_q (w := iI (e + 2)) (ck_65 (hR.fr f4)) (e4_k0)) ?_
  refine rs1 (if_pos (leI_p (rfl) (li_1000) (by omega))) ?_
  refine rs1 (jv_e) ?_
  exact Rt.ok ⟨f4, e4_k0, (CA1.em (CA1.em hG (by omega) p2_1 (by omega)) (by omega) p4_1 (by omega))⟩
def W_e6 : List (Nat × Nat) := [(65, 9), (65, 10), (65, 11), (65, 13), (72, 9999), (73, 9999), (74, 9999)]
theorem a88_6 {d : Nat} {M : Mem} (hd : 3 ≤ d) {T : Int → Int} {n m : Int} {kd pl E : Int → Int} {tx : Int → Int64} (hS : TkS T n m kd pl E tx) (hR : CT M) (hTk : TkA M m kd pl tx) {i : Int} (h12 : M.1 65 12 = iI i) (h13 : M.1 65 13 = iI (kd i)) (h10 : M.1 65 10 = iI 0) {e st ut mu : Int} {G : Nat → Int → Int} (h9 : M.1 65 9 = iI e) (h14 : M.1 65 14 = iI st) (hG : CA1 M G e) (h : 0 ≤ i ∧ i < m ∧ m ≤ 1400 ∧ kd i = 125 ∧ 0 ≤ e ∧ e ≤ 4000 ∧ 0 ≤ st ∧ st ≤ 4000 ∧ (200 < e + 2 - st ∨ 1000 < e + 2)) : Rt (runX d 88 [va_rf (some 65)] M) (fun _ M2 => Fr W_e6 M M2 ∧ M2.1 65 9 = iI (e + 2) ∧ M2.1 65 10 = iI 6 ∧ M2.1 65 11 = iI ((pl i)) ∧ M2.1 65 13 = iI 2) := by
  obtain ⟨d, rfl⟩ : ∃ e, d = e + 1 := ⟨d - 1, by omega⟩
  rw [r88]; unfold b88; rw [aR_e, aZ_e]; unfold c88
  have hk0 := (hS.ok i (by omega) (by omega)).r
  have hm := hS.2.2.1
  refine rs1 (vC_e (ck_65 hR)) ?_
  refine Rc_I (a87 (by omega) hR (h9) (li_0) (li_0) (by omega)) fun v Ma2 h2 => ?_
  obtain ⟨r1, rfl, g2, e2_k0, p2_0, p2_1⟩ := h2
  have f2 : Fr W_e6 M Ma2 := Fr.t Fr.r (Fr.m g2 (by decide))
  refine rs1 (cI_e rfl) ?_
  refine rs1 (vC_e (ck_65 (hR.fr f2))) ?_
  refine Rc_I (a87 (by omega) (hR.fr f2) (e2_k0) (li_8) (li_0) (by omega)) fun v Ma4 h4 => ?_
  obtain ⟨r3, rfl, g4, e4_k0, p4_0, p4_1⟩ := h4
  have f4 : Fr W_e6 M Ma4 := Fr.t f2 (Fr.m g4 (by decide))
  refine rs1 (cI_e rfl) ?_
  refine rs1 (gtI_q (w := iI ((kd i))) (ck_65 (hR.fr f4)) ((g4.i _ _ (by decide)).trans ((g2.i _ _ (by decide)).trans (h13)))) ?_
  refine rs1 (jn_v) ?_
  refine rs1 (if_pos (eqI_p (rfl) (li_125) (by omega))) ?_
  refine rs1 (gtI_q (w := iI (e + 2)) (ck_65 (hR.fr f4)) (e4_k0)) ?_
  refine rs1 (gtI_q (w := iI st) (ck_65 (hR.fr f4)) ((g4.i _ _ (by decide)).trans ((g2.i _ _ (by decide)).trans (h14)))) ?_
  refine rs1 (jn_v) ?_
  by_cases c5 : 200 < (e - st + 2)
  · refine rs1 (if_pos (lsI_p (li_200) (sbI (rfl) (rfl)) (by omega))) ?_
    refine rs1 (jv_e) ?_
    refine rs1 (vC_e (ck_65 (hR.fr f4))) ?_
    refine rs1 (cV_e (a62_2 (by omega) hS (hR.fr f4) (hTk.fr (WL := W_e6) f4 (by decide)) ((g4.i _ _ (by decide)).trans ((g2.i _ _ (by decide)).trans (h12))) ((g4.i _ _ (by decide)).trans ((g2.i _ _ (by decide)).trans (h13))) ((g4.i _ _ (by decide)).trans ((g2.i _ _ (by decide)).trans (h10))) (li_6) (by omega))) ?_
    refine rs1 (jv_e) ?_
    exact Rt.ok ⟨(Fr.sI (by decide) (Fr.sI (by decide) (Fr.sI (by decide) f4))), (sI_nej (by decide)).trans ((sI_nej (by decide)).trans ((sI_nej (by decide)).trans (e4_k0))), (sI_nej (by decide)).trans ((sI_nej (by decide)).trans (sI_eq)), (sI_nej (by decide)).trans (sI_eq), sI_eq⟩
  · refine rs1 (if_neg (lsI_n (li_200) (sbI (rfl) (rfl)) (by omega))) ?_
    refine rs1 (gtI_q (w := iI (e + 2)) (ck_65 (hR.fr f4)) (e4_k0)) ?_
    by_cases c6 : (e + 2) ≤ 1000
    · refine rs1 (if_pos (leI_p (rfl) (li_1000) (by omega))) ?_
      refine rs1 (jv_e) ?_
      exfalso; omega
    · refine rs1 (if_neg (leI_n (rfl) (li_1000) (by omega))) ?_
      refine rs1 (jv_e) ?_
      refine rs1 (vC_e (ck_65 (hR.fr f4))) ?_
      refine rs1 (cV_e (a62_2 (by omega) hS (hR.fr f4) (hTk.fr (WL := W_e6) f4 (by decide)) ((g4.i _ _ (by decide)).trans ((g2.i _ _ (by decide)).trans (h12))) ((g4.i _ _ (by decide)).trans ((g2.i _ _ (by decide)).trans (h13))) ((g4.i _ _ (by decide)).trans ((g2.i _ _ (by decide)).trans (h10))) (li_6) (by omega))) ?_
      refine rs1 (jv_e) ?_
      exact Rt.ok ⟨(Fr.sI (by decide) (Fr.sI (by decide) (Fr.sI (by decide) f4))), (sI_nej (by decide)).trans ((sI_nej (by decide)).trans ((sI_nej (by decide)).trans (e4_k0))), (sI_nej (by decide)).trans ((sI_nej (by decide)).trans (sI_eq)), (sI_nej (by decide)).trans (sI_eq), sI_eq⟩
section S49
variable {G : Nat → Int → Int} {a b s dp ut mu e i u uc dq m n : Int} {kd pl E : Int → Int} {tx : Int → Int64} {Mc Mr : Mem} {U : Nat → Int → Int} {X : Nat → Int → Int64} {Hl : Int → Int64} {T : Int → Int} {ua : Nat}
/-- PUSH 0 and RETURN behind a block -/
theorem Tyb.en (h : Tyb dp G a b s s) (hdp : dp ≤ 20) (hs : 0 ≤ s ∧ s ≤ 10) : Tyb dp (pu (pu G b [0, 0, -2, 0, ut, mu, 0]) (b + 1) [8, 0, -2, 0, ut, mu, 0]) a (b + 2) s s := by
  have h1 : Tye (pu G b [0, 0, -2, 0, ut, mu, 0]) b (b + 1) s 1 := Tye.em (d := 0) (q := b + 1) (l := []) Tye.r (Or.inl (by omega) : Eff 0 0 0 0 s 1 s) (by omega) hs rfl
  have h2 : Tyb dp (pu (pu G b [0, 0, -2, 0, ut, mu, 0]) (b + 1) [8, 0, -2, 0, ut, mu, 0]) b (b + 2) s s := Tyb.ex (d := 1) (q := b + 2) (l := []) h1 (Or.inr (Or.inr (Or.inr (Or.inr (Or.inr (Or.inr (Or.inr (Or.inr (by omega)))))))) : Eff 8 0 0 1 s 0 s) hdp hs (by omega)
  exact h.t (fun k j p => (pu_n (by omega)).trans (pu_n (by omega))) h2
/-- what stays, but for whether codes have a MUTANT -/
def Cx0 (T : Int → Int) (n m : Int) (kd pl : Int → Int) (tx : Int → Int64) (ua : Nat) (ut : Int) (Mc Mr : Mem) : Prop := CT Mc ∧ RT Mr ∧ TkA Mc m kd pl tx ∧ Tp 160 1 161 T n Mr ∧ (∀ i, 0 ≤ i → i < 28 → Mr.2.1 194 i.toNat = WR i) ∧ (259 ≤ ua ∧ Mc.2.2.1 65 1 = some ua ∧ Mc.2.2.2[ua]? = some (0, 3) ∧ Mc.1 ua 2 = iI (ut + 1)) ∧ Mr.1 160 49 = iI ut ∧ (0 ≤ ut ∧ ut ≤ 7)
theorem Cx0.up (h : Cx0 T n m kd pl tx ua ut Mc Mr) (hm : 0 ≤ mu ∧ mu ≤ 1) : Cx T n m kd pl tx ua ut mu Mc (sI (sI Mr 160 50 (iI 0)) 160 48 (iI mu)) := by
  have f : Fr W_rp Mr (sI (sI Mr 160 50 (iI 0)) 160 48 (iI mu)) := Fr.sI (by decide) (Fr.sI (by decide) Fr.r)
  obtain ⟨h1, h2, h3, h4, h5, h6, h7, h8⟩ := h
  exact ⟨h1, h2.fr f, h3, h4.fr f (by decide) (by decide), fun i a b => (f.lc _ (by decide) _).trans (h5 i a b), h6, (f.i _ _ (by decide)).trans h7, sI_eq, by omega⟩
theorem SR.up (h : SR Mr kd pl E tx i e s u dq) : SR (sI (sI Mr 160 50 (iI 0)) 160 48 (iI mu)) kd pl E tx i e s u 0 := by
  obtain ⟨h1, h2, h3, h4, h5, h6, h7, h8, h9⟩ := h
  have f : Fr [(160, 48), (160, 50)] Mr (sI (sI Mr 160 50 (iI 0)) 160 48 (iI mu)) := Fr.sI (by decide) (Fr.sI (by decide) Fr.r)
  exact ⟨(f.i _ _ (by decide)).trans h1, (f.i _ _ (by decide)).trans h2, (f.i _ _ (by decide)).trans h3, (f.i _ _ (by decide)).trans h4, (f.i _ _ (by decide)).trans h5, (f.i _ _ (by decide)).trans h6, (f.i _ _ (by decide)).trans h7, (sI_nej (by decide)).trans sI_eq, h9.fr f (by decide) (by decide)⟩
theorem RW.up (h : RW Mc Mr G U Hl X e s u uc) : RW Mc (sI (sI Mr 160 50 (iI 0)) 160 48 (iI mu)) G U Hl X e s u uc := by
  obtain ⟨h1, h2, h3, h4, h5, h6⟩ := h
  have f : Fr [(160, 48), (160, 50)] Mr (sI (sI Mr 160 50 (iI 0)) 160 48 (iI mu)) := Fr.sI (by decide) (Fr.sI (by decide) Fr.r)
  exact ⟨h1, h2.fr f (by decide), h3, h4.fr f (by decide), h5, h6.fr f (by decide)⟩
end S49
/-- a whole code: both went on alike -/
def PM (ut mu m : Int) (kd pl E : Int → Int) (tx : Int → Int64) (Mc Mr : Mem) (G U : Nat → Int → Int) (Hl : Int → Int64) (X : Nat → Int → Int64) (i e s u uc : Int) (Mc' Mr' : Mem) : Prop := ∃ (i' e' u' uc' : Int) (G' U' : Nat → Int → Int) (X' : Nat → Int → Int64), Fr W_cp Mc Mc' ∧ Fr W_rp Mr Mr' ∧ SC Mc' kd i' e' s uc' ∧ SR Mr' kd pl E tx i' e' s u' 0 ∧ RW Mc' Mr' G' U' Hl X' e' s u' uc' ∧ BD m i' e' s u' uc' 0 ∧ (i < i' ∧ e ≤ e' ∧ e' - e ≤ i' - i ∧ u ≤ u' ∧ uc' - uc ≤ i' - i ∧ uc ≤ uc') ∧ Ag G G' e ∧ Ag U U' u ∧ AgL X X' u ∧ Tyb 0 G' e e' s s ∧ DU ut mu uc G' U' X' e e' u u' ∧ KU uc Mc Mc' ∧ (e + 2 ≤ e' ∧ e' - e ≤ 200 ∧ e' ≤ 1000 ∧ G' 0 (e' - 1) = 8)
/-- the class behind its block, its last two codes already there; or its FAULT 6 alone; or a FAULT of both -/
def PMX (b : Int) (ut mu m : Int) (kd pl E : Int → Int) (tx : Int → Int64) (Mc Mr : Mem) (G U : Nat → Int → Int) (Hl : Int → Int64) (X : Nat → Int → Int64) (i e s u uc : Int) (Mc' Mr' : Mem) : Prop := (∃ (i' e' u' uc' : Int) (G' U' : Nat → Int → Int) (X' : Nat → Int → Int64), kd i' = 125 ∧ Fr W_cp Mc Mc' ∧ Fr W_rx Mr Mr' ∧ SC Mc' kd (i' + 1) (e' + 2) s uc' ∧ SR Mr' kd pl E tx i' e' s u' 0 ∧ (CA1 Mc' (pu (pu G' e' [0, 0, -2, 0, ut, mu, 0]) (e' + 1) [8, 0, -2, 0, ut, mu, 0]) (e' + 2) ∧ RA1 Mr' G' e' ∧ LA 76 Mc' Hl s ∧ LA 199 Mr' Hl s ∧ CU Mc' U' X' u' uc' ∧ RU Mr' U' X' u') ∧ BD m (i' + 1) (e' + 2) s u' uc' 0 ∧ (i < i' + 1 ∧ e ≤ e' ∧ e' + 2 - e ≤ i' + 1 - i ∧ u ≤ u' ∧ uc' - uc ≤ i' + 1 - i ∧ uc ≤ uc') ∧ Ag G G' e ∧ Ag U U' u ∧ AgL X X' u ∧ Tyb 0 G' e e' s s ∧ DU ut mu uc G' U' X' e e' u u' ∧ KU uc Mc Mc' ∧ (e' + 2 - e ≤ 200 ∧ e' + 2 ≤ 1000)) ∨ (∃ (i' e' u' : Int), kd i' = 125 ∧ Fr W_cp Mc Mc' ∧ Fr W_rx Mr Mr' ∧ FTc m 6 (pl i') Mc' ∧ SR Mr' kd pl E tx i' e' s u' 0 ∧ (0 ≤ i' ∧ i' < m ∧ e ≤ e' ∧ e' ≤ i' ∧ 0 ≤ u' ∧ u' ≤ i') ∧ (200 < e' + 2 - e ∨ (e' + 2 - e ≤ 200 ∧ 1000 < e' + 2))) ∨ ∃ F P : Int, Fr W_cp Mc Mc' ∧ Fr W_rp Mr Mr' ∧ FTc m F P Mc' ∧ FTr b F P Mr'
def PairM (D : Nat) : Prop := ∀ (d d' : Nat), D ≤ d → D ≤ d' → ∀ (T : Int → Int) (n m : Int) (kd pl E : Int → Int) (tx : Int → Int64) (ua : Nat) (ut mu : Int) (Mc Mr : Mem) (G U : Nat → Int → Int) (Hl : Int → Int64) (X : Nat → Int → Int64) (i e s u uc dq : Int) (v0 w0 : Int32), TkS T n m kd pl E tx → Cx0 T n m kd pl tx ua ut Mc Mr → 0 ≤ mu ∧ mu ≤ 1 → SC Mc kd i e s uc → SR Mr kd pl E tx i e s u dq → RW Mc Mr G U Hl X e s u uc → BD m i e s u uc 0 → Mc.1 65 14 = iI e → v0 = iI 0 → w0 = iI mu → Rs (runX d 89 [va_rf (some 65), .int v0] Mc) (runX d' 218 [va_rf (some 160), .int w0] Mr) (fun _ Mc' w Mr' => w = .int (iI e) ∧ (PM ut mu m kd pl E tx Mc Mr G U Hl X i e s u uc Mc' Mr' ∨ ∃ F P : Int, Fr W_cp Mc Mc' ∧ Fr W_rp Mr Mr' ∧ FTc m F P Mc' ∧ FTr 2500 F P Mr'))
theorem p_m {D : Nat} (hD : 20 ≤ D) (hSt : PairS D 1) : PairM (D + 10) := by
  intro d d2 hd hd2 T n m kd pl E tx ua ut mu Mc Mr0 G U Hl X i e s u uc dq v0 w0 hS hx0 hmu hsc hsr0 hrw0 hbd h14 hv0 hw0
  obtain ⟨d, rfl⟩ : ∃ e, d = e + 1 := ⟨d - 1, by omega⟩
  obtain ⟨d2, rfl⟩ : ∃ e, d2 = e + 1 := ⟨d2 - 1, by omega⟩
  rw [r89]; unfold b89; rw [aR_e, aI_e, aZ_e]; unfold c89; rw [r218]; unfold b218; rw [aR_e, aI_e, aZ_e]; unfold c218
  have hbd0 := hbd
  refine rsr (gtI_q (w := iI e) (rk_160 hx0.2.1) hsr0.2.2.2.2.1) ?_
  refine rsr (ptI_q (z := 0) (rk_160 hx0.2.1) (li_0)) ?_
  refine rsr (ptZ_q (z := mu) (rk_160 hx0.2.1.sI) (hw0) (by omega)) ?_
  obtain ⟨dp, hdp⟩ : ∃ z : Int, z = 0 := ⟨0, rfl⟩
  have hT1 : PairS D (dp + 1) := by rw [hdp]; exact hSt
  obtain ⟨Mr, hMr⟩ : ∃ Z, Z = sI (sI Mr0 160 50 (iI 0)) 160 48 (iI mu) := ⟨_, rfl⟩
  rw [← hMr]
  have hx : Cx T n m kd pl tx ua ut mu Mc Mr := by rw [hMr]; exact hx0.up hmu
  have hsr : SR Mr kd pl E tx i e s u dp := by rw [hMr, hdp]; exact hsr0.up
  have hrw : RW Mc Mr G U Hl X e s u uc := by rw [hMr]; exact hrw0.up
  have hF0 : Fr W_rp Mr0 Mr := by rw [hMr]; exact Fr.sI (by decide) (Fr.sI (by decide) Fr.r)
  clear hMr
  rw [← hdp] at hbd
  have hCx := hx
  obtain ⟨hC, hR, hTk, hT, hW, ⟨hu1, hu2, hu3, hu4⟩, h49, h48, ⟨hb1, hb2, hb3, hb4⟩⟩ := hx
  obtain ⟨bb_0, bb_1, bb_2, bb_3, bb_4, bb_5, bb_6, bb_7, bb_8, bb_9, bb_10, bb_11⟩ := hbd
  have kua : KU uc Mc Mc := KU.r
  obtain ⟨qa_12, qa_13, qa_10, qa_9, qa_16, qa_19⟩ := hsc
  obtain ⟨wa_36, wa_37, wa_38, wa_41, wa_43, wa_51, wa_53, wa_50, wa_n⟩ := hsr
  obtain ⟨caa, raa, lca, lra, cua, rua⟩ := hrw
  have hk1 := (hS.ok i (by omega) (by omega)).r
  have ty2 := (Tye.r (G := G) (a := e) (s := s))
  have du3 := (DU.r (ut := ut) (mu := mu) (c := uc) (G := G) (U := U) (X := X) (a := e) (u := u))
  have tb4 := (Tyb.r (dp := dp + 1) (G := G) (a := e) (s := s))
  refine rsl (vC_e (ck_65 hC)) ?_
  by_cases c5 : ((kd i)) = 123
  ·
    have hm6 : i + 1 < m := hS.more i (by omega) (by omega) (by omega)
    refine rsl (cV_e (a69q (by omega) hS hC (hTk.fr (WL := W_cp) Fr.r (by decide)) (qa_12) (qa_13) (qa_10) (li_123) (hv0) (i2 := (i + 1)) (by omega) (by omega))) ?_
    have hk7 := (hS.ok (i + 1) (by omega) (by omega)).r
    refine rsl (gtI_q (w := iI s) (ck_65 hC.sI.sI) ((sI_nej (by decide)).trans ((sI_nej (by decide)).trans (qa_16)))) ?_
    refine rsl (jn_v) ?_
    refine rsr (vC_e (rk_160 hR)) ?_
    refine Rs_cVr (P := fun _ Mc2 _ Mr2 => PMX 2470 ut mu m kd pl E tx Mc Mr G U Hl X i e s u uc Mc2 Mr2) ?_ (fun v Mx8 w Nx8 hx8 => ?_)
    ·
      obtain ⟨d2, rfl⟩ : ∃ e, d2 = e + 1 := ⟨d2 - 1, by omega⟩
      rw [r212]; unfold b212; rw [aR_e, aZ_e]; unfold c212
      refine rsr (gtI_q (w := iI 0) (rk_160 hR) (wa_41)) ?_
      refine rsr (jn_v) ?_
      refine rsr (if_pos (eqI_p (rfl) (li_0) (by omega))) ?_
      refine rsr (gtI_q (w := iI ((kr (kd i)))) (rk_160 hR) (wa_36)) ?_
      refine rsr (jn_v) ?_
      refine rsr (if_pos (krI_p (k := 123) (rfl) (li_123) (by omega) (by decide +kernel))) ?_
      refine rsr (jv_e) ?_
      refine rsr (vC_e (rk_160 hR)) ?_
      refine rsr (cI_e (ar193_p (by omega) hS hR (wa_36) (wa_37) (wa_41) (li_1) (by omega))) ?_
      refine rsr (if_neg (eqI_n (rfl) (li_0) (by omega))) ?_
      refine rsr (vC_e (rk_160 hR)) ?_
      refine rsr (cI_e (ar200_p (by omega) hS hR (wa_36) (wa_37) (wa_41) (wa_50) (by omega))) ?_
      refine rsr (if_neg (eqI_n (rfl) (li_0) (by omega))) ?_
      refine rsr (gtI_q (w := iI s) (rk_160 hR.sI) ((sI_nej (by decide)).trans (wa_51))) ?_
      refine rsr (vC_e (rk_160 hR.sI)) ?_
      refine RrV (nx_q (by omega) hS hR.sI (hT.fr (W := W_rx) (Fr.sI (by decide) Fr.r) (by decide) (by decide)) (fun i a b => (Fr.lc (W := W_rx) (Fr.sI (by decide) Fr.r) _ (by decide) _).trans (hW i a b)) (i := i) (i2 := (i + 1)) ((sI_nej (by decide)).trans (wa_41)) ((sI_nej (by decide)).trans (wa_38)) (by omega) (by omega) (by omega)) fun v Ma9 h9 => ?_
      obtain ⟨g9, e9_k0, e9_k1, e9_k2, p9_0⟩ := h9
      have f9 : Fr W_rx Mr Ma9 := Fr.t (Fr.sI (by decide) Fr.r) (Fr.m g9 (by decide))
      refine rsr (cV_e rfl) ?_
      refine rsr (jn_v) ?_
      refine Rb_lp (fun m2 q t => (∃ (k i2 s2 : Int) (H2 : Int → Int64), q.1 = iI k ∧ (0 ≤ k ∧ k ≤ i2) ∧ PS 1 (dp + 1) ut mu m kd pl E tx Mc Mr G U Hl X i e s u uc (dp + 1) q.2 t i2 i2 s2 H2 ∧ (m2 : Int) = m - i2 + 1) ∨ ∃ (k F P : Int), q.1 = iI k ∧ (0 ≤ k ∧ k ≤ 1500) ∧ Fr W_cp Mc q.2 ∧ Fr W_rp Mr t ∧ FTc m F P q.2 ∧ FTr (2500 - 30 * dp - 30) F P t ∧ m2 = 0) (fun m2 q t gl gr hq hgo => ?_) (m - i).toNat _ _ _ _ (by omega) (by omega) (Or.inl ⟨0, (i + 1), s, Hl, li_0, by omega, ⟨e, u, uc, G, U, X, (Fr.sI (by decide) (Fr.sI (by decide) Fr.r)), f9, ⟨(sI_nej (by decide)).trans (sI_eq), sI_eq, (sI_nej (by decide)).trans ((sI_nej (by decide)).trans (qa_10)), (sI_nej (by decide)).trans ((sI_nej (by decide)).trans (qa_9)), (sI_nej (by decide)).trans ((sI_nej (by decide)).trans (qa_16)), (sI_nej (by decide)).trans ((sI_nej (by decide)).trans (qa_19))⟩, ⟨e9_k0, e9_k1, e9_k2, (g9.i _ _ (by decide)).trans ((sI_nej (by decide)).trans (wa_41)), (g9.i _ _ (by decide)).trans ((sI_nej (by decide)).trans (wa_43)), (g9.i _ _ (by decide)).trans ((sI_nej (by decide)).trans (wa_51)), (g9.i _ _ (by decide)).trans ((sI_nej (by decide)).trans (wa_53)), (g9.i _ _ (by decide)).trans (sI_eq), p9_0⟩, ⟨(caa.fr (W := W_c0) (Fr.sI (by decide) (Fr.sI (by decide) Fr.r)) (by decide)), ((raa.fr (W := W_r0) (Fr.sI (by decide) Fr.r) (by decide)).fr g9 (by decide)), (lca.fr (W := W_c0) (Fr.sI (by decide) (Fr.sI (by decide) Fr.r)) (by decide)), ((lra.fr (W := W_r0) (Fr.sI (by decide) Fr.r) (by decide)).fr g9 (by decide)), (cua.fr (W := W_c0) (Fr.sI (by decide) (Fr.sI (by decide) Fr.r)) (by decide)), ((rua.fr (W := W_r0) (Fr.sI (by decide) Fr.r) (by decide)).fr g9 (by decide))⟩, ⟨by omega, by omega, by omega, by omega, by omega, by omega, by omega, by omega, by omega, by omega, by omega, by omega⟩, ⟨by omega, by omega, by omega, by omega, by omega, by omega⟩, Ag.r, Ag.r, AgL.r, tb4, du3, (kua.fr (W := W_c0) (Fr.sI (by decide) (Fr.sI (by decide) Fr.r)) (by decide)), HlR⟩, by omega⟩)
      obtain ⟨qk10, qm10⟩ := q
      dsimp only at hq
      try dsimp only
      rcases hq with hq | hq
      ·
        obtain ⟨k10, i10, s10, H10, hk10, ⟨hka10, hkb10⟩, ⟨e10, u10, uc10, G10, U10, X10, FL10, FR10, sc10, sr10, rw10, bd10, ⟨mv10_0, mv10_1, mv10_2, mv10_3, mv10_4, mv10_5⟩, ag10, au10, ax10, tp10, dp10, ku10, ⟨sl10, sh10⟩⟩, hm10⟩ := hq
        obtain ⟨bb10_0, bb10_1, bb10_2, bb10_3, bb10_4, bb10_5, bb10_6, bb10_7, bb10_8, bb10_9, bb10_10, bb10_11⟩ := bd10
        obtain ⟨q10_12, q10_13, q10_10, q10_9, q10_16, q10_19⟩ := sc10
        obtain ⟨w10_36, w10_37, w10_38, w10_41, w10_43, w10_51, w10_53, w10_50, w10_n⟩ := sr10
        obtain ⟨ca10, ra10, lc10, lr10, cu10, ru10⟩ := rw10
        have hk11 := (hS.ok i10 (by omega) (by omega)).r
        unfold c89_14 c212_45
        refine rsl (if_neg (leI_n (li_3000) (hk10) (by omega))) ?_
        refine rsl (gtI_q (w := iI ((kd i10))) (ck_65 (hC.fr FL10)) (q10_13)) ?_
        by_cases c12 : ((kd i10)) = 125
        · refine rsl (if_pos (eqI_p (rfl) (li_125) (by omega))) ?_
          refine rsl (jv_e) ?_
          refine rsl (jn_v) ?_
          refine rsl (if_pos (eqI_p (hv0) (li_0) (by omega))) ?_
          refine rsl (vC_e (ck_65 (hC.fr FL10))) ?_
          have b13 := V_r (M := qm10) (a := 65) (j := 14)
          have caX14 := ca10
          by_cases c514 : (e10 + 2) - e ≤ 200
          ·
            by_cases c614 : (e10 + 2) ≤ 1000
            ·
              refine RlV (a88_p (ut := ut) (mu := mu) (by omega) hS (hC.fr FL10) (hTk.fr (WL := W_cp) FL10 (by decide)) (q10_12) (q10_13) (q10_10) (q10_9) (eV) caX14 (by omega)) fun v Ma15 h15 => ?_
              obtain ⟨g15, e15_k0, p15_0⟩ := h15
              have f15 : Fr W_cp Mc Ma15 := Fr.t FL10 (Fr.m g15 (by decide))
              refine rsl (cV_e rfl) ?_
              refine rsl (jv_e) ?_
              refine rsl (vC_e (ck_65 (hC.fr f15))) ?_
              have hm16 : i10 + 1 < m := hS.more i10 (by omega) (by omega) (by omega)
              refine rsl (cV_e (a64q (by omega) hS (hC.fr f15) (hTk.fr (WL := W_cp) f15 (by decide)) ((g15.i _ _ (by decide)).trans (q10_12)) ((g15.i _ _ (by decide)).trans (q10_13)) ((g15.i _ _ (by decide)).trans (q10_10)) (li_125) (i2 := (i10 + 1)) (by omega) (by omega))) ?_
              have hk17 := (hS.ok (i10 + 1) (by omega) (by omega)).r
              refine rsl (ptI_q (z := s) (ck_65 (hC.fr f15).sI.sI) (rfl)) ?_
              refine rsr (gtI_q (w := iI 0) (rk_160 (hR.fr FR10)) (w10_41)) ?_
              refine rsr (if_pos (eqI_p (rfl) (li_0) (by omega))) ?_
              refine rsr (gtI_q (w := iI ((kr (kd i10)))) (rk_160 (hR.fr FR10)) (w10_36)) ?_
              refine rsr (if_pos (krI_p (k := 125) (rfl) (li_125) (by omega) (by decide +kernel))) ?_
              refine rsr (jv_e) ?_
              refine rsr (gtI_q (w := iI (dp + 1)) (rk_160 (hR.fr FR10)) (w10_50)) ?_
              refine rsr (ptI_q (z := dp) (rk_160 (hR.fr FR10)) (cvI (sbI (rfl) (li_1)) (by omega))) ?_
              refine rsr (ptI_q (z := s) (rk_160 (hR.fr FR10).sI) (rfl)) ?_
              exact Rs.ok (Or.inl ⟨i10, e10, u10, uc10, G10, U10, X10, by omega, (Fr.sI (by decide) (Fr.sI (by decide) (Fr.sI (by decide) f15))), (Fr.sI (by decide) (Fr.sI (by decide) FR10)), ⟨(sI_nej (by decide)).trans ((sI_nej (by decide)).trans (sI_eq)), (sI_nej (by decide)).trans (sI_eq), (sI_nej (by decide)).trans ((sI_nej (by decide)).trans ((sI_nej (by decide)).trans ((g15.i _ _ (by decide)).trans (q10_10)))), (sI_nej (by decide)).trans ((sI_nej (by decide)).trans ((sI_nej (by decide)).trans (e15_k0))), sI_eq, (sI_nej (by decide)).trans ((sI_nej (by decide)).trans ((sI_nej (by decide)).trans ((g15.i _ _ (by decide)).trans (q10_19))))⟩, ⟨(sI_nej (by decide)).trans ((sI_nej (by decide)).trans (w10_36)), (sI_nej (by decide)).trans ((sI_nej (by decide)).trans (w10_37)), (sI_nej (by decide)).trans ((sI_nej (by decide)).trans (w10_38)), (sI_nej (by decide)).trans ((sI_nej (by decide)).trans (w10_41)), (sI_nej (by decide)).trans ((sI_nej (by decide)).trans (w10_43)), sI_eq, (sI_nej (by decide)).trans ((sI_nej (by decide)).trans (w10_53)), (sI_nej (by decide)).trans (sI_eq), (w10_n.fr (W := W_r0) (Fr.sI (by decide) (Fr.sI (by decide) Fr.r)) (by decide) (by decide))⟩, ⟨(p15_0.fr (W := W_c0) (Fr.sI (by decide) (Fr.sI (by decide) (Fr.sI (by decide) Fr.r))) (by decide)), (ra10.fr (W := W_r0) (Fr.sI (by decide) (Fr.sI (by decide) Fr.r)) (by decide)), ((LA.bk (lc10.fr g15 (by decide)) (by omega) sh10).fr (W := W_c0) (Fr.sI (by decide) (Fr.sI (by decide) (Fr.sI (by decide) Fr.r))) (by decide)), ((LA.bk lr10 (by omega) sh10).fr (W := W_r0) (Fr.sI (by decide) (Fr.sI (by decide) Fr.r)) (by decide)), ((cu10.fr g15 (by decide)).fr (W := W_c0) (Fr.sI (by decide) (Fr.sI (by decide) (Fr.sI (by decide) Fr.r))) (by decide)), (ru10.fr (W := W_r0) (Fr.sI (by decide) (Fr.sI (by decide) Fr.r)) (by decide))⟩, ⟨by omega, by omega, by omega, by omega, by omega, by omega, by omega, by omega, by omega, by omega, by omega, by omega⟩, ⟨by omega, by omega, by omega, by omega, by omega, by omega⟩, ag10, au10, ax10, Tyb.lo tp10 (by omega) (by omega), dp10, ((ku10.fr g15 (by decide)).fr (W := W_c0) (Fr.sI (by decide) (Fr.sI (by decide) (Fr.sI (by decide) Fr.r))) (by decide)), ⟨by omega, by omega⟩⟩)
            ·
              refine RlV (a88_6 (ut := ut) (mu := mu) (by omega) hS (hC.fr FL10) (hTk.fr (WL := W_cp) FL10 (by decide)) (q10_12) (q10_13) (q10_10) (q10_9) (eV) caX14 (by omega)) fun v Ma18 h18 => ?_
              obtain ⟨g18, e18_k0, e18_k1, e18_k2, e18_k3⟩ := h18
              have f18 : Fr W_cp Mc Ma18 := Fr.t FL10 (Fr.m g18 (by decide))
              refine rsl (cV_e rfl) ?_
              refine rsl (jv_e) ?_
              refine rsl (vC_e (ck_65 (hC.fr f18))) ?_
              refine RlV (y64 (by omega) (hC.fr f18) (hTk.fr (WL := W_cp) f18 (by decide)) ((g18.i _ _ (by decide)).trans (q10_12)) (e18_k3) (e18_k1) (e18_k2) (e18_k0) ((g18.i _ _ (by decide)).trans (q10_16)) ((g18.i _ _ (by decide)).trans (q10_19)) (li_125) (by omega)) fun v Ma20 h20 => ?_
              obtain ⟨sz19, sn19, uc19, g20, e20_sz19, e20_sn19, e20_uc19, e20_k0, e20_k1, e20_k2, e20_k3, p20_0, p20_1, p20_2⟩ := h20
              have f20 : Fr W_cp Mc Ma20 := Fr.t f18 (Fr.m g20 (by decide))
              refine rsl (cV_e rfl) ?_
              refine rsl (ptI_q (z := s) (ck_65 (hC.fr f20)) (rfl)) ?_
              refine rsr (gtI_q (w := iI 0) (rk_160 (hR.fr FR10)) (w10_41)) ?_
              refine rsr (if_pos (eqI_p (rfl) (li_0) (by omega))) ?_
              refine rsr (gtI_q (w := iI ((kr (kd i10)))) (rk_160 (hR.fr FR10)) (w10_36)) ?_
              refine rsr (if_pos (krI_p (k := 125) (rfl) (li_125) (by omega) (by decide +kernel))) ?_
              refine rsr (jv_e) ?_
              refine rsr (gtI_q (w := iI (dp + 1)) (rk_160 (hR.fr FR10)) (w10_50)) ?_
              refine rsr (ptI_q (z := dp) (rk_160 (hR.fr FR10)) (cvI (sbI (rfl) (li_1)) (by omega))) ?_
              refine rsr (ptI_q (z := s) (rk_160 (hR.fr FR10).sI) (rfl)) ?_
              exact Rs.ok (Or.inr (Or.inl ⟨i10, e10, u10, by omega, (Fr.sI (by decide) f20), (Fr.sI (by decide) (Fr.sI (by decide) FR10)), ⟨i10, sz19, s, uc19, (sI_nej (by decide)).trans (e20_k0), (sI_nej (by decide)).trans (e20_k1), (sI_nej (by decide)).trans (e20_k2), (sI_nej (by decide)).trans (e20_k3), (sI_nej (by decide)).trans (e20_sz19), sI_eq, (sI_nej (by decide)).trans (e20_uc19), by omega⟩, ⟨(sI_nej (by decide)).trans ((sI_nej (by decide)).trans (w10_36)), (sI_nej (by decide)).trans ((sI_nej (by decide)).trans (w10_37)), (sI_nej (by decide)).trans ((sI_nej (by decide)).trans (w10_38)), (sI_nej (by decide)).trans ((sI_nej (by decide)).trans (w10_41)), (sI_nej (by decide)).trans ((sI_nej (by decide)).trans (w10_43)), sI_eq, (sI_nej (by decide)).trans ((sI_nej (by decide)).trans (w10_53)), (sI_nej (by decide)).trans (sI_eq), (w10_n.fr (W := W_r0) (Fr.sI (by decide) (Fr.sI (by decide) Fr.r)) (by decide) (by decide))⟩, ⟨by omega, by omega, by omega, by omega, by omega, by omega⟩, (Or.inr ⟨c514, by omega⟩)⟩))
          ·
            refine RlV (a88_6 (ut := ut) (mu := mu) (by omega) hS (hC.fr FL10) (hTk.fr (WL := W_cp) FL10 (by decide)) (q10_12) (q10_13) (q10_10) (q10_9) (eV) caX14 (by omega)) fun v Ma21 h21 => ?_
            obtain ⟨g21, e21_k0, e21_k1, e21_k2, e21_k3⟩ := h21
            have f21 : Fr W_cp Mc Ma21 := Fr.t FL10 (Fr.m g21 (by decide))
            refine rsl (cV_e rfl) ?_
            refine rsl (jv_e) ?_
            refine rsl (vC_e (ck_65 (hC.fr f21))) ?_
            refine RlV (y64 (by omega) (hC.fr f21) (hTk.fr (WL := W_cp) f21 (by decide)) ((g21.i _ _ (by decide)).trans (q10_12)) (e21_k3) (e21_k1) (e21_k2) (e21_k0) ((g21.i _ _ (by decide)).trans (q10_16)) ((g21.i _ _ (by decide)).trans (q10_19)) (li_125) (by omega)) fun v Ma23 h23 => ?_
            obtain ⟨sz22, sn22, uc22, g23, e23_sz22, e23_sn22, e23_uc22, e23_k0, e23_k1, e23_k2, e23_k3, p23_0, p23_1, p23_2⟩ := h23
            have f23 : Fr W_cp Mc Ma23 := Fr.t f21 (Fr.m g23 (by decide))
            refine rsl (cV_e rfl) ?_
            refine rsl (ptI_q (z := s) (ck_65 (hC.fr f23)) (rfl)) ?_
            refine rsr (gtI_q (w := iI 0) (rk_160 (hR.fr FR10)) (w10_41)) ?_
            refine rsr (if_pos (eqI_p (rfl) (li_0) (by omega))) ?_
            refine rsr (gtI_q (w := iI ((kr (kd i10)))) (rk_160 (hR.fr FR10)) (w10_36)) ?_
            refine rsr (if_pos (krI_p (k := 125) (rfl) (li_125) (by omega) (by decide +kernel))) ?_
            refine rsr (jv_e) ?_
            refine rsr (gtI_q (w := iI (dp + 1)) (rk_160 (hR.fr FR10)) (w10_50)) ?_
            refine rsr (ptI_q (z := dp) (rk_160 (hR.fr FR10)) (cvI (sbI (rfl) (li_1)) (by omega))) ?_
            refine rsr (ptI_q (z := s) (rk_160 (hR.fr FR10).sI) (rfl)) ?_
            exact Rs.ok (Or.inr (Or.inl ⟨i10, e10, u10, by omega, (Fr.sI (by decide) f23), (Fr.sI (by decide) (Fr.sI (by decide) FR10)), ⟨i10, sz22, s, uc22, (sI_nej (by decide)).trans (e23_k0), (sI_nej (by decide)).trans (e23_k1), (sI_nej (by decide)).trans (e23_k2), (sI_nej (by decide)).trans (e23_k3), (sI_nej (by decide)).trans (e23_sz22), sI_eq, (sI_nej (by decide)).trans (e23_uc22), by omega⟩, ⟨(sI_nej (by decide)).trans ((sI_nej (by decide)).trans (w10_36)), (sI_nej (by decide)).trans ((sI_nej (by decide)).trans (w10_37)), (sI_nej (by decide)).trans ((sI_nej (by decide)).trans (w10_38)), (sI_nej (by decide)).trans ((sI_nej (by decide)).trans (w10_41)), (sI_nej (by decide)).trans ((sI_nej (by decide)).trans (w10_43)), sI_eq, (sI_nej (by decide)).trans ((sI_nej (by decide)).trans (w10_53)), (sI_nej (by decide)).trans (sI_eq), (w10_n.fr (W := W_r0) (Fr.sI (by decide) (Fr.sI (by decide) Fr.r)) (by decide) (by decide))⟩, ⟨by omega, by omega, by omega, by omega, by omega, by omega⟩, (Or.inl (by omega))⟩))
        · refine rsl (if_neg (eqI_n (rfl) (li_125) (by omega))) ?_
          refine rsl (gtI_q (w := iI ((kd i10))) (ck_65 (hC.fr FL10)) (q10_13)) ?_
          refine rsl (if_neg (eqI_n (rfl) (li_2) (by omega))) ?_
          refine rsl (vC_e (ck_65 (hC.fr FL10))) ?_
          refine rsr (gtI_q (w := iI 0) (rk_160 (hR.fr FR10)) (w10_41)) ?_
          refine rsr (if_pos (eqI_p (rfl) (li_0) (by omega))) ?_
          refine rsr (gtI_q (w := iI ((kr (kd i10)))) (rk_160 (hR.fr FR10)) (w10_36)) ?_
          refine rsr (if_neg (krI_n (k := 125) (rfl) (li_125) (hS.ok i10 (by omega) (by omega)) (by unfold KdOK sgk; omega) (by decide +kernel) (by omega) (by omega))) ?_
          refine rsr (vC_e (rk_160 (hR.fr FR10))) ?_
          refine Rb_VV (hT1 _ _ (by omega) (by omega) T n m kd pl E tx ua ut mu _ _ G10 U10 H10 X10 i10 e10 s10 u10 uc10 _ hS (hCx.fr FL10 FR10) ⟨q10_12, q10_13, q10_10, q10_9, q10_16, q10_19⟩ ⟨w10_36, w10_37, w10_38, w10_41, w10_43, w10_51, w10_53, w10_50, w10_n⟩ ⟨ca10, ra10, lc10, lr10, cu10, ru10⟩ ⟨by omega, by omega, by omega, by omega, by omega, by omega, by omega, by omega, by omega, by omega, by omega, by omega⟩ (cvI (adI (hv0) (li_1)) (by omega))) fun v Mx24 w Nx24 hx24 => ?_
          rcases hx24 with ⟨i24, s24, H24, e24, u24, uc24, G24, U24, X24, fl24, fr24, sc24, sr24, rw24, bd24, mv24, ag24, au24, ax24, tp24, dp24, kv24, ⟨sl24, sh24⟩⟩ | ⟨F24, P24, fl24, fr24, tc24, tr24⟩
          ·
            have FL24 : Fr W_cp Mc Mx24 := Fr.t FL10 fl24
            have FR24 : Fr W_rx Mr Nx24 := Fr.t FR10 fr24
            obtain ⟨bb24_0, bb24_1, bb24_2, bb24_3, bb24_4, bb24_5, bb24_6, bb24_7, bb24_8, bb24_9, bb24_10, bb24_11⟩ := bd24
            obtain ⟨q24_12, q24_13, q24_10, q24_9, q24_16, q24_19⟩ := sc24
            obtain ⟨w24_36, w24_37, w24_38, w24_41, w24_43, w24_51, w24_53, w24_50, w24_n⟩ := sr24
            obtain ⟨ca24, ra24, lc24, lr24, cu24, ru24⟩ := rw24
            have hk25 := (hS.ok i24 (by omega) (by omega)).r
            have ku24 := KU.t ku10 kv24 (by omega)
            have du26 := DU.t dp10 ag24 au24 ax24 dp24 (by omega)
            have tb27 := Tyb.t tp10 ag24 tp24
            have hl28 := HlT ⟨sl10, sh10⟩ sl24 sh24
            refine rsl (cV_e rfl) ?_
            refine rsr (cV_e rfl) ?_
            refine rsl (ltI_q (z := (k10 + 1)) (adI (hk10) (li_1))) ?_
            exact hgo (m - i24 + 1).toNat _ _ (by omega) (Or.inl ⟨(k10 + 1), i24, s24, H24, rfl, by omega, ⟨e24, u24, uc24, G24, U24, X24, FL24, FR24, ⟨q24_12, q24_13, q24_10, q24_9, q24_16, q24_19⟩, ⟨w24_36, w24_37, w24_38, w24_41, w24_43, w24_51, w24_53, w24_50, w24_n⟩, ⟨ca24, ra24, lc24, lr24, cu24, ru24⟩, ⟨by omega, by omega, by omega, by omega, by omega, by omega, by omega, by omega, by omega, by omega, by omega, by omega⟩, ⟨by omega, by omega, by omega, by omega, by omega, by omega⟩, (Ag.t ag10 ag24 (by omega)), (Ag.t au10 au24 (by omega)), (AgL.t ax10 ax24 (by omega)), tb27, du26, ku24, hl28⟩, by omega⟩)
          ·
            have FL24 : Fr W_cp Mc Mx24 := Fr.t FL10 fl24
            have FR24 : Fr W_rp Mr Nx24 := Fr.t (Fr.m FR10 W_rx_p) fr24
            obtain ⟨ti24, tz24, tn24, tu24, t1324, t1024, t1124, t1224, t924, t1624, t1924, tb24⟩ := tc24
            obtain ⟨re24, rn24, ru24, rm24, rt24, u4124, u4224, u4324, u5124, u5324, u4824, u4924, ub24⟩ := tr24
            refine rsl (cV_e rfl) ?_
            refine rsr (cV_e rfl) ?_
            refine rsl (ltI_q (z := (k10 + 1)) (adI (hk10) (li_1))) ?_
            exact hgo 0 _ _ (by omega) (Or.inr ⟨(k10 + 1), F24, P24, rfl, by omega, FL24, FR24, ⟨ti24, tz24, tn24, tu24, t1324, t1024, t1124, t1224, t924, t1624, t1924, by omega⟩, ⟨re24, rn24, ru24, rm24, rt24, u4124, u4224, u4324, u5124, u5324, u4824, u4924, by omega⟩, rfl⟩)
      ·
        obtain ⟨k10, F10, P10, hk10, ⟨hka10, hkb10⟩, FL10, FR10, tc10, tr10, hm10⟩ := hq
        obtain ⟨ti10, tz10, tn10, tu10, t1310, t1010, t1110, t1210, t910, t1610, t1910, tb10⟩ := tc10
        obtain ⟨re10, rn10, ru10, rm10, rt10, u4110, u4210, u4310, u5110, u5310, u4810, u4910, ub10⟩ := tr10
        unfold c89_14 c212_45
        refine rsl (if_neg (leI_n (li_3000) (hk10) (by omega))) ?_
        refine rsl (gtI_q (w := iI 2) (ck_65 (hC.fr FL10)) (t1310)) ?_
        refine rsl (if_neg (eqI_n (rfl) (li_125) (by omega))) ?_
        refine rsl (gtI_q (w := iI 2) (ck_65 (hC.fr FL10)) (t1310)) ?_
        refine rsl (if_pos (eqI_p (rfl) (li_2) (by omega))) ?_
        refine rsl (jv_e) ?_
        refine rsl (jn_v) ?_
        refine rsl (if_pos (eqI_p (hv0) (li_0) (by omega))) ?_
        refine rsl (vC_e (ck_65 (hC.fr FL10))) ?_
        refine RlV (y88 (by omega) (hC.fr FL10) (hTk.fr (WL := W_cp) FL10 (by decide)) (t1210) (t1310) (t1010) (t1110) (t910) (t1610) (t1910)  (by omega)) fun v Ma30 h30 => ?_
        obtain ⟨sz29, sn29, uc29, g30, e30_sz29, e30_sn29, e30_uc29, e30_k0, e30_k1, e30_k2, e30_k3, p30_0, p30_1, p30_2⟩ := h30
        have f30 : Fr W_cp Mc Ma30 := Fr.t FL10 (Fr.m g30 (by decide))
        refine rsl (cV_e rfl) ?_
        refine rsl (jv_e) ?_
        refine rsl (vC_e (ck_65 (hC.fr f30))) ?_
        refine RlV (y64 (by omega) (hC.fr f30) (hTk.fr (WL := W_cp) f30 (by decide)) (e30_k3) (e30_k0) (e30_k1) (e30_k2) (e30_sz29) (e30_sn29) (e30_uc29) (li_125) (by omega)) fun v Ma32 h32 => ?_
        obtain ⟨sz31, sn31, uc31, g32, e32_sz31, e32_sn31, e32_uc31, e32_k0, e32_k1, e32_k2, e32_k3, p32_0, p32_1, p32_2⟩ := h32
        have f32 : Fr W_cp Mc Ma32 := Fr.t f30 (Fr.m g32 (by decide))
        refine rsl (cV_e rfl) ?_
        refine rsl (ptI_q (z := s) (ck_65 (hC.fr f32)) (rfl)) ?_
        refine rsr (gtI_q (w := iI F10) (rk_160 (hR.fr FR10)) (u4110)) ?_
        refine rsr (if_neg (eqI_n (rfl) (li_0) (by omega))) ?_
        refine rsr (jv_e) ?_
        have b33 := V_r (M := t) (a := 160) (j := 50)
        refine rsr (gtI_q (w := iI ((V t 160 50))) (rk_160 (hR.fr FR10)) (eV)) ?_
        refine rsr (ptI_q (z := ((V t 160 50) - 1)) (rk_160 (hR.fr FR10)) (cvI (sbI (rfl) (li_1)) (by omega))) ?_
        refine rsr (ptI_q (z := s) (rk_160 (hR.fr FR10).sI) (rfl)) ?_
        exact Rs.ok (Or.inr (Or.inr ⟨F10, P10, (Fr.sI (by decide) f32), (Fr.sI (by decide) (Fr.sI (by decide) FR10)), ⟨ti10, sz31, s, uc31, (sI_nej (by decide)).trans (e32_k0), (sI_nej (by decide)).trans (e32_k1), (sI_nej (by decide)).trans (e32_k2), (sI_nej (by decide)).trans (e32_k3), (sI_nej (by decide)).trans (e32_sz31), sI_eq, (sI_nej (by decide)).trans (e32_uc31), by omega⟩, ⟨re10, s, ru10, rm10, rt10, (sI_nej (by decide)).trans ((sI_nej (by decide)).trans (u4110)), (sI_nej (by decide)).trans ((sI_nej (by decide)).trans (u4210)), (sI_nej (by decide)).trans ((sI_nej (by decide)).trans (u4310)), sI_eq, (sI_nej (by decide)).trans ((sI_nej (by decide)).trans (u5310)), (sI_nej (by decide)).trans ((sI_nej (by decide)).trans (u4810)), (sI_nej (by decide)).trans ((sI_nej (by decide)).trans (u4910)), by omega⟩⟩))
    ·
      rcases hx8 with ⟨i8, e8, u8, uc8, G8, U8, X8, k58, FL8, FR8, sc8, sr8, rw8, bd8, ⟨mv8_0, mv8_1, mv8_2, mv8_3, mv8_4, mv8_5⟩, ag8, au8, ax8, tp8, dp8, ku8, ⟨z18, z28⟩⟩ | ⟨i8, e8, u8, k58, FL8, FR8, tc8, sr8, ⟨mv8_0, mv8_1, mv8_2, mv8_3, mv8_4, mv8_5⟩, why8⟩ | ⟨F8, P8, FL8, FR8, tc8, tr8⟩
      ·
        obtain ⟨bb8_0, bb8_1, bb8_2, bb8_3, bb8_4, bb8_5, bb8_6, bb8_7, bb8_8, bb8_9, bb8_10, bb8_11⟩ := bd8
        obtain ⟨q8_12, q8_13, q8_10, q8_9, q8_16, q8_19⟩ := sc8
        obtain ⟨w8_36, w8_37, w8_38, w8_41, w8_43, w8_51, w8_53, w8_50, w8_n⟩ := sr8
        obtain ⟨ca8, ra8, lc8, lr8, cu8, ru8⟩ := rw8
        have hk34 := (hS.ok (i8 + 1) (by omega) (by omega)).r
        have hk35 := (hS.ok i8 (by omega) (by omega)).r
        have tb36 := Tyb.en (ut := ut) (mu := mu) tp8 (by omega) ⟨by omega, by omega⟩
        have du37 := DU.em (q := (e8 + 1)) (o := 0) (n := 0) (p := -2) (l := [0]) dp8 (by omega) (by omega)
        have du38 := DU.em (q := (e8 + 2)) (o := 8) (n := 0) (p := -2) (l := [0]) du37 (by omega) (by omega)
        refine rs1 (vC_e (rk_160 (hR.fr FR8))) ?_
        refine Rc_I (a196q (by omega) (hR.fr FR8) (w8_43) ((FR8.i _ _ (by decide)).trans h49) ((FR8.i _ _ (by decide)).trans h48) (li_0) (li_0) (q := (e8 + 1)) (by omega) (by omega)) fun v Ma40 h40 => ?_
        obtain ⟨r39, rfl, g40, e40_k0, p40_0, p40_1⟩ := h40
        have f40 : Fr W_rx Mr Ma40 := Fr.t FR8 (Fr.m g40 (by decide))
        refine rs1 (cI_e rfl) ?_
        refine rs1 (vC_e (rk_160 (hR.fr f40))) ?_
        refine Rc_I (a196q (by omega) (hR.fr f40) (e40_k0) ((g40.i _ _ (by decide)).trans ((FR8.i _ _ (by decide)).trans h49)) ((g40.i _ _ (by decide)).trans ((FR8.i _ _ (by decide)).trans h48)) (li_8) (li_0) (q := (e8 + 2)) (by omega) (by omega)) fun v Ma42 h42 => ?_
        obtain ⟨r41, rfl, g42, e42_k0, p42_0, p42_1⟩ := h42
        have f42 : Fr W_rx Mr Ma42 := Fr.t f40 (Fr.m g42 (by decide))
        refine rs1 (cI_e rfl) ?_
        refine rs1 (gtI_q (w := iI 0) (rk_160 (hR.fr f42)) ((g42.i _ _ (by decide)).trans ((g40.i _ _ (by decide)).trans (w8_41)))) ?_
        refine rs1 (jn_v) ?_
        refine rs1 (if_pos (eqI_p (rfl) (li_0) (by omega))) ?_
        refine rs1 (gtI_q (w := iI (e8 + 2)) (rk_160 (hR.fr f42)) (e42_k0)) ?_
        refine rs1 (jn_v) ?_
        refine rs1 (jn_v) ?_
        refine rs1 (if_neg (lsI_n (li_200) (sbI (rfl) (rfl)) (by omega))) ?_
        refine rs1 (gtI_q (w := iI (e8 + 2)) (rk_160 (hR.fr f42)) (e42_k0)) ?_
        refine rs1 (if_neg (lsI_n (li_1000) (rfl) (by omega))) ?_
        refine rs1 (jv_e) ?_
        refine rs1 (vC_e (rk_160 (hR.fr f42))) ?_
        refine rs1 (cI_e (ar194_p (by omega) hS (hR.fr f42) ((g42.i _ _ (by decide)).trans ((g40.i _ _ (by decide)).trans (w8_36))) ((g42.i _ _ (by decide)).trans ((g40.i _ _ (by decide)).trans (w8_37))) ((g42.i _ _ (by decide)).trans ((g40.i _ _ (by decide)).trans (w8_41))) (li_1) (li_6) (by omega))) ?_
        refine rs1 (jv_e) ?_
        refine rs1 (vC_e (rk_160 (hR.fr f42))) ?_
        have hm43 : i8 + 1 < m := hS.more i8 (by omega) (by omega) (by omega)
        refine Rc_V (nx_q (by omega) hS (hR.fr f42) (hT.fr (W := W_rx) f42 (by decide) (by decide)) (fun i a b => (Fr.lc (W := W_rx) f42 _ (by decide) _).trans (hW i a b)) (i := i8) (i2 := (i8 + 1)) ((g42.i _ _ (by decide)).trans ((g40.i _ _ (by decide)).trans (w8_41))) ((g42.i _ _ (by decide)).trans ((g40.i _ _ (by decide)).trans (w8_38))) (by omega) (by omega) (by omega)) fun v Ma44 h44 => ?_
        obtain ⟨g44, e44_k0, e44_k1, e44_k2, p44_0⟩ := h44
        have f44 : Fr W_rx Mr Ma44 := Fr.t f42 (Fr.m g44 (by decide))
        refine rs1 (cV_e rfl) ?_
        exact Rt.ok ⟨rfl, Or.inl ⟨(i8 + 1), (e8 + 2), u8, uc8, (pu (pu G8 e8 [0, 0, -2, 0, ut, mu, 0]) (e8 + 1) [8, 0, -2, 0, ut, mu, 0]), U8, X8, FL8, (Fr.t hF0 (Fr.m f44 W_rx_p)), ⟨q8_12, q8_13, q8_10, q8_9, q8_16, q8_19⟩, ⟨e44_k0, e44_k1, e44_k2, (g44.i _ _ (by decide)).trans ((g42.i _ _ (by decide)).trans ((g40.i _ _ (by decide)).trans (w8_41))), (g44.i _ _ (by decide)).trans (e42_k0), (g44.i _ _ (by decide)).trans ((g42.i _ _ (by decide)).trans ((g40.i _ _ (by decide)).trans (w8_51))), (g44.i _ _ (by decide)).trans ((g42.i _ _ (by decide)).trans ((g40.i _ _ (by decide)).trans (w8_53))), (g44.i _ _ (by decide)).trans ((g42.i _ _ (by decide)).trans ((g40.i _ _ (by decide)).trans (w8_50))), p44_0⟩, ⟨ca8, ((RA1.em (q := (e8 + 2)) (RA1.em (q := (e8 + 1)) ra8 (by omega) p40_1 (by omega)) (by omega) p42_1 (by omega)).fr g44 (by decide)), lc8, (((lr8.fr g40 (by decide)).fr g42 (by decide)).fr g44 (by decide)), cu8, (((ru8.fr g40 (by decide)).fr g42 (by decide)).fr g44 (by decide))⟩, ⟨by omega, by omega, by omega, by omega, by omega, by omega, by omega, by omega, by omega, by omega, by omega, by omega⟩, ⟨by omega, by omega, by omega, by omega, by omega, by omega⟩, (Ag.pu (Ag.pu ag8 (by omega)) (by omega)), au8, ax8, tb36, du38, ku8, ⟨by omega, by omega, by omega, pu_e (by omega)⟩⟩⟩
      ·
        obtain ⟨ti8, tz8, tn8, tu8, t138, t108, t118, t128, t98, t168, t198, tb8⟩ := tc8
        obtain ⟨w8_36, w8_37, w8_38, w8_41, w8_43, w8_51, w8_53, w8_50, w8_n⟩ := sr8
        have hk45 := (hS.ok i8 (by omega) (by omega)).r
        rcases why8 with why8 | why8
        ·
          refine rs1 (vC_e (rk_160 (hR.fr FR8))) ?_
          refine Rc_I (a196q (by omega) (hR.fr FR8) (w8_43) ((FR8.i _ _ (by decide)).trans h49) ((FR8.i _ _ (by decide)).trans h48) (li_0) (li_0) (q := (e8 + 1)) (by omega) (by omega)) fun v Ma47 h47 => ?_
          obtain ⟨r46, rfl, g47, e47_k0, p47_0, p47_1⟩ := h47
          have f47 : Fr W_rx Mr Ma47 := Fr.t FR8 (Fr.m g47 (by decide))
          refine rs1 (cI_e rfl) ?_
          refine rs1 (vC_e (rk_160 (hR.fr f47))) ?_
          refine Rc_I (a196q (by omega) (hR.fr f47) (e47_k0) ((g47.i _ _ (by decide)).trans ((FR8.i _ _ (by decide)).trans h49)) ((g47.i _ _ (by decide)).trans ((FR8.i _ _ (by decide)).trans h48)) (li_8) (li_0) (q := (e8 + 2)) (by omega) (by omega)) fun v Ma49 h49 => ?_
          obtain ⟨r48, rfl, g49, e49_k0, p49_0, p49_1⟩ := h49
          have f49 : Fr W_rx Mr Ma49 := Fr.t f47 (Fr.m g49 (by decide))
          refine rs1 (cI_e rfl) ?_
          refine rs1 (gtI_q (w := iI 0) (rk_160 (hR.fr f49)) ((g49.i _ _ (by decide)).trans ((g47.i _ _ (by decide)).trans (w8_41)))) ?_
          refine rs1 (jn_v) ?_
          refine rs1 (if_pos (eqI_p (rfl) (li_0) (by omega))) ?_
          refine rs1 (gtI_q (w := iI (e8 + 2)) (rk_160 (hR.fr f49)) (e49_k0)) ?_
          refine rs1 (jn_v) ?_
          refine rs1 (jn_v) ?_
          refine rs1 (if_pos (lsI_p (li_200) (sbI (rfl) (rfl)) (by omega))) ?_
          refine rs1 (jv_e) ?_
          refine rs1 (jv_e) ?_
          refine rs1 (vC_e (rk_160 (hR.fr f49))) ?_
          refine rs1 (cI_e (ar194_f (by omega) hS (hR.fr f49) ((g49.i _ _ (by decide)).trans ((g47.i _ _ (by decide)).trans (w8_36))) ((g49.i _ _ (by decide)).trans ((g47.i _ _ (by decide)).trans (w8_37))) ((g49.i _ _ (by decide)).trans ((g47.i _ _ (by decide)).trans (w8_41))) (li_0) (li_6) (by omega))) ?_
          refine rs1 (jv_e) ?_
          refine rs1 (vC_e (rk_160 (hR.fr f49).sI.sI)) ?_
          refine Rc_V (x191_s (by omega) (hR.fr f49).sI.sI ((sI_nej (by decide)).trans (sI_eq)) (sI_eq) ((sI_nej (by decide)).trans ((sI_nej (by decide)).trans (e49_k0))) ((sI_nej (by decide)).trans ((sI_nej (by decide)).trans ((g49.i _ _ (by decide)).trans ((g47.i _ _ (by decide)).trans (w8_51))))) ((sI_nej (by decide)).trans ((sI_nej (by decide)).trans ((g49.i _ _ (by decide)).trans ((g47.i _ _ (by decide)).trans (w8_53))))) ((sI_nej (by decide)).trans ((sI_nej (by decide)).trans ((g49.i _ _ (by decide)).trans ((g47.i _ _ (by decide)).trans ((FR8.i _ _ (by decide)).trans h48))))) ((sI_nej (by decide)).trans ((sI_nej (by decide)).trans ((g49.i _ _ (by decide)).trans ((g47.i _ _ (by decide)).trans ((FR8.i _ _ (by decide)).trans h49)))))  (by omega)) fun v Ma51 h51 => ?_
          obtain ⟨em50, g51, e51_em50, e51_k0, e51_k1, e51_k2, e51_k3, e51_k4, p51_0⟩ := h51
          have f51 : Fr W_rp Mr Ma51 := Fr.t (Fr.sI (by decide) (Fr.sI (by decide) (Fr.m f49 (by decide)))) (Fr.m g51 (by decide))
          refine rs1 (cV_e rfl) ?_
          exact Rt.ok ⟨rfl, Or.inr ⟨6, ((pl i8)), FL8, (Fr.t hF0 f51), ⟨ti8, tz8, tn8, tu8, t138, t108, t118, t128, t98, t168, t198, by omega⟩, ⟨em50, s, u8, mu, ut, e51_k0, e51_k1, e51_em50, e51_k2, e51_k3, e51_k4, (g51.i _ _ (by decide)).trans ((sI_nej (by decide)).trans ((sI_nej (by decide)).trans ((g49.i _ _ (by decide)).trans ((g47.i _ _ (by decide)).trans ((FR8.i _ _ (by decide)).trans h49))))), by omega⟩⟩⟩
        ·
          refine rs1 (vC_e (rk_160 (hR.fr FR8))) ?_
          refine Rc_I (a196q (by omega) (hR.fr FR8) (w8_43) ((FR8.i _ _ (by decide)).trans h49) ((FR8.i _ _ (by decide)).trans h48) (li_0) (li_0) (q := (e8 + 1)) (by omega) (by omega)) fun v Ma53 h53 => ?_
          obtain ⟨r52, rfl, g53, e53_k0, p53_0, p53_1⟩ := h53
          have f53 : Fr W_rx Mr Ma53 := Fr.t FR8 (Fr.m g53 (by decide))
          refine rs1 (cI_e rfl) ?_
          refine rs1 (vC_e (rk_160 (hR.fr f53))) ?_
          refine Rc_I (a196q (by omega) (hR.fr f53) (e53_k0) ((g53.i _ _ (by decide)).trans ((FR8.i _ _ (by decide)).trans h49)) ((g53.i _ _ (by decide)).trans ((FR8.i _ _ (by decide)).trans h48)) (li_8) (li_0) (q := (e8 + 2)) (by omega) (by omega)) fun v Ma55 h55 => ?_
          obtain ⟨r54, rfl, g55, e55_k0, p55_0, p55_1⟩ := h55
          have f55 : Fr W_rx Mr Ma55 := Fr.t f53 (Fr.m g55 (by decide))
          refine rs1 (cI_e rfl) ?_
          refine rs1 (gtI_q (w := iI 0) (rk_160 (hR.fr f55)) ((g55.i _ _ (by decide)).trans ((g53.i _ _ (by decide)).trans (w8_41)))) ?_
          refine rs1 (jn_v) ?_
          refine rs1 (if_pos (eqI_p (rfl) (li_0) (by omega))) ?_
          refine rs1 (gtI_q (w := iI (e8 + 2)) (rk_160 (hR.fr f55)) (e55_k0)) ?_
          refine rs1 (jn_v) ?_
          refine rs1 (jn_v) ?_
          refine rs1 (if_neg (lsI_n (li_200) (sbI (rfl) (rfl)) (by omega))) ?_
          refine rs1 (gtI_q (w := iI (e8 + 2)) (rk_160 (hR.fr f55)) (e55_k0)) ?_
          refine rs1 (if_pos (lsI_p (li_1000) (rfl) (by omega))) ?_
          refine rs1 (jv_e) ?_
          refine rs1 (jv_e) ?_
          refine rs1 (vC_e (rk_160 (hR.fr f55))) ?_
          refine rs1 (cI_e (ar194_f (by omega) hS (hR.fr f55) ((g55.i _ _ (by decide)).trans ((g53.i _ _ (by decide)).trans (w8_36))) ((g55.i _ _ (by decide)).trans ((g53.i _ _ (by decide)).trans (w8_37))) ((g55.i _ _ (by decide)).trans ((g53.i _ _ (by decide)).trans (w8_41))) (li_0) (li_6) (by omega))) ?_
          refine rs1 (jv_e) ?_
          refine rs1 (vC_e (rk_160 (hR.fr f55).sI.sI)) ?_
          refine Rc_V (x191_s (by omega) (hR.fr f55).sI.sI ((sI_nej (by decide)).trans (sI_eq)) (sI_eq) ((sI_nej (by decide)).trans ((sI_nej (by decide)).trans (e55_k0))) ((sI_nej (by decide)).trans ((sI_nej (by decide)).trans ((g55.i _ _ (by decide)).trans ((g53.i _ _ (by decide)).trans (w8_51))))) ((sI_nej (by decide)).trans ((sI_nej (by decide)).trans ((g55.i _ _ (by decide)).trans ((g53.i _ _ (by decide)).trans (w8_53))))) ((sI_nej (by decide)).trans ((sI_nej (by decide)).trans ((g55.i _ _ (by decide)).trans ((g53.i _ _ (by decide)).trans ((FR8.i _ _ (by decide)).trans h48))))) ((sI_nej (by decide)).trans ((sI_nej (by decide)).trans ((g55.i _ _ (by decide)).trans ((g53.i _ _ (by decide)).trans ((FR8.i _ _ (by decide)).trans h49)))))  (by omega)) fun v Ma57 h57 => ?_
          obtain ⟨em56, g57, e57_em56, e57_k0, e57_k1, e57_k2, e57_k3, e57_k4, p57_0⟩ := h57
          have f57 : Fr W_rp Mr Ma57 := Fr.t (Fr.sI (by decide) (Fr.sI (by decide) (Fr.m f55 (by decide)))) (Fr.m g57 (by decide))
          refine rs1 (cV_e rfl) ?_
          exact Rt.ok ⟨rfl, Or.inr ⟨6, ((pl i8)), FL8, (Fr.t hF0 f57), ⟨ti8, tz8, tn8, tu8, t138, t108, t118, t128, t98, t168, t198, by omega⟩, ⟨em56, s, u8, mu, ut, e57_k0, e57_k1, e57_em56, e57_k2, e57_k3, e57_k4, (g57.i _ _ (by decide)).trans ((sI_nej (by decide)).trans ((sI_nej (by decide)).trans ((g55.i _ _ (by decide)).trans ((g53.i _ _ (by decide)).trans ((FR8.i _ _ (by decide)).trans h49))))), by omega⟩⟩⟩
      ·
        obtain ⟨ti8, tz8, tn8, tu8, t138, t108, t118, t128, t98, t168, t198, tb8⟩ := tc8
        obtain ⟨re8, rn8, ru8, rm8, rt8, u418, u428, u438, u518, u538, u488, u498, ub8⟩ := tr8
        refine rs1 (vC_e (rk_160 (hR.fr FR8))) ?_
        refine Rc_I (x196_s (by omega) (hR.fr FR8) (u418) (u428) (u438) (u518) (u538) (u488) (u498) (li_0) (li_0) (by omega)) fun v Ma59 h59 => ?_
        obtain ⟨rv58, em58, rfl, g59, e59_em58, e59_k0, e59_k1, e59_k2, e59_k3, e59_k4, p59_0, p59_1⟩ := h59
        have f59 : Fr W_rp Mr Ma59 := Fr.t FR8 (Fr.m g59 (by decide))
        refine rs1 (cI_e rfl) ?_
        refine rs1 (vC_e (rk_160 (hR.fr f59))) ?_
        refine Rc_I (x196_s (by omega) (hR.fr f59) (e59_k0) (e59_k1) (e59_em58) (e59_k2) (e59_k3) (e59_k4) ((g59.i _ _ (by decide)).trans (u498)) (li_8) (li_0) (by omega)) fun v Ma61 h61 => ?_
        obtain ⟨rv60, em60, rfl, g61, e61_em60, e61_k0, e61_k1, e61_k2, e61_k3, e61_k4, p61_0, p61_1⟩ := h61
        have f61 : Fr W_rp Mr Ma61 := Fr.t f59 (Fr.m g61 (by decide))
        refine rs1 (cI_e rfl) ?_
        refine rs1 (gtI_q (w := iI F8) (rk_160 (hR.fr f61)) (e61_k0)) ?_
        refine rs1 (jn_v) ?_
        refine rs1 (if_neg (eqI_n (rfl) (li_0) (by omega))) ?_
        refine rs1 (jv_e) ?_
        refine rs1 (vC_e (rk_160 (hR.fr f61))) ?_
        refine Rc_V (x191_s (by omega) (hR.fr f61) (e61_k0) (e61_k1) (e61_em60) (e61_k2) (e61_k3) (e61_k4) ((g61.i _ _ (by decide)).trans ((g59.i _ _ (by decide)).trans (u498)))  (by omega)) fun v Ma63 h63 => ?_
        obtain ⟨em62, g63, e63_em62, e63_k0, e63_k1, e63_k2, e63_k3, e63_k4, p63_0⟩ := h63
        have f63 : Fr W_rp Mr Ma63 := Fr.t f61 (Fr.m g63 (by decide))
        refine rs1 (cV_e rfl) ?_
        exact Rt.ok ⟨rfl, Or.inr ⟨F8, P8, FL8, (Fr.t hF0 f63), ⟨ti8, tz8, tn8, tu8, t138, t108, t118, t128, t98, t168, t198, by omega⟩, ⟨em62, rn8, ru8, rm8, rt8, e63_k0, e63_k1, e63_em62, e63_k2, e63_k3, e63_k4, (g63.i _ _ (by decide)).trans ((g61.i _ _ (by decide)).trans ((g59.i _ _ (by decide)).trans (u498))), by omega⟩⟩⟩
  ·
    by_cases c64 : ((kd i)) = 1
    ·
      refine rsl (cV_e (a69_1 (by omega) hS hC (hTk.fr (WL := W_cp) Fr.r (by decide)) (qa_12) (qa_13) (qa_10) (li_123) (hv0) (by omega))) ?_
      refine rsl (gtI_q (w := iI s) (ck_65 hC.sI.sI.sI) ((sI_nej (by decide)).trans ((sI_nej (by decide)).trans ((sI_nej (by decide)).trans (qa_16))))) ?_
      refine rsl (jn_v) ?_
      refine rsl (lp_e) ?_
      unfold c89_14
      refine rsl (if_neg (leI_n (li_3000) (li_0) (by omega))) ?_
      refine rsl (gtI_q (w := iI 2) (ck_65 hC.sI.sI.sI) (sI_eq)) ?_
      refine rsl (if_neg (eqI_n (rfl) (li_125) (by omega))) ?_
      refine rsl (gtI_q (w := iI 2) (ck_65 hC.sI.sI.sI) (sI_eq)) ?_
      refine rsl (if_pos (eqI_p (rfl) (li_2) (by omega))) ?_
      refine rsl (jv_e) ?_
      refine rsl (jn_v) ?_
      refine rsl (if_pos (eqI_p (hv0) (li_0) (by omega))) ?_
      refine rsl (vC_e (ck_65 hC.sI.sI.sI)) ?_
      refine RlV (y88 (by omega) hC.sI.sI.sI (hTk.fr (WL := W_cp) (Fr.sI (by decide) (Fr.sI (by decide) (Fr.sI (by decide) Fr.r))) (by decide)) ((sI_nej (by decide)).trans ((sI_nej (by decide)).trans ((sI_nej (by decide)).trans (qa_12)))) (sI_eq) ((sI_nej (by decide)).trans ((sI_nej (by decide)).trans (sI_eq))) ((sI_nej (by decide)).trans (sI_eq)) ((sI_nej (by decide)).trans ((sI_nej (by decide)).trans ((sI_nej (by decide)).trans (qa_9)))) ((sI_nej (by decide)).trans ((sI_nej (by decide)).trans ((sI_nej (by decide)).trans (qa_16)))) ((sI_nej (by decide)).trans ((sI_nej (by decide)).trans ((sI_nej (by decide)).trans (qa_19))))  (by omega)) fun v Ma66 h66 => ?_
      obtain ⟨sz65, sn65, uc65, g66, e66_sz65, e66_sn65, e66_uc65, e66_k0, e66_k1, e66_k2, e66_k3, p66_0, p66_1, p66_2⟩ := h66
      have f66 : Fr W_cp Mc Ma66 := Fr.t (Fr.sI (by decide) (Fr.sI (by decide) (Fr.sI (by decide) Fr.r))) (Fr.m g66 (by decide))
      refine rsl (cV_e rfl) ?_
      refine rsl (jv_e) ?_
      refine rsl (vC_e (ck_65 (hC.fr f66))) ?_
      refine RlV (y64 (by omega) (hC.fr f66) (hTk.fr (WL := W_cp) f66 (by decide)) (e66_k3) (e66_k0) (e66_k1) (e66_k2) (e66_sz65) (e66_sn65) (e66_uc65) (li_125) (by omega)) fun v Ma68 h68 => ?_
      obtain ⟨sz67, sn67, uc67, g68, e68_sz67, e68_sn67, e68_uc67, e68_k0, e68_k1, e68_k2, e68_k3, p68_0, p68_1, p68_2⟩ := h68
      have f68 : Fr W_cp Mc Ma68 := Fr.t f66 (Fr.m g68 (by decide))
      refine rsl (cV_e rfl) ?_
      refine rsl (ptI_q (z := s) (ck_65 (hC.fr f68)) (rfl)) ?_
      refine rsr (vC_e (rk_160 hR)) ?_
      refine Rs_cVr (P := fun _ Mc2 _ Mr2 => PMX 2470 ut mu m kd pl E tx Mc Mr G U Hl X i e s u uc Mc2 Mr2) ?_ (fun v Mx69 w Nx69 hx69 => ?_)
      ·
        obtain ⟨d2, rfl⟩ : ∃ e, d2 = e + 1 := ⟨d2 - 1, by omega⟩
        rw [r212]; unfold b212; rw [aR_e, aZ_e]; unfold c212
        refine rsr (gtI_q (w := iI 0) (rk_160 hR) (wa_41)) ?_
        refine rsr (jn_v) ?_
        refine rsr (if_pos (eqI_p (rfl) (li_0) (by omega))) ?_
        refine rsr (gtI_q (w := iI ((kr (kd i)))) (rk_160 hR) (wa_36)) ?_
        refine rsr (jn_v) ?_
        refine rsr (if_neg (krI_n (k := 123) (rfl) (li_123) (hS.ok i (by omega) (by omega)) (by unfold KdOK sgk; omega) (by decide +kernel) (by omega) (by omega))) ?_
        refine rsr (jv_e) ?_
        refine rsr (vC_e (rk_160 hR)) ?_
        refine rsr (cI_e (ar193_1 (by omega) hS hR (wa_36) (wa_37) (wa_41) (li_0) (by omega))) ?_
        refine rsr (if_pos (eqI_p (rfl) (li_0) (by omega))) ?_
        refine rsr (jv_e) ?_
        exact Rs.ok (Or.inr (Or.inr ⟨1, ((pl i)), (Fr.sI (by decide) f68), (Fr.sI (by decide) (Fr.sI (by decide) Fr.r)), ⟨i, sz67, s, uc67, (sI_nej (by decide)).trans (e68_k0), (sI_nej (by decide)).trans (e68_k1), (sI_nej (by decide)).trans (e68_k2), (sI_nej (by decide)).trans (e68_k3), (sI_nej (by decide)).trans (e68_sz67), sI_eq, (sI_nej (by decide)).trans (e68_uc67), by omega⟩, ⟨e, s, u, mu, ut, (sI_nej (by decide)).trans (sI_eq), sI_eq, (sI_nej (by decide)).trans ((sI_nej (by decide)).trans (wa_43)), (sI_nej (by decide)).trans ((sI_nej (by decide)).trans (wa_51)), (sI_nej (by decide)).trans ((sI_nej (by decide)).trans (wa_53)), (sI_nej (by decide)).trans ((sI_nej (by decide)).trans (h48)), (sI_nej (by decide)).trans ((sI_nej (by decide)).trans (h49)), by omega⟩⟩))
      ·
        rcases hx69 with ⟨i69, e69, u69, uc69, G69, U69, X69, k569, FL69, FR69, sc69, sr69, rw69, bd69, ⟨mv69_0, mv69_1, mv69_2, mv69_3, mv69_4, mv69_5⟩, ag69, au69, ax69, tp69, dp69, ku69, ⟨z169, z269⟩⟩ | ⟨i69, e69, u69, k569, FL69, FR69, tc69, sr69, ⟨mv69_0, mv69_1, mv69_2, mv69_3, mv69_4, mv69_5⟩, why69⟩ | ⟨F69, P69, FL69, FR69, tc69, tr69⟩
        ·
          obtain ⟨bb69_0, bb69_1, bb69_2, bb69_3, bb69_4, bb69_5, bb69_6, bb69_7, bb69_8, bb69_9, bb69_10, bb69_11⟩ := bd69
          obtain ⟨q69_12, q69_13, q69_10, q69_9, q69_16, q69_19⟩ := sc69
          obtain ⟨w69_36, w69_37, w69_38, w69_41, w69_43, w69_51, w69_53, w69_50, w69_n⟩ := sr69
          obtain ⟨ca69, ra69, lc69, lr69, cu69, ru69⟩ := rw69
          have hk70 := (hS.ok (i69 + 1) (by omega) (by omega)).r
          have hk71 := (hS.ok i69 (by omega) (by omega)).r
          have tb72 := Tyb.en (ut := ut) (mu := mu) tp69 (by omega) ⟨by omega, by omega⟩
          have du73 := DU.em (q := (e69 + 1)) (o := 0) (n := 0) (p := -2) (l := [0]) dp69 (by omega) (by omega)
          have du74 := DU.em (q := (e69 + 2)) (o := 8) (n := 0) (p := -2) (l := [0]) du73 (by omega) (by omega)
          refine rs1 (vC_e (rk_160 (hR.fr FR69))) ?_
          refine Rc_I (a196q (by omega) (hR.fr FR69) (w69_43) ((FR69.i _ _ (by decide)).trans h49) ((FR69.i _ _ (by decide)).trans h48) (li_0) (li_0) (q := (e69 + 1)) (by omega) (by omega)) fun v Ma76 h76 => ?_
          obtain ⟨r75, rfl, g76, e76_k0, p76_0, p76_1⟩ := h76
          have f76 : Fr W_rx Mr Ma76 := Fr.t FR69 (Fr.m g76 (by decide))
          refine rs1 (cI_e rfl) ?_
          refine rs1 (vC_e (rk_160 (hR.fr f76))) ?_
          refine Rc_I (a196q (by omega) (hR.fr f76) (e76_k0) ((g76.i _ _ (by decide)).trans ((FR69.i _ _ (by decide)).trans h49)) ((g76.i _ _ (by decide)).trans ((FR69.i _ _ (by decide)).trans h48)) (li_8) (li_0) (q := (e69 + 2)) (by omega) (by omega)) fun v Ma78 h78 => ?_
          obtain ⟨r77, rfl, g78, e78_k0, p78_0, p78_1⟩ := h78
          have f78 : Fr W_rx Mr Ma78 := Fr.t f76 (Fr.m g78 (by decide))
          refine rs1 (cI_e rfl) ?_
          refine rs1 (gtI_q (w := iI 0) (rk_160 (hR.fr f78)) ((g78.i _ _ (by decide)).trans ((g76.i _ _ (by decide)).trans (w69_41)))) ?_
          refine rs1 (jn_v) ?_
          refine rs1 (if_pos (eqI_p (rfl) (li_0) (by omega))) ?_
          refine rs1 (gtI_q (w := iI (e69 + 2)) (rk_160 (hR.fr f78)) (e78_k0)) ?_
          refine rs1 (jn_v) ?_
          refine rs1 (jn_v) ?_
          refine rs1 (if_neg (lsI_n (li_200) (sbI (rfl) (rfl)) (by omega))) ?_
          refine rs1 (gtI_q (w := iI (e69 + 2)) (rk_160 (hR.fr f78)) (e78_k0)) ?_
          refine rs1 (if_neg (lsI_n (li_1000) (rfl) (by omega))) ?_
          refine rs1 (jv_e) ?_
          refine rs1 (vC_e (rk_160 (hR.fr f78))) ?_
          refine rs1 (cI_e (ar194_p (by omega) hS (hR.fr f78) ((g78.i _ _ (by decide)).trans ((g76.i _ _ (by decide)).trans (w69_36))) ((g78.i _ _ (by decide)).trans ((g76.i _ _ (by decide)).trans (w69_37))) ((g78.i _ _ (by decide)).trans ((g76.i _ _ (by decide)).trans (w69_41))) (li_1) (li_6) (by omega))) ?_
          refine rs1 (jv_e) ?_
          refine rs1 (vC_e (rk_160 (hR.fr f78))) ?_
          have hm79 : i69 + 1 < m := hS.more i69 (by omega) (by omega) (by omega)
          refine Rc_V (nx_q (by omega) hS (hR.fr f78) (hT.fr (W := W_rx) f78 (by decide) (by decide)) (fun i a b => (Fr.lc (W := W_rx) f78 _ (by decide) _).trans (hW i a b)) (i := i69) (i2 := (i69 + 1)) ((g78.i _ _ (by decide)).trans ((g76.i _ _ (by decide)).trans (w69_41))) ((g78.i _ _ (by decide)).trans ((g76.i _ _ (by decide)).trans (w69_38))) (by omega) (by omega) (by omega)) fun v Ma80 h80 => ?_
          obtain ⟨g80, e80_k0, e80_k1, e80_k2, p80_0⟩ := h80
          have f80 : Fr W_rx Mr Ma80 := Fr.t f78 (Fr.m g80 (by decide))
          refine rs1 (cV_e rfl) ?_
          exact Rt.ok ⟨rfl, Or.inl ⟨(i69 + 1), (e69 + 2), u69, uc69, (pu (pu G69 e69 [0, 0, -2, 0, ut, mu, 0]) (e69 + 1) [8, 0, -2, 0, ut, mu, 0]), U69, X69, FL69, (Fr.t hF0 (Fr.m f80 W_rx_p)), ⟨q69_12, q69_13, q69_10, q69_9, q69_16, q69_19⟩, ⟨e80_k0, e80_k1, e80_k2, (g80.i _ _ (by decide)).trans ((g78.i _ _ (by decide)).trans ((g76.i _ _ (by decide)).trans (w69_41))), (g80.i _ _ (by decide)).trans (e78_k0), (g80.i _ _ (by decide)).trans ((g78.i _ _ (by decide)).trans ((g76.i _ _ (by decide)).trans (w69_51))), (g80.i _ _ (by decide)).trans ((g78.i _ _ (by decide)).trans ((g76.i _ _ (by decide)).trans (w69_53))), (g80.i _ _ (by decide)).trans ((g78.i _ _ (by decide)).trans ((g76.i _ _ (by decide)).trans (w69_50))), p80_0⟩, ⟨ca69, ((RA1.em (q := (e69 + 2)) (RA1.em (q := (e69 + 1)) ra69 (by omega) p76_1 (by omega)) (by omega) p78_1 (by omega)).fr g80 (by decide)), lc69, (((lr69.fr g76 (by decide)).fr g78 (by decide)).fr g80 (by decide)), cu69, (((ru69.fr g76 (by decide)).fr g78 (by decide)).fr g80 (by decide))⟩, ⟨by omega, by omega, by omega, by omega, by omega, by omega, by omega, by omega, by omega, by omega, by omega, by omega⟩, ⟨by omega, by omega, by omega, by omega, by omega, by omega⟩, (Ag.pu (Ag.pu ag69 (by omega)) (by omega)), au69, ax69, tb72, du74, ku69, ⟨by omega, by omega, by omega, pu_e (by omega)⟩⟩⟩
        ·
          obtain ⟨ti69, tz69, tn69, tu69, t1369, t1069, t1169, t1269, t969, t1669, t1969, tb69⟩ := tc69
          obtain ⟨w69_36, w69_37, w69_38, w69_41, w69_43, w69_51, w69_53, w69_50, w69_n⟩ := sr69
          have hk81 := (hS.ok i69 (by omega) (by omega)).r
          rcases why69 with why69 | why69
          ·
            refine rs1 (vC_e (rk_160 (hR.fr FR69))) ?_
            refine Rc_I (a196q (by omega) (hR.fr FR69) (w69_43) ((FR69.i _ _ (by decide)).trans h49) ((FR69.i _ _ (by decide)).trans h48) (li_0) (li_0) (q := (e69 + 1)) (by omega) (by omega)) fun v Ma83 h83 => ?_
            obtain ⟨r82, rfl, g83, e83_k0, p83_0, p83_1⟩ := h83
            have f83 : Fr W_rx Mr Ma83 := Fr.t FR69 (Fr.m g83 (by decide))
            refine rs1 (cI_e rfl) ?_
            refine rs1 (vC_e (rk_160 (hR.fr f83))) ?_
            refine Rc_I (a196q (by omega) (hR.fr f83) (e83_k0) ((g83.i _ _ (by decide)).trans ((FR69.i _ _ (by decide)).trans h49)) ((g83.i _ _ (by decide)).trans ((FR69.i _ _ (by decide)).trans h48)) (li_8) (li_0) (q := (e69 + 2)) (by omega) (by omega)) fun v Ma85 h85 => ?_
            obtain ⟨r84, rfl, g85, e85_k0, p85_0, p85_1⟩ := h85
            have f85 : Fr W_rx Mr Ma85 := Fr.t f83 (Fr.m g85 (by decide))
            refine rs1 (cI_e rfl) ?_
            refine rs1 (gtI_q (w := iI 0) (rk_160 (hR.fr f85)) ((g85.i _ _ (by decide)).trans ((g83.i _ _ (by decide)).trans (w69_41)))) ?_
            refine rs1 (jn_v) ?_
            refine rs1 (if_pos (eqI_p (rfl) (li_0) (by omega))) ?_
            refine rs1 (gtI_q (w := iI (e69 + 2)) (rk_160 (hR.fr f85)) (e85_k0)) ?_
            refine rs1 (jn_v) ?_
            refine rs1 (jn_v) ?_
            refine rs1 (if_pos (lsI_p (li_200) (sbI (rfl) (rfl)) (by omega))) ?_
            refine rs1 (jv_e) ?_
            refine rs1 (jv_e) ?_
            refine rs1 (vC_e (rk_160 (hR.fr f85))) ?_
            refine rs1 (cI_e (ar194_f (by omega) hS (hR.fr f85) ((g85.i _ _ (by decide)).trans ((g83.i _ _ (by decide)).trans (w69_36))) ((g85.i _ _ (by decide)).trans ((g83.i _ _ (by decide)).trans (w69_37))) ((g85.i _ _ (by decide)).trans ((g83.i _ _ (by decide)).trans (w69_41))) (li_0) (li_6) (by omega))) ?_
            refine rs1 (jv_e) ?_
            refine rs1 (vC_e (rk_160 (hR.fr f85).sI.sI)) ?_
            refine Rc_V (x191_s (by omega) (hR.fr f85).sI.sI ((sI_nej (by decide)).trans (sI_eq)) (sI_eq) ((sI_nej (by decide)).trans ((sI_nej (by decide)).trans (e85_k0))) ((sI_nej (by decide)).trans ((sI_nej (by decide)).trans ((g85.i _ _ (by decide)).trans ((g83.i _ _ (by decide)).trans (w69_51))))) ((sI_nej (by decide)).trans ((sI_nej (by decide)).trans ((g85.i _ _ (by decide)).trans ((g83.i _ _ (by decide)).trans (w69_53))))) ((sI_nej (by decide)).trans ((sI_nej (by decide)).trans ((g85.i _ _ (by decide)).trans ((g83.i _ _ (by decide)).trans ((FR69.i _ _ (by decide)).trans h48))))) ((sI_nej (by decide)).trans ((sI_nej (by decide)).trans ((g85.i _ _ (by decide)).trans ((g83.i _ _ (by decide)).trans ((FR69.i _ _ (by decide)).trans h49)))))  (by omega)) fun v Ma87 h87 => ?_
            obtain ⟨em86, g87, e87_em86, e87_k0, e87_k1, e87_k2, e87_k3, e87_k4, p87_0⟩ := h87
            have f87 : Fr W_rp Mr Ma87 := Fr.t (Fr.sI (by decide) (Fr.sI (by decide) (Fr.m f85 (by decide)))) (Fr.m g87 (by decide))
            refine rs1 (cV_e rfl) ?_
            exact Rt.ok ⟨rfl, Or.inr ⟨6, ((pl i69)), FL69, (Fr.t hF0 f87), ⟨ti69, tz69, tn69, tu69, t1369, t1069, t1169, t1269, t969, t1669, t1969, by omega⟩, ⟨em86, s, u69, mu, ut, e87_k0, e87_k1, e87_em86, e87_k2, e87_k3, e87_k4, (g87.i _ _ (by decide)).trans ((sI_nej (by decide)).trans ((sI_nej (by decide)).trans ((g85.i _ _ (by decide)).trans ((g83.i _ _ (by decide)).trans ((FR69.i _ _ (by decide)).trans h49))))), by omega⟩⟩⟩
          ·
            refine rs1 (vC_e (rk_160 (hR.fr FR69))) ?_
            refine Rc_I (a196q (by omega) (hR.fr FR69) (w69_43) ((FR69.i _ _ (by decide)).trans h49) ((FR69.i _ _ (by decide)).trans h48) (li_0) (li_0) (q := (e69 + 1)) (by omega) (by omega)) fun v Ma89 h89 => ?_
            obtain ⟨r88, rfl, g89, e89_k0, p89_0, p89_1⟩ := h89
            have f89 : Fr W_rx Mr Ma89 := Fr.t FR69 (Fr.m g89 (by decide))
            refine rs1 (cI_e rfl) ?_
            refine rs1 (vC_e (rk_160 (hR.fr f89))) ?_
            refine Rc_I (a196q (by omega) (hR.fr f89) (e89_k0) ((g89.i _ _ (by decide)).trans ((FR69.i _ _ (by decide)).trans h49)) ((g89.i _ _ (by decide)).trans ((FR69.i _ _ (by decide)).trans h48)) (li_8) (li_0) (q := (e69 + 2)) (by omega) (by omega)) fun v Ma91 h91 => ?_
            obtain ⟨r90, rfl, g91, e91_k0, p91_0, p91_1⟩ := h91
            have f91 : Fr W_rx Mr Ma91 := Fr.t f89 (Fr.m g91 (by decide))
            refine rs1 (cI_e rfl) ?_
            refine rs1 (gtI_q (w := iI 0) (rk_160 (hR.fr f91)) ((g91.i _ _ (by decide)).trans ((g89.i _ _ (by decide)).trans (w69_41)))) ?_
            refine rs1 (jn_v) ?_
            refine rs1 (if_pos (eqI_p (rfl) (li_0) (by omega))) ?_
            refine rs1 (gtI_q (w := iI (e69 + 2)) (rk_160 (hR.fr f91)) (e91_k0)) ?_
            refine rs1 (jn_v) ?_
            refine rs1 (jn_v) ?_
            refine rs1 (if_neg (lsI_n (li_200) (sbI (rfl) (rfl)) (by omega))) ?_
            refine rs1 (gtI_q (w := iI (e69 + 2)) (rk_160 (hR.fr f91)) (e91_k0)) ?_
            refine rs1 (if_pos (lsI_p (li_1000) (rfl) (by omega))) ?_
            refine rs1 (jv_e) ?_
            refine rs1 (jv_e) ?_
            refine rs1 (vC_e (rk_160 (hR.fr f91))) ?_
            refine rs1 (cI_e (ar194_f (by omega) hS (hR.fr f91) ((g91.i _ _ (by decide)).trans ((g89.i _ _ (by decide)).trans (w69_36))) ((g91.i _ _ (by decide)).trans ((g89.i _ _ (by decide)).trans (w69_37))) ((g91.i _ _ (by decide)).trans ((g89.i _ _ (by decide)).trans (w69_41))) (li_0) (li_6) (by omega))) ?_
            refine rs1 (jv_e) ?_
            refine rs1 (vC_e (rk_160 (hR.fr f91).sI.sI)) ?_
            refine Rc_V (x191_s (by omega) (hR.fr f91).sI.sI ((sI_nej (by decide)).trans (sI_eq)) (sI_eq) ((sI_nej (by decide)).trans ((sI_nej (by decide)).trans (e91_k0))) ((sI_nej (by decide)).trans ((sI_nej (by decide)).trans ((g91.i _ _ (by decide)).trans ((g89.i _ _ (by decide)).trans (w69_51))))) ((sI_nej (by decide)).trans ((sI_nej (by decide)).trans ((g91.i _ _ (by decide)).trans ((g89.i _ _ (by decide)).trans (w69_53))))) ((sI_nej (by decide)).trans ((sI_nej (by decide)).trans ((g91.i _ _ (by decide)).trans ((g89.i _ _ (by decide)).trans ((FR69.i _ _ (by decide)).trans h48))))) ((sI_nej (by decide)).trans ((sI_nej (by decide)).trans ((g91.i _ _ (by decide)).trans ((g89.i _ _ (by decide)).trans ((FR69.i _ _ (by decide)).trans h49)))))  (by omega)) fun v Ma93 h93 => ?_
            obtain ⟨em92, g93, e93_em92, e93_k0, e93_k1, e93_k2, e93_k3, e93_k4, p93_0⟩ := h93
            have f93 : Fr W_rp Mr Ma93 := Fr.t (Fr.sI (by decide) (Fr.sI (by decide) (Fr.m f91 (by decide)))) (Fr.m g93 (by decide))
            refine rs1 (cV_e rfl) ?_
            exact Rt.ok ⟨rfl, Or.inr ⟨6, ((pl i69)), FL69, (Fr.t hF0 f93), ⟨ti69, tz69, tn69, tu69, t1369, t1069, t1169, t1269, t969, t1669, t1969, by omega⟩, ⟨em92, s, u69, mu, ut, e93_k0, e93_k1, e93_em92, e93_k2, e93_k3, e93_k4, (g93.i _ _ (by decide)).trans ((sI_nej (by decide)).trans ((sI_nej (by decide)).trans ((g91.i _ _ (by decide)).trans ((g89.i _ _ (by decide)).trans ((FR69.i _ _ (by decide)).trans h49))))), by omega⟩⟩⟩
        ·
          obtain ⟨ti69, tz69, tn69, tu69, t1369, t1069, t1169, t1269, t969, t1669, t1969, tb69⟩ := tc69
          obtain ⟨re69, rn69, ru69, rm69, rt69, u4169, u4269, u4369, u5169, u5369, u4869, u4969, ub69⟩ := tr69
          refine rs1 (vC_e (rk_160 (hR.fr FR69))) ?_
          refine Rc_I (x196_s (by omega) (hR.fr FR69) (u4169) (u4269) (u4369) (u5169) (u5369) (u4869) (u4969) (li_0) (li_0) (by omega)) fun v Ma95 h95 => ?_
          obtain ⟨rv94, em94, rfl, g95, e95_em94, e95_k0, e95_k1, e95_k2, e95_k3, e95_k4, p95_0, p95_1⟩ := h95
          have f95 : Fr W_rp Mr Ma95 := Fr.t FR69 (Fr.m g95 (by decide))
          refine rs1 (cI_e rfl) ?_
          refine rs1 (vC_e (rk_160 (hR.fr f95))) ?_
          refine Rc_I (x196_s (by omega) (hR.fr f95) (e95_k0) (e95_k1) (e95_em94) (e95_k2) (e95_k3) (e95_k4) ((g95.i _ _ (by decide)).trans (u4969)) (li_8) (li_0) (by omega)) fun v Ma97 h97 => ?_
          obtain ⟨rv96, em96, rfl, g97, e97_em96, e97_k0, e97_k1, e97_k2, e97_k3, e97_k4, p97_0, p97_1⟩ := h97
          have f97 : Fr W_rp Mr Ma97 := Fr.t f95 (Fr.m g97 (by decide))
          refine rs1 (cI_e rfl) ?_
          refine rs1 (gtI_q (w := iI F69) (rk_160 (hR.fr f97)) (e97_k0)) ?_
          refine rs1 (jn_v) ?_
          refine rs1 (if_neg (eqI_n (rfl) (li_0) (by omega))) ?_
          refine rs1 (jv_e) ?_
          refine rs1 (vC_e (rk_160 (hR.fr f97))) ?_
          refine Rc_V (x191_s (by omega) (hR.fr f97) (e97_k0) (e97_k1) (e97_em96) (e97_k2) (e97_k3) (e97_k4) ((g97.i _ _ (by decide)).trans ((g95.i _ _ (by decide)).trans (u4969)))  (by omega)) fun v Ma99 h99 => ?_
          obtain ⟨em98, g99, e99_em98, e99_k0, e99_k1, e99_k2, e99_k3, e99_k4, p99_0⟩ := h99
          have f99 : Fr W_rp Mr Ma99 := Fr.t f97 (Fr.m g99 (by decide))
          refine rs1 (cV_e rfl) ?_
          exact Rt.ok ⟨rfl, Or.inr ⟨F69, P69, FL69, (Fr.t hF0 f99), ⟨ti69, tz69, tn69, tu69, t1369, t1069, t1169, t1269, t969, t1669, t1969, by omega⟩, ⟨em98, rn69, ru69, rm69, rt69, e99_k0, e99_k1, e99_em98, e99_k2, e99_k3, e99_k4, (g99.i _ _ (by decide)).trans ((g97.i _ _ (by decide)).trans ((g95.i _ _ (by decide)).trans (u4969))), by omega⟩⟩⟩
    ·
      refine rsl (cV_e (a69_2 (by omega) hS hC (hTk.fr (WL := W_cp) Fr.r (by decide)) (qa_12) (qa_13) (qa_10) (li_123) (hv0) (by omega))) ?_
      refine rsl (gtI_q (w := iI s) (ck_65 hC.sI.sI.sI) ((sI_nej (by decide)).trans ((sI_nej (by decide)).trans ((sI_nej (by decide)).trans (qa_16))))) ?_
      refine rsl (jn_v) ?_
      refine rsl (lp_e) ?_
      unfold c89_14
      refine rsl (if_neg (leI_n (li_3000) (li_0) (by omega))) ?_
      refine rsl (gtI_q (w := iI 2) (ck_65 hC.sI.sI.sI) (sI_eq)) ?_
      refine rsl (if_neg (eqI_n (rfl) (li_125) (by omega))) ?_
      refine rsl (gtI_q (w := iI 2) (ck_65 hC.sI.sI.sI) (sI_eq)) ?_
      refine rsl (if_pos (eqI_p (rfl) (li_2) (by omega))) ?_
      refine rsl (jv_e) ?_
      refine rsl (jn_v) ?_
      refine rsl (if_pos (eqI_p (hv0) (li_0) (by omega))) ?_
      refine rsl (vC_e (ck_65 hC.sI.sI.sI)) ?_
      refine RlV (y88 (by omega) hC.sI.sI.sI (hTk.fr (WL := W_cp) (Fr.sI (by decide) (Fr.sI (by decide) (Fr.sI (by decide) Fr.r))) (by decide)) ((sI_nej (by decide)).trans ((sI_nej (by decide)).trans ((sI_nej (by decide)).trans (qa_12)))) (sI_eq) ((sI_nej (by decide)).trans ((sI_nej (by decide)).trans (sI_eq))) ((sI_nej (by decide)).trans (sI_eq)) ((sI_nej (by decide)).trans ((sI_nej (by decide)).trans ((sI_nej (by decide)).trans (qa_9)))) ((sI_nej (by decide)).trans ((sI_nej (by decide)).trans ((sI_nej (by decide)).trans (qa_16)))) ((sI_nej (by decide)).trans ((sI_nej (by decide)).trans ((sI_nej (by decide)).trans (qa_19))))  (by omega)) fun v Ma101 h101 => ?_
      obtain ⟨sz100, sn100, uc100, g101, e101_sz100, e101_sn100, e101_uc100, e101_k0, e101_k1, e101_k2, e101_k3, p101_0, p101_1, p101_2⟩ := h101
      have f101 : Fr W_cp Mc Ma101 := Fr.t (Fr.sI (by decide) (Fr.sI (by decide) (Fr.sI (by decide) Fr.r))) (Fr.m g101 (by decide))
      refine rsl (cV_e rfl) ?_
      refine rsl (jv_e) ?_
      refine rsl (vC_e (ck_65 (hC.fr f101))) ?_
      refine RlV (y64 (by omega) (hC.fr f101) (hTk.fr (WL := W_cp) f101 (by decide)) (e101_k3) (e101_k0) (e101_k1) (e101_k2) (e101_sz100) (e101_sn100) (e101_uc100) (li_125) (by omega)) fun v Ma103 h103 => ?_
      obtain ⟨sz102, sn102, uc102, g103, e103_sz102, e103_sn102, e103_uc102, e103_k0, e103_k1, e103_k2, e103_k3, p103_0, p103_1, p103_2⟩ := h103
      have f103 : Fr W_cp Mc Ma103 := Fr.t f101 (Fr.m g103 (by decide))
      refine rsl (cV_e rfl) ?_
      refine rsl (ptI_q (z := s) (ck_65 (hC.fr f103)) (rfl)) ?_
      refine rsr (vC_e (rk_160 hR)) ?_
      refine Rs_cVr (P := fun _ Mc2 _ Mr2 => PMX 2470 ut mu m kd pl E tx Mc Mr G U Hl X i e s u uc Mc2 Mr2) ?_ (fun v Mx104 w Nx104 hx104 => ?_)
      ·
        obtain ⟨d2, rfl⟩ : ∃ e, d2 = e + 1 := ⟨d2 - 1, by omega⟩
        rw [r212]; unfold b212; rw [aR_e, aZ_e]; unfold c212
        refine rsr (gtI_q (w := iI 0) (rk_160 hR) (wa_41)) ?_
        refine rsr (jn_v) ?_
        refine rsr (if_pos (eqI_p (rfl) (li_0) (by omega))) ?_
        refine rsr (gtI_q (w := iI ((kr (kd i)))) (rk_160 hR) (wa_36)) ?_
        refine rsr (jn_v) ?_
        refine rsr (if_neg (krI_n (k := 123) (rfl) (li_123) (hS.ok i (by omega) (by omega)) (by unfold KdOK sgk; omega) (by decide +kernel) (by omega) (by omega))) ?_
        refine rsr (jv_e) ?_
        refine rsr (vC_e (rk_160 hR)) ?_
        refine rsr (cI_e (ar193_2 (by omega) hS hR (wa_36) (wa_37) (wa_41) (li_0) (by omega))) ?_
        refine rsr (if_pos (eqI_p (rfl) (li_0) (by omega))) ?_
        refine rsr (jv_e) ?_
        exact Rs.ok (Or.inr (Or.inr ⟨2, ((pl i)), (Fr.sI (by decide) f103), (Fr.sI (by decide) (Fr.sI (by decide) Fr.r)), ⟨i, sz102, s, uc102, (sI_nej (by decide)).trans (e103_k0), (sI_nej (by decide)).trans (e103_k1), (sI_nej (by decide)).trans (e103_k2), (sI_nej (by decide)).trans (e103_k3), (sI_nej (by decide)).trans (e103_sz102), sI_eq, (sI_nej (by decide)).trans (e103_uc102), by omega⟩, ⟨e, s, u, mu, ut, (sI_nej (by decide)).trans (sI_eq), sI_eq, (sI_nej (by decide)).trans ((sI_nej (by decide)).trans (wa_43)), (sI_nej (by decide)).trans ((sI_nej (by decide)).trans (wa_51)), (sI_nej (by decide)).trans ((sI_nej (by decide)).trans (wa_53)), (sI_nej (by decide)).trans ((sI_nej (by decide)).trans (h48)), (sI_nej (by decide)).trans ((sI_nej (by decide)).trans (h49)), by omega⟩⟩))
      ·
        rcases hx104 with ⟨i104, e104, u104, uc104, G104, U104, X104, k5104, FL104, FR104, sc104, sr104, rw104, bd104, ⟨mv104_0, mv104_1, mv104_2, mv104_3, mv104_4, mv104_5⟩, ag104, au104, ax104, tp104, dp104, ku104, ⟨z1104, z2104⟩⟩ | ⟨i104, e104, u104, k5104, FL104, FR104, tc104, sr104, ⟨mv104_0, mv104_1, mv104_2, mv104_3, mv104_4, mv104_5⟩, why104⟩ | ⟨F104, P104, FL104, FR104, tc104, tr104⟩
        ·
          obtain ⟨bb104_0, bb104_1, bb104_2, bb104_3, bb104_4, bb104_5, bb104_6, bb104_7, bb104_8, bb104_9, bb104_10, bb104_11⟩ := bd104
          obtain ⟨q104_12, q104_13, q104_10, q104_9, q104_16, q104_19⟩ := sc104
          obtain ⟨w104_36, w104_37, w104_38, w104_41, w104_43, w104_51, w104_53, w104_50, w104_n⟩ := sr104
          obtain ⟨ca104, ra104, lc104, lr104, cu104, ru104⟩ := rw104
          have hk105 := (hS.ok (i104 + 1) (by omega) (by omega)).r
          have hk106 := (hS.ok i104 (by omega) (by omega)).r
          have tb107 := Tyb.en (ut := ut) (mu := mu) tp104 (by omega) ⟨by omega, by omega⟩
          have du108 := DU.em (q := (e104 + 1)) (o := 0) (n := 0) (p := -2) (l := [0]) dp104 (by omega) (by omega)
          have du109 := DU.em (q := (e104 + 2)) (o := 8) (n := 0) (p := -2) (l := [0]) du108 (by omega) (by omega)
          refine rs1 (vC_e (rk_160 (hR.fr FR104))) ?_
          refine Rc_I (a196q (by omega) (hR.fr FR104) (w104_43) ((FR104.i _ _ (by decide)).trans h49) ((FR104.i _ _ (by decide)).trans h48) (li_0) (li_0) (q := (e104 + 1)) (by omega) (by omega)) fun v Ma111 h111 => ?_
          obtain ⟨r110, rfl, g111, e111_k0, p111_0, p111_1⟩ := h111
          have f111 : Fr W_rx Mr Ma111 := Fr.t FR104 (Fr.m g111 (by decide))
          refine rs1 (cI_e rfl) ?_
          refine rs1 (vC_e (rk_160 (hR.fr f111))) ?_
          refine Rc_I (a196q (by omega) (hR.fr f111) (e111_k0) ((g111.i _ _ (by decide)).trans ((FR104.i _ _ (by decide)).trans h49)) ((g111.i _ _ (by decide)).trans ((FR104.i _ _ (by decide)).trans h48)) (li_8) (li_0) (q := (e104 + 2)) (by omega) (by omega)) fun v Ma113 h113 => ?_
          obtain ⟨r112, rfl, g113, e113_k0, p113_0, p113_1⟩ := h113
          have f113 : Fr W_rx Mr Ma113 := Fr.t f111 (Fr.m g113 (by decide))
          refine rs1 (cI_e rfl) ?_
          refine rs1 (gtI_q (w := iI 0) (rk_160 (hR.fr f113)) ((g113.i _ _ (by decide)).trans ((g111.i _ _ (by decide)).trans (w104_41)))) ?_
          refine rs1 (jn_v) ?_
          refine rs1 (if_pos (eqI_p (rfl) (li_0) (by omega))) ?_
          refine rs1 (gtI_q (w := iI (e104 + 2)) (rk_160 (hR.fr f113)) (e113_k0)) ?_
          refine rs1 (jn_v) ?_
          refine rs1 (jn_v) ?_
          refine rs1 (if_neg (lsI_n (li_200) (sbI (rfl) (rfl)) (by omega))) ?_
          refine rs1 (gtI_q (w := iI (e104 + 2)) (rk_160 (hR.fr f113)) (e113_k0)) ?_
          refine rs1 (if_neg (lsI_n (li_1000) (rfl) (by omega))) ?_
          refine rs1 (jv_e) ?_
          refine rs1 (vC_e (rk_160 (hR.fr f113))) ?_
          refine rs1 (cI_e (ar194_p (by omega) hS (hR.fr f113) ((g113.i _ _ (by decide)).trans ((g111.i _ _ (by decide)).trans (w104_36))) ((g113.i _ _ (by decide)).trans ((g111.i _ _ (by decide)).trans (w104_37))) ((g113.i _ _ (by decide)).trans ((g111.i _ _ (by decide)).trans (w104_41))) (li_1) (li_6) (by omega))) ?_
          refine rs1 (jv_e) ?_
          refine rs1 (vC_e (rk_160 (hR.fr f113))) ?_
          have hm114 : i104 + 1 < m := hS.more i104 (by omega) (by omega) (by omega)
          refine Rc_V (nx_q (by omega) hS (hR.fr f113) (hT.fr (W := W_rx) f113 (by decide) (by decide)) (fun i a b => (Fr.lc (W := W_rx) f113 _ (by decide) _).trans (hW i a b)) (i := i104) (i2 := (i104 + 1)) ((g113.i _ _ (by decide)).trans ((g111.i _ _ (by decide)).trans (w104_41))) ((g113.i _ _ (by decide)).trans ((g111.i _ _ (by decide)).trans (w104_38))) (by omega) (by omega) (by omega)) fun v Ma115 h115 => ?_
          obtain ⟨g115, e115_k0, e115_k1, e115_k2, p115_0⟩ := h115
          have f115 : Fr W_rx Mr Ma115 := Fr.t f113 (Fr.m g115 (by decide))
          refine rs1 (cV_e rfl) ?_
          exact Rt.ok ⟨rfl, Or.inl ⟨(i104 + 1), (e104 + 2), u104, uc104, (pu (pu G104 e104 [0, 0, -2, 0, ut, mu, 0]) (e104 + 1) [8, 0, -2, 0, ut, mu, 0]), U104, X104, FL104, (Fr.t hF0 (Fr.m f115 W_rx_p)), ⟨q104_12, q104_13, q104_10, q104_9, q104_16, q104_19⟩, ⟨e115_k0, e115_k1, e115_k2, (g115.i _ _ (by decide)).trans ((g113.i _ _ (by decide)).trans ((g111.i _ _ (by decide)).trans (w104_41))), (g115.i _ _ (by decide)).trans (e113_k0), (g115.i _ _ (by decide)).trans ((g113.i _ _ (by decide)).trans ((g111.i _ _ (by decide)).trans (w104_51))), (g115.i _ _ (by decide)).trans ((g113.i _ _ (by decide)).trans ((g111.i _ _ (by decide)).trans (w104_53))), (g115.i _ _ (by decide)).trans ((g113.i _ _ (by decide)).trans ((g111.i _ _ (by decide)).trans (w104_50))), p115_0⟩, ⟨ca104, ((RA1.em (q := (e104 + 2)) (RA1.em (q := (e104 + 1)) ra104 (by omega) p111_1 (by omega)) (by omega) p113_1 (by omega)).fr g115 (by decide)), lc104, (((lr104.fr g111 (by decide)).fr g113 (by decide)).fr g115 (by decide)), cu104, (((ru104.fr g111 (by decide)).fr g113 (by decide)).fr g115 (by decide))⟩, ⟨by omega, by omega, by omega, by omega, by omega, by omega, by omega, by omega, by omega, by omega, by omega, by omega⟩, ⟨by omega, by omega, by omega, by omega, by omega, by omega⟩, (Ag.pu (Ag.pu ag104 (by omega)) (by omega)), au104, ax104, tb107, du109, ku104, ⟨by omega, by omega, by omega, pu_e (by omega)⟩⟩⟩
        ·
          obtain ⟨ti104, tz104, tn104, tu104, t13104, t10104, t11104, t12104, t9104, t16104, t19104, tb104⟩ := tc104
          obtain ⟨w104_36, w104_37, w104_38, w104_41, w104_43, w104_51, w104_53, w104_50, w104_n⟩ := sr104
          have hk116 := (hS.ok i104 (by omega) (by omega)).r
          rcases why104 with why104 | why104
          ·
            refine rs1 (vC_e (rk_160 (hR.fr FR104))) ?_
            refine Rc_I (a196q (by omega) (hR.fr FR104) (w104_43) ((FR104.i _ _ (by decide)).trans h49) ((FR104.i _ _ (by decide)).trans h48) (li_0) (li_0) (q := (e104 + 1)) (by omega) (by omega)) fun v Ma118 h118 => ?_
            obtain ⟨r117, rfl, g118, e118_k0, p118_0, p118_1⟩ := h118
            have f118 : Fr W_rx Mr Ma118 := Fr.t FR104 (Fr.m g118 (by decide))
            refine rs1 (cI_e rfl) ?_
            refine rs1 (vC_e (rk_160 (hR.fr f118))) ?_
            refine Rc_I (a196q (by omega) (hR.fr f118) (e118_k0) ((g118.i _ _ (by decide)).trans ((FR104.i _ _ (by decide)).trans h49)) ((g118.i _ _ (by decide)).trans ((FR104.i _ _ (by decide)).trans h48)) (li_8) (li_0) (q := (e104 + 2)) (by omega) (by omega)) fun v Ma120 h120 => ?_
            obtain ⟨r119, rfl, g120, e120_k0, p120_0, p120_1⟩ := h120
            have f120 : Fr W_rx Mr Ma120 := Fr.t f118 (Fr.m g120 (by decide))
            refine rs1 (cI_e rfl) ?_
            refine rs1 (gtI_q (w := iI 0) (rk_160 (hR.fr f120)) ((g120.i _ _ (by decide)).trans ((g118.i _ _ (by decide)).trans (w104_41)))) ?_
            refine rs1 (jn_v) ?_
            refine rs1 (if_pos (eqI_p (rfl) (li_0) (by omega))) ?_
            refine rs1 (gtI_q (w := iI (e104 + 2)) (rk_160 (hR.fr f120)) (e120_k0)) ?_
            refine rs1 (jn_v) ?_
            refine rs1 (jn_v) ?_
            refine rs1 (if_pos (lsI_p (li_200) (sbI (rfl) (rfl)) (by omega))) ?_
            refine rs1 (jv_e) ?_
            refine rs1 (jv_e) ?_
            refine rs1 (vC_e (rk_160 (hR.fr f120))) ?_
            refine rs1 (cI_e (ar194_f (by omega) hS (hR.fr f120) ((g120.i _ _ (by decide)).trans ((g118.i _ _ (by decide)).trans (w104_36))) ((g120.i _ _ (by decide)).trans ((g118.i _ _ (by decide)).trans (w104_37))) ((g120.i _ _ (by decide)).trans ((g118.i _ _ (by decide)).trans (w104_41))) (li_0) (li_6) (by omega))) ?_
            refine rs1 (jv_e) ?_
            refine rs1 (vC_e (rk_160 (hR.fr f120).sI.sI)) ?_
            refine Rc_V (x191_s (by omega) (hR.fr f120).sI.sI ((sI_nej (by decide)).trans (sI_eq)) (sI_eq) ((sI_nej (by decide)).trans ((sI_nej (by decide)).trans (e120_k0))) ((sI_nej (by decide)).trans ((sI_nej (by decide)).trans ((g120.i _ _ (by decide)).trans ((g118.i _ _ (by decide)).trans (w104_51))))) ((sI_nej (by decide)).trans ((sI_nej (by decide)).trans ((g120.i _ _ (by decide)).trans ((g118.i _ _ (by decide)).trans (w104_53))))) ((sI_nej (by decide)).trans ((sI_nej (by decide)).trans ((g120.i _ _ (by decide)).trans ((g118.i _ _ (by decide)).trans ((FR104.i _ _ (by decide)).trans h48))))) ((sI_nej (by decide)).trans ((sI_nej (by decide)).trans ((g120.i _ _ (by decide)).trans ((g118.i _ _ (by decide)).trans ((FR104.i _ _ (by decide)).trans h49)))))  (by omega)) fun v Ma122 h122 => ?_
            obtain ⟨em121, g122, e122_em121, e122_k0, e122_k1, e122_k2, e122_k3, e122_k4, p122_0⟩ := h122
            have f122 : Fr W_rp Mr Ma122 := Fr.t (Fr.sI (by decide) (Fr.sI (by decide) (Fr.m f120 (by decide)))) (Fr.m g122 (by decide))
            refine rs1 (cV_e rfl) ?_
            exact Rt.ok ⟨rfl, Or.inr ⟨6, ((pl i104)), FL104, (Fr.t hF0 f122), ⟨ti104, tz104, tn104, tu104, t13104, t10104, t11104, t12104, t9104, t16104, t19104, by omega⟩, ⟨em121, s, u104, mu, ut, e122_k0, e122_k1, e122_em121, e122_k2, e122_k3, e122_k4, (g122.i _ _ (by decide)).trans ((sI_nej (by decide)).trans ((sI_nej (by decide)).trans ((g120.i _ _ (by decide)).trans ((g118.i _ _ (by decide)).trans ((FR104.i _ _ (by decide)).trans h49))))), by omega⟩⟩⟩
          ·
            refine rs1 (vC_e (rk_160 (hR.fr FR104))) ?_
            refine Rc_I (a196q (by omega) (hR.fr FR104) (w104_43) ((FR104.i _ _ (by decide)).trans h49) ((FR104.i _ _ (by decide)).trans h48) (li_0) (li_0) (q := (e104 + 1)) (by omega) (by omega)) fun v Ma124 h124 => ?_
            obtain ⟨r123, rfl, g124, e124_k0, p124_0, p124_1⟩ := h124
            have f124 : Fr W_rx Mr Ma124 := Fr.t FR104 (Fr.m g124 (by decide))
            refine rs1 (cI_e rfl) ?_
            refine rs1 (vC_e (rk_160 (hR.fr f124))) ?_
            refine Rc_I (a196q (by omega) (hR.fr f124) (e124_k0) ((g124.i _ _ (by decide)).trans ((FR104.i _ _ (by decide)).trans h49)) ((g124.i _ _ (by decide)).trans ((FR104.i _ _ (by decide)).trans h48)) (li_8) (li_0) (q := (e104 + 2)) (by omega) (by omega)) fun v Ma126 h126 => ?_
            obtain ⟨r125, rfl, g126, e126_k0, p126_0, p126_1⟩ := h126
            have f126 : Fr W_rx Mr Ma126 := Fr.t f124 (Fr.m g126 (by decide))
            refine rs1 (cI_e rfl) ?_
            refine rs1 (gtI_q (w := iI 0) (rk_160 (hR.fr f126)) ((g126.i _ _ (by decide)).trans ((g124.i _ _ (by decide)).trans (w104_41)))) ?_
            refine rs1 (jn_v) ?_
            refine rs1 (if_pos (eqI_p (rfl) (li_0) (by omega))) ?_
            refine rs1 (gtI_q (w := iI (e104 + 2)) (rk_160 (hR.fr f126)) (e126_k0)) ?_
            refine rs1 (jn_v) ?_
            refine rs1 (jn_v) ?_
            refine rs1 (if_neg (lsI_n (li_200) (sbI (rfl) (rfl)) (by omega))) ?_
            refine rs1 (gtI_q (w := iI (e104 + 2)) (rk_160 (hR.fr f126)) (e126_k0)) ?_
            refine rs1 (if_pos (lsI_p (li_1000) (rfl) (by omega))) ?_
            refine rs1 (jv_e) ?_
            refine rs1 (jv_e) ?_
            refine rs1 (vC_e (rk_160 (hR.fr f126))) ?_
            refine rs1 (cI_e (ar194_f (by omega) hS (hR.fr f126) ((g126.i _ _ (by decide)).trans ((g124.i _ _ (by decide)).trans (w104_36))) ((g126.i _ _ (by decide)).trans ((g124.i _ _ (by decide)).trans (w104_37))) ((g126.i _ _ (by decide)).trans ((g124.i _ _ (by decide)).trans (w104_41))) (li_0) (li_6) (by omega))) ?_
            refine rs1 (jv_e) ?_
            refine rs1 (vC_e (rk_160 (hR.fr f126).sI.sI)) ?_
            refine Rc_V (x191_s (by omega) (hR.fr f126).sI.sI ((sI_nej (by decide)).trans (sI_eq)) (sI_eq) ((sI_nej (by decide)).trans ((sI_nej (by decide)).trans (e126_k0))) ((sI_nej (by decide)).trans ((sI_nej (by decide)).trans ((g126.i _ _ (by decide)).trans ((g124.i _ _ (by decide)).trans (w104_51))))) ((sI_nej (by decide)).trans ((sI_nej (by decide)).trans ((g126.i _ _ (by decide)).trans ((g124.i _ _ (by decide)).trans (w104_53))))) ((sI_nej (by decide)).trans ((sI_nej (by decide)).trans ((g126.i _ _ (by decide)).trans ((g124.i _ _ (by decide)).trans ((FR104.i _ _ (by decide)).trans h48))))) ((sI_nej (by decide)).trans ((sI_nej (by decide)).trans ((g126.i _ _ (by decide)).trans ((g124.i _ _ (by decide)).trans ((FR104.i _ _ (by decide)).trans h49)))))  (by omega)) fun v Ma128 h128 => ?_
            obtain ⟨em127, g128, e128_em127, e128_k0, e128_k1, e128_k2, e128_k3, e128_k4, p128_0⟩ := h128
            have f128 : Fr W_rp Mr Ma128 := Fr.t (Fr.sI (by decide) (Fr.sI (by decide) (Fr.m f126 (by decide)))) (Fr.m g128 (by decide))
            refine rs1 (cV_e rfl) ?_
            exact Rt.ok ⟨rfl, Or.inr ⟨6, ((pl i104)), FL104, (Fr.t hF0 f128), ⟨ti104, tz104, tn104, tu104, t13104, t10104, t11104, t12104, t9104, t16104, t19104, by omega⟩, ⟨em127, s, u104, mu, ut, e128_k0, e128_k1, e128_em127, e128_k2, e128_k3, e128_k4, (g128.i _ _ (by decide)).trans ((sI_nej (by decide)).trans ((sI_nej (by decide)).trans ((g126.i _ _ (by decide)).trans ((g124.i _ _ (by decide)).trans ((FR104.i _ _ (by decide)).trans h49))))), by omega⟩⟩⟩
        ·
          obtain ⟨ti104, tz104, tn104, tu104, t13104, t10104, t11104, t12104, t9104, t16104, t19104, tb104⟩ := tc104
          obtain ⟨re104, rn104, ru104, rm104, rt104, u41104, u42104, u43104, u51104, u53104, u48104, u49104, ub104⟩ := tr104
          refine rs1 (vC_e (rk_160 (hR.fr FR104))) ?_
          refine Rc_I (x196_s (by omega) (hR.fr FR104) (u41104) (u42104) (u43104) (u51104) (u53104) (u48104) (u49104) (li_0) (li_0) (by omega)) fun v Ma130 h130 => ?_
          obtain ⟨rv129, em129, rfl, g130, e130_em129, e130_k0, e130_k1, e130_k2, e130_k3, e130_k4, p130_0, p130_1⟩ := h130
          have f130 : Fr W_rp Mr Ma130 := Fr.t FR104 (Fr.m g130 (by decide))
          refine rs1 (cI_e rfl) ?_
          refine rs1 (vC_e (rk_160 (hR.fr f130))) ?_
          refine Rc_I (x196_s (by omega) (hR.fr f130) (e130_k0) (e130_k1) (e130_em129) (e130_k2) (e130_k3) (e130_k4) ((g130.i _ _ (by decide)).trans (u49104)) (li_8) (li_0) (by omega)) fun v Ma132 h132 => ?_
          obtain ⟨rv131, em131, rfl, g132, e132_em131, e132_k0, e132_k1, e132_k2, e132_k3, e132_k4, p132_0, p132_1⟩ := h132
          have f132 : Fr W_rp Mr Ma132 := Fr.t f130 (Fr.m g132 (by decide))
          refine rs1 (cI_e rfl) ?_
          refine rs1 (gtI_q (w := iI F104) (rk_160 (hR.fr f132)) (e132_k0)) ?_
          refine rs1 (jn_v) ?_
          refine rs1 (if_neg (eqI_n (rfl) (li_0) (by omega))) ?_
          refine rs1 (jv_e) ?_
          refine rs1 (vC_e (rk_160 (hR.fr f132))) ?_
          refine Rc_V (x191_s (by omega) (hR.fr f132) (e132_k0) (e132_k1) (e132_em131) (e132_k2) (e132_k3) (e132_k4) ((g132.i _ _ (by decide)).trans ((g130.i _ _ (by decide)).trans (u49104)))  (by omega)) fun v Ma134 h134 => ?_
          obtain ⟨em133, g134, e134_em133, e134_k0, e134_k1, e134_k2, e134_k3, e134_k4, p134_0⟩ := h134
          have f134 : Fr W_rp Mr Ma134 := Fr.t f132 (Fr.m g134 (by decide))
          refine rs1 (cV_e rfl) ?_
          exact Rt.ok ⟨rfl, Or.inr ⟨F104, P104, FL104, (Fr.t hF0 f134), ⟨ti104, tz104, tn104, tu104, t13104, t10104, t11104, t12104, t9104, t16104, t19104, by omega⟩, ⟨em133, rn104, ru104, rm104, rt104, e134_k0, e134_k1, e134_em133, e134_k2, e134_k3, e134_k4, (g134.i _ _ (by decide)).trans ((g132.i _ _ (by decide)).trans ((g130.i _ _ (by decide)).trans (u49104))), by omega⟩⟩⟩
