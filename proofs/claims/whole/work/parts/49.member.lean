/-! the end of a member's code -/
theorem a88_p {d : Nat} {M : Mem} (hd : 3 ≤ d) {T : Int → Int} {n m : Int} {kd pl E : Int → Int} {tx : Int → Int64} (hS : TkS T n m kd pl E tx) (hR : CT M) (hTk : TkA M m kd pl tx) {i : Int} (h12 : M.1 65 12 = iI i) (h13 : M.1 65 13 = iI (kd i)) (h10 : M.1 65 10 = iI 0) {e st ut mu : Int} {G : Nat → Int → Int} (h9 : M.1 65 9 = iI e) (h14 : M.1 65 14 = iI st) (hG : CA1 M G e) (h : 0 ≤ i ∧ i < m ∧ m ≤ 1400 ∧ kd i = 125 ∧ 0 ≤ e ∧ e ≤ 4000 ∧ 0 ≤ st ∧ st ≤ 4000 ∧ e + 2 - st ≤ 200 ∧ e + 2 ≤ 1000) : Rt (runX d 88 [va_rf (some 65)] M) (fun _ M2 => Fr W_em M M2 ∧ M2.1 65 9 = iI (e + 2) ∧ (CA1 M2 (pu (pu G e [0, 0, -2, 0, ut, mu, 0]) (e + 1) [8, 0, -2, 0, ut, mu, 0]) (e + 2))) := by
  obtain ⟨d, rfl⟩ : ∃ e, d = e + 1 := ⟨d - 1, by omega⟩
  rw [r88]; unfold b88; rw [aR_e, aZ_e]; unfold c88
  have hk0 := (hS.ok i (by omega) (by omega)).r
  have hm := hS.2.2.1
  refine rs1 (vC_e (ck_65 hR)) ?_
  refine Rc_I (a87q (by omega) hR (h9) (li_0) (li_0) (q := (e + 1)) (by omega) (by omega)) fun v Ma2 h2 => ?_
  obtain ⟨r1, rfl, g2, e2_k0, p2_0, p2_1⟩ := h2
  have f2 : Fr W_em M Ma2 := Fr.t Fr.r (Fr.m g2 (by decide))
  refine rs1 (cI_e rfl) ?_
  refine rs1 (vC_e (ck_65 (hR.fr f2))) ?_
  refine Rc_I (a87q (by omega) (hR.fr f2) (e2_k0) (li_8) (li_0) (q := (e + 2)) (by omega) (by omega)) fun v Ma4 h4 => ?_
  obtain ⟨r3, rfl, g4, e4_k0, p4_0, p4_1⟩ := h4
  have f4 : Fr W_em M Ma4 := Fr.t f2 (Fr.m g4 (by decide))
  refine rs1 (cI_e rfl) ?_
  refine rs1 (gtI_q (w := iI ((kd i))) (ck_65 (hR.fr f4)) ((g4.i _ _ (by decide)).trans ((g2.i _ _ (by decide)).trans (h13)))) ?_
  refine rs1 (jn_v) ?_
  refine rs1 (if_pos (eqI_p (rfl) (li_125) (by omega))) ?_
  refine rs1 (gtI_q (w := iI (e + 2)) (ck_65 (hR.fr f4)) (e4_k0)) ?_
  refine rs1 (gtI_q (w := iI st) (ck_65 (hR.fr f4)) ((g4.i _ _ (by decide)).trans ((g2.i _ _ (by decide)).trans (h14)))) ?_
  refine rs1 (jn_v) ?_
  refine rs1 (if_neg (lsI_n (li_200) (sbI (rfl) (rfl)) (by omega))) ?_
  refine rs1 (gtI_q (w := iI (e + 2)) (ck_65 (hR.fr f4)) (e4_k0)) ?_
  refine rs1 (if_pos (leI_p (rfl) (li_1000) (by omega))) ?_
  refine rs1 (jv_e) ?_
  exact Rt.ok ⟨f4, e4_k0, (CA1.em (q := (e + 2)) (CA1.em (q := (e + 1)) hG (by omega) p2_1 (by omega)) (by omega) p4_1 (by omega))⟩
def W_e6 : List (Nat × Nat) := [(65, 9), (65, 10), (65, 11), (65, 13), (72, 9999), (73, 9999), (74, 9999)]
theorem a88_6 {d : Nat} {M : Mem} (hd : 3 ≤ d) {T : Int → Int} {n m : Int} {kd pl E : Int → Int} {tx : Int → Int64} (hS : TkS T n m kd pl E tx) (hR : CT M) (hTk : TkA M m kd pl tx) {i : Int} (h12 : M.1 65 12 = iI i) (h13 : M.1 65 13 = iI (kd i)) (h10 : M.1 65 10 = iI 0) {e st ut mu : Int} {G : Nat → Int → Int} (h9 : M.1 65 9 = iI e) (h14 : M.1 65 14 = iI st) (hG : CA1 M G e) (h : 0 ≤ i ∧ i < m ∧ m ≤ 1400 ∧ kd i = 125 ∧ 0 ≤ e ∧ e ≤ 4000 ∧ 0 ≤ st ∧ st ≤ 4000 ∧ (200 < e + 2 - st ∨ 1000 < e + 2)) : Rt (runX d 88 [va_rf (some 65)] M) (fun _ M2 => Fr W_e6 M M2 ∧ M2.1 65 9 = iI (e + 2) ∧ M2.1 65 10 = iI 6 ∧ M2.1 65 11 = iI ((pl i)) ∧ M2.1 65 13 = iI 2) := by
  obtain ⟨d, rfl⟩ : ∃ e, d = e + 1 := ⟨d - 1, by omega⟩
  rw [r88]; unfold b88; rw [aR_e, aZ_e]; unfold c88
  have hk0 := (hS.ok i (by omega) (by omega)).r
  have hm := hS.2.2.1
  refine rs1 (vC_e (ck_65 hR)) ?_
  refine Rc_I (a87q (by omega) hR (h9) (li_0) (li_0) (q := (e + 1)) (by omega) (by omega)) fun v Ma2 h2 => ?_
  obtain ⟨r1, rfl, g2, e2_k0, p2_0, p2_1⟩ := h2
  have f2 : Fr W_e6 M Ma2 := Fr.t Fr.r (Fr.m g2 (by decide))
  refine rs1 (cI_e rfl) ?_
  refine rs1 (vC_e (ck_65 (hR.fr f2))) ?_
  refine Rc_I (a87q (by omega) (hR.fr f2) (e2_k0) (li_8) (li_0) (q := (e + 2)) (by omega) (by omega)) fun v Ma4 h4 => ?_
  obtain ⟨r3, rfl, g4, e4_k0, p4_0, p4_1⟩ := h4
  have f4 : Fr W_e6 M Ma4 := Fr.t f2 (Fr.m g4 (by decide))
  refine rs1 (cI_e rfl) ?_
  refine rs1 (gtI_q (w := iI ((kd i))) (ck_65 (hR.fr f4)) ((g4.i _ _ (by decide)).trans ((g2.i _ _ (by decide)).trans (h13)))) ?_
  refine rs1 (jn_v) ?_
  refine rs1 (if_pos (eqI_p (rfl) (li_125) (by omega))) ?_
  refine rs1 (gtI_q (w := iI (e + 2)) (ck_65 (hR.fr f4)) (e4_k0)) ?_
  refine rs1 (gtI_q (w := iI st) (ck_65 (hR.fr f4)) ((g4.i _ _ (by decide)).trans ((g2.i _ _ (by decide)).trans (h14)))) ?_
  refine rs1 (jn_v) ?_
  by_cases c5 : 200 < (e - st + 2)
  · refine rs1 (if_pos (lsI_p (li_200) (sbI (rfl) (rfl)) (by omega))) ?_
    refine rs1 (jv_e) ?_
    refine rs1 (vC_e (ck_65 (hR.fr f4))) ?_
    refine rs1 (cV_e (a62_2 (by omega) hS (hR.fr f4) (hTk.fr (WL := W_e6) f4 (by decide)) ((g4.i _ _ (by decide)).trans ((g2.i _ _ (by decide)).trans (h12))) ((g4.i _ _ (by decide)).trans ((g2.i _ _ (by decide)).trans (h13))) ((g4.i _ _ (by decide)).trans ((g2.i _ _ (by decide)).trans (h10))) (li_6) (by omega))) ?_
    refine rs1 (jv_e) ?_
    exact Rt.ok ⟨(Fr.sI (by decide) (Fr.sI (by decide) (Fr.sI (by decide) f4))), (sI_nej (by decide)).trans ((sI_nej (by decide)).trans ((sI_nej (by decide)).trans (e4_k0))), (sI_nej (by decide)).trans ((sI_nej (by decide)).trans (sI_eq)), (sI_nej (by decide)).trans (sI_eq), sI_eq⟩
  · refine rs1 (if_neg (lsI_n (li_200) (sbI (rfl) (rfl)) (by omega))) ?_
    refine rs1 (gtI_q (w := iI (e + 2)) (ck_65 (hR.fr f4)) (e4_k0)) ?_
    by_cases c6 : (e + 2) ≤ 1000
    · refine rs1 (if_pos (leI_p (rfl) (li_1000) (by omega))) ?_
      refine rs1 (jv_e) ?_
      exfalso; omega
    · refine rs1 (if_neg (leI_n (rfl) (li_1000) (by omega))) ?_
      refine rs1 (jv_e) ?_
      refine rs1 (vC_e (ck_65 (hR.fr f4))) ?_
      refine rs1 (cV_e (a62_2 (by omega) hS (hR.fr f4) (hTk.fr (WL := W_e6) f4 (by decide)) ((g4.i _ _ (by decide)).trans ((g2.i _ _ (by decide)).trans (h12))) ((g4.i _ _ (by decide)).trans ((g2.i _ _ (by decide)).trans (h13))) ((g4.i _ _ (by decide)).trans ((g2.i _ _ (by decide)).trans (h10))) (li_6) (by omega))) ?_
      refine rs1 (jv_e) ?_
      exact Rt.ok ⟨(Fr.sI (by decide) (Fr.sI (by decide) (Fr.sI (by decide) f4))), (sI_nej (by decide)).trans ((sI_nej (by decide)).trans ((sI_nej (by decide)).trans (e4_k0))), (sI_nej (by decide)).trans ((sI_nej (by decide)).trans (sI_eq)), (sI_nej (by decide)).trans (sI_eq), sI_eq⟩
section S49
variable {G : Nat → Int → Int} {a b s dp ut mu e i u uc dq m n : Int} {kd pl E : Int → Int} {tx : Int → Int64} {Mc Mr : Mem} {U : Nat → Int → Int} {X : Nat → Int → Int64} {Hl : Int → Int64} {T : Int → Int} {ua : Nat}
/-- PUSH 0 and RETURN behind a block -/
theorem Tyb.en (h : Tyb dp G a b s s) (hdp : dp ≤ 20) (hs : 0 ≤ s ∧ s ≤ 10) : Tyb dp (pu (pu G b [0, 0, -2, 0, ut, mu, 0]) (b + 1) [8, 0, -2, 0, ut, mu, 0]) a (b + 2) s s := by
  have h1 : Tye (pu G b [0, 0, -2, 0, ut, mu, 0]) b (b + 1) s 1 := Tye.em (d := 0) (q := b + 1) (l := []) Tye.r (Or.inl (by omega) : Eff 0 0 0 0 s 1 s) (by omega) hs rfl
  have h2 : Tyb dp (pu (pu G b [0, 0, -2, 0, ut, mu, 0]) (b + 1) [8, 0, -2, 0, ut, mu, 0]) b (b + 2) s s := Tyb.ex (d := 1) (q := b + 2) (l := []) h1 (Or.inr (Or.inr (Or.inr (Or.inr (Or.inr (Or.inr (Or.inr (Or.inr (by omega)))))))) : Eff 8 0 0 1 s 0 s) hdp hs (by omega)
  exact h.t (fun k j p => (pu_n (by omega)).trans (pu_n (by omega))) h2
/-- what stays, but for whether codes have a MUTANT -/
def Cx0 (T : Int → Int) (n m : Int) (kd pl : Int → Int) (tx : Int → Int64) (ua : Nat) (ut : Int) (Mc Mr : Mem) : Prop := CT Mc ∧ RT Mr ∧ TkA Mc m kd pl tx ∧ Tp 160 1 161 T n Mr ∧ (∀ i, 0 ≤ i → i < 28 → Mr.2.1 194 i.toNat = WR i) ∧ (259 ≤ ua ∧ Mc.2.2.1 65 1 = some ua ∧ Mc.2.2.2[ua]? = some (0, 3) ∧ Mc.1 ua 2 = iI (ut + 1)) ∧ Mr.1 160 49 = iI ut ∧ (0 ≤ ut ∧ ut ≤ 7)
theorem Cx0.up (h : Cx0 T n m kd pl tx ua ut Mc Mr) (hm : 0 ≤ mu ∧ mu ≤ 1) : Cx T n m kd pl tx ua ut mu Mc (sI (sI Mr 160 50 (iI 0)) 160 48 (iI mu)) := by
  have f : Fr W_rp Mr (sI (sI Mr 160 50 (iI 0)) 160 48 (iI mu)) := Fr.sI (by decide) (Fr.sI (by decide) Fr.r)
  obtain ⟨h1, h2, h3, h4, h5, h6, h7, h8⟩ := h
  exact ⟨h1, h2.fr f, h3, h4.fr f (by decide) (by decide), fun i a b => (f.lc _ (by decide) _).trans (h5 i a b), h6, (f.i _ _ (by decide)).trans h7, sI_eq, by omega⟩
theorem SR.up (h : SR Mr kd pl E tx i e s u dq) : SR (sI (sI Mr 160 50 (iI 0)) 160 48 (iI mu)) kd pl E tx i e s u 0 := by
  obtain ⟨h1, h2, h3, h4, h5, h6, h7, h8, h9⟩ := h
  have f : Fr [(160, 48), (160, 50)] Mr (sI (sI Mr 160 50 (iI 0)) 160 48 (iI mu)) := Fr.sI (by decide) (Fr.sI (by decide) Fr.r)
  exact ⟨(f.i _ _ (by decide)).trans h1, (f.i _ _ (by decide)).trans h2, (f.i _ _ (by decide)).trans h3, (f.i _ _ (by decide)).trans h4, (f.i _ _ (by decide)).trans h5, (f.i _ _ (by decide)).trans h6, (f.i _ _ (by decide)).trans h7, (sI_nej (by decide)).trans sI_eq, h9.fr f (by decide) (by decide)⟩
theorem RW.up (h : RW Mc Mr G U Hl X e s u uc) : RW Mc (sI (sI Mr 160 50 (iI 0)) 160 48 (iI mu)) G U Hl X e s u uc := by
  obtain ⟨h1, h2, h3, h4, h5, h6⟩ := h
  have f : Fr [(160, 48), (160, 50)] Mr (sI (sI Mr 160 50 (iI 0)) 160 48 (iI mu)) := Fr.sI (by decide) (Fr.sI (by decide) Fr.r)
  exact ⟨h1, h2.fr f (by decide), h3, h4.fr f (by decide), h5, h6.fr f (by decide)⟩
end S49
/-- a whole code: both went on alike -/
def PM (ut mu m : Int) (kd pl E : Int → Int) (tx : Int → Int64) (Mc Mr : Mem) (G U : Nat → Int → Int) (Hl : Int → Int64) (X : Nat → Int → Int64) (i e s u uc : Int) (Mc' Mr' : Mem) : Prop := ∃ (i' e' u' uc' : Int) (G' U' : Nat → Int → Int) (X' : Nat → Int → Int64), Fr W_cp Mc Mc' ∧ Fr W_rp Mr Mr' ∧ SC Mc' kd i' e' s uc' ∧ SR Mr' kd pl E tx i' e' s u' 0 ∧ RW Mc' Mr' G' U' Hl X' e' s u' uc' ∧ BD m i' e' s u' uc' 0 ∧ (i < i' ∧ e ≤ e' ∧ e' - e ≤ i' - i ∧ u ≤ u' ∧ uc' - uc ≤ i' - i ∧ uc ≤ uc') ∧ Ag G G' e ∧ Ag U U' u ∧ AgL X X' u ∧ Tyb 0 G' e (e' - 2) s s ∧ DU ut mu uc G' U' X' e e' u u' ∧ KU uc Mc Mc' ∧ (e + 2 ≤ e' ∧ e' - e ≤ 200 ∧ e' ≤ 1000 ∧ G' 0 (e' - 1) = 8 ∧ G' 2 (e' - 1) = -2 ∧ G' 0 (e' - 2) = 0 ∧ G' 2 (e' - 2) = -2 ∧ G' 3 (e' - 2) = 0 ∧ G' 3 (e' - 1) = 0 ∧ Mr'.1 160 48 = iI mu)
/-- the class behind its block, its last two codes already there; or its FAULT 6 alone; or a FAULT of both -/
def PMX (b : Int) (ut mu m : Int) (kd pl E : Int → Int) (tx : Int → Int64) (Mc Mr : Mem) (G U : Nat → Int → Int) (Hl : Int → Int64) (X : Nat → Int → Int64) (i e s u uc : Int) (Mc' Mr' : Mem) : Prop := (∃ (i' e' u' uc' : Int) (G' U' : Nat → Int → Int) (X' : Nat → Int → Int64), kd i' = 125 ∧ Fr W_cp Mc Mc' ∧ Fr W_rx Mr Mr' ∧ SC Mc' kd (i' + 1) (e' + 2) s uc' ∧ SR Mr' kd pl E tx i' e' s u' 0 ∧ (CA1 Mc' (pu (pu G' e' [0, 0, -2, 0, ut, mu, 0]) (e' + 1) [8, 0, -2, 0, ut, mu, 0]) (e' + 2) ∧ RA1 Mr' G' e' ∧ LA 76 Mc' Hl s ∧ LA 199 Mr' Hl s ∧ CU Mc' U' X' u' uc' ∧ RU Mr' U' X' u') ∧ BD m (i' + 1) (e' + 2) s u' uc' 0 ∧ (i < i' + 1 ∧ e ≤ e' ∧ e' + 2 - e ≤ i' + 1 - i ∧ u ≤ u' ∧ uc' - uc ≤ i' + 1 - i ∧ uc ≤ uc') ∧ Ag G G' e ∧ Ag U U' u ∧ AgL X X' u ∧ Tyb 0 G' e e' s s ∧ DU ut mu uc G' U' X' e e' u u' ∧ KU uc Mc Mc' ∧ (e' + 2 - e ≤ 200 ∧ e' + 2 ≤ 1000)) ∨ (∃ (i' e' u' : Int), kd i' = 125 ∧ Fr W_cp Mc Mc' ∧ Fr W_rx Mr Mr' ∧ FTc m 6 (pl i') Mc' ∧ SR Mr' kd pl E tx i' e' s u' 0 ∧ (0 ≤ i' ∧ i' < m ∧ e ≤ e' ∧ e' ≤ i' ∧ 0 ≤ u' ∧ u' ≤ i') ∧ (200 < e' + 2 - e ∨ (e' + 2 - e ≤ 200 ∧ 1000 < e' + 2))) ∨ ∃ F P : Int, Fr W_cp Mc Mc' ∧ Fr W_rp Mr Mr' ∧ FTc m F P Mc' ∧ FTr b F P Mr'
def PairM (D : Nat) : Prop := ∀ (d d' : Nat), D ≤ d → D ≤ d' → ∀ (T : Int → Int) (n m : Int) (kd pl E : Int → Int) (tx : Int → Int64) (ua : Nat) (ut mu : Int) (Mc Mr : Mem) (G U : Nat → Int → Int) (Hl : Int → Int64) (X : Nat → Int → Int64) (i e s u uc dq : Int) (v0 w0 : Int32), TkS T n m kd pl E tx → Cx0 T n m kd pl tx ua ut Mc Mr → 0 ≤ mu ∧ mu ≤ 1 → SC Mc kd i e s uc → SR Mr kd pl E tx i e s u dq → RW Mc Mr G U Hl X e s u uc → BD m i e s u uc 0 → Mc.1 65 14 = iI e → v0 = iI 0 → w0 = iI mu → Rs (runX d 89 [va_rf (some 65), .int v0] Mc) (runX d' 218 [va_rf (some 160), .int w0] Mr) (fun _ Mc' w Mr' => w = .int (iI e) ∧ (PM ut mu m kd pl E tx Mc Mr G U Hl X i e s u uc Mc' Mr' ∨ ∃ F P : Int, Fr W_cp Mc Mc' ∧ Fr W_rp Mr Mr' ∧ FTc m F P Mc' ∧ FTr 2500 F P Mr'))
theorem p_m {D : Nat} (hD : 20 ≤ D) (hSt : PairS D 1) : PairM (D + 10) := by
  intro d d2 hd hd2 T n m kd pl E tx ua ut mu Mc Mr0 G U Hl X i e s u uc dq v0 w0 hS hx0 hmu hsc hsr0 hrw0 hbd h14 hv0 hw0
  obtain ⟨d, rfl⟩ : ∃ e, d = e + 1 := ⟨d - 1, by omega⟩
  obtain ⟨d2, rfl⟩ : ∃ e, d2 = e + 1 := ⟨d2 - 1, by omega⟩
  rw [r89]; unfold b89; rw [aR_e, aI_e, aZ_e]; unfold c89; rw [r218]; unfold b218; rw [aR_e, aI_e, aZ_e]; unfold c218
  have hbd0 := hbd
  refine rsr (gtI_q (w := iI e) (rk_160 hx0.2.1) hsr0.2.2.2.2.1) ?_
  refine rsr (ptI_q (z := 0) (rk_160 hx0.2.1) (li_0)) ?_
  refine rsr (ptZ_q (z := mu) (rk_160 hx0.2.1.sI) (hw0) (by omega)) ?_
  obtain ⟨dp, hdp⟩ : ∃ z : Int, z = 0 := ⟨0, rfl⟩
  have hT1 : PairS D (dp + 1) := by rw [hdp]; exact hSt
  obtain ⟨Mr, hMr⟩ : ∃ Z, Z = sI (sI Mr0 160 50 (iI 0)) 160 48 (iI mu) := ⟨_, rfl⟩
  rw [← hMr]
  have hx : Cx T n m kd pl tx ua ut mu Mc Mr := by rw [hMr]; exact hx0.up hmu
  have hsr : SR Mr kd pl E tx i e s u dp := by rw [hMr, hdp]; exact hsr0.up
  have hrw : RW Mc Mr G U Hl X e s u uc := by rw [hMr]; exact hrw0.up
  have hF0 : Fr W_rp Mr0 Mr := by rw [hMr]; exact Fr.sI (by decide) (Fr.sI (by decide) Fr.r)
  clear hMr
  rw [← hdp] at hbd
  have hCx := hx
  obtain ⟨hC, hR, hTk, hT, hW, ⟨hu1, hu2, hu3, hu4⟩, h49, h48, ⟨hb1, hb2, hb3, hb4⟩⟩ := hx
  obtain ⟨bb_0, bb_1, bb_2, bb_3, bb_4, bb_5, bb_6, bb_7, bb_8, bb_9, bb_10, bb_11⟩ := hbd
  have kua : KU uc Mc Mc := KU.r
  obtain ⟨qa_12, qa_13, qa_10, qa_9, qa_16, qa_19⟩ := hsc
  obtain ⟨wa_36, wa_37, wa_38, wa_41, wa_43, wa_51, wa_53, wa_50, wa_n⟩ := hsr
  obtain ⟨caa, raa, lca, lra, cua, rua⟩ := hrw
  have hk1 := (hS.ok i (by omega) (by omega)).r
  have ty2 := (Tye.r (G := G) (a := e) (s := s))
  have du3 := (DU.r (ut := ut) (mu := mu) (c := uc) (G := G) (U := U) (X := X) (a := e) (u := u))
  have tb4 := (Tyb.r (dp := dp + 1) (G := G) (a := e) (s := s))
  refine rsl (vC_e (ck_65 hC)) ?_
  by_cases c5 : ((kd i)) = 123
  ·
    have hm6 : i + 1 < m := hS.more i (by omega) (by omega) (by omega)
    refine rsl (cV_e (a69q (by omega) hS hC (hTk.fr (WL := W_cp) Fr.r (by decide)) (qa_12) (qa_13) (qa_10) (li_123) (hv0) (i2 := (i + 1)) (by omega) (by omega))) ?_
    have hk7 := (hS.ok (i + 1) (by omega) (by omega)).r
    refine rsl (gtI_q (w := iI s) (ck_65 hC.sI.sI) ((sI_nej (by decide)).trans ((sI_nej (by decide)).trans (qa_16)))) ?_
    refine rsl (jn_v) ?_
    refine rsr (vC_e (rk_160 hR)) ?_
    refine Rs_cVr (P := fun _ Mc2 _ Mr2 => PMX 2470 ut mu m kd pl E tx Mc Mr G U Hl X i e s u uc Mc2 Mr2) ?_ (fun v Mx8 w Nx8 hx8 => ?_)
    ·
      obtain ⟨d2, rfl⟩ : ∃ e, d2 = e + 1 := ⟨d2 - 1, by omega⟩
      rw [r212]; unfold b212; rw [aR_e, aZ_e]; unfold c212
      refine rsr (gtI_q (w := iI 0) (rk_160 hR) (wa_41)) ?_
      refine rsr (jn_v) ?_
      refine rsr (if_pos (eqI_p (rfl) (li_0) (by omega))) ?_
      refine rsr (gtI_q (w := iI ((kr (kd i)))) (rk_160 hR) (wa_36)) ?_
      refine rsr (jn_v) ?_
      refine rsr (if_pos (krI_p (k := 123) (rfl) (li_123) (by omega) (by decide +kernel))) ?_
      refine rsr (jv_e) ?_
      refine rsr (vC_e (rk_160 hR)) ?_
      refine rsr (cI_e (ar193_p (by omega) hS hR (wa_36) (wa_37) (wa_41) (li_1) (by omega))) ?_
      refine rsr (if_neg (eqI_n (rfl) (li_0) (by omega))) ?_
      refine rsr (vC_e (rk_160 hR)) ?_
      refine rsr (cI_e (ar200_p (by omega) hS hR (wa_36) (wa_37) (wa_41) (wa_50) (by omega))) ?_
      refine rsr (if_neg (eqI_n (rfl) (li_0) (by omega))) ?_
      refine rsr (gtI_q (w := iI s) (rk_160 hR.sI) ((sI_nej (by decide)).trans (wa_51))) ?_
      refine rsr (vC_e (rk_160 hR.sI)) ?_
      refine RrV (nx_q (by omega) hS hR.sI (hT.fr (W := W_rx) (Fr.sI (by decide) Fr.r) (by decide) (by decide)) (fun i a b => (Fr.lc (W := W_rx) (Fr.sI (by decide) Fr.r) _ (by decide) _).trans (hW i a b)) (i := i) (i2 := (i + 1)) ((sI_nej (by decide)).trans (wa_41)) ((sI_nej (by decide)).trans (wa_38)) (by omega) (by omega) (by omega)) fun v Ma9 h9 => ?_
      obtain ⟨g9, e9_k0, e9_k1, e9_k2, p9_0⟩ := h9
      have f9 : Fr W_rx Mr Ma9 := Fr.t (Fr.sI (by decide) Fr.r) (Fr.m g9 (by decide))
      refine rsr (cV_e rfl) ?_
      refine rsr (jn_v) ?_
      refine Rb_lp (fun m2 q t => (∃ (k i2 s2 : Int) (H2 : Int → Int64), q.1 = iI k ∧ (0 ≤ k ∧ k ≤ i2) ∧ PS 1 (dp + 1) ut mu m kd pl E tx Mc Mr G U Hl X i e s u uc (dp + 1) q.2 t i2 i2 s2 H2 ∧ (m2 : Int) = m - i2 + 1) ∨ ∃ (k F P : Int), q.1 = iI k ∧ (0 ≤ k ∧ k ≤ 1500) ∧ Fr W_cp Mc q.2 ∧ Fr W_rp Mr t ∧ FTc m F P q.2 ∧ FTr (2500 - 30 * dp - 30) F P t ∧ m2 = 0) (fun m2 q t gl gr hq hgo => ?_) (m - i).toNat _ _ _ _ (by omega) (by omega) (Or.inl ⟨0, (i + 1), s, Hl, li_0, by omega, ⟨e, u, uc, G, U, X, (Fr.sI (by decide) (Fr.sI (by decide) Fr.r)), f9, ⟨(sI_nej (by decide)).trans (sI_eq), sI_eq, (sI_nej (by decide)).trans ((sI_nej (by decide)).trans (qa_10)), (sI_nej (by decide)).trans ((sI_nej (by decide)).trans (qa_9)), (sI_nej (by decide)).trans ((sI_nej (by decide)).trans (qa_16)), (sI_nej (by decide)).trans ((sI_nej (by decide)).trans (qa_19))⟩, ⟨e9_k0, e9_k1, e9_k2, (g9.i _ _ (by decide)).trans ((sI_nej (by decide)).trans (wa_41)), (g9.i _ _ (by decide)).trans ((sI_nej (by decide)).trans (wa_43)), (g9.i _ _ (by decide)).trans ((sI_nej (by decide)).trans (wa_51)), (g9.i _ _ (by decide)).trans ((sI_nej (by decide)).trans (wa_53)), (g9.i _ _ (by decide)).trans (sI_eq), p9_0⟩, ⟨(caa.fr (W := W_c0) (Fr.sI (by decide) (Fr.sI (by decide) Fr.r)) (by decide)), ((raa.fr (W := W_r0) (Fr.sI (by decide) Fr.r) (by decide)).fr g9 (by decide)), (lca.fr (W := W_c0) (Fr.sI (by decide) (Fr.sI (by decide) Fr.r)) (by decide)), ((lra.fr (W := W_r0) (Fr.sI (by decide) Fr.r) (by decide)).fr g9 (by decide)), (cua.fr (W := W_c0) (Fr.sI (by decide) (Fr.sI (by decide) Fr.r)) (by decide)), ((rua.fr (W := W_r0) (Fr.sI (by decide) Fr.r) (by decide)).fr g9 (by decide))⟩, ⟨by omega, by omega, by omega, by omega, by omega, by omega, by omega, by omega, by omega, by omega, by omega, by omega⟩, ⟨by omega, by omega, by omega, by omega, by omega, by omega⟩, Ag.r, Ag.r, AgL.r, tb4, du3, (kua.fr (W := W_c0) (Fr.sI (by decide) (Fr.sI (by decide) Fr.r)) (by decide)), HlR⟩, by omega⟩)
      obtain ⟨qk10, qm10⟩ := q
      dsimp only at hq
      try dsimp only
      rcases hq with hq | hq
      ·
        obtain ⟨k10, i10, s10, H10, hk10, ⟨hka10, hkb10⟩, ⟨e10, u10, uc10, G10, U10, X10, FL10, FR10, sc10, sr10, rw10, bd10, ⟨mv10_0, mv10_1, mv10_2, mv10_3, mv10_4, mv10_5⟩, ag10, au10, ax10, tp10, dp10, ku10, ⟨sl10, sh10⟩⟩, hm10⟩ := hq
        obtain ⟨bb10_0, bb10_1, bb10_2, bb10_3, bb10_4, bb10_5, bb10_6, bb10_7, bb10_8, bb10_9, bb10_10, bb10_11⟩ := bd10
        obtain ⟨q10_12, q10_13, q10_10, q10_9, q10_16, q10_19⟩ := sc10
        obtain ⟨w10_36, w10_37, w10_38, w10_41, w10_43, w10_51, w10_53, w10_50, w10_n⟩ := sr10
        obtain ⟨ca10, ra10, lc10, lr10, cu10, ru10⟩ := rw10
        have hk11 := (hS.ok i10 (by omega) (by omega)).r
        unfold c89_14 c212_45
        refine rsl (if_neg (leI_n (li_3000) (hk10) (by omega))) ?_
        refine rsl (gtI_q (w := iI ((kd i10))) (ck_65 (hC.fr FL10)) (q10_13)) ?_
        by_cases c12 : ((kd i10)) = 125
        · refine rsl (if_pos (eqI_p (rfl) (li_125) (by omega))) ?_
          refine rsl (jv_e) ?_
          refine rsl (jn_v) ?_
          refine rsl (if_pos (eqI_p (hv0) (li_0) (by omega))) ?_
          refine rsl (vC_e (ck_65 (hC.fr FL10))) ?_
          have caX13 := ca10
          by_cases c513 : (e10 + 2) - e ≤ 200
          ·
            by_cases c613 : (e10 + 2) ≤ 1000
            ·
              refine RlV (a88_p (ut := ut) (mu := mu) (by omega) hS (hC.fr FL10) (hTk.fr (WL := W_cp) FL10 (by decide)) (q10_12) (q10_13) (q10_10) (q10_9) ((ku10).1.trans h14) caX13 (by omega)) fun v Ma14 h14 => ?_
              obtain ⟨g14, e14_k0, p14_0⟩ := h14
              have f14 : Fr W_cp Mc Ma14 := Fr.t FL10 (Fr.m g14 (by decide))
              refine rsl (cV_e rfl) ?_
              refine rsl (jv_e) ?_
              refine rsl (vC_e (ck_65 (hC.fr f14))) ?_
              have hm15 : i10 + 1 < m := hS.more i10 (by omega) (by omega) (by omega)
              refine rsl (cV_e (a64q (by omega) hS (hC.fr f14) (hTk.fr (WL := W_cp) f14 (by decide)) ((g14.i _ _ (by decide)).trans (q10_12)) ((g14.i _ _ (by decide)).trans (q10_13)) ((g14.i _ _ (by decide)).trans (q10_10)) (li_125) (i2 := (i10 + 1)) (by omega) (by omega))) ?_
              have hk16 := (hS.ok (i10 + 1) (by omega) (by omega)).r
              refine rsl (ptI_q (z := s) (ck_65 (hC.fr f14).sI.sI) (rfl)) ?_
              refine rsr (gtI_q (w := iI 0) (rk_160 (hR.fr FR10)) (w10_41)) ?_
              refine rsr (if_pos (eqI_p (rfl) (li_0) (by omega))) ?_
              refine rsr (gtI_q (w := iI ((kr (kd i10)))) (rk_160 (hR.fr FR10)) (w10_36)) ?_
              refine rsr (if_pos (krI_p (k := 125) (rfl) (li_125) (by omega) (by decide +kernel))) ?_
              refine rsr (jv_e) ?_
              refine rsr (gtI_q (w := iI (dp + 1)) (rk_160 (hR.fr FR10)) (w10_50)) ?_
              refine rsr (ptI_q (z := dp) (rk_160 (hR.fr FR10)) (cvI (sbI (rfl) (li_1)) (by omega))) ?_
              refine rsr (ptI_q (z := s) (rk_160 (hR.fr FR10).sI) (rfl)) ?_
              exact Rs.ok (Or.inl ⟨i10, e10, u10, uc10, G10, U10, X10, by omega, (Fr.sI (by decide) (Fr.sI (by decide) (Fr.sI (by decide) f14))), (Fr.sI (by decide) (Fr.sI (by decide) FR10)), ⟨(sI_nej (by decide)).trans ((sI_nej (by decide)).trans (sI_eq)), (sI_nej (by decide)).trans (sI_eq), (sI_nej (by decide)).trans ((sI_nej (by decide)).trans ((sI_nej (by decide)).trans ((g14.i _ _ (by decide)).trans (q10_10)))), (sI_nej (by decide)).trans ((sI_nej (by decide)).trans ((sI_nej (by decide)).trans (e14_k0))), sI_eq, (sI_nej (by decide)).trans ((sI_nej (by decide)).trans ((sI_nej (by decide)).trans ((g14.i _ _ (by decide)).trans (q10_19))))⟩, ⟨(sI_nej (by decide)).trans ((sI_nej (by decide)).trans (w10_36)), (sI_nej (by decide)).trans ((sI_nej (by decide)).trans (w10_37)), (sI_nej (by decide)).trans ((sI_nej (by decide)).trans (w10_38)), (sI_nej (by decide)).trans ((sI_nej (by decide)).trans (w10_41)), (sI_nej (by decide)).trans ((sI_nej (by decide)).trans (w10_43)), sI_eq, (sI_nej (by decide)).trans ((sI_nej (by decide)).trans (w10_53)), (cvI ((sI_nej (by decide)).trans (sI_eq)) (by omega)), (w10_n.fr (W := W_r0) (Fr.sI (by decide) (Fr.sI (by decide) Fr.r)) (by decide) (by decide))⟩, ⟨(p14_0.fr (W := W_c0) (Fr.sI (by decide) (Fr.sI (by decide) (Fr.sI (by decide) Fr.r))) (by decide)), (ra10.fr (W := W_r0) (Fr.sI (by decide) (Fr.sI (by decide) Fr.r)) (by decide)), ((LA.bk (lc10.fr g14 (by decide)) (by omega) sh10).fr (W := W_c0) (Fr.sI (by decide) (Fr.sI (by decide) (Fr.sI (by decide) Fr.r))) (by decide)), ((LA.bk lr10 (by omega) sh10).fr (W := W_r0) (Fr.sI (by decide) (Fr.sI (by decide) Fr.r)) (by decide)), ((cu10.fr g14 (by decide)).fr (W := W_c0) (Fr.sI (by decide) (Fr.sI (by decide) (Fr.sI (by decide) Fr.r))) (by decide)), (ru10.fr (W := W_r0) (Fr.sI (by decide) (Fr.sI (by decide) Fr.r)) (by decide))⟩, ⟨by omega, by omega, by omega, by omega, by omega, by omega, by omega, by omega, by omega, by omega, by omega, by omega⟩, ⟨by omega, by omega, by omega, by omega, by omega, by omega⟩, ag10, au10, ax10, Tyb.lo tp10 (by omega) (by omega), dp10, ((ku10.fr g14 (by decide)).fr (W := W_c0) (Fr.sI (by decide) (Fr.sI (by decide) (Fr.sI (by decide) Fr.r))) (by decide)), ⟨by omega, by omega⟩⟩)
            ·
              refine RlV (a88_6 (ut := ut) (mu := mu) (by omega) hS (hC.fr FL10) (hTk.fr (WL := W_cp) FL10 (by decide)) (q10_12) (q10_13) (q10_10) (q10_9) ((ku10).1.trans h14) caX13 (by omega)) fun v Ma17 h17 => ?_
              obtain ⟨g17, e17_k0, e17_k1, e17_k2, e17_k3⟩ := h17
              have f17 : Fr W_cp Mc Ma17 := Fr.t FL10 (Fr.m g17 (by decide))
              refine rsl (cV_e rfl) ?_
              refine rsl (jv_e) ?_
              refine rsl (vC_e (ck_65 (hC.fr f17))) ?_
              refine RlV (y64 (by omega) (hC.fr f17) (hTk.fr (WL := W_cp) f17 (by decide)) ((g17.i _ _ (by decide)).trans (q10_12)) (e17_k3) (e17_k1) (e17_k2) (e17_k0) ((g17.i _ _ (by decide)).trans (q10_16)) ((g17.i _ _ (by decide)).trans (q10_19)) (li_125) (by omega)) fun v Ma19 h19 => ?_
              obtain ⟨sz18, sn18, uc18, g19, e19_sz18, e19_sn18, e19_uc18, e19_k0, e19_k1, e19_k2, e19_k3, p19_0, p19_1, p19_2⟩ := h19
              have f19 : Fr W_cp Mc Ma19 := Fr.t f17 (Fr.m g19 (by decide))
              refine rsl (cV_e rfl) ?_
              refine rsl (ptI_q (z := s) (ck_65 (hC.fr f19)) (rfl)) ?_
              refine rsr (gtI_q (w := iI 0) (rk_160 (hR.fr FR10)) (w10_41)) ?_
              refine rsr (if_pos (eqI_p (rfl) (li_0) (by omega))) ?_
              refine rsr (gtI_q (w := iI ((kr (kd i10)))) (rk_160 (hR.fr FR10)) (w10_36)) ?_
              refine rsr (if_pos (krI_p (k := 125) (rfl) (li_125) (by omega) (by decide +kernel))) ?_
              refine rsr (jv_e) ?_
              refine rsr (gtI_q (w := iI (dp + 1)) (rk_160 (hR.fr FR10)) (w10_50)) ?_
              refine rsr (ptI_q (z := dp) (rk_160 (hR.fr FR10)) (cvI (sbI (rfl) (li_1)) (by omega))) ?_
              refine rsr (ptI_q (z := s) (rk_160 (hR.fr FR10).sI) (rfl)) ?_
              exact Rs.ok (Or.inr (Or.inl ⟨i10, e10, u10, by omega, (Fr.sI (by decide) f19), (Fr.sI (by decide) (Fr.sI (by decide) FR10)), ⟨i10, sz18, s, uc18, (sI_nej (by decide)).trans (e19_k0), (sI_nej (by decide)).trans (e19_k1), (sI_nej (by decide)).trans (e19_k2), (sI_nej (by decide)).trans (e19_k3), (sI_nej (by decide)).trans (e19_sz18), sI_eq, (sI_nej (by decide)).trans (e19_uc18), by omega⟩, ⟨(sI_nej (by decide)).trans ((sI_nej (by decide)).trans (w10_36)), (sI_nej (by decide)).trans ((sI_nej (by decide)).trans (w10_37)), (sI_nej (by decide)).trans ((sI_nej (by decide)).trans (w10_38)), (sI_nej (by decide)).trans ((sI_nej (by decide)).trans (w10_41)), (sI_nej (by decide)).trans ((sI_nej (by decide)).trans (w10_43)), sI_eq, (sI_nej (by decide)).trans ((sI_nej (by decide)).trans (w10_53)), (cvI ((sI_nej (by decide)).trans (sI_eq)) (by omega)), (w10_n.fr (W := W_r0) (Fr.sI (by decide) (Fr.sI (by decide) Fr.r)) (by decide) (by decide))⟩, ⟨by omega, by omega, by omega, by omega, by omega, by omega⟩, (Or.inr ⟨c513, by omega⟩)⟩))
          ·
            refine RlV (a88_6 (ut := ut) (mu := mu) (by omega) hS (hC.fr FL10) (hTk.fr (WL := W_cp) FL10 (by decide)) (q10_12) (q10_13) (q10_10) (q10_9) ((ku10).1.trans h14) caX13 (by omega)) fun v Ma20 h20 => ?_
            obtain ⟨g20, e20_k0, e20_k1, e20_k2, e20_k3⟩ := h20
            have f20 : Fr W_cp Mc Ma20 := Fr.t FL10 (Fr.m g20 (by decide))
            refine rsl (cV_e rfl) ?_
            refine rsl (jv_e) ?_
            refine rsl (vC_e (ck_65 (hC.fr f20))) ?_
            refine RlV (y64 (by omega) (hC.fr f20) (hTk.fr (WL := W_cp) f20 (by decide)) ((g20.i _ _ (by decide)).trans (q10_12)) (e20_k3) (e20_k1) (e20_k2) (e20_k0) ((g20.i _ _ (by decide)).trans (q10_16)) ((g20.i _ _ (by decide)).trans (q10_19)) (li_125) (by omega)) fun v Ma22 h22 => ?_
            obtain ⟨sz21, sn21, uc21, g22, e22_sz21, e22_sn21, e22_uc21, e22_k0, e22_k1, e22_k2, e22_k3, p22_0, p22_1, p22_2⟩ := h22
            have f22 : Fr W_cp Mc Ma22 := Fr.t f20 (Fr.m g22 (by decide))
            refine rsl (cV_e rfl) ?_
            refine rsl (ptI_q (z := s) (ck_65 (hC.fr f22)) (rfl)) ?_
            refine rsr (gtI_q (w := iI 0) (rk_160 (hR.fr FR10)) (w10_41)) ?_
            refine rsr (if_pos (eqI_p (rfl) (li_0) (by omega))) ?_
            refine rsr (gtI_q (w := iI ((kr (kd i10)))) (rk_160 (hR.fr FR10)) (w10_36)) ?_
            refine rsr (if_pos (krI_p (k := 125) (rfl) (li_125) (by omega) (by decide +kernel))) ?_
            refine rsr (jv_e) ?_
            refine rsr (gtI_q (w := iI (dp + 1)) (rk_160 (hR.fr FR10)) (w10_50)) ?_
            refine rsr (ptI_q (z := dp) (rk_160 (hR.fr FR10)) (cvI (sbI (rfl) (li_1)) (by omega))) ?_
            refine rsr (ptI_q (z := s) (rk_160 (hR.fr FR10).sI) (rfl)) ?_
            exact Rs.ok (Or.inr (Or.inl ⟨i10, e10, u10, by omega, (Fr.sI (by decide) f22), (Fr.sI (by decide) (Fr.sI (by decide) FR10)), ⟨i10, sz21, s, uc21, (sI_nej (by decide)).trans (e22_k0), (sI_nej (by decide)).trans (e22_k1), (sI_nej (by decide)).trans (e22_k2), (sI_nej (by decide)).trans (e22_k3), (sI_nej (by decide)).trans (e22_sz21), sI_eq, (sI_nej (by decide)).trans (e22_uc21), by omega⟩, ⟨(sI_nej (by decide)).trans ((sI_nej (by decide)).trans (w10_36)), (sI_nej (by decide)).trans ((sI_nej (by decide)).trans (w10_37)), (sI_nej (by decide)).trans ((sI_nej (by decide)).trans (w10_38)), (sI_nej (by decide)).trans ((sI_nej (by decide)).trans (w10_41)), (sI_nej (by decide)).trans ((sI_nej (by decide)).trans (w10_43)), sI_eq, (sI_nej (by decide)).trans ((sI_nej (by decide)).trans (w10_53)), (cvI ((sI_nej (by decide)).trans (sI_eq)) (by omega)), (w10_n.fr (W := W_r0) (Fr.sI (by decide) (Fr.sI (by decide) Fr.r)) (by decide) (by decide))⟩, ⟨by omega, by omega, by omega, by omega, by omega, by omega⟩, (Or.inl (by omega))⟩))
        · refine rsl (if_neg (eqI_n (rfl) (li_125) (by omega))) ?_
          refine rsl (gtI_q (w := iI ((kd i10))) (ck_65 (hC.fr FL10)) (q10_13)) ?_
          refine rsl (if_neg (eqI_n (rfl) (li_2) (by omega))) ?_
          refine rsl (vC_e (ck_65 (hC.fr FL10))) ?_
          refine rsr (gtI_q (w := iI 0) (rk_160 (hR.fr FR10)) (w10_41)) ?_
          refine rsr (if_pos (eqI_p (rfl) (li_0) (by omega))) ?_
          refine rsr (gtI_q (w := iI ((kr (kd i10)))) (rk_160 (hR.fr FR10)) (w10_36)) ?_
          refine rsr (if_neg (krI_n (k := 125) (rfl) (li_125) (hS.ok i10 (by omega) (by omega)) (by unfold KdOK sgk; omega) (by decide +kernel) (by omega) (by omega))) ?_
          refine rsr (vC_e (rk_160 (hR.fr FR10))) ?_
          refine Rb_VV (hT1 _ _ (by omega) (by omega) T n m kd pl E tx ua ut mu _ _ G10 U10 H10 X10 i10 e10 s10 u10 uc10 _ hS (hCx.fr FL10 FR10) ⟨q10_12, q10_13, q10_10, q10_9, q10_16, q10_19⟩ ⟨w10_36, w10_37, w10_38, w10_41, w10_43, w10_51, w10_53, w10_50, w10_n⟩ ⟨ca10, ra10, lc10, lr10, cu10, ru10⟩ ⟨by omega, by omega, by omega, by omega, by omega, by omega, by omega, by omega, by omega, by omega, by omega, by omega⟩ (cvI (adI (hv0) (li_1)) (by omega))) fun v Mx23 w Nx23 hx23 => ?_
          rcases hx23 with ⟨i23, s23, H23, e23, u23, uc23, G23, U23, X23, fl23, fr23, sc23, sr23, rw23, bd23, mv23, ag23, au23, ax23, tp23, dp23, kv23, ⟨sl23, sh23⟩⟩ | ⟨F23, P23, fl23, fr23, tc23, tr23⟩
          ·
            have FL23 : Fr W_cp Mc Mx23 := Fr.t FL10 fl23
            have FR23 : Fr W_rx Mr Nx23 := Fr.t FR10 fr23
            obtain ⟨bb23_0, bb23_1, bb23_2, bb23_3, bb23_4, bb23_5, bb23_6, bb23_7, bb23_8, bb23_9, bb23_10, bb23_11⟩ := bd23
            obtain ⟨q23_12, q23_13, q23_10, q23_9, q23_16, q23_19⟩ := sc23
            obtain ⟨w23_36, w23_37, w23_38, w23_41, w23_43, w23_51, w23_53, w23_50, w23_n⟩ := sr23
            obtain ⟨ca23, ra23, lc23, lr23, cu23, ru23⟩ := rw23
            have hk24 := (hS.ok i23 (by omega) (by omega)).r
            have ku23 := KU.t ku10 kv23 (by omega)
            have du25 := DU.t dp10 ag23 au23 ax23 dp23 (by omega)
            have tb26 := Tyb.t tp10 ag23 tp23
            have hl27 := HlT ⟨sl10, sh10⟩ sl23 sh23
            refine rsl (cV_e rfl) ?_
            refine rsr (cV_e rfl) ?_
            refine rsl (ltI_q (z := (k10 + 1)) (adI (hk10) (li_1))) ?_
            exact hgo (m - i23 + 1).toNat _ _ (by omega) (Or.inl ⟨(k10 + 1), i23, s23, H23, rfl, by omega, ⟨e23, u23, uc23, G23, U23, X23, FL23, FR23, ⟨q23_12, q23_13, q23_10, q23_9, q23_16, q23_19⟩, ⟨w23_36, w23_37, w23_38, w23_41, w23_43, w23_51, w23_53, w23_50, w23_n⟩, ⟨ca23, ra23, lc23, lr23, cu23, ru23⟩, ⟨by omega, by omega, by omega, by omega, by omega, by omega, by omega, by omega, by omega, by omega, by omega, by omega⟩, ⟨by omega, by omega, by omega, by omega, by omega, by omega⟩, (Ag.t ag10 ag23 (by omega)), (Ag.t au10 au23 (by omega)), (AgL.t ax10 ax23 (by omega)), tb26, du25, ku23, hl27⟩, by omega⟩)
          ·
            have FL23 : Fr W_cp Mc Mx23 := Fr.t FL10 fl23
            have FR23 : Fr W_rp Mr Nx23 := Fr.t (Fr.m FR10 W_rx_p) fr23
            obtain ⟨ti23, tz23, tn23, tu23, t1323, t1023, t1123, t1223, t923, t1623, t1923, tb23⟩ := tc23
            obtain ⟨re23, rn23, ru23, rm23, rt23, u4123, u4223, u4323, u5123, u5323, u4823, u4923, ub23⟩ := tr23
            refine rsl (cV_e rfl) ?_
            refine rsr (cV_e rfl) ?_
            refine rsl (ltI_q (z := (k10 + 1)) (adI (hk10) (li_1))) ?_
            exact hgo 0 _ _ (by omega) (Or.inr ⟨(k10 + 1), F23, P23, rfl, by omega, FL23, FR23, ⟨ti23, tz23, tn23, tu23, t1323, t1023, t1123, t1223, t923, t1623, t1923, by omega⟩, ⟨re23, rn23, ru23, rm23, rt23, u4123, u4223, u4323, u5123, u5323, u4823, u4923, by omega⟩, rfl⟩)
      ·
        obtain ⟨k10, F10, P10, hk10, ⟨hka10, hkb10⟩, FL10, FR10, tc10, tr10, hm10⟩ := hq
        obtain ⟨ti10, tz10, tn10, tu10, t1310, t1010, t1110, t1210, t910, t1610, t1910, tb10⟩ := tc10
        obtain ⟨re10, rn10, ru10, rm10, rt10, u4110, u4210, u4310, u5110, u5310, u4810, u4910, ub10⟩ := tr10
        unfold c89_14 c212_45
        refine rsl (if_neg (leI_n (li_3000) (hk10) (by omega))) ?_
        refine rsl (gtI_q (w := iI 2) (ck_65 (hC.fr FL10)) (t1310)) ?_
        refine rsl (if_neg (eqI_n (rfl) (li_125) (by omega))) ?_
        refine rsl (gtI_q (w := iI 2) (ck_65 (hC.fr FL10)) (t1310)) ?_
        refine rsl (if_pos (eqI_p (rfl) (li_2) (by omega))) ?_
        refine rsl (jv_e) ?_
        refine rsl (jn_v) ?_
        refine rsl (if_pos (eqI_p (hv0) (li_0) (by omega))) ?_
        refine rsl (vC_e (ck_65 (hC.fr FL10))) ?_
        refine RlV (y88 (by omega) (hC.fr FL10) (hTk.fr (WL := W_cp) FL10 (by decide)) (t1210) (t1310) (t1010) (t1110) (t910) (t1610) (t1910)  (by omega)) fun v Ma29 h29 => ?_
        obtain ⟨sz28, sn28, uc28, g29, e29_sz28, e29_sn28, e29_uc28, e29_k0, e29_k1, e29_k2, e29_k3, p29_0, p29_1, p29_2⟩ := h29
        have f29 : Fr W_cp Mc Ma29 := Fr.t FL10 (Fr.m g29 (by decide))
        refine rsl (cV_e rfl) ?_
        refine rsl (jv_e) ?_
        refine rsl (vC_e (ck_65 (hC.fr f29))) ?_
        refine RlV (y64 (by omega) (hC.fr f29) (hTk.fr (WL := W_cp) f29 (by decide)) (e29_k3) (e29_k0) (e29_k1) (e29_k2) (e29_sz28) (e29_sn28) (e29_uc28) (li_125) (by omega)) fun v Ma31 h31 => ?_
        obtain ⟨sz30, sn30, uc30, g31, e31_sz30, e31_sn30, e31_uc30, e31_k0, e31_k1, e31_k2, e31_k3, p31_0, p31_1, p31_2⟩ := h31
        have f31 : Fr W_cp Mc Ma31 := Fr.t f29 (Fr.m g31 (by decide))
        refine rsl (cV_e rfl) ?_
        refine rsl (ptI_q (z := s) (ck_65 (hC.fr f31)) (rfl)) ?_
        refine rsr (gtI_q (w := iI F10) (rk_160 (hR.fr FR10)) (u4110)) ?_
        refine rsr (if_neg (eqI_n (rfl) (li_0) (by omega))) ?_
        refine rsr (jv_e) ?_
        have b32 := V_r (M := t) (a := 160) (j := 50)
        refine rsr (gtI_q (w := iI ((V t 160 50))) (rk_160 (hR.fr FR10)) (eV)) ?_
        refine rsr (ptI_q (z := ((V t 160 50) - 1)) (rk_160 (hR.fr FR10)) (cvI (sbI (rfl) (li_1)) (by omega))) ?_
        refine rsr (ptI_q (z := s) (rk_160 (hR.fr FR10).sI) (rfl)) ?_
        exact Rs.ok (Or.inr (Or.inr ⟨F10, P10, (Fr.sI (by decide) f31), (Fr.sI (by decide) (Fr.sI (by decide) FR10)), ⟨ti10, sz30, s, uc30, (sI_nej (by decide)).trans (e31_k0), (sI_nej (by decide)).trans (e31_k1), (sI_nej (by decide)).trans (e31_k2), (sI_nej (by decide)).trans (e31_k3), (sI_nej (by decide)).trans (e31_sz30), sI_eq, (sI_nej (by decide)).trans (e31_uc30), by omega⟩, ⟨re10, s, ru10, rm10, rt10, (sI_nej (by decide)).trans ((sI_nej (by decide)).trans (u4110)), (sI_nej (by decide)).trans ((sI_nej (by decide)).trans (u4210)), (sI_nej (by decide)).trans ((sI_nej (by decide)).trans (u4310)), sI_eq, (sI_nej (by decide)).trans ((sI_nej (by decide)).trans (u5310)), (sI_nej (by decide)).trans ((sI_nej (by decide)).trans (u4810)), (sI_nej (by decide)).trans ((sI_nej (by decide)).trans (u4910)), by omega⟩⟩))
    ·
      rcases hx8 with ⟨i8, e8, u8, uc8, G8, U8, X8, k58, FL8, FR8, sc8, sr8, rw8, bd8, ⟨mv8_0, mv8_1, mv8_2, mv8_3, mv8_4, mv8_5⟩, ag8, au8, ax8, tp8, dp8, ku8, ⟨z18, z28⟩⟩ | ⟨i8, e8, u8, k58, FL8, FR8, tc8, sr8, ⟨mv8_0, mv8_1, mv8_2, mv8_3, mv8_4, mv8_5⟩, why8⟩ | ⟨F8, P8, FL8, FR8, tc8, tr8⟩
      ·
        obtain ⟨bb8_0, bb8_1, bb8_2, bb8_3, bb8_4, bb8_5, bb8_6, bb8_7, bb8_8, bb8_9, bb8_10, bb8_11⟩ := bd8
        obtain ⟨q8_12, q8_13, q8_10, q8_9, q8_16, q8_19⟩ := sc8
        obtain ⟨w8_36, w8_37, w8_38, w8_41, w8_43, w8_51, w8_53, w8_50, w8_n⟩ := sr8
        obtain ⟨ca8, ra8, lc8, lr8, cu8, ru8⟩ := rw8
        have hk33 := (hS.ok (i8 + 1) (by omega) (by omega)).r
        have hk34 := (hS.ok i8 (by omega) (by omega)).r
        have tb35 := (by rw [show (e8 + 2) - 2 = e8 by omega]; exact Tyb.ag tp8 (fun k t p z => (pu_n (by omega)).trans (pu_n (by omega))) : Tyb 0 (pu (pu G8 e8 [0, 0, -2, 0, ut, mu, 0]) (e8 + 1) [8, 0, -2, 0, ut, mu, 0]) e ((e8 + 2) - 2) s s)
        have du36 := DU.em (q := (e8 + 1)) (o := 0) (n := 0) (p := -2) (l := [0]) dp8 (by omega) (by omega)
        have du37 := DU.em (q := (e8 + 2)) (o := 8) (n := 0) (p := -2) (l := [0]) du36 (by omega) (by omega)
        refine rs1 (vC_e (rk_160 (hR.fr FR8))) ?_
        refine Rc_I (a196q (by omega) (hR.fr FR8) (w8_43) ((FR8.i _ _ (by decide)).trans h49) ((FR8.i _ _ (by decide)).trans h48) (li_0) (li_0) (q := (e8 + 1)) (by omega) (by omega)) fun v Ma39 h39 => ?_
        obtain ⟨r38, rfl, g39, e39_k0, p39_0, p39_1⟩ := h39
        have f39 : Fr W_rx Mr Ma39 := Fr.t FR8 (Fr.m g39 (by decide))
        refine rs1 (cI_e rfl) ?_
        refine rs1 (vC_e (rk_160 (hR.fr f39))) ?_
        refine Rc_I (a196q (by omega) (hR.fr f39) (e39_k0) ((g39.i _ _ (by decide)).trans ((FR8.i _ _ (by decide)).trans h49)) ((g39.i _ _ (by decide)).trans ((FR8.i _ _ (by decide)).trans h48)) (li_8) (li_0) (q := (e8 + 2)) (by omega) (by omega)) fun v Ma41 h41 => ?_
        obtain ⟨r40, rfl, g41, e41_k0, p41_0, p41_1⟩ := h41
        have f41 : Fr W_rx Mr Ma41 := Fr.t f39 (Fr.m g41 (by decide))
        refine rs1 (cI_e rfl) ?_
        refine rs1 (gtI_q (w := iI 0) (rk_160 (hR.fr f41)) ((g41.i _ _ (by decide)).trans ((g39.i _ _ (by decide)).trans (w8_41)))) ?_
        refine rs1 (jn_v) ?_
        refine rs1 (if_pos (eqI_p (rfl) (li_0) (by omega))) ?_
        refine rs1 (gtI_q (w := iI (e8 + 2)) (rk_160 (hR.fr f41)) (e41_k0)) ?_
        refine rs1 (jn_v) ?_
        refine rs1 (jn_v) ?_
        refine rs1 (if_neg (lsI_n (li_200) (sbI (rfl) (rfl)) (by omega))) ?_
        refine rs1 (gtI_q (w := iI (e8 + 2)) (rk_160 (hR.fr f41)) (e41_k0)) ?_
        refine rs1 (if_neg (lsI_n (li_1000) (rfl) (by omega))) ?_
        refine rs1 (jv_e) ?_
        refine rs1 (vC_e (rk_160 (hR.fr f41))) ?_
        refine rs1 (cI_e (ar194_p (by omega) hS (hR.fr f41) ((g41.i _ _ (by decide)).trans ((g39.i _ _ (by decide)).trans (w8_36))) ((g41.i _ _ (by decide)).trans ((g39.i _ _ (by decide)).trans (w8_37))) ((g41.i _ _ (by decide)).trans ((g39.i _ _ (by decide)).trans (w8_41))) (li_1) (li_6) (by omega))) ?_
        refine rs1 (jv_e) ?_
        refine rs1 (vC_e (rk_160 (hR.fr f41))) ?_
        have hm42 : i8 + 1 < m := hS.more i8 (by omega) (by omega) (by omega)
        refine Rc_V (nx_q (by omega) hS (hR.fr f41) (hT.fr (W := W_rx) f41 (by decide) (by decide)) (fun i a b => (Fr.lc (W := W_rx) f41 _ (by decide) _).trans (hW i a b)) (i := i8) (i2 := (i8 + 1)) ((g41.i _ _ (by decide)).trans ((g39.i _ _ (by decide)).trans (w8_41))) ((g41.i _ _ (by decide)).trans ((g39.i _ _ (by decide)).trans (w8_38))) (by omega) (by omega) (by omega)) fun v Ma43 h43 => ?_
        obtain ⟨g43, e43_k0, e43_k1, e43_k2, p43_0⟩ := h43
        have f43 : Fr W_rx Mr Ma43 := Fr.t f41 (Fr.m g43 (by decide))
        refine rs1 (cV_e rfl) ?_
        exact Rt.ok ⟨rfl, Or.inl ⟨(i8 + 1), (e8 + 2), u8, uc8, (pu (pu G8 e8 [0, 0, -2, 0, ut, mu, 0]) (e8 + 1) [8, 0, -2, 0, ut, mu, 0]), U8, X8, FL8, (Fr.t hF0 (Fr.m f43 W_rx_p)), ⟨q8_12, q8_13, q8_10, q8_9, q8_16, q8_19⟩, ⟨e43_k0, e43_k1, e43_k2, (g43.i _ _ (by decide)).trans ((g41.i _ _ (by decide)).trans ((g39.i _ _ (by decide)).trans (w8_41))), (g43.i _ _ (by decide)).trans (e41_k0), (g43.i _ _ (by decide)).trans ((g41.i _ _ (by decide)).trans ((g39.i _ _ (by decide)).trans (w8_51))), (g43.i _ _ (by decide)).trans ((g41.i _ _ (by decide)).trans ((g39.i _ _ (by decide)).trans (w8_53))), (g43.i _ _ (by decide)).trans ((g41.i _ _ (by decide)).trans ((g39.i _ _ (by decide)).trans (w8_50))), p43_0⟩, ⟨ca8, ((RA1.em (q := (e8 + 2)) (RA1.em (q := (e8 + 1)) ra8 (by omega) p39_1 (by omega)) (by omega) p41_1 (by omega)).fr g43 (by decide)), lc8, (((lr8.fr g39 (by decide)).fr g41 (by decide)).fr g43 (by decide)), cu8, (((ru8.fr g39 (by decide)).fr g41 (by decide)).fr g43 (by decide))⟩, ⟨by omega, by omega, by omega, by omega, by omega, by omega, by omega, by omega, by omega, by omega, by omega, by omega⟩, ⟨by omega, by omega, by omega, by omega, by omega, by omega⟩, (Ag.pu (Ag.pu ag8 (by omega)) (by omega)), au8, ax8, tb35, du37, ku8, ⟨by omega, by omega, by omega, pu_e (by omega), pu_e (by omega), (pu_n (by omega)).trans (pu_e (by omega)), (pu_n (by omega)).trans (pu_e (by omega)), (pu_n (by omega)).trans (pu_e (by omega)), pu_e (by omega), (f43.i _ _ (by decide)).trans h48⟩⟩⟩
      ·
        obtain ⟨ti8, tz8, tn8, tu8, t138, t108, t118, t128, t98, t168, t198, tb8⟩ := tc8
        obtain ⟨w8_36, w8_37, w8_38, w8_41, w8_43, w8_51, w8_53, w8_50, w8_n⟩ := sr8
        have hk44 := (hS.ok i8 (by omega) (by omega)).r
        rcases why8 with why8 | why8
        ·
          refine rs1 (vC_e (rk_160 (hR.fr FR8))) ?_
          refine Rc_I (a196q (by omega) (hR.fr FR8) (w8_43) ((FR8.i _ _ (by decide)).trans h49) ((FR8.i _ _ (by decide)).trans h48) (li_0) (li_0) (q := (e8 + 1)) (by omega) (by omega)) fun v Ma46 h46 => ?_
          obtain ⟨r45, rfl, g46, e46_k0, p46_0, p46_1⟩ := h46
          have f46 : Fr W_rx Mr Ma46 := Fr.t FR8 (Fr.m g46 (by decide))
          refine rs1 (cI_e rfl) ?_
          refine rs1 (vC_e (rk_160 (hR.fr f46))) ?_
          refine Rc_I (a196q (by omega) (hR.fr f46) (e46_k0) ((g46.i _ _ (by decide)).trans ((FR8.i _ _ (by decide)).trans h49)) ((g46.i _ _ (by decide)).trans ((FR8.i _ _ (by decide)).trans h48)) (li_8) (li_0) (q := (e8 + 2)) (by omega) (by omega)) fun v Ma48 h48 => ?_
          obtain ⟨r47, rfl, g48, e48_k0, p48_0, p48_1⟩ := h48
          have f48 : Fr W_rx Mr Ma48 := Fr.t f46 (Fr.m g48 (by decide))
          refine rs1 (cI_e rfl) ?_
          refine rs1 (gtI_q (w := iI 0) (rk_160 (hR.fr f48)) ((g48.i _ _ (by decide)).trans ((g46.i _ _ (by decide)).trans (w8_41)))) ?_
          refine rs1 (jn_v) ?_
          refine rs1 (if_pos (eqI_p (rfl) (li_0) (by omega))) ?_
          refine rs1 (gtI_q (w := iI (e8 + 2)) (rk_160 (hR.fr f48)) (e48_k0)) ?_
          refine rs1 (jn_v) ?_
          refine rs1 (jn_v) ?_
          refine rs1 (if_pos (lsI_p (li_200) (sbI (rfl) (rfl)) (by omega))) ?_
          refine rs1 (jv_e) ?_
          refine rs1 (jv_e) ?_
          refine rs1 (vC_e (rk_160 (hR.fr f48))) ?_
          refine rs1 (cI_e (ar194_f (by omega) hS (hR.fr f48) ((g48.i _ _ (by decide)).trans ((g46.i _ _ (by decide)).trans (w8_36))) ((g48.i _ _ (by decide)).trans ((g46.i _ _ (by decide)).trans (w8_37))) ((g48.i _ _ (by decide)).trans ((g46.i _ _ (by decide)).trans (w8_41))) (li_0) (li_6) (by omega))) ?_
          refine rs1 (jv_e) ?_
          refine rs1 (vC_e (rk_160 (hR.fr f48).sI.sI)) ?_
          refine Rc_V (x191_s (by omega) (hR.fr f48).sI.sI ((sI_nej (by decide)).trans (sI_eq)) (sI_eq) ((sI_nej (by decide)).trans ((sI_nej (by decide)).trans (e48_k0))) ((sI_nej (by decide)).trans ((sI_nej (by decide)).trans ((g48.i _ _ (by decide)).trans ((g46.i _ _ (by decide)).trans (w8_51))))) ((sI_nej (by decide)).trans ((sI_nej (by decide)).trans ((g48.i _ _ (by decide)).trans ((g46.i _ _ (by decide)).trans (w8_53))))) ((sI_nej (by decide)).trans ((sI_nej (by decide)).trans ((g48.i _ _ (by decide)).trans ((g46.i _ _ (by decide)).trans ((FR8.i _ _ (by decide)).trans h48))))) ((sI_nej (by decide)).trans ((sI_nej (by decide)).trans ((g48.i _ _ (by decide)).trans ((g46.i _ _ (by decide)).trans ((FR8.i _ _ (by decide)).trans h49)))))  (by omega)) fun v Ma50 h50 => ?_
          obtain ⟨em49, g50, e50_em49, e50_k0, e50_k1, e50_k2, e50_k3, e50_k4, p50_0⟩ := h50
          have f50 : Fr W_rp Mr Ma50 := Fr.t (Fr.sI (by decide) (Fr.sI (by decide) (Fr.m f48 (by decide)))) (Fr.m g50 (by decide))
          refine rs1 (cV_e rfl) ?_
          exact Rt.ok ⟨rfl, Or.inr ⟨6, ((pl i8)), FL8, (Fr.t hF0 f50), ⟨ti8, tz8, tn8, tu8, t138, t108, t118, t128, t98, t168, t198, by omega⟩, ⟨em49, s, u8, mu, ut, e50_k0, e50_k1, e50_em49, e50_k2, e50_k3, e50_k4, (g50.i _ _ (by decide)).trans ((sI_nej (by decide)).trans ((sI_nej (by decide)).trans ((g48.i _ _ (by decide)).trans ((g46.i _ _ (by decide)).trans ((FR8.i _ _ (by decide)).trans h49))))), by omega⟩⟩⟩
        ·
          refine rs1 (vC_e (rk_160 (hR.fr FR8))) ?_
          refine Rc_I (a196q (by omega) (hR.fr FR8) (w8_43) ((FR8.i _ _ (by decide)).trans h49) ((FR8.i _ _ (by decide)).trans h48) (li_0) (li_0) (q := (e8 + 1)) (by omega) (by omega)) fun v Ma52 h52 => ?_
          obtain ⟨r51, rfl, g52, e52_k0, p52_0, p52_1⟩ := h52
          have f52 : Fr W_rx Mr Ma52 := Fr.t FR8 (Fr.m g52 (by decide))
          refine rs1 (cI_e rfl) ?_
          refine rs1 (vC_e (rk_160 (hR.fr f52))) ?_
          refine Rc_I (a196q (by omega) (hR.fr f52) (e52_k0) ((g52.i _ _ (by decide)).trans ((FR8.i _ _ (by decide)).trans h49)) ((g52.i _ _ (by decide)).trans ((FR8.i _ _ (by decide)).trans h48)) (li_8) (li_0) (q := (e8 + 2)) (by omega) (by omega)) fun v Ma54 h54 => ?_
          obtain ⟨r53, rfl, g54, e54_k0, p54_0, p54_1⟩ := h54
          have f54 : Fr W_rx Mr Ma54 := Fr.t f52 (Fr.m g54 (by decide))
          refine rs1 (cI_e rfl) ?_
          refine rs1 (gtI_q (w := iI 0) (rk_160 (hR.fr f54)) ((g54.i _ _ (by decide)).trans ((g52.i _ _ (by decide)).trans (w8_41)))) ?_
          refine rs1 (jn_v) ?_
          refine rs1 (if_pos (eqI_p (rfl) (li_0) (by omega))) ?_
          refine rs1 (gtI_q (w := iI (e8 + 2)) (rk_160 (hR.fr f54)) (e54_k0)) ?_
          refine rs1 (jn_v) ?_
          refine rs1 (jn_v) ?_
          refine rs1 (if_neg (lsI_n (li_200) (sbI (rfl) (rfl)) (by omega))) ?_
          refine rs1 (gtI_q (w := iI (e8 + 2)) (rk_160 (hR.fr f54)) (e54_k0)) ?_
          refine rs1 (if_pos (lsI_p (li_1000) (rfl) (by omega))) ?_
          refine rs1 (jv_e) ?_
          refine rs1 (jv_e) ?_
          refine rs1 (vC_e (rk_160 (hR.fr f54))) ?_
          refine rs1 (cI_e (ar194_f (by omega) hS (hR.fr f54) ((g54.i _ _ (by decide)).trans ((g52.i _ _ (by decide)).trans (w8_36))) ((g54.i _ _ (by decide)).trans ((g52.i _ _ (by decide)).trans (w8_37))) ((g54.i _ _ (by decide)).trans ((g52.i _ _ (by decide)).trans (w8_41))) (li_0) (li_6) (by omega))) ?_
          refine rs1 (jv_e) ?_
          refine rs1 (vC_e (rk_160 (hR.fr f54).sI.sI)) ?_
          refine Rc_V (x191_s (by omega) (hR.fr f54).sI.sI ((sI_nej (by decide)).trans (sI_eq)) (sI_eq) ((sI_nej (by decide)).trans ((sI_nej (by decide)).trans (e54_k0))) ((sI_nej (by decide)).trans ((sI_nej (by decide)).trans ((g54.i _ _ (by decide)).trans ((g52.i _ _ (by decide)).trans (w8_51))))) ((sI_nej (by decide)).trans ((sI_nej (by decide)).trans ((g54.i _ _ (by decide)).trans ((g52.i _ _ (by decide)).trans (w8_53))))) ((sI_nej (by decide)).trans ((sI_nej (by decide)).trans ((g54.i _ _ (by decide)).trans ((g52.i _ _ (by decide)).trans ((FR8.i _ _ (by decide)).trans h48))))) ((sI_nej (by decide)).trans ((sI_nej (by decide)).trans ((g54.i _ _ (by decide)).trans ((g52.i _ _ (by decide)).trans ((FR8.i _ _ (by decide)).trans h49)))))  (by omega)) fun v Ma56 h56 => ?_
          obtain ⟨em55, g56, e56_em55, e56_k0, e56_k1, e56_k2, e56_k3, e56_k4, p56_0⟩ := h56
          have f56 : Fr W_rp Mr Ma56 := Fr.t (Fr.sI (by decide) (Fr.sI (by decide) (Fr.m f54 (by decide)))) (Fr.m g56 (by decide))
          refine rs1 (cV_e rfl) ?_
          exact Rt.ok ⟨rfl, Or.inr ⟨6, ((pl i8)), FL8, (Fr.t hF0 f56), ⟨ti8, tz8, tn8, tu8, t138, t108, t118, t128, t98, t168, t198, by omega⟩, ⟨em55, s, u8, mu, ut, e56_k0, e56_k1, e56_em55, e56_k2, e56_k3, e56_k4, (g56.i _ _ (by decide)).trans ((sI_nej (by decide)).trans ((sI_nej (by decide)).trans ((g54.i _ _ (by decide)).trans ((g52.i _ _ (by decide)).trans ((FR8.i _ _ (by decide)).trans h49))))), by omega⟩⟩⟩
      ·
        obtain ⟨ti8, tz8, tn8, tu8, t138, t108, t118, t128, t98, t168, t198, tb8⟩ := tc8
        obtain ⟨re8, rn8, ru8, rm8, rt8, u418, u428, u438, u518, u538, u488, u498, ub8⟩ := tr8
        refine rs1 (vC_e (rk_160 (hR.fr FR8))) ?_
        refine Rc_I (x196_s (by omega) (hR.fr FR8) (u418) (u428) (u438) (u518) (u538) (u488) (u498) (li_0) (li_0) (by omega)) fun v Ma58 h58 => ?_
        obtain ⟨rv57, em57, rfl, g58, e58_em57, e58_k0, e58_k1, e58_k2, e58_k3, e58_k4, p58_0, p58_1⟩ := h58
        have f58 : Fr W_rp Mr Ma58 := Fr.t FR8 (Fr.m g58 (by decide))
        refine rs1 (cI_e rfl) ?_
        refine rs1 (vC_e (rk_160 (hR.fr f58))) ?_
        refine Rc_I (x196_s (by omega) (hR.fr f58) (e58_k0) (e58_k1) (e58_em57) (e58_k2) (e58_k3) (e58_k4) ((g58.i _ _ (by decide)).trans (u498)) (li_8) (li_0) (by omega)) fun v Ma60 h60 => ?_
        obtain ⟨rv59, em59, rfl, g60, e60_em59, e60_k0, e60_k1, e60_k2, e60_k3, e60_k4, p60_0, p60_1⟩ := h60
        have f60 : Fr W_rp Mr Ma60 := Fr.t f58 (Fr.m g60 (by decide))
        refine rs1 (cI_e rfl) ?_
        refine rs1 (gtI_q (w := iI F8) (rk_160 (hR.fr f60)) (e60_k0)) ?_
        refine rs1 (jn_v) ?_
        refine rs1 (if_neg (eqI_n (rfl) (li_0) (by omega))) ?_
        refine rs1 (jv_e) ?_
        refine rs1 (vC_e (rk_160 (hR.fr f60))) ?_
        refine Rc_V (x191_s (by omega) (hR.fr f60) (e60_k0) (e60_k1) (e60_em59) (e60_k2) (e60_k3) (e60_k4) ((g60.i _ _ (by decide)).trans ((g58.i _ _ (by decide)).trans (u498)))  (by omega)) fun v Ma62 h62 => ?_
        obtain ⟨em61, g62, e62_em61, e62_k0, e62_k1, e62_k2, e62_k3, e62_k4, p62_0⟩ := h62
        have f62 : Fr W_rp Mr Ma62 := Fr.t f60 (Fr.m g62 (by decide))
        refine rs1 (cV_e rfl) ?_
        exact Rt.ok ⟨rfl, Or.inr ⟨F8, P8, FL8, (Fr.t hF0 f62), ⟨ti8, tz8, tn8, tu8, t138, t108, t118, t128, t98, t168, t198, by omega⟩, ⟨em61, rn8, ru8, rm8, rt8, e62_k0, e62_k1, e62_em61, e62_k2, e62_k3, e62_k4, (g62.i _ _ (by decide)).trans ((g60.i _ _ (by decide)).trans ((g58.i _ _ (by decide)).trans (u498))), by omega⟩⟩⟩
  ·
    by_cases c63 : ((kd i)) = 1
    ·
      refine rsl (cV_e (a69_1 (by omega) hS hC (hTk.fr (WL := W_cp) Fr.r (by decide)) (qa_12) (qa_13) (qa_10) (li_123) (hv0) (by omega))) ?_
      refine rsl (gtI_q (w := iI s) (ck_65 hC.sI.sI.sI) ((sI_nej (by decide)).trans ((sI_nej (by decide)).trans ((sI_nej (by decide)).trans (qa_16))))) ?_
      refine rsl (jn_v) ?_
      refine rsl (lp_e) ?_
      unfold c89_14
      refine rsl (if_neg (leI_n (li_3000) (li_0) (by omega))) ?_
      refine rsl (gtI_q (w := iI 2) (ck_65 hC.sI.sI.sI) (sI_eq)) ?_
      refine rsl (if_neg (eqI_n (rfl) (li_125) (by omega))) ?_
      refine rsl (gtI_q (w := iI 2) (ck_65 hC.sI.sI.sI) (sI_eq)) ?_
      refine rsl (if_pos (eqI_p (rfl) (li_2) (by omega))) ?_
      refine rsl (jv_e) ?_
      refine rsl (jn_v) ?_
      refine rsl (if_pos (eqI_p (hv0) (li_0) (by omega))) ?_
      refine rsl (vC_e (ck_65 hC.sI.sI.sI)) ?_
      refine RlV (y88 (by omega) hC.sI.sI.sI (hTk.fr (WL := W_cp) (Fr.sI (by decide) (Fr.sI (by decide) (Fr.sI (by decide) Fr.r))) (by decide)) ((sI_nej (by decide)).trans ((sI_nej (by decide)).trans ((sI_nej (by decide)).trans (qa_12)))) (sI_eq) ((sI_nej (by decide)).trans ((sI_nej (by decide)).trans (sI_eq))) ((sI_nej (by decide)).trans (sI_eq)) ((sI_nej (by decide)).trans ((sI_nej (by decide)).trans ((sI_nej (by decide)).trans (qa_9)))) ((sI_nej (by decide)).trans ((sI_nej (by decide)).trans ((sI_nej (by decide)).trans (qa_16)))) ((sI_nej (by decide)).trans ((sI_nej (by decide)).trans ((sI_nej (by decide)).trans (qa_19))))  (by omega)) fun v Ma65 h65 => ?_
      obtain ⟨sz64, sn64, uc64, g65, e65_sz64, e65_sn64, e65_uc64, e65_k0, e65_k1, e65_k2, e65_k3, p65_0, p65_1, p65_2⟩ := h65
      have f65 : Fr W_cp Mc Ma65 := Fr.t (Fr.sI (by decide) (Fr.sI (by decide) (Fr.sI (by decide) Fr.r))) (Fr.m g65 (by decide))
      refine rsl (cV_e rfl) ?_
      refine rsl (jv_e) ?_
      refine rsl (vC_e (ck_65 (hC.fr f65))) ?_
      refine RlV (y64 (by omega) (hC.fr f65) (hTk.fr (WL := W_cp) f65 (by decide)) (e65_k3) (e65_k0) (e65_k1) (e65_k2) (e65_sz64) (e65_sn64) (e65_uc64) (li_125) (by omega)) fun v Ma67 h67 => ?_
      obtain ⟨sz66, sn66, uc66, g67, e67_sz66, e67_sn66, e67_uc66, e67_k0, e67_k1, e67_k2, e67_k3, p67_0, p67_1, p67_2⟩ := h67
      have f67 : Fr W_cp Mc Ma67 := Fr.t f65 (Fr.m g67 (by decide))
      refine rsl (cV_e rfl) ?_
      refine rsl (ptI_q (z := s) (ck_65 (hC.fr f67)) (rfl)) ?_
      refine rsr (vC_e (rk_160 hR)) ?_
      refine Rs_cVr (P := fun _ Mc2 _ Mr2 => PMX 2470 ut mu m kd pl E tx Mc Mr G U Hl X i e s u uc Mc2 Mr2) ?_ (fun v Mx68 w Nx68 hx68 => ?_)
      ·
        obtain ⟨d2, rfl⟩ : ∃ e, d2 = e + 1 := ⟨d2 - 1, by omega⟩
        rw [r212]; unfold b212; rw [aR_e, aZ_e]; unfold c212
        refine rsr (gtI_q (w := iI 0) (rk_160 hR) (wa_41)) ?_
        refine rsr (jn_v) ?_
        refine rsr (if_pos (eqI_p (rfl) (li_0) (by omega))) ?_
        refine rsr (gtI_q (w := iI ((kr (kd i)))) (rk_160 hR) (wa_36)) ?_
        refine rsr (jn_v) ?_
        refine rsr (if_neg (krI_n (k := 123) (rfl) (li_123) (hS.ok i (by omega) (by omega)) (by unfold KdOK sgk; omega) (by decide +kernel) (by omega) (by omega))) ?_
        refine rsr (jv_e) ?_
        refine rsr (vC_e (rk_160 hR)) ?_
        refine rsr (cI_e (ar193_1 (by omega) hS hR (wa_36) (wa_37) (wa_41) (li_0) (by omega))) ?_
        refine rsr (if_pos (eqI_p (rfl) (li_0) (by omega))) ?_
        refine rsr (jv_e) ?_
        exact Rs.ok (Or.inr (Or.inr ⟨1, ((pl i)), (Fr.sI (by decide) f67), (Fr.sI (by decide) (Fr.sI (by decide) Fr.r)), ⟨i, sz66, s, uc66, (sI_nej (by decide)).trans (e67_k0), (sI_nej (by decide)).trans (e67_k1), (sI_nej (by decide)).trans (e67_k2), (sI_nej (by decide)).trans (e67_k3), (sI_nej (by decide)).trans (e67_sz66), sI_eq, (sI_nej (by decide)).trans (e67_uc66), by omega⟩, ⟨e, s, u, mu, ut, (sI_nej (by decide)).trans (sI_eq), sI_eq, (sI_nej (by decide)).trans ((sI_nej (by decide)).trans (wa_43)), (sI_nej (by decide)).trans ((sI_nej (by decide)).trans (wa_51)), (sI_nej (by decide)).trans ((sI_nej (by decide)).trans (wa_53)), (sI_nej (by decide)).trans ((sI_nej (by decide)).trans (h48)), (sI_nej (by decide)).trans ((sI_nej (by decide)).trans (h49)), by omega⟩⟩))
      ·
        rcases hx68 with ⟨i68, e68, u68, uc68, G68, U68, X68, k568, FL68, FR68, sc68, sr68, rw68, bd68, ⟨mv68_0, mv68_1, mv68_2, mv68_3, mv68_4, mv68_5⟩, ag68, au68, ax68, tp68, dp68, ku68, ⟨z168, z268⟩⟩ | ⟨i68, e68, u68, k568, FL68, FR68, tc68, sr68, ⟨mv68_0, mv68_1, mv68_2, mv68_3, mv68_4, mv68_5⟩, why68⟩ | ⟨F68, P68, FL68, FR68, tc68, tr68⟩
        ·
          obtain ⟨bb68_0, bb68_1, bb68_2, bb68_3, bb68_4, bb68_5, bb68_6, bb68_7, bb68_8, bb68_9, bb68_10, bb68_11⟩ := bd68
          obtain ⟨q68_12, q68_13, q68_10, q68_9, q68_16, q68_19⟩ := sc68
          obtain ⟨w68_36, w68_37, w68_38, w68_41, w68_43, w68_51, w68_53, w68_50, w68_n⟩ := sr68
          obtain ⟨ca68, ra68, lc68, lr68, cu68, ru68⟩ := rw68
          have hk69 := (hS.ok (i68 + 1) (by omega) (by omega)).r
          have hk70 := (hS.ok i68 (by omega) (by omega)).r
          have tb71 := (by rw [show (e68 + 2) - 2 = e68 by omega]; exact Tyb.ag tp68 (fun k t p z => (pu_n (by omega)).trans (pu_n (by omega))) : Tyb 0 (pu (pu G68 e68 [0, 0, -2, 0, ut, mu, 0]) (e68 + 1) [8, 0, -2, 0, ut, mu, 0]) e ((e68 + 2) - 2) s s)
          have du72 := DU.em (q := (e68 + 1)) (o := 0) (n := 0) (p := -2) (l := [0]) dp68 (by omega) (by omega)
          have du73 := DU.em (q := (e68 + 2)) (o := 8) (n := 0) (p := -2) (l := [0]) du72 (by omega) (by omega)
          refine rs1 (vC_e (rk_160 (hR.fr FR68))) ?_
          refine Rc_I (a196q (by omega) (hR.fr FR68) (w68_43) ((FR68.i _ _ (by decide)).trans h49) ((FR68.i _ _ (by decide)).trans h48) (li_0) (li_0) (q := (e68 + 1)) (by omega) (by omega)) fun v Ma75 h75 => ?_
          obtain ⟨r74, rfl, g75, e75_k0, p75_0, p75_1⟩ := h75
          have f75 : Fr W_rx Mr Ma75 := Fr.t FR68 (Fr.m g75 (by decide))
          refine rs1 (cI_e rfl) ?_
          refine rs1 (vC_e (rk_160 (hR.fr f75))) ?_
          refine Rc_I (a196q (by omega) (hR.fr f75) (e75_k0) ((g75.i _ _ (by decide)).trans ((FR68.i _ _ (by decide)).trans h49)) ((g75.i _ _ (by decide)).trans ((FR68.i _ _ (by decide)).trans h48)) (li_8) (li_0) (q := (e68 + 2)) (by omega) (by omega)) fun v Ma77 h77 => ?_
          obtain ⟨r76, rfl, g77, e77_k0, p77_0, p77_1⟩ := h77
          have f77 : Fr W_rx Mr Ma77 := Fr.t f75 (Fr.m g77 (by decide))
          refine rs1 (cI_e rfl) ?_
          refine rs1 (gtI_q (w := iI 0) (rk_160 (hR.fr f77)) ((g77.i _ _ (by decide)).trans ((g75.i _ _ (by decide)).trans (w68_41)))) ?_
          refine rs1 (jn_v) ?_
          refine rs1 (if_pos (eqI_p (rfl) (li_0) (by omega))) ?_
          refine rs1 (gtI_q (w := iI (e68 + 2)) (rk_160 (hR.fr f77)) (e77_k0)) ?_
          refine rs1 (jn_v) ?_
          refine rs1 (jn_v) ?_
          refine rs1 (if_neg (lsI_n (li_200) (sbI (rfl) (rfl)) (by omega))) ?_
          refine rs1 (gtI_q (w := iI (e68 + 2)) (rk_160 (hR.fr f77)) (e77_k0)) ?_
          refine rs1 (if_neg (lsI_n (li_1000) (rfl) (by omega))) ?_
          refine rs1 (jv_e) ?_
          refine rs1 (vC_e (rk_160 (hR.fr f77))) ?_
          refine rs1 (cI_e (ar194_p (by omega) hS (hR.fr f77) ((g77.i _ _ (by decide)).trans ((g75.i _ _ (by decide)).trans (w68_36))) ((g77.i _ _ (by decide)).trans ((g75.i _ _ (by decide)).trans (w68_37))) ((g77.i _ _ (by decide)).trans ((g75.i _ _ (by decide)).trans (w68_41))) (li_1) (li_6) (by omega))) ?_
          refine rs1 (jv_e) ?_
          refine rs1 (vC_e (rk_160 (hR.fr f77))) ?_
          have hm78 : i68 + 1 < m := hS.more i68 (by omega) (by omega) (by omega)
          refine Rc_V (nx_q (by omega) hS (hR.fr f77) (hT.fr (W := W_rx) f77 (by decide) (by decide)) (fun i a b => (Fr.lc (W := W_rx) f77 _ (by decide) _).trans (hW i a b)) (i := i68) (i2 := (i68 + 1)) ((g77.i _ _ (by decide)).trans ((g75.i _ _ (by decide)).trans (w68_41))) ((g77.i _ _ (by decide)).trans ((g75.i _ _ (by decide)).trans (w68_38))) (by omega) (by omega) (by omega)) fun v Ma79 h79 => ?_
          obtain ⟨g79, e79_k0, e79_k1, e79_k2, p79_0⟩ := h79
          have f79 : Fr W_rx Mr Ma79 := Fr.t f77 (Fr.m g79 (by decide))
          refine rs1 (cV_e rfl) ?_
          exact Rt.ok ⟨rfl, Or.inl ⟨(i68 + 1), (e68 + 2), u68, uc68, (pu (pu G68 e68 [0, 0, -2, 0, ut, mu, 0]) (e68 + 1) [8, 0, -2, 0, ut, mu, 0]), U68, X68, FL68, (Fr.t hF0 (Fr.m f79 W_rx_p)), ⟨q68_12, q68_13, q68_10, q68_9, q68_16, q68_19⟩, ⟨e79_k0, e79_k1, e79_k2, (g79.i _ _ (by decide)).trans ((g77.i _ _ (by decide)).trans ((g75.i _ _ (by decide)).trans (w68_41))), (g79.i _ _ (by decide)).trans (e77_k0), (g79.i _ _ (by decide)).trans ((g77.i _ _ (by decide)).trans ((g75.i _ _ (by decide)).trans (w68_51))), (g79.i _ _ (by decide)).trans ((g77.i _ _ (by decide)).trans ((g75.i _ _ (by decide)).trans (w68_53))), (g79.i _ _ (by decide)).trans ((g77.i _ _ (by decide)).trans ((g75.i _ _ (by decide)).trans (w68_50))), p79_0⟩, ⟨ca68, ((RA1.em (q := (e68 + 2)) (RA1.em (q := (e68 + 1)) ra68 (by omega) p75_1 (by omega)) (by omega) p77_1 (by omega)).fr g79 (by decide)), lc68, (((lr68.fr g75 (by decide)).fr g77 (by decide)).fr g79 (by decide)), cu68, (((ru68.fr g75 (by decide)).fr g77 (by decide)).fr g79 (by decide))⟩, ⟨by omega, by omega, by omega, by omega, by omega, by omega, by omega, by omega, by omega, by omega, by omega, by omega⟩, ⟨by omega, by omega, by omega, by omega, by omega, by omega⟩, (Ag.pu (Ag.pu ag68 (by omega)) (by omega)), au68, ax68, tb71, du73, ku68, ⟨by omega, by omega, by omega, pu_e (by omega), pu_e (by omega), (pu_n (by omega)).trans (pu_e (by omega)), (pu_n (by omega)).trans (pu_e (by omega)), (pu_n (by omega)).trans (pu_e (by omega)), pu_e (by omega), (f79.i _ _ (by decide)).trans h48⟩⟩⟩
        ·
          obtain ⟨ti68, tz68, tn68, tu68, t1368, t1068, t1168, t1268, t968, t1668, t1968, tb68⟩ := tc68
          obtain ⟨w68_36, w68_37, w68_38, w68_41, w68_43, w68_51, w68_53, w68_50, w68_n⟩ := sr68
          have hk80 := (hS.ok i68 (by omega) (by omega)).r
          rcases why68 with why68 | why68
          ·
            refine rs1 (vC_e (rk_160 (hR.fr FR68))) ?_
            refine Rc_I (a196q (by omega) (hR.fr FR68) (w68_43) ((FR68.i _ _ (by decide)).trans h49) ((FR68.i _ _ (by decide)).trans h48) (li_0) (li_0) (q := (e68 + 1)) (by omega) (by omega)) fun v Ma82 h82 => ?_
            obtain ⟨r81, rfl, g82, e82_k0, p82_0, p82_1⟩ := h82
            have f82 : Fr W_rx Mr Ma82 := Fr.t FR68 (Fr.m g82 (by decide))
            refine rs1 (cI_e rfl) ?_
            refine rs1 (vC_e (rk_160 (hR.fr f82))) ?_
            refine Rc_I (a196q (by omega) (hR.fr f82) (e82_k0) ((g82.i _ _ (by decide)).trans ((FR68.i _ _ (by decide)).trans h49)) ((g82.i _ _ (by decide)).trans ((FR68.i _ _ (by decide)).trans h48)) (li_8) (li_0) (q := (e68 + 2)) (by omega) (by omega)) fun v Ma84 h84 => ?_
            obtain ⟨r83, rfl, g84, e84_k0, p84_0, p84_1⟩ := h84
            have f84 : Fr W_rx Mr Ma84 := Fr.t f82 (Fr.m g84 (by decide))
            refine rs1 (cI_e rfl) ?_
            refine rs1 (gtI_q (w := iI 0) (rk_160 (hR.fr f84)) ((g84.i _ _ (by decide)).trans ((g82.i _ _ (by decide)).trans (w68_41)))) ?_
            refine rs1 (jn_v) ?_
            refine rs1 (if_pos (eqI_p (rfl) (li_0) (by omega))) ?_
            refine rs1 (gtI_q (w := iI (e68 + 2)) (rk_160 (hR.fr f84)) (e84_k0)) ?_
            refine rs1 (jn_v) ?_
            refine rs1 (jn_v) ?_
            refine rs1 (if_pos (lsI_p (li_200) (sbI (rfl) (rfl)) (by omega))) ?_
            refine rs1 (jv_e) ?_
            refine rs1 (jv_e) ?_
            refine rs1 (vC_e (rk_160 (hR.fr f84))) ?_
            refine rs1 (cI_e (ar194_f (by omega) hS (hR.fr f84) ((g84.i _ _ (by decide)).trans ((g82.i _ _ (by decide)).trans (w68_36))) ((g84.i _ _ (by decide)).trans ((g82.i _ _ (by decide)).trans (w68_37))) ((g84.i _ _ (by decide)).trans ((g82.i _ _ (by decide)).trans (w68_41))) (li_0) (li_6) (by omega))) ?_
            refine rs1 (jv_e) ?_
            refine rs1 (vC_e (rk_160 (hR.fr f84).sI.sI)) ?_
            refine Rc_V (x191_s (by omega) (hR.fr f84).sI.sI ((sI_nej (by decide)).trans (sI_eq)) (sI_eq) ((sI_nej (by decide)).trans ((sI_nej (by decide)).trans (e84_k0))) ((sI_nej (by decide)).trans ((sI_nej (by decide)).trans ((g84.i _ _ (by decide)).trans ((g82.i _ _ (by decide)).trans (w68_51))))) ((sI_nej (by decide)).trans ((sI_nej (by decide)).trans ((g84.i _ _ (by decide)).trans ((g82.i _ _ (by decide)).trans (w68_53))))) ((sI_nej (by decide)).trans ((sI_nej (by decide)).trans ((g84.i _ _ (by decide)).trans ((g82.i _ _ (by decide)).trans ((FR68.i _ _ (by decide)).trans h48))))) ((sI_nej (by decide)).trans ((sI_nej (by decide)).trans ((g84.i _ _ (by decide)).trans ((g82.i _ _ (by decide)).trans ((FR68.i _ _ (by decide)).trans h49)))))  (by omega)) fun v Ma86 h86 => ?_
            obtain ⟨em85, g86, e86_em85, e86_k0, e86_k1, e86_k2, e86_k3, e86_k4, p86_0⟩ := h86
            have f86 : Fr W_rp Mr Ma86 := Fr.t (Fr.sI (by decide) (Fr.sI (by decide) (Fr.m f84 (by decide)))) (Fr.m g86 (by decide))
            refine rs1 (cV_e rfl) ?_
            exact Rt.ok ⟨rfl, Or.inr ⟨6, ((pl i68)), FL68, (Fr.t hF0 f86), ⟨ti68, tz68, tn68, tu68, t1368, t1068, t1168, t1268, t968, t1668, t1968, by omega⟩, ⟨em85, s, u68, mu, ut, e86_k0, e86_k1, e86_em85, e86_k2, e86_k3, e86_k4, (g86.i _ _ (by decide)).trans ((sI_nej (by decide)).trans ((sI_nej (by decide)).trans ((g84.i _ _ (by decide)).trans ((g82.i _ _ (by decide)).trans ((FR68.i _ _ (by decide)).trans h49))))), by omega⟩⟩⟩
          ·
            refine rs1 (vC_e (rk_160 (hR.fr FR68))) ?_
            refine Rc_I (a196q (by omega) (hR.fr FR68) (w68_43) ((FR68.i _ _ (by decide)).trans h49) ((FR68.i _ _ (by decide)).trans h48) (li_0) (li_0) (q := (e68 + 1)) (by omega) (by omega)) fun v Ma88 h88 => ?_
            obtain ⟨r87, rfl, g88, e88_k0, p88_0, p88_1⟩ := h88
            have f88 : Fr W_rx Mr Ma88 := Fr.t FR68 (Fr.m g88 (by decide))
            refine rs1 (cI_e rfl) ?_
            refine rs1 (vC_e (rk_160 (hR.fr f88))) ?_
            refine Rc_I (a196q (by omega) (hR.fr f88) (e88_k0) ((g88.i _ _ (by decide)).trans ((FR68.i _ _ (by decide)).trans h49)) ((g88.i _ _ (by decide)).trans ((FR68.i _ _ (by decide)).trans h48)) (li_8) (li_0) (q := (e68 + 2)) (by omega) (by omega)) fun v Ma90 h90 => ?_
            obtain ⟨r89, rfl, g90, e90_k0, p90_0, p90_1⟩ := h90
            have f90 : Fr W_rx Mr Ma90 := Fr.t f88 (Fr.m g90 (by decide))
            refine rs1 (cI_e rfl) ?_
            refine rs1 (gtI_q (w := iI 0) (rk_160 (hR.fr f90)) ((g90.i _ _ (by decide)).trans ((g88.i _ _ (by decide)).trans (w68_41)))) ?_
            refine rs1 (jn_v) ?_
            refine rs1 (if_pos (eqI_p (rfl) (li_0) (by omega))) ?_
            refine rs1 (gtI_q (w := iI (e68 + 2)) (rk_160 (hR.fr f90)) (e90_k0)) ?_
            refine rs1 (jn_v) ?_
            refine rs1 (jn_v) ?_
            refine rs1 (if_neg (lsI_n (li_200) (sbI (rfl) (rfl)) (by omega))) ?_
            refine rs1 (gtI_q (w := iI (e68 + 2)) (rk_160 (hR.fr f90)) (e90_k0)) ?_
            refine rs1 (if_pos (lsI_p (li_1000) (rfl) (by omega))) ?_
            refine rs1 (jv_e) ?_
            refine rs1 (jv_e) ?_
            refine rs1 (vC_e (rk_160 (hR.fr f90))) ?_
            refine rs1 (cI_e (ar194_f (by omega) hS (hR.fr f90) ((g90.i _ _ (by decide)).trans ((g88.i _ _ (by decide)).trans (w68_36))) ((g90.i _ _ (by decide)).trans ((g88.i _ _ (by decide)).trans (w68_37))) ((g90.i _ _ (by decide)).trans ((g88.i _ _ (by decide)).trans (w68_41))) (li_0) (li_6) (by omega))) ?_
            refine rs1 (jv_e) ?_
            refine rs1 (vC_e (rk_160 (hR.fr f90).sI.sI)) ?_
            refine Rc_V (x191_s (by omega) (hR.fr f90).sI.sI ((sI_nej (by decide)).trans (sI_eq)) (sI_eq) ((sI_nej (by decide)).trans ((sI_nej (by decide)).trans (e90_k0))) ((sI_nej (by decide)).trans ((sI_nej (by decide)).trans ((g90.i _ _ (by decide)).trans ((g88.i _ _ (by decide)).trans (w68_51))))) ((sI_nej (by decide)).trans ((sI_nej (by decide)).trans ((g90.i _ _ (by decide)).trans ((g88.i _ _ (by decide)).trans (w68_53))))) ((sI_nej (by decide)).trans ((sI_nej (by decide)).trans ((g90.i _ _ (by decide)).trans ((g88.i _ _ (by decide)).trans ((FR68.i _ _ (by decide)).trans h48))))) ((sI_nej (by decide)).trans ((sI_nej (by decide)).trans ((g90.i _ _ (by decide)).trans ((g88.i _ _ (by decide)).trans ((FR68.i _ _ (by decide)).trans h49)))))  (by omega)) fun v Ma92 h92 => ?_
            obtain ⟨em91, g92, e92_em91, e92_k0, e92_k1, e92_k2, e92_k3, e92_k4, p92_0⟩ := h92
            have f92 : Fr W_rp Mr Ma92 := Fr.t (Fr.sI (by decide) (Fr.sI (by decide) (Fr.m f90 (by decide)))) (Fr.m g92 (by decide))
            refine rs1 (cV_e rfl) ?_
            exact Rt.ok ⟨rfl, Or.inr ⟨6, ((pl i68)), FL68, (Fr.t hF0 f92), ⟨ti68, tz68, tn68, tu68, t1368, t1068, t1168, t1268, t968, t1668, t1968, by omega⟩, ⟨em91, s, u68, mu, ut, e92_k0, e92_k1, e92_em91, e92_k2, e92_k3, e92_k4, (g92.i _ _ (by decide)).trans ((sI_nej (by decide)).trans ((sI_nej (by decide)).trans ((g90.i _ _ (by decide)).trans ((g88.i _ _ (by decide)).trans ((FR68.i _ _ (by decide)).trans h49))))), by omega⟩⟩⟩
        ·
          obtain ⟨ti68, tz68, tn68, tu68, t1368, t1068, t1168, t1268, t968, t1668, t1968, tb68⟩ := tc68
          obtain ⟨re68, rn68, ru68, rm68, rt68, u4168, u4268, u4368, u5168, u5368, u4868, u4968, ub68⟩ := tr68
          refine rs1 (vC_e (rk_160 (hR.fr FR68))) ?_
          refine Rc_I (x196_s (by omega) (hR.fr FR68) (u4168) (u4268) (u4368) (u5168) (u5368) (u4868) (u4968) (li_0) (li_0) (by omega)) fun v Ma94 h94 => ?_
          obtain ⟨rv93, em93, rfl, g94, e94_em93, e94_k0, e94_k1, e94_k2, e94_k3, e94_k4, p94_0, p94_1⟩ := h94
          have f94 : Fr W_rp Mr Ma94 := Fr.t FR68 (Fr.m g94 (by decide))
          refine rs1 (cI_e rfl) ?_
          refine rs1 (vC_e (rk_160 (hR.fr f94))) ?_
          refine Rc_I (x196_s (by omega) (hR.fr f94) (e94_k0) (e94_k1) (e94_em93) (e94_k2) (e94_k3) (e94_k4) ((g94.i _ _ (by decide)).trans (u4968)) (li_8) (li_0) (by omega)) fun v Ma96 h96 => ?_
          obtain ⟨rv95, em95, rfl, g96, e96_em95, e96_k0, e96_k1, e96_k2, e96_k3, e96_k4, p96_0, p96_1⟩ := h96
          have f96 : Fr W_rp Mr Ma96 := Fr.t f94 (Fr.m g96 (by decide))
          refine rs1 (cI_e rfl) ?_
          refine rs1 (gtI_q (w := iI F68) (rk_160 (hR.fr f96)) (e96_k0)) ?_
          refine rs1 (jn_v) ?_
          refine rs1 (if_neg (eqI_n (rfl) (li_0) (by omega))) ?_
          refine rs1 (jv_e) ?_
          refine rs1 (vC_e (rk_160 (hR.fr f96))) ?_
          refine Rc_V (x191_s (by omega) (hR.fr f96) (e96_k0) (e96_k1) (e96_em95) (e96_k2) (e96_k3) (e96_k4) ((g96.i _ _ (by decide)).trans ((g94.i _ _ (by decide)).trans (u4968)))  (by omega)) fun v Ma98 h98 => ?_
          obtain ⟨em97, g98, e98_em97, e98_k0, e98_k1, e98_k2, e98_k3, e98_k4, p98_0⟩ := h98
          have f98 : Fr W_rp Mr Ma98 := Fr.t f96 (Fr.m g98 (by decide))
          refine rs1 (cV_e rfl) ?_
          exact Rt.ok ⟨rfl, Or.inr ⟨F68, P68, FL68, (Fr.t hF0 f98), ⟨ti68, tz68, tn68, tu68, t1368, t1068, t1168, t1268, t968, t1668, t1968, by omega⟩, ⟨em97, rn68, ru68, rm68, rt68, e98_k0, e98_k1, e98_em97, e98_k2, e98_k3, e98_k4, (g98.i _ _ (by decide)).trans ((g96.i _ _ (by decide)).trans ((g94.i _ _ (by decide)).trans (u4968))), by omega⟩⟩⟩
    ·
      refine rsl (cV_e (a69_2 (by omega) hS hC (hTk.fr (WL := W_cp) Fr.r (by decide)) (qa_12) (qa_13) (qa_10) (li_123) (hv0) (by omega))) ?_
      refine rsl (gtI_q (w := iI s) (ck_65 hC.sI.sI.sI) ((sI_nej (by decide)).trans ((sI_nej (by decide)).trans ((sI_nej (by decide)).trans (qa_16))))) ?_
      refine rsl (jn_v) ?_
      refine rsl (lp_e) ?_
      unfold c89_14
      refine rsl (if_neg (leI_n (li_3000) (li_0) (by omega))) ?_
      refine rsl (gtI_q (w := iI 2) (ck_65 hC.sI.sI.sI) (sI_eq)) ?_
      refine rsl (if_neg (eqI_n (rfl) (li_125) (by omega))) ?_
      refine rsl (gtI_q (w := iI 2) (ck_65 hC.sI.sI.sI) (sI_eq)) ?_
      refine rsl (if_pos (eqI_p (rfl) (li_2) (by omega))) ?_
      refine rsl (jv_e) ?_
      refine rsl (jn_v) ?_
      refine rsl (if_pos (eqI_p (hv0) (li_0) (by omega))) ?_
      refine rsl (vC_e (ck_65 hC.sI.sI.sI)) ?_
      refine RlV (y88 (by omega) hC.sI.sI.sI (hTk.fr (WL := W_cp) (Fr.sI (by decide) (Fr.sI (by decide) (Fr.sI (by decide) Fr.r))) (by decide)) ((sI_nej (by decide)).trans ((sI_nej (by decide)).trans ((sI_nej (by decide)).trans (qa_12)))) (sI_eq) ((sI_nej (by decide)).trans ((sI_nej (by decide)).trans (sI_eq))) ((sI_nej (by decide)).trans (sI_eq)) ((sI_nej (by decide)).trans ((sI_nej (by decide)).trans ((sI_nej (by decide)).trans (qa_9)))) ((sI_nej (by decide)).trans ((sI_nej (by decide)).trans ((sI_nej (by decide)).trans (qa_16)))) ((sI_nej (by decide)).trans ((sI_nej (by decide)).trans ((sI_nej (by decide)).trans (qa_19))))  (by omega)) fun v Ma100 h100 => ?_
      obtain ⟨sz99, sn99, uc99, g100, e100_sz99, e100_sn99, e100_uc99, e100_k0, e100_k1, e100_k2, e100_k3, p100_0, p100_1, p100_2⟩ := h100
      have f100 : Fr W_cp Mc Ma100 := Fr.t (Fr.sI (by decide) (Fr.sI (by decide) (Fr.sI (by decide) Fr.r))) (Fr.m g100 (by decide))
      refine rsl (cV_e rfl) ?_
      refine rsl (jv_e) ?_
      refine rsl (vC_e (ck_65 (hC.fr f100))) ?_
      refine RlV (y64 (by omega) (hC.fr f100) (hTk.fr (WL := W_cp) f100 (by decide)) (e100_k3) (e100_k0) (e100_k1) (e100_k2) (e100_sz99) (e100_sn99) (e100_uc99) (li_125) (by omega)) fun v Ma102 h102 => ?_
      obtain ⟨sz101, sn101, uc101, g102, e102_sz101, e102_sn101, e102_uc101, e102_k0, e102_k1, e102_k2, e102_k3, p102_0, p102_1, p102_2⟩ := h102
      have f102 : Fr W_cp Mc Ma102 := Fr.t f100 (Fr.m g102 (by decide))
      refine rsl (cV_e rfl) ?_
      refine rsl (ptI_q (z := s) (ck_65 (hC.fr f102)) (rfl)) ?_
      refine rsr (vC_e (rk_160 hR)) ?_
      refine Rs_cVr (P := fun _ Mc2 _ Mr2 => PMX 2470 ut mu m kd pl E tx Mc Mr G U Hl X i e s u uc Mc2 Mr2) ?_ (fun v Mx103 w Nx103 hx103 => ?_)
      ·
        obtain ⟨d2, rfl⟩ : ∃ e, d2 = e + 1 := ⟨d2 - 1, by omega⟩
        rw [r212]; unfold b212; rw [aR_e, aZ_e]; unfold c212
        refine rsr (gtI_q (w := iI 0) (rk_160 hR) (wa_41)) ?_
        refine rsr (jn_v) ?_
        refine rsr (if_pos (eqI_p (rfl) (li_0) (by omega))) ?_
        refine rsr (gtI_q (w := iI ((kr (kd i)))) (rk_160 hR) (wa_36)) ?_
        refine rsr (jn_v) ?_
        refine rsr (if_neg (krI_n (k := 123) (rfl) (li_123) (hS.ok i (by omega) (by omega)) (by unfold KdOK sgk; omega) (by decide +kernel) (by omega) (by omega))) ?_
        refine rsr (jv_e) ?_
        refine rsr (vC_e (rk_160 hR)) ?_
        refine rsr (cI_e (ar193_2 (by omega) hS hR (wa_36) (wa_37) (wa_41) (li_0) (by omega))) ?_
        refine rsr (if_pos (eqI_p (rfl) (li_0) (by omega))) ?_
        refine rsr (jv_e) ?_
        exact Rs.ok (Or.inr (Or.inr ⟨2, ((pl i)), (Fr.sI (by decide) f102), (Fr.sI (by decide) (Fr.sI (by decide) Fr.r)), ⟨i, sz101, s, uc101, (sI_nej (by decide)).trans (e102_k0), (sI_nej (by decide)).trans (e102_k1), (sI_nej (by decide)).trans (e102_k2), (sI_nej (by decide)).trans (e102_k3), (sI_nej (by decide)).trans (e102_sz101), sI_eq, (sI_nej (by decide)).trans (e102_uc101), by omega⟩, ⟨e, s, u, mu, ut, (sI_nej (by decide)).trans (sI_eq), sI_eq, (sI_nej (by decide)).trans ((sI_nej (by decide)).trans (wa_43)), (sI_nej (by decide)).trans ((sI_nej (by decide)).trans (wa_51)), (sI_nej (by decide)).trans ((sI_nej (by decide)).trans (wa_53)), (sI_nej (by decide)).trans ((sI_nej (by decide)).trans (h48)), (sI_nej (by decide)).trans ((sI_nej (by decide)).trans (h49)), by omega⟩⟩))
      ·
        rcases hx103 with ⟨i103, e103, u103, uc103, G103, U103, X103, k5103, FL103, FR103, sc103, sr103, rw103, bd103, ⟨mv103_0, mv103_1, mv103_2, mv103_3, mv103_4, mv103_5⟩, ag103, au103, ax103, tp103, dp103, ku103, ⟨z1103, z2103⟩⟩ | ⟨i103, e103, u103, k5103, FL103, FR103, tc103, sr103, ⟨mv103_0, mv103_1, mv103_2, mv103_3, mv103_4, mv103_5⟩, why103⟩ | ⟨F103, P103, FL103, FR103, tc103, tr103⟩
        ·
          obtain ⟨bb103_0, bb103_1, bb103_2, bb103_3, bb103_4, bb103_5, bb103_6, bb103_7, bb103_8, bb103_9, bb103_10, bb103_11⟩ := bd103
          obtain ⟨q103_12, q103_13, q103_10, q103_9, q103_16, q103_19⟩ := sc103
          obtain ⟨w103_36, w103_37, w103_38, w103_41, w103_43, w103_51, w103_53, w103_50, w103_n⟩ := sr103
          obtain ⟨ca103, ra103, lc103, lr103, cu103, ru103⟩ := rw103
          have hk104 := (hS.ok (i103 + 1) (by omega) (by omega)).r
          have hk105 := (hS.ok i103 (by omega) (by omega)).r
          have tb106 := (by rw [show (e103 + 2) - 2 = e103 by omega]; exact Tyb.ag tp103 (fun k t p z => (pu_n (by omega)).trans (pu_n (by omega))) : Tyb 0 (pu (pu G103 e103 [0, 0, -2, 0, ut, mu, 0]) (e103 + 1) [8, 0, -2, 0, ut, mu, 0]) e ((e103 + 2) - 2) s s)
          have du107 := DU.em (q := (e103 + 1)) (o := 0) (n := 0) (p := -2) (l := [0]) dp103 (by omega) (by omega)
          have du108 := DU.em (q := (e103 + 2)) (o := 8) (n := 0) (p := -2) (l := [0]) du107 (by omega) (by omega)
          refine rs1 (vC_e (rk_160 (hR.fr FR103))) ?_
          refine Rc_I (a196q (by omega) (hR.fr FR103) (w103_43) ((FR103.i _ _ (by decide)).trans h49) ((FR103.i _ _ (by decide)).trans h48) (li_0) (li_0) (q := (e103 + 1)) (by omega) (by omega)) fun v Ma110 h110 => ?_
          obtain ⟨r109, rfl, g110, e110_k0, p110_0, p110_1⟩ := h110
          have f110 : Fr W_rx Mr Ma110 := Fr.t FR103 (Fr.m g110 (by decide))
          refine rs1 (cI_e rfl) ?_
          refine rs1 (vC_e (rk_160 (hR.fr f110))) ?_
          refine Rc_I (a196q (by omega) (hR.fr f110) (e110_k0) ((g110.i _ _ (by decide)).trans ((FR103.i _ _ (by decide)).trans h49)) ((g110.i _ _ (by decide)).trans ((FR103.i _ _ (by decide)).trans h48)) (li_8) (li_0) (q := (e103 + 2)) (by omega) (by omega)) fun v Ma112 h112 => ?_
          obtain ⟨r111, rfl, g112, e112_k0, p112_0, p112_1⟩ := h112
          have f112 : Fr W_rx Mr Ma112 := Fr.t f110 (Fr.m g112 (by decide))
          refine rs1 (cI_e rfl) ?_
          refine rs1 (gtI_q (w := iI 0) (rk_160 (hR.fr f112)) ((g112.i _ _ (by decide)).trans ((g110.i _ _ (by decide)).trans (w103_41)))) ?_
          refine rs1 (jn_v) ?_
          refine rs1 (if_pos (eqI_p (rfl) (li_0) (by omega))) ?_
          refine rs1 (gtI_q (w := iI (e103 + 2)) (rk_160 (hR.fr f112)) (e112_k0)) ?_
          refine rs1 (jn_v) ?_
          refine rs1 (jn_v) ?_
          refine rs1 (if_neg (lsI_n (li_200) (sbI (rfl) (rfl)) (by omega))) ?_
          refine rs1 (gtI_q (w := iI (e103 + 2)) (rk_160 (hR.fr f112)) (e112_k0)) ?_
          refine rs1 (if_neg (lsI_n (li_1000) (rfl) (by omega))) ?_
          refine rs1 (jv_e) ?_
          refine rs1 (vC_e (rk_160 (hR.fr f112))) ?_
          refine rs1 (cI_e (ar194_p (by omega) hS (hR.fr f112) ((g112.i _ _ (by decide)).trans ((g110.i _ _ (by decide)).trans (w103_36))) ((g112.i _ _ (by decide)).trans ((g110.i _ _ (by decide)).trans (w103_37))) ((g112.i _ _ (by decide)).trans ((g110.i _ _ (by decide)).trans (w103_41))) (li_1) (li_6) (by omega))) ?_
          refine rs1 (jv_e) ?_
          refine rs1 (vC_e (rk_160 (hR.fr f112))) ?_
          have hm113 : i103 + 1 < m := hS.more i103 (by omega) (by omega) (by omega)
          refine Rc_V (nx_q (by omega) hS (hR.fr f112) (hT.fr (W := W_rx) f112 (by decide) (by decide)) (fun i a b => (Fr.lc (W := W_rx) f112 _ (by decide) _).trans (hW i a b)) (i := i103) (i2 := (i103 + 1)) ((g112.i _ _ (by decide)).trans ((g110.i _ _ (by decide)).trans (w103_41))) ((g112.i _ _ (by decide)).trans ((g110.i _ _ (by decide)).trans (w103_38))) (by omega) (by omega) (by omega)) fun v Ma114 h114 => ?_
          obtain ⟨g114, e114_k0, e114_k1, e114_k2, p114_0⟩ := h114
          have f114 : Fr W_rx Mr Ma114 := Fr.t f112 (Fr.m g114 (by decide))
          refine rs1 (cV_e rfl) ?_
          exact Rt.ok ⟨rfl, Or.inl ⟨(i103 + 1), (e103 + 2), u103, uc103, (pu (pu G103 e103 [0, 0, -2, 0, ut, mu, 0]) (e103 + 1) [8, 0, -2, 0, ut, mu, 0]), U103, X103, FL103, (Fr.t hF0 (Fr.m f114 W_rx_p)), ⟨q103_12, q103_13, q103_10, q103_9, q103_16, q103_19⟩, ⟨e114_k0, e114_k1, e114_k2, (g114.i _ _ (by decide)).trans ((g112.i _ _ (by decide)).trans ((g110.i _ _ (by decide)).trans (w103_41))), (g114.i _ _ (by decide)).trans (e112_k0), (g114.i _ _ (by decide)).trans ((g112.i _ _ (by decide)).trans ((g110.i _ _ (by decide)).trans (w103_51))), (g114.i _ _ (by decide)).trans ((g112.i _ _ (by decide)).trans ((g110.i _ _ (by decide)).trans (w103_53))), (g114.i _ _ (by decide)).trans ((g112.i _ _ (by decide)).trans ((g110.i _ _ (by decide)).trans (w103_50))), p114_0⟩, ⟨ca103, ((RA1.em (q := (e103 + 2)) (RA1.em (q := (e103 + 1)) ra103 (by omega) p110_1 (by omega)) (by omega) p112_1 (by omega)).fr g114 (by decide)), lc103, (((lr103.fr g110 (by decide)).fr g112 (by decide)).fr g114 (by decide)), cu103, (((ru103.fr g110 (by decide)).fr g112 (by decide)).fr g114 (by decide))⟩, ⟨by omega, by omega, by omega, by omega, by omega, by omega, by omega, by omega, by omega, by omega, by omega, by omega⟩, ⟨by omega, by omega, by omega, by omega, by omega, by omega⟩, (Ag.pu (Ag.pu ag103 (by omega)) (by omega)), au103, ax103, tb106, du108, ku103, ⟨by omega, by omega, by omega, pu_e (by omega), pu_e (by omega), (pu_n (by omega)).trans (pu_e (by omega)), (pu_n (by omega)).trans (pu_e (by omega)), (pu_n (by omega)).trans (pu_e (by omega)), pu_e (by omega), (f114.i _ _ (by decide)).trans h48⟩⟩⟩
        ·
          obtain ⟨ti103, tz103, tn103, tu103, t13103, t10103, t11103, t12103, t9103, t16103, t19103, tb103⟩ := tc103
          obtain ⟨w103_36, w103_37, w103_38, w103_41, w103_43, w103_51, w103_53, w103_50, w103_n⟩ := sr103
          have hk115 := (hS.ok i103 (by omega) (by omega)).r
          rcases why103 with why103 | why103
          ·
            refine rs1 (vC_e (rk_160 (hR.fr FR103))) ?_
            refine Rc_I (a196q (by omega) (hR.fr FR103) (w103_43) ((FR103.i _ _ (by decide)).trans h49) ((FR103.i _ _ (by decide)).trans h48) (li_0) (li_0) (q := (e103 + 1)) (by omega) (by omega)) fun v Ma117 h117 => ?_
            obtain ⟨r116, rfl, g117, e117_k0, p117_0, p117_1⟩ := h117
            have f117 : Fr W_rx Mr Ma117 := Fr.t FR103 (Fr.m g117 (by decide))
            refine rs1 (cI_e rfl) ?_
            refine rs1 (vC_e (rk_160 (hR.fr f117))) ?_
            refine Rc_I (a196q (by omega) (hR.fr f117) (e117_k0) ((g117.i _ _ (by decide)).trans ((FR103.i _ _ (by decide)).trans h49)) ((g117.i _ _ (by decide)).trans ((FR103.i _ _ (by decide)).trans h48)) (li_8) (li_0) (q := (e103 + 2)) (by omega) (by omega)) fun v Ma119 h119 => ?_
            obtain ⟨r118, rfl, g119, e119_k0, p119_0, p119_1⟩ := h119
            have f119 : Fr W_rx Mr Ma119 := Fr.t f117 (Fr.m g119 (by decide))
            refine rs1 (cI_e rfl) ?_
            refine rs1 (gtI_q (w := iI 0) (rk_160 (hR.fr f119)) ((g119.i _ _ (by decide)).trans ((g117.i _ _ (by decide)).trans (w103_41)))) ?_
            refine rs1 (jn_v) ?_
            refine rs1 (if_pos (eqI_p (rfl) (li_0) (by omega))) ?_
            refine rs1 (gtI_q (w := iI (e103 + 2)) (rk_160 (hR.fr f119)) (e119_k0)) ?_
            refine rs1 (jn_v) ?_
            refine rs1 (jn_v) ?_
            refine rs1 (if_pos (lsI_p (li_200) (sbI (rfl) (rfl)) (by omega))) ?_
            refine rs1 (jv_e) ?_
            refine rs1 (jv_e) ?_
            refine rs1 (vC_e (rk_160 (hR.fr f119))) ?_
            refine rs1 (cI_e (ar194_f (by omega) hS (hR.fr f119) ((g119.i _ _ (by decide)).trans ((g117.i _ _ (by decide)).trans (w103_36))) ((g119.i _ _ (by decide)).trans ((g117.i _ _ (by decide)).trans (w103_37))) ((g119.i _ _ (by decide)).trans ((g117.i _ _ (by decide)).trans (w103_41))) (li_0) (li_6) (by omega))) ?_
            refine rs1 (jv_e) ?_
            refine rs1 (vC_e (rk_160 (hR.fr f119).sI.sI)) ?_
            refine Rc_V (x191_s (by omega) (hR.fr f119).sI.sI ((sI_nej (by decide)).trans (sI_eq)) (sI_eq) ((sI_nej (by decide)).trans ((sI_nej (by decide)).trans (e119_k0))) ((sI_nej (by decide)).trans ((sI_nej (by decide)).trans ((g119.i _ _ (by decide)).trans ((g117.i _ _ (by decide)).trans (w103_51))))) ((sI_nej (by decide)).trans ((sI_nej (by decide)).trans ((g119.i _ _ (by decide)).trans ((g117.i _ _ (by decide)).trans (w103_53))))) ((sI_nej (by decide)).trans ((sI_nej (by decide)).trans ((g119.i _ _ (by decide)).trans ((g117.i _ _ (by decide)).trans ((FR103.i _ _ (by decide)).trans h48))))) ((sI_nej (by decide)).trans ((sI_nej (by decide)).trans ((g119.i _ _ (by decide)).trans ((g117.i _ _ (by decide)).trans ((FR103.i _ _ (by decide)).trans h49)))))  (by omega)) fun v Ma121 h121 => ?_
            obtain ⟨em120, g121, e121_em120, e121_k0, e121_k1, e121_k2, e121_k3, e121_k4, p121_0⟩ := h121
            have f121 : Fr W_rp Mr Ma121 := Fr.t (Fr.sI (by decide) (Fr.sI (by decide) (Fr.m f119 (by decide)))) (Fr.m g121 (by decide))
            refine rs1 (cV_e rfl) ?_
            exact Rt.ok ⟨rfl, Or.inr ⟨6, ((pl i103)), FL103, (Fr.t hF0 f121), ⟨ti103, tz103, tn103, tu103, t13103, t10103, t11103, t12103, t9103, t16103, t19103, by omega⟩, ⟨em120, s, u103, mu, ut, e121_k0, e121_k1, e121_em120, e121_k2, e121_k3, e121_k4, (g121.i _ _ (by decide)).trans ((sI_nej (by decide)).trans ((sI_nej (by decide)).trans ((g119.i _ _ (by decide)).trans ((g117.i _ _ (by decide)).trans ((FR103.i _ _ (by decide)).trans h49))))), by omega⟩⟩⟩
          ·
            refine rs1 (vC_e (rk_160 (hR.fr FR103))) ?_
            refine Rc_I (a196q (by omega) (hR.fr FR103) (w103_43) ((FR103.i _ _ (by decide)).trans h49) ((FR103.i _ _ (by decide)).trans h48) (li_0) (li_0) (q := (e103 + 1)) (by omega) (by omega)) fun v Ma123 h123 => ?_
            obtain ⟨r122, rfl, g123, e123_k0, p123_0, p123_1⟩ := h123
            have f123 : Fr W_rx Mr Ma123 := Fr.t FR103 (Fr.m g123 (by decide))
            refine rs1 (cI_e rfl) ?_
            refine rs1 (vC_e (rk_160 (hR.fr f123))) ?_
            refine Rc_I (a196q (by omega) (hR.fr f123) (e123_k0) ((g123.i _ _ (by decide)).trans ((FR103.i _ _ (by decide)).trans h49)) ((g123.i _ _ (by decide)).trans ((FR103.i _ _ (by decide)).trans h48)) (li_8) (li_0) (q := (e103 + 2)) (by omega) (by omega)) fun v Ma125 h125 => ?_
            obtain ⟨r124, rfl, g125, e125_k0, p125_0, p125_1⟩ := h125
            have f125 : Fr W_rx Mr Ma125 := Fr.t f123 (Fr.m g125 (by decide))
            refine rs1 (cI_e rfl) ?_
            refine rs1 (gtI_q (w := iI 0) (rk_160 (hR.fr f125)) ((g125.i _ _ (by decide)).trans ((g123.i _ _ (by decide)).trans (w103_41)))) ?_
            refine rs1 (jn_v) ?_
            refine rs1 (if_pos (eqI_p (rfl) (li_0) (by omega))) ?_
            refine rs1 (gtI_q (w := iI (e103 + 2)) (rk_160 (hR.fr f125)) (e125_k0)) ?_
            refine rs1 (jn_v) ?_
            refine rs1 (jn_v) ?_
            refine rs1 (if_neg (lsI_n (li_200) (sbI (rfl) (rfl)) (by omega))) ?_
            refine rs1 (gtI_q (w := iI (e103 + 2)) (rk_160 (hR.fr f125)) (e125_k0)) ?_
            refine rs1 (if_pos (lsI_p (li_1000) (rfl) (by omega))) ?_
            refine rs1 (jv_e) ?_
            refine rs1 (jv_e) ?_
            refine rs1 (vC_e (rk_160 (hR.fr f125))) ?_
            refine rs1 (cI_e (ar194_f (by omega) hS (hR.fr f125) ((g125.i _ _ (by decide)).trans ((g123.i _ _ (by decide)).trans (w103_36))) ((g125.i _ _ (by decide)).trans ((g123.i _ _ (by decide)).trans (w103_37))) ((g125.i _ _ (by decide)).trans ((g123.i _ _ (by decide)).trans (w103_41))) (li_0) (li_6) (by omega))) ?_
            refine rs1 (jv_e) ?_
            refine rs1 (vC_e (rk_160 (hR.fr f125).sI.sI)) ?_
            refine Rc_V (x191_s (by omega) (hR.fr f125).sI.sI ((sI_nej (by decide)).trans (sI_eq)) (sI_eq) ((sI_nej (by decide)).trans ((sI_nej (by decide)).trans (e125_k0))) ((sI_nej (by decide)).trans ((sI_nej (by decide)).trans ((g125.i _ _ (by decide)).trans ((g123.i _ _ (by decide)).trans (w103_51))))) ((sI_nej (by decide)).trans ((sI_nej (by decide)).trans ((g125.i _ _ (by decide)).trans ((g123.i _ _ (by decide)).trans (w103_53))))) ((sI_nej (by decide)).trans ((sI_nej (by decide)).trans ((g125.i _ _ (by decide)).trans ((g123.i _ _ (by decide)).trans ((FR103.i _ _ (by decide)).trans h48))))) ((sI_nej (by decide)).trans ((sI_nej (by decide)).trans ((g125.i _ _ (by decide)).trans ((g123.i _ _ (by decide)).trans ((FR103.i _ _ (by decide)).trans h49)))))  (by omega)) fun v Ma127 h127 => ?_
            obtain ⟨em126, g127, e127_em126, e127_k0, e127_k1, e127_k2, e127_k3, e127_k4, p127_0⟩ := h127
            have f127 : Fr W_rp Mr Ma127 := Fr.t (Fr.sI (by decide) (Fr.sI (by decide) (Fr.m f125 (by decide)))) (Fr.m g127 (by decide))
            refine rs1 (cV_e rfl) ?_
            exact Rt.ok ⟨rfl, Or.inr ⟨6, ((pl i103)), FL103, (Fr.t hF0 f127), ⟨ti103, tz103, tn103, tu103, t13103, t10103, t11103, t12103, t9103, t16103, t19103, by omega⟩, ⟨em126, s, u103, mu, ut, e127_k0, e127_k1, e127_em126, e127_k2, e127_k3, e127_k4, (g127.i _ _ (by decide)).trans ((sI_nej (by decide)).trans ((sI_nej (by decide)).trans ((g125.i _ _ (by decide)).trans ((g123.i _ _ (by decide)).trans ((FR103.i _ _ (by decide)).trans h49))))), by omega⟩⟩⟩
        ·
          obtain ⟨ti103, tz103, tn103, tu103, t13103, t10103, t11103, t12103, t9103, t16103, t19103, tb103⟩ := tc103
          obtain ⟨re103, rn103, ru103, rm103, rt103, u41103, u42103, u43103, u51103, u53103, u48103, u49103, ub103⟩ := tr103
          refine rs1 (vC_e (rk_160 (hR.fr FR103))) ?_
          refine Rc_I (x196_s (by omega) (hR.fr FR103) (u41103) (u42103) (u43103) (u51103) (u53103) (u48103) (u49103) (li_0) (li_0) (by omega)) fun v Ma129 h129 => ?_
          obtain ⟨rv128, em128, rfl, g129, e129_em128, e129_k0, e129_k1, e129_k2, e129_k3, e129_k4, p129_0, p129_1⟩ := h129
          have f129 : Fr W_rp Mr Ma129 := Fr.t FR103 (Fr.m g129 (by decide))
          refine rs1 (cI_e rfl) ?_
          refine rs1 (vC_e (rk_160 (hR.fr f129))) ?_
          refine Rc_I (x196_s (by omega) (hR.fr f129) (e129_k0) (e129_k1) (e129_em128) (e129_k2) (e129_k3) (e129_k4) ((g129.i _ _ (by decide)).trans (u49103)) (li_8) (li_0) (by omega)) fun v Ma131 h131 => ?_
          obtain ⟨rv130, em130, rfl, g131, e131_em130, e131_k0, e131_k1, e131_k2, e131_k3, e131_k4, p131_0, p131_1⟩ := h131
          have f131 : Fr W_rp Mr Ma131 := Fr.t f129 (Fr.m g131 (by decide))
          refine rs1 (cI_e rfl) ?_
          refine rs1 (gtI_q (w := iI F103) (rk_160 (hR.fr f131)) (e131_k0)) ?_
          refine rs1 (jn_v) ?_
          refine rs1 (if_neg (eqI_n (rfl) (li_0) (by omega))) ?_
          refine rs1 (jv_e) ?_
          refine rs1 (vC_e (rk_160 (hR.fr f131))) ?_
          refine Rc_V (x191_s (by omega) (hR.fr f131) (e131_k0) (e131_k1) (e131_em130) (e131_k2) (e131_k3) (e131_k4) ((g131.i _ _ (by decide)).trans ((g129.i _ _ (by decide)).trans (u49103)))  (by omega)) fun v Ma133 h133 => ?_
          obtain ⟨em132, g133, e133_em132, e133_k0, e133_k1, e133_k2, e133_k3, e133_k4, p133_0⟩ := h133
          have f133 : Fr W_rp Mr Ma133 := Fr.t f131 (Fr.m g133 (by decide))
          refine rs1 (cV_e rfl) ?_
          exact Rt.ok ⟨rfl, Or.inr ⟨F103, P103, FL103, (Fr.t hF0 f133), ⟨ti103, tz103, tn103, tu103, t13103, t10103, t11103, t12103, t9103, t16103, t19103, by omega⟩, ⟨em132, rn103, ru103, rm103, rt103, e133_k0, e133_k1, e133_em132, e133_k2, e133_k3, e133_k4, (g133.i _ _ (by decide)).trans ((g131.i _ _ (by decide)).trans ((g129.i _ _ (by decide)).trans (u49103))), by omega⟩⟩⟩
/-- a whole code of both -/
theorem pairs_M : PairM 912 := p_m (D := 902) (by omega) (pairs_S 1 (by omega)).1
