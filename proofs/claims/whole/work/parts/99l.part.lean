/-! the first object's machine: members are used -/
section S99l
variable {d : Nat} {e s s' u : ZS} {κ : ZK} {M M' M1 M2 : Mem} {a b j N x y T : Nat} {v v1 v2 v3 w : Int32} {c t k i n m p o q id fl ar st key par r B h D : Int} {Y : Nat → Int → Int} {DT : Option Nat}
theorem zc46 (hd : 4 ≤ d) (h : zCM e κ s M) (hE : zCE e κ M) (hm : s.1 1 0 0 = 0) (hl : zLy s) (hi : zId e id) (h4 : e.1 4 id 0 = 4) (hq : zSd e q) (hid : id = 96 * q + m) (hmb : 0 ≤ m ∧ m < e.1 24 q 0) (hpar : e.1 5 id 0 ≤ zh s ∧ zh s - e.1 5 id 0 < 200) (hb : 0 ≤ e.1 11 id 0 → 0 ≤ s.1 17 (e.1 11 id 0) 0 ∧ s.1 17 (e.1 11 id 0) 0 ≤ 100000) (hv : v1 = iI q) (hv2 : v2 = iI m) (h27 : zop e (zpc s) ≠ 27) (hs : zpc s + 1 < 1000 ↔ zpc s < 1000) (hw' : zWT e (zmem e s 7 id)) : ∃ M', runX d 46 [va_rf (some 88), .int v1, .int v2, va_rf (some (κ 6 id))] M = some (.null, M') ∧ zOb e κ (zmem e s 7 id) M M' := by
  obtain ⟨d, rfl⟩ : ∃ e, d = e + 1 := ⟨d - 1, by omega⟩
  subst hv; subst hv2
  have hk := hE.2.2.2.2.1.k8
  have C := h.1
  have kk := ck_88 C
  have h45 := hl.2.2.2
  have tp := hl.tp
  obtain ⟨g1, g2, g3, g4, g5, g6⟩ := zst0 hE hi h4
  obtain ⟨par, hpr⟩ : ∃ par, par = e.1 5 id 0 := ⟨_, rfl⟩
  obtain ⟨D, hD⟩ : ∃ D, D = e.1 11 id 0 := ⟨_, rfl⟩
  have eq1 : (if id < 96 then (0 : Int) else 1) = q := by
    have b24 := (hE.2.1.1 q hq).1
    by_cases y : id < 96
    · rw [if_pos y]; rcases hq with q0 | ⟨q0, -⟩ <;> omega
    · rw [if_neg y]; rcases hq with q0 | ⟨q0, -⟩ <;> omega
  have h7 := hE.2.2.2.2.2.2.2.2 id hi h4
  have zm : zmem e s 7 id = zcall e (if 0 ≤ D ∧ e.1 10 1 0 = 1 then zhear s D par (zruleOf e s id) else s) id D par (zruleOf e s id) := by
    unfold zmem
    rw [if_neg (by decide), if_neg (by decide), if_neg (by decide), if_neg (by decide), ← hD, ← hpr]
  rw [zm] at hw' ⊢
  rw [← hD] at hb h7
  rw [← hpr] at hpar g2 g6 h7
  rw [r46]; unfold b46; rw [aR_e, aI_e, aI_e, aR_e, aZ_e]; unfold c46
  have bs : (if (0 : Int32) < iI (ztp s) - iI par then iI (ztp s) - iI par else (0 : Int32)) = iI (ztp s - par) := by
    rw [if_pos (lsI_p li_0 (sbI rfl rfl) (by omega))]
    exact sbI rfl rfl
  rw [gtI_q kk h.2.2.2.2.1, gtI_q g1 g2, ltI_q bs, jn_v, zc46_lp (by omega) C hE hi h4 hq hid hmb, ← hD]
  rw [← eq1]
  rcases h7 with ⟨D1, -⟩ | ⟨D0, D8, -, e1, ru, -⟩
  · have zr : zruleOf e s id = -2 := by unfold zruleOf; rw [← hD, if_pos (by omega)]
    rw [zr, if_neg (fun z : 0 ≤ D ∧ e.1 10 1 0 = 1 => by omega)] at hw' ⊢
    obtain ⟨M', z1, z2⟩ := fc46_e (d := d) (DT := none) (v1 := iI (ztp s - par)) (v2 := iI (if id < 96 then 0 else 1)) (v3 := -2) (r := -2) (D := D) (par := par) (by omega) h hE hm hl hi h4 ⟨hpr, hpar⟩ rfl rfl rfl (Or.inl ⟨by omega, rfl⟩) h27 hs hw'
    refine ⟨M', ?_, z2⟩
    rw [if_neg (show ¬ 0 ≤ D by omega)]
    refine (jv_e).trans ?_
    refine (jn_v).trans ?_
    refine (if_pos rfl).trans ?_
    refine (jv_e).trans ?_
    refine (jn_v).trans ?_
    refine (if_pos rfl).trans ?_
    exact z1
  · have zr : zruleOf e s id = zrl e s D par (e.1 12 D 0).toNat := by unfold zruleOf; rw [← hD, if_neg (by omega), ← hpr]
    have rb := zrl_b (e := e) (s := s) (q := D) (par := par) (e.1 12 D 0).toNat
    rw [← zr] at rb
    obtain ⟨R, hR⟩ : ∃ R, R = zruleOf e s id := ⟨_, rfl⟩
    rw [← hR] at rb hw' zr ⊢
    obtain ⟨-, -, a3, -⟩ := hE.2.2.2.2.2.2.1 D D0 D8
    obtain ⟨t1, -⟩ := zTw_k C ⟨D0, D8⟩
    have S : ∀ x, 0 ≤ x → x < par → M.1 92 (ztp s - par + x).toNat = s.2 1 (zf s) (zh s - par + x) := fun x p q => by
      have := (h.2.2.1 (zf s) (by omega) (by unfold zf; omega)).2.2 (zh s - par + x) (by omega) (by show _ < zh s; omega)
      rw [← this]
      exact congrArg (fun z : Int => M.1 92 z.toNat) (by unfold ztp; omega)
    have fit := zc124 (d := d) (s := s) (v := iI (ztp s - par)) (by omega) C hE.2.2.2.2.2.2 ⟨D0, D8⟩ (by omega) rfl ru S
    rw [← zr] at fit
    have nn : ¬ some (zTw D) = none := fun z => nomatch z
    rw [if_pos D0, jv_e, jn_v]
    dsimp only
    rw [if_neg nn, gtP_q kk (cf_88_11 C), vC_e t1.1, cI_e fit, jv_e, jn_v]
    dsimp only
    rw [if_neg nn]
    have h6 := hE.2.2.2.2.1.1.2.2.2.1
    have hc0 := hE.2.2.2.2.1.2.2.2.2.1
    have rd : R < 0 ∧ R = -2 ∨ 0 ≤ R ∧ some (zTw D) = some (zTw D) ∧ 0 ≤ D ∧ D < 8 ∧ R < e.1 12 D 0 := by
      by_cases y : R < 0
      · exact Or.inl ⟨y, rb.2.2 y⟩
      · exact Or.inr ⟨by omega, rfl, D0, D8, by omega⟩
    rw [gtI_q kk h6]
    by_cases y : e.1 10 1 0 = 1
    · rw [if_pos (show 0 ≤ D ∧ e.1 10 1 0 = 1 from ⟨D0, y⟩)] at hw' ⊢
      have h4' : M.1 (zTw D) 4 = iI (s.1 17 D 0) := (h.2.1.2.2.2.2.2.1 D D0 D8).1
      obtain ⟨M1, z1, z2, z3, z4, z5, z6⟩ := zc125 (d := d) (v1 := iI (ztp s - par)) (w := iI R) (by omega) C ⟨D0, D8⟩ h4' (hb D0) e1 (by omega) (by omega) rfl
      have c1 := h.hear (r := R) (par := par) hl hk ⟨D0, D8⟩ (hb D0).1 z2 z3 z4 z5 z6 (by omega)
      have f1 : zFo κ M M1 := ⟨z2, fun a j p r w z => by
        obtain ⟨b1, b2, b3⟩ := zTw_xx ⟨D0, D8⟩
        exact z3 a j (fun w => by rw [w.1, w.2] at p; rw [b1] at p; cases p) (fun w => by rw [w] at p; rw [b2] at p; cases p) (fun w => by rw [w] at p; rw [b3] at p; cases p)⟩
      have E1 := hE.fo f1
      obtain ⟨M', y1, y2⟩ := fc46_e (d := d) (s := zhear s D par R) (DT := some (zTw D)) (v1 := iI (ztp s - par)) (v2 := iI (if id < 96 then 0 else 1)) (v3 := iI R) (r := R) (D := D) (par := par) (by omega) c1 E1 hm hl hi h4 ⟨hpr, hpar⟩ rfl rfl rfl rd h27 hs hw'
      refine ⟨M', ?_, y2.fo f1⟩
      rw [if_neg (show ¬ iI (if e.1 10 0 0 = 1 then 2 else if e.1 10 1 0 = 1 then 1 else 0) = 0 from eqI_n rfl li_0 (by rw [if_pos y]; split <;> omega)), gtP_q kk (cf_88_11 C), vC_e t1.1, cV_e z1]
      exact y1
    · have y0 : ¬ e.1 10 0 0 = 1 := fun z => y (hc0 z).1
      rw [if_neg (fun z : 0 ≤ D ∧ e.1 10 1 0 = 1 => y z.2)] at hw' ⊢
      obtain ⟨M', y1, y2⟩ := fc46_e (d := d) (s := s) (DT := some (zTw D)) (v1 := iI (ztp s - par)) (v2 := iI (if id < 96 then 0 else 1)) (v3 := iI R) (r := R) (D := D) (par := par) (by omega) h hE hm hl hi h4 ⟨hpr, hpar⟩ rfl rfl rfl rd h27 hs hw'
      refine ⟨M', ?_, y2⟩
      rw [if_pos (show iI (if e.1 10 0 0 = 1 then 2 else if e.1 10 1 0 = 1 then 1 else 0) = 0 from eqI_p rfl li_0 (by rw [if_neg y0, if_neg y]))]
      exact y1
end S99l
