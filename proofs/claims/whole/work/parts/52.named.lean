/-! the class: a new member, a new CASE, a new property, with its NAME -/
def W_66 : List (Nat × Nat) := [(65, 10), (65, 11), (65, 12), (65, 13)]
/-- behind newName(): a NAME that is not told, and room; or a FAULT -/
def T66 (kd pl : Int → Int) (i a b : Int) (M : Mem) : Prop := (kd i = 3 ∧ a = 0 ∧ b = 0 ∧ M.1 65 12 = iI (i + 1) ∧ M.1 65 13 = iI (kd (i + 1)) ∧ M.1 65 10 = iI 0) ∨ ∃ f, ((kd i = 3 ∧ a = 1 ∧ f = 3) ∨ (kd i = 3 ∧ a = 0 ∧ b = 1 ∧ f = 6) ∨ (kd i = 1 ∧ f = 1) ∨ (kd i ≠ 1 ∧ kd i ≠ 3 ∧ f = 2)) ∧ M.1 65 12 = iI i ∧ M.1 65 13 = iI 2 ∧ M.1 65 10 = iI f ∧ M.1 65 11 = iI (pl i)
section S52
variable {N TT ex k x : Nat} {W : List (Nat × Nat)} {M M' M2 : Mem} {H : HG} {T : Int → Int} {n m i a b u : Int} {kd pl E : Int → Int} {tx : Int → Int64} {F : Nat → Int} {X : Int64} {v0 v1 : Int32}
theorem T66.fn (h : T66 kd pl i a b M) (f : FN N W M M') (w : inW W 65 10 = false ∧ inW W 65 11 = false ∧ inW W 65 12 = false ∧ inW W 65 13 = false) : T66 kd pl i a b M' := by
  obtain ⟨w0, w1, w2, w3⟩ := w
  have e0 := f.i 65 10 ⟨w0, by omega⟩
  have e1 := f.i 65 11 ⟨w1, by omega⟩
  have e2 := f.i 65 12 ⟨w2, by omega⟩
  have e3 := f.i 65 13 ⟨w3, by omega⟩
  unfold T66 at h ⊢
  rw [e0, e1, e2, e3]
  exact h
theorem a66T {d : Nat} (hd : 2 ≤ d) (hS : TkS T n m kd pl E tx) (hR : CT M) (hTk : TkA M m kd pl tx) (h12 : M.1 65 12 = iI i) (h13 : M.1 65 13 = iI (kd i)) (h10 : M.1 65 10 = iI 0) (hv0 : v0 = iI a) (hv1 : v1 = iI b) (h : 0 ≤ i ∧ i < m ∧ m ≤ 1400) (ha : a = 0 ∨ a = 1) (hb : b = 0 ∨ b = 1) : ∃ M2, runX d 66 [va_rf (some 65), .int v0, .int v1] M = some (.long (tx i), M2) ∧ Fr W_66 M M2 ∧ T66 kd pl i a b M2 := by
  have fs : ∀ f : Int, Fr W_66 M (sI (sI (sI M 65 10 (iI f)) 65 11 (iI (pl i))) 65 13 (iI 2)) := fun f => Fr.sI (by decide) (Fr.sI (by decide) (Fr.sI (by decide) Fr.r))
  have st : ∀ f : Int, (sI (sI (sI M 65 10 (iI f)) 65 11 (iI (pl i))) 65 13 (iI 2)).1 65 12 = iI i ∧ (sI (sI (sI M 65 10 (iI f)) 65 11 (iI (pl i))) 65 13 (iI 2)).1 65 13 = iI 2 ∧ (sI (sI (sI M 65 10 (iI f)) 65 11 (iI (pl i))) 65 13 (iI 2)).1 65 10 = iI f ∧ (sI (sI (sI M 65 10 (iI f)) 65 11 (iI (pl i))) 65 13 (iI 2)).1 65 11 = iI (pl i) := fun f => ⟨(sI_nej (by decide)).trans ((sI_nej (by decide)).trans ((sI_nej (by decide)).trans h12)), sI_eq, (sI_nej (by decide)).trans ((sI_nej (by decide)).trans sI_eq), (sI_nej (by decide)).trans sI_eq⟩
  by_cases k3 : kd i = 3
  · rcases ha with rfl | rfl
    · rcases hb with rfl | rfl
      · have hm := hS.more i (by omega) (by omega) (by omega)
        exact ⟨_, a66_p hd hS hR hTk h12 h13 h10 hv0 hv1 ⟨h.1, h.2.1, hm, k3, rfl, rfl⟩, Fr.sI (by decide) (Fr.sI (by decide) Fr.r), Or.inl ⟨k3, rfl, rfl, (sI_nej (by decide)).trans sI_eq, sI_eq, (sI_nej (by decide)).trans ((sI_nej (by decide)).trans h10)⟩⟩
      · exact ⟨_, a66_6 hd hS hR hTk h12 h13 h10 hv0 hv1 ⟨h.1, h.2.1, k3, rfl, rfl⟩, fs 6, Or.inr ⟨6, Or.inr (Or.inl ⟨k3, rfl, rfl, rfl⟩), st 6⟩⟩
    · exact ⟨_, a66_3 hd hS hR hTk h12 h13 h10 hv0 hv1 ⟨h.1, h.2.1, k3, rfl⟩, fs 3, Or.inr ⟨3, Or.inl ⟨k3, rfl, rfl⟩, st 3⟩⟩
  · by_cases k1 : kd i = 1
    · exact ⟨_, a66_1 hd hS hR hTk h12 h13 h10 hv0 hv1 ⟨h.1, h.2.1, k1⟩, fs 1, Or.inr ⟨1, Or.inr (Or.inr (Or.inl ⟨k1, rfl⟩)), st 1⟩⟩
    · exact ⟨_, a66_2 hd hS hR hTk h12 h13 h10 hv0 hv1 ⟨h.1, h.2.1, k1, k3⟩, fs 2, Or.inr ⟨2, Or.inr (Or.inr (Or.inr ⟨k1, k3, rfl⟩)), st 2⟩⟩
theorem TdA.bd {r : Int} {y : Int64} (h : TdA H u y r) : r = 0 ∨ r = 1 := by
  rcases h with ⟨h, -⟩ | ⟨h, -⟩ <;> omega
/-- a part is made, named, and comes into its list -/
theorem a78x {d : Nat} (hd : 8 ≤ d) (hs : HS N TT (ex + 1) M H) (p : PD M H k x (hEN H k) F X) (h1 : 2 ≤ k) (h2 : k ≤ 4) (hn : hEN H k < 100) (hC : CT M) : ∃ M2, runX d 350 [va_rf (some (hCL H k)), va_rf (some x)] M = some (.int (iI 1), M2) ∧ (∃ ow, HS N TT ex M2 (aP H ow k x F X)) ∧ FN N [] M M2 := by
  obtain ⟨M2, e1, e2, e3⟩ := hs.addp (W := []) hd p h1 h2 hn
  exact ⟨M2, e1, ⟨_, e2⟩, e3⟩
theorem a78 {d : Nat} {v2 : Int32} {ki lo : Int} (hd : 9 ≤ d) (hS : TkS T n m kd pl E tx) (hR : CT M) (hTk : TkA M m kd pl tx) (h12 : M.1 65 12 = iI i) (h13 : M.1 65 13 = iI (kd i)) (h10 : M.1 65 10 = iI 0) (hs : HS N TT ex M H) (hv1 : v1 = iI ki) (hv2 : v2 = iI lo) (hlo : 0 ≤ lo ∧ lo ≤ 1) (h : 0 ≤ i ∧ i < m ∧ i + 1 < m ∧ m ≤ 1400) (hu : 1 ≤ hEN H 1) (hn : hEN H 2 < 100) (hf : 0 ≤ hEF H 1 1 (hEN H 1 - 1) ∧ hEF H 1 1 (hEN H 1 - 1) ≤ hEN H 2) : Rt (runX d 78 [va_rf (some 65), .int v1, .int v2] M) (fun v M2 => ∃ x r b, v = va_rf (some x) ∧ TdA H (hEN H 1 - 1) (tx (i + 1)) r ∧ ((b = 0 ∧ hEN H 2 - hEF H 1 1 (hEN H 1 - 1) < 12) ∨ (b = 1 ∧ 12 ≤ hEN H 2 - hEF H 1 1 (hEN H 1 - 1))) ∧ T66 kd pl (i + 1) r b M2 ∧ FN N W_66 M M2 ∧ ∃ ow, HS N TT ex M2 (aP H ow 2 x (fun f => if f = 3 then lo else if f = 1 then hEN H 1 - 1 else if f = 2 then ki else if f = 5 then -2 else 0) (tx (i + 1)))) := by
  obtain ⟨d, rfl⟩ : ∃ e, d = e + 1 := ⟨d - 1, by omega⟩
  have hN := hs.1.1
  have lN : 259 ≤ ln M := by omega
  rw [r78]; unfold b78; rw [aR_e, aI_e, aI_e, aZ_e]; unfold c78
  refine rs1 (vC_e (ck_65 hR)) ?_
  refine rs1 (cV_e (a63q (by omega) hS hR hTk h12 h13 h10 (i2 := i + 1) rfl ⟨h.1, h.2.1, h.2.2.1⟩)) ?_
  obtain ⟨M1, hM1⟩ : ∃ Z, Z = sI (sI M 65 12 (iI (i + 1))) 65 13 (iI (kd (i + 1))) := ⟨_, rfl⟩
  rw [← hM1]
  have f1 : Fr W_66 M M1 := by rw [hM1]; exact Fr.sI (by decide) (Fr.sI (by decide) Fr.r)
  have g12 : M1.1 65 12 = iI (i + 1) := by rw [hM1]; exact (sI_nej (by decide)).trans sI_eq
  have g13 : M1.1 65 13 = iI (kd (i + 1)) := by rw [hM1]; exact sI_eq
  have g10 : M1.1 65 10 = iI 0 := (by rw [hM1]; exact (sI_nej (by decide)).trans ((sI_nej (by decide)).trans h10))
  clear hM1
  have hR1 := hR.fr f1
  have hT1 := hTk.fr f1 (by decide)
  have hs1 := hs.fr f1 (by decide)
  have lu := hs1.2.1 1 (by omega) (by omega)
  have lm := hs1.2.1 2 (by omega) (by omega)
  have p1 := hs1.1.2.2.1 1 (by omega) (by omega)
  have p2 := hs1.1.2.2.1 2 (by omega) (by omega)
  have n1 := hs1.n109 (k := 1) (by omega) (by omega)
  have n2 := hs1.n109 (k := 2) (by omega) (by omega)
  refine rs1 (gtP_q (ck_65 hR1) p1) ?_
  refine rs1 (vC_e lu.1.2.1) ?_
  refine rs1 (cI_e (ls_size (by omega) lu)) ?_
  refine rs1 (ltI_q (z := hEN H 1 - 1) (sbI rfl li_1)) ?_
  refine rs1 (gtP_q (ck_65 hR1) p2) ?_
  refine rs1 (vC_e lm.1.2.1) ?_
  refine rs1 (cI_e (ls_size (by omega) lm)) ?_
  refine rs1 (gtP_q (ck_65 hR1) p1) ?_
  refine rs1 (vC_e lu.1.2.1) ?_
  refine rs1 (cP_e (ls_get (j := hEN H 1 - 1) (by omega) lu rfl (by omega))) ?_
  obtain ⟨⟨u1, u2, u3⟩, u4, u5, u6⟩ := hs1.2.2.2 (hEN H 1 - 1) (by omega) (by omega)
  refine rs1 (cst_e u1) ?_
  refine rs1 (gtI_q u1 (u4 1 (by omega) (by omega) (by omega) (by omega))) ?_
  refine rs1 (ltI_q (z := hEN H 2 - hEF H 1 1 (hEN H 1 - 1)) (sbI rfl rfl)) ?_
  refine rs1 (nO_e) ?_
  -- the part, with nothing in it
  obtain ⟨hs2, hp2, fn2⟩ := hs1.alloc (W := []) (k := 2) (by omega) (by omega) (by rw [f1.lq]; exact lN)
  obtain ⟨o, ho⟩ : ∃ z, z = owx (hOw H) (ln M1) (1000 * (2 : Nat) + hEN H 2) := ⟨_, rfl⟩
  rw [← ho] at hs2 hp2
  obtain ⟨M3, hM3⟩ : ∃ z, z = nw M1 8 9 := ⟨_, rfl⟩
  rw [← hM3] at hs2 hp2 fn2
  show Rt (vC (7, 20) (nw M1 8 9) (some 65) _) _
  rw [← hM3]
  have hR3 := hR1.fn fn2
  have hT3 := hT1.fn fn2 (by decide)
  have q12 := (fn2.i 65 12 (by decide)).trans g12
  have q13 := (fn2.i 65 13 (by decide)).trans g13
  have q10 := (fn2.i 65 10 (by decide)).trans g10
  refine rs1 (vC_e (ck_65 hR3)) ?_
  refine Rc_I (a73 (y := tx (i + 1)) (by omega) hR3 hs2 (a65 (by omega) hS hR3 hT3 q12 q13 q10 (by omega))) fun v Ma ha => ?_
  obtain ⟨r, rfl, hMa, td⟩ := ha
  rw [hMa]
  refine rs1 (cI_e rfl) ?_
  have hr := td.bd
  refine Rt.jn (fun w => ∃ b, w = iI b ∧ ((b = 0 ∧ hEN H 2 - hEF H 1 1 (hEN H 1 - 1) < 12) ∨ (b = 1 ∧ 12 ≤ hEN H 2 - hEF H 1 1 (hEN H 1 - 1)))) (fun w hw => ?_) (fun j hj => ?_)
  · obtain ⟨b, hw, hb⟩ := hw
    have hb' : b = 0 ∨ b = 1 := by omega
    refine rs1 (vC_e (ck_65 hR3)) ?_
    obtain ⟨M4, e4, f4, t4⟩ := a66T (d := d) (by omega) hS hR3 hT3 q12 q13 q10 rfl hw (by omega) hr hb'
    refine rs1 (cL_e e4) ?_
    have hs4 := hs2.fr f4 (by decide)
    have hp4 := hp2.fr f4 (by decide)
    have hR4 := hR3.fr f4
    refine rs1 (vC_e hp4.1.1) ?_
    obtain ⟨M5, e5, hp5, g5⟩ := hp4.ctor (d := d) (Y := tx (i + 1)) (u := hEN H 1 - 1) (by omega) rfl hv1
    refine rs1 (cV_e e5) ?_
    obtain ⟨hs5, fn5⟩ := hs4.pend (W := []) hp4 (by omega) (by omega) g5
    refine rs1 (ptZ_q (z := lo) hp5.1.1 hv2 (by omega)) ?_
    have hp6 := hp5.set (f := 3) (v := lo) (by omega)
    obtain ⟨hs6, fn6⟩ := hs5.pend (W := []) (M' := sI M5 (ln M1) 3 (iI lo)) hp5 (by omega) (by omega) (Fo.sI rfl)
    have hR6 := (hR4.fn fn5).fn fn6
    refine rs1 (gtP_q (ck_65 hR6) (hs6.1.2.2.1 2 (by omega) (by omega))) ?_
    refine rs1 (vC_e (hs6.2.1 2 (by omega) (by omega)).1.2.1) ?_
    obtain ⟨M7, e7, ⟨ow, hs7⟩, fn7⟩ := a78x (d := d) (by omega) hs6 hp6 (by omega) (by omega) hn hR6
    refine rs1 (cI_e e7) ?_
    have mn : ∀ q, q ∈ ([] : List (Nat × Nat)) → q ∈ W_66 := fun q z => nomatch z
    have l1 : 259 ≤ N ∧ N ≤ ln M1 := ⟨hN.1, by rw [f1.lq]; exact hN.2⟩
    have l3 : 259 ≤ N ∧ N ≤ ln M3 := ⟨hN.1, fn2.len⟩
    exact Rt.ok ⟨ln M1, r, b, rfl, td, hb, t4.fn (fn5.tr (fn6.tr fn7)) (by decide), (f1.n hN (by decide)).tr ((fn2.m mn).tr ((f4.n l3 (by decide)).tr ((fn5.m mn).tr ((fn6.m mn).tr (fn7.m mn))))), ow, hs7⟩
  · by_cases c : hEN H 2 - hEF H 1 1 (hEN H 1 - 1) < 12
    · refine rs1 (if_pos (lsI_p rfl li_12 (by omega))) ?_
      exact hj _ ⟨0, li_0, Or.inl ⟨rfl, c⟩⟩
    · refine rs1 (if_neg (lsI_n rfl li_12 (by omega))) ?_
      exact hj _ ⟨1, li_1, Or.inr ⟨rfl, by omega⟩⟩
end S52
