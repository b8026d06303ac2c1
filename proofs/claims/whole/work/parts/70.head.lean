/-! a unit: the first object's head and end -/
def uF (u b : Int) : Nat → Int := fun f => if f = 1 ∨ f = 2 then u else if f = 3 ∨ f = 4 then b else if f = 5 then -2 else 0
section S70
variable {d : Nat} {T : Int → Int} {n m b a e s uc i f K c lo ki r v j u : Int} {kd pl E : Int → Int} {tx : Int → Int64} {N TT ex : Nat} {M0 M1 M M2 : Mem} {H H2 : HG} {t t2 : TS} {v0 v1 v2 : Int32} {L : Int → Int64} {k : Nat} {W : List (Nat × Nat)}
theorem cq65 (hd : 1 ≤ d) (hR : CT M) (hTk : TkA M m kd pl tx) (hm : m ≤ 1400) (hc : CS m kd e s uc M t) : ∃ y, runX d 65 [va_rf (some 65)] M = some (.long y, M) ∧ (t.2.1 = 0 → y = tx t.1) := by
  obtain ⟨d, rfl⟩ : ∃ e, d = e + 1 := ⟨d - 1, by omega⟩
  obtain ⟨i, h12, hi, hit⟩ : ∃ i, M.1 65 12 = iI i ∧ (0 ≤ i ∧ i < m) ∧ (t.2.1 = 0 → i = t.1) := by
    rcases hc with ⟨h0, ⟨a1, -⟩, hb⟩ | ⟨h1, i, sz, sn, u2, b1, b2, b3, b4, b5, b6, b7, b8⟩
    · exact ⟨t.1, a1, hb, fun _ => rfl⟩
    · exact ⟨i, b4, by omega, fun z => absurd z (by omega)⟩
  refine ⟨tx i, Rt.e ?_, fun z => by rw [hit z]⟩
  rw [r65]; unfold b65; rw [aR_e, aZ_e]; unfold c65
  refine rs1 (gtP_q (w := some 66) (ck_65 hR) (cf_65_0 hR)) ?_
  refine rs1 (gtP_q (w := some 70) (ck_66 hR) (cf_66_4 hR)) ?_
  refine rs1 (gtI_q (w := iI i) (ck_65 hR) (h12)) ?_
  refine rs1 (alL_q (n := 3001) (z := i) (w := (tx i)) (ck_70 hR) (rfl) (by omega) ((hTk i (by omega) (by omega)).2.2)) ?_
  exact Rt.ok ⟨rfl, rfl⟩
theorem mc76 (hd : 11 ≤ d) (hS : TkS T n m kd pl E tx) (h : CQ m kd pl tx N TT ex M0 M1 e s uc M H t) (h0 : t.2.1 = 0) (hB : CB m e s uc) (hn : 0 ≤ hEN H 1 ∧ hEN H 1 ≤ 8) (hn2 : 0 ≤ hEN H 2 ∧ hEN H 2 ≤ 100) : Rt (runX d 76 [va_rf (some 65)] M) (fun _ M2 => ∃ (rr a b b9 : Int) (x : Nat) (y : Nat → Nat) (ow : Nat → Int) (X : Int64), ((tE kd pl 200 t).2.1 = 0 → X = tx (tE kd pl 200 t).1 ∧ LcF (hEX H 1) (hEN H 1) X rr) ∧ ((tN kd pl a b (tE kd pl 200 t)).2.1 = 0 → b9 = e) ∧ ((a = 0 ∧ rr = -1) ∨ (a = 1 ∧ 0 ≤ rr)) ∧ ((b = 0 ∧ hEN H 1 < 8) ∨ (b = 1 ∧ 8 ≤ hEN H 1)) ∧ CQ m kd pl tx N TT ex M0 M1 e s uc M2 (aU H ow x y (uF (hEN H 2) b9) X) (tE kd pl 123 (tN kd pl a b (tE kd pl 200 t)))) := by
  obtain ⟨d, rfl⟩ : ∃ e, d = e + 1 := ⟨d - 1, by omega⟩
  have hB' := hB
  unfold CB at hB'
  have hm14 : m ≤ 1400 := hB'.1
  rw [r76]; unfold b76; rw [aR_e, aZ_e]; unfold c76
  refine rs1 (vC_e (ck_65 h.1.1)) ?_
  refine Rc_V (cq64 (K := 200) (by omega) hS h.1.1 h.1.2 h.2.2.2.2 hB li_200 (by omega)) fun v M3 p3 => ?_
  have g := h.cp p3 tE_s
  obtain ⟨t1, ht1⟩ : ∃ z, z = tE kd pl 200 t := ⟨_, rfl⟩
  rw [← ht1] at g ⊢
  refine rs1 (cV_e rfl) ?_
  refine rs1 (vC_e (ck_65 g.1.1)) ?_
  obtain ⟨y3, e3, hy3⟩ := cq65 (d := d) (by omega) g.1.1 g.1.2 hm14 g.2.2.2.2
  refine rs1 (cL_e e3) ?_
  refine rs1 (vC_e (ck_65 g.1.1)) ?_
  refine Rc_I (a70 (y := y3) (by omega) g.1.1 g.2.2.2.1) fun v Ma ⟨rr, hv, hMa, lc⟩ => ?_
  subst hv
  rw [hMa]
  refine rs1 (cI_e rfl) ?_
  have lb := lc.bd
  refine Rt.jn (fun w => ∃ a, w = iI a ∧ ((a = 0 ∧ rr = -1) ∨ (a = 1 ∧ 0 ≤ rr))) (fun w hw => ?_) (fun j hj => ?_)
  · obtain ⟨a, hw, ha⟩ := hw
    refine rs1 (gtP_q (ck_65 g.1.1) (g.2.2.2.1.1.2.2.1 1 (by omega) (by omega))) ?_
    refine rs1 (vC_e (g.2.2.2.1.2.1 1 (by omega) (by omega)).1.2.1) ?_
    refine rs1 (cI_e (ls_size (by omega) (g.2.2.2.1.2.1 1 (by omega) (by omega)))) ?_
    refine Rt.jn (fun w => ∃ b, w = iI b ∧ ((b = 0 ∧ hEN H 1 < 8) ∨ (b = 1 ∧ 8 ≤ hEN H 1))) (fun w2 hw2 => ?_) (fun j hj => ?_)
    · obtain ⟨b, hw2, hb⟩ := hw2
      refine rs1 (vC_e (ck_65 g.1.1)) ?_
      refine Rc_L (cq66 (by omega) hS g.1.1 g.1.2 g.2.2.2.2 hB hw hw2 (by omega) (by omega)) fun v M5 ⟨y5, hv5, hy5, q5⟩ => ?_
      subst hv5
      refine rs1 (cL_e rfl) ?_
      have g5 := g.cp q5 fun z => (tN_0 z).1
      refine rs1 (gtP_q (ck_65 g5.1.1) (g5.2.2.2.1.1.2.2.1 1 (by omega) (by omega))) ?_
      refine rs1 (nO_e) ?_
      obtain ⟨q8, f8⟩ := g5.2.2.2.1.alu (W := []) (by have := g5.nn; omega)
      have g8 := g5.put ⟨q8, f8⟩
      obtain ⟨M8, hM8⟩ : ∃ z, z = nw M5 11 10 := ⟨_, rfl⟩
      rw [← hM8] at g8
      have k8 : M8.2.2.2[ln M5]? = some (11, 10) := by rw [hM8]; exact nw_kd
      have i8 : ∀ j, M8.1 (ln M5) j = iI 0 := fun j => by rw [hM8]; exact nw_i
      have x259 : 259 ≤ ln M5 := by have := g5.nn; omega
      obtain ⟨o, ho⟩ : ∃ z, z = owx (hOw H) (ln M5) (1000 + hEN H 1) := ⟨_, rfl⟩
      have o8 : o (ln M5) = 1000 + hEN H 1 := by rw [ho]; exact owx_n (Nat.le_refl _)
      rw [← ho] at g8
      show Rt (gtP (7, 20) (nw M5 11 10) (some 65) 2 _) _
      rw [← hM8]
      refine rs1 (gtP_q (ck_65 g8.1.1) (g8.2.2.2.1.1.2.2.1 2 (by omega) (by omega))) ?_
      refine rs1 (vC_e (g8.2.2.2.1.2.1 2 (by omega) (by omega)).1.2.1) ?_
      refine rs1 (cI_e (ls_size (by omega) (g8.2.2.2.1.2.1 2 (by omega) (by omega)))) ?_
      obtain ⟨s5, b9, k5, m16, m9, m13, mb1, mb2, mok, mft⟩ := g8.2.2.2.2.nm hB
      refine rs1 (gtI_q (ck_65 g8.1.1) m9) ?_
      refine rs1 (vC_e k8) ?_
      obtain ⟨M9, o9, e9, q9, p9, f9⟩ := a126 (d := d) (W := []) (Y := y5) (u := hEN H 2) (b := b9) (by omega) g8.2.2.2.1 k8 o8 x259 (i8 7) (i8 9) rfl rfl
      refine rs1 (cV_e e9) ?_
      have g9 := g8.put ⟨q9, f9⟩
      refine rs1 (vC_e (g9.2.2.2.1.2.1 1 (by omega) (by omega)).1.2.1) ?_
      obtain ⟨M10, e10, q10, f10⟩ := q9.addu (W := []) (d := d) (by omega) p9 (by show hEN H 1 < 100; omega)
      refine rs1 (cI_e e10) ?_
      have g10 := g9.put ⟨q10, f10⟩
      refine rs1 (vC_e (ck_65 g10.1.1)) ?_
      refine Rc_V (cq64 (K := 123) (by omega) hS g10.1.1 g10.1.2 g10.2.2.2.2 hB li_123 (by omega)) fun v M11 p11 => ?_
      have g11 := g10.cp p11 tE_s
      refine rs1 (cV_e rfl) ?_
      refine Rt.ok ⟨rr, a, b, b9, ln M5, _, _, y5, fun z => ?_, fun z => (mok z).2.1, ha, hb, g11⟩
      have ey := hy5 z
      exact ⟨ey, by rw [ey, ← hy3 z]; exact lc⟩
    · by_cases c : hEN H 1 < 8
      · refine rs1 (if_pos (lsI_p rfl li_8 (by omega))) ?_
        exact hj _ ⟨0, li_0, by omega⟩
      · refine rs1 (if_neg (lsI_n rfl li_8 (by omega))) ?_
        exact hj _ ⟨1, li_1, by omega⟩
  · by_cases c : rr = -1
    · refine rs1 (if_pos (lsI_p (x := -2) (y := 0) (by rw [if_pos c]) li_0 (by omega))) ?_
      exact hj _ ⟨0, li_0, by omega⟩
    · refine rs1 (if_neg (lsI_n (x := rr) (y := 0) (by rw [if_neg c]) li_0 (by omega))) ?_
      exact hj _ ⟨1, li_1, by omega⟩
end S70
