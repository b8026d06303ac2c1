/-! members: a test, the first object's side -/
def tR (kd pl : Int → Int) (tx : Int → Int64) (t : TS) : TS := if t.2.1 = 0 ∧ kd t.1 = 212 then tM kd pl tx 1 999999999 (t.1 + 1, 0, 0) else t
def vR (kd : Int → Int) (tx : Int → Int64) (t : TS) : Int := if t.2.1 = 0 ∧ kd t.1 = 212 then nb tx (t.1 + 1) else 0
def vK (kd : Int → Int) (K : Int) (t : TS) : Int := if t.2.1 = 0 ∧ kd t.1 = K then 1 else 0
def wX (kd pl : Int → Int) (tx : Int → Int64) (c0 : Int) (t : TS) (k : Nat) (t5 : TS) (V : Nat → Int) : Prop := (t.2.1 = 0 ∧ kd t.1 = 213 ∧ wE kd pl c0 (t.1 + 1, 0, 0) k ∧ t5 = wQ kd pl c0 (t.1 + 1, 0, 0) k ∧ V = wV kd pl tx c0 (t.1 + 1, 0, 0)) ∨ (¬ (t.2.1 = 0 ∧ kd t.1 = 213) ∧ k = 0 ∧ t5 = t ∧ V = fun _ => 0)
section S56e
variable {d : Nat} {T : Int → Int} {n m b a e s uc i f K c lo ki r v j c0 u y : Int} {kd pl E : Int → Int} {tx : Int → Int64} {N TT ex : Nat} {M0 M1 M M2 : Mem} {H H' H2 : HG} {t t2 t5 : TS} {v0 v1 v2 : Int32} {L : Int → Int64} {k : Nat} {W : List (Nat × Nat)} {X : Int64} {V : Nat → Int}
theorem tR_s (h : (tR kd pl tx t).2.1 = 0) : t.2.1 = 0 := by
  by_cases c : t.2.1 = 0
  · exact c
  · rw [show tR kd pl tx t = t from if_neg fun z => c z.1] at h; exact h
theorem wX_s (h : wX kd pl tx c0 t k t5 V) (h5 : t5.2.1 = 0) : t.2.1 = 0 := by
  rcases h with ⟨q, -⟩ | ⟨-, -, q, -⟩
  · exact q
  · rw [← q]; exact h5
theorem WR2.base {ow : Nat → Int} {x : Nat} {F : Nat → Int} (h1 : F 1 = u) (h6 : F 6 = r) (h7 : F 7 = y) : WR2 H (aP H ow 3 x F X) (hEN H 3) 0 u r y X := by
  have ne : ∀ k', k' ≠ 3 → hEN (aP H ow 3 x F X) k' = hEN H k' := fun k' z => if_neg z
  refine ⟨⟨by rw [aP_n]; omega, ne 1 (by omega), ne 2 (by omega), ne 4 (by omega)⟩, fun k' f' j' a b q => if_neg fun z => q ⟨z.1, by omega⟩, fun k' j' a b q => if_neg fun z => q ⟨z.1, by omega⟩, fun _ _ _ => rfl, fun _ _ _ => rfl, fun j' a b => ?_⟩
  have z : j' = hEN H 3 := by omega
  exact ⟨if_pos ⟨rfl, z⟩, (if_pos ⟨rfl, z⟩ : hEF (aP H ow 3 x F X) 3 1 j' = F 1).trans h1, (if_pos ⟨rfl, z⟩ : hEF (aP H ow 3 x F X) 3 6 j' = F 6).trans h6, (if_pos ⟨rfl, z⟩ : hEF (aP H ow 3 x F X) 3 7 j' = F 7).trans h7⟩
theorem WR2.s7 (h : WR2 H H' c0 0 u r y X) : WR2 H (sF H' 3 7 c0 v) c0 0 u r v X := by
  obtain ⟨h1, h2, h3, h4, h5, h6⟩ := h
  refine ⟨h1, fun k' f' j' a b q => (if_neg fun z => q ⟨z.1, by omega⟩).trans (h2 k' f' j' a b q), h3, h4, h5, fun j' a b => ?_⟩
  obtain ⟨q1, q2, q3, q4⟩ := h6 j' a b
  exact ⟨q1, (sF_n (by omega)).trans q2, (sF_n (by omega)).trans q3, if_pos ⟨rfl, rfl, by omega⟩⟩
theorem WR2.s6 (h : WR2 H H' c0 0 u r y X) : WR2 H (sF H' 3 6 c0 v) c0 0 u v y X := by
  obtain ⟨h1, h2, h3, h4, h5, h6⟩ := h
  refine ⟨h1, fun k' f' j' a b q => (if_neg fun z => q ⟨z.1, by omega⟩).trans (h2 k' f' j' a b q), h3, h4, h5, fun j' a b => ?_⟩
  obtain ⟨q1, q2, q3, q4⟩ := h6 j' a b
  exact ⟨q1, (sF_n (by omega)).trans q2, if_pos ⟨rfl, rfl, by omega⟩, (sF_n (by omega)).trans q4⟩
theorem mc84 (hd : 11 ≤ d) (hS : TkS T n m kd pl E tx) (h : CQ m kd pl tx N TT ex M0 M1 e 0 uc M H t) (h0 : t.2.1 = 0) (hB : CB m e 0 uc) (hk : kd t.1 = 210) (hu : 1 ≤ hEN H 1) (hn : 0 ≤ hEN H 3 ∧ hEN H 3 ≤ 16) : Rt (runX d 84 [va_rf (some 65)] M) (fun _ M2 => ∃ r b k H' t5 V r' y', TdA H (hEN H 1 - 1) (tx (t.1 + 1)) r ∧ ((b = 0 ∧ hEN H 3 < 16) ∨ (b = 1 ∧ 16 ≤ hEN H 3)) ∧ wX kd pl tx (hEN H 3) (tR kd pl tx (tK kd 211 (tN kd pl r b (t.1 + 1, 0, 0)))) k t5 V ∧ k ≤ 20 ∧ CQ m kd pl tx N TT ex M0 M1 e 1 uc M2 H' t5 ∧ WR2 H H' (hEN H 3) k (hEN H 1 - 1) r' y' (tx (t.1 + 1)) ∧ (t5.2.1 = 0 → r' = vR kd tx (tK kd 211 (tN kd pl r b (t.1 + 1, 0, 0))) ∧ y' = vK kd 211 (tN kd pl r b (t.1 + 1, 0, 0)) ∧ (∀ j : Nat, j ≤ k → hEF H' 3 4 (hEN H 3 + j) = V j ∧ hEF H' 3 5 (hEN H 3 + j) = e) ∧ LA 76 M2 (up1 L 0 26996) 1)) := by
  obtain ⟨d, rfl⟩ : ∃ e, d = e + 1 := ⟨d - 1, by omega⟩
  obtain ⟨hc, hi⟩ := h.sc h0
  have hm := hS.more t.1 (by omega) (by omega) (by omega)
  rw [r84]; unfold b84; rw [aR_e, aZ_e]; unfold c84
  refine rs1 (vC_e (ck_65 h.1.1)) ?_
  refine Rc_V (cq63 (by omega) hS h.1.1 h.1.2 h.2.2.2.2 (fun _ => hm)) fun v M3 p => ?_
  have g := h.cp p tA_s
  rw [show tA t = (t.1 + 1, 0, 0) from if_pos h0] at g
  refine rs1 (cV_e rfl) ?_
  refine rs1 (gtP_q (ck_65 g.1.1) (g.2.2.2.1.1.2.2.1 3 (by omega) (by omega))) ?_
  refine rs1 (vC_e (g.2.2.2.1.2.1 3 (by omega) (by omega)).1.2.1) ?_
  refine rs1 (cI_e (ls_size (by omega) (g.2.2.2.1.2.1 3 (by omega) (by omega)))) ?_
  obtain ⟨hc3, hi3⟩ := g.sc rfl
  refine rs1 (vC_e (ck_65 g.1.1)) ?_
  refine Rc_I (a73 (y := tx (t.1 + 1)) (by omega) g.1.1 g.2.2.2.1 (a65 (by omega) hS g.1.1 g.1.2 hc3.1 hc3.2.1 hc3.2.2.1 hi3)) fun v Ma ⟨r, hv, hMa, td⟩ => ?_
  subst hv
  rw [hMa]
  refine rs1 (cI_e rfl) ?_
  have hr := td.bd
  refine Rt.jn (fun w => ∃ b, w = iI b ∧ ((b = 0 ∧ hEN H 3 < 16) ∨ (b = 1 ∧ 16 ≤ hEN H 3))) (fun w hw => ?_) (fun j hj => ?_)
  · obtain ⟨b, hw, hb⟩ := hw
    have hb' : b = 0 ∨ b = 1 := by omega
    refine rs1 (vC_e (ck_65 g.1.1)) ?_
    refine Rc_L (cq66 (by omega) hS g.1.1 g.1.2 g.2.2.2.2 hB rfl hw hr hb') fun v M5 ⟨y5, hv5, hy5, q5⟩ => ?_
    subst hv5
    have ey := hy5 rfl
    dsimp only at ey
    subst ey
    refine rs1 (cL_e rfl) ?_
    have g5 := g.cp q5 fun z => (tN_0 z).1
    refine rs1 (nO_e) ?_
    obtain ⟨g8, p8⟩ := g5.al (k := 3) (by omega) (by omega)
    obtain ⟨o, ho⟩ : ∃ z, z = owx (hOw H) (ln M5) (1000 * (3 : Nat) + hEN H 3) := ⟨_, rfl⟩
    rw [← ho] at g8 p8
    obtain ⟨M8, hM8⟩ : ∃ z, z = nw M5 8 9 := ⟨_, rfl⟩
    rw [← hM8] at g8 p8
    show Rt (gtP (7, 20) (nw M5 8 9) (some 65) 1 _) _
    rw [← hM8]
    refine rs1 (gtP_q (ck_65 g8.1.1) (g8.2.2.2.1.1.2.2.1 1 (by omega) (by omega))) ?_
    refine rs1 (vC_e (g8.2.2.2.1.2.1 1 (by omega) (by omega)).1.2.1) ?_
    refine rs1 (cI_e (ls_size (by omega) (g8.2.2.2.1.2.1 1 (by omega) (by omega)))) ?_
    refine rs1 (vC_e p8.1.1) ?_
    obtain ⟨M9, e9, p9, f9⟩ := p8.ctor (d := d) (Y := tx (t.1 + 1)) (u := hEN H 1 - 1) (b := 5) (by omega) (sbI rfl li_1) li_5
    refine rs1 (cV_e e9) ?_
    have g9 := g8.pe p8 (by omega) (by omega) f9
    refine rs1 (gtP_q (ck_65 g9.1.1) (g9.2.2.2.1.1.2.2.1 3 (by omega) (by omega))) ?_
    refine rs1 (vC_e (g9.2.2.2.1.2.1 3 (by omega) (by omega)).1.2.1) ?_
    obtain ⟨M10, e10, q10, f10⟩ := g9.2.2.2.1.addp (W := []) (d := d) (by omega) p9 (by omega) (by omega) (by show hEN H 3 < 100; omega)
    refine rs1 (cI_e e10) ?_
    have g10 := g9.put ⟨q10, f10⟩
    obtain ⟨H1, hH1⟩ : ∃ z, z = aP H (owx (hOw (wOw H o)) (ln M9) 3) 3 (ln M5) (fun f => if f = 1 then hEN H 1 - 1 else if f = 2 then 5 else if f = 5 then -2 else 0) (tx (t.1 + 1)) := ⟨_, rfl⟩
    have g1 : CQ m kd pl tx N TT ex M0 M1 e 0 uc M10 H1 (tN kd pl r b (t.1 + 1, 0, 0)) := by rw [hH1]; exact g10
    clear g10
    have w1 : WR2 H H1 (hEN H 3) 0 (hEN H 1 - 1) 0 0 (tx (t.1 + 1)) := by rw [hH1]; exact WR2.base rfl rfl rfl
    have v1 : hEF H1 3 4 (hEN H 3) = 0 := by rw [hH1]; exact if_pos ⟨rfl, rfl⟩
    have x1 : hEC H1 3 (hEN H 3) = ln M5 := by rw [hH1]; exact aP_c
    clear hH1
    obtain ⟨t2, ht2⟩ : ∃ z, z = tN kd pl r b (t.1 + 1, 0, 0) := ⟨_, rfl⟩
    rw [← ht2] at g1
    obtain ⟨c0, hc0⟩ : ∃ z, z = hEN H 3 := ⟨_, rfl⟩
    rw [← hc0] at w1 v1 x1 hn hb ⊢
    have lt1 : ∀ {H'}, WR2 H H' c0 0 (hEN H 1 - 1) 0 0 (tx (t.1 + 1)) → 0 ≤ c0 ∧ c0 < hEN H' 3 := fun w => by rw [w.1.1]; omega
    -- skip
    obtain ⟨s5, e5, k5, m16, m9, m13, mb1, mb2, mok, mft⟩ := g1.2.2.2.2.nm hB
    refine rs1 (gtI_q (ck_65 g1.1.1) m13) ?_
    refine Rt.jn (fun q => ∃ H' y', CQ m kd pl tx N TT ex M0 M1 e 0 uc q H' (tK kd 211 t2) ∧ WR2 H H' c0 0 (hEN H 1 - 1) 0 y' (tx (t.1 + 1)) ∧ (0 ≤ y' ∧ y' ≤ 1) ∧ y' = vK kd 211 t2 ∧ hEF H' 3 4 c0 = 0 ∧ hEC H' 3 c0 = ln M5) (fun q hq => ?_) (fun j hj => ?_)
    · obtain ⟨H3, y', g3, w3, yb, ye, v3, x3⟩ := hq
      obtain ⟨t3, ht3⟩ : ∃ z, z = tK kd 211 t2 := ⟨_, rfl⟩
      rw [← ht3] at g3
      obtain ⟨s6, e6, k6, l16, l9, l13, lb1, lb2, lok, lft⟩ := g3.2.2.2.2.nm hB
      refine rs1 (gtI_q (ck_65 g3.1.1) l13) ?_
      refine Rt.jn (fun q => ∃ H' r', CQ m kd pl tx N TT ex M0 M1 e 0 uc q H' (tR kd pl tx t3) ∧ WR2 H H' c0 0 (hEN H 1 - 1) r' y' (tx (t.1 + 1)) ∧ ((tR kd pl tx t3).2.1 = 0 → r' = vR kd tx t3) ∧ hEF H' 3 4 c0 = 0 ∧ hEC H' 3 c0 = ln M5) (fun q hq => ?_) (fun j hj => ?_)
      · obtain ⟨H4, r', g4, w4, re, v4, x4⟩ := hq
        obtain ⟨t4, ht4⟩ : ∃ z, z = tR kd pl tx t3 := ⟨_, rfl⟩
        rw [← ht4] at g4 re
        obtain ⟨s7, e7, k7, n16, n9, n13, nb1, nb2, nok, nft⟩ := g4.2.2.2.2.nm hB
        refine rs1 (gtI_q (ck_65 g4.1.1) n13) ?_
        refine Rt.jn (fun q => ∃ k H' t5 V, wX kd pl tx c0 t4 k t5 V ∧ k ≤ 20 ∧ CQ m kd pl tx N TT ex M0 M1 e 0 uc q H' t5 ∧ WR2 H H' c0 k (hEN H 1 - 1) r' y' (tx (t.1 + 1)) ∧ (t5.2.1 = 0 → ∀ j : Nat, j ≤ k → hEF H' 3 4 (c0 + j) = V j)) (fun q hq => ?_) (fun j hj => ?_)
        · obtain ⟨k, H5, t5, V, wx, kb, g5, w5, v5⟩ := hq
          have size5 := w5.1.1
          refine rs1 (jn_v) ?_
          refine Rt.lp (fun mm q2 => ∃ (cc : Int) (H' : HG), q2.1 = iI cc ∧ (c0 ≤ cc ∧ cc ≤ c0 + k + 1) ∧ CQ m kd pl tx N TT ex M0 M1 e 0 uc q2.2 H' t5 ∧ WR2 H H' c0 k (hEN H 1 - 1) r' y' (tx (t.1 + 1)) ∧ (t5.2.1 = 0 → ∀ j : Nat, j ≤ k → hEF H' 3 4 (c0 + j) = V j ∧ (c0 + j < cc → hEF H' 3 5 (c0 + j) = e)) ∧ (mm : Int) = c0 + k + 1 - cc) (fun mm q2 go hq hgo => ?_) (k + 1) _ _ (by omega) ⟨c0, H5, rfl, by omega, g5, w5, fun z j zj => ⟨v5 z j zj, fun zz => by omega⟩, by omega⟩
          obtain ⟨q1, M11⟩ := q2
          obtain ⟨cc, H', hq1, cb, g, gw, gv, gm⟩ := hq
          dsimp only at hq1 g
          unfold c84_131
          dsimp only
          have sz := gw.1.1
          have l3 := g.2.2.2.1.2.1 3 (by omega) (by omega)
          refine rs1 (gtP_q (ck_65 g.1.1) (g.2.2.2.1.1.2.2.1 3 (by omega) (by omega))) ?_
          refine rs1 (vC_e l3.1.2.1) ?_
          refine rs1 (cI_e (ls_size (by omega) l3)) ?_
          by_cases cl : c0 + k + 1 ≤ cc
          · refine rs1 (if_pos (leI_p rfl hq1 (by omega))) ?_
            refine rs1 (jv_e) ?_
            refine rs1 (vC_e (ck_65 g.1.1)) ?_
            by_cases z5 : t5.2.1 = 0
            · obtain ⟨hc5, hi5⟩ := g.sc z5
              refine Rc_V (a75 (by omega) g.1.1 hc5.2.2.2.2.1 (x := 26996) (by omega)) fun v M6 ⟨f6, q6, q7, q8⟩ => ?_
              have g6 : CQ m kd pl tx N TT ex M0 M1 e 1 uc M6 H' t5 := g.st (W := W_al) (Fr.m f6 (by decide)) (fun _ => f6) (by decide) (Or.inl ⟨z5, ⟨(f6.i _ _ (by decide)).trans hc5.1, (f6.i _ _ (by decide)).trans hc5.2.1, (f6.i _ _ (by decide)).trans hc5.2.2.1, (f6.i _ _ (by decide)).trans hc5.2.2.2.1, q6, (f6.i _ _ (by decide)).trans hc5.2.2.2.2.2⟩, hi5⟩) id
              have hL6 : LA 76 M6 (up1 L 0 26996) 1 := LA.add (H := L) (s := 0) (M := M11) (fun jj p1 p2 => absurd p2 (by omega)) (by omega) q7 q8 rfl
              refine rs1 (cV_e rfl) ?_
              refine Rt.ok ⟨r, b, k, H', t5, V, r', y', td, hb, by rw [← ht2, ← ht3, ← ht4]; exact wx, kb, g6, gw, fun _ => ⟨by rw [← ht2, ← ht3]; exact re (wX_s wx z5), by rw [← ht2]; exact ye, fun jj zj => ⟨(gv z5 jj zj).1, (gv z5 jj zj).2 (by omega)⟩, hL6⟩⟩
            · have e5' := g.pos z5
              obtain ⟨z, -⟩ | ⟨-, i5, sz5, sn, u5, b13, b10, b11, b12, b9, b16, b19, bb⟩ := g.2.2.2.2
              · omega
              · refine Rc_V (y75 (by omega) g.1.1 g.1.2 b12 b13 b10 b11 b9 b16 b19 bb) fun v M6 p6 => ?_
                have g6 := g.ff (e2 := e) (s2 := 1) (uc2 := uc) e5' (CP.flt e5' (by omega) p6)
                refine rs1 (cV_e rfl) ?_
                exact Rt.ok ⟨r, b, k, H', t5, V, r', y', td, hb, by rw [← ht2, ← ht3, ← ht4]; exact wx, kb, g6, gw, fun z => absurd z z5⟩
          · refine rs1 (if_neg (leI_n rfl hq1 (by omega))) ?_
            refine rs1 (gtP_q (ck_65 g.1.1) (g.2.2.2.1.1.2.2.1 3 (by omega) (by omega))) ?_
            refine rs1 (vC_e l3.1.2.1) ?_
            refine rs1 (cP_e (ls_get (by omega) l3 hq1 (by omega))) ?_
            obtain ⟨kx, -⟩ := g.set (k := 3) (f := 5) (j := cc) (z := 0) (by omega) (by omega) (by omega) (by omega) rfl
            refine rs1 (cst_e kx) ?_
            obtain ⟨s8, e8, k8, o16, o9, o13, ob1, ob2, ook, oft⟩ := g.2.2.2.2.nm hB
            refine rs1 (gtI_q (ck_65 g.1.1) o9) ?_
            obtain ⟨-, g7⟩ := g.set (k := 3) (f := 5) (j := cc) (z := e8) (by omega) (by omega) (by omega) (by omega) rfl
            refine rs1 (ptI_q (z := e8) kx rfl) ?_
            refine rs1 (ltI_q (z := cc + 1) (adI hq1 li_1)) ?_
            refine hgo (c0 + k + 1 - (cc + 1)).toNat _ (by omega) ⟨cc + 1, _, rfl, by omega, g7, gw.st5 (Or.inr rfl) cb.1, fun z jj zj => ⟨?_, fun zz => ?_⟩, by omega⟩
            · exact (sF_n (by omega)).trans (gv z jj zj).1
            · by_cases w : c0 + (jj : Int) = cc
              · refine Eq.trans (if_pos ⟨rfl, rfl, w⟩) (ook z).2.1
              · exact (if_neg fun w2 => w w2.2.2).trans ((gv z jj zj).2 (by omega))
        · by_cases cw : t4.2.1 = 0 ∧ kd t4.1 = 213
          · refine rs1 (if_pos (eqI_p rfl li_213 (by rw [(nok cw.1).2.2]; exact cw.2))) ?_
            obtain ⟨-, hi4⟩ := g4.sc cw.1
            have hm4 := hS.more t4.1 (by omega) (by omega) (by omega)
            refine rs1 (vC_e (ck_65 g4.1.1)) ?_
            refine Rc_V (cq63 (by omega) hS g4.1.1 g4.1.2 g4.2.2.2.2 (fun _ => hm4)) fun v M6 p6 => ?_
            have g6 := g4.cp p6 tA_s
            rw [show tA t4 = (t4.1 + 1, 0, 0) from if_pos cw.1] at g6
            refine rs1 (cV_e rfl) ?_
            refine rs1 (vC_e (ck_65 g6.1.1)) ?_
            refine Rc_V (mc85 (by omega) hS g6 hB w4 x4 hn yb) fun v M7 ⟨k, H', we, kb, g7, w7, v7⟩ => ?_
            refine rs1 (cV_e rfl) ?_
            exact hj _ ⟨k, H', _, _, Or.inl ⟨cw.1, cw.2, we, rfl, rfl⟩, kb, g7, w7, v7⟩
          · have nk : ¬ k7 = 213 ∧ -2147483648 ≤ k7 ∧ k7 ≤ 2147483647 := by
              by_cases z : t4.2.1 = 0
              · obtain ⟨-, -, w⟩ := nok z
                obtain ⟨-, v1, v2⟩ := g4.sc z
                have := (hS.ok t4.1 v1 v2).r
                exact ⟨fun y => cw ⟨z, by omega⟩, by omega, by omega⟩
              · have := nft (g4.pos z)
                omega
            refine rs1 (if_neg (eqI_n rfl li_213 (by omega))) ?_
            exact hj _ ⟨0, H4, t4, _, Or.inr ⟨cw, rfl, rfl, rfl⟩, by omega, g4, w4, fun z jj zj => by
              have : jj = 0 := by omega
              rw [this, show c0 + ((0 : Nat) : Int) = c0 by omega]; exact v4⟩
      · by_cases cw : t3.2.1 = 0 ∧ kd t3.1 = 212
        · refine rs1 (if_pos (eqI_p rfl li_212 (by rw [(lok cw.1).2.2]; exact cw.2))) ?_
          obtain ⟨-, hi4⟩ := g3.sc cw.1
          have hm4 := hS.more t3.1 (by omega) (by omega) (by omega)
          refine rs1 (vC_e (ck_65 g3.1.1)) ?_
          refine Rc_V (cq63 (by omega) hS g3.1.1 g3.1.2 g3.2.2.2.2 (fun _ => hm4)) fun v M6 p6 => ?_
          have g6 := g3.cp p6 tA_s
          rw [show tA t3 = (t3.1 + 1, 0, 0) from if_pos cw.1] at g6
          refine rs1 (cV_e rfl) ?_
          refine rs1 (vC_e (ck_65 g6.1.1)) ?_
          refine Rc_I (cq67 (by omega) hS g6.1.1 g6.1.2 g6.2.2.2.2 hB li_1 li_999999999 (by omega)) fun v M7 ⟨z, hz, hzv, p7⟩ => ?_
          subst hz
          have g7 := g6.cp p7 tM_s
          refine rs1 (cI_e rfl) ?_
          obtain ⟨kx, g8⟩ := g7.set (k := 3) (f := 6) (j := c0) (z := z) (by omega) (by omega) (by omega) (by rw [w3.1.1]; omega) x3
          refine rs1 (ptI_q (z := z) kx rfl) ?_
          have eR : tR kd pl tx t3 = tM kd pl tx 1 999999999 (t3.1 + 1, 0, 0) := if_pos cw
          exact hj _ ⟨_, z, by rw [eR]; exact g8, w3.s6, fun q => by rw [eR] at q; exact (hzv q).trans (if_pos cw : vR kd tx t3 = _).symm, (sF_n (by omega)).trans v3, x3⟩
        · have nk : ¬ k6 = 212 ∧ -2147483648 ≤ k6 ∧ k6 ≤ 2147483647 := by
            by_cases z : t3.2.1 = 0
            · obtain ⟨-, -, w⟩ := lok z
              obtain ⟨-, v1, v2⟩ := g3.sc z
              have := (hS.ok t3.1 v1 v2).r
              exact ⟨fun y => cw ⟨z, by omega⟩, by omega, by omega⟩
            · have := lft (g3.pos z)
              omega
          refine rs1 (if_neg (eqI_n rfl li_212 (by omega))) ?_
          have eR : tR kd pl tx t3 = t3 := if_neg cw
          exact hj _ ⟨H3, 0, by rw [eR]; exact g3, w3, fun _ => (if_neg cw : vR kd tx t3 = _).symm, v3, x3⟩
    · by_cases cw : t2.2.1 = 0 ∧ kd t2.1 = 211
      · refine rs1 (if_pos (eqI_p rfl li_211 (by rw [(mok cw.1).2.2]; exact cw.2))) ?_
        obtain ⟨kx, g3⟩ := g1.set (k := 3) (f := 7) (j := c0) (z := 1) (by omega) (by omega) (by omega) (lt1 w1) x1
        refine rs1 (ptZ_q (z := 1) kx li_1 (by omega)) ?_
        obtain ⟨-, hi4⟩ := g3.sc cw.1
        have hm4 := hS.more t2.1 (by omega) (by omega) (by omega)
        refine rs1 (vC_e (ck_65 g3.1.1)) ?_
        refine Rc_V (cq63 (by omega) hS g3.1.1 g3.1.2 g3.2.2.2.2 (fun _ => hm4)) fun v M6 p6 => ?_
        have g6 := g3.cp p6 tA_s
        rw [show tA t2 = tK kd 211 t2 from (if_pos cw.1).trans (if_pos cw : tK kd 211 t2 = _).symm] at g6
        refine rs1 (cV_e rfl) ?_
        exact hj _ ⟨_, 1, g6, w1.s7, by omega, (if_pos cw : vK kd 211 t2 = _).symm, (sF_n (by omega)).trans v1, x1⟩
      · have nk : ¬ k5 = 211 ∧ -2147483648 ≤ k5 ∧ k5 ≤ 2147483647 := by
          by_cases z : t2.2.1 = 0
          · obtain ⟨-, -, w⟩ := mok z
            obtain ⟨-, v1, v2⟩ := g1.sc z
            have := (hS.ok t2.1 v1 v2).r
            exact ⟨fun y => cw ⟨z, by omega⟩, by omega, by omega⟩
          · have := mft (g1.pos z)
            omega
        refine rs1 (if_neg (eqI_n rfl li_211 (by omega))) ?_
        exact hj _ ⟨H1, 0, by rw [show tK kd 211 t2 = t2 from if_neg cw]; exact g1, w1, by omega, (if_neg cw : vK kd 211 t2 = _).symm, v1, x1⟩
  · by_cases c : hEN H 3 < 16
    · refine rs1 (if_pos (lsI_p rfl li_16 (by omega))) ?_
      exact hj _ ⟨0, li_0, Or.inl ⟨rfl, c⟩⟩
    · refine rs1 (if_neg (lsI_n rfl li_16 (by omega))) ?_
      exact hj _ ⟨1, li_1, Or.inr ⟨rfl, by omega⟩⟩
end S56e
