/-! a test: both -/
section S66
variable {dl d : Nat} {T : Int → Int} {n m b e s u uc dq p i r ut cnt lo ki mu K c0 z y dp b : Int} {kd pl E : Int → Int} {tx : Int → Int64} {M0 M M0c Mc : Mem} {R : RG} {t : TS} {L : Int → Int64} {N TT ex : Nat} {H : HG} {G U : Nat → Int → Int} {X : Nat → Int → Int64} {v1 v2 x0 c1 : Int32} {t4 t5 : TS} {k : Nat} {V : Nat → Int} {M1 : Mem}
theorem RQ.loc (h : RQ T n b m kd pl E tx M0 M p ut cnt e s u dq M1 R t) : RQ T n b m kd pl E tx M0 M p ut cnt e 1 u dq (sI (sL M1 199 0 26996) 160 51 (iI 1)) R t ∧ Fr [(199, 9999), (160, 51)] M1 (sI (sL M1 199 0 26996) 160 51 (iI 1)) ∧ LA 199 (sI (sL M1 199 0 26996) 160 51 (iI 1)) (up1 L 0 26996) 1 := by
  have f : Fr [(199, 9999)] M1 (sL M1 199 0 26996) := fronl
  have g := h.st f (by decide) (h.2.2.2.2.1.fr f (by decide)) (fun z => z)
  refine ⟨g.s51 (s2 := 1) (L := L), Fr.sI (by decide) (Fr.sL (by decide) Fr.r), fun j q1 q2 => ?_⟩
  rw [show j = 0 by omega, up1_e rfl]
  exact sL_eq
theorem wX_f (h : wX kd pl tx c0 (tR kd pl tx (tK kd K t)) k t5 V) (h1 : 1 ≤ t.2.1) : t5 = t := by
  have e1 : tK kd K t = t := if_neg fun z => by omega
  have e2 : tR kd pl tx t = t := if_neg fun z => by omega
  rw [e1, e2] at h
  rcases h with ⟨q, -⟩ | ⟨-, -, q, -⟩
  · omega
  · exact q
theorem wX_one {k2 : Nat} {V2 : Nat → Int} (h : wX kd pl tx c0 t k t5 V) (g : wX kd pl tx c0 t k2 t4 V2) : k = k2 ∧ t5 = t4 ∧ V = V2 := by
  rcases h with ⟨a1, a2, a3, a4, a5⟩ | ⟨a1, a2, a3, a4⟩
  · rcases g with ⟨b1, b2, b3, b4, b5⟩ | ⟨b1, b2, b3, b4⟩
    · obtain rfl := wE.one b3 a3
      exact ⟨rfl, a4.trans b4.symm, a5.trans b5.symm⟩
    · exact absurd ⟨a1, a2⟩ b1
  · rcases g with ⟨b1, b2, b3, b4, b5⟩ | ⟨b1, b2, b3, b4⟩
    · exact absurd ⟨b1, b2⟩ a1
    · exact ⟨a2.trans b2.symm, a3.trans b3.symm, a4.trans b4.symm⟩
theorem test_pair (hdl : 930 ≤ dl) (hd : 930 ≤ d) (hS : TkS T n m kd pl E tx) (g : CQ m kd pl tx N TT ex M0c Mc e 0 uc Mc H t) (q : RQ T n 2500 m kd pl E tx M0 M p ut cnt e 0 u dq M R t) (h0 : t.2.1 = 0) (hw : RW Mc M G U L X e 0 u uc) (h14 : Mc.1 65 14 = iI e) (hE : e ≤ 1000) (hH : HRK G e H R ut cnt) (hG : DGK G U X e u) (hM : CMK Mc G e) (nB : CB m e 0 uc) (n1 : 0 ≤ t.1 ∧ t.1 < m ∧ m ≤ 1400 ∧ 0 ≤ e ∧ e ≤ 1000 ∧ 0 ≤ u ∧ u ≤ uc ∧ uc ≤ t.1 ∧ e ≤ t.1) (n2 : hEN H 1 = ut + 1 ∧ 0 ≤ ut ∧ ut ≤ 7 ∧ 0 ≤ hEN H 2 ∧ hEN H 2 ≤ 96 ∧ 0 ≤ cnt ∧ cnt ≤ 12 ∧ 0 ≤ hEN H 3 ∧ hEN H 3 ≤ 16 ∧ 0 ≤ hEN H 4 ∧ hEN H 4 ≤ 6 ∧ (cnt < 12 → hEN H 2 < 96)) (hcn : (0 ≤ R.1 2 0 0 ∧ R.1 2 0 0 ≤ 96) ∧ (0 ≤ R.1 3 0 0 ∧ R.1 3 0 0 ≤ 16) ∧ 0 ≤ R.1 4 0 0 ∧ R.1 4 0 0 ≤ 6) (n4 : 0 ≤ hEF H 1 1 (hEN H 1 - 1) ∧ hEF H 1 1 (hEN H 1 - 1) ≤ hEN H 2) (n5 : ∀ b, BB H b → (b = 0 ∧ cnt < 12) ∨ (b = 1 ∧ 12 ≤ cnt)) (hp : 0 ≤ p ∧ p ≤ 7) (hv1 : v1 = iI p) (hx0 : x0 = iI 0) (hk : kd t.1 = 210) : Rs (cV (runX dl 84 [va_rf (some 65)] Mc) fun M27 => jv (tail77 (runX dl) x0) M27) (runX d 225 [va_rf (some 160), .int v1] M) (fun _ Mc' _ Mr' => MOQ T n m kd pl E tx N TT ex M0c M0 p ut t.1 Mc' Mr') := by
  obtain ⟨b, hbE⟩ : ∃ b : Int, b = 2500 := ⟨_, rfl⟩
  have h : RQ T n b m kd pl E tx M0 M p ut cnt e 0 u dq M R t := by rw [hbE]; exact q
  have he : 0 ≤ e ∧ e ≤ b := by omega
  have hb3 : b ≤ 3000 := by omega
  have hm14 : m ≤ 1400 := n1.2.2.1
  obtain ⟨vc, Mc1, ec, r, bb, k5, H5, t5, V, r5, y5, htd0, hbb, hX, hk5, gQ, hW, hok1⟩ := mc84 (L := L) (d := dl) (by omega) hS g h0 nB hk (by omega) (by omega)
  refine rsl ((cV_e ec).trans jv_e) ?_
  have htd := hH.td htd0
  have a4 := hH.1.2.2.2.1
  have eu : hEN H 1 - 1 = ut := by omega
  have hb : (bb = 0 ∧ R.1 3 0 0 < 16) ∨ (bb = 1 ∧ 16 ≤ R.1 3 0 0) := by omega
  rw [eu] at hW
  rw [a4] at hX hok1
  have hu1 : hEN H5 1 = ut + 1 := hW.1.2.1.trans n2.1
  have g14 : Mc1.1 65 14 = iI e := gQ.2.1.2.trans h14
  obtain ⟨d, rfl⟩ : ∃ e, d = e + 1 := ⟨d - 1, by omega⟩
  obtain ⟨hr, hm, hi⟩ := h.sr h0
  have hmo := hS.more t.1 hi.1 hi.2 ⟨by omega, by omega⟩
  rw [r225]; unfold b225; rw [aR_e, aI_e, aZ_e]; unfold c225
  refine rsr (vC_e (rk_160 h.1.1)) ?_
  refine RrV (q191 (by omega) hS h.1 h.2.2.2.2.1 hb3 (fun _ => ⟨by omega, by omega⟩)) fun v Mp p1 => ?_
  have h1 := h.rp p1 tA_s
  rw [show tA t = (t.1 + 1, 0, 0) from if_pos h0] at h1
  obtain ⟨hr1, hm1, hi1⟩ := h1.sr rfl
  refine rsr (cV_e rfl) ?_
  refine rsr (gtI_q (rk_160 h1.1.1) hr1.2.2.2.1) ?_
  refine rsr (jn_v) ?_
  refine rsr (if_pos (eqI_p rfl li_0 rfl)) ?_
  refine rsr (gtI_q (rk_160 h1.1.1) hr1.1) ?_
  refine rsr (jn_v) ?_
  by_cases k3 : kd (t.1 + 1) = 3
  ·
    refine rsr (if_pos (krI_p (k := 3) rfl li_1 k3 (by decide +kernel))) ?_
    refine rsr (jv_e) ?_
    refine rsr (vC_e (rk_160 h1.1.1)) ?_
    refine rsr (cI_e (ar193_p (by omega) hS h1.1.1 hr1.1 hr1.2.1 hr1.2.2.2.1 li_1 ⟨hi1.1, hi1.2, by dsimp only; omega, rfl⟩)) ?_
    refine rsr (if_neg (eqI_n (x := 1) (y := 0) rfl li_0 (by omega))) ?_
    refine rsr (gtL_q (rk_160 h1.1.1) (hr1.2.2.2.2.2.2.2.2.1 k3)) ?_
    refine rsr (vC_e (rk_160 h1.1.1)) ?_
    refine RrI (a220 (by omega) h1.1.1 h1.2.2.2.1.1 hv1 hp hcn h1.2.2.2.2.2.1) fun v Mx ⟨r1, hvx, hMx, hrx⟩ => ?_
    have er := hrx.one htd
    subst hvx
    subst er
    rw [hMx]
    refine rsr (cI_e rfl) ?_
    refine rsr (jn_v) ?_
    by_cases cr : r1 = 1
    ·
      refine rsr (if_neg (eqI_n rfl li_0 (by omega))) ?_
      refine rsr (jv_e) ?_
      refine rsr (vC_e (rk_160 h1.1.1)) ?_
      obtain ⟨Mq, q1, q2⟩ := q194n (d := d) (b := b) (f := 3) (by omega) hS h1.1.1 hr1 hm1 he hi1 li_0 li_3 (by omega)
      refine rsr (cI_e q1) ?_
      refine rsr (if_pos (eqI_p rfl li_0 rfl)) ?_
      refine rsr (jv_e) ?_
      have hq := h1.rp q2 (fun _ => rfl)
      have hx : RQ T n b m kd pl E tx M0 M p ut cnt e 0 u dq Mq R (tN kd pl r1 bb (t.1 + 1, 0, 0)) := by rw [show tN kd pl r1 bb (t.1 + 1, 0, 0) = _ from (if_pos ⟨rfl, k3⟩).trans (if_pos cr)]; exact hq
      have hxn : ¬ (tN kd pl r1 bb (t.1 + 1, 0, 0)).2.1 = 0 := fun z => by rw [show tN kd pl r1 bb (t.1 + 1, 0, 0) = _ from (if_pos ⟨rfl, k3⟩).trans (if_pos cr)] at z; dsimp only at z; (try split at z) <;> omega
      have h1x := hx.pos hxn
      have ft : t5 = tN kd pl r1 bb (t.1 + 1, 0, 0) := wX_f hX h1x
      rw [ft] at gQ
      exact Rs.seq ((ftail (by omega) gQ h1x g14 (by omega) hx0 (by omega)).mono fun v Mz ⟨_, hz⟩ => Rt.ok (MOQ.ft hz h1x hu1 hx (by omega)))
    ·
      have r0 : r1 = 0 := by have := hrx.bd; omega
      refine rsr (if_pos (eqI_p rfl li_0 r0)) ?_
      refine rsr (jv_e) ?_
      refine rsr (vC_e (rk_160 h1.1.1)) ?_
      refine rsr (cI_e (ar194_p (by omega) hS h1.1.1 hr1.1 hr1.2.1 hr1.2.2.2.1 li_1 li_3 ⟨hi1.1, hi1.2, rfl⟩)) ?_
      refine rsr (if_neg (eqI_n (x := 1) (y := 0) rfl li_0 (by omega))) ?_
      refine rsr (gtP_q (w := some 176) (rk_160 h1.1.1) (rf_17 h1.1.1)) ?_
      refine rsr (alI_q (n := 8) (z := p) (w := iI (R.1 3 0 0)) (rk_176 h1.1.1) hv1 (by omega) (h1.2.2.2.1.1.gi (st := 1) (by decide) ⟨by omega, by omega⟩ (by omega))) ?_
      refine rsr (jn_v) ?_
      by_cases cb : 16 ≤ R.1 3 0 0
      ·
        refine rsr (if_pos (leI_p li_16 rfl (by omega))) ?_
        refine rsr (jv_e) ?_
        refine rsr (vC_e (rk_160 h1.1.1)) ?_
        obtain ⟨Mq, q1, q2⟩ := q194n (d := d) (b := b) (f := 6) (by omega) hS h1.1.1 hr1 hm1 he hi1 li_0 li_6 (by omega)
        refine rsr (cI_e q1) ?_
        refine rsr (if_pos (eqI_p rfl li_0 rfl)) ?_
        refine rsr (jv_e) ?_
        have hq := h1.rp q2 (fun _ => rfl)
        have hx : RQ T n b m kd pl E tx M0 M p ut cnt e 0 u dq Mq R (tN kd pl r1 bb (t.1 + 1, 0, 0)) := by rw [show tN kd pl r1 bb (t.1 + 1, 0, 0) = _ from (if_pos ⟨rfl, k3⟩).trans ((if_neg cr).trans (if_pos (by omega)))]; exact hq
        have hxn : ¬ (tN kd pl r1 bb (t.1 + 1, 0, 0)).2.1 = 0 := fun z => by rw [show tN kd pl r1 bb (t.1 + 1, 0, 0) = _ from (if_pos ⟨rfl, k3⟩).trans ((if_neg cr).trans (if_pos (by omega)))] at z; dsimp only at z; (try split at z) <;> omega
        have h1x := hx.pos hxn
        have ft : t5 = tN kd pl r1 bb (t.1 + 1, 0, 0) := wX_f hX h1x
        rw [ft] at gQ
        exact Rs.seq ((ftail (by omega) gQ h1x g14 (by omega) hx0 (by omega)).mono fun v Mz ⟨_, hz⟩ => Rt.ok (MOQ.ft hz h1x hu1 hx (by omega)))
      ·
        refine rsr (if_neg (leI_n li_16 rfl (by omega))) ?_
        refine rsr (jv_e) ?_
        refine rsr (vC_e (rk_160 h1.1.1)) ?_
        refine rsr (cI_e (ar194_p (by omega) hS h1.1.1 hr1.1 hr1.2.1 hr1.2.2.2.1 li_1 li_6 ⟨hi1.1, hi1.2, rfl⟩)) ?_
        refine rsr (if_neg (eqI_n (x := 1) (y := 0) rfl li_0 (by omega))) ?_
        have eN : tN kd pl r1 bb (t.1 + 1, 0, 0) = (t.1 + 1 + 1, 0, 0) := (if_pos ⟨rfl, k3⟩).trans ((if_neg cr).trans (if_neg (by omega)))
        obtain ⟨t1, ht1⟩ : ∃ z, z = tN kd pl r1 bb (t.1 + 1, 0, 0) := ⟨_, rfl⟩
        rw [← ht1] at hX hok1
        have et1 : t1 = (t.1 + 1 + 1, 0, 0) := ht1.trans eN
        refine rsr (gtL_q (rk_160 h1.1.1) (hr1.2.2.2.2.2.2.2.2.1 k3)) ?_
        refine rsr (gtP_q (w := some 176) (rk_160 h1.1.1) (rf_17 h1.1.1)) ?_
        refine rsr (alI_q (n := 8) (z := p) (w := iI (R.1 3 0 0)) (rk_176 h1.1.1) hv1 (by omega) (h1.2.2.2.1.1.gi (st := 1) (by decide) ⟨by omega, by omega⟩ (by omega))) ?_
        refine rsr (vC_e (rk_160 h1.1.1)) ?_
        refine RrV (q191 (by omega) hS h1.1 h1.2.2.2.2.1 hb3 (fun _ => ⟨by dsimp only; omega, by dsimp only; omega⟩)) fun v M9 p9 => ?_
        have h9 := h1.rp p9 tA_s
        rw [show tA ((t.1 + 1, 0, 0) : TS) = (t.1 + 1 + 1, 0, 0) from if_pos rfl, ← et1] at h9
        have t10 : t1.2.1 = 0 := by rw [et1]
        have t1z : t1.2.2 = 0 := by rw [et1]
        have t11 : t1.1 = t.1 + 1 + 1 := by rw [et1]
        obtain ⟨hr9, hm9, hi9⟩ := h9.sr t10
        refine rsr (cV_e rfl) ?_
        refine rsr (gtI_q (rk_160 h9.1.1) hr9.1) ?_
        refine rsr (jn_v) ?_
        -- skip
        have skip : ∀ {f : Int32 → XA}, (∀ w, w = iI (vK kd 211 t1) → Rs (tail77 (runX dl) x0 Mc1) (f w) (fun _ Mc' _ Mr' => MOQ T n m kd pl E tx N TT ex M0c M0 p ut t.1 Mc' Mr')) → Rs (tail77 (runX dl) x0 Mc1) (if iI (kr (kd t1.1)) = ((412 : Int32)) then f ((1 : Int32)) else f ((0 : Int32))) (fun _ Mc' _ Mr' => MOQ T n m kd pl E tx N TT ex M0c M0 p ut t.1 Mc' Mr') := fun {f} hf => by
          by_cases c : kd t1.1 = 211
          · rw [if_pos (krI_p (k := 211) rfl li_412 c (by decide +kernel))]; exact hf _ (li_1.trans (by rw [show vK kd 211 t1 = 1 from if_pos ⟨t10, c⟩]))
          · rw [if_neg (krI_n (k := 211) rfl li_412 (hS.ok t1.1 hi9.1 hi9.2) (by unfold KdOK; omega) (by decide +kernel) c (by omega))]; exact hf _ (li_0.trans (by rw [show vK kd 211 t1 = 0 from if_neg fun z => c z.2]))
        refine skip fun s24 hs24 => ?_
        refine rsr (jv_e) ?_
        refine rsr (jn_v) ?_
        refine opt191 (by omega) hS h9 hb3 (by omega) hs24 fun M25 h25 => ?_
        obtain ⟨t2, ht2⟩ : ∃ z, z = tK kd 211 t1 := ⟨_, rfl⟩
        rw [← ht2] at h25 hX hok1
        refine rsr (jv_e) ?_
        refine raises225 (by omega) hS h25 he hb3 fun M26 rr h26 hrr => ?_
        obtain ⟨t3, ht3⟩ : ∃ z, z = tR kd pl tx t2 := ⟨_, rfl⟩
        rw [← ht3] at h26 hX hrr
        obtain ⟨c, hcE⟩ : ∃ c, c = R.1 3 0 0 := ⟨_, rfl⟩
        have yb := vK_b (kd := kd) (K := 211) (t := t1)
        refine rsr (vC_e (rk_160 h26.1.1)) ?_
        refine RrV (mr224 (X := tx (t.1 + 1)) (r := rr) (y := vK kd 211 t1) (z := 0) (by omega) h26 hv1 hp (by omega) rfl hs24 yb li_0) fun v M28 h28 => ?_
        refine rsr (cV_e rfl) ?_
        refine withs225 (X := tx (t.1 + 1)) (R := R) (ut := ut) (r := rr) (y := vK kd 211 t1) (c0 := c) (by omega) hS h28 (WRr.base hcE.symm) (by rw [hcE]; exact rC_4) (by omega) hv1 hp he hb3 hm14 rfl hs24 yb (by rw [hcE]) (fun M30 R2 k t4 V2 hX2 h30 hR2 hok2 => ?_)
        rw [← hcE] at hX hok1
        obtain ⟨rfl, rfl, rfl⟩ := wX_one hX hX2
        refine rsr (gtP_q (w := some 199) (rk_160 h30.1.1) (rf_52 h30.1.1)) ?_
        refine rsr (asL_q (n := 11) (z := 0) (w := 26996) (rk_199 h30.1.1) li_0 (by omega) rfl) ?_
        obtain ⟨h33, f33, l33⟩ := h30.loc (L := L)
        refine rsr (ptI_q (z := 1) (rk_160 (h30.st (W := [(199, 9999)]) fronl (by decide) (h30.2.2.2.2.1.fr (W := [(199, 9999)]) fronl (by decide)) (fun z => z)).1.1) li_1) ?_
        refine rsr (vC_e (rk_160 h33.1.1)) ?_
        by_cases c1 : t5.2.1 = 0
        ·
          obtain ⟨e1, e2, e3, e4⟩ := hok1 c1
          obtain ⟨w1, w2⟩ := hok2 c1
          have z3 : t3.2.1 = 0 := wX_s hX c1
          have z2 := hrr z3
          have k2z := tK_z (kd := kd) (K := 211) t1z
          rw [← ht2] at k2z
          have k3z := tR_z (tx := tx) (t := t2) (by rw [← ht3]; exact z3) k2z.1
          rw [← ht3] at k3z
          have fc := gQ.2.2.1 c1
          have frr := h33.2.2.1 c1
          obtain ⟨-, i1, i2⟩ := gQ.sc c1
          obtain ⟨eT, lt, hV⟩ := wX_r hS hX c1 k3z.1 (by omega) i2
          obtain ⟨i5, hi5⟩ : ∃ z, z = t5.1 := ⟨_, rfl⟩
          rw [eT, ← hi5] at gQ h33
          rw [← hi5] at i1 i2 lt
          subst e1
          subst e2
          subst z2
          rw [hbE] at h33
          have hw3 := w1.1
          refine blk (mu := 0) (by omega) (by omega) hS gQ h33 (hw.mv fc frr e4 l33) (by unfold BD; omega) g14 (by omega) hx0 li_0 hu1 (by omega) hE hH hG (fun jj p1 p2 => (fc.c 75 ⟨by decide, by omega⟩ _).trans (hM jj p1 p2)) (fun Mc2 Mr2 G2 U2 X2 i2_ e2_ u2 uc2 j1 gg qq ww bd2 ee en hh2 hg2 hm2 => ?_) (fun Mc2 Mr2 tt k1_ gg qq => ?_)
          ·
            refine ents225 (c0 := c) (z := e) qq hv1 hp rfl (by rw [hcE]) (by omega) (by omega) (fun Mr3 R3 q3 f3 r1 r2 r3 => ?_)
            refine rs1 (jv_e) ?_
            obtain ⟨w1_, w2_, w3_, w4_, w5_, w6_⟩ := ww
            refine Rt.ok (Or.inl ⟨i2_, G2, U2, X2, up1 L 0 26996, _, _, e2_, 1, u2, uc2, cnt, 0, by omega, gg, ⟨_, q3.re⟩, ⟨w1_, fun jj p1 p2 => ?_, fun jj p1 p2 => absurd p2 (by omega), fun jj p1 p2 => absurd p2 (by omega), w5_, fun jj p1 p2 => ?_⟩, bd2, ee.2, ?_, hg2, hm2⟩)
            · exact (w2_.fr f3 (by decide)) jj p1 p2
            · exact (w6_.fr f3 (by decide)) jj p1 p2
            ·
              obtain ⟨x1, x2, x3, x4, -, x6⟩ := hW
              obtain ⟨y1, y2, y3, y4⟩ := w1
              rw [a4, ← hcE] at x1 x2 x3 x6
              have rf3 : ∀ k f j, ¬ (k = 3 ∧ f = 5 ∧ c ≤ j) → R3.1 k f j = R2.1 k f j := r1
              refine hh2.ca (n := c + k5 + 1) (by omega) ⟨x1.2.1, x1.2.2.1, x1.1, x1.2.2.2⟩ (fun k f j q1 q2 q => x2 k f j q1 q2 (by omega)) (fun k j q1 q2 q => x3 k j q1 q2 (by omega)) x4 ((r1 3 0 0 (by omega)).trans y1) (fun k f j q1 q2 => (r1 k f j (by omega)).trans (y2 k f j q1 (by omega))) (fun k j q => by rw [r2]; exact y3 k j (by omega)) (fun k q1 q2 => ?_)
              obtain ⟨j, rfl⟩ : ∃ j : Nat, k = c + j := ⟨(k - c).toNat, by omega⟩
              obtain ⟨u1, u2_, u3, u4⟩ := x6 (c + j) (by omega) (by omega)
              obtain ⟨v1_, v2_, v3, v4⟩ := y4 (c + j) (by omega) (by omega)
              obtain ⟨s1, s2_⟩ := e3 j (by omega)
              have s3 := w2 j (by omega)
              have s4 := hV j (by omega)
              have s5 := r3 (c + j) (by omega) (by omega)
              unfold CaK
              rw [r1 3 1 (c + j) (by omega), r1 3 4 (c + j) (by omega), s5, r1 3 6 (c + j) (by omega), r1 3 7 (c + j) (by omega), r2, v1_, v2_, v3, v4, s3, u1, u2_, u3, u4, s1, s2_]
              exact ⟨rfl, ⟨rfl, rfl, rfl, rfl, rfl⟩, by omega, s4, k3z.2.2, yb, en⟩
          ·
            refine ents225 (c0 := c) (z := e) qq hv1 hp rfl (by rw [hcE]) (by omega) (by omega) (fun Mr3 R3 q3 f3 r1 r2 r3 => ?_)
            refine rs1 (jv_e) ?_
            exact Rt.ok (MOQ.ft gg k1_ hu1 q3 (by omega))
        ·
          have c1p := gQ.pos c1
          refine Rs.seq ((ftail (by omega) gQ c1p g14 (by omega) hx0 (by omega)).mono fun v Mz ⟨_, hz⟩ => ?_)
          refine Rc_I (r218f (mu := 0) (by omega) h33 c1p (by omega) li_0 (by omega)) fun v M218 ⟨rv, hv218, q218⟩ => ?_
          subst hv218
          refine rs1 (cI_e rfl) ?_
          refine ents225 (c0 := c) (z := rv) q218 hv1 hp rfl (by rw [hcE]) (by omega) (by omega) (fun Mr3 R3 q3 f3 r1 r2 r3 => ?_)
          refine rs1 (jv_e) ?_
          exact Rt.ok (MOQ.ft hz c1p hu1 q3 (by omega))
  ·
    refine rsr (if_neg (krI_n (k := 3) rfl li_1 (hS.ok (t.1 + 1) hi1.1 hi1.2) (by unfold KdOK; omega) (by decide +kernel) k3 (by omega))) ?_
    refine rsr (jv_e) ?_
    refine rsr (vC_e (rk_160 h1.1.1)) ?_
    obtain ⟨Mq, q1, q2⟩ := q193n (d := d) (b := b) (by omega) hS h1.1.1 hr1 hm1 he hi1 li_0
    refine rsr (cI_e q1) ?_
    refine rsr (if_pos (eqI_p rfl li_0 rfl)) ?_
    refine rsr (jv_e) ?_
    have hq := h1.rp q2 (fun _ => rfl)
    have hx : RQ T n b m kd pl E tx M0 M p ut cnt e 0 u dq Mq R (tN kd pl r bb (t.1 + 1, 0, 0)) := by rw [show tN kd pl r bb (t.1 + 1, 0, 0) = _ from (if_neg fun z => k3 z.2).trans (if_pos rfl)]; exact hq
    have hxn : ¬ (tN kd pl r bb (t.1 + 1, 0, 0)).2.1 = 0 := fun z => by rw [show tN kd pl r bb (t.1 + 1, 0, 0) = _ from (if_neg fun z => k3 z.2).trans (if_pos rfl)] at z; dsimp only at z; (try split at z) <;> omega
    have h1x := hx.pos hxn
    have ft : t5 = tN kd pl r bb (t.1 + 1, 0, 0) := wX_f hX h1x
    rw [ft] at gQ
    exact Rs.seq ((ftail (by omega) gQ h1x g14 (by omega) hx0 (by omega)).mono fun v Mz ⟨_, hz⟩ => Rt.ok (MOQ.ft hz h1x hu1 hx (by omega)))
end S66
