/-! a property: both -/
section S63
variable {dl d : Nat} {T : Int → Int} {n m b e s u uc dq p i r ut cnt lo ki mu : Int} {kd pl E : Int → Int} {tx : Int → Int64} {M0 M M0c Mc : Mem} {R : RG} {t : TS} {L : Int → Int64} {N TT ex : Nat} {H : HG} {G U : Nat → Int → Int} {X : Nat → Int → Int64} {v1 v2 x0 c1 : Int32}
/-- a property -/
theorem HRK.np {x : Nat} {ow : Nat → Int} {Xi : Int64} {z4 z5 : Int} (h : HRK G e H R ut cnt) (hc : hEN H 4 < 6) (hz : 1 ≤ z4 ∧ z4 ≤ 4) (he : EnT G e z5 z4) : HRK G e (sF (sF (aP H ow 4 x (fun f => if f = 1 then hEN H 1 - 1 else if f = 2 then 6 else if f = 5 then -2 else 0) Xi) 4 4 (hEN H 4) z4) 4 5 (hEN H 4) z5) (rsF (rsF (rsF (rsX (rsF R 4 0 0 (R.1 4 0 0 + 1)) 4 (R.1 4 0 0) Xi) 4 1 (R.1 4 0 0) ut) 4 4 (R.1 4 0 0) z4) 4 5 (R.1 4 0 0) z5) ut cnt := by
  have a1 := h.1.1
  have a5 := h.1.2.2.2.2
  have b1 := h.2.1
  refine h.pr hc ⟨(aP_nn (by omega) : hEN (aP H ow 4 x (fun f => if f = 1 then hEN H 1 - 1 else if f = 2 then 6 else if f = 5 then -2 else 0) Xi) 1 = hEN H 1), (aP_nn (by omega) : hEN (aP H ow 4 x (fun f => if f = 1 then hEN H 1 - 1 else if f = 2 then 6 else if f = 5 then -2 else 0) Xi) 2 = hEN H 2), (aP_nn (by omega) : hEN (aP H ow 4 x (fun f => if f = 1 then hEN H 1 - 1 else if f = 2 then 6 else if f = 5 then -2 else 0) Xi) 3 = hEN H 3), (aP_n : hEN (aP H ow 4 x (fun f => if f = 1 then hEN H 1 - 1 else if f = 2 then 6 else if f = 5 then -2 else 0) Xi) 4 = hEN H 4 + 1)⟩ (fun k f j _ _ q => (sF_n (by omega)).trans ((sF_n (by omega)).trans (aP_fn q))) (fun k j _ _ q => (aP_xn q : hEX (aP H ow 4 x (fun f => if f = 1 then hEN H 1 - 1 else if f = 2 then 6 else if f = 5 then -2 else 0) Xi) k j = hEX H k j)) (fun _ _ _ => rfl) ?_ (fun k f j q1 q2 => ?_) (fun k j q => ?_) ?_
  · exact (rsF_n (by omega)).trans ((rsF_n (by omega)).trans ((rsF_n (by omega)).trans (rsF_p : (rsF R 4 0 0 (R.1 4 0 0 + 1)).1 4 0 0 = _)))
  · exact (rsF_n (by omega)).trans ((rsF_n (by omega)).trans ((rsF_n (by omega)).trans (rsF_n (by omega))))
  · exact rsX_n (by omega)
  · rw [← a5]
    obtain ⟨RR', hRR⟩ : ∃ z, z = rsF (rsF (rsF (rsX (rsF R 4 0 0 (hEN H 4 + 1)) 4 (hEN H 4) Xi) 4 1 (hEN H 4) ut) 4 4 (hEN H 4) z4) 4 5 (hEN H 4) z5 := ⟨_, rfl⟩
    rw [← hRR]
    have f1 : RR'.1 4 1 (hEN H 4) = ut := by rw [hRR]; exact (rsF_n (by omega)).trans ((rsF_n (by omega)).trans rsF_p)
    have f4 : RR'.1 4 4 (hEN H 4) = z4 := by rw [hRR]; exact (rsF_n (by omega)).trans rsF_p
    have f5 : RR'.1 4 5 (hEN H 4) = z5 := by rw [hRR]; exact rsF_p
    have fx : RR'.2 4 (hEN H 4) = Xi := by rw [hRR]; exact rsX_p
    unfold PrK
    rw [f1, f4, f5, fx]
    exact ⟨(aP_xp : hEX (aP H ow 4 x (fun f => if f = 1 then hEN H 1 - 1 else if f = 2 then 6 else if f = 5 then -2 else 0) Xi) 4 (hEN H 4) = Xi), ⟨(sF_n (by omega)).trans ((sF_n (by omega)).trans (aP_fp.trans (show hEN H 1 - 1 = ut by omega))), (sF_n (by omega)).trans sF_p, sF_p⟩, by omega, by omega, he⟩
theorem prop_pair (hdl : 930 ≤ dl) (hd : 930 ≤ d) (hS : TkS T n m kd pl E tx) (g : CQ m kd pl tx N TT ex M0c Mc e 0 uc Mc H t) (q : RQ T n 2500 m kd pl E tx M0 M p ut cnt e 0 u dq M R t) (h0 : t.2.1 = 0) (hw : RW Mc M G U L X e 0 u uc) (h14 : Mc.1 65 14 = iI e) (hE : e ≤ 1000) (hH : HRK G e H R ut cnt) (hG : DGK G U X e u) (hM : CMK Mc G e) (nB : CB m e 0 uc) (n1 : 0 ≤ t.1 ∧ t.1 < m ∧ m ≤ 1400 ∧ 0 ≤ e ∧ e ≤ 1000 ∧ 0 ≤ u ∧ u ≤ uc ∧ uc ≤ t.1 ∧ e ≤ t.1) (n2 : hEN H 1 = ut + 1 ∧ 0 ≤ ut ∧ ut ≤ 7 ∧ 0 ≤ hEN H 2 ∧ hEN H 2 ≤ 96 ∧ 0 ≤ cnt ∧ cnt ≤ 12 ∧ 0 ≤ hEN H 3 ∧ hEN H 3 ≤ 16 ∧ 0 ≤ hEN H 4 ∧ hEN H 4 ≤ 6 ∧ (cnt < 12 → hEN H 2 < 96)) (hcn : (0 ≤ R.1 2 0 0 ∧ R.1 2 0 0 ≤ 96) ∧ (0 ≤ R.1 3 0 0 ∧ R.1 3 0 0 ≤ 16) ∧ 0 ≤ R.1 4 0 0 ∧ R.1 4 0 0 ≤ 6) (n4 : 0 ≤ hEF H 1 1 (hEN H 1 - 1) ∧ hEF H 1 1 (hEN H 1 - 1) ≤ hEN H 2) (n5 : ∀ b, BB H b → (b = 0 ∧ cnt < 12) ∨ (b = 1 ∧ 12 ≤ cnt)) (hp : 0 ≤ p ∧ p ≤ 7) (hv1 : v1 = iI p) (hx0 : x0 = iI 0) (hk : kd t.1 = 214) : Rs (cV (runX dl 86 [va_rf (some 65)] Mc) fun M27 => jv (tail77 (runX dl) x0) M27) (runX d 226 [va_rf (some 160), .int v1] M) (fun _ Mc' _ Mr' => MOQ T n m kd pl E tx N TT ex M0c M0 p ut t.1 Mc' Mr') := by
  obtain ⟨b, hbE⟩ : ∃ b : Int, b = 2500 := ⟨_, rfl⟩
  have h : RQ T n b m kd pl E tx M0 M p ut cnt e 0 u dq M R t := by rw [hbE]; exact q
  have he : 0 ≤ e ∧ e ≤ b := by omega
  have hb3 : b ≤ 3000 := by omega
  have hm14 : m ≤ 1400 := n1.2.2.1
  obtain ⟨vc, Mc1, ec, x, r, bb, ow, z1, z2, Q, htd0, hbb, hQ, hok1, gQ⟩ := mc86 (L := L) (d := dl) (by omega) hS g h0 nB hk (by omega) (by omega)
  refine rsl ((cV_e ec).trans jv_e) ?_
  have htd := hH.td htd0
  have a5 := hH.1.2.2.2.2
  have hb : (bb = 0 ∧ R.1 4 0 0 < 6) ∨ (bb = 1 ∧ 6 ≤ R.1 4 0 0) := by omega
  have hu1 : hEN (sF (sF (aP H ow 4 x (fun f => if f = 1 then hEN H 1 - 1 else if f = 2 then 6 else if f = 5 then -2 else 0) (tx (t.1 + 1))) 4 4 (hEN H 4) z1) 4 5 (hEN H 4) z2) 1 = ut + 1 := ((aP_nn (by omega) : hEN (aP H ow 4 x (fun f => if f = 1 then hEN H 1 - 1 else if f = 2 then 6 else if f = 5 then -2 else 0) (tx (t.1 + 1))) 1 = hEN H 1).trans n2.1)
  obtain ⟨t1, ht1⟩ : ∃ z, z = tE kd pl 41 Q.1 := ⟨_, rfl⟩
  rw [← ht1] at gQ hok1
  have g14 : Mc1.1 65 14 = iI e := gQ.2.1.2.trans h14
  obtain ⟨d, rfl⟩ : ∃ e, d = e + 1 := ⟨d - 1, by omega⟩
  obtain ⟨hr, hm, hi⟩ := h.sr h0
  have hmo := hS.more t.1 hi.1 hi.2 ⟨by omega, by omega⟩
  rw [r226]; unfold b226; rw [aR_e, aI_e, aZ_e]; unfold c226
  refine rsr (vC_e (rk_160 h.1.1)) ?_
  refine RrV (q191 (by omega) hS h.1 h.2.2.2.2.1 hb3 (fun _ => ⟨by omega, by omega⟩)) fun v Mp p1 => ?_
  have h1 := h.rp p1 tA_s
  rw [show tA t = (t.1 + 1, 0, 0) from if_pos h0] at h1
  obtain ⟨hr1, hm1, hi1⟩ := h1.sr rfl
  refine rsr (cV_e rfl) ?_
  refine rsr (gtI_q (rk_160 h1.1.1) hr1.2.2.2.1) ?_
  refine rsr (jn_v) ?_
  refine rsr (if_pos (eqI_p rfl li_0 rfl)) ?_
  refine rsr (gtI_q (rk_160 h1.1.1) hr1.1) ?_
  refine rsr (jn_v) ?_
  by_cases k3 : kd (t.1 + 1) = 3
  ·
    refine rsr (if_pos (krI_p (k := 3) rfl li_1 k3 (by decide +kernel))) ?_
    refine rsr (jv_e) ?_
    refine rsr (vC_e (rk_160 h1.1.1)) ?_
    refine rsr (cI_e (ar193_p (by omega) hS h1.1.1 hr1.1 hr1.2.1 hr1.2.2.2.1 li_1 ⟨hi1.1, hi1.2, by dsimp only; omega, rfl⟩)) ?_
    refine rsr (if_neg (eqI_n (x := 1) (y := 0) rfl li_0 (by omega))) ?_
    refine rsr (gtL_q (rk_160 h1.1.1) (hr1.2.2.2.2.2.2.2.2.1 k3)) ?_
    refine rsr (vC_e (rk_160 h1.1.1)) ?_
    refine RrI (a220 (by omega) h1.1.1 h1.2.2.2.1.1 hv1 hp hcn h1.2.2.2.2.2.1) fun v Mx ⟨r1, hvx, hMx, hrx⟩ => ?_
    have er := hrx.one htd
    subst hvx
    subst er
    rw [hMx]
    refine rsr (cI_e rfl) ?_
    refine rsr (jn_v) ?_
    by_cases cr : r1 = 1
    ·
      refine rsr (if_neg (eqI_n rfl li_0 (by omega))) ?_
      refine rsr (jv_e) ?_
      refine rsr (vC_e (rk_160 h1.1.1)) ?_
      obtain ⟨Mq, q1, q2⟩ := q194n (d := d) (b := b) (f := 3) (by omega) hS h1.1.1 hr1 hm1 he hi1 li_0 li_3 (by omega)
      refine rsr (cI_e q1) ?_
      refine rsr (if_pos (eqI_p rfl li_0 rfl)) ?_
      refine rsr (jv_e) ?_
      have hq := h1.rp q2 (fun _ => rfl)
      have hx : RQ T n b m kd pl E tx M0 M p ut cnt e 0 u dq Mq R (tN kd pl r1 bb (t.1 + 1, 0, 0)) := by rw [show tN kd pl r1 bb (t.1 + 1, 0, 0) = _ from (if_pos ⟨rfl, k3⟩).trans (if_pos cr)]; exact hq
      have hxn : ¬ (tN kd pl r1 bb (t.1 + 1, 0, 0)).2.1 = 0 := fun z => by rw [show tN kd pl r1 bb (t.1 + 1, 0, 0) = _ from (if_pos ⟨rfl, k3⟩).trans (if_pos cr)] at z; dsimp only at z; (try split at z) <;> omega
      have h1x := hx.pos hxn
      have ft : t1 = tN kd pl r1 bb (t.1 + 1, 0, 0) := by rw [ht1, hQ, tE_f (K := 40) h1x, tPar_f h1x, tE_f h1x]
      rw [ft] at gQ
      exact Rs.seq ((ftail (by omega) gQ h1x g14 (by omega) hx0 (by omega)).mono fun v Mz ⟨_, hz⟩ => Rt.ok (MOQ.ft hz h1x hu1 hx (by omega)))
    ·
      have r0 : r1 = 0 := by have := hrx.bd; omega
      refine rsr (if_pos (eqI_p rfl li_0 r0)) ?_
      refine rsr (jv_e) ?_
      refine rsr (vC_e (rk_160 h1.1.1)) ?_
      refine rsr (cI_e (ar194_p (by omega) hS h1.1.1 hr1.1 hr1.2.1 hr1.2.2.2.1 li_1 li_3 ⟨hi1.1, hi1.2, rfl⟩)) ?_
      refine rsr (if_neg (eqI_n (x := 1) (y := 0) rfl li_0 (by omega))) ?_
      refine rsr (gtP_q (w := some 184) (rk_160 h1.1.1) (rf_25 h1.1.1)) ?_
      refine rsr (alI_q (n := 8) (z := p) (w := iI (R.1 4 0 0)) (rk_184 h1.1.1) hv1 (by omega) (h1.2.2.2.1.1.gi (st := 1) (by decide) ⟨by omega, by omega⟩ (by omega))) ?_
      refine rsr (jn_v) ?_
      by_cases cb : 6 ≤ R.1 4 0 0
      ·
        refine rsr (if_pos (leI_p li_6 rfl (by omega))) ?_
        refine rsr (jv_e) ?_
        refine rsr (vC_e (rk_160 h1.1.1)) ?_
        obtain ⟨Mq, q1, q2⟩ := q194n (d := d) (b := b) (f := 6) (by omega) hS h1.1.1 hr1 hm1 he hi1 li_0 li_6 (by omega)
        refine rsr (cI_e q1) ?_
        refine rsr (if_pos (eqI_p rfl li_0 rfl)) ?_
        refine rsr (jv_e) ?_
        have hq := h1.rp q2 (fun _ => rfl)
        have hx : RQ T n b m kd pl E tx M0 M p ut cnt e 0 u dq Mq R (tN kd pl r1 bb (t.1 + 1, 0, 0)) := by rw [show tN kd pl r1 bb (t.1 + 1, 0, 0) = _ from (if_pos ⟨rfl, k3⟩).trans ((if_neg cr).trans (if_pos (by omega)))]; exact hq
        have hxn : ¬ (tN kd pl r1 bb (t.1 + 1, 0, 0)).2.1 = 0 := fun z => by rw [show tN kd pl r1 bb (t.1 + 1, 0, 0) = _ from (if_pos ⟨rfl, k3⟩).trans ((if_neg cr).trans (if_pos (by omega)))] at z; dsimp only at z; (try split at z) <;> omega
        have h1x := hx.pos hxn
        have ft : t1 = tN kd pl r1 bb (t.1 + 1, 0, 0) := by rw [ht1, hQ, tE_f (K := 40) h1x, tPar_f h1x, tE_f h1x]
        rw [ft] at gQ
        exact Rs.seq ((ftail (by omega) gQ h1x g14 (by omega) hx0 (by omega)).mono fun v Mz ⟨_, hz⟩ => Rt.ok (MOQ.ft hz h1x hu1 hx (by omega)))
      ·
        refine rsr (if_neg (leI_n li_6 rfl (by omega))) ?_
        refine rsr (jv_e) ?_
        refine rsr (vC_e (rk_160 h1.1.1)) ?_
        refine rsr (cI_e (ar194_p (by omega) hS h1.1.1 hr1.1 hr1.2.1 hr1.2.2.2.1 li_1 li_6 ⟨hi1.1, hi1.2, rfl⟩)) ?_
        refine rsr (if_neg (eqI_n (x := 1) (y := 0) rfl li_0 (by omega))) ?_
        have eN : tN kd pl r1 bb (t.1 + 1, 0, 0) = (t.1 + 1 + 1, 0, 0) := (if_pos ⟨rfl, k3⟩).trans ((if_neg cr).trans (if_neg (by omega)))
        refine rsr (gtP_q (w := some 184) (rk_160 h1.1.1) (rf_25 h1.1.1)) ?_
        refine rsr (alI_q (n := 8) (z := p) (w := iI (R.1 4 0 0)) (rk_184 h1.1.1) hv1 (by omega) (h1.2.2.2.1.1.gi (st := 1) (by decide) ⟨by omega, by omega⟩ (by omega))) ?_
        refine rsr (ltI_q (z := 6 * p + R.1 4 0 0) (adI (mlI li_6 hv1) rfl)) ?_
        refine rsr (gtP_q (w := some 184) (rk_160 h1.1.1) (rf_25 h1.1.1)) ?_
        refine rsr (alI_q (n := 8) (z := p) (w := iI (R.1 4 0 0)) (rk_184 h1.1.1) hv1 (by omega) (h1.2.2.2.1.1.gi (st := 1) (by decide) ⟨by omega, by omega⟩ (by omega))) ?_
        refine rsr (asI_q (u := 100) (n := 8) (z := p) (y := (R.1 4 0 0 + 1)) (rk_184 h1.1.1) hv1 (by omega) (adI rfl li_1)) ?_
        have h2 := h1.si (cc := 184) (st := 1) (k := 4) (f := 0) (j0 := 0) (v := (R.1 4 0 0 + 1)) (i := p) hp.1 (by decide) (by omega) (by omega)
        refine rsr (gtP_q (w := some 185) (rk_160 h2.1.1) (rf_26 h2.1.1)) ?_
        refine rsr (gtL_q (rk_160 h2.1.1) ((h2.sr rfl).1.2.2.2.2.2.2.2.2.1 k3)) ?_
        refine rsr (asL_q (n := 48) (z := 6 * p + R.1 4 0 0) (w := tx (t.1 + 1)) (rk_185 h2.1.1) rfl (by omega) rfl) ?_
        have h4 := h2.sl (cc := 185) (st := 6) (k := 4) (j0 := R.1 4 0 0) (X := tx (t.1 + 1)) (i := 6 * p + R.1 4 0 0) hp.1 (by decide) (by omega) (by omega)
        refine rsr (gtP_q (w := some 208) (rk_160 h4.1.1) (rf_63 h4.1.1)) ?_
        refine rsr (gtI_q (rk_160 h4.1.1) h4.2.2.2.2.2.1) ?_
        refine rsr (asI_q (u := 100) (n := 48) (z := 6 * p + R.1 4 0 0) (y := ut) (rk_208 h4.1.1) rfl (by omega) (rfl)) ?_
        have h8 := h4.si (cc := 208) (st := 6) (k := 4) (f := 1) (j0 := R.1 4 0 0) (v := ut) (i := 6 * p + R.1 4 0 0) hp.1 (by decide) (by omega) (by omega)
        refine rsr (vC_e (rk_160 h8.1.1)) ?_
        refine RrV (q191 (by omega) hS h8.1 h8.2.2.2.2.1 hb3 (fun _ => ⟨by dsimp only; omega, by dsimp only; omega⟩)) fun v M9 p9 => ?_
        have ha := h8.rp p9 tA_s
        rw [show tA ((t.1 + 1, 0, 0) : TS) = (t.1 + 1 + 1, 0, 0) from if_pos rfl, ← eN] at ha
        refine rsr (cV_e rfl) ?_
        refine rsr (vC_e (rk_160 ha.1.1)) ?_
        refine RrI (q195 (K := 40) (by omega) hS ha.1 ha.2.2.2.2.1 ⟨he.1, he.2, hb3⟩ li_40 (by unfold KdOK sgk; omega) (by decide +kernel) (by omega)) fun v Mhb_ ⟨x_hb_, hx_hb_, q_hb_⟩ => ?_
        subst hx_hb_
        refine rsr (cI_e rfl) ?_
        have hb_ := ha.rp q_hb_ tE_s
        obtain ⟨t4, ht4⟩ : ∃ z, z = tE kd pl 40 (tN kd pl r1 bb (t.1 + 1, 0, 0)) := ⟨_, rfl⟩
        rw [← ht4] at hb_ hQ
        refine rsr (vC_e (rk_160 hb_.1.1)) ?_
        refine RrV (mr223 (L := L) (k := 6) (by omega) hS hb_ (fun _ jj p1 p2 => absurd p2 (by omega)) (by omega) (by omega) he hb3) fun v Mf ⟨hf, hLf⟩ => ?_
        rw [← hQ] at hf hLf
        refine rsr (cV_e rfl) ?_
        refine rsr (vC_e (rk_160 hf.1.1)) ?_
        refine RrI (q195 (K := 41) (by omega) hS hf.1 hf.2.2.2.2.1 ⟨he.1, he.2, hb3⟩ li_41 (by unfold KdOK sgk; omega) (by decide +kernel) (by omega)) fun v Mhg ⟨x_hg, hx_hg, q_hg⟩ => ?_
        subst hx_hg
        refine rsr (cI_e rfl) ?_
        have hg := hf.rp q_hg tE_s
        rw [← ht1] at hg q_hg
        refine rsr (gtP_q (w := some 186) (rk_160 hg.1.1) (rf_27 hg.1.1)) ?_
        obtain ⟨s9, hs9, hs9e⟩ := hg.n51
        refine rsr (gtI_q (rk_160 hg.1.1) hs9) ?_
        refine rsr (asI_q (u := 100) (n := 48) (z := 6 * p + R.1 4 0 0) (y := s9) (rk_186 hg.1.1) rfl (by omega) (rfl)) ?_
        have hh := hg.si (cc := 186) (st := 6) (k := 4) (f := 4) (j0 := R.1 4 0 0) (v := s9) (i := 6 * p + R.1 4 0 0) hp.1 (by decide) (by omega) (by omega)
        refine rsr (gtP_q (w := some 187) (rk_160 hh.1.1) (rf_28 hh.1.1)) ?_
        refine rsr (vC_e (rk_160 hh.1.1)) ?_
        by_cases c1 : t1.2.1 = 0
        ·
          obtain ⟨e1, e2, e3⟩ := hok1 c1
          obtain ⟨e3, e4, e5⟩ := e3
          have e9 := hs9e c1
          subst e1
          subst e9
          rw [e2] at gQ hu1
          obtain ⟨k1, k2, k3_⟩ := tE_0 (by rw [← ht1]; exact c1 : (tE kd pl 41 Q.1).2.1 = 0)
          have hLr := hLf k1
          have fr9 : Fr W_219 Mf Mhg := q_hg.2.2 c1
          have eT : t1 = (Q.1.1 + 1, 0, 0) := ht1.trans k3_
          have fc := gQ.2.2.1 c1
          have frr := hh.2.2.1 c1
          obtain ⟨-, i1, i2⟩ := gQ.sc c1
          rw [eT] at gQ hh i1 i2
          have lt : t.1 < Q.1.1 + 1 := by
            have k4 : t4.2.1 = 0 := by
              by_cases y : t4.2.1 = 0
              · exact y
              · rw [hQ, tPar_f (hb_.pos y)] at k1; exact k1
            have k5 : t4.1 ≤ Q.1.1 := by rw [hQ]; exact tPar_le (s := 0) (k := 0) 6 t4 0 L k4 (by rw [← hQ]; exact k1)
            obtain ⟨m1, m2, m3⟩ := tE_0 (by rw [← ht4]; exact k4 : (tE kd pl 40 (tN kd pl r1 bb (t.1 + 1, 0, 0))).2.1 = 0)
            rw [eN] at m3; rw [← ht4.trans (by rw [eN] : _ = tE kd pl 40 ((t.1 + 1 + 1, 0, 0) : TS))] at m3
            rw [m3] at k5; dsimp only at k5; omega
          dsimp only at i1 i2
          have hLh : LA 199 (sI Mhg 186 (6 * p + R.1 4 0 0).toNat (iI Q.2.1)) Q.2.2 Q.2.1 := fun jj p1 p2 => (fr9.lc _ (by decide) _).trans (hLr jj p1 p2)
          rw [hbE] at hh
          refine blk (mu := 0) (by omega) (by omega) hS gQ hh (hw.mv fc frr e3 hLh) (by unfold BD; omega) g14 (by omega) hx0 li_0 hu1 (by omega) hE hH hG (fun jj p1 p2 => (fc.c 75 ⟨by decide, by omega⟩ _).trans (hM jj p1 p2)) (fun Mc2 Mr2 G2 U2 X2 i2_ e2_ u2 uc2 j1 gg qq ww bd2 ee en hh2 hg2 hm2 => ?_) (fun Mc2 Mr2 tt k1_ gg qq => ?_)
          ·
            refine rs1 (asI_q (u := 100) (n := 48) (z := 6 * p + R.1 4 0 0) (y := e) (rk_187 qq.1.1) rfl (by omega) rfl) ?_
            have q9 := qq.si (cc := 187) (st := 6) (k := 4) (f := 5) (j0 := R.1 4 0 0) (v := e) (i := 6 * p + R.1 4 0 0) hp.1 (by decide) (by omega) (by omega)
            have hc12 : hEN H 4 < 6 := by have := (tN_0 (show (tN kd pl r1 bb (t.1 + 1, 0, 0)).2.1 = 0 by rw [eN])).2.2.2.1; omega
            obtain ⟨w1, w2, w3, w4, w5, w6⟩ := ww
            refine Rt.ok (Or.inl ⟨i2_, G2, U2, X2, Q.2.2, _, _, e2_, Q.2.1, u2, uc2, cnt, 0, by omega, gg, ⟨_, q9.re⟩, ⟨w1, fun jj p1 p2 => ?_, fun jj p1 p2 => absurd p2 (by omega), fun jj p1 p2 => absurd p2 (by omega), w5, fun jj p1 p2 => ?_⟩, bd2, ee.2, hh2.np hc12 ⟨e4, e5⟩ en, hg2, hm2⟩)
            · exact (w2.fr (W := [(187, 9999)]) frone (by decide)) jj p1 p2
            · exact (w6.fr (W := [(187, 9999)]) frone (by decide)) jj p1 p2
          ·
            refine rs1 (asI_q (u := 100) (n := 48) (z := 6 * p + R.1 4 0 0) (y := e) (rk_187 qq.1.1) rfl (by omega) rfl) ?_
            have q9 := qq.si (cc := 187) (st := 6) (k := 4) (f := 5) (j0 := R.1 4 0 0) (v := e) (i := 6 * p + R.1 4 0 0) hp.1 (by decide) (by omega) (by omega)
            exact Rt.ok (MOQ.ft gg k1_ hu1 q9 (by omega))
        ·
          have c1p := gQ.pos c1
          refine Rs.seq ((ftail (by omega) gQ c1p g14 (by omega) hx0 (by omega)).mono fun v Mz ⟨_, hz⟩ => ?_)
          refine Rc_I (r218f (mu := 0) (by omega) hh c1p (by omega) li_0 (by omega)) fun v M218 ⟨rv, hv218, q218⟩ => ?_
          subst hv218
          refine rs1 (cI_e rfl) ?_
          refine rs1 (asI_q (u := 100) (n := 48) (z := 6 * p + R.1 4 0 0) (y := rv) (rk_187 q218.1.1) rfl (by omega) rfl) ?_
          have q9 := q218.si (cc := 187) (st := 6) (k := 4) (f := 5) (j0 := R.1 4 0 0) (v := rv) (i := 6 * p + R.1 4 0 0) hp.1 (by decide) (by omega) (by omega)
          exact Rt.ok (MOQ.ft hz c1p hu1 q9 (by omega))
  ·
    refine rsr (if_neg (krI_n (k := 3) rfl li_1 (hS.ok (t.1 + 1) hi1.1 hi1.2) (by unfold KdOK; omega) (by decide +kernel) k3 (by omega))) ?_
    refine rsr (jv_e) ?_
    refine rsr (vC_e (rk_160 h1.1.1)) ?_
    obtain ⟨Mq, q1, q2⟩ := q193n (d := d) (b := b) (by omega) hS h1.1.1 hr1 hm1 he hi1 li_0
    refine rsr (cI_e q1) ?_
    refine rsr (if_pos (eqI_p rfl li_0 rfl)) ?_
    refine rsr (jv_e) ?_
    have hq := h1.rp q2 (fun _ => rfl)
    have hx : RQ T n b m kd pl E tx M0 M p ut cnt e 0 u dq Mq R (tN kd pl r bb (t.1 + 1, 0, 0)) := by rw [show tN kd pl r bb (t.1 + 1, 0, 0) = _ from (if_neg fun z => k3 z.2).trans (if_pos rfl)]; exact hq
    have hxn : ¬ (tN kd pl r bb (t.1 + 1, 0, 0)).2.1 = 0 := fun z => by rw [show tN kd pl r bb (t.1 + 1, 0, 0) = _ from (if_neg fun z => k3 z.2).trans (if_pos rfl)] at z; dsimp only at z; (try split at z) <;> omega
    have h1x := hx.pos hxn
    have ft : t1 = tN kd pl r bb (t.1 + 1, 0, 0) := by rw [ht1, hQ, tE_f (K := 40) h1x, tPar_f h1x, tE_f h1x]
    rw [ft] at gQ
    exact Rs.seq ((ftail (by omega) gQ h1x g14 (by omega) hx0 (by omega)).mono fun v Mz ⟨_, hz⟩ => Rt.ok (MOQ.ft hz h1x hu1 hx (by omega)))
end S63
