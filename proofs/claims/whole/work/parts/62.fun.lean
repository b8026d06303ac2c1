/-! a fun: both -/
section S62
variable {dl d : Nat} {T : Int → Int} {n m b e s u uc dq p i r ut cnt lo ki mu : Int} {kd pl E : Int → Int} {tx : Int → Int64} {M0 M M0c Mc : Mem} {R : RG} {t : TS} {L : Int → Int64} {N TT ex : Nat} {H : HG} {G U : Nat → Int → Int} {X : Nat → Int → Int64} {v1 v2 x0 c1 : Int32}
theorem tPar_le {s : Int} {k : Nat} : ∀ (k : Nat) (t : TS) (s : Int) (L : Int → Int64), t.2.1 = 0 → (tPar kd pl tx k t s L).1.2.1 = 0 → t.1 ≤ (tPar kd pl tx k t s L).1.1
  | 0, t, s, L, _, _ => Int.le_refl _
  | k + 1, t, s, L, h0, h => by
    by_cases c : (tN kd pl (kn L s (tx t.1)) (if s < 4 then 0 else 1) t).2.1 = 0
    · by_cases c2 : kd (t.1 + 1) = 44
      · rw [tPar_c h0 c c2] at h ⊢
        have := tPar_le (s := s) (k := k) k (t.1 + 1 + 1, 0, 0) (s + 1) (up1 L s (tx t.1)) rfl h
        dsimp only at this
        omega
      · rw [tPar_e h0 c c2]; dsimp only; omega
    · rw [tPar_n h0 c] at h; exact absurd h c
theorem tQ_le (h0 : t.2.1 = 0) (h : (tQ kd pl tx t L).1.2.1 = 0) : t.1 ≤ (tQ kd pl tx t L).1.1 := by
  by_cases c : t.2.1 = 0 ∧ kd t.1 = 41
  · rw [show tQ kd pl tx t L = (t, 0, L) from if_pos c]; exact Int.le_refl _
  · have e : tQ kd pl tx t L = tPar kd pl tx 6 t 0 L := if_neg c
    rw [e] at h ⊢
    exact tPar_le (s := 0) (k := 0) 6 t 0 L h0 h
theorem fun_pair (hdl : 930 ≤ dl) (hd : 930 ≤ d) (hS : TkS T n m kd pl E tx) (g : CQ m kd pl tx N TT ex M0c Mc e 0 uc Mc H t) (q : RQ T n 2500 m kd pl E tx M0 M p ut cnt e s u dq M R t) (h0 : t.2.1 = 0) (hw : RW Mc M G U L X e 0 u uc) (h14 : Mc.1 65 14 = iI e) (hE : e ≤ 1000) (hH : HRK G e H R ut cnt) (hG : DGK G U X e u) (hM : CMK Mc G e) (nB : CB m e 0 uc) (n1 : 0 ≤ t.1 ∧ t.1 < m ∧ m ≤ 1400 ∧ 0 ≤ e ∧ e ≤ 1000 ∧ 0 ≤ u ∧ u ≤ uc ∧ uc ≤ t.1 ∧ e ≤ t.1) (n2 : hEN H 1 = ut + 1 ∧ 0 ≤ ut ∧ ut ≤ 7 ∧ 0 ≤ hEN H 2 ∧ hEN H 2 ≤ 96 ∧ 0 ≤ cnt ∧ cnt ≤ 12 ∧ 0 ≤ hEN H 3 ∧ hEN H 3 ≤ 16 ∧ 0 ≤ hEN H 4 ∧ hEN H 4 ≤ 6 ∧ (cnt < 12 → hEN H 2 < 96)) (hcn : (0 ≤ R.1 2 0 0 ∧ R.1 2 0 0 ≤ 96) ∧ (0 ≤ R.1 3 0 0 ∧ R.1 3 0 0 ≤ 16) ∧ 0 ≤ R.1 4 0 0 ∧ R.1 4 0 0 ≤ 6) (n4 : 0 ≤ hEF H 1 1 (hEN H 1 - 1) ∧ hEF H 1 1 (hEN H 1 - 1) ≤ hEN H 2) (n5 : ∀ b, BB H b → (b = 0 ∧ cnt < 12) ∨ (b = 1 ∧ 12 ≤ cnt)) (hp : 0 ≤ p ∧ p ≤ 7) (hv1 : v1 = iI p) (hx0 : x0 = iI 1) (hk : kd t.1 = 207) (hc1 : c1 = iI lo) (hv2 : v2 = iI lo) (hlo : 0 ≤ lo ∧ lo ≤ 1) : Rs (cV (runX dl 81 [va_rf (some 65), .int c1] Mc) fun M27 => jv (tail77 (runX dl) x0) M27) (runX d 222 [va_rf (some 160), .int v1, .int v2] M) (fun _ Mc' _ Mr' => MOQ T n m kd pl E tx N TT ex M0c M0 p ut t.1 Mc' Mr') := by
  obtain ⟨b, hbE⟩ : ∃ b : Int, b = 2500 := ⟨_, rfl⟩
  have h : RQ T n b m kd pl E tx M0 M p ut cnt e s u dq M R t := by rw [hbE]; exact q
  have he : 0 ≤ e ∧ e ≤ b := by omega
  have hb3 : b ≤ 3000 := by omega
  have hm14 : m ≤ 1400 := n1.2.2.1
  obtain ⟨vc, Mc1, ec, x, r, bb, ow, z1, z2, Q, htd0, hbb, hQ, hok1, gQ⟩ := mc81 (L := L) (d := dl) (by omega) hS g h0 nB hk hc1 hlo (by omega) (by omega) n4
  refine rsl ((cV_e ec).trans jv_e) ?_
  have htd := hH.td htd0
  have hb := n5 bb hbb
  have hkr : kr (kd t.1) = 403 + 4 := by rw [hk]; decide +kernel
  have hu1 : hEN (sF (sF (aP H ow 2 x (pF lo (hEN H 1 - 1) 4) (tx (t.1 + 1))) 2 4 (hEN H 2) z1) 2 5 (hEN H 2) z2) 1 = ut + 1 := ((aP_nn (by omega) : hEN (aP H ow 2 x (pF lo (hEN H 1 - 1) 4) (tx (t.1 + 1))) 1 = hEN H 1).trans n2.1)
  obtain ⟨t1, ht1⟩ : ∃ z, z = tE kd pl 41 Q.1 := ⟨_, rfl⟩
  rw [← ht1] at gQ hok1
  have g14 : Mc1.1 65 14 = iI e := gQ.2.1.2.trans h14
  have hc96 : cnt < 12 → R.1 2 0 0 < 96 := fun w => by have := hH.1.2.2.1; have := n2.2.2.2.2.2.2.2.2.2.2.2 w; omega
  obtain ⟨d, rfl⟩ : ∃ e, d = e + 1 := ⟨d - 1, by omega⟩
  obtain ⟨hr, hm, hi⟩ := h.sr h0
  have hmo := hS.more t.1 hi.1 hi.2 ⟨by omega, by omega⟩
  rw [r222]; unfold b222; rw [aR_e, aI_e, aI_e, aZ_e]; unfold c222
  refine rsr (gtI_q (rk_160 h.1.1) hr.1) ?_
  refine rsr (ltI_q (z := 4) (cvI (sbI rfl li_403) (by omega))) ?_
  refine rsr (vC_e (rk_160 h.1.1)) ?_
  refine RrV (q191 (by omega) hS h.1 h.2.2.2.2.1 hb3 (fun _ => ⟨by omega, by omega⟩)) fun v Mp p1 => ?_
  have h1 := h.rp p1 tA_s
  rw [show tA t = (t.1 + 1, 0, 0) from if_pos h0] at h1
  obtain ⟨hr1, hm1, hi1⟩ := h1.sr rfl
  refine rsr (cV_e rfl) ?_
  refine rsr (gtI_q (rk_160 h1.1.1) hr1.2.2.2.1) ?_
  refine rsr (jn_v) ?_
  refine rsr (if_pos (eqI_p rfl li_0 rfl)) ?_
  refine rsr (gtI_q (rk_160 h1.1.1) hr1.1) ?_
  refine rsr (jn_v) ?_
  by_cases k3 : kd (t.1 + 1) = 3
  ·
    refine rsr (if_pos (krI_p (k := 3) rfl li_1 k3 (by decide +kernel))) ?_
    refine rsr (jv_e) ?_
    refine rsr (vC_e (rk_160 h1.1.1)) ?_
    refine rsr (cI_e (ar193_p (by omega) hS h1.1.1 hr1.1 hr1.2.1 hr1.2.2.2.1 li_1 ⟨hi1.1, hi1.2, by dsimp only; omega, rfl⟩)) ?_
    refine rsr (if_neg (eqI_n (x := 1) (y := 0) rfl li_0 (by omega))) ?_
    refine rsr (gtL_q (rk_160 h1.1.1) (hr1.2.2.2.2.2.2.2.2.1 k3)) ?_
    refine rsr (vC_e (rk_160 h1.1.1)) ?_
    refine RrI (a220 (by omega) h1.1.1 h1.2.2.2.1.1 hv1 hp hcn h1.2.2.2.2.2.1) fun v Mx ⟨r1, hvx, hMx, hrx⟩ => ?_
    have er := hrx.one htd
    subst hvx
    subst er
    rw [hMx]
    refine rsr (cI_e rfl) ?_
    refine rsr (jn_v) ?_
    by_cases cr : r1 = 1
    ·
      refine rsr (if_neg (eqI_n rfl li_0 (by omega))) ?_
      refine rsr (jv_e) ?_
      refine rsr (vC_e (rk_160 h1.1.1)) ?_
      obtain ⟨Mq, q1, q2⟩ := q194n (d := d) (b := b) (f := 3) (by omega) hS h1.1.1 hr1 hm1 he hi1 li_0 li_3 (by omega)
      refine rsr (cI_e q1) ?_
      refine rsr (if_pos (eqI_p rfl li_0 rfl)) ?_
      refine rsr (jv_e) ?_
      have hq := h1.rp q2 (fun _ => rfl)
      have hx : RQ T n b m kd pl E tx M0 M p ut cnt e s u dq Mq R (tN kd pl r1 bb (t.1 + 1, 0, 0)) := by rw [show tN kd pl r1 bb (t.1 + 1, 0, 0) = _ from (if_pos ⟨rfl, k3⟩).trans (if_pos cr)]; exact hq
      have hxn : ¬ (tN kd pl r1 bb (t.1 + 1, 0, 0)).2.1 = 0 := fun z => by rw [show tN kd pl r1 bb (t.1 + 1, 0, 0) = _ from (if_pos ⟨rfl, k3⟩).trans (if_pos cr)] at z; dsimp only at z; (try split at z) <;> omega
      have h1x := hx.pos hxn
      have ft : t1 = tN kd pl r1 bb (t.1 + 1, 0, 0) := by rw [ht1, hQ, tE_f (K := 40) h1x, tQ_f h1x, tE_f h1x]
      rw [ft] at gQ
      exact Rs.seq ((ftail (by omega) gQ h1x g14 (by omega) hx0 (by omega)).mono fun v Mz ⟨_, hz⟩ => Rt.ok (MOQ.ft hz h1x hu1 hx (by omega)))
    ·
      have r0 : r1 = 0 := by have := hrx.bd; omega
      refine rsr (if_pos (eqI_p rfl li_0 r0)) ?_
      refine rsr (jv_e) ?_
      refine rsr (vC_e (rk_160 h1.1.1)) ?_
      refine rsr (cI_e (ar194_p (by omega) hS h1.1.1 hr1.1 hr1.2.1 hr1.2.2.2.1 li_1 li_3 ⟨hi1.1, hi1.2, rfl⟩)) ?_
      refine rsr (if_neg (eqI_n (x := 1) (y := 0) rfl li_0 (by omega))) ?_
      refine rsr (gtI_q (rk_160 h1.1.1) h1.2.2.2.2.2.2) ?_
      refine rsr (jn_v) ?_
      by_cases cb : 12 ≤ cnt
      ·
        refine rsr (if_pos (leI_p li_12 rfl (by omega))) ?_
        refine rsr (jv_e) ?_
        refine rsr (vC_e (rk_160 h1.1.1)) ?_
        obtain ⟨Mq, q1, q2⟩ := q194n (d := d) (b := b) (f := 6) (by omega) hS h1.1.1 hr1 hm1 he hi1 li_0 li_6 (by omega)
        refine rsr (cI_e q1) ?_
        refine rsr (if_pos (eqI_p rfl li_0 rfl)) ?_
        refine rsr (jv_e) ?_
        have hq := h1.rp q2 (fun _ => rfl)
        have hx : RQ T n b m kd pl E tx M0 M p ut cnt e s u dq Mq R (tN kd pl r1 bb (t.1 + 1, 0, 0)) := by rw [show tN kd pl r1 bb (t.1 + 1, 0, 0) = _ from (if_pos ⟨rfl, k3⟩).trans ((if_neg cr).trans (if_pos (by omega)))]; exact hq
        have hxn : ¬ (tN kd pl r1 bb (t.1 + 1, 0, 0)).2.1 = 0 := fun z => by rw [show tN kd pl r1 bb (t.1 + 1, 0, 0) = _ from (if_pos ⟨rfl, k3⟩).trans ((if_neg cr).trans (if_pos (by omega)))] at z; dsimp only at z; (try split at z) <;> omega
        have h1x := hx.pos hxn
        have ft : t1 = tN kd pl r1 bb (t.1 + 1, 0, 0) := by rw [ht1, hQ, tE_f (K := 40) h1x, tQ_f h1x, tE_f h1x]
        rw [ft] at gQ
        exact Rs.seq ((ftail (by omega) gQ h1x g14 (by omega) hx0 (by omega)).mono fun v Mz ⟨_, hz⟩ => Rt.ok (MOQ.ft hz h1x hu1 hx (by omega)))
      ·
        refine rsr (if_neg (leI_n li_12 rfl (by omega))) ?_
        refine rsr (jv_e) ?_
        refine rsr (vC_e (rk_160 h1.1.1)) ?_
        refine rsr (cI_e (ar194_p (by omega) hS h1.1.1 hr1.1 hr1.2.1 hr1.2.2.2.1 li_1 li_6 ⟨hi1.1, hi1.2, rfl⟩)) ?_
        refine rsr (if_neg (eqI_n (x := 1) (y := 0) rfl li_0 (by omega))) ?_
        have eN : tN kd pl r1 bb (t.1 + 1, 0, 0) = (t.1 + 1 + 1, 0, 0) := (if_pos ⟨rfl, k3⟩).trans ((if_neg cr).trans (if_neg (by omega)))
        obtain ⟨c, hcE⟩ : ∃ c, c = R.1 2 0 0 := ⟨_, rfl⟩
        refine rsr (gtP_q (w := some 169) (rk_160 h1.1.1) (rf_10 h1.1.1)) ?_
        refine rsr (alI_q (n := 8) (z := p) (w := iI (R.1 2 0 0)) (rk_169 h1.1.1) hv1 (by omega) (h1.2.2.2.1.1.gi (st := 1) (by decide) ⟨by omega, by omega⟩ (by omega))) ?_
        refine rsr (ltI_q (z := 96 * p + R.1 2 0 0) (adI (mlI li_96 hv1) rfl)) ?_
        refine rsr (gtP_q (w := some 169) (rk_160 h1.1.1) (rf_10 h1.1.1)) ?_
        refine rsr (alI_q (n := 8) (z := p) (w := iI (R.1 2 0 0)) (rk_169 h1.1.1) hv1 (by omega) (h1.2.2.2.1.1.gi (st := 1) (by decide) ⟨by omega, by omega⟩ (by omega))) ?_
        refine rsr (asI_q (u := 100) (n := 8) (z := p) (y := (R.1 2 0 0 + 1)) (rk_169 h1.1.1) hv1 (by omega) (adI rfl li_1)) ?_
        have h2 := h1.si (cc := 169) (st := 1) (k := 2) (f := 0) (j0 := 0) (v := (R.1 2 0 0 + 1)) (i := p) hp.1 (by decide) (by omega) (by omega)
        refine rsr (gtI_q (rk_160 h2.1.1) h2.2.2.2.2.2.2) ?_
        refine rsr (ptI_q (z := cnt + 1) (rk_160 h2.1.1) (adI rfl li_1)) ?_
        have h3 := h2.c64 (c := cnt + 1)
        refine rsr (gtP_q (w := some 170) (rk_160 h3.1.1) (rf_11 h3.1.1)) ?_
        refine rsr (gtL_q (rk_160 h3.1.1) ((h3.sr rfl).1.2.2.2.2.2.2.2.2.1 k3)) ?_
        refine rsr (asL_q (n := 768) (z := 96 * p + R.1 2 0 0) (w := tx (t.1 + 1)) (rk_170 h3.1.1) rfl (by omega) rfl) ?_
        have h4 := h3.sl (cc := 170) (st := 96) (k := 2) (j0 := R.1 2 0 0) (X := tx (t.1 + 1)) (i := 96 * p + R.1 2 0 0) hp.1 (by decide) (by omega) (by omega)
        refine rsr (gtP_q (w := some 171) (rk_160 h4.1.1) (rf_12 h4.1.1)) ?_
        refine rsr (gtI_q (rk_160 h4.1.1) h4.2.2.2.2.2.1) ?_
        refine rsr (asI_q (u := 100) (n := 768) (z := 96 * p + R.1 2 0 0) (y := ut) (rk_171 h4.1.1) rfl (by omega) (rfl)) ?_
        have h5 := h4.si (cc := 171) (st := 96) (k := 2) (f := 1) (j0 := R.1 2 0 0) (v := ut) (i := 96 * p + R.1 2 0 0) hp.1 (by decide) (by omega) (by omega)
        refine rsr (gtP_q (w := some 172) (rk_160 h5.1.1) (rf_13 h5.1.1)) ?_
        refine rsr (asI_q (u := 100) (n := 768) (z := 96 * p + R.1 2 0 0) (y := 4) (rk_172 h5.1.1) rfl (by omega) (rfl)) ?_
        have h6 := h5.si (cc := 172) (st := 96) (k := 2) (f := 2) (j0 := R.1 2 0 0) (v := 4) (i := 96 * p + R.1 2 0 0) hp.1 (by decide) (by omega) (by omega)
        refine rsr (gtP_q (w := some 173) (rk_160 h6.1.1) (rf_14 h6.1.1)) ?_
        refine rsr (asI_q (u := 102) (n := 768) (z := 96 * p + R.1 2 0 0) (y := lo) (rk_173 h6.1.1) rfl (by omega) (znar_e hv2 hlo)) ?_
        have h7 := h6.si (cc := 173) (st := 96) (k := 2) (f := 3) (j0 := R.1 2 0 0) (v := lo) (i := 96 * p + R.1 2 0 0) hp.1 (by decide) (by omega) (by omega)
        refine rsr (gtP_q (w := some 175) (rk_160 h7.1.1) (rf_16 h7.1.1)) ?_
        refine rsr (asI_q (u := 100) (n := 768) (z := 96 * p + R.1 2 0 0) (y := (-2)) (rk_175 h7.1.1) rfl (by omega) (li_m2)) ?_
        have h8 := h7.si (cc := 175) (st := 96) (k := 2) (f := 5) (j0 := R.1 2 0 0) (v := (-2)) (i := 96 * p + R.1 2 0 0) hp.1 (by decide) (by omega) (by omega)
        refine rsr (vC_e (rk_160 h8.1.1)) ?_
        refine RrV (q191 (by omega) hS h8.1 h8.2.2.2.2.1 hb3 (fun _ => ⟨by dsimp only; omega, by dsimp only; omega⟩)) fun v M9 p9 => ?_
        have h9 := h8.rp p9 tA_s
        rw [show tA ((t.1 + 1, 0, 0) : TS) = (t.1 + 1 + 1, 0, 0) from if_pos rfl, ← eN] at h9
        change RQ T n b m kd pl E tx M0 M p ut (cnt + 1) e s u dq M9 (rM R (tx (t.1 + 1)) ut 4 lo) _ at h9
        refine rsr (cV_e rfl) ?_
        refine rsr (jn_v) ?_
        refine rsr (if_pos (leI_p li_3 rfl (by omega))) ?_
        refine rsr (if_neg (eqI_n rfl li_3 (by omega))) ?_
        refine rsr (ptI_q (z := 0) (rk_160 h9.1.1) li_0) ?_
        have ha := h9.s51 (s2 := 0) (L := L)
        refine rsr (vC_e (rk_160 ha.1.1)) ?_
        refine RrI (q195 (K := 40) (by omega) hS ha.1 ha.2.2.2.2.1 ⟨he.1, he.2, hb3⟩ li_40 (by unfold KdOK sgk; omega) (by decide +kernel) (by omega)) fun v Mhb_ ⟨x_hb_, hx_hb_, q_hb_⟩ => ?_
        subst hx_hb_
        refine rsr (cI_e rfl) ?_
        have hb_ := ha.rp q_hb_ tE_s
        obtain ⟨t4, ht4⟩ : ∃ z, z = tE kd pl 40 (tN kd pl r1 bb (t.1 + 1, 0, 0)) := ⟨_, rfl⟩
        rw [← ht4] at hb_ hQ
        obtain ⟨F, f41, fr1, fr2, fr3⟩ := hb_.n41
        refine rsr (gtI_q (rk_160 hb_.1.1) f41) ?_
        refine rsr (jn_v) ?_
        -- behind the parameters
        have fin : ∀ Mf, RQ T n b m kd pl E tx M0 M p ut (cnt + 1) e Q.2.1 u dq Mf (rM R (tx (t.1 + 1)) ut 4 lo) Q.1 → (Q.1.2.1 = 0 → LA 199 Mf Q.2.2 Q.2.1) → Rs (tail77 (runX dl) x0 Mc1) (vC (13, 157) Mf (some 160) <| cI (runX d 195 [va_rf (some 160), .int ((41 : Int32))] Mf) fun x69 M68 => gtP (13, 157) M68 (some 160) 15 fun x70 => gtI (13, 157) M68 (some 160) 51 fun x71 => asI 100 M68 x70 (iI (96 * p + R.1 2 0 0)) x71 fun M72 => gtP (13, 157) M72 (some 160) 16 fun x73 => vC (13, 157) M72 (some 160) <| cI (runX d 218 [va_rf (some 160), .int ((1 : Int32))] M72) fun x75 M74 => asI 100 M74 x73 (iI (96 * p + R.1 2 0 0)) x75 fun M76 => some (.null, M76)) (fun _ Mc' _ Mr' => MOQ T n m kd pl E tx N TT ex M0c M0 p ut t.1 Mc' Mr') := fun Mf hf hLf => by
          refine rsr (vC_e (rk_160 hf.1.1)) ?_
          refine RrI (q195 (K := 41) (by omega) hS hf.1 hf.2.2.2.2.1 ⟨he.1, he.2, hb3⟩ li_41 (by unfold KdOK sgk; omega) (by decide +kernel) (by omega)) fun v Mhg ⟨x_hg, hx_hg, q_hg⟩ => ?_
          subst hx_hg
          refine rsr (cI_e rfl) ?_
          have hg := hf.rp q_hg tE_s
          rw [← ht1] at hg q_hg
          refine rsr (gtP_q (w := some 174) (rk_160 hg.1.1) (rf_15 hg.1.1)) ?_
          obtain ⟨s9, hs9, hs9e⟩ := hg.n51
          refine rsr (gtI_q (rk_160 hg.1.1) hs9) ?_
          refine rsr (asI_q (u := 100) (n := 768) (z := 96 * p + R.1 2 0 0) (y := s9) (rk_174 hg.1.1) rfl (by omega) (rfl)) ?_
          have hh := hg.si (cc := 174) (st := 96) (k := 2) (f := 4) (j0 := R.1 2 0 0) (v := s9) (i := 96 * p + R.1 2 0 0) hp.1 (by decide) (by omega) (by omega)
          refine rsr (gtP_q (w := some 175) (rk_160 hh.1.1) (rf_16 hh.1.1)) ?_
          refine rsr (vC_e (rk_160 hh.1.1)) ?_
          by_cases c1 : t1.2.1 = 0
          ·
            obtain ⟨e1, e2, e3⟩ := hok1 c1
            obtain ⟨e3, e4, e5⟩ := e3
            have e9 := hs9e c1
            subst e1
            subst e9
            rw [e2] at gQ hu1
            obtain ⟨k1, k2, k3_⟩ := tE_0 (by rw [← ht1]; exact c1 : (tE kd pl 41 Q.1).2.1 = 0)
            have hLr := hLf k1
            have fr9 : Fr W_219 Mf Mhg := q_hg.2.2 c1
            have eT : t1 = (Q.1.1 + 1, 0, 0) := ht1.trans k3_
            have fc := gQ.2.2.1 c1
            have frr := hh.2.2.1 c1
            obtain ⟨-, i1, i2⟩ := gQ.sc c1
            rw [eT] at gQ hh i1 i2
            have lt : t.1 < Q.1.1 + 1 := by
              have k4 : t4.2.1 = 0 := by
                by_cases y : t4.2.1 = 0
                · exact y
                · rw [hQ, tQ_f (hb_.pos y)] at k1; exact k1
              have k5 : t4.1 ≤ Q.1.1 := by rw [hQ]; exact tQ_le k4 (by rw [← hQ]; exact k1)
              obtain ⟨m1, m2, m3⟩ := tE_0 (by rw [← ht4]; exact k4 : (tE kd pl 40 (tN kd pl r1 bb (t.1 + 1, 0, 0))).2.1 = 0)
              rw [eN] at m3; rw [← ht4.trans (by rw [eN] : _ = tE kd pl 40 ((t.1 + 1 + 1, 0, 0) : TS))] at m3
              rw [m3] at k5; dsimp only at k5; omega
            dsimp only at i1 i2
            have hLh : LA 199 (sI Mhg 174 (96 * p + R.1 2 0 0).toNat (iI Q.2.1)) Q.2.2 Q.2.1 := fun jj p1 p2 => (fr9.lc _ (by decide) _).trans (hLr jj p1 p2)
            rw [hbE] at hh
            refine blk (mu := 1) (by omega) (by omega) hS gQ hh (hw.mv fc frr e3 hLh) (by unfold BD; omega) g14 (by omega) hx0 li_1 hu1 (by omega) hE hH hG (fun jj p1 p2 => (fc.c 75 ⟨by decide, by omega⟩ _).trans (hM jj p1 p2)) (fun Mc2 Mr2 G2 U2 X2 i2_ e2_ u2 uc2 j1 gg qq ww bd2 ee en hh2 hg2 hm2 => ?_) (fun Mc2 Mr2 tt k1_ gg qq => ?_)
            ·
              refine rs1 (asI_q (u := 100) (n := 768) (z := 96 * p + R.1 2 0 0) (y := e) (rk_175 qq.1.1) rfl (by omega) rfl) ?_
              have q9 := qq.si (cc := 175) (st := 96) (k := 2) (f := 5) (j0 := R.1 2 0 0) (v := e) (i := 96 * p + R.1 2 0 0) hp.1 (by decide) (by omega) (by omega)
              have hc12 : cnt < 12 := by have := (tN_0 (show (tN kd pl r1 bb (t.1 + 1, 0, 0)).2.1 = 0 by rw [eN])).2.2.2.1; omega
              obtain ⟨w1, w2, w3, w4, w5, w6⟩ := ww
              refine Rt.ok (Or.inl ⟨i2_, G2, U2, X2, Q.2.2, _, _, e2_, Q.2.1, u2, uc2, cnt + 1, 0, by omega, gg, ⟨_, q9.re⟩, ⟨w1, fun jj p1 p2 => ?_, fun jj p1 p2 => absurd p2 (by omega), fun jj p1 p2 => absurd p2 (by omega), w5, fun jj p1 p2 => ?_⟩, bd2, ee.2, hh2.nm5 hc12 hlo ⟨e4, e5⟩ en, hg2, hm2⟩)
              · exact (w2.fr (W := [(175, 9999)]) frone (by decide)) jj p1 p2
              · exact (w6.fr (W := [(175, 9999)]) frone (by decide)) jj p1 p2
            ·
              refine rs1 (asI_q (u := 100) (n := 768) (z := 96 * p + R.1 2 0 0) (y := e) (rk_175 qq.1.1) rfl (by omega) rfl) ?_
              have q9 := qq.si (cc := 175) (st := 96) (k := 2) (f := 5) (j0 := R.1 2 0 0) (v := e) (i := 96 * p + R.1 2 0 0) hp.1 (by decide) (by omega) (by omega)
              exact Rt.ok (MOQ.ft gg k1_ hu1 q9 (by omega))
          ·
            have c1p := gQ.pos c1
            refine Rs.seq ((ftail (by omega) gQ c1p g14 (by omega) hx0 (by omega)).mono fun v Mz ⟨_, hz⟩ => ?_)
            refine Rc_I (r218f (mu := 1) (by omega) hh c1p (by omega) li_1 (by omega)) fun v M218 ⟨rv, hv218, q218⟩ => ?_
            subst hv218
            refine rs1 (cI_e rfl) ?_
            refine rs1 (asI_q (u := 100) (n := 768) (z := 96 * p + R.1 2 0 0) (y := rv) (rk_175 q218.1.1) rfl (by omega) rfl) ?_
            have q9 := q218.si (cc := 175) (st := 96) (k := 2) (f := 5) (j0 := R.1 2 0 0) (v := rv) (i := 96 * p + R.1 2 0 0) hp.1 (by decide) (by omega) (by omega)
            exact Rt.ok (MOQ.ft hz c1p hu1 q9 (by omega))
        by_cases c4 : t4.2.1 = 0
        ·
          obtain ⟨hrB, hmB, hiB⟩ := hb_.sr c4
          refine rsr (if_pos (eqI_p rfl li_0 (fr3.2 c4))) ?_
          refine rsr (gtI_q (rk_160 hb_.1.1) hrB.1) ?_
          by_cases k41 : kd t4.1 = 41
          ·
            refine rsr (if_pos (krI_p (k := 41) rfl li_41 k41 (by decide +kernel))) ?_
            refine rsr (jv_e) ?_
            have eQ : Q = (t4, 0, L) := hQ.trans (if_pos ⟨c4, k41⟩)
            exact fin _ (by rw [eQ]; exact hb_) (fun _ jj p1 p2 => absurd p2 (by rw [eQ]; dsimp only; omega))
          ·
            refine rsr (if_neg (krI_n (k := 41) rfl li_41 (hS.ok t4.1 hiB.1 hiB.2) (by unfold KdOK sgk; omega) (by decide +kernel) k41 (by omega))) ?_
            refine rsr (vC_e (rk_160 hb_.1.1)) ?_
            refine RrV (mr223 (L := L) (k := 6) (by omega) hS hb_ (fun _ jj p1 p2 => absurd p2 (by omega)) (by omega) (by omega) he hb3) fun v M223 ⟨g1, g2⟩ => ?_
            refine rsr (cV_e rfl) ?_
            refine rsr (jv_e) ?_
            have eQ : Q = tPar kd pl tx 6 t4 0 L := hQ.trans (if_neg fun z => k41 z.2)
            rw [← eQ] at g1 g2
            exact fin _ g1 g2
        ·
          refine rsr (if_neg (eqI_n rfl li_0 (by omega))) ?_
          refine rsr (jv_e) ?_
          have eQ : Q = (t4, 0, L) := hQ.trans (tQ_f (hb_.pos c4))
          exact fin _ (by rw [eQ]; exact hb_) (fun _ jj p1 p2 => absurd p2 (by rw [eQ]; dsimp only; omega))
  ·
    refine rsr (if_neg (krI_n (k := 3) rfl li_1 (hS.ok (t.1 + 1) hi1.1 hi1.2) (by unfold KdOK; omega) (by decide +kernel) k3 (by omega))) ?_
    refine rsr (jv_e) ?_
    refine rsr (vC_e (rk_160 h1.1.1)) ?_
    obtain ⟨Mq, q1, q2⟩ := q193n (d := d) (b := b) (by omega) hS h1.1.1 hr1 hm1 he hi1 li_0
    refine rsr (cI_e q1) ?_
    refine rsr (if_pos (eqI_p rfl li_0 rfl)) ?_
    refine rsr (jv_e) ?_
    have hq := h1.rp q2 (fun _ => rfl)
    have hx : RQ T n b m kd pl E tx M0 M p ut cnt e s u dq Mq R (tN kd pl r bb (t.1 + 1, 0, 0)) := by rw [show tN kd pl r bb (t.1 + 1, 0, 0) = _ from (if_neg fun z => k3 z.2).trans (if_pos rfl)]; exact hq
    have hxn : ¬ (tN kd pl r bb (t.1 + 1, 0, 0)).2.1 = 0 := fun z => by rw [show tN kd pl r bb (t.1 + 1, 0, 0) = _ from (if_neg fun z => k3 z.2).trans (if_pos rfl)] at z; dsimp only at z; (try split at z) <;> omega
    have h1x := hx.pos hxn
    have ft : t1 = tN kd pl r bb (t.1 + 1, 0, 0) := by rw [ht1, hQ, tE_f (K := 40) h1x, tQ_f h1x, tE_f h1x]
    rw [ft] at gQ
    exact Rs.seq ((ftail (by omega) gQ h1x g14 (by omega) hx0 (by omega)).mono fun v Mz ⟨_, hz⟩ => Rt.ok (MOQ.ft hz h1x hu1 hx (by omega)))
end S62
