/-! start, before, after: both -/
section S67
variable {dl d : Nat} {T : Int → Int} {n m b e s u uc dq p i r ut cnt lo ki mu K c z y dp b j : Int} {kd pl E : Int → Int} {tx : Int → Int64} {M0 M M0c Mc : Mem} {R : RG} {t : TS} {L : Int → Int64} {N TT ex : Nat} {H : HG} {G U : Nat → Int → Int} {X : Nat → Int → Int64} {v1 v2 x0 c1 : Int32} {t4 t5 : TS} {k : Nat} {H' : HG} {R' : RG}
/-- the latest unit's own codes -/
theorem HRK.un (h : HRK G e H R ut cnt) (e1 : ∀ k, hEN H' k = hEN H k) (e2 : ∀ k f j, 1 ≤ k → k ≤ 4 → ¬ (k = 1 ∧ j = ut ∧ 5 ≤ f) → hEF H' k f j = hEF H k f j) (e3 : ∀ k j, hEX H' k j = hEX H k j) (e4 : ∀ s j i, j ≠ ut → hAV H' s j i = hAV H s j i) (r1 : ∀ k f j, k ≠ 1 ∨ f = 0 → R'.1 k f j = R.1 k f j) (r2 : ∀ f j, j ≠ ut → f = 5 ∨ f = 7 ∨ f = 9 → R'.1 1 f j = R.1 1 f j) (r4 : ∀ f j, ¬ (3 * ut ≤ j ∧ j < 3 * ut + 3) → f = 6 ∨ f = 8 → R'.1 1 f j = R.1 1 f j) (r3 : R'.2 = R.2) (hm : ((hEF H' 1 5 ut = -2 ∧ R'.1 1 5 ut = -1) ∨ (R'.1 1 5 ut = hEF H' 1 5 ut ∧ EnT G e (hEF H' 1 5 ut) 0)) ∧ UnW G H' R' e ut 0 7 6 ∧ UnW G H' R' e ut 1 9 8) : HRK G e H' R' ut cnt := by
  obtain ⟨⟨a1, a2, a3, a4, a5⟩, b1, h3, h4, h5, h6⟩ := h
  have g1 : hEF H' 1 1 ut = hEF H 1 1 ut := e2 1 1 ut (by omega) (by omega) (by omega)
  refine ⟨⟨by rw [e1]; exact a1, by rw [r1 1 0 0 (Or.inr rfl)]; exact a2, by rw [e1, r1 2 0 0 (Or.inr rfl)]; exact a3, by rw [e1, r1 3 0 0 (Or.inr rfl)]; exact a4, by rw [e1, r1 4 0 0 (Or.inr rfl)]; exact a5⟩, by rw [e1, e1, e1, g1]; exact b1, fun j p q => ?_, fun k p q => ?_, fun k p q => ?_, fun k p q => ?_⟩
  · obtain ⟨q1, q2, q3, q4, q5, q6, q7⟩ := h3 j p q
    have u2 : enU H' ut 2 (hEN H' 2) j = enU H ut 2 (hEN H 2) j := by unfold enU; rw [e1, e2 1 2 j (by omega) (by omega) (by omega)]
    have u4 : enU H' ut 4 e j = enU H ut 4 e j := by unfold enU; rw [e2 1 4 j (by omega) (by omega) (by omega)]
    have k : ((hEF H' 1 5 j = -2 ∧ R'.1 1 5 j = -1) ∨ (R'.1 1 5 j = hEF H' 1 5 j ∧ EnT G e (hEF H' 1 5 j) 0)) ∧ UnW G H' R' e j 0 7 6 ∧ UnW G H' R' e j 1 9 8 := by
      by_cases y : j = ut
      · rw [y]; exact hm
      · rw [e2 1 5 j (by omega) (by omega) (by omega), r2 5 j y (by omega)]
        exact ⟨q2, q3.cg (e2 1 7 j (by omega) (by omega) (by omega)) (r2 7 j y (by omega)) (fun i => e4 0 j i y) (fun i _ _ => r4 6 _ (by omega) (by omega)), q4.cg (e2 1 9 j (by omega) (by omega) (by omega)) (r2 9 j y (by omega)) (fun i => e4 1 j i y) (fun i _ _ => r4 8 _ (by omega) (by omega))⟩
    unfold UnK
    rw [u2, u4, e1, e3, r3, e2 1 1 j (by omega) (by omega) (by omega), e2 1 3 j (by omega) (by omega) (by omega)]
    exact ⟨q1, k.1, k.2.1, k.2.2, q5, fun i w1 w2 => by rw [e2 2 1 i (by omega) (by omega) (by omega)]; exact q6 i w1 w2, q7⟩
  · exact (h4 k p (by rw [← e1]; exact q)).cg (fun f _ _ => ⟨e2 2 f k (by omega) (by omega) (by omega), r1 2 f k (by omega)⟩) ⟨e3 2 k, by rw [r3]⟩
  · exact (h5 k p (by rw [← e1]; exact q)).cg (fun f _ _ => ⟨e2 3 f k (by omega) (by omega) (by omega), r1 3 f k (by omega)⟩) ⟨e3 3 k, by rw [r3]⟩
  · exact (h6 k p (by rw [← e1]; exact q)).cg (fun f _ _ => ⟨e2 4 f k (by omega) (by omega) (by omega), r1 4 f k (by omega)⟩) ⟨e3 4 k, by rw [r3]⟩
theorem sA_p {s : Nat} {i v : Int} {i' : Nat} (h : (i' : Int) = i) : hAV (sA H s j i v) s j i' = v := if_pos ⟨rfl, rfl, h⟩
theorem sA_n {s s' : Nat} {j' i v : Int} {i' : Nat} (h : ¬ (s' = s ∧ j' = j ∧ (i' : Int) = i)) : hAV (sA H s j i v) s' j' i' = hAV H s' j' i' := if_neg h
theorem HRK.ns (h : HRK G e H R ut cnt) (he : EnT G e z 0) : HRK G e (sF H 1 5 ut z) (rsF R 1 5 ut z) ut cnt := by
  have u := h.2.2.1 ut h.2.1.1 (Int.le_refl _)
  refine h.un (fun _ => rfl) (fun k f j _ _ q => sF_n (by omega)) (fun _ _ => rfl) (fun _ _ _ _ => rfl) (fun k f j q => rsF_n (by omega)) (fun f j q _ => rsF_n (by omega)) (fun f j _ q => rsF_n (by omega)) rfl ⟨Or.inr ?_, ?_, ?_⟩
  · rw [show hEF (sF H 1 5 ut z) 1 5 ut = z from sF_p, show (rsF R 1 5 ut z).1 1 5 ut = z from rsF_p]; exact ⟨rfl, he⟩
  · exact u.2.2.1.cg (sF_n (by omega)) (rsF_n (by omega)) (fun _ => rfl) (fun i _ _ => rsF_n (by omega))
  · exact u.2.2.2.1.cg (sF_n (by omega)) (rsF_n (by omega)) (fun _ => rfl) (fun i _ _ => rsF_n (by omega))
theorem HRK.nw {s f g : Nat} (h : HRK G e H R ut cnt) (he : EnT G e z 0) (hf : (s = 0 ∧ f = 7 ∧ g = 6) ∨ (s = 1 ∧ f = 9 ∧ g = 8)) (hc : hEF H 1 f ut = c ∧ c < 3) : HRK G e (sF (sA H s ut c z) 1 f ut (c + 1)) (rsF (rsF R 1 g (3 * ut + c) z) 1 f ut (c + 1)) ut cnt := by
  have u := h.2.2.1 ut h.2.1.1 (Int.le_refl _)
  have w : UnW G H R e ut s f g := by
    rcases hf with ⟨a1, a2, a3⟩ | ⟨a1, a2, a3⟩
    · rw [a1, a2, a3]; exact u.2.2.1
    · rw [a1, a2, a3]; exact u.2.2.2.1
  have w0 : 0 ≤ c := by
    obtain ⟨z1, z2, -⟩ := w
    omega
  have nw : UnW G (sF (sA H s ut c z) 1 f ut (c + 1)) (rsF (rsF R 1 g (3 * ut + c) z) 1 f ut (c + 1)) e ut s f g := by
    obtain ⟨q1, q2, q3, q4⟩ := w
    unfold UnW
    rw [show (rsF (rsF R 1 g (3 * ut + c) z) 1 f ut (c + 1)).1 1 f ut = c + 1 from rsF_p]
    refine ⟨sF_p, by omega, by omega, fun i p q => ?_⟩
    have e1 : (rsF (rsF R 1 g (3 * ut + c) z) 1 f ut (c + 1)).1 1 g (3 * ut + i) = (rsF R 1 g (3 * ut + c) z).1 1 g (3 * ut + i) := rsF_n (by omega)
    rw [e1]
    by_cases y : i = c
    · rw [y, show (rsF R 1 g (3 * ut + c) z).1 1 g (3 * ut + c) = z from rsF_p]
      exact ⟨sA_p (by omega), he⟩
    · rw [show (rsF R 1 g (3 * ut + c) z).1 1 g (3 * ut + i) = R.1 1 g (3 * ut + i) from rsF_n (by omega)]
      exact ⟨(sA_n (by omega) : hAV (sA H s ut c z) s ut i.toNat = _).trans (q4 i p (by omega)).1, (q4 i p (by omega)).2⟩
  refine h.un (fun _ => rfl) (fun k f' j _ _ q => (sF_n (by omega) : hEF (sF (sA H s ut c z) 1 f ut (c + 1)) k f' j = hEF (sA H s ut c z) k f' j)) (fun _ _ => rfl) (fun s' j i q => (sA_n (by omega) : hAV (sA H s ut c z) s' j i = _)) (fun k f' j q => (rsF_n (by omega)).trans (rsF_n (by omega))) (fun f' j q _ => (rsF_n (by omega)).trans (rsF_n (by omega))) (fun f' j _ q => (rsF_n (by omega)).trans (rsF_n (by omega))) rfl ⟨?_, ?_, ?_⟩
  · rw [show hEF (sF (sA H s ut c z) 1 f ut (c + 1)) 1 5 ut = hEF H 1 5 ut from (sF_n (by omega)), show (rsF (rsF R 1 g (3 * ut + c) z) 1 f ut (c + 1)).1 1 5 ut = R.1 1 5 ut from (rsF_n (by omega)).trans (rsF_n (by omega))]
    exact u.2.1
  · rcases hf with ⟨a1, a2, a3⟩ | ⟨a1, a2, a3⟩
    · rw [a1, a2, a3] at nw ⊢; exact nw
    · rw [a1, a2, a3]
      exact u.2.2.1.cg (sF_n (by omega)) ((rsF_n (by omega)).trans (rsF_n (by omega))) (fun i => (sA_n (by omega) : hAV (sA H 1 ut c z) 0 ut i = _)) (fun i _ _ => (rsF_n (by omega)).trans (rsF_n (by omega)))
  · rcases hf with ⟨a1, a2, a3⟩ | ⟨a1, a2, a3⟩
    · rw [a1, a2, a3]
      exact u.2.2.2.1.cg (sF_n (by omega)) ((rsF_n (by omega)).trans (rsF_n (by omega))) (fun i => (sA_n (by omega) : hAV (sA H 0 ut c z) 1 ut i = _)) (fun i _ _ => (rsF_n (by omega)).trans (rsF_n (by omega)))
    · rw [a1, a2, a3] at nw ⊢; exact nw
theorem start_pair {j340 : Mem → XA} {x14 : Int32} (hj340 : ∀ M, j340 M = some (.null, M)) (hx14 : x14 = iI (8 * p + ut)) (hdl : 930 ≤ dl) (hd : 930 ≤ d) (hS : TkS T n m kd pl E tx) (g : CQ m kd pl tx N TT ex M0c Mc e 0 uc Mc H t) (q : RQ T n 2500 m kd pl E tx M0 M p ut cnt e 0 u dq M R t) (h0 : t.2.1 = 0) (hw : RW Mc M G U L X e 0 u uc) (h14 : Mc.1 65 14 = iI e) (hE : e ≤ 1000) (hH : HRK G e H R ut cnt) (hG : DGK G U X e u) (hM : CMK Mc G e) (nB : CB m e 0 uc) (n1 : 0 ≤ t.1 ∧ t.1 < m ∧ m ≤ 1400 ∧ 0 ≤ e ∧ e ≤ 1000 ∧ 0 ≤ u ∧ u ≤ uc ∧ uc ≤ t.1 ∧ e ≤ t.1) (n2 : hEN H 1 = ut + 1 ∧ 0 ≤ ut ∧ ut ≤ 7 ∧ 0 ≤ hEN H 2 ∧ hEN H 2 ≤ 96 ∧ 0 ≤ cnt ∧ cnt ≤ 12 ∧ 0 ≤ hEN H 3 ∧ hEN H 3 ≤ 16 ∧ 0 ≤ hEN H 4 ∧ hEN H 4 ≤ 6 ∧ (cnt < 12 → hEN H 2 < 96)) (hcn : (0 ≤ R.1 2 0 0 ∧ R.1 2 0 0 ≤ 96) ∧ (0 ≤ R.1 3 0 0 ∧ R.1 3 0 0 ≤ 16) ∧ 0 ≤ R.1 4 0 0 ∧ R.1 4 0 0 ≤ 6) (n4 : 0 ≤ hEF H 1 1 (hEN H 1 - 1) ∧ hEF H 1 1 (hEN H 1 - 1) ≤ hEN H 2) (n5 : ∀ b, BB H b → (b = 0 ∧ cnt < 12) ∨ (b = 1 ∧ 12 ≤ cnt)) (hp : 0 ≤ p ∧ p ≤ 7) (hv1 : v1 = iI p) (hx0 : x0 = iI 1) (hk : kd t.1 = 206) : Rs (cV (runX dl 83 [va_rf (some 65), va_rf (some (hEC H 1 ut))] Mc) fun M27 => jv (tail77 (runX dl) x0) M27) (gtP (13, 157) M (some 160) 5 fun x16 => alI 100 M x16 x14 fun x17 => jn (fun (s18 : Int32) => vC (13, 157) M (some 160) <| cI (runX d 194 [va_rf (some 160), .int s18, .int ((6 : Int32))] M) fun x20 M19 => if x20 = 0 then (j340 M19) else (vC (13, 157) M19 (some 160) <| cV (runX d 191 [va_rf (some 160)] M19) fun M21 => gtP (13, 157) M21 (some 160) 5 fun x22 => gtI (13, 157) M21 (some 160) 43 fun x23 => asI 100 M21 x22 x14 x23 fun M24 => vC (13, 157) M24 (some 160) <| cI (runX d 218 [va_rf (some 160), .int ((1 : Int32))] M24) fun x26 M25 => j340 M25)) fun j143 => if 0 ≤ x17 then (j143 ((0 : Int32))) else (j143 ((1 : Int32)))) (fun _ Mc' _ Mr' => MOQ T n m kd pl E tx N TT ex M0c M0 p ut t.1 Mc' Mr') := by
  obtain ⟨b, hbE⟩ : ∃ b : Int, b = 2500 := ⟨_, rfl⟩
  have h : RQ T n b m kd pl E tx M0 M p ut cnt e 0 u dq M R t := by rw [hbE]; exact q
  have he : 0 ≤ e ∧ e ≤ b := by omega
  have hb3 : b ≤ 3000 := by omega
  have hm14 : m ≤ 1400 := n1.2.2.1
  have hu := hH.2.2.1 ut (by omega) (Int.le_refl _)
  have u5 : -2 ≤ hEF H 1 5 ut ∧ hEF H 1 5 ut ≤ 4000 := by
    rcases hu.2.1 with ⟨a, -⟩ | ⟨-, b, a1, a2, a3, -⟩ <;> omega
  have u7 := hu.2.2.1
  have u9 := hu.2.2.2.1
  unfold UnW at u7 u9
  obtain ⟨vc, Mc1, ec, hcl⟩ := mc83 (d := dl) (ut := ut) (by omega) hS g h0 nB (by omega) (by omega) u5 (by omega) (by omega)
  refine rsl ((cV_e ec).trans jv_e) ?_
  have hcl2 : (0 ≤ hEF H 1 5 ut ∧ CQ m kd pl tx N TT ex M0c Mc e 0 uc Mc1 H (t.1, 6, pl t.1)) ∨ (hEF H 1 5 ut < 0 ∧ CQ m kd pl tx N TT ex M0c Mc e 0 uc Mc1 (sF H 1 5 ut e) (t.1 + 1, 0, 0)) := by
    rcases hcl with ⟨a, b⟩ | ⟨a, b⟩ | ⟨a, b⟩
    · exact b
    · omega
    · omega
  clear hcl
  obtain ⟨hr, hm, hi⟩ := h.sr h0
  have hmo := hS.more t.1 hi.1 hi.2 ⟨by omega, by omega⟩
  refine rsr (gtP_q (w := some 164) (rk_160 h.1.1) (rf_5 h.1.1)) ?_
  refine rsr (alI_q (n := 64) (z := 8 * p + ut) (w := iI (R.1 1 5 ut)) (rk_164 h.1.1) hx14 (by omega) (h.2.2.2.1.1.gi (st := 8) (by decide) ⟨by omega, by omega⟩ (by omega))) ?_
  refine rsr (jn_v) ?_
  have bnd : -1 ≤ R.1 1 5 ut ∧ R.1 1 5 ut ≤ 4000 ∧ (0 ≤ R.1 1 5 ut ↔ 0 ≤ hEF H 1 5 ut) := by
    rcases hu.2.1 with ⟨a, a1⟩ | ⟨a0, b, a1, a2, a3, -⟩ <;> omega
  rcases hcl2 with ⟨cy, gQ⟩ | ⟨cy, gQ⟩
  ·
    refine rsr (if_pos (leI_p li_0 rfl (by omega))) ?_
    refine rsr (jv_e) ?_
    refine rsr (vC_e (rk_160 h.1.1)) ?_
    obtain ⟨Mq, q1, q2⟩ := q194n (d := d) (b := b) (f := 6) (by omega) hS h.1.1 hr hm he hi li_0 li_6 (by omega)
    refine rsr (cI_e q1) ?_
    refine rsr (if_pos (eqI_p rfl li_0 rfl)) ?_
    have hq := h.rp q2 (fun _ => h0)
    refine rsr (hj340 _) ?_
    exact Rs.seq ((ftail (by omega) gQ (by dsimp only; omega) (gQ.2.1.2.trans h14) (by omega) hx0 (by omega)).mono fun v Mz ⟨_, hz⟩ => Rt.ok (MOQ.ft hz (by dsimp only; omega) n2.1 hq (by omega)))
  ·
    have g14 : Mc1.1 65 14 = iI e := gQ.2.1.2.trans h14
    refine rsr (if_neg (leI_n li_0 rfl (by omega))) ?_
    refine rsr (jv_e) ?_
    refine rsr (vC_e (rk_160 h.1.1)) ?_
    refine rsr (cI_e (ar194_p (by omega) hS h.1.1 hr.1 hr.2.1 hr.2.2.2.1 li_1 li_6 ⟨hi.1, hi.2, rfl⟩)) ?_
    refine rsr (if_neg (eqI_n (x := 1) (y := 0) rfl li_0 (by omega))) ?_
    refine rsr (vC_e (rk_160 h.1.1)) ?_
    refine RrV (q191 (by omega) hS h.1 h.2.2.2.2.1 hb3 (fun _ => by omega)) fun v M9 p9 => ?_
    have h9 := h.rp p9 tA_s
    rw [show tA t = (t.1 + 1, 0, 0) from if_pos h0] at h9
    refine rsr (cV_e rfl) ?_
    refine rsr (gtP_q (w := some 164) (rk_160 h9.1.1) (rf_5 h9.1.1)) ?_
    refine rsr (gtI_q (rk_160 h9.1.1) (h9.sr rfl).1.2.2.2.2.1) ?_
    refine rsr (asI_q (u := 100) (n := 64) (z := 8 * p + ut) (y := e) (rk_164 h9.1.1) hx14 (by omega) rfl) ?_
    have hh := h9.si (cc := 164) (st := 8) (k := 1) (f := 5) (j0 := ut) (v := e) (i := 8 * p + ut) hp.1 (by decide) (by omega) (by omega)
    refine rsr (vC_e (rk_160 hh.1.1)) ?_
    have fc := gQ.2.2.1 rfl
    have frr := hh.2.2.1 rfl
    obtain ⟨-, i1, i2⟩ := gQ.sc rfl
    dsimp only at i1 i2
    rw [hbE] at hh
    refine blk (mu := 1) (by omega) (by omega) hS gQ hh (hw.mv (L := L) fc frr (fun jj p1 p2 => absurd p2 (by omega)) (fun jj p1 p2 => absurd p2 (by omega))) (by unfold BD; omega) g14 (by omega) hx0 li_1 n2.1 (by omega) hE hH hG (fun jj p1 p2 => (fc.c 75 ⟨by decide, by omega⟩ _).trans (hM jj p1 p2)) (fun Mc2 Mr2 G2 U2 X2 i2_ e2_ u2 uc2 j1 gg qq ww bd2 ee en hh2 hg2 hm2 => ?_) (fun Mc2 Mr2 tt k1_ gg qq => ?_)
    ·
      refine rs1 (hj340 _) ?_
      have q9 := qq
      exact Rt.ok (Or.inl ⟨i2_, G2, U2, X2, L, _, _, e2_, 0, u2, uc2, cnt, 0, by omega, gg, ⟨_, q9.re⟩, ww, bd2, ee.2, hh2.ns en, hg2, hm2⟩)
    ·
      refine rs1 (hj340 _) ?_
      have q9 := qq
      exact Rt.ok (MOQ.ft gg k1_ n2.1 q9 (by omega))
theorem before_pair {j340 : Mem → XA} {x14 : Int32} (hj340 : ∀ M, j340 M = some (.null, M)) (hx14 : x14 = iI (8 * p + ut)) (hdl : 930 ≤ dl) (hd : 930 ≤ d) (hS : TkS T n m kd pl E tx) (g : CQ m kd pl tx N TT ex M0c Mc e 0 uc Mc H t) (q : RQ T n 2500 m kd pl E tx M0 M p ut cnt e 0 u dq M R t) (h0 : t.2.1 = 0) (hw : RW Mc M G U L X e 0 u uc) (h14 : Mc.1 65 14 = iI e) (hE : e ≤ 1000) (hH : HRK G e H R ut cnt) (hG : DGK G U X e u) (hM : CMK Mc G e) (nB : CB m e 0 uc) (n1 : 0 ≤ t.1 ∧ t.1 < m ∧ m ≤ 1400 ∧ 0 ≤ e ∧ e ≤ 1000 ∧ 0 ≤ u ∧ u ≤ uc ∧ uc ≤ t.1 ∧ e ≤ t.1) (n2 : hEN H 1 = ut + 1 ∧ 0 ≤ ut ∧ ut ≤ 7 ∧ 0 ≤ hEN H 2 ∧ hEN H 2 ≤ 96 ∧ 0 ≤ cnt ∧ cnt ≤ 12 ∧ 0 ≤ hEN H 3 ∧ hEN H 3 ≤ 16 ∧ 0 ≤ hEN H 4 ∧ hEN H 4 ≤ 6 ∧ (cnt < 12 → hEN H 2 < 96)) (hcn : (0 ≤ R.1 2 0 0 ∧ R.1 2 0 0 ≤ 96) ∧ (0 ≤ R.1 3 0 0 ∧ R.1 3 0 0 ≤ 16) ∧ 0 ≤ R.1 4 0 0 ∧ R.1 4 0 0 ≤ 6) (n4 : 0 ≤ hEF H 1 1 (hEN H 1 - 1) ∧ hEF H 1 1 (hEN H 1 - 1) ≤ hEN H 2) (n5 : ∀ b, BB H b → (b = 0 ∧ cnt < 12) ∨ (b = 1 ∧ 12 ≤ cnt)) (hp : 0 ≤ p ∧ p ≤ 7) (hv1 : v1 = iI p) (hx0 : x0 = iI 0) (hk : kd t.1 = 208) : Rs (cV (runX dl 83 [va_rf (some 65), va_rf (some (hEC H 1 ut))] Mc) fun M27 => jv (tail77 (runX dl) x0) M27) (gtP (13, 157) M (some 160) 6 fun x28 => alI 100 M x28 x14 fun x28 => jn (fun (s29 : Int32) => vC (13, 157) M (some 160) <| cI (runX d 194 [va_rf (some 160), .int s29, .int ((6 : Int32))] M) fun x31 M30 => if x31 = 0 then (j340 M30) else (vC (13, 157) M30 (some 160) <| cV (runX d 191 [va_rf (some 160)] M30) fun M32 => gtP (13, 157) M32 (some 160) 7 fun x33 => gtP (13, 157) M32 (some 160) 6 fun x34 => alI 100 M32 x34 x14 fun x35 => vC (13, 157) M32 (some 160) <| cI (runX d 218 [va_rf (some 160), .int ((0 : Int32))] M32) fun x37 M36 => asI 100 M36 x33 ((((3 : Int32)) * x14) + x35) x37 fun M38 => gtP (13, 157) M38 (some 160) 6 fun x39 => alI 100 M38 x39 x14 fun x40 => asI 100 M38 x39 x14 ((x40 + ((1 : Int32)))) fun M41 => j340 M41)) fun j200 => if ((3 : Int32)) ≤ x28 then (j200 ((0 : Int32))) else (j200 ((1 : Int32)))) (fun _ Mc' _ Mr' => MOQ T n m kd pl E tx N TT ex M0c M0 p ut t.1 Mc' Mr') := by
  obtain ⟨b, hbE⟩ : ∃ b : Int, b = 2500 := ⟨_, rfl⟩
  have h : RQ T n b m kd pl E tx M0 M p ut cnt e 0 u dq M R t := by rw [hbE]; exact q
  have he : 0 ≤ e ∧ e ≤ b := by omega
  have hb3 : b ≤ 3000 := by omega
  have hm14 : m ≤ 1400 := n1.2.2.1
  have hu := hH.2.2.1 ut (by omega) (Int.le_refl _)
  have u5 : -2 ≤ hEF H 1 5 ut ∧ hEF H 1 5 ut ≤ 4000 := by
    rcases hu.2.1 with ⟨a, -⟩ | ⟨-, b, a1, a2, a3, -⟩ <;> omega
  have u7 := hu.2.2.1
  have u9 := hu.2.2.2.1
  unfold UnW at u7 u9
  obtain ⟨vc, Mc1, ec, hcl⟩ := mc83 (d := dl) (ut := ut) (by omega) hS g h0 nB (by omega) (by omega) u5 (by omega) (by omega)
  refine rsl ((cV_e ec).trans jv_e) ?_
  have hcl2 : (3 ≤ hEF H 1 7 ut ∧ CQ m kd pl tx N TT ex M0c Mc e 0 uc Mc1 H (t.1, 6, pl t.1)) ∨ (hEF H 1 7 ut < 3 ∧ CQ m kd pl tx N TT ex M0c Mc e 0 uc Mc1 (sF (sA H 0 ut (hEF H 1 7 ut) e) 1 7 ut (hEF H 1 7 ut + 1)) (t.1 + 1, 0, 0)) := by
    rcases hcl with ⟨a, b⟩ | ⟨a, b⟩ | ⟨a, b⟩
    · omega
    · exact b
    · omega
  clear hcl
  obtain ⟨hr, hm, hi⟩ := h.sr h0
  have hmo := hS.more t.1 hi.1 hi.2 ⟨by omega, by omega⟩
  refine rsr (gtP_q (w := some 165) (rk_160 h.1.1) (rf_6 h.1.1)) ?_
  refine rsr (alI_q (n := 64) (z := 8 * p + ut) (w := iI (R.1 1 7 ut)) (rk_165 h.1.1) hx14 (by omega) (h.2.2.2.1.1.gi (st := 8) (by decide) ⟨by omega, by omega⟩ (by omega))) ?_
  refine rsr (jn_v) ?_
  have bnd : hEF H 1 7 ut = R.1 1 7 ut ∧ 0 ≤ R.1 1 7 ut ∧ R.1 1 7 ut ≤ 3 := by omega
  rcases hcl2 with ⟨cy, gQ⟩ | ⟨cy, gQ⟩
  ·
    refine rsr (if_pos (leI_p li_3 rfl (by omega))) ?_
    refine rsr (jv_e) ?_
    refine rsr (vC_e (rk_160 h.1.1)) ?_
    obtain ⟨Mq, q1, q2⟩ := q194n (d := d) (b := b) (f := 6) (by omega) hS h.1.1 hr hm he hi li_0 li_6 (by omega)
    refine rsr (cI_e q1) ?_
    refine rsr (if_pos (eqI_p rfl li_0 rfl)) ?_
    have hq := h.rp q2 (fun _ => h0)
    refine rsr (hj340 _) ?_
    exact Rs.seq ((ftail (by omega) gQ (by dsimp only; omega) (gQ.2.1.2.trans h14) (by omega) hx0 (by omega)).mono fun v Mz ⟨_, hz⟩ => Rt.ok (MOQ.ft hz (by dsimp only; omega) n2.1 hq (by omega)))
  ·
    have g14 : Mc1.1 65 14 = iI e := gQ.2.1.2.trans h14
    refine rsr (if_neg (leI_n li_3 rfl (by omega))) ?_
    refine rsr (jv_e) ?_
    refine rsr (vC_e (rk_160 h.1.1)) ?_
    refine rsr (cI_e (ar194_p (by omega) hS h.1.1 hr.1 hr.2.1 hr.2.2.2.1 li_1 li_6 ⟨hi.1, hi.2, rfl⟩)) ?_
    refine rsr (if_neg (eqI_n (x := 1) (y := 0) rfl li_0 (by omega))) ?_
    refine rsr (vC_e (rk_160 h.1.1)) ?_
    refine RrV (q191 (by omega) hS h.1 h.2.2.2.2.1 hb3 (fun _ => by omega)) fun v M9 p9 => ?_
    have h9 := h.rp p9 tA_s
    rw [show tA t = (t.1 + 1, 0, 0) from if_pos h0] at h9
    refine rsr (cV_e rfl) ?_
    refine rsr (gtP_q (w := some 166) (rk_160 h9.1.1) (rf_7 h9.1.1)) ?_
    refine rsr (gtP_q (w := some 165) (rk_160 h9.1.1) (rf_6 h9.1.1)) ?_
    refine rsr (alI_q (n := 64) (z := 8 * p + ut) (w := iI (R.1 1 7 ut)) (rk_165 h9.1.1) hx14 (by omega) (h9.2.2.2.1.1.gi (st := 8) (by decide) ⟨by omega, by omega⟩ (by omega))) ?_
    have hh := h9
    refine rsr (vC_e (rk_160 hh.1.1)) ?_
    have fc := gQ.2.2.1 rfl
    have frr := hh.2.2.1 rfl
    obtain ⟨-, i1, i2⟩ := gQ.sc rfl
    dsimp only at i1 i2
    rw [hbE] at hh
    refine blk (mu := 0) (by omega) (by omega) hS gQ hh (hw.mv (L := L) fc frr (fun jj p1 p2 => absurd p2 (by omega)) (fun jj p1 p2 => absurd p2 (by omega))) (by unfold BD; omega) g14 (by omega) hx0 li_0 n2.1 (by omega) hE hH hG (fun jj p1 p2 => (fc.c 75 ⟨by decide, by omega⟩ _).trans (hM jj p1 p2)) (fun Mc2 Mr2 G2 U2 X2 i2_ e2_ u2 uc2 j1 gg qq ww bd2 ee en hh2 hg2 hm2 => ?_) (fun Mc2 Mr2 tt k1_ gg qq => ?_)
    ·
      refine rs1 (asI_q (u := 100) (n := 192) (z := 3 * (8 * p + ut) + R.1 1 7 ut) (y := e) (rk_166 qq.1.1) (adI (mlI li_3 hx14) rfl) (by omega) rfl) ?_
      have q8 := qq.si (cc := 166) (st := 24) (k := 1) (f := 6) (j0 := 3 * ut + R.1 1 7 ut) (v := e) (i := 3 * (8 * p + ut) + R.1 1 7 ut) hp.1 (by decide) (by omega) (by omega)
      refine rs1 (gtP_q (w := some 165) (rk_160 q8.1.1) (rf_6 q8.1.1)) ?_
      have e8 : (rsF R 1 6 (3 * ut + R.1 1 7 ut) e).1 1 7 ut = R.1 1 7 ut := rsF_n (by omega)
      refine rs1 (alI_q (n := 64) (z := 8 * p + ut) (w := iI (R.1 1 7 ut)) (rk_165 q8.1.1) hx14 (by omega) (by rw [← e8]; exact q8.2.2.2.1.1.gi (st := 8) (by decide) ⟨by omega, by omega⟩ (by omega))) ?_
      refine rs1 (asI_q (u := 100) (n := 64) (z := 8 * p + ut) (y := R.1 1 7 ut + 1) (rk_165 q8.1.1) hx14 (by omega) (adI rfl li_1)) ?_
      have q9 := q8.si (cc := 165) (st := 8) (k := 1) (f := 7) (j0 := ut) (v := R.1 1 7 ut + 1) (i := 8 * p + ut) hp.1 (by decide) (by omega) (by omega)
      refine rs1 (hj340 _) ?_
      obtain ⟨w1, w2, w3, w4, w5, w6⟩ := ww
      have hk := hh2.nw (s := 0) (f := 7) (g := 6) (c := R.1 1 7 ut) en (by omega) ⟨bnd.1, by omega⟩
      rw [bnd.1] at gg
      refine Rt.ok (Or.inl ⟨i2_, G2, U2, X2, L, _, _, e2_, 0, u2, uc2, cnt, 0, by omega, gg, ⟨_, q9.re⟩, ⟨w1, fun jj p1 p2 => ?_, fun jj p1 p2 => absurd p2 (by omega), fun jj p1 p2 => absurd p2 (by omega), w5, fun jj p1 p2 => ?_⟩, bd2, ee.2, hk, hg2, hm2⟩)
      · exact ((w2.fr (W := [(166, 9999)]) frone (by decide)).fr (W := [(165, 9999)]) frone (by decide)) jj p1 p2
      · exact ((w6.fr (W := [(166, 9999)]) frone (by decide)).fr (W := [(165, 9999)]) frone (by decide)) jj p1 p2
    ·
      refine rs1 (asI_q (u := 100) (n := 192) (z := 3 * (8 * p + ut) + R.1 1 7 ut) (y := e) (rk_166 qq.1.1) (adI (mlI li_3 hx14) rfl) (by omega) rfl) ?_
      have q8 := qq.si (cc := 166) (st := 24) (k := 1) (f := 6) (j0 := 3 * ut + R.1 1 7 ut) (v := e) (i := 3 * (8 * p + ut) + R.1 1 7 ut) hp.1 (by decide) (by omega) (by omega)
      refine rs1 (gtP_q (w := some 165) (rk_160 q8.1.1) (rf_6 q8.1.1)) ?_
      have e8 : (rsF R 1 6 (3 * ut + R.1 1 7 ut) e).1 1 7 ut = R.1 1 7 ut := rsF_n (by omega)
      refine rs1 (alI_q (n := 64) (z := 8 * p + ut) (w := iI (R.1 1 7 ut)) (rk_165 q8.1.1) hx14 (by omega) (by rw [← e8]; exact q8.2.2.2.1.1.gi (st := 8) (by decide) ⟨by omega, by omega⟩ (by omega))) ?_
      refine rs1 (asI_q (u := 100) (n := 64) (z := 8 * p + ut) (y := R.1 1 7 ut + 1) (rk_165 q8.1.1) hx14 (by omega) (adI rfl li_1)) ?_
      have q9 := q8.si (cc := 165) (st := 8) (k := 1) (f := 7) (j0 := ut) (v := R.1 1 7 ut + 1) (i := 8 * p + ut) hp.1 (by decide) (by omega) (by omega)
      refine rs1 (hj340 _) ?_
      exact Rt.ok (MOQ.ft gg k1_ n2.1 q9 (by omega))
theorem after_pair {j340 : Mem → XA} {x14 : Int32} (hj340 : ∀ M, j340 M = some (.null, M)) (hx14 : x14 = iI (8 * p + ut)) (hdl : 930 ≤ dl) (hd : 930 ≤ d) (hS : TkS T n m kd pl E tx) (g : CQ m kd pl tx N TT ex M0c Mc e 0 uc Mc H t) (q : RQ T n 2500 m kd pl E tx M0 M p ut cnt e 0 u dq M R t) (h0 : t.2.1 = 0) (hw : RW Mc M G U L X e 0 u uc) (h14 : Mc.1 65 14 = iI e) (hE : e ≤ 1000) (hH : HRK G e H R ut cnt) (hG : DGK G U X e u) (hM : CMK Mc G e) (nB : CB m e 0 uc) (n1 : 0 ≤ t.1 ∧ t.1 < m ∧ m ≤ 1400 ∧ 0 ≤ e ∧ e ≤ 1000 ∧ 0 ≤ u ∧ u ≤ uc ∧ uc ≤ t.1 ∧ e ≤ t.1) (n2 : hEN H 1 = ut + 1 ∧ 0 ≤ ut ∧ ut ≤ 7 ∧ 0 ≤ hEN H 2 ∧ hEN H 2 ≤ 96 ∧ 0 ≤ cnt ∧ cnt ≤ 12 ∧ 0 ≤ hEN H 3 ∧ hEN H 3 ≤ 16 ∧ 0 ≤ hEN H 4 ∧ hEN H 4 ≤ 6 ∧ (cnt < 12 → hEN H 2 < 96)) (hcn : (0 ≤ R.1 2 0 0 ∧ R.1 2 0 0 ≤ 96) ∧ (0 ≤ R.1 3 0 0 ∧ R.1 3 0 0 ≤ 16) ∧ 0 ≤ R.1 4 0 0 ∧ R.1 4 0 0 ≤ 6) (n4 : 0 ≤ hEF H 1 1 (hEN H 1 - 1) ∧ hEF H 1 1 (hEN H 1 - 1) ≤ hEN H 2) (n5 : ∀ b, BB H b → (b = 0 ∧ cnt < 12) ∨ (b = 1 ∧ 12 ≤ cnt)) (hp : 0 ≤ p ∧ p ≤ 7) (hv1 : v1 = iI p) (hx0 : x0 = iI 0) (hk : kd t.1 = 209) : Rs (cV (runX dl 83 [va_rf (some 65), va_rf (some (hEC H 1 ut))] Mc) fun M27 => jv (tail77 (runX dl) x0) M27) (gtP (13, 157) M (some 160) 8 fun x28 => alI 100 M x28 x14 fun x28 => jn (fun (s29 : Int32) => vC (13, 157) M (some 160) <| cI (runX d 194 [va_rf (some 160), .int s29, .int ((6 : Int32))] M) fun x31 M30 => if x31 = 0 then (j340 M30) else (vC (13, 157) M30 (some 160) <| cV (runX d 191 [va_rf (some 160)] M30) fun M32 => gtP (13, 157) M32 (some 160) 9 fun x33 => gtP (13, 157) M32 (some 160) 8 fun x34 => alI 100 M32 x34 x14 fun x35 => vC (13, 157) M32 (some 160) <| cI (runX d 218 [va_rf (some 160), .int ((0 : Int32))] M32) fun x37 M36 => asI 100 M36 x33 ((((3 : Int32)) * x14) + x35) x37 fun M38 => gtP (13, 157) M38 (some 160) 8 fun x39 => alI 100 M38 x39 x14 fun x40 => asI 100 M38 x39 x14 ((x40 + ((1 : Int32)))) fun M41 => j340 M41)) fun j200 => if ((3 : Int32)) ≤ x28 then (j200 ((0 : Int32))) else (j200 ((1 : Int32)))) (fun _ Mc' _ Mr' => MOQ T n m kd pl E tx N TT ex M0c M0 p ut t.1 Mc' Mr') := by
  obtain ⟨b, hbE⟩ : ∃ b : Int, b = 2500 := ⟨_, rfl⟩
  have h : RQ T n b m kd pl E tx M0 M p ut cnt e 0 u dq M R t := by rw [hbE]; exact q
  have he : 0 ≤ e ∧ e ≤ b := by omega
  have hb3 : b ≤ 3000 := by omega
  have hm14 : m ≤ 1400 := n1.2.2.1
  have hu := hH.2.2.1 ut (by omega) (Int.le_refl _)
  have u5 : -2 ≤ hEF H 1 5 ut ∧ hEF H 1 5 ut ≤ 4000 := by
    rcases hu.2.1 with ⟨a, -⟩ | ⟨-, b, a1, a2, a3, -⟩ <;> omega
  have u7 := hu.2.2.1
  have u9 := hu.2.2.2.1
  unfold UnW at u7 u9
  obtain ⟨vc, Mc1, ec, hcl⟩ := mc83 (d := dl) (ut := ut) (by omega) hS g h0 nB (by omega) (by omega) u5 (by omega) (by omega)
  refine rsl ((cV_e ec).trans jv_e) ?_
  have hcl2 : (3 ≤ hEF H 1 9 ut ∧ CQ m kd pl tx N TT ex M0c Mc e 0 uc Mc1 H (t.1, 6, pl t.1)) ∨ (hEF H 1 9 ut < 3 ∧ CQ m kd pl tx N TT ex M0c Mc e 0 uc Mc1 (sF (sA H 1 ut (hEF H 1 9 ut) e) 1 9 ut (hEF H 1 9 ut + 1)) (t.1 + 1, 0, 0)) := by
    rcases hcl with ⟨a, b⟩ | ⟨a, b⟩ | ⟨a, b⟩
    · omega
    · omega
    · exact b
  clear hcl
  obtain ⟨hr, hm, hi⟩ := h.sr h0
  have hmo := hS.more t.1 hi.1 hi.2 ⟨by omega, by omega⟩
  refine rsr (gtP_q (w := some 167) (rk_160 h.1.1) (rf_8 h.1.1)) ?_
  refine rsr (alI_q (n := 64) (z := 8 * p + ut) (w := iI (R.1 1 9 ut)) (rk_167 h.1.1) hx14 (by omega) (h.2.2.2.1.1.gi (st := 8) (by decide) ⟨by omega, by omega⟩ (by omega))) ?_
  refine rsr (jn_v) ?_
  have bnd : hEF H 1 9 ut = R.1 1 9 ut ∧ 0 ≤ R.1 1 9 ut ∧ R.1 1 9 ut ≤ 3 := by omega
  rcases hcl2 with ⟨cy, gQ⟩ | ⟨cy, gQ⟩
  ·
    refine rsr (if_pos (leI_p li_3 rfl (by omega))) ?_
    refine rsr (jv_e) ?_
    refine rsr (vC_e (rk_160 h.1.1)) ?_
    obtain ⟨Mq, q1, q2⟩ := q194n (d := d) (b := b) (f := 6) (by omega) hS h.1.1 hr hm he hi li_0 li_6 (by omega)
    refine rsr (cI_e q1) ?_
    refine rsr (if_pos (eqI_p rfl li_0 rfl)) ?_
    have hq := h.rp q2 (fun _ => h0)
    refine rsr (hj340 _) ?_
    exact Rs.seq ((ftail (by omega) gQ (by dsimp only; omega) (gQ.2.1.2.trans h14) (by omega) hx0 (by omega)).mono fun v Mz ⟨_, hz⟩ => Rt.ok (MOQ.ft hz (by dsimp only; omega) n2.1 hq (by omega)))
  ·
    have g14 : Mc1.1 65 14 = iI e := gQ.2.1.2.trans h14
    refine rsr (if_neg (leI_n li_3 rfl (by omega))) ?_
    refine rsr (jv_e) ?_
    refine rsr (vC_e (rk_160 h.1.1)) ?_
    refine rsr (cI_e (ar194_p (by omega) hS h.1.1 hr.1 hr.2.1 hr.2.2.2.1 li_1 li_6 ⟨hi.1, hi.2, rfl⟩)) ?_
    refine rsr (if_neg (eqI_n (x := 1) (y := 0) rfl li_0 (by omega))) ?_
    refine rsr (vC_e (rk_160 h.1.1)) ?_
    refine RrV (q191 (by omega) hS h.1 h.2.2.2.2.1 hb3 (fun _ => by omega)) fun v M9 p9 => ?_
    have h9 := h.rp p9 tA_s
    rw [show tA t = (t.1 + 1, 0, 0) from if_pos h0] at h9
    refine rsr (cV_e rfl) ?_
    refine rsr (gtP_q (w := some 168) (rk_160 h9.1.1) (rf_9 h9.1.1)) ?_
    refine rsr (gtP_q (w := some 167) (rk_160 h9.1.1) (rf_8 h9.1.1)) ?_
    refine rsr (alI_q (n := 64) (z := 8 * p + ut) (w := iI (R.1 1 9 ut)) (rk_167 h9.1.1) hx14 (by omega) (h9.2.2.2.1.1.gi (st := 8) (by decide) ⟨by omega, by omega⟩ (by omega))) ?_
    have hh := h9
    refine rsr (vC_e (rk_160 hh.1.1)) ?_
    have fc := gQ.2.2.1 rfl
    have frr := hh.2.2.1 rfl
    obtain ⟨-, i1, i2⟩ := gQ.sc rfl
    dsimp only at i1 i2
    rw [hbE] at hh
    refine blk (mu := 0) (by omega) (by omega) hS gQ hh (hw.mv (L := L) fc frr (fun jj p1 p2 => absurd p2 (by omega)) (fun jj p1 p2 => absurd p2 (by omega))) (by unfold BD; omega) g14 (by omega) hx0 li_0 n2.1 (by omega) hE hH hG (fun jj p1 p2 => (fc.c 75 ⟨by decide, by omega⟩ _).trans (hM jj p1 p2)) (fun Mc2 Mr2 G2 U2 X2 i2_ e2_ u2 uc2 j1 gg qq ww bd2 ee en hh2 hg2 hm2 => ?_) (fun Mc2 Mr2 tt k1_ gg qq => ?_)
    ·
      refine rs1 (asI_q (u := 100) (n := 192) (z := 3 * (8 * p + ut) + R.1 1 9 ut) (y := e) (rk_168 qq.1.1) (adI (mlI li_3 hx14) rfl) (by omega) rfl) ?_
      have q8 := qq.si (cc := 168) (st := 24) (k := 1) (f := 8) (j0 := 3 * ut + R.1 1 9 ut) (v := e) (i := 3 * (8 * p + ut) + R.1 1 9 ut) hp.1 (by decide) (by omega) (by omega)
      refine rs1 (gtP_q (w := some 167) (rk_160 q8.1.1) (rf_8 q8.1.1)) ?_
      have e8 : (rsF R 1 8 (3 * ut + R.1 1 9 ut) e).1 1 9 ut = R.1 1 9 ut := rsF_n (by omega)
      refine rs1 (alI_q (n := 64) (z := 8 * p + ut) (w := iI (R.1 1 9 ut)) (rk_167 q8.1.1) hx14 (by omega) (by rw [← e8]; exact q8.2.2.2.1.1.gi (st := 8) (by decide) ⟨by omega, by omega⟩ (by omega))) ?_
      refine rs1 (asI_q (u := 100) (n := 64) (z := 8 * p + ut) (y := R.1 1 9 ut + 1) (rk_167 q8.1.1) hx14 (by omega) (adI rfl li_1)) ?_
      have q9 := q8.si (cc := 167) (st := 8) (k := 1) (f := 9) (j0 := ut) (v := R.1 1 9 ut + 1) (i := 8 * p + ut) hp.1 (by decide) (by omega) (by omega)
      refine rs1 (hj340 _) ?_
      obtain ⟨w1, w2, w3, w4, w5, w6⟩ := ww
      have hk := hh2.nw (s := 1) (f := 9) (g := 8) (c := R.1 1 9 ut) en (by omega) ⟨bnd.1, by omega⟩
      rw [bnd.1] at gg
      refine Rt.ok (Or.inl ⟨i2_, G2, U2, X2, L, _, _, e2_, 0, u2, uc2, cnt, 0, by omega, gg, ⟨_, q9.re⟩, ⟨w1, fun jj p1 p2 => ?_, fun jj p1 p2 => absurd p2 (by omega), fun jj p1 p2 => absurd p2 (by omega), w5, fun jj p1 p2 => ?_⟩, bd2, ee.2, hk, hg2, hm2⟩)
      · exact ((w2.fr (W := [(168, 9999)]) frone (by decide)).fr (W := [(167, 9999)]) frone (by decide)) jj p1 p2
      · exact ((w6.fr (W := [(168, 9999)]) frone (by decide)).fr (W := [(167, 9999)]) frone (by decide)) jj p1 p2
    ·
      refine rs1 (asI_q (u := 100) (n := 192) (z := 3 * (8 * p + ut) + R.1 1 9 ut) (y := e) (rk_168 qq.1.1) (adI (mlI li_3 hx14) rfl) (by omega) rfl) ?_
      have q8 := qq.si (cc := 168) (st := 24) (k := 1) (f := 8) (j0 := 3 * ut + R.1 1 9 ut) (v := e) (i := 3 * (8 * p + ut) + R.1 1 9 ut) hp.1 (by decide) (by omega) (by omega)
      refine rs1 (gtP_q (w := some 167) (rk_160 q8.1.1) (rf_8 q8.1.1)) ?_
      have e8 : (rsF R 1 8 (3 * ut + R.1 1 9 ut) e).1 1 9 ut = R.1 1 9 ut := rsF_n (by omega)
      refine rs1 (alI_q (n := 64) (z := 8 * p + ut) (w := iI (R.1 1 9 ut)) (rk_167 q8.1.1) hx14 (by omega) (by rw [← e8]; exact q8.2.2.2.1.1.gi (st := 8) (by decide) ⟨by omega, by omega⟩ (by omega))) ?_
      refine rs1 (asI_q (u := 100) (n := 64) (z := 8 * p + ut) (y := R.1 1 9 ut + 1) (rk_167 q8.1.1) hx14 (by omega) (adI rfl li_1)) ?_
      have q9 := q8.si (cc := 167) (st := 8) (k := 1) (f := 9) (j0 := ut) (v := R.1 1 9 ut + 1) (i := 8 * p + ut) hp.1 (by decide) (by omega) (by omega)
      refine rs1 (hj340 _) ?_
      exact Rt.ok (MOQ.ft gg k1_ n2.1 q9 (by omega))
end S67
