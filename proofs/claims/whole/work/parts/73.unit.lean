/-! a unit: both -/
/-- what both know between units -/
def UO (T : Int → Int) (n m : Int) (kd pl E : Int → Int) (tx : Int → Int64) (N TT ex : Nat) (M0c M0r : Mem) (p i : Int) (Mc Mr : Mem) (G U : Nat → Int → Int) (X : Nat → Int → Int64) (L : Int → Int64) (H : HG) (R : RG) (e s u uc k ut cnt dq : Int) : Prop := CQ m kd pl tx N TT ex M0c Mc e s uc Mc H (i, 0, 0) ∧ (∃ sr, RQ T n 2500 m kd pl E tx M0r Mr p ut cnt e sr u dq Mr R (i, 0, 0)) ∧ RW Mc Mr G U L X e 0 u uc ∧ BD m i e s u uc 0 ∧ e ≤ 1000 ∧ HRC G e H R k ∧ DGK G U X e u ∧ CMK Mc G e
section S73
variable {dl d : Nat} {T : Int → Int} {n m i b e s u uc dq dp p r ut cnt c F P k s' e' : Int} {kd pl E : Int → Int} {tx : Int → Int64} {M0c M0r Mc Mr M0 M1 M M2 : Mem} {R : RG} {L : Int → Int64} {N TT ex : Nat} {H : HG} {G U : Nat → Int → Int} {X : Nat → Int → Int64} {v : Int32} {t : TS} {Q : Value → Mem → Value → Mem → Prop} {K K' : Mem → XA} {y : XA}
theorem LcF.cg {f g : Int → Int64} {s r : Int} {x : Int64} (h : LcF f s x r) (e : ∀ j, 0 ≤ j → j < s → g j = f j) : LcF g s x r := by
  rcases h with ⟨a, b, c, d⟩ | ⟨a, b⟩
  · exact Or.inl ⟨a, b, by rw [e r a b]; exact c, fun j p q => by rw [e j p (by omega)]; exact d j p q⟩
  · exact Or.inr ⟨a, fun j p q => by rw [e j p q]; exact b j p q⟩
theorem CQ.z0 (h : CQ m kd pl tx N TT ex M0 M1 e s uc M H t) (h1 : 1 ≤ t.2.1) : CQ m kd pl tx N TT ex M0 M1 0 0 0 M H t := by
  refine ⟨h.1, h.2.1, h.2.2.1, h.2.2.2.1, ?_⟩
  rcases h.2.2.2.2 with z | z
  · exact absurd z.1 (by omega)
  · exact Or.inr z
theorem CQ.hF (h : CQ m kd pl tx N TT ex M0 M1 e s uc M H t) (h1 : 1 ≤ t.2.1) : t.2.1 ≤ 6 ∧ M.1 65 13 = iI 2 := by
  rcases h.2.2.2.2 with z | ⟨-, i, sz, sn, u2, b1, b2, b3, b4, b5, b6, b7, b8⟩
  · exact absurd z.1 (by omega)
  · exact ⟨by omega, b1⟩
/-- a FAULT: the end of a unit in the first object -/
theorem tail61_f (hd : 4 ≤ d) (hS : TkS T n m kd pl E tx) (h : CQ m kd pl tx N TT ex M0 M1 e s uc M H t) (h1 : 1 ≤ t.2.1) (hm : m ≤ 1400) (hu : 1 ≤ hEN H 1) (hK : ∀ M2 ut, 0 ≤ ut → CFt m kd pl tx N TT ex M0 ut t.2.1 t.2.2 M2 → Rs (K M2) y Q) : Rs (tail61 (runX d) K M) y Q := by
  refine tail61_l hd hS (h.z0 h1) (by unfold CB; omega) hu fun M2 e9 _ g => ?_
  rw [tE_f h1] at g
  exact hK M2 (hEN H 1 - 1) (by omega) ⟨_, t, _, _, _, ⟨rfl, rfl, h1⟩, (by show hEN H 1 = _; omega), g.re⟩
theorem left_ft (hd : 4 ≤ d) (hS : TkS T n m kd pl E tx) (h : CQ m kd pl tx N TT ex M0 M1 e s uc M H t) (h1 : 1 ≤ t.2.1) (hm : m ≤ 1400) (hu : 1 ≤ hEN H 1) (hK : ∀ M2 ut, 0 ≤ ut → CFt m kd pl tx N TT ex M0 ut t.2.1 t.2.2 M2 → Rs (K M2) y Q) : Rs (lp (c61_113 (runX d) (some 65) (jv (tail61 (runX d) K))) 4294967296 ((0 : Int32), M)) y Q := by
  rw [show (4294967296 : Nat) = 4294967295 + 1 from rfl, lp_e]
  unfold c61_113
  dsimp only
  have h13 := (h.hF h1).2
  refine rsl (if_neg (leI_n li_3000 li_0 (by omega))) ?_
  refine rsl (gtI_q (ck_65 h.1.1) h13) ?_
  refine rsl (if_neg (eqI_n rfl li_125 (by omega))) ?_
  refine rsl (gtI_q (ck_65 h.1.1) h13) ?_
  refine rsl (if_pos (eqI_p rfl li_2 rfl)) ?_
  refine rsl (jv_e) ?_
  exact tail61_f hd hS h h1 hm hu hK
theorem r191_ft (hd : 4 ≤ d) (hS : TkS T n m kd pl E tx) (h : RFt T n p M0r F P M) (hF : 1 ≤ F ∧ F ≤ 6) (hK : ∀ M2, RFt T n p M0r F P M2 → Rs y (K' M2) Q) : Rs y (cV ((jv fun s40 => vC (13, 157) s40 (some 160) <| cV (runX d 191 [va_rf (some 160)] s40) fun M41 => some (.null, M41)) M) K') Q := by
  refine rsq (jv_e) ?_
  refine rsq (vC_e (rk_160 h.1.1)) ?_
  refine RqV (q191 (t := (0, F, P)) (b := 2510) (e := 0) (s := 0) (u := 0) (dp := 0) hd hS h.1 (Or.inr ⟨hF.1, hF.2, h.2.2.2⟩) (by omega) (fun z => absurd z (by dsimp only; omega))) fun w M3 p3 => ?_
  refine rsq (cV_e rfl) ?_
  refine rsr (cV_e rfl) ?_
  rw [show tA ((0, F, P) : TS) = (0, F, P) from if_neg (by dsimp only; omega)] at p3
  refine hK M3 (h.rp p3.2.1 ?_)
  rcases p3.1 with z | z
  · exact absurd z.1 (by dsimp only; omega)
  · exact z.2.2
theorem right_ft (hd : 4 ≤ d) (hS : TkS T n m kd pl E tx) (h : RFt T n p M0r F P M) (hF : 1 ≤ F ∧ F ≤ 6) (hK : ∀ M2, RFt T n p M0r F P M2 → Rs y (K' M2) Q) : Rs y (cV (lp (c229_159 (runX d) (some 160) v (jv fun s40 => vC (13, 157) s40 (some 160) <| cV (runX d 191 [va_rf (some 160)] s40) fun M41 => some (.null, M41))) 4294967296 M) K') Q := by
  rw [show (4294967296 : Nat) = 4294967295 + 1 from rfl, lp_e]
  unfold c229_159
  have h0 := h
  obtain ⟨x1, x2, x3, em, sn, us, mu, ut', y1, -⟩ := h
  refine rsq (gtI_q (rk_160 x1.1) y1) ?_
  refine rsq (if_neg (eqI_n rfl li_0 (by omega))) ?_
  exact r191_ft hd hS h0 hF hK
/-- which unit -/
theorem RQ.u49 (h : RQ T n b m kd pl E tx M0 M1 p ut cnt e s u dp M R t) (h0 : t.2.1 = 0) (hc : 0 ≤ c ∧ c ≤ 8) : RQ T n b m kd pl E tx M0 M1 p c cnt e s u dp (sI M 160 49 (iI c)) R t := by
  obtain ⟨h1, h2, h3, ⟨h4, h5⟩, h6, h7, h8⟩ := h
  have f : Fr [(160, 49)] M (sI M 160 49 (iI c)) := Fr.sI (by decide) Fr.r
  refine ⟨h1.fr f (by decide), Fr.t h2 (Fr.m f (by decide)), fun z => Fr.t (h3 z) (Fr.m f (by decide)), ⟨h4.fr f (by decide), h5.fr f (by decide)⟩, ?_, sI_eq, (sI_nej (by decide)).trans h8⟩
  rcases h6 with ⟨h0, ⟨a1, a2, a3, a4, a5, a6, a7, a8, a9, a10⟩, ⟨mu, ut, c1, c2, c3⟩, hb⟩ | z
  · exact Or.inl ⟨h0, ⟨(f.i _ _ (by decide)).trans a1, (f.i _ _ (by decide)).trans a2, (f.i _ _ (by decide)).trans a3, (f.i _ _ (by decide)).trans a4, (f.i _ _ (by decide)).trans a5, (f.i _ _ (by decide)).trans a6, (f.i _ _ (by decide)).trans a7, (f.i _ _ (by decide)).trans a8, a9, fun z => (f.i _ _ (by decide)).trans (a10 z)⟩, ⟨mu, c, (f.i _ _ (by decide)).trans c1, sI_eq, by omega⟩, hb⟩
  · exact absurd z.1 (by omega)
theorem unit_pair (hdl : 960 ≤ dl) (hd : 960 ≤ d) (hS : TkS T n m kd pl E tx) (uo : UO T n m kd pl E tx N TT ex M0c M0r p i Mc Mr G U X L H R e s u uc k ut cnt dq) (hp : 0 ≤ p ∧ p ≤ 7) (hv : v = iI p) (hk : kd i = 200) (hj : ∀ i' Mc' Mr' G' U' X' L' H' R' e' s' u' uc' ut' cnt' dq', i < i' → UO T n m kd pl E tx N TT ex M0c M0r p i' Mc' Mr' G' U' X' L' H' R' e' s' u' uc' (k + 1) ut' cnt' dq' → Rs (K Mc') (K' Mr') Q) (hf : ∀ Mc' Mr', UFt T n m kd pl tx N TT ex M0c M0r p Mc' Mr' → Rs (K Mc') (K' Mr') Q) : Rs (cV (runX dl 76 [va_rf (some 65)] Mc) fun M34 => jn (tail61 (runX dl) K) fun j147 => lp (c61_113 (runX dl) (some 65) j147) 4294967296 ((0 : Int32), M34)) (cV (runX d 229 [va_rf (some 160), .int v] Mr) K') Q := by
  obtain ⟨g, ⟨sr, q⟩, hw, hbd, hE, hH, hG, hM⟩ := uo
  have hbd' := hbd
  unfold BD at hbd'
  obtain ⟨a1, a2, a3, a4, a5⟩ := hH.1
  have b1 := hH.2.1
  have hm14 : m ≤ 1400 := by omega
  obtain ⟨vl, M34, e34, rr, a, b, b9, xx, yy, ow, X9, hX, hb9, ha, hb, g1⟩ := mc76 (d := dl) (by omega) hS g rfl (by unfold CB; omega) (by omega) (by omega)
  refine rsl (cV_e e34) ?_
  refine rsl (jn_v) ?_
  have e200 : tE kd pl 200 ((i, 0, 0) : TS) = (i + 1, 0, 0) := if_pos ⟨rfl, hk⟩
  rw [e200] at hX hb9 g1
  obtain ⟨hX9, hlc⟩ := hX rfl
  dsimp only at hX9
  obtain ⟨HN, hHN⟩ : ∃ z, z = aU H ow xx yy (uF (hEN H 2) b9) X9 := ⟨_, rfl⟩
  rw [← hHN] at g1
  have hu1 : hEN HN 1 = k + 1 := by rw [hHN]; show (if (1 : Nat) = 1 then hEN H 1 + 1 else hEN H 1) = _; rw [if_pos rfl, a1]
  obtain ⟨t5, ht5⟩ : ∃ z, z = tE kd pl 123 (tN kd pl a b (i + 1, 0, 0)) := ⟨_, rfl⟩
  rw [← ht5] at g1
  have hmo := hS.more i (by omega) (by omega) (by omega)
  obtain ⟨d, rfl⟩ : ∃ e, d = e + 1 := ⟨d - 1, by omega⟩
  have exit_ : ∀ Mq tF, t5 = tF → 1 ≤ tF.2.1 → RQ T n 2500 m kd pl E tx M0r Mr p ut cnt e sr u dq Mq R tF → Rs (lp (c61_113 (runX dl) (some 65) (jv (tail61 (runX dl) K))) 4294967296 ((0 : Int32), M34)) (cV (some (.null, Mq)) K') Q := fun Mq tF w1 w2 w3 => by
    rw [w1] at g1
    exact left_ft (by omega) hS g1 w2 hm14 (by omega) fun M2 ut0 h0 cf => rsr (cV_e rfl) (hf _ _ ⟨tF.2.1, tF.2.2, ut0, h0, cf, w3.fl w2 (by omega)⟩)
  rw [r229]; unfold b229; rw [aR_e, aI_e, aZ_e]; unfold c229
  refine rsq (vC_e (rk_160 q.1.1)) ?_
  refine RqV (q191 (by omega) hS q.1 q.2.2.2.2.1 (by omega) (fun _ => by dsimp only; omega)) fun w Mp p1 => ?_
  have h1 := q.rp p1 tA_s
  rw [show tA ((i, 0, 0) : TS) = (i + 1, 0, 0) from if_pos rfl] at h1
  obtain ⟨hr1, hm1, hi1⟩ := h1.sr rfl
  refine rsq (cV_e rfl) ?_
  refine rsq (gtI_q (rk_160 h1.1.1) hr1.2.2.2.1) ?_
  refine rsq (jn_v) ?_
  refine rsq (if_pos (eqI_p rfl li_0 rfl)) ?_
  refine rsq (gtI_q (rk_160 h1.1.1) hr1.1) ?_
  refine rsq (jn_v) ?_
  dsimp only at hi1
  by_cases k3 : kd (i + 1) = 3
  ·
    refine rsq (if_pos (krI_p (k := 3) rfl li_1 k3 (by decide +kernel))) ?_
    refine rsq (jv_e) ?_
    refine rsq (vC_e (rk_160 h1.1.1)) ?_
    refine rsq (cI_e (ar193_p (by omega) hS h1.1.1 hr1.1 hr1.2.1 hr1.2.2.2.1 li_1 ⟨hi1.1, hi1.2, by dsimp only; omega, rfl⟩)) ?_
    refine rsq (if_neg (eqI_n (x := 1) (y := 0) rfl li_0 (by omega))) ?_
    refine rsq (gtL_q (rk_160 h1.1.1) (hr1.2.2.2.2.2.2.2.2.1 k3)) ?_
    refine rsq (vC_e (rk_160 h1.1.1)) ?_
    refine RqI (a227 (by omega) h1.1.1 h1.2.2.2.1.1 hv hp (by omega)) fun w Mx ⟨r1, hvx, hMx, hrx⟩ => ?_
    have er : r1 = rr := by
      have z := hlc.cg (g := R.2 1) (fun j w1 w2 => (hH.2.2.1 j w1 (by omega)).1.symm)
      rw [a1, ← a2, hX9] at z
      exact hrx.one z
    subst hvx
    subst er
    rw [hMx]
    refine rsq (cI_e rfl) ?_
    refine rsq (jn_v) ?_
    have bdr := hrx.bd
    by_cases cr : 0 ≤ r1
    ·
      refine rsq (if_pos (leI_p li_0 rfl (by omega))) ?_
      refine rsq (jv_e) ?_
      refine rsq (vC_e (rk_160 h1.1.1)) ?_
      obtain ⟨Mq, q1, q2⟩ := q194n (d := d) (b := 2500) (f := 3) (by omega) hS h1.1.1 hr1 hm1 (by omega) hi1 li_0 li_3 (by omega)
      refine rsq (cI_e q1) ?_
      refine rsq (if_pos (eqI_p rfl li_0 rfl)) ?_
      refine rsq (jv_e) ?_
      have hq := h1.rp q2 (fun _ => rfl)
      refine exit_ _ _ ?_ ?_ hq
      · rw [ht5, show tN kd pl a b (i + 1, 0, 0) = _ from (if_pos ⟨rfl, k3⟩).trans (if_pos (by omega))]; exact tE_f (by dsimp only; omega)
      · dsimp only; omega
    ·
      have a0 : a = 0 := by omega
      refine rsq (if_neg (leI_n li_0 rfl (by omega))) ?_
      refine rsq (jv_e) ?_
      refine rsq (vC_e (rk_160 h1.1.1)) ?_
      refine rsq (cI_e (ar194_p (by omega) hS h1.1.1 hr1.1 hr1.2.1 hr1.2.2.2.1 li_1 li_3 ⟨hi1.1, hi1.2, rfl⟩)) ?_
      refine rsq (if_neg (eqI_n (x := 1) (y := 0) rfl li_0 (by omega))) ?_
      refine rsq (gtP_q (w := some 162) (rk_160 h1.1.1) (rf_3 h1.1.1)) ?_
      refine rsq (alI_q (n := 8) (z := p) (w := iI (R.1 1 0 0)) (rk_162 h1.1.1) hv (by omega) (h1.2.2.2.1.1.gi (st := 1) (by decide) ⟨by omega, by omega⟩ (by omega))) ?_
      refine rsq (jn_v) ?_
      by_cases c8 : 8 ≤ R.1 1 0 0
      ·
        refine rsq (if_pos (leI_p li_8 rfl (by omega))) ?_
        refine rsq (jv_e) ?_
        refine rsq (vC_e (rk_160 h1.1.1)) ?_
        obtain ⟨Mq, q1, q2⟩ := q194n (d := d) (b := 2500) (f := 6) (by omega) hS h1.1.1 hr1 hm1 (by omega) hi1 li_0 li_6 (by omega)
        refine rsq (cI_e q1) ?_
        refine rsq (if_pos (eqI_p rfl li_0 rfl)) ?_
        refine rsq (jv_e) ?_
        have hq := h1.rp q2 (fun _ => rfl)
        refine exit_ _ _ ?_ ?_ hq
        · rw [ht5, show tN kd pl a b (i + 1, 0, 0) = _ from (if_pos ⟨rfl, k3⟩).trans ((if_neg (by omega)).trans (if_pos (by omega)))]; exact tE_f (by dsimp only; omega)
        · dsimp only; omega
      ·
        refine rsq (if_neg (leI_n li_8 rfl (by omega))) ?_
        refine rsq (jv_e) ?_
        refine rsq (vC_e (rk_160 h1.1.1)) ?_
        refine rsq (cI_e (ar194_p (by omega) hS h1.1.1 hr1.1 hr1.2.1 hr1.2.2.2.1 li_1 li_6 ⟨hi1.1, hi1.2, rfl⟩)) ?_
        refine rsq (if_neg (eqI_n (x := 1) (y := 0) rfl li_0 (by omega))) ?_
        have eN : tN kd pl a b (i + 1, 0, 0) = (i + 1 + 1, 0, 0) := (if_pos ⟨rfl, k3⟩).trans ((if_neg (by omega)).trans (if_neg (by omega)))
        rw [eN] at ht5 hb9
        have b9e := hb9 rfl
        subst b9e
        refine rsq (gtP_q (w := some 162) (rk_160 h1.1.1) (rf_3 h1.1.1)) ?_
        refine rsq (alI_q (n := 8) (z := p) (w := iI (R.1 1 0 0)) (rk_162 h1.1.1) hv (by omega) (h1.2.2.2.1.1.gi (st := 1) (by decide) ⟨by omega, by omega⟩ (by omega))) ?_
        refine rsq (ptI_q (z := R.1 1 0 0) (rk_160 h1.1.1) rfl) ?_
        have h2 := h1.u49 (c := R.1 1 0 0) rfl (by omega)
        refine rsq (gtI_q (rk_160 h2.1.1) h2.2.2.2.2.2.1) ?_
        refine rsq (ltI_q (z := 8 * p + R.1 1 0 0) (adI (mlI li_8 hv) rfl)) ?_
        refine rsq (gtP_q (w := some 163) (rk_160 h2.1.1) (rf_4 h2.1.1)) ?_
        refine rsq (gtL_q (rk_160 h2.1.1) ((h2.sr rfl).1.2.2.2.2.2.2.2.2.1 k3)) ?_
        refine rsq (asL_q (n := 64) (z := 8 * p + R.1 1 0 0) (w := tx (i + 1)) (rk_163 h2.1.1) rfl (by omega) rfl) ?_
        have h3 := h2.sl (cc := 163) (st := 8) (k := 1) (j0 := R.1 1 0 0) (X := tx (i + 1)) (i := 8 * p + R.1 1 0 0) hp.1 (by decide) (by omega) (by omega)
        refine rsq (gtP_q (w := some 164) (rk_160 h3.1.1) (rf_5 h3.1.1)) ?_
        refine rsq (asI_q (u := 100) (n := 64) (z := 8 * p + R.1 1 0 0) (y := (-1)) (rk_164 h3.1.1) rfl (by omega) li_m1) ?_
        have h4 := h3.si (cc := 164) (st := 8) (k := 1) (f := 5) (j0 := R.1 1 0 0) (v := (-1)) (i := 8 * p + R.1 1 0 0) hp.1 (by decide) (by omega) (by omega)
        refine rsq (gtP_q (w := some 165) (rk_160 h4.1.1) (rf_6 h4.1.1)) ?_
        refine rsq (asI_q (u := 100) (n := 64) (z := 8 * p + R.1 1 0 0) (y := 0) (rk_165 h4.1.1) rfl (by omega) li_0) ?_
        have h5 := h4.si (cc := 165) (st := 8) (k := 1) (f := 7) (j0 := R.1 1 0 0) (v := 0) (i := 8 * p + R.1 1 0 0) hp.1 (by decide) (by omega) (by omega)
        refine rsq (gtP_q (w := some 167) (rk_160 h5.1.1) (rf_8 h5.1.1)) ?_
        refine rsq (asI_q (u := 100) (n := 64) (z := 8 * p + R.1 1 0 0) (y := 0) (rk_167 h5.1.1) rfl (by omega) li_0) ?_
        have h6 := h5.si (cc := 167) (st := 8) (k := 1) (f := 9) (j0 := R.1 1 0 0) (v := 0) (i := 8 * p + R.1 1 0 0) hp.1 (by decide) (by omega) (by omega)
        refine rsq (ptI_q (z := 0) (rk_160 h6.1.1) li_0) ?_
        have h7 := h6.c64 (c := 0)
        refine rsq (gtP_q (w := some 162) (rk_160 h7.1.1) (rf_3 h7.1.1)) ?_
        obtain ⟨R7, hR7⟩ : ∃ z, z = rsF (rsF (rsF (rsX R 1 (R.1 1 0 0) (tx (i + 1))) 1 5 (R.1 1 0 0) (-1)) 1 7 (R.1 1 0 0) 0) 1 9 (R.1 1 0 0) 0 := ⟨_, rfl⟩
        rw [← hR7] at h7
        have e7 : R7.1 1 0 0 = R.1 1 0 0 := by rw [hR7]; exact (rsF_n (by omega)).trans ((rsF_n (by omega)).trans (rsF_n (by omega)))
        refine rsq (alI_q (n := 8) (z := p) (w := iI (R.1 1 0 0)) (rk_162 h7.1.1) hv (by omega) (by rw [← e7]; exact h7.2.2.2.1.1.gi (st := 1) (by decide) ⟨by omega, by omega⟩ (by omega))) ?_
        refine rsq (asI_q (u := 100) (n := 8) (z := p) (y := R.1 1 0 0 + 1) (rk_162 h7.1.1) hv (by omega) (adI rfl li_1)) ?_
        have h8 := h7.si (cc := 162) (st := 1) (k := 1) (f := 0) (j0 := 0) (v := R.1 1 0 0 + 1) (i := p) hp.1 (by decide) (by omega) (by omega)
        rw [show rsF R7 1 0 0 (R.1 1 0 0 + 1) = rU R k (tx (i + 1)) from by rw [hR7, a2]; rfl] at h8
        refine rsq (vC_e (rk_160 h8.1.1)) ?_
        refine RqV (q191 (by omega) hS h8.1 h8.2.2.2.2.1 (by omega) (fun _ => by dsimp only; omega)) fun w M9 p9 => ?_
        have h9 := h8.rp p9 tA_s
        rw [show tA ((i + 1, 0, 0) : TS) = (i + 1 + 1, 0, 0) from if_pos rfl] at h9
        refine rsq (cV_e rfl) ?_
        refine rsq (vC_e (rk_160 h9.1.1)) ?_
        refine RqI (q195 (K := 123) (by omega) hS h9.1 h9.2.2.2.2.1 ⟨by omega, by omega, by omega⟩ li_123 (by unfold KdOK sgk; omega) (by decide +kernel) (by omega)) fun w M10 ⟨x10, hx10, p10⟩ => ?_
        subst hx10
        have ha := h9.rp p10 tE_s
        rw [← ht5] at ha
        refine rsq (cI_e rfl) ?_
        refine rsq (jn_v) ?_
        rw [a2] at ha
        by_cases c5 : t5.2.1 = 0
        ·
          obtain ⟨-, -, e5⟩ := tE_0 (show (tE kd pl 123 ((i + 1 + 1, 0, 0) : TS)).2.1 = 0 by rw [← ht5]; exact c5)
          have e5 : t5 = (i + 1 + 1 + 1, 0, 0) := ht5.trans e5
          rw [e5] at ha g1
          obtain ⟨-, i1, i2⟩ := g1.sc rfl
          dsimp only at i1 i2
          have fc := g1.2.2.1 rfl
          have mo : MO T n m kd pl E tx N TT ex M0c M0r p k (i + 1 + 1 + 1) M34 M10 G U X L HN (rU R k (tx (i + 1))) b9 s u uc 0 dq := ⟨g1.re, ⟨_, ha.re⟩, hw.mv fc (ha.2.2.1 rfl) (fun jj p1 p2 => absurd p2 (by omega)) (fun jj p1 p2 => absurd p2 (by omega)), by unfold BD; omega, hE, by rw [hHN, ← hX9]; exact hH.nu (by omega), hG, fun j a b => (fc.c 75 ⟨by decide, by omega⟩ _).trans (hM j a b)⟩
          refine mems (by omega) (by omega) hS mo hp hv (fun i' Mc' Mr' G' U' X' L' H' R' e' s' u' uc' cnt' dq' z1 z2 mo' => ?_) (fun F P Mc' Mr' z1 z2 => ?_)
          ·
            obtain ⟨nB, n1, n2, -⟩ := mo'.nb
            obtain ⟨gg, ⟨sr2, qq⟩, ww, bb, ee, hh, dd, mm⟩ := mo'
            refine rsl (jv_e) ?_
            refine tail61_l (by omega) hS gg nB (by omega) fun M2 e9 w9 g2 => ?_
            rw [show tE kd pl 125 ((i', 0, 0) : TS) = (i' + 1, 0, 0) from if_pos ⟨rfl, z2⟩] at w9 g2
            have w9' := w9 rfl
            subst w9'
            rw [show hEN H' 1 - 1 = k by omega] at g2
            refine rsq (jv_e) ?_
            refine rsq (vC_e (rk_160 qq.1.1)) ?_
            refine RqV (q191 (by omega) hS qq.1 qq.2.2.2.2.1 (by omega) (fun _ => by dsimp only; omega)) fun w Mw pw => ?_
            have q2 := qq.rp pw tA_s
            rw [show tA ((i', 0, 0) : TS) = (i' + 1, 0, 0) from if_pos rfl] at q2
            refine rsq (cV_e rfl) ?_
            refine rsr (cV_e rfl) ?_
            have fc2 := g2.2.2.1 rfl
            obtain ⟨-, i3, i4⟩ := g2.sc rfl
            dsimp only at i3 i4
            have bb' := bb
            unfold BD at bb'
            exact hj (i' + 1) M2 Mw G' U' X' L' _ R' e9 s' u' uc' k cnt' dq' (by omega) ⟨g2.re, ⟨_, q2.re⟩, ww.mv fc2 (q2.2.2.1 rfl) (fun jj p1 p2 => absurd p2 (by omega)) (fun jj p1 p2 => absurd p2 (by omega)), by unfold BD; omega, ee, hh.cl, dd, fun j a b => (fc2.c 75 ⟨by decide, by omega⟩ _).trans (mm j a b)⟩
          ·
            obtain ⟨H', t', e', s', uc', ⟨w1, w2, w3⟩, w4, gg⟩ := z1
            have h1' : 1 ≤ t'.2.1 := by omega
            have hF := (gg.hF h1').1
            refine rsl (jv_e) ?_
            refine tail61_f (by omega) hS gg h1' hm14 (by omega) fun M2 ut0 y1 y2 => ?_
            rw [w1, w2] at y2
            exact r191_ft (by omega) hS z2 (by omega) fun M3 y3 => hf _ _ ⟨F, P, ut0, y1, y2, y3⟩
        ·
          have c5p := g1.pos c5
          refine left_ft (by omega) hS g1 c5p hm14 (by omega) fun M2 ut0 y1 y2 => ?_
          exact right_ft (by omega) hS (ha.fl c5p (by omega)) ⟨c5p, (g1.hF c5p).1⟩ fun M3 y3 => hf _ _ ⟨_, _, ut0, y1, y2, y3⟩
  ·
    refine rsq (if_neg (krI_n (k := 3) rfl li_1 (hS.ok (i + 1) hi1.1 hi1.2) (by unfold KdOK; omega) (by decide +kernel) k3 (by omega))) ?_
    refine rsq (jv_e) ?_
    refine rsq (vC_e (rk_160 h1.1.1)) ?_
    obtain ⟨Mq, q1, q2⟩ := q193n (d := d) (b := 2500) (by omega) hS h1.1.1 hr1 hm1 (by omega) hi1 li_0
    refine rsq (cI_e q1) ?_
    refine rsq (if_pos (eqI_p rfl li_0 rfl)) ?_
    refine rsq (jv_e) ?_
    have hq := h1.rp q2 (fun _ => rfl)
    refine exit_ _ _ ?_ ?_ hq
    · rw [ht5, show tN kd pl a b (i + 1, 0, 0) = (i + 1, if kd (i + 1) = 1 then 1 else 2, pl (i + 1)) from (if_neg fun z => k3 z.2).trans (if_pos rfl)]; exact tE_f (by dsimp only; split <;> omega)
    · dsimp only; split <;> omega
end S73
