/-! blame(): its pieces; blamed() -/
def blB (Mc Mr : Mem) : Prop := ∃ n : Int, (0 ≤ n ∧ n ≤ 16) ∧ (Mc.1 64 16 = iI n ∧ Mr.1 160 151 = iI n) ∧ ∀ j : Int, 0 ≤ j → j < n → Mc.1 149 j.toNat = Mr.1 255 j.toNat
section S9dc
variable {d dl : Nat} {o : HO} {q : QN} {s s' u hs : ZS} {M M' Mc Mr Mc' Mr' X : Mem} {LL a j N x : Nat} {xs : Nat → Int32} {c p i n st b nc sl al wo wr wi n0 tm k po : Int} {w sd v1 v2 v3 ch v : Int32} {ss Od : Int → Int}
/-- where the CASE stands in the ORDER -/
theorem zc182 (hd : 1 ≤ d) (hx : M.2.2.2[x]? = some (6, 18) ∧ M.2.2.1 x 10 = some (x + 6) ∧ M.2.2.2[x + 6]? = some (100, nc.toNat)) (hnc : 0 ≤ nc ∧ nc ≤ 16) (hO : ∀ k, 0 ≤ k → k < nc → M.1 (x + 6) k.toNat = iI (Od k) ∧ 0 ≤ Od k ∧ Od k < nc ∧ (Od k = c ↔ k = po)) (hpo : 0 ≤ po ∧ po < nc) (hc : 0 ≤ c ∧ c < nc) (hv : v = iI c) : runX d 182 [va_rf (some x), .int v] M = some (.int (iI po), M) := by
  obtain ⟨d, rfl⟩ : ∃ e, d = e + 1 := ⟨d - 1, by omega⟩
  subst hv
  rw [r182]; unfold b182; rw [aR_e, aI_e, aZ_e]; unfold c182
  rw [jn_v]
  refine lp_use (body := c182_4 (runX d) (some x) (iI c) M (jv fun s1 => some (.int s1, M))) (R := fun s => some (.int s.1, M)) nc.toNat (fun k s => s.1 = iI (if po < k then po else 0) ∧ s.2 = iI (k : Int)) ((0 : Int32), (0 : Int32)) 4294967296 (by omega) ⟨by rw [if_neg (by omega)]; exact li_0, li_0⟩ (fun s' g1 g2 => ?_) (fun k s hk' hI => ?_) (fun s hI go => ?_)
  · rw [g2, g1.1, if_pos (by omega)]
  · obtain ⟨i1, i2⟩ := s
    obtain ⟨u1, u2⟩ := hI
    dsimp only at u1 u2
    subst u1; subst u2
    obtain ⟨t1, t2, t3, t4⟩ := hO (k : Int) (by omega) (by omega)
    refine ⟨(iI (if po < ((k + 1 : Nat) : Int) then po else 0), iI ((k + 1 : Nat) : Int)), ⟨rfl, rfl⟩, fun go => ?_⟩
    unfold c182_4
    dsimp only
    rw [gtP_q hx.1 hx.2.1, aln_q' hx.2.2, if_neg (leI_n (y := (k : Int)) rfl rfl (by omega)), gtP_q hx.1 hx.2.1, alI_q (z := (k : Int)) hx.2.2 rfl (by omega) t1, jn_v]
    by_cases y : Od k = c
    · have e := t4.1 y
      rw [if_pos (show iI (Od k) = iI c by rw [y]), jv_e, if_pos (show po < ((k + 1 : Nat) : Int) by omega), show iI (k : Int) = iI po by rw [e]]
      exact ltI_q (z := ((k + 1 : Nat) : Int)) (cvI (adI rfl li_1) (by omega))
    · have e : (k : Int) ≠ po := fun z => y (t4.2 z)
      rw [if_neg (show ¬ iI (Od k) = iI c from eqI_n rfl rfl (by omega)), jv_e]
      have e3 : (if po < ((k + 1 : Nat) : Int) then po else 0) = if po < (k : Int) then po else 0 := by
        by_cases z : po < (k : Int)
        · rw [if_pos z, if_pos (by omega)]
        · rw [if_neg z, if_neg (by omega)]
      rw [e3]
      exact ltI_q (z := ((k + 1 : Nat) : Int)) (cvI (adI rfl li_1) (by omega))
  · obtain ⟨i1, i2⟩ := s
    obtain ⟨u1, u2⟩ := hI
    dsimp only at u1 u2
    subst u1; subst u2
    unfold c182_4
    dsimp only
    rw [gtP_q hx.1 hx.2.1, aln_q' hx.2.2, if_pos (leI_p (y := (nc.toNat : Int)) rfl rfl (by omega))]
    rfl
theorem r304_30e (hR : RT M) (hp : 0 ≤ p ∧ p ≤ 7) (hnc : 0 ≤ nc ∧ nc ≤ 16) (hO : ∀ k, 0 ≤ k → k < nc → M.1 183 (16 * p + k).toNat = iI (Od k) ∧ 0 ≤ Od k ∧ Od k < nc ∧ (Od k = c ↔ k = po)) (hpo : 0 ≤ po ∧ po < nc) (hc : 0 ≤ c ∧ c < nc) : ∃ M', (∀ J : Int32 × Mem → XA, lp (c304_30 (runX d) (some 160) (iI p) (iI c) J) 4294967296 ((0 : Int32), M) = J (iI po, M')) ∧ Fz (fun a _ => a = 256) M M' ∧ ∀ j : Int, 0 ≤ j → j < po → M'.1 256 j.toNat = iI (Od j) := by
  have l16 : (16 : Int32) = iI 16 := rfl
  refine lp_usej (b := fun J => c304_30 (runX d) (some 160) (iI p) (iI c) J) (R := fun J s => J (s.1, s.2)) po.toNat (fun k s => s.1 = iI (k : Int) ∧ Fz (fun a _ => a = 256) M s.2 ∧ ∀ j : Int, 0 ≤ j → j < k → s.2.1 256 j.toNat = iI (Od j)) ((0 : Int32), M) 4294967296 (by omega) ⟨li_0, Fz.r, fun q a b => by omega⟩ (fun s' g1 g2 => ?_) (fun k s hk' hI => ?_) (fun s hI J go => ?_)
  · refine ⟨s'.2, fun J => (g2 J).trans ?_, g1.2.1, fun q a b => g1.2.2 q a (by omega)⟩
    rw [g1.1, show ((po.toNat : Nat) : Int) = po by omega]
  · obtain ⟨i1, Mk⟩ := s
    obtain ⟨u1, u2, u3⟩ := hI
    dsimp only at u1 u2 u3
    subst u1
    have Rk : RT Mk := hR.keep u2.1
    obtain ⟨t1, t2, t3, t4⟩ := hO (k : Int) (by omega) (by omega)
    have e : Od k ≠ c := fun z => by
      have := t4.1 z
      omega
    have t1' : Mk.1 183 (16 * p + k).toNat = iI (Od k) := (u2.2 _ _ (by omega)).trans t1
    refine ⟨(iI ((k + 1 : Nat) : Int), sI Mk 256 ((k : Int)).toNat (iI (Od k))), ⟨rfl, u2.si rfl, fun q a b => ?_⟩, fun J go => ?_⟩
    · dsimp only
      by_cases y : q = (k : Int)
      · rw [y]; exact sI_eq
      · exact (sI_nej (by omega)).trans (u3 q a (by omega))
    · unfold c304_30
      dsimp only
      rw [gtP_q (rk_160 Rk) (rf_24 Rk), alI_q (n := 128) (z := 16 * p + k) (rk_183 Rk) (adI (mlI l16 rfl) rfl) (by omega) t1', if_neg (show ¬ iI (Od k) = iI c from eqI_n rfl rfl (by omega)), gtP_q (rk_160 Rk) (rf_153 Rk), gtP_q (rk_160 Rk) (rf_24 Rk), alI_q (n := 128) (z := 16 * p + k) (rk_183 Rk) (adI (mlI l16 rfl) rfl) (by omega) t1', asI_e (z := (k : Int)) (n := 16) (rk_256 Rk) (by omega) (by omega) (by omega)]
      exact ltI_q (z := ((k + 1 : Nat) : Int)) (cvI (adI rfl li_1) (by omega))
  · obtain ⟨i1, Mk⟩ := s
    obtain ⟨u1, u2, u3⟩ := hI
    dsimp only at u1 u2 u3
    subst u1
    have Rk : RT Mk := hR.keep u2.1
    obtain ⟨t1, t2, t3, t4⟩ := hO po hpo.1 hpo.2
    have e := t4.2 rfl
    rw [show ((po.toNat : Nat) : Int) = po by omega]
    unfold c304_30
    dsimp only
    rw [gtP_q (rk_160 Rk) (rf_24 Rk), alI_q (n := 128) (z := 16 * p + po) (rk_183 Rk) (adI (mlI l16 rfl) rfl) (by omega) ((u2.2 _ _ (by omega)).trans t1), if_pos (show iI (Od po) = iI c by rw [e])]
theorem r304_285e (hR : RT M) (hn : 0 ≤ n ∧ n ≤ 16) {s13 : Int32 × Mem} (h13 : s13.1 = iI n) : ∃ M', (∀ J : Mem → XA, lp (c304_285 (runX d) (some 160) J s13) 4294967296 ((0 : Int32), M) = J M') ∧ Fz (fun a _ => a = 255) M M' ∧ ∀ j : Int, 0 ≤ j → j < n → M'.1 255 j.toNat = M.1 256 j.toNat := by
  refine lp_usej (b := fun J => c304_285 (runX d) (some 160) J s13) (R := fun J s => J s.2) n.toNat (fun k s => s.1 = iI (k : Int) ∧ Fz (fun a _ => a = 255) M s.2 ∧ ∀ j : Int, 0 ≤ j → j < k → s.2.1 255 j.toNat = M.1 256 j.toNat) ((0 : Int32), M) 4294967296 (by omega) ⟨li_0, Fz.r, fun q a b => by omega⟩ (fun s' g1 g2 => ?_) (fun k s hk' hI => ?_) (fun s hI J go => ?_)
  · exact ⟨s'.2, g2, g1.2.1, fun q a b => g1.2.2 q a (by omega)⟩
  · obtain ⟨i1, Mk⟩ := s
    obtain ⟨u1, u2, u3⟩ := hI
    dsimp only at u1 u2 u3
    subst u1
    have Rk : RT Mk := hR.keep u2.1
    refine ⟨(iI ((k + 1 : Nat) : Int), sI Mk 255 ((k : Int)).toNat (M.1 256 (k : Int).toNat)), ⟨rfl, u2.si rfl, fun q a b => ?_⟩, fun J go => ?_⟩
    · dsimp only
      by_cases y : q = (k : Int)
      · rw [y]; exact sI_eq
      · exact (sI_nej (by omega)).trans (u3 q a (by omega))
    · unfold c304_285
      dsimp only
      rw [if_neg (show ¬ s13.1 ≤ iI (k : Int) from leI_n (y := (k : Int)) h13 rfl (by omega)), gtP_q (rk_160 Rk) (rf_152 Rk), gtP_q (rk_160 Rk) (rf_153 Rk), alI_q (n := 16) (z := (k : Int)) (rk_256 Rk) rfl (by omega) (u2.2 _ _ (by omega)), asI_e (z := (k : Int)) (n := 16) (rk_255 Rk) (by omega) (by omega) (by omega)]
      exact ltI_q (z := ((k + 1 : Nat) : Int)) (cvI (adI rfl li_1) (by omega))
  · obtain ⟨i1, Mk⟩ := s
    obtain ⟨u1, -⟩ := hI
    dsimp only at u1
    subst u1
    unfold c304_285
    dsimp only
    rw [if_pos (show s13.1 ≤ iI (n.toNat : Int) from leI_p (y := (n.toNat : Int)) h13 rfl (by omega))]
/-- the CASE alone -/
theorem alone_try (hdl : 13 ≤ dl) (hd : 64 ≤ d) (hP : hoP o) (hp : 0 ≤ p ∧ p < oN o) (hsl : 1 ≤ sl ∧ sl ≤ 1000) (hnc : nc = (gR (oP o p)).1 3 0 0) (hc : 0 ≤ c ∧ c < nc) (h : KI LL xs o p sl 0 b hs Mc Mr) (h3 : Mc.1 88 3 = iI (-2)) (h90 : Mr.1 160 90 = iI (-1)) (hw : w = iI p) (hv2 : v2 = iI c) : ∃ Mg Mc' Mr' V, runX dl 23 [va_rf (some 88)] Mc = some (.null, Mg) ∧ CT Mg ∧ runX dl 25 [va_rf (some 88), va_rf (some (hEC (gH (oP o p)) 3 c))] Mg = some (.null, Mc') ∧ runX d 303 [va_rf (some 160), .int w, .int 0, .int (-1), .int v2] Mr = some (.int (iI (if V = iI 1 then 1 else 0)), Mr') ∧ Fz (ZM o 0 0) Mc Mc' ∧ Fz (ZR 0 0) Mr Mr' ∧ ((∃ b' hs', KI LL xs o p sl 0 b' hs' Mc' Mr' ∧ b' ≤ b ∧ Mc'.1 88 3 = iI (-2) ∧ Mr'.1 160 90 = iI (-1) ∧ Mc'.1 89 0 = V) ∨ KSx LL xs o p sl 0 Mc' Mr') := by
  obtain ⟨d, rfl⟩ : ∃ e, d = e + 1 := ⟨d - 1, by omega⟩
  subst hw; subst hv2
  have lo := pk_lo hP hp
  have p8 := hP.1
  obtain ⟨q, hq⟩ : ∃ q : QN, q = (sl, -1, 0, 0, 0) := ⟨_, rfl⟩
  have q1 : q.1 = sl := by rw [hq]
  have q2 : q.2.1 = -1 := by rw [hq]
  have q3 : q.2.2.1 = 0 := by rw [hq]
  have q4 : q.2.2.2.1 = 0 := by rw [hq]
  have q5 : q.2.2.2.2 = 0 := by rw [hq]
  have hqk : qOK o (v1p p) q := ⟨by omega, Or.inl q2, Or.inl q3, Or.inl q4, Or.inl q5⟩
  have hu : rPu o (v1p p) q := rPu.one hP hp hqk
  obtain ⟨Mg, Rg, g1, g2, g3, g4, g5, g6, g7⟩ := h.beg (dl := dl) (d := d) (w := iI p) (al := -1) (q := q) (Mc' := Mc) (Mr' := Mr) (by omega) (by omega) hP hp hsl hq hqk (by rw [if_pos (by decide)]; exact (sI_id h3).symm) (sI_id h90).symm rfl 0 (by omega) hs ⟨rfl, fun _ _ => rfl⟩ (fun z => absurd z (by decide))
  obtain ⟨s, hs'⟩ : ∃ s, s = zst (rE o (v1p p) (pf q 0 0)) b 0 hs := ⟨_, rfl⟩
  rw [← hs'] at g7
  have h12 : s.1 12 0 0 = b := by rw [hs']; rfl
  have h17 : s.1 17 = hs.1 17 := by rw [hs']; rfl
  have b0 := h.2.2.2.2.1.2.2.2
  have hC := h.1.1.1.1
  have hR := h.1.2.1.1
  have cG : CT Mg := hC.keep g3
  have rG : RT Rg := hR.keep g5
  have fz : Fz (ZM o 0 0) Mc Mg := ⟨g3, fun a j z => g4 a j fun y => z (by unfold ZM; omega)⟩
  have gz : Fz (ZR 0 0) Mr Rg := ⟨g5, fun a j z => g6 a j fun y => z (Zma_R y)⟩
  have g84 : Rg.1 160 84 = iI 0 := (g6 _ _ (by unfold Zma; omega)).trans h.2.2.2.2.1.2.2.1
  obtain ⟨Mc2, Mr2, x1, x2, x3, x4, x5, x6⟩ := RI.turnS (dl := dl) (d := d) (c := c) (i := 0) (w := iI c) (by omega) (by omega) hu g7 (by omega) (by omega) (Or.inr ⟨rfl, q3⟩) (Or.inr ⟨rfl, q3⟩) q3 q4 q5 (by omega) (show 0 ≤ c ∧ c < (gR (oP o p)).1 3 0 0 by omega) rfl
  have f15 : Fz (ZM o 0 0) Mg Mc2 := (by rw [← q3]; exact x3.zm : Fz (ZM o p 0) _ _).m fun _ _ z => ZM_0 z
  have g15 : Fz (ZR 0 0) Rg Mr2 := (x4.zr (p := p) (k := 0) rfl q3).m fun _ _ z => ZR_0 z
  have hRy := x5.1.2.1.1
  have e3 : ∀ J : Mem → XA, lp (c303_9 (runX d) (some 160) 0 (-1) J) 4294967296 ((0 : Int32), Rg) = J Rg := fun J => by
    rw [lp_e]; unfold c303_9
    dsimp only
    rw [if_pos (Int32.le_refl _)]
  have rl : runX (d + 1) 303 [va_rf (some 160), .int (iI p), .int 0, .int (-1), .int (iI c)] Mr = some (.int (iI (if Mr2.1 160 101 = iI 1 then 1 else 0)), Mr2) := by
    rw [r303]; unfold b303; rw [aR_e, aI_e, aI_e, aI_e, aI_e, aZ_e]; unfold c303
    rw [vC_e (rk_160 hR), cV_e g2, jn_v, e3, jv_e, vC_e (rk_160 rG), cV_e x2, gtI_q (rk_160 hRy) rfl, jn_v]
    by_cases y : Mr2.1 160 101 = iI 1
    · rw [if_pos (show Mr2.1 160 101 = (1 : Int32) from y), if_pos y, jv_e]; rfl
    · rw [if_neg (show ¬ Mr2.1 160 101 = (1 : Int32) from y), if_neg y, jv_e]; rfl
  refine ⟨Mg, Mc2, Mr2, Mr2.1 160 101, g1, cG, x1, rl, fz.tr f15, gz.tr g15, ?_⟩
  rcases x6 with ⟨s2, V, Fa, Wh, y1, y2, y3, y4, y5⟩ | ⟨y1, y2, u, y3, y4, y5, y6⟩
  · have e17 : s2.1 17 = hs.1 17 := y2.2.trans h17
    obtain ⟨k1', k2', k3'⟩ := y1.ki hq ⟨y3.1, by omega⟩ (y5.trans g84) (fun D => by rw [e17]; exact h.2.2.2.2.2.2.2 D)
    exact Or.inl ⟨_, _, k1', by omega, k2', k3', y4.1.1.trans y4.2.1.1.symm⟩
  · have e17 : u.1 17 = hs.1 17 := y4.2.trans h17
    exact Or.inr (RB.ks (u := u) hq x5 y1 y2 y6 y3.hd.2 fun D => by rw [e17]; exact h.2.2.2.2.2.2.2 D)
/-- blamed() -/
theorem blamed_pair (hdl : 1 ≤ dl) (hd : 2 ≤ d) (hC : CT Mc) (hR : RT Mr) (h : blB Mc Mr) (hv : v = iI i) (hi : -2147483648 ≤ i ∧ i ≤ 2147483647) : ∃ r, runX dl 163 [va_rf (some 64), .int v] Mc = some (.int r, Mc) ∧ runX d 305 [va_rf (some 160), .int v] Mr = some (.int r, Mr) := by
  obtain ⟨dl, rfl⟩ : ∃ e, dl = e + 1 := ⟨dl - 1, by omega⟩
  obtain ⟨d, rfl⟩ : ∃ e, d = e + 1 := ⟨d - 1, by omega⟩
  subst hv
  obtain ⟨n, hn, ⟨h1, h2⟩, h3⟩ := h
  have q1 := rr184 (d := d) (M := Mr) (v1 := iI i) (v2 := 0) (v3 := iI (n - 1)) (i := i) (b := 0) (c := n - 1) (by omega) rfl rfl rfl (by omega) (by omega) (by omega)
  by_cases y : 0 ≤ i ∧ i < n
  · rw [if_pos (by omega)] at q1
    refine ⟨Mr.1 255 i.toNat, ?_, ?_⟩
    · rw [r163]; unfold b163; rw [aR_e, aI_e, aZ_e]; unfold c163
      rw [jn_v, jn_v, if_neg (show ¬ iI i < 0 from lsI_n (y := 0) rfl li_0 (by omega)), gtI_q (ck_64 hC) h1, if_pos (lsI_p rfl rfl (by omega)), gtP_q (ck_64 hC) (cf_64_15 hC), alI_q (n := 16) (z := i) (ck_149 hC) rfl (by omega) (h3 i y.1 y.2), jv_e]
    · rw [r305]; unfold b305; rw [aR_e, aI_e, aZ_e]; unfold c305
      rw [gtI_q (rk_160 hR) h2, show iI n - (1 : Int32) = iI (n - 1) from sbI rfl li_1, cI_e q1, jn_v, if_neg (show ¬ iI 1 = 0 by decide), gtP_q (rk_160 hR) (rf_152 hR), alI_q (n := 16) (z := i) (rk_255 hR) rfl (by omega) rfl, jv_e]
  · rw [if_neg (by omega)] at q1
    refine ⟨-1, ?_, ?_⟩
    · rw [r163]; unfold b163; rw [aR_e, aI_e, aZ_e]; unfold c163
      rw [jn_v, jn_v]
      by_cases y2 : i < 0
      · rw [if_pos (show iI i < 0 from lsI_p (y := 0) rfl li_0 (by omega)), jv_e, jv_e]
      · rw [if_neg (show ¬ iI i < 0 from lsI_n (y := 0) rfl li_0 (by omega)), gtI_q (ck_64 hC) h1, if_neg (lsI_n rfl rfl (by omega)), jv_e, jv_e]
    · rw [r305]; unfold b305; rw [aR_e, aI_e, aZ_e]; unfold c305
      rw [gtI_q (rk_160 hR) h2, show iI n - (1 : Int32) = iI (n - 1) from sbI rfl li_1, cI_e q1, jn_v, if_pos (show iI 0 = 0 from rfl), jv_e]
end S9dc
