/-! blame(), both: all of it -/
section S9de
variable {d dl : Nat} {o : HO} {q : QN} {s s' u hs : ZS} {M M' Mc Mr Mc' Mr' Mh Rh : Mem} {LL a j N x : Nat} {xs : Nat → Int32} {ow : Nat → Int} {c p i n st b nc sl al wo wr wi n0 tm k po : Int} {w sd v1 v2 v3 ch v rc : Int32} {ss Od : Int → Int}
theorem blame_ok (hdl : 20 ≤ dl) (hd : 70 ≤ d) (hP : hoP o) (hp : 0 ≤ p ∧ p < oN o) (hnc : nc = (gR (oP o p)).1 3 0 0) (hc : 0 ≤ c ∧ c < nc) (hC : HC LL xs o ow sl Mc) (hR : HR o sl Mr) (hsl : 1 ≤ sl ∧ sl ≤ 1000) (h78 : Mc.1 88 2 = Mr.1 160 78) (hdc : hdC hs Mc) (hdr : hdR hs Mr) (hD : ∀ D, 0 ≤ hs.1 17 D 0 ∧ hs.1 17 D 0 ≤ 34000) (hO : odK Od nc.toNat) (hor : orB o p Od Mc Mr) (hbl : blB Mc Mr) (hv : v1 = iI p) (hv2 : v2 = iI c) : ∃ Mc' Mr' r, runX dl 162 [va_rf (some 64), .int v1, .int v2] Mc = some (.int r, Mc') ∧ runX d 304 [va_rf (some 160), .int v1, .int v2] Mr = some (.int r, Mr') ∧ FG (Zblc o) Mc Mc' ∧ Fz Zblr Mr Mr' ∧ afO LL xs o Mc Mc' Mr' ∧ blB Mc' Mr' := by
  obtain ⟨dl, rfl⟩ : ∃ e, dl = e + 1 := ⟨dl - 1, by omega⟩
  obtain ⟨d, rfl⟩ : ∃ e, d = e + 1 := ⟨d - 1, by omega⟩
  subst hv; subst hv2
  have hdle : dl = dl - 1 + 1 := by omega
  have l16 : (16 : Int32) = iI 16 := rfl
  have lo := pk_lo hP hp
  have p8 := hP.1
  have hg := hP.2.2.1 p hp.1 hp.2
  have n3 := hg.1.n3
  obtain ⟨-, ⟨f1, f4, f5, f6, f7⟩, c1, c2, c3, c4, c5⟩ := hg.1.1.2.2.2.2.1 c hc.1 (by omega)
  obtain ⟨cc, hcc⟩ : ∃ X, X = hEC (gH (oP o p)) 3 c := ⟨_, rfl⟩
  obtain ⟨sk, hsk⟩ : ∃ X, X = (gR (oP o p)).1 3 7 c := ⟨_, rfl⟩
  rw [← hsk] at c4
  have cM := hC.1.1.1
  have rM := hR.1.1.1
  have e167 := zc167 (d := dl) (M := Mc) (v := iI p) (p := p) (by omega) cM hC.2.1 hC.1.ob rfl (by omega)
  rw [if_pos hp] at e167
  have e169 := zc169 (d := dl) (v := iI c) (c := c) (by omega) hP hC.1 hp rfl (by omega)
  rw [if_pos (by omega), ← hcc] at e169
  have e256 := zr256 (d := d) (M := Mr) (v := iI p) (p := p) (w := iI c) (c := c) (b := nc) (by omega) rM hR.2.1 (by omega) rfl (by omega) rfl (by omega) (fun _ _ => ⟨by rw [hnc]; exact hoR.ncs hR.1 hp, by omega⟩)
  rw [if_pos ⟨hp, hc⟩] at e256
  obtain ⟨⟨⟨o1, o2, o3⟩, o4, -, o9, o10, -⟩, -, ⟨k1, -⟩, hL, hTT, -⟩ := hC.1.2.1 p hp.1 hp.2
  obtain ⟨⟨t1, t2, t3⟩, t4, t5⟩ := hTT 3 (by decide) (by decide) c hc.1 (by omega)
  rw [← hcc] at t1 t2 t4
  have e7 : Mc.1 cc 7 = iI sk := by rw [hsk]; exact (t4 7 (by decide) (by decide)).trans (congrArg iI f7)
  have rr := (hR.1.2.1 p hp.1 hp.2).1
  have e181 : Mr.1 181 (16 * p + c).toNat = iI sk := by rw [hsk]; exact rr.at (q := (181, 16, 3, 7)) (by decide) hc.1 (show c < 16 by omega) rfl
  by_cases hs1 : sk = 1
  · -- left out always
    refine ⟨Mc, Mr, (-2 : Int32), ?_, ?_, FG.r hC.1.1.2.2, Fz.r, ⟨⟨rfl, rfl⟩, ⟨hC.1, hR.1⟩, ⟨hs, hdc, hdr, hD⟩, hR.2.2.2⟩, hbl⟩
    · rw [r162]; unfold b162; rw [aR_e, aI_e, aI_e, aZ_e]; unfold c162
      rw [vC_e (ck_64 cM), cP_e e167, cP_e e169, if_neg (show ¬ some cc = none by simp), gtI_q t1 e7, if_neg (show ¬ iI sk = 0 by rw [hs1]; decide)]
    · rw [r304]; unfold b304; rw [aR_e, aI_e, aI_e, aZ_e]; unfold c304
      rw [vC_e (rk_160 rM), cI_e e256, if_neg (show ¬ iI 1 = 0 by decide), gtP_q (rk_160 rM) (rf_22 rM), alX_q (n := 128) (z := 16 * p + c) (rk_181 rM) (adI (mlI l16 rfl) rfl) (by omega) e181, if_neg (show ¬ iI sk = 0 by rw [hs1]; decide)]
  have hs0 : sk = 0 := by omega
  subst hs0
  obtain ⟨po, hpo1, hpo2, hpo3⟩ := hO.sur (c := c) (by omega)
  have hOd : ∀ k, 0 ≤ k → k < nc → 0 ≤ Od k ∧ Od k < nc ∧ (Od k = c ↔ k = po) := fun k a b => by
    have := hO.1 k a (by omega)
    refine ⟨this.1, by omega, fun z => ?_, fun z => by rw [z]; exact hpo3⟩
    exact hO.inj (i := k) (b := po) (by omega) (by omega) (z.trans hpo3.symm)
  -- the reference keeps the suspects
  obtain ⟨R0, z1, z2, z3⟩ := r304_30e (d := d) (M := Mr) (p := p) (nc := nc) (Od := Od) (c := c) (po := po) rM (by omega) (by omega) (fun k a b => ⟨(hor k a (by omega)).2, hOd k a b⟩) (by omega) hc
  have hR0 : HR o sl R0 := by
    obtain ⟨y1, y2, y3, y4, y5, y6, y7⟩ := hR
    have g : ∀ j, R0.1 160 j = Mr.1 160 j := fun j => z2.2 _ _ (by omega)
    exact ⟨y1.fg (z2.fg y1.1.2) fun a j z => hr_256 (Or.inr (Or.inl z)), (g _).trans y2, (g _).trans y3, (g _).trans y4, (g _).trans y5, (g _).trans y6, (g _).trans y7⟩
  obtain ⟨R1, hR1⟩ : ∃ X, X = sI (sI R0 160 83 (iI 20000)) 160 84 0 := ⟨_, rfl⟩
  obtain ⟨Ma, a1, a2, a3, KA⟩ := prep_KI (dl := dl) (b := 20000) (w := 20000) (by omega) hP hp hC hR0 (h78.trans (z2.2 _ _ (by omega)).symm) hdc (hdr.fz fun a j z => z2.2 _ _ (by omega)) hD (by decide) rfl hR1
  have m88 : Ma.1 88 3 = iI (-2) := by
    obtain ⟨Ma', b1, -, -, -, -, -, b7, -⟩ := zc19 (d := dl) (M := Mc) (x := gX (oP o p)) (v := 20000) (by omega) hC.1.1.2.2 hC.1.1.1 (hC.1.ob p hp.1 hp.2)
    rw [a1] at b1
    cases b1
    exact b7
  have cA : CT Ma := KA.1.1.1.1
  have r90 : R1.1 160 90 = iI (-1) := by
    rw [hR1]
    exact (sI_nej (by decide)).trans ((sI_nej (by decide)).trans hR0.2.2.2.1)
  -- the class
  obtain ⟨⟨⟨u1, u2, u3⟩, u4, -, u9, u10, -⟩, -, ⟨uk, -⟩, -⟩ := KA.1.1.2.1 p hp.1 hp.2
  have aOd : ∀ k, 0 ≤ k → k < nc → Ma.1 (gX (oP o p) + 6) k.toNat = iI (Od k) := fun k a b => (a2.i (ln_lt k1) (by unfold Zpr; omega)).trans (hor k a (by omega)).1
  have uk' : Ma.2.2.2[gX (oP o p) + 6]? = some (100, nc.toNat) := by rw [hnc]; exact uk
  have e182 := zc182 (d := dl) (M := Ma) (x := gX (oP o p)) (v := iI c) (nc := nc) (Od := Od) (po := po) (c := c) (by omega) ⟨u1, u10, uk'⟩ (by omega) (fun k a b => ⟨aOd k a b, hOd k a b⟩) (by omega) hc rfl
  obtain ⟨Mb, hMb⟩ : ∃ X, X = cpI Ma (gX (oP o p) + 6) 0 148 0 po.toNat := ⟨_, rfl⟩
  have cB : CT Mb := cA.keep (by rw [hMb]; rfl)
  obtain ⟨Md, hMd⟩ : ∃ X, X = sI Mb 148 po.toNat (iI c) := ⟨_, rfl⟩
  have fd : Fz (fun a _ => a = 148) Ma Md := by
    have : Fz (fun a _ => a = 148) Ma Mb := ⟨by rw [hMb]; rfl, fun a j z => by rw [hMb]; exact if_neg z⟩
    rw [hMd]; exact this.si rfl
  have cD : CT Md := cA.keep fd.1
  have KD : KI LL xs o p sl 0 20000 hs Md R1 := KA.sub (Z' := fun _ _ => False) hP fd (fun a j z => ⟨ho_148 hP (Or.inl z), by omega, by omega⟩) Fz.r (fun a j z => z.elim)
  have T148 : ∀ j : Int, 0 ≤ j → j < po → Md.1 148 j.toNat = iI (Od j) ∧ R1.1 256 j.toNat = iI (Od j) := fun j x1 x2 => by
    refine ⟨?_, ?_⟩
    · rw [hMd]
      refine (sI_nej (by omega)).trans ?_
      rw [hMb]
      exact (cpI_new _ (by omega)).trans (aOd j x1 (by omega))
    · rw [hR1]
      exact (sI_ne (by decide)).trans ((sI_ne (by decide)).trans (z3 j x1 x2))
  have T148n : Md.1 148 po.toNat = iI c := by rw [hMd]; exact sI_eq
  obtain ⟨M1, R2, V, w1, w2, w3, w4, w5⟩ := pass_pair (dl := dl) (d := d) (n := po) (c := c) (ss := Od) (wo := -2) (wr := -1) (w := iI p) (v1 := iI po) (v2 := iI c) (by omega) (by omega) hP hp hsl hnc (by omega) (fun j x1 x2 => ⟨(hOd j x1 (by omega)).1, (hOd j x1 (by omega)).2.1⟩) hc (fun i x1 x2 => by omega) (by omega) (by omega) KD ((fd.2 _ _ (by omega)).trans m88) r90 T148 T148n rfl rfl rfl
  have c1' : CT M1 := cD.keep w3.1
  have r2' : RT R2 := KD.1.2.1.1.keep w4.1
  have F1 : FG (Zblc o) Mc M1 := (a2.m fun a j z => Or.inl (Or.inl (Or.inl (Zpr_M z)))).tr (((fd.m fun a j z => Or.inl (Or.inr z)).tr (w3.m fun a j z => Or.inl (Or.inl z))).fg KA.1.1.1.2.2)
  have G1 : Fz Zblr Mr R2 := (z2.m fun a j z => Or.inl (Or.inr z)).tr (Fz.tr (M' := R1) (by
    rw [hR1]
    exact (Fz.r.si (Or.inl (Or.inl (Or.inl ⟨rfl, by decide⟩)))).si (Or.inl (Or.inl (Or.inl ⟨rfl, by decide⟩)))) (w4.m fun a j z => Or.inl (Or.inl z)))
  have km1 : M1.2.2.2 = Mc.2.2.2 ∧ M1.2.1 = Mc.2.1 := ⟨(congrArg (fun z => z.2.2) (w3.1.trans fd.1)).trans a3.1, (congrArg (fun z => z.1) (w3.1.trans fd.1)).trans a3.2⟩
  -- both up to there
  have k160 := rk_160 rM
  have kR0 := rk_160 hR0.1.1.1
  rw [show iI (-1) = (-1 : Int32) from rfl] at w2
  have kr2 := rk_160 r2'
  have erfA : V = iI 1 → R2.1 160 84 = iI 0 → runX (d + 1) 304 [va_rf (some 160), .int (iI p), .int (iI c)] Mr = bJ1 d p c po (1, R2) := fun y y2 => by
    rw [r304]; unfold b304; rw [aR_e, aI_e, aI_e, aZ_e]; unfold c304
    rw [vC_e k160, cI_e e256, if_neg (show ¬ iI 1 = 0 by decide), gtP_q k160 (rf_22 rM), alX_q (n := 128) (z := 16 * p + c) (rk_181 rM) (adI (mlI l16 rfl) rfl) (by omega) e181, if_pos (show iI 0 = 0 from rfl), jn_v, z1, jv_e]
    dsimp only
    rw [ptI_e kR0, ptZ_e (M := sI R0 160 83 20000) kR0 (Or.inl rfl), show sI (sI R0 160 83 20000) 160 84 0 = R1 from hR1.symm, vC_e (rk_160 KD.1.2.1.1), cI_e w2, jn_v]
    rw [if_pos y, jn_v, if_neg (show ¬ iI 1 = 0 by decide), gtI_q kr2 y2, if_pos (show iI 0 = 0 from rfl), jv_e, jn_v, if_neg (show ¬ (1 : Int32) = 0 by decide)]
    rfl
  have erfB : R2.1 160 84 = iI 1 → runX (d + 1) 304 [va_rf (some 160), .int (iI p), .int (iI c)] Mr = bJ1 d p c po (0, R2) := fun y2 => by
    rw [r304]; unfold b304; rw [aR_e, aI_e, aI_e, aZ_e]; unfold c304
    rw [vC_e k160, cI_e e256, if_neg (show ¬ iI 1 = 0 by decide), gtP_q k160 (rf_22 rM), alX_q (n := 128) (z := 16 * p + c) (rk_181 rM) (adI (mlI l16 rfl) rfl) (by omega) e181, if_pos (show iI 0 = 0 from rfl), jn_v, z1, jv_e]
    dsimp only
    rw [ptI_e kR0, ptZ_e (M := sI R0 160 83 20000) kR0 (Or.inl rfl), show sI (sI R0 160 83 20000) 160 84 0 = R1 from hR1.symm, vC_e (rk_160 KD.1.2.1.1), cI_e w2, jn_v]
    rw [jn_v]
    by_cases y : V = iI 1
    · rw [if_pos y, if_neg (show ¬ iI 1 = 0 by decide), gtI_q kr2 y2, if_neg (show ¬ iI 1 = 0 by decide), jv_e, jv_e, jn_v, if_pos rfl, gtI_q kr2 y2, if_neg (show ¬ iI 1 = 0 by decide)]
      rfl
    · rw [if_neg y, if_pos (show iI 0 = 0 from rfl), jv_e, jv_e, jn_v, if_pos rfl, gtI_q kr2 y2, if_neg (show ¬ iI 1 = 0 by decide)]
      rfl
  have erfC : ¬ V = iI 1 → R2.1 160 84 = iI 0 → ∀ (x43 : Int32) (M42 : Mem), runX d 303 [va_rf (some 160), .int (iI p), .int 0, .int (-1), .int (iI c)] R2 = some (.int x43, M42) → RT M42 → (x43 = 0 → M42.1 160 84 = iI 0 → runX (d + 1) 304 [va_rf (some 160), .int (iI p), .int (iI c)] Mr = bJ1 d p c po (1, M42)) ∧ ((x43 ≠ 0 ∨ M42.1 160 84 = iI 1) → runX (d + 1) 304 [va_rf (some 160), .int (iI p), .int (iI c)] Mr = bJ1 d p c po (0, M42)) := fun y y2 x43 M42 hx hR42 => by
    refine ⟨fun y3 y4 => ?_, fun y3 => ?_⟩
    · skip
      rw [r304]; unfold b304; rw [aR_e, aI_e, aI_e, aZ_e]; unfold c304
      rw [vC_e k160, cI_e e256, if_neg (show ¬ iI 1 = 0 by decide), gtP_q k160 (rf_22 rM), alX_q (n := 128) (z := 16 * p + c) (rk_181 rM) (adI (mlI l16 rfl) rfl) (by omega) e181, if_pos (show iI 0 = 0 from rfl), jn_v, z1, jv_e]
      dsimp only
      rw [ptI_e kR0, ptZ_e (M := sI R0 160 83 20000) kR0 (Or.inl rfl), show sI (sI R0 160 83 20000) 160 84 0 = R1 from hR1.symm, vC_e (rk_160 KD.1.2.1.1), cI_e w2, jn_v]
      rw [if_neg y, jn_v, if_pos (show iI 0 = 0 from rfl), jv_e, jv_e, jn_v, if_pos rfl, gtI_q kr2 y2, if_pos (show iI 0 = 0 from rfl), vC_e kr2, cI_e hx, jn_v, jn_v, if_pos y3, gtI_q (rk_160 hR42) y4, if_pos (show iI 0 = 0 from rfl), jv_e]
      rfl
    · skip
      rw [r304]; unfold b304; rw [aR_e, aI_e, aI_e, aZ_e]; unfold c304
      rw [vC_e k160, cI_e e256, if_neg (show ¬ iI 1 = 0 by decide), gtP_q k160 (rf_22 rM), alX_q (n := 128) (z := 16 * p + c) (rk_181 rM) (adI (mlI l16 rfl) rfl) (by omega) e181, if_pos (show iI 0 = 0 from rfl), jn_v, z1, jv_e]
      dsimp only
      rw [ptI_e kR0, ptZ_e (M := sI R0 160 83 20000) kR0 (Or.inl rfl), show sI (sI R0 160 83 20000) 160 84 0 = R1 from hR1.symm, vC_e (rk_160 KD.1.2.1.1), cI_e w2, jn_v]
      rw [if_neg y, jn_v, if_pos (show iI 0 = 0 from rfl), jv_e, jv_e, jn_v, if_pos rfl, gtI_q kr2 y2, if_pos (show iI 0 = 0 from rfl), vC_e kr2, cI_e hx, jn_v, jn_v]
      by_cases y4 : x43 = 0
      · rw [if_pos y4, gtI_q (rk_160 hR42) (y3.resolve_left (fun z => z y4)), if_neg (show ¬ iI 1 = 0 by decide), jv_e, jv_e]
        rfl
      · rw [if_neg y4, jv_e, jv_e]
        rfl
  rw [show iI (-2) = (-2 : Int32) from rfl] at w1
  have fks : ∀ Mh Rh, KSx LL xs o p sl 0 Mh Rh → (Mh.2.2.2 = Mc.2.2.2 ∧ Mh.2.1 = Mc.2.1) → afO LL xs o Mc Mh (sI Rh 160 84 0) := fun Mh Rh ⟨⟨⟨s1, s2⟩, ⟨s3, s4, s5, s6⟩, s7, ⟨s8, s9⟩, hs2, g1, g2, g3⟩, g4⟩ y => ⟨y, ⟨s1, s2.si (ZR_hr (p := 0) (k := 0) (Or.inl ⟨rfl, by decide⟩))⟩, ⟨hs2, g1, g2.fz fun a j z => sI_ne (by omega), g3⟩, (sI_nej (by decide)).trans g4, (sI_nej (by decide)).trans s4, (sI_nej (by decide)).trans s5, (sI_nej (by decide)).trans s6⟩
  have fki : ∀ Mh Rh b hs, KI LL xs o p sl 0 b hs Mh Rh → Rh.1 160 90 = iI (-1) → (Mh.2.2.2 = Mc.2.2.2 ∧ Mh.2.1 = Mc.2.1) → afO LL xs o Mc Mh Rh := fun Mh Rh b hs z6 z7 y => ⟨y, z6.1, ⟨hs, z6.2.2.2.2.2.1, z6.2.2.2.2.2.2.1, z6.2.2.2.2.2.2.2⟩, z7, z6.2.2.1.2.1, z6.2.2.1.2.2.1, z6.2.2.1.2.2.2⟩
  -- blamed() as it was
  have bl1 : ∀ Mh Rh, Fz (Zbc o) M1 Mh → Fz Zbr R2 Rh → blB Mh Rh := fun Mh Rh y1 y2 => hbl.fz (fun a j z => (y1.2 a j fun y => by
      rcases y with (y | y) | y
      · unfold ZM at y; omega
      · omega
      · omega).trans (((w3.2 a j fun y => by
      rcases y with y | y
      · unfold ZM at y; omega
      · omega).trans (fd.2 a j (by omega))).trans (nm hC.1 a2 (by omega) (by unfold Zpr; omega)))) fun a j z => (y2.2 a j fun y => by
      rcases y with y | y
      · unfold ZR at y; omega
      · omega).trans ((w4.2 a j fun y => by unfold ZR at y; omega).trans (by
      rw [hR1]
      by_cases y : a = 160
      · subst y; exact (sI_nej (by omega)).trans ((sI_nej (by omega)).trans (z2.2 _ _ (by omega)))
      · exact (sI_ne y).trans ((sI_ne y).trans (z2.2 _ _ (by omega)))))
  have b84 : ∀ Mh Rh, blB Mh Rh → blB Mh (sI Rh 160 84 0) := fun Mh Rh y => y.fz (fun _ _ _ => rfl) fun a j z => by
    by_cases y : a = 160
    · subst y; exact sI_nej (by omega)
    · exact sI_ne y
  have z84 : Zblr 160 84 := Or.inl (Or.inl (Or.inl ⟨rfl, by decide⟩))
  have eC0 : runX (dl + 1) 162 [va_rf (some 64), .int (iI p), .int (iI c)] Mc = bK1 dl (gX (oP o p)) (some cc) po M1 := by
    clear w5
    rw [r162]; unfold b162; rw [aR_e, aI_e, aI_e, aZ_e]; unfold c162
    rw [vC_e (ck_64 cM), cP_e e167, cP_e e169, if_neg (show ¬ some cc = none by simp), gtI_q t1 e7, if_pos (show iI 0 = 0 from rfl), gtP_q (ck_64 cM) (cf_64_2 cM), vC_e (ck_88 cM), cV_e a1, cI_e e182, gtP_q u1 u10, gtP_q (ck_64 cA) (cf_64_14 cA), acI_e (N := nc.toNat) (m := po.toNat) (N2 := 16) (show (0 : Int32) = iI 0 from rfl) (show (0 : Int32) = iI 0 from rfl) (congrArg iI (by omega)) uk' (ck_148 cA) (by omega), ← hMb, gtP_q (ck_64 cB) (cf_64_14 cB), asI_e (z := po) (n := 16) (ck_148 cB) (by omega) (by omega) (by omega), ← hMd, gtP_q (ck_64 cD) (cf_64_14 cD), gtP_q (ck_64 cD) (cf_64_17 cD), vC_e (ck_64 cD), show iI po + (1 : Int32) = iI (po + 1) from adI rfl li_1, cV_e w1]
    rfl
  rcases w5 with ⟨b', hs', q1, qb, q3, q4, q5⟩ | q
  · have bb := q1.2.2.2.2.1.2.2.2
    have cs := zc22 (d := dl) (by omega) c1' q1.2.2.2.2.1.1 (by omega)
    rw [if_neg (by omega)] at cs
    have y84 := q1.2.2.2.2.1.2.2.1
    by_cases y : V = iI 1
    · refine ⟨M1, R2, -2, ?_, ?_, F1, G1, fki _ _ _ _ q1 q4 km1, bl1 _ _ Fz.r Fz.r⟩
      · rw [eC0, bK1_p c1' (q5.trans y), bK3_0 c1' cs]
      · rw [erfA y y84, bJ1_1 r2' y84]
    · obtain ⟨Mg, Mc2, Mr2, V2, x1, x2, x3, x4, x5, x6, x7⟩ := alone_try (dl := dl - 1) (d := d) (w := iI p) (v2 := iI c) (by omega) (by omega) hP hp hsl hnc hc q1 q3 q4 rfl rfl
      rw [← hcc] at x3
      have c2' : CT Mc2 := c1'.keep x5.1
      have r3' : RT Mr2 := r2'.keep x6.1
      have F2 : FG (Zblc o) Mc Mc2 := F1.tr ((x5.m fun a j z => Or.inl (Or.inl (Or.inl z))).fg q1.1.1.1.2.2)
      have G2 : Fz Zblr Mr Mr2 := G1.tr (x6.m fun a j z => Or.inl (Or.inl z))
      have km2 : Mc2.2.2.2 = Mc.2.2.2 ∧ Mc2.2.1 = Mc.2.1 := ⟨(congrArg (fun z => z.2.2) x5.1).trans km1.1, (congrArg (fun z => z.1) x5.1).trans km1.2⟩
      have f2 : Fz (Zbc o) M1 Mc2 := x5.m fun a j z => Or.inl (Or.inl z)
      have g2 : Fz Zbr R2 Mr2 := x6.m fun a j z => Or.inl z
      obtain ⟨eC1, eC2⟩ := erfC y y84 _ Mr2 x4 r3'
      have ny : ¬ M1.1 89 0 = (1 : Int32) := fun z => y (q5.symm.trans z)
      have e363 := zc363 (dl := dl) (e := dl - 1) (cc := some cc) hdle c1' x1 x2 x3 c2'
      have eC3 := eC0.trans (bK1_n (x := gX (oP o p)) (po := po) c1' ny cs e363 (by split; exact Or.inr rfl; exact Or.inl rfl))
      rcases x7 with ⟨b2, hs2, p1, pb, p3, p4, p5⟩ | q
      · have bb2 := p1.2.2.2.2.1.2.2.2
        have cs2 := zc22 (d := dl) (by omega) c2' p1.2.2.2.2.1.1 (by omega)
        rw [if_neg (by omega)] at cs2
        have p84 := p1.2.2.2.2.1.2.2.1
        by_cases y2 : V2 = iI 1
        · -- the CASE passes alone: turns
          obtain ⟨Mh, Rh, n1, n2, r1, r2, r3, r4, r5⟩ := turn_all (dl := dl) (d := d) (w := iI p) (v2 := iI c) (by omega) (by omega) hP hp hsl hnc hc rfl rfl 15 po 0 b2 Od Mc2 Mr2 4294967296 4294967296 (by omega) (by omega) (by omega) (by omega) (by omega) ⟨hs2, p1, ⟨p3, p4⟩, by omega, fun j e1 e2 => ⟨(hOd j e1 (by omega)).1, (hOd j e1 (by omega)).2.1⟩, fun j e1 e2 => ⟨((x5.2 _ _ fun y => by have := ZM_x y; omega).trans (w3.2 _ _ ZM_148)).trans (T148 j e1 e2).1, ((x6.2 _ _ ZR_256).trans (w4.2 _ _ ZR_256)).trans (T148 j e1 e2).2⟩, ((x5.2 _ _ fun y => by have := ZM_x y; omega).trans (w3.2 _ _ ZM_148)).trans T148n⟩
          rw [← li_0, ← li_1] at r1
          rw [← li_1] at r2
          have ecl : runX (dl + 1) 162 [va_rf (some 64), .int (iI p), .int (iI c)] Mc = bJc dl (iI n1, Mh) := by
            clear r5
            rw [eC3, if_pos (show Mc2.1 89 0 = (1 : Int32) from p5.trans y2), bK3_1 c2' cs2]
            exact r1 _
          have erl : runX (d + 1) 304 [va_rf (some 160), .int (iI p), .int (iI c)] Mr = bJr d 0 (n2, Rh) := by
            rw [eC2 (Or.inl (by rw [if_pos y2]; decide)), bJ1_0, r2]
          rw [ecl, erl]
          have F3 : FG (Zblc o) Mc Mh := F2.tr ((r3.m fun a j z => Or.inl z).fg p1.1.1.1.2.2)
          have G3 : Fz Zblr Mr Rh := G2.tr (r4.m fun a j z => Or.inl z)
          have km3 : Mh.2.2.2 = Mc.2.2.2 ∧ Mh.2.1 = Mc.2.1 := ⟨(congrArg (fun z => z.2.2) r3.1).trans km2.1, (congrArg (fun z => z.1) r3.1).trans km2.2⟩
          rcases r5 with ⟨e1, b3, ss3, e2, e3⟩ | e
          · subst e1
            obtain ⟨Mc', Mr', h1, h2, h3, h4, h5, ⟨hs3, h6⟩, h7⟩ := bJ_ki (dl := dl) (d := d) (by omega) hP hp e3
            exact ⟨Mc', Mr', _, h1, h2, F3.tr (h3.fg (by rw [show ln Mh = ln Mc by unfold ln; rw [km3.1]]; exact hC.1.1.2.2)), G3.tr h4, fki _ _ _ _ h6 h7 ⟨(congrArg (fun z => z.2.2) h3.1).trans km3.1, (congrArg (fun z => z.1) h3.1).trans km3.2⟩, h5⟩
          · exact ⟨Mh, _, _, bJc_s (by omega) e.1.1.1.1.1 e.1.2.2.2.1.1, bJr_s e.1.1.2.1.1 e.1.2.2.2.1.2, F3, G3.si z84, fks _ _ e km3, b84 _ _ (bl1 _ _ (f2.tr r3) (g2.tr r4))⟩
        · refine ⟨Mc2, Mr2, -2, ?_, ?_, F2, G2, fki _ _ _ _ p1 p4 km2, bl1 _ _ f2 g2⟩
          · rw [eC3, if_neg (show ¬ Mc2.1 89 0 = (1 : Int32) from fun z => y2 (p5.symm.trans z)), bK3_0 c2' cs2]
          · rw [eC1 (by rw [if_neg y2]; rfl) p84, bJ1_1 r3' p84]
      · exact ⟨Mc2, _, -4, eC3.trans (bK3_s (by omega) c2' q.1.2.2.2.1.1), (eC2 (Or.inr q.1.2.2.2.1.2)).trans (bJ1_s r3' q.1.2.2.2.1.2), F2, G2.si z84, fks _ _ q km2, b84 _ _ (bl1 _ _ f2 g2)⟩
  · exact ⟨M1, _, -4, eC0.trans (bK1_s (by omega) c1' q.1.2.2.2.1.1), (erfB q.1.2.2.2.1.2).trans (bJ1_s r2' q.1.2.2.2.1.2), F1, G1.si z84, fks _ _ q km1, b84 _ _ (bl1 _ _ Fz.r Fz.r)⟩
end S9de
