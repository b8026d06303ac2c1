/-! members: parameters, funs and properties, the first object's side -/
noncomputable def kn (L : Int → Int64) (s : Int) (x : Int64) : Int := @ite Int (∃ j, 0 ≤ j ∧ j < s ∧ L j = x) (Classical.propDecidable _) 1 0
noncomputable def tPar (kd pl : Int → Int) (tx : Int → Int64) : Nat → TS → Int → (Int → Int64) → TS × Int × (Int → Int64)
  | 0, t, s, L => (t, s, L)
  | k + 1, t, s, L => if t.2.1 = 0 then (if (tN kd pl (kn L s (tx t.1)) (if s < 4 then 0 else 1) t).2.1 = 0 then (if kd (t.1 + 1) = 44 then tPar kd pl tx k (t.1 + 1 + 1, 0, 0) (s + 1) (up1 L s (tx t.1)) else ((t.1 + 1, 0, 0), s + 1, up1 L s (tx t.1))) else (tN kd pl (kn L s (tx t.1)) (if s < 4 then 0 else 1) t, s, L)) else (t, s, L)
section S56b
variable {d : Nat} {T : Int → Int} {n m b a e s uc i f K c lo ki r : Int} {kd pl E : Int → Int} {tx : Int → Int64} {N TT ex : Nat} {M0 M1 M M2 : Mem} {H H2 : HG} {t t2 : TS} {v0 v1 v2 : Int32} {L : Int → Int64} {x : Int64} {k : Nat}
theorem kn_p (h : LcF L s x r) (hr : 0 ≤ r) : kn L s x = 1 := by
  rcases h with ⟨h1, h2, h3, -⟩ | ⟨h1, -⟩
  · exact @if_pos _ (Classical.propDecidable _) ⟨r, h1, h2, h3⟩ _ _ _
  · omega
theorem kn_n (h : LcF L s x r) (hr : r = -1) : kn L s x = 0 := by
  rcases h with ⟨h1, h2, h3, -⟩ | ⟨-, h2⟩
  · omega
  · exact @if_neg _ (Classical.propDecidable _) (fun ⟨j, a, b, c⟩ => h2 j a b c) _ _ _
theorem tPar_f (h : 1 ≤ t.2.1) : tPar kd pl tx k t s L = (t, s, L) := by
  cases k with
  | zero => rfl
  | succ k => exact if_neg (by omega)
theorem tPar_n (h0 : t.2.1 = 0) (h1 : ¬ (tN kd pl (kn L s (tx t.1)) (if s < 4 then 0 else 1) t).2.1 = 0) : tPar kd pl tx (k + 1) t s L = (tN kd pl (kn L s (tx t.1)) (if s < 4 then 0 else 1) t, s, L) := (if_pos h0).trans (if_neg h1)
theorem tPar_e (h0 : t.2.1 = 0) (h1 : (tN kd pl (kn L s (tx t.1)) (if s < 4 then 0 else 1) t).2.1 = 0) (h2 : ¬ kd (t.1 + 1) = 44) : tPar kd pl tx (k + 1) t s L = ((t.1 + 1, 0, 0), s + 1, up1 L s (tx t.1)) := (if_pos h0).trans ((if_pos h1).trans (if_neg h2))
theorem tPar_c (h0 : t.2.1 = 0) (h1 : (tN kd pl (kn L s (tx t.1)) (if s < 4 then 0 else 1) t).2.1 = 0) (h2 : kd (t.1 + 1) = 44) : tPar kd pl tx (k + 1) t s L = tPar kd pl tx k (t.1 + 1 + 1, 0, 0) (s + 1) (up1 L s (tx t.1)) := (if_pos h0).trans ((if_pos h1).trans (if_pos h2))
theorem if01 {p : Prop} [Decidable p] : (if p then (0 : Int) else 1) = 0 ∨ (if p then (0 : Int) else 1) = 1 := by split <;> omega
theorem CQ.s2 {s2 : Int} (h : CQ m kd pl tx N TT ex M0 M1 e s uc M H t) (h1 : 1 ≤ t.2.1) : CQ m kd pl tx N TT ex M0 M1 e s2 uc M H t := ⟨h.1, h.2.1, h.2.2.1, h.2.2.2.1, by
  rcases h.2.2.2.2 with z | z
  · exact absurd z.1 (by omega)
  · exact Or.inr z⟩
/-- a FAULT goes on -/
theorem CQ.ff {s2 e2 uc2 : Int} (h : CQ m kd pl tx N TT ex M0 M1 e s uc M H t) (h1 : 1 ≤ t.2.1) (p : CP m kd e2 s2 uc2 M t M2) : CQ m kd pl tx N TT ex M0 M1 e2 s2 uc2 M2 H t := h.st (W := W_66) p.2.1 (fun z => absurd z (by omega)) W66_9 p.1 id
theorem mc82 (hd : 5 ≤ d) (hS : TkS T n m kd pl E tx) (h : CQ m kd pl tx N TT ex M0 M1 e s uc M H t) (hL : t.2.1 = 0 → LA 76 M L s) (hB : CB m e s uc) (hs : 0 ≤ s ∧ s ≤ 4) (hk : 6 ≤ k + s) : Rt (runX d 82 [va_rf (some 65)] M) (fun _ M2 => CQ m kd pl tx N TT ex M0 M1 e (tPar kd pl tx k t s L).2.1 uc M2 H (tPar kd pl tx k t s L).1 ∧ ((tPar kd pl tx k t s L).1.2.1 = 0 → LA 76 M2 (tPar kd pl tx k t s L).2.2 (tPar kd pl tx k t s L).2.1 ∧ s ≤ (tPar kd pl tx k t s L).2.1 ∧ (tPar kd pl tx k t s L).2.1 ≤ 4 ∧ (t.2.1 = 0 → s < (tPar kd pl tx k t s L).2.1 ∧ t.1 < (tPar kd pl tx k t s L).1.1))) := by
  by_cases h0 : t.2.1 = 0
  · obtain ⟨d, rfl⟩ : ∃ e, d = e + 1 := ⟨d - 1, by omega⟩
    obtain ⟨Q, hQ⟩ : ∃ Q, tPar kd pl tx k t s L = Q := ⟨_, rfl⟩
    rw [hQ]
    rw [r82]; unfold b82; rw [aR_e, aZ_e]; unfold c82
    refine rs1 (jn_v) ?_
    refine Rt.lp (fun mm q => (∃ (k' : Nat) (t' : TS) (s' : Int) (L' : Int → Int64) (y : Int), q.1 = iI 1 ∧ q.2.1 = iI y ∧ CQ m kd pl tx N TT ex M0 M1 e s' uc q.2.2 H t' ∧ t'.2.1 = 0 ∧ LA 76 q.2.2 L' s' ∧ tPar kd pl tx k' t' s' L' = Q ∧ (s ≤ s' ∧ s' ≤ 4 ∧ 6 ≤ k' + s' ∧ 0 ≤ y ∧ y ≤ s' ∧ t.1 ≤ t'.1) ∧ (mm : Int) = 6 - s') ∨ (∃ y : Int, q.1 = iI 0 ∧ q.2.1 = iI y ∧ (0 ≤ y ∧ y ≤ 10) ∧ CQ m kd pl tx N TT ex M0 M1 e Q.2.1 uc q.2.2 H Q.1 ∧ (Q.1.2.1 = 0 → LA 76 q.2.2 Q.2.2 Q.2.1 ∧ s < Q.2.1 ∧ Q.2.1 ≤ 4 ∧ t.1 < Q.1.1) ∧ mm = 0)) (fun mm q go hq hgo => ?_) (6 - s).toNat _ _ (by omega) (Or.inl ⟨k, t, s, L, 0, li_1, li_0, h, h0, hL h0, hQ, by omega, by omega⟩)
    obtain ⟨q1, q2, M3⟩ := q
    dsimp only at hq
    unfold c82_4
    dsimp only
    rcases hq with ⟨k', t', s', L', y, hx, hy, g, g0, gL, ge, gb, gm⟩ | ⟨y, hx, hy, gb, g, gL, gm⟩
    · obtain ⟨hc, hi⟩ := g.sc g0
      refine rs1 (if_neg (leI_n li_3000 hy (by omega))) ?_
      refine rs1 (if_neg (eqI_n hx li_0 (by omega))) ?_
      refine rs1 (vC_e (ck_65 g.1.1)) ?_
      refine rs1 (cL_e (a65 (by omega) hS g.1.1 g.1.2 hc.1 hc.2.1 hc.2.2.1 hi)) ?_
      refine rs1 (vC_e (ck_65 g.1.1)) ?_
      refine Rc_I (a74 (by omega) g.1.1 hc.2.2.2.2.1 gL (by omega)) fun v M4 ⟨r, hv, hM, hr⟩ => ?_
      subst hv
      subst hM
      refine rs1 (cI_e rfl) ?_
      have rb := hr.bd
      have hB3 : CB m e s' uc := by unfold CB at hB ⊢; omega
      refine Rt.jn (fun w => ∃ a, w = iI a ∧ a = kn L' s' (tx t'.1) ∧ (a = 0 ∨ a = 1)) (fun w hw => ?_) (fun j hj => ?_)
      · obtain ⟨a, ha, hak, ha1⟩ := hw
        refine rs1 (gtI_q (ck_65 g.1.1) hc.2.2.2.2.1) ?_
        refine Rt.jn (fun w => w = iI (if s' < 4 then 0 else 1)) (fun w2 hw2 => ?_) (fun j hj => ?_)
        · refine rs1 (vC_e (ck_65 g.1.1)) ?_
          refine Rc_L (cq66 (by omega) hS g.1.1 g.1.2 g.2.2.2.2 hB3 ha hw2 ha1 if01) fun v M5 ⟨y5, hv5, hy5, p5⟩ => ?_
          subst hv5
          have g5 := g.cp p5 fun z => (tN_0 z).1
          rw [hak] at g5
          refine rs1 (cL_e rfl) ?_
          refine rs1 (vC_e (ck_65 g5.1.1)) ?_
          by_cases e1 : (tN kd pl (kn L' s' (tx t'.1)) (if s' < 4 then 0 else 1) t').2.1 = 0
          · obtain ⟨n1, n2, n3, n4, n5⟩ := tN_0 e1
            have s4 : s' < 4 := by
              rcases Int.lt_or_le s' 4 with z | z
              · exact z
              · exact absurd (if_neg (by omega)) n4
            rw [n5] at g5
            obtain ⟨hc5, hi5⟩ := g5.sc rfl
            have hL5 := gL.fr (p5.2.2 (by rw [hak]; exact e1)) (by decide)
            rw [hy5 g0]
            refine Rc_V (a75 (by omega) g5.1.1 hc5.2.2.2.2.1 (x := tx t'.1) (by omega)) fun v M6 ⟨f6, q6, q7, q8⟩ => ?_
            have g6 : CQ m kd pl tx N TT ex M0 M1 e (s' + 1) uc M6 H (t'.1 + 1, 0, 0) := g5.st (W := W_al) (Fr.m f6 (by decide)) (fun _ => f6) (by decide) (Or.inl ⟨rfl, ⟨(f6.i _ _ (by decide)).trans hc5.1, (f6.i _ _ (by decide)).trans hc5.2.1, (f6.i _ _ (by decide)).trans hc5.2.2.1, (f6.i _ _ (by decide)).trans hc5.2.2.2.1, q6, (f6.i _ _ (by decide)).trans hc5.2.2.2.2.2⟩, hi5⟩) (fun _ => rfl)
            have hL6 : LA 76 M6 (up1 L' s' (tx t'.1)) (s' + 1) := hL5.add (by omega) q7 q8 rfl
            obtain ⟨hc6, hi6⟩ := g6.sc rfl
            refine rs1 (cV_e rfl) ?_
            refine rs1 (gtI_q (ck_65 g6.1.1) hc6.2.1) ?_
            refine rs1 (jn_v) ?_
            by_cases e2 : kd (t'.1 + 1) = 44
            · refine rs1 (if_pos (eqI_p rfl li_44 e2)) ?_
              refine rs1 (jv_e) ?_
              refine rs1 (jn_v) ?_
              refine rs1 (if_neg (eqI_n li_1 li_0 (by omega))) ?_
              refine rs1 (vC_e (ck_65 g6.1.1)) ?_
              have hm6 := hS.more (t'.1 + 1) (by omega) (by omega) (by omega)
              refine Rc_V (cq63 (by omega) hS g6.1.1 g6.1.2 g6.2.2.2.2 (fun _ => hm6)) fun v M7 p7 => ?_
              have g7 := g6.cp p7 tA_s
              refine rs1 (cV_e rfl) ?_
              refine rs1 (jv_e) ?_
              refine rs1 (ltI_q (z := y + 1) (adI hy li_1)) ?_
              obtain ⟨k', rfl⟩ : ∃ e, k' = e + 1 := ⟨k' - 1, by omega⟩
              rw [tPar_c g0 e1 e2] at ge
              exact hgo (6 - (s' + 1)).toNat _ (by omega) (Or.inl ⟨k', _, s' + 1, _, y + 1, li_1, rfl, g7, rfl, hL6.fr (p7.2.2 rfl) (by decide), ge, by show _ ∧ _ ∧ _ ∧ _ ∧ _ ∧ t.1 ≤ t'.1 + 1 + 1; omega, by omega⟩)
            · refine rs1 (if_neg (eqI_n (x := kd (t'.1 + 1)) rfl li_44 (by have := (hS.ok (t'.1 + 1) (by omega) hi6.2).r; omega))) ?_
              refine rs1 (jv_e) ?_
              refine rs1 (jn_v) ?_
              refine rs1 (if_pos (eqI_p li_0 li_0 rfl)) ?_
              refine rs1 (jv_e) ?_
              refine rs1 (ltI_q (z := y + 1) (adI hy li_1)) ?_
              obtain ⟨k', rfl⟩ : ∃ e, k' = e + 1 := ⟨k' - 1, by omega⟩
              rw [tPar_e g0 e1 e2] at ge
              subst ge
              exact hgo 0 _ (by omega) (Or.inr ⟨y + 1, li_0, rfl, by omega, g6, fun _ => ⟨hL6, by dsimp only; omega⟩, rfl⟩)
          · have e1' : 1 ≤ (tN kd pl (kn L' s' (tx t'.1)) (if s' < 4 then 0 else 1) t').2.1 := by
              rcases g5.2.2.2.2 with z | z
              · exact absurd z.1 e1
              · exact z.1
            obtain ⟨z, -⟩ | ⟨-, i5, sz, sn, u5, b13, b10, b11, b12, b9, b16, b19, bb⟩ := g5.2.2.2.2
            · omega
            · refine Rc_V (y75 (by omega) g5.1.1 g5.1.2 b12 b13 b10 b11 b9 b16 b19 bb) fun v M6 p6 => ?_
              have g6 := g5.ff (e2 := e) (s2 := s') (uc2 := uc) e1' (CP.flt e1' (by omega) p6)
              refine rs1 (cV_e rfl) ?_
              obtain ⟨x1, x2, x3, x4, x5, x6, x7, x8, -⟩ := p6
              refine rs1 (gtI_q (ck_65 g6.1.1) x8) ?_
              refine rs1 (jn_v) ?_
              refine rs1 (if_neg (eqI_n rfl li_44 (by omega))) ?_
              refine rs1 (jv_e) ?_
              refine rs1 (jn_v) ?_
              refine rs1 (if_pos (eqI_p li_0 li_0 rfl)) ?_
              refine rs1 (jv_e) ?_
              refine rs1 (ltI_q (z := y + 1) (adI hy li_1)) ?_
              obtain ⟨k', rfl⟩ : ∃ e, k' = e + 1 := ⟨k' - 1, by omega⟩
              rw [tPar_n g0 e1] at ge
              subst ge
              exact hgo 0 _ (by omega) (Or.inr ⟨y + 1, li_0, rfl, by omega, g6, fun z => absurd z e1, rfl⟩)
        · by_cases c4 : s' < 4
          · refine rs1 (if_pos (lsI_p rfl li_4 (by omega))) ?_
            exact hj _ (by rw [if_pos c4]; exact li_0)
          · refine rs1 (if_neg (lsI_n rfl li_4 (by omega))) ?_
            exact hj _ (by rw [if_neg c4]; exact li_1)
      · by_cases c1 : r = -1
        · rw [if_pos c1]
          refine rs1 (if_pos (lsI_p rfl li_0 (by omega))) ?_
          exact hj _ ⟨0, li_0, (kn_n hr c1).symm, Or.inl rfl⟩
        · rw [if_neg c1]
          refine rs1 (if_neg (lsI_n rfl li_0 (by omega))) ?_
          exact hj _ ⟨1, li_1, (kn_p hr (by omega)).symm, Or.inr rfl⟩
    · refine rs1 (if_neg (leI_n li_3000 hy (by omega))) ?_
      refine rs1 (if_pos (eqI_p hx li_0 rfl)) ?_
      refine rs1 (jv_e) ?_
      exact Rt.ok ⟨g, fun z => by have := gL z; exact ⟨this.1, by omega, this.2.2.1, fun _ => ⟨this.2.1, this.2.2.2⟩⟩⟩
  · have h1 : 1 ≤ t.2.1 := by
      rcases h.2.2.2.2 with z | z
      · exact absurd z.1 h0
      · exact z.1
    rw [tPar_f h1]
    obtain ⟨z, -⟩ | ⟨-, i5, sz, sn, u5, b13, b10, b11, b12, b9, b16, b19, bb⟩ := h.2.2.2.2
    · omega
    · exact (y82 (by omega) h.1.1 h.1.2 b12 b13 b10 b11 b9 b16 b19 bb).mono fun v M2 p => ⟨h.ff h1 (CP.flt h1 (by omega) p), fun z => absurd z h0⟩
/-- what is between ( and ) of a fun -/
noncomputable def tQ (kd pl : Int → Int) (tx : Int → Int64) (t : TS) (L : Int → Int64) : TS × Int × (Int → Int64) := if t.2.1 = 0 ∧ kd t.1 = 41 then (t, 0, L) else tPar kd pl tx 6 t 0 L
/-- numbers of the first object, ahead of a FAULT or behind it -/
theorem CS.nm (h : CS m kd e s uc M t) (hB : CB m e s uc) : ∃ s2 e2 k2 : Int, M.1 65 16 = iI s2 ∧ M.1 65 9 = iI e2 ∧ M.1 65 13 = iI k2 ∧ (0 ≤ s2 ∧ s2 ≤ 10) ∧ (0 ≤ e2 ∧ e2 ≤ 4096) ∧ (t.2.1 = 0 → s2 = s ∧ e2 = e ∧ k2 = kd t.1) ∧ (1 ≤ t.2.1 → k2 = 2) := by
  unfold CB at hB
  rcases h with ⟨h0, ⟨a1, a2, a3, a4, a5, a6⟩, hb⟩ | ⟨h1, i, sz, sn, u2, b1, b2, b3, b4, b5, b6, b7, b8⟩
  · exact ⟨s, e, kd t.1, a5, a4, a2, by omega, by omega, fun _ => ⟨rfl, rfl, rfl⟩, fun z => absurd z (by omega)⟩
  · exact ⟨sn, sz, 2, b6, b5, b1, by omega, by omega, fun z => absurd z (by omega), fun _ => rfl⟩
theorem CQ.pos (h : CQ m kd pl tx N TT ex M0 M1 e s uc M H t) (h0 : ¬ t.2.1 = 0) : 1 ≤ t.2.1 := by
  rcases h.2.2.2.2 with z | z
  · exact absurd z.1 h0
  · exact z.1
theorem mc81 (hd : 11 ≤ d) (hS : TkS T n m kd pl E tx) (h : CQ m kd pl tx N TT ex M0 M1 e 0 uc M H t) (h0 : t.2.1 = 0) (hB : CB m e 0 uc) (hk : kd t.1 = 207) (hv1 : v1 = iI lo) (hlo : 0 ≤ lo ∧ lo ≤ 1) (hu : 1 ≤ hEN H 1) (hn : 0 ≤ hEN H 2 ∧ hEN H 2 < 100) (hf : 0 ≤ hEF H 1 1 (hEN H 1 - 1) ∧ hEF H 1 1 (hEN H 1 - 1) ≤ hEN H 2) : Rt (runX d 81 [va_rf (some 65), .int v1] M) (fun _ M2 => ∃ x r b ow z1 z2 Q, TdA H (hEN H 1 - 1) (tx (t.1 + 1)) r ∧ BB H b ∧ Q = tQ kd pl tx (tE kd pl 40 (tN kd pl r b (t.1 + 1, 0, 0))) L ∧ ((tE kd pl 41 Q.1).2.1 = 0 → z1 = Q.2.1 ∧ z2 = e ∧ LA 76 M2 Q.2.2 Q.2.1 ∧ 0 ≤ Q.2.1 ∧ Q.2.1 ≤ 4) ∧ CQ m kd pl tx N TT ex M0 M1 e Q.2.1 uc M2 (sF (sF (aP H ow 2 x (pF lo (hEN H 1 - 1) 4) (tx (t.1 + 1))) 2 4 (hEN H 2) z1) 2 5 (hEN H 2) z2) (tE kd pl 41 Q.1)) := by
  obtain ⟨d, rfl⟩ : ∃ e, d = e + 1 := ⟨d - 1, by omega⟩
  obtain ⟨hc, hi⟩ := h.sc h0
  have hm := hS.more t.1 (by omega) (by omega) (by omega)
  have hBs : ∀ s, 0 ≤ s ∧ s ≤ 4 → CB m e s uc := fun s hs => by unfold CB at hB ⊢; omega
  rw [r81]; unfold b81; rw [aR_e, aI_e, aZ_e]; unfold c81
  refine rs1 (vC_e (ck_65 h.1.1)) ?_
  refine Rc_P (mc78 (by omega) hS h h0 hB hm li_4 hv1 hlo hu hn.2 hf) fun v M2 ⟨x, r, b, ow, hv, h1, h2, h3⟩ => ?_
  subst hv
  refine rs1 (cP_e rfl) ?_
  refine rs1 (vC_e (ck_65 h3.1.1)) ?_
  refine Rc_V (cq64 (K := 40) (by omega) hS h3.1.1 h3.1.2 h3.2.2.2.2 hB li_40 (by omega)) fun v M3 g3 => ?_
  have h4 := h3.cp g3 tE_s
  refine rs1 (cV_e rfl) ?_
  obtain ⟨s2, e2, k2, n16, n9, n13, nb1, nb2, nok, nft⟩ := h4.2.2.2.2.nm hB
  refine rs1 (gtI_q (ck_65 h4.1.1) n13) ?_
  obtain ⟨t4, ht4⟩ : ∃ z, z = tE kd pl 40 (tN kd pl r b (t.1 + 1, 0, 0)) := ⟨_, rfl⟩
  rw [← ht4] at h4 nok nft
  obtain ⟨H7, hH7⟩ : ∃ z, z = aP H ow 2 x (pF lo (hEN H 1 - 1) 4) (tx (t.1 + 1)) := ⟨_, rfl⟩
  rw [← hH7] at h4
  have hj7 : 0 ≤ hEN H 2 ∧ hEN H 2 < hEN H7 2 := by rw [hH7]; exact aP_j hn.1
  have hx7 : hEC H7 2 (hEN H 2) = x := by rw [hH7]; exact aP_c
  obtain ⟨Q, hQ⟩ : ∃ Q, Q = tQ kd pl tx t4 L := ⟨_, rfl⟩
  -- behind the parameters
  refine Rt.jn (fun q => CQ m kd pl tx N TT ex M0 M1 e Q.2.1 uc q H7 Q.1 ∧ (Q.1.2.1 = 0 → LA 76 q Q.2.2 Q.2.1 ∧ 0 ≤ Q.2.1 ∧ Q.2.1 ≤ 4)) (fun q hq => ?_) (fun j hj => ?_)
  · obtain ⟨g, gL⟩ := hq
    refine rs1 (vC_e (ck_65 g.1.1)) ?_
    -- LOCALS within bounds, or a FAULT
    obtain ⟨s9, hs9, hs9'⟩ : ∃ s9 : Int, CQ m kd pl tx N TT ex M0 M1 e s9 uc q H7 Q.1 ∧ (0 ≤ s9 ∧ s9 ≤ 4 ∧ (Q.1.2.1 = 0 → s9 = Q.2.1)) := by
      by_cases z : Q.1.2.1 = 0
      · exact ⟨Q.2.1, g, (gL z).2.1, (gL z).2.2, fun _ => rfl⟩
      · exact ⟨0, g.s2 (g.pos z), by omega, by omega, fun w => absurd w z⟩
    have hB9 := hBs s9 (by omega)
    refine Rc_V (cq64 (K := 41) (by omega) hS hs9.1.1 hs9.1.2 hs9.2.2.2.2 hB9 li_41 (by omega)) fun v M5 g5 => ?_
    have h5 := hs9.cp g5 tE_s
    refine rs1 (cV_e rfl) ?_
    obtain ⟨s5, e5, k5, m16, m9, m13, mb1, mb2, mok, mft⟩ := h5.2.2.2.2.nm hB9
    refine rs1 (gtI_q (ck_65 h5.1.1) m16) ?_
    obtain ⟨kx, h6⟩ := h5.set (k := 2) (f := 4) (z := s5) (by omega) (by omega) (by omega) hj7 hx7
    refine rs1 (ptI_q (z := s5) kx rfl) ?_
    have x65 : (65 : Nat) ≠ x := fun w => by rw [← w, ck_65 h5.1.1] at kx; cases kx
    refine rs1 (gtI_q (ck_65 h6.1.1) ((sI_ne x65).trans m9)) ?_
    obtain ⟨kx2, h7⟩ := h6.set (k := 2) (f := 5) (z := e5) (by omega) (by omega) (by omega) hj7 hx7
    refine rs1 (ptI_q (z := e5) kx2 rfl) ?_
    refine Rt.ok ⟨x, r, b, ow, s5, e5, Q, h1, h2, by rw [hQ, ht4], fun z => ?_, ?_⟩
    · obtain ⟨w1, w2, w3⟩ := mok z
      obtain ⟨u1, u2, u3⟩ := gL (tE_s z)
      refine ⟨by rw [w1]; exact hs9'.2.2 (tE_s z), w2, ?_, u2, u3⟩
      have f5 := g5.2.2 z
      intro jj p1 p2
      show M5.2.1 76 jj.toNat = _
      exact (f5.lc _ (by decide) _).trans (u1 jj p1 p2)
    · rw [hH7] at h7
      by_cases z : (tE kd pl 41 Q.1).2.1 = 0
      · have w := hs9'.2.2 (tE_s z)
        rw [w] at h7
        exact h7
      · exact h7.s2 (h7.pos z)
  · by_cases c : t4.2.1 = 0 ∧ kd t4.1 = 41
    · have eQ : Q = (t4, 0, L) := hQ.trans (if_pos c)
      refine rs1 (if_pos (eqI_p rfl li_41 (by rw [(nok c.1).2.2]; exact c.2))) ?_
      exact hj _ (by rw [eQ]; exact ⟨h4, fun _ => ⟨fun jj p1 p2 => absurd p2 (by dsimp only; omega), by dsimp only; omega, by dsimp only; omega⟩⟩)
    · have eQ : Q = tPar kd pl tx 6 t4 0 L := hQ.trans (if_neg c)
      have nk : ¬ k2 = 41 ∧ -2147483648 ≤ k2 ∧ k2 ≤ 2147483647 := by
        by_cases z : t4.2.1 = 0
        · obtain ⟨-, -, w⟩ := nok z
          obtain ⟨-, v1, v2⟩ := h4.sc z
          have := (hS.ok t4.1 v1 v2).r
          exact ⟨fun y => c ⟨z, by omega⟩, by omega, by omega⟩
        · have := nft (h4.pos z)
          omega
      refine rs1 (if_neg (eqI_n rfl li_41 (by omega))) ?_
      refine rs1 (vC_e (ck_65 h4.1.1)) ?_
      refine Rc_V (mc82 (L := L) (k := 6) (by omega) hS h4 (fun _ jj p1 p2 => absurd p2 (by omega)) hB (by omega) (by omega)) fun v M5 ⟨g1, g2⟩ => ?_
      refine rs1 (cV_e rfl) ?_
      exact hj _ (by rw [eQ]; exact ⟨g1, fun z => ⟨(g2 z).1, (g2 z).2.1, (g2 z).2.2.1⟩⟩)
end S56b
