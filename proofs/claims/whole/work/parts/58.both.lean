/-! members: parameters of the reference; a whole code beside the other -/
section S58
variable {d d' : Nat} {T : Int → Int} {n m b a e s u uc dp i f K c lo ki r v j p ut cnt j0 z F P mu cb : Int} {kd pl E : Int → Int} {tx : Int → Int64} {M0 M1 M M2 M0c M0r Mc Mr M1c M1r : Mem} {R R' R0 : RG} {t t2 : TS} {v0 v1 v2 w0 : Int32} {L : Int → Int64} {k : Nat} {W : List (Nat × Nat)} {N TT ex : Nat} {H H0 : HG} {G U : Nat → Int → Int} {X : Nat → Int → Int64}
theorem RQ.st {e2 s2 u2 dp2 b2 : Int} (h : RQ T n b m kd pl E tx M0 M1 p ut cnt e s u dp M R t) (f : Fr W M M2) (w : (∀ q, q ∈ W → q ∈ W_mr) ∧ (∀ q, q ∈ W → q ∈ W_mk) ∧ ((∀ z, z ∈ W → z ≠ (160, 1)) ∧ (∀ z, z ∈ W → z.1 ≠ 161 ∧ z.1 ≠ 194) ∧ ∀ z, z ∈ W → z ≠ (160, 9999)) ∧ (∀ z, z ∈ W → (∀ q, q ∈ rTI → q.1 ≠ z.1) ∧ ∀ q, q ∈ rTL → q.1 ≠ z.1) ∧ inW W 160 49 = false ∧ inW W 160 64 = false) (hc : RS b2 m kd pl E tx e2 s2 u2 dp2 M2 t2) (hs : t2.2.1 = 0 → t.2.1 = 0) : RQ T n b2 m kd pl E tx M0 M1 p ut cnt e2 s2 u2 dp2 M2 R t2 := by
  obtain ⟨h1, h2, h3, ⟨h4, h5⟩, h6, h7, h8⟩ := h
  obtain ⟨w1, w2, w3, w4, w5, w6⟩ := w
  exact ⟨h1.fr f w3, Fr.t h2 (Fr.m f w1), fun z => Fr.t (h3 (hs z)) (Fr.m f w2), ⟨h4.fr f w4, h5.fr f w4⟩, hc, (f.i _ _ w5).trans h7, (f.i _ _ w6).trans h8⟩
theorem RQ.re (h : RQ T n b m kd pl E tx M0 M1 p ut cnt e s u dp M R t) : RQ T n b m kd pl E tx M0 M p ut cnt e s u dp M R t := ⟨h.1, h.2.1, fun _ => Fr.r, h.2.2.2⟩
theorem CQ.re (h : CQ m kd pl tx N TT ex M0 M1 e s uc M H t) : CQ m kd pl tx N TT ex M0 M e s uc M H t := ⟨h.1, ⟨h.2.1.1, rfl⟩, fun _ => FN.z h.nn, h.2.2.2⟩
theorem mr223 (hd : 6 ≤ d) (hS : TkS T n m kd pl E tx) (h : RQ T n b m kd pl E tx M0 M1 p ut cnt e s u dp M R t) (hL : t.2.1 = 0 → LA 199 M L s) (hs : 0 ≤ s ∧ s ≤ 4) (hk : 6 ≤ k + s) (he : 0 ≤ e ∧ e ≤ b) (hb3 : b ≤ 3000) : Rt (runX d 223 [va_rf (some 160)] M) (fun _ M2 => RQ T n b m kd pl E tx M0 M1 p ut cnt e (tPar kd pl tx k t s L).2.1 u dp M2 R (tPar kd pl tx k t s L).1 ∧ ((tPar kd pl tx k t s L).1.2.1 = 0 → LA 199 M2 (tPar kd pl tx k t s L).2.2 (tPar kd pl tx k t s L).2.1)) := by
  by_cases h0 : t.2.1 = 0
  · obtain ⟨d, rfl⟩ : ∃ e, d = e + 1 := ⟨d - 1, by omega⟩
    obtain ⟨Q, hQ⟩ : ∃ Q, tPar kd pl tx k t s L = Q := ⟨_, rfl⟩
    rw [hQ]
    rw [r223]; unfold b223; rw [aR_e, aZ_e]; unfold c223
    refine rs1 (jn_v) ?_
    refine Rt.lp (fun mm q => (∃ (k' : Nat) (t' : TS) (s' : Int) (L' : Int → Int64), q.1 = iI 1 ∧ RQ T n b m kd pl E tx M0 M1 p ut cnt e s' u dp q.2 R t' ∧ t'.2.1 = 0 ∧ LA 199 q.2 L' s' ∧ tPar kd pl tx k' t' s' L' = Q ∧ (s ≤ s' ∧ s' ≤ 4 ∧ 6 ≤ k' + s') ∧ (mm : Int) = 6 - s') ∨ (q.1 = iI 0 ∧ RQ T n b m kd pl E tx M0 M1 p ut cnt e Q.2.1 u dp q.2 R Q.1 ∧ (Q.1.2.1 = 0 → LA 199 q.2 Q.2.2 Q.2.1) ∧ mm = 0)) (fun mm q go hq hgo => ?_) (6 - s).toNat _ _ (by omega) (Or.inl ⟨k, t, s, L, li_1, h, h0, hL h0, hQ, by omega, by omega⟩)
    obtain ⟨q1, M3⟩ := q
    dsimp only at hq
    unfold c223_2
    dsimp only
    rcases hq with ⟨k', t', s', L', hx, g, g0, gL, ge, gb, gm⟩ | ⟨hx, g, gL, gm⟩
    · obtain ⟨hr, hm, hi⟩ := g.sr g0
      refine rs1 (if_neg (eqI_n hx li_0 (by omega))) ?_
      refine rs1 (gtI_q (rk_160 g.1.1) hr.2.2.2.1) ?_
      refine rs1 (if_pos (eqI_p rfl li_0 rfl)) ?_
      refine rs1 (gtI_q (rk_160 g.1.1) hr.1) ?_
      refine rs1 (jn_v) ?_
      obtain ⟨k', rfl⟩ : ∃ e, k' = e + 1 := ⟨k' - 1, by omega⟩
      have stop : ∀ {Mq : Mem} {tq : TS}, tN kd pl (kn L' s' (tx t'.1)) (if s' < 4 then 0 else 1) t' = tq → 1 ≤ tq.2.1 → RP b m kd pl E tx e s' u dp M3 tq Mq → Rt (go (0, Mq)) (fun _ M2 => RQ T n b m kd pl E tx M0 M1 p ut cnt e Q.2.1 u dp M2 R Q.1 ∧ (Q.1.2.1 = 0 → LA 199 M2 Q.2.2 Q.2.1)) := fun {Mq tq} e1 e2 q2 => by
        have n1 : ¬ (tN kd pl (kn L' s' (tx t'.1)) (if s' < 4 then 0 else 1) t').2.1 = 0 := by rw [e1]; omega
        rw [tPar_n g0 n1, e1] at ge
        subst ge
        have hq := g.rp q2 (fun z => absurd z (by omega))
        exact hgo 0 _ (by omega) (Or.inr ⟨li_0, hq, fun z => absurd z (by show ¬ tq.2.1 = 0; omega), rfl⟩)
      by_cases k3 : kd t'.1 = 3
      · refine rs1 (if_pos (krI_p (k := 3) rfl li_1 k3 (by decide +kernel))) ?_
        refine rs1 (jv_e) ?_
        refine rs1 (vC_e (rk_160 g.1.1)) ?_
        refine rs1 (cI_e (ar193_p (by omega) hS g.1.1 hr.1 hr.2.1 hr.2.2.2.1 li_1 ⟨hi.1, hi.2, by omega, rfl⟩)) ?_
        refine rs1 (if_neg (eqI_n (x := 1) (y := 0) rfl li_0 (by omega))) ?_
        refine rs1 (gtL_q (rk_160 g.1.1) (hr.2.2.2.2.2.2.2.2.1 k3)) ?_
        refine rs1 (vC_e (rk_160 g.1.1)) ?_
        refine Rc_I (a197 (by omega) g.1.1 hr.2.2.2.2.2.1 gL (x := tx t'.1) (by omega)) fun v Mx ⟨r, hv, hM, hlc⟩ => ?_
        subst hv
        rw [hM]
        refine rs1 (cI_e rfl) ?_
        refine rs1 (jn_v) ?_
        have rb := hlc.bd
        by_cases c1 : r = -1
        · rw [if_pos c1]
          refine rs1 (if_neg (leI_n li_0 rfl (by omega))) ?_
          refine rs1 (jv_e) ?_
          refine rs1 (vC_e (rk_160 g.1.1)) ?_
          refine rs1 (cI_e (ar194_p (by omega) hS g.1.1 hr.1 hr.2.1 hr.2.2.2.1 li_1 li_3 ⟨hi.1, hi.2, rfl⟩)) ?_
          refine rs1 (if_neg (eqI_n (x := 1) (y := 0) rfl li_0 (by omega))) ?_
          refine rs1 (gtI_q (rk_160 g.1.1) hr.2.2.2.2.2.1) ?_
          refine rs1 (jn_v) ?_
          have ek := kn_n hlc c1
          by_cases c4 : 4 ≤ s'
          · refine rs1 (if_pos (leI_p li_4 rfl (by omega))) ?_
            refine rs1 (jv_e) ?_
            refine rs1 (vC_e (rk_160 g.1.1)) ?_
            obtain ⟨Mq, q1, q2⟩ := q194n (d := d) (b := b) (f := 6) (by omega) hS g.1.1 hr hm he hi li_0 li_6 (by omega)
            refine rs1 (cI_e q1) ?_
            refine rs1 (if_pos (eqI_p rfl li_0 rfl)) ?_
            exact stop ((if_pos ⟨g0, k3⟩).trans ((if_neg (by omega)).trans (if_pos (if_neg (by omega))))) (by dsimp only; omega) q2
          · refine rs1 (if_neg (leI_n li_4 rfl (by omega))) ?_
            refine rs1 (jv_e) ?_
            refine rs1 (vC_e (rk_160 g.1.1)) ?_
            refine rs1 (cI_e (ar194_p (by omega) hS g.1.1 hr.1 hr.2.1 hr.2.2.2.1 li_1 li_6 ⟨hi.1, hi.2, rfl⟩)) ?_
            refine rs1 (if_neg (eqI_n (x := 1) (y := 0) rfl li_0 (by omega))) ?_
            refine rs1 (gtL_q (rk_160 g.1.1) (hr.2.2.2.2.2.2.2.2.1 k3)) ?_
            refine rs1 (vC_e (rk_160 g.1.1)) ?_
            have eN : tN kd pl (kn L' s' (tx t'.1)) (if s' < 4 then 0 else 1) t' = (t'.1 + 1, 0, 0) := (if_pos ⟨g0, k3⟩).trans ((if_neg (by omega)).trans (if_neg (by rw [if_pos (by omega)]; omega)))
            have eN0 : (tN kd pl (kn L' s' (tx t'.1)) (if s' < 4 then 0 else 1) t').2.1 = 0 := by rw [eN]
            refine Rc_V (a199 (by omega) g.1.1 hr.2.2.2.2.2.1 hr.2.2.2.1 (x := tx t'.1) (by omega)) fun v M6 ⟨f6, q6, q7, q8⟩ => ?_
            have g6 : RQ T n b m kd pl E tx M0 M1 p ut cnt e (s' + 1) u dp M6 R t' := g.st f6 (by decide) (Or.inl ⟨g0, ⟨(f6.i _ _ (by decide)).trans hr.1, (f6.i _ _ (by decide)).trans hr.2.1, (f6.i _ _ (by decide)).trans hr.2.2.1, (f6.i _ _ (by decide)).trans hr.2.2.2.1, (f6.i _ _ (by decide)).trans hr.2.2.2.2.1, q6, (f6.i _ _ (by decide)).trans hr.2.2.2.2.2.2.1, (f6.i _ _ (by decide)).trans hr.2.2.2.2.2.2.2.1, hr.2.2.2.2.2.2.2.2.fr f6 (by decide) (by decide)⟩, hm.frw f6 (by decide), hi⟩) id
            have hL6 : LA 199 M6 (up1 L' s' (tx t'.1)) (s' + 1) := gL.add (by omega) q7 q8 rfl
            refine rs1 (cV_e rfl) ?_
            refine rs1 (vC_e (rk_160 g6.1.1)) ?_
            refine Rc_V (q191 (by omega) hS g6.1 g6.2.2.2.2.1 hb3 (fun _ => ⟨by omega, by omega⟩)) fun v M7 p7 => ?_
            have g7 := g6.rp p7 tA_s
            rw [show tA t' = (t'.1 + 1, 0, 0) from if_pos g0] at g7 p7
            have hL7 := hL6.fr (p7.2.2 rfl) (by decide)
            obtain ⟨hr7, hm7, hi7⟩ := g7.sr rfl
            refine rs1 (cV_e rfl) ?_
            refine rs1 (gtI_q (rk_160 g7.1.1) hr7.2.2.2.1) ?_
            refine rs1 (jn_v) ?_
            refine rs1 (jn_v) ?_
            refine rs1 (if_pos (eqI_p rfl li_0 rfl)) ?_
            refine rs1 (gtI_q (rk_160 g7.1.1) hr7.1) ?_
            by_cases e2 : kd (t'.1 + 1) = 44
            · refine rs1 (if_pos (krI_p (k := 44) rfl li_44 e2 (by decide +kernel))) ?_
              refine rs1 (jv_e) ?_
              refine rs1 (if_neg (eqI_n li_1 li_0 (by omega))) ?_
              refine rs1 (vC_e (rk_160 g7.1.1)) ?_
              refine Rc_V (q191 (by omega) hS g7.1 g7.2.2.2.2.1 hb3 (fun _ => ⟨by dsimp only; omega, by dsimp only; omega⟩)) fun v M8 p8 => ?_
              have g8 := g7.rp p8 tA_s
              refine rs1 (cV_e rfl) ?_
              rw [tPar_c g0 eN0 e2] at ge
              exact hgo (6 - (s' + 1)).toNat _ (by omega) (Or.inl ⟨k', _, s' + 1, _, li_1, g8, rfl, hL7.fr (p8.2.2 rfl) (by decide), ge, by omega, by omega⟩)
            · refine rs1 (if_neg (krI_n (k := 44) rfl li_44 (hS.ok (t'.1 + 1) hi7.1 hi7.2) (by unfold KdOK sgk; omega) (by decide +kernel) e2 (by omega))) ?_
              refine rs1 (jv_e) ?_
              refine rs1 (jv_e) ?_
              refine rs1 (if_pos (eqI_p li_0 li_0 rfl)) ?_
              rw [tPar_e g0 eN0 e2] at ge
              subst ge
              exact hgo 0 _ (by omega) (Or.inr ⟨li_0, g7, fun _ => hL7, rfl⟩)
        · rw [if_neg c1]
          refine rs1 (if_pos (leI_p li_0 rfl (by omega))) ?_
          refine rs1 (jv_e) ?_
          refine rs1 (vC_e (rk_160 g.1.1)) ?_
          have ek := kn_p hlc (by omega)
          obtain ⟨Mq, q1, q2⟩ := q194n (d := d) (b := b) (f := 3) (by omega) hS g.1.1 hr hm he hi li_0 li_3 (by omega)
          refine rs1 (cI_e q1) ?_
          refine rs1 (if_pos (eqI_p rfl li_0 rfl)) ?_
          exact stop ((if_pos ⟨g0, k3⟩).trans (if_pos ek)) (by dsimp only; omega) q2
      · refine rs1 (if_neg (krI_n (k := 3) rfl li_1 (hS.ok t'.1 hi.1 hi.2) (by unfold KdOK; omega) (by decide +kernel) k3 (by omega))) ?_
        refine rs1 (jv_e) ?_
        refine rs1 (vC_e (rk_160 g.1.1)) ?_
        obtain ⟨Mq, q1, q2⟩ := q193n (d := d) (b := b) (by omega) hS g.1.1 hr hm he hi li_0
        refine rs1 (cI_e q1) ?_
        refine rs1 (if_pos (eqI_p rfl li_0 rfl)) ?_
        exact stop ((if_neg fun z => k3 z.2).trans (if_pos g0)) (by dsimp only; split <;> omega) q2
    · refine rs1 (if_pos (eqI_p hx li_0 rfl)) ?_
      refine rs1 (jv_e) ?_
      exact Rt.ok ⟨g, gL⟩
  · have h1 := h.pos h0
    rw [tPar_f h1]
    obtain ⟨z, -⟩ | ⟨-, h6, em, sn, us, mu, ut2, g41, g42, g43, g51, g53, g48, g49, gb⟩ := h.2.2.2.2.1
    · omega
    · refine (x223_s (by omega) h.1.1 g41 g42 g43 g51 g53 g48 g49 (by omega)).mono fun v M2 q => ⟨?_, fun z => absurd z h0⟩
      exact h.rp (RP.flt (e := e) (s := s) (u := u) (dp := dp) (kd := kd) (pl := pl) (E := E) (tx := tx) (m := m) ⟨h1, h6⟩ g49 gb q) id
end S58
