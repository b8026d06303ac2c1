/-! tests: the reference's pieces -/
section S65
variable {dl d : Nat} {T : Int → Int} {n m b e s u uc dq p i r ut cnt lo ki mu K c0 z y dp : Int} {kd pl E : Int → Int} {tx : Int → Int64} {M0 M M0c Mc : Mem} {R : RG} {t : TS} {L : Int → Int64} {N TT ex : Nat} {H : HG} {G U : Nat → Int → Int} {v1 v2 x0 c1 : Int32} {t4 : TS} {k : Nat} {V : Nat → Int} {R0 : RG} {M1 : Mem} {X : Int64} {b : Int}
theorem wQ_r : ∀ (k : Nat), (wQ kd pl c0 t k).2.1 = 0 → (∀ j, j < k → (wQ kd pl c0 t j).2.1 = 0 ∧ kd (wQ kd pl c0 t j).1 = 44) → (wQ kd pl c0 t k).2.2 = 0 ∧ t.1 < (wQ kd pl c0 t k).1 ∧ ∀ j, j ≤ k → ∃ a : TS, wQ kd pl c0 t j = tS kd pl a ∧ wV kd pl tx c0 t j = vSg kd tx a ∧ t.1 ≤ a.1 ∧ a.1 + 1 ≤ (wQ kd pl c0 t k).1
  | 0, h, _ => by
    obtain ⟨-, i', e, q, -⟩ := tS_0 (show (tS kd pl t).2.1 = 0 from h)
    have e2 : wQ kd pl c0 t 0 = (i', 0, 0) := e
    refine ⟨by rw [e2], by rw [e2]; exact q, fun j z => ⟨t, ?_, ?_, Int.le_refl _, by rw [e2]; exact q⟩⟩
    · rw [show j = 0 by omega]; rfl
    · rw [show j = 0 by omega]; rfl
  | k + 1, h, g => by
    obtain ⟨z0, z1, z2⟩ := wQ_r k (g k (by omega)).1 (fun j q => g j (by omega))
    have h' : (tS kd pl (wS kd pl (k + 1) (c0 + k + 1) (wQ kd pl c0 t k))).2.1 = 0 := h
    obtain ⟨b0, i', e, q, -⟩ := tS_0 h'
    have e2 : wQ kd pl c0 t (k + 1) = (i', 0, 0) := e
    have eb : (wS kd pl (k + 1) (c0 + k + 1) (wQ kd pl c0 t k)) = ((wQ kd pl c0 t k).1 + 1, 0, 0) := by
      unfold wS at b0 ⊢
      split at b0
      · exact absurd b0 (by dsimp only; omega)
      · rename_i w; exact if_neg w
    rw [eb] at q
    dsimp only at q
    refine ⟨by rw [e2], by rw [e2]; dsimp only; omega, fun j z => ?_⟩
    by_cases w : j = k + 1
    · subst w
      exact ⟨_, rfl, rfl, by rw [eb]; dsimp only; omega, by rw [e2, eb]; dsimp only; omega⟩
    · obtain ⟨a, a1, a2, a3, a4⟩ := z2 j (by omega)
      exact ⟨a, a1, a2, a3, by rw [e2]; dsimp only; omega⟩
theorem tR_z (h : (tR kd pl tx t).2.1 = 0) (hz : t.2.2 = 0) : (tR kd pl tx t).2.2 = 0 ∧ t.1 ≤ (tR kd pl tx t).1 ∧ 0 ≤ vR kd tx t ∧ vR kd tx t ≤ 999999999 := by
  by_cases c : t.2.1 = 0 ∧ kd t.1 = 212
  · have e : tR kd pl tx t = tM kd pl tx 1 999999999 (t.1 + 1, 0, 0) := if_pos c
    rw [e] at h ⊢
    obtain ⟨-, -, q1, q2, q3⟩ := tM_0 h
    dsimp only at q1 q2 q3
    rw [q3, show vR kd tx t = nb tx (t.1 + 1) from if_pos c]
    dsimp only
    omega
  · rw [show tR kd pl tx t = t from if_neg c, show vR kd tx t = 0 from if_neg c]
    omega
theorem tK_z (hz : t.2.2 = 0) : (tK kd K t).2.2 = 0 ∧ t.1 ≤ (tK kd K t).1 ∧ ((tK kd K t).1 ≤ t.1 + 1) := by
  by_cases c : t.2.1 = 0 ∧ kd t.1 = K
  · rw [show tK kd K t = (t.1 + 1, 0, 0) from if_pos c]; dsimp only; omega
  · rw [show tK kd K t = t from if_neg c]; omega
theorem vK_b : 0 ≤ vK kd K t ∧ vK kd K t ≤ 1 := by unfold vK; split <;> omega
/-- what a test says of its numbers -/
theorem wX_r (hS : TkS T n m kd pl E tx) (h : wX kd pl tx c0 t k t4 V) (h0 : t4.2.1 = 0) (hz : t.2.2 = 0) (ht : 0 ≤ t.1) (hm : t4.1 < m) : t4 = (t4.1, 0, 0) ∧ t.1 ≤ t4.1 ∧ ∀ j : Nat, j ≤ k → -999999999 ≤ V j ∧ V j ≤ 999999999 := by
  rcases h with ⟨a1, a2, a3, rfl, rfl⟩ | ⟨a1, rfl, rfl, rfl⟩
  · obtain ⟨b1, b2, b3⟩ := wQ_r (tx := tx) k h0 a3.1
    dsimp only at b2
    refine ⟨?_, by omega, fun j q => ?_⟩
    · obtain ⟨w, hw⟩ : ∃ w, w = wQ kd pl c0 (t.1 + 1, 0, 0) k := ⟨_, rfl⟩
      rw [← hw] at b1 h0 ⊢
      obtain ⟨x, y, z⟩ := w
      dsimp only at b1 h0 ⊢
      rw [b1, h0]
    · obtain ⟨a, e1, e2, e3, e4⟩ := b3 j q
      dsimp only at e3
      rw [e2]
      refine vSg_r hS ?_ ⟨by omega, by omega⟩
      rw [← e1]
      by_cases w : j = k
      · rw [w]; exact h0
      · exact (a3.1 j (by omega)).1
  · refine ⟨?_, Int.le_refl _, fun j _ => by dsimp only; omega⟩
    obtain ⟨x, y, z⟩ := t4
    dsimp only at hz h0 ⊢
    rw [hz, h0]
/-- the reference: a word that may stand -/
theorem opt191 {xL : XA} {Q : Value → Mem → Value → Mem → Prop} {f : Mem → XA} {w : Int32} (hd : 5 ≤ d) (hS : TkS T n m kd pl E tx) (h : RQ T n b m kd pl E tx M0 M1 p ut cnt e s u dp M R t) (hb3 : b ≤ 3000) (hK : K ≠ 0 ∧ K ≠ 1) (hw : w = iI (vK kd K t)) (hf : ∀ M2, RQ T n b m kd pl E tx M0 M1 p ut cnt e s u dp M2 R (tK kd K t) → Rs xL (f M2) Q) : Rs xL (if w = 0 then f M else (vC (13, 157) M (some 160) <| cV (runX d 191 [va_rf (some 160)] M) fun M85 => f M85)) Q := by
  by_cases c : t.2.1 = 0 ∧ kd t.1 = K
  · rw [show vK kd K t = 1 from if_pos c] at hw
    refine rsr (if_neg (eqI_n hw li_0 (by omega))) ?_
    refine rsr (vC_e (rk_160 h.1.1)) ?_
    refine RrV (q191 (by omega) hS h.1 h.2.2.2.2.1 hb3 (fun _ => by omega)) fun v M2 p2 => ?_
    have g := h.rp p2 tA_s
    rw [show tA t = tK kd K t from (if_pos c.1).trans (if_pos c).symm] at g
    refine rsr (cV_e rfl) ?_
    exact hf _ g
  · rw [show vK kd K t = 0 from if_neg c] at hw
    refine rsr (if_pos (eqI_p hw li_0 rfl)) ?_
    refine hf _ ?_
    rw [show tK kd K t = t from if_neg c]
    exact h
/-- the reference: raises, with its number -/
theorem raises225 {xL : XA} {Q : Value → Mem → Value → Mem → Prop} {F : Int32 × Mem → XA} (hd : 8 ≤ d) (hS : TkS T n m kd pl E tx) (h : RQ T n b m kd pl E tx M0 M1 p ut cnt e s u dp M R t) (he : 0 ≤ e ∧ e ≤ b) (hb3 : b ≤ 3000) (hf : ∀ M2 r, RQ T n b m kd pl E tx M0 M1 p ut cnt e s u dp M2 R (tR kd pl tx t) → ((tR kd pl tx t).2.1 = 0 → r = vR kd tx t) → Rs xL (F (iI r, M2)) Q) : Rs xL (gtI (13, 157) M (some 160) 41 fun x26 => jn F fun j206 => if x26 = 0 then (gtI (13, 157) M (some 160) 36 fun x72 => if x72 = ((413 : Int32)) then (vC (13, 157) M (some 160) <| cV (runX d 191 [va_rf (some 160)] M) fun M73 => gtI (13, 157) M73 (some 160) 41 fun x74 => if x74 = 0 then (gtI (13, 157) M73 (some 160) 36 fun x75 => jn (fun (s76 : Int32) => vC (13, 157) M73 (some 160) <| cI (runX d 193 [va_rf (some 160), .int s76] M73) fun x78 M77 => if x78 = 0 then (j206 ((0 : Int32), M77)) else (gtI (13, 157) M77 (some 160) 40 fun x79 => jn (fun (s80 : Int32) => vC (13, 157) M77 (some 160) <| cI (runX d 194 [va_rf (some 160), .int s80, .int ((5 : Int32))] M77) fun x82 M81 => if x82 = 0 then (j206 ((0 : Int32), M81)) else (gtI (13, 157) M81 (some 160) 40 fun x83 => vC (13, 157) M81 (some 160) <| cV (runX d 191 [va_rf (some 160)] M81) fun M84 => j206 (x83, M84))) fun j189 => if x79 ≤ 0 then (j189 ((0 : Int32))) else (j189 ((1 : Int32))))) fun j170 => if x75 = ((2 : Int32)) then (j170 ((1 : Int32))) else (j170 ((0 : Int32)))) else (j206 ((0 : Int32), M73))) else (j206 ((0 : Int32), M))) else (j206 ((0 : Int32), M))) Q := by
  obtain ⟨F2, f41, fr1, fr2, fr3⟩ := h.n41
  refine rsr (gtI_q (rk_160 h.1.1) f41) ?_
  refine rsr (jn_v) ?_
  have none_ : ¬ (t.2.1 = 0 ∧ kd t.1 = 212) → Rs xL (jv F ((0 : Int32), M)) Q := fun c => by
    refine rsr (jv_e) ?_
    rw [show ((0 : Int32), M) = (iI 0, M) from by rw [← li_0]]
    refine hf M 0 ?_ (fun _ => (show vR kd tx t = 0 from if_neg c).symm)
    rw [show tR kd pl tx t = t from if_neg c]; exact h
  by_cases c0_ : t.2.1 = 0
  ·
    obtain ⟨hr0, hm0, hi0⟩ := h.sr c0_
    refine rsr (if_pos (eqI_p rfl li_0 (fr3.2 c0_))) ?_
    refine rsr (gtI_q (rk_160 h.1.1) hr0.1) ?_
    by_cases ck : kd t.1 = 212
    ·
      have eR : tR kd pl tx t = tM kd pl tx 1 999999999 (t.1 + 1, 0, 0) := if_pos ⟨c0_, ck⟩
      have eV : vR kd tx t = nb tx (t.1 + 1) := if_pos ⟨c0_, ck⟩
      rw [eR, eV] at hf
      refine rsr (if_pos (krI_p (k := 212) rfl li_413 ck (by decide +kernel))) ?_
      refine rsr (vC_e (rk_160 h.1.1)) ?_
      refine RrV (q191 (by omega) hS h.1 h.2.2.2.2.1 hb3 (fun _ => by omega)) fun v M2 p2 => ?_
      have g := h.rp p2 tA_s
      rw [show tA t = (t.1 + 1, 0, 0) from if_pos c0_] at g
      obtain ⟨hrA, hmA, hiA⟩ := g.sr rfl
      refine rsr (cV_e rfl) ?_
      refine rsr (gtI_q (rk_160 g.1.1) hrA.2.2.2.1) ?_
      refine rsr (if_pos (eqI_p rfl li_0 rfl)) ?_
      refine rsr (gtI_q (rk_160 g.1.1) hrA.1) ?_
      refine rsr (jn_v) ?_
      by_cases k4 : kd (t.1 + 1) = 4
      ·
        refine rsr (if_pos (krI_p (k := 4) rfl li_2 k4 (by decide +kernel))) ?_
        refine rsr (jv_e) ?_
        refine rsr (vC_e (rk_160 g.1.1)) ?_
        refine rsr (cI_e (ar193_p (by omega) hS g.1.1 hrA.1 hrA.2.1 hrA.2.2.2.1 li_1 ⟨hiA.1, hiA.2, by dsimp only; omega, rfl⟩)) ?_
        refine rsr (if_neg (eqI_n (x := 1) (y := 0) rfl li_0 (by omega))) ?_
        have n40 : (_ : Mem).1 160 40 = iI (nb tx (t.1 + 1)) := (hrA.2.2.2.2.2.2.2.2.2 k4).trans nb_e
        have nbr := nb_r hS ⟨hiA.1, hiA.2, k4⟩
        dsimp only at nbr
        refine rsr (gtI_q (rk_160 g.1.1) n40) ?_
        refine rsr (jn_v) ?_
        by_cases cR : nb tx (t.1 + 1) ≤ 0
        ·
          refine rsr (if_pos (leI_p rfl li_0 (by omega))) ?_
          refine rsr (jv_e) ?_
          refine rsr (vC_e (rk_160 g.1.1)) ?_
          obtain ⟨Mq, q1, q2⟩ := q194n (d := d) (b := b) (f := 5) (by omega) hS g.1.1 hrA hmA he hiA li_0 li_5 (by omega)
          refine rsr (cI_e q1) ?_
          refine rsr (if_pos (eqI_p rfl li_0 rfl)) ?_
          refine rsr (jv_e) ?_
          have hq := g.rp q2 (fun _ => rfl)
          have eM : tM kd pl tx 1 999999999 (t.1 + 1, 0, 0) = (t.1 + 1, 5, pl (t.1 + 1)) := (if_pos ⟨rfl, k4⟩).trans (if_neg (by dsimp only; omega))
          rw [eM] at hf
          rw [show ((0 : Int32), Mq) = (iI 0, Mq) from by rw [← li_0]]
          exact hf _ 0 hq (fun zz => absurd zz (by dsimp only; omega))
        ·
          refine rsr (if_neg (leI_n rfl li_0 (by omega))) ?_
          refine rsr (jv_e) ?_
          refine rsr (vC_e (rk_160 g.1.1)) ?_
          refine rsr (cI_e (ar194_p (by omega) hS g.1.1 hrA.1 hrA.2.1 hrA.2.2.2.1 li_1 li_5 ⟨hiA.1, hiA.2, rfl⟩)) ?_
          refine rsr (if_neg (eqI_n (x := 1) (y := 0) rfl li_0 (by omega))) ?_
          refine rsr (gtI_q (rk_160 g.1.1) n40) ?_
          refine rsr (vC_e (rk_160 g.1.1)) ?_
          refine RrV (q191 (by omega) hS g.1 g.2.2.2.2.1 hb3 (fun _ => by dsimp only; omega)) fun v M3 p3 => ?_
          have g3 := g.rp p3 tA_s
          refine rsr (cV_e rfl) ?_
          refine rsr (jv_e) ?_
          have eM : tM kd pl tx 1 999999999 (t.1 + 1, 0, 0) = tA (t.1 + 1, 0, 0) := ((if_pos ⟨rfl, k4⟩).trans (if_pos (by dsimp only; omega))).trans (if_pos rfl : tA (t.1 + 1, 0, 0) = _).symm
          rw [eM] at hf
          exact hf _ _ g3 (fun _ => rfl)
      ·
        refine rsr (if_neg (krI_n (k := 4) rfl li_2 (hS.ok (t.1 + 1) hiA.1 hiA.2) (by unfold KdOK; omega) (by decide +kernel) k4 (by omega))) ?_
        refine rsr (jv_e) ?_
        refine rsr (vC_e (rk_160 g.1.1)) ?_
        obtain ⟨Mq, q1, q2⟩ := q193n (d := d) (b := b) (by omega) hS g.1.1 hrA hmA he hiA li_0
        refine rsr (cI_e q1) ?_
        refine rsr (if_pos (eqI_p rfl li_0 rfl)) ?_
        refine rsr (jv_e) ?_
        have hq := g.rp q2 (fun _ => rfl)
        have eM : tM kd pl tx 1 999999999 (t.1 + 1, 0, 0) = (t.1 + 1, if kd (t.1 + 1) = 1 then 1 else 2, pl (t.1 + 1)) := (if_neg fun z => k4 z.2).trans (if_pos rfl)
        rw [eM] at hf
        rw [show ((0 : Int32), Mq) = (iI 0, Mq) from by rw [← li_0]]
        exact hf _ 0 hq (fun zz => absurd zz (by dsimp only; split <;> omega))
    ·
      refine rsr (if_neg (krI_n (k := 212) rfl li_413 (hS.ok t.1 hi0.1 hi0.2) (by unfold KdOK; omega) (by decide +kernel) ck (by omega))) ?_
      exact none_ fun z => ck z.2
  ·
    refine rsr (if_neg (eqI_n rfl li_0 (by omega))) ?_
    exact none_ fun z => c0_ z.1
/-- the reference: with, or none -/
theorem withs225 {xL : XA} {Q : Value → Mem → Value → Mem → Prop} {F : Mem → XA} {s24 x21 : Int32} {s27 : Int32 × Mem} (hd : 8 ≤ d) (hS : TkS T n m kd pl E tx) (h : RQ T n b m kd pl E tx M0 M1 p ut cnt e s u dp M R0 t) (hw : WRr R R0 c0 0 ut r y X) (h4 : R0.1 3 4 c0 = 0) (hc0 : 0 ≤ c0 ∧ c0 < 16) (hv1 : v1 = iI p) (hp : 0 ≤ p ∧ p ≤ 7) (he : 0 ≤ e ∧ e ≤ b) (hb3 : b ≤ 3000) (hm14 : m ≤ 1400) (hr : s27.1 = iI r) (hy : s24 = iI y) (hyb : 0 ≤ y ∧ y ≤ 1) (hx : x21 = iI c0) (hj : ∀ M2 R2 k t5 V, wX kd pl tx c0 t k t5 V → RQ T n b m kd pl E tx M0 M1 p ut cnt e s u dp M2 R2 t5 → (0 ≤ R2.1 3 0 0 ∧ R2.1 3 0 0 ≤ 16) → (t5.2.1 = 0 → WRr R R2 c0 k ut r y X ∧ ∀ j : Nat, j ≤ k → R2.1 3 4 (c0 + j) = V j) → Rs xL (F M2) Q) : Rs xL (gtI (13, 157) M (some 160) 41 fun x29 => jn F fun j395 => if x29 = 0 then (gtI (13, 157) M (some 160) 36 fun x43 => if x43 = ((414 : Int32)) then (lp (c225_240 (runX d) (some 160) v1 j395 s24 s27 X x21) 4294967296 ((0 : Int32), (1 : Int32), M)) else (j395 M)) else (j395 M)) Q := by
  obtain ⟨F2, f41, fr1, fr2, fr3⟩ := h.n41
  refine rsr (gtI_q (rk_160 h.1.1) f41) ?_
  refine rsr (jn_v) ?_
  have none_ : ¬ (t.2.1 = 0 ∧ kd t.1 = 213) → Rs xL (jv F M) Q := fun c => by
    refine rsr (jv_e) ?_
    have c3 := hw.1
    refine hj M R0 0 t (fun _ => 0) (Or.inr ⟨c, rfl, rfl, rfl⟩) h (by omega) (fun z => ⟨hw, fun j q => ?_⟩)
    rw [show j = 0 by omega, show c0 + ((0 : Nat) : Int) = c0 by omega]; exact h4
  by_cases c0_ : t.2.1 = 0
  · obtain ⟨hr0, hm0, hi0⟩ := h.sr c0_
    refine rsr (if_pos (eqI_p rfl li_0 (fr3.2 c0_))) ?_
    refine rsr (gtI_q (rk_160 h.1.1) hr0.1) ?_
    by_cases ck : kd t.1 = 213
    · refine rsr (if_pos (krI_p (k := 213) rfl li_414 ck (by decide +kernel))) ?_
      refine with225 hd hS h c0_ ck hw hc0 hv1 hp he hb3 hm14 hr hy hyb hx (fun M2 R2 k q1 q2 q3 q4 => ?_)
      refine rsr (jv_e) ?_
      exact hj M2 R2 k _ _ (Or.inl ⟨c0_, ck, q1, rfl, rfl⟩) q2 q3 q4
    · refine rsr (if_neg (krI_n (k := 213) rfl li_414 (hS.ok t.1 hi0.1 hi0.2) (by unfold KdOK; omega) (by decide +kernel) ck (by omega))) ?_
      exact none_ fun z => ck z.2
  · refine rsr (if_neg (eqI_n rfl li_0 (by omega))) ?_
    exact none_ fun z => c0_ z.1
/-- the reference: the code of each CASE -/
theorem ents225 {x35 x21 : Int32} {j451 : Mem → XA} {Q : Value → Mem → Prop} (h : RQ T n b m kd pl E tx M0 M1 p ut cnt e s u dp M R t) (hv1 : v1 = iI p) (hp : 0 ≤ p ∧ p ≤ 7) (hx : x35 = iI z) (hx21 : x21 = iI c0) (hc0 : 0 ≤ c0 ∧ c0 ≤ 16) (hn : 0 ≤ R.1 3 0 0 ∧ R.1 3 0 0 ≤ 16) (hj : ∀ M2 R2, RQ T n b m kd pl E tx M0 M1 p ut cnt e s u dp M2 R2 t → Fr [(182, 9999)] M M2 → (∀ k f j, ¬ (k = 3 ∧ f = 5 ∧ c0 ≤ j) → R2.1 k f j = R.1 k f j) → R2.2 = R.2 → (∀ j, c0 ≤ j → j < R.1 3 0 0 → R2.1 3 5 j = z) → Rt (j451 M2) Q) : Rt (lp (c225_420 (runX d) (some 160) v1 j451 x35) 4294967296 (x21, M)) Q := by
  refine Rt.lp (fun mm q => ∃ (j : Int) (R2 : RG), q.1 = iI j ∧ RQ T n b m kd pl E tx M0 M1 p ut cnt e s u dp q.2 R2 t ∧ Fr [(182, 9999)] M q.2 ∧ (∀ k f i, ¬ (k = 3 ∧ f = 5 ∧ c0 ≤ i) → R2.1 k f i = R.1 k f i) ∧ R2.2 = R.2 ∧ (∀ i, c0 ≤ i → i < j → R2.1 3 5 i = z) ∧ c0 ≤ j ∧ (c0 < j → j ≤ 16) ∧ (mm = (16 - j).toNat)) (fun mm q go hq hgo => ?_) (16 - c0).toNat _ _ (by omega) ⟨c0, R, hx21, h, Fr.r, fun _ _ _ _ => rfl, rfl, fun i _ _ => by omega, Int.le_refl _, by omega, rfl⟩
  obtain ⟨q1, M3⟩ := q
  obtain ⟨j, R2, e1, g, gf, g2, g3, g4, g5, g6, g7⟩ := hq
  dsimp only at e1 g gf
  unfold c225_420
  dsimp only
  have eN : R2.1 3 0 0 = R.1 3 0 0 := g2 3 0 0 (by omega)
  refine rs1 (gtP_q (w := some 176) (rk_160 g.1.1) (rf_17 g.1.1)) ?_
  refine rs1 (alI_q (n := 8) (z := p) (w := iI (R2.1 3 0 0)) (rk_176 g.1.1) hv1 (by omega) (g.2.2.2.1.1.gi (st := 1) (by decide) ⟨by omega, by omega⟩ (by omega))) ?_
  by_cases c : R2.1 3 0 0 ≤ j
  · refine rs1 (if_pos (leI_p rfl e1 (by omega))) ?_
    exact hj M3 R2 g gf g2 g3 fun i w1 w2 => g4 i w1 (by omega)
  · refine rs1 (if_neg (leI_n rfl e1 (by omega))) ?_
    refine rs1 (gtP_q (w := some 182) (rk_160 g.1.1) (rf_23 g.1.1)) ?_
    refine rs1 (asI_q (u := 100) (n := 128) (z := 16 * p + j) (y := z) (rk_182 g.1.1) (adI (mlI li_16 hv1) e1) (by omega) hx) ?_
    have h2 := g.si (cc := 182) (st := 16) (k := 3) (f := 5) (j0 := j) (v := z) (i := 16 * p + j) hp.1 (by decide) (by omega) (by omega)
    refine rs1 (ltI_q (z := j + 1) (cvI (adI e1 li_1) (by omega))) ?_
    refine hgo (16 - (j + 1)).toNat _ (by omega) ⟨j + 1, _, rfl, h2, Fr.t gf frone, fun k f i w => (rsF_n (by omega)).trans (g2 k f i w), g3, fun i w1 w2 => ?_, by omega, by omega, rfl⟩
    by_cases w : i = j
    · rw [w]; exact rsF_p
    · exact (rsF_n (by omega)).trans (g4 i w1 (by omega))
end S65
