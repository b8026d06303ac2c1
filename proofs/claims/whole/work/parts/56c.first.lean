/-! members: properties, start, before, after; the first object's side -/
def sA (H : HG) (s : Nat) (j i v : Int) : HG := (hOw H, hCL H, hEC H, hEN H, hEF H, hEX H, hUA H, fun s' j' i' => if s' = s ∧ j' = j ∧ (i' : Int) = i then v else hAV H s' j' i')
def tU (pl : Int → Int) (full : Int) (t : TS) : TS := if full = 0 then (t.1 + 1, 0, 0) else (t.1, 6, pl t.1)
section S56c
variable {d : Nat} {T : Int → Int} {n m b a e s uc i f K c lo ki r v j : Int} {kd pl E : Int → Int} {tx : Int → Int64} {N TT ex : Nat} {M0 M1 M M2 : Mem} {H H2 : HG} {t t2 : TS} {v0 v1 v2 : Int32} {L : Int → Int64} {k : Nat} {W : List (Nat × Nat)}
theorem sF_n {k' f f' : Nat} {j' : Int} (h : ¬ (k' = k ∧ f' = f ∧ j' = j)) : hEF (sF H k f j v) k' f' j' = hEF H k' f' j' := if_neg h
theorem sF_p {f : Nat} : hEF (sF H k f j v) k f j = v := if_pos ⟨rfl, rfl, rfl⟩
theorem HS.setu {f : Nat} (h : HS N TT ex M H) (h3 : 0 ≤ j) (h4 : j < hEN H 1) (hf : 1 ≤ f ∧ f ≤ 9 ∧ f ≠ 6 ∧ f ≠ 8) : HS N TT ex (sI M (hEC H 1 j) f (iI v)) (sF H 1 f j v) ∧ FN N W M (sI M (hEC H 1 j) f (iI v)) := by
  obtain ⟨⟨c1, c2, c3⟩, c4, c5, c6⟩ := h.2.2.2 j h3 h4
  refine h.one (Fo.sI rfl) (by omega) (by omega) h3 h4 ⟨rfl, rfl, rfl, rfl, rfl, rfl⟩ (fun k' f' j' y => if_neg fun w => y ⟨w.1, w.2.2⟩) (fun _ _ _ => rfl) (fun y => absurd rfl y) (fun _ => ?_)
  refine ⟨⟨c1, c2, c3⟩, fun g u w w2 w3 => ?_, c5, fun s p => ⟨(c6 s p).1, fun i q => ?_⟩⟩
  · show (sI M (hEC H 1 j) f (iI v)).1 (hEC H 1 j) g = iI (if 1 = 1 ∧ g = f ∧ j = j then v else hEF H 1 g j)
    by_cases y : g = f
    · rw [if_pos ⟨rfl, y, rfl⟩, y]; exact sI_eq
    · rw [if_neg fun z => y z.2.1]; exact (sI_nej y).trans (c4 g u w w2 w3)
  · obtain ⟨⟨d1, d2, d3, d4⟩, d5⟩ := c6 s p
    refine (sI_ne fun z => ?_).trans (d5 i q)
    have z' : hUA H s j = hEC H 1 j := z
    rw [z', c1] at d2
    cases d2
/-- a number in an array of a unit -/
theorem HS.seta {s : Nat} {i : Int} (h : HS N TT ex M H) (h3 : 0 ≤ j) (h4 : j < hEN H 1) (hs : s < 2) (hi : 0 ≤ i ∧ i < 3) : M.2.2.2[hUA H s j]? = some (100, 3) ∧ HS N TT ex (sI M (hUA H s j) i.toNat (iI v)) (sA H s j i v) ∧ FN N W M (sI M (hUA H s j) i.toNat (iI v)) := by
  obtain ⟨-, -, -, c6⟩ := h.2.2.2 j h3 h4
  obtain ⟨⟨d1, d2, d3, d4⟩, d5⟩ := c6 s hs
  have en := h.n109 (k := 1) (by omega) (by omega)
  have hx : N ≤ hUA H s j := h.ge (by omega)
  have g : Fo (fun a => a = hUA H s j) 0 0 M (sI M (hUA H s j) i.toNat (iI v)) := Fo.sI rfl
  refine ⟨d2, ?_, FN.of h.1.1 g (fun a _ z => by rw [z]; exact hx)⟩
  refine ⟨h.1, fun k' q1 q2 => (h.2.1 k' q1 q2).fo g (fun a _ z => by rw [z]; show ¬ hOw H (hUA H s j) = _; omega) (fun _ _ => rfl), fun k' q1 q2 i' r1 r2 => ?_, fun j' r1 r2 => ?_⟩
  · obtain ⟨⟨e1, e2, e3⟩, e4, e5⟩ := h.2.2.1 k' q1 q2 i' r1 r2
    have e6 := h.n109 (k := k') (by omega) q2
    have hne : hEC H k' i' ≠ hUA H s j := fun z => by rw [z, d3] at e2; have r2' : i' < hEN H k' := r2; omega
    exact ⟨⟨e1, e2, e3⟩, fun f u w => (sI_ne hne).trans (e4 f u w), e5⟩
  · obtain ⟨⟨e1, e2, e3⟩, e4, e5, e6⟩ := h.2.2.2 j' r1 r2
    have r2' : j' < hEN H 1 := r2
    have hne : hEC H 1 j' ≠ hUA H s j := fun z => by rw [z, d3] at e2; omega
    refine ⟨⟨e1, e2, e3⟩, fun f u w w2 w3 => (sI_ne hne).trans (e4 f u w w2 w3), e5, fun s' p => ⟨(e6 s' p).1, fun i' q => ?_⟩⟩
    obtain ⟨⟨f1, f2, f3, f4⟩, f5⟩ := e6 s' p
    show (sI M (hUA H s j) i.toNat (iI v)).1 (hUA H s' j') i' = iI (if s' = s ∧ j' = j ∧ (i' : Int) = i then v else hAV H s' j' i')
    by_cases y : s' = s ∧ j' = j
    · obtain ⟨y1, y2⟩ := y
      subst y1; subst y2
      by_cases y3 : (i' : Int) = i
      · rw [if_pos ⟨rfl, rfl, y3⟩]; exact sI_eqj (by omega)
      · rw [if_neg fun z => y3 z.2.2]; exact (sI_nej (by omega)).trans (f5 i' q)
    · rw [if_neg fun z => y ⟨z.1, z.2.1⟩]
      refine (sI_ne fun z => y ?_).trans (f5 i' q)
      rw [z, d3] at f3
      exact ⟨by omega, by omega⟩
/-- start, before, after -/
theorem mc83 (hd : 2 ≤ d) (hS : TkS T n m kd pl E tx) (h : CQ m kd pl tx N TT ex M0 M1 e s uc M H t) (h0 : t.2.1 = 0) (hB : CB m e s uc) (hk : kd t.1 = 206 ∨ kd t.1 = 208 ∨ kd t.1 = 209) {ut : Int} (hu : 0 ≤ ut ∧ ut < hEN H 1) (h5 : -2 ≤ hEF H 1 5 ut ∧ hEF H 1 5 ut ≤ 4000) (h7 : 0 ≤ hEF H 1 7 ut ∧ hEF H 1 7 ut ≤ 3) (h9 : 0 ≤ hEF H 1 9 ut ∧ hEF H 1 9 ut ≤ 3) : Rt (runX d 83 [va_rf (some 65), va_rf (some (hEC H 1 ut))] M) (fun _ M2 => (kd t.1 = 206 ∧ ((0 ≤ hEF H 1 5 ut ∧ CQ m kd pl tx N TT ex M0 M1 e s uc M2 H (t.1, 6, pl t.1)) ∨ (hEF H 1 5 ut < 0 ∧ CQ m kd pl tx N TT ex M0 M1 e s uc M2 (sF H 1 5 ut e) (t.1 + 1, 0, 0)))) ∨ (kd t.1 = 208 ∧ ((3 ≤ hEF H 1 7 ut ∧ CQ m kd pl tx N TT ex M0 M1 e s uc M2 H (t.1, 6, pl t.1)) ∨ (hEF H 1 7 ut < 3 ∧ CQ m kd pl tx N TT ex M0 M1 e s uc M2 (sF (sA H 0 ut (hEF H 1 7 ut) e) 1 7 ut (hEF H 1 7 ut + 1)) (t.1 + 1, 0, 0)))) ∨ (kd t.1 = 209 ∧ ((3 ≤ hEF H 1 9 ut ∧ CQ m kd pl tx N TT ex M0 M1 e s uc M2 H (t.1, 6, pl t.1)) ∨ (hEF H 1 9 ut < 3 ∧ CQ m kd pl tx N TT ex M0 M1 e s uc M2 (sF (sA H 1 ut (hEF H 1 9 ut) e) 1 9 ut (hEF H 1 9 ut + 1)) (t.1 + 1, 0, 0))))) := by
  obtain ⟨d, rfl⟩ : ∃ e, d = e + 1 := ⟨d - 1, by omega⟩
  obtain ⟨hc, hi⟩ := h.sc h0
  have hm := hS.more t.1 (by omega) (by omega) (by omega)
  have hs := h.2.2.2.1
  obtain ⟨⟨u1, u2, u3⟩, u4, u5, u6⟩ := hs.2.2.2 ut hu.1 hu.2
  have hB' := hB
  unfold CB at hB'
  have adv : ∀ {Q : Value → Mem → Prop} {k : Mem → XA}, (∀ M3, CQ m kd pl tx N TT ex M0 M1 e s uc M3 H (t.1 + 1, 0, 0) → Fr W_66 M M3 → Rt (k M3) Q) → Rt (cV (runX d 63 [va_rf (some 65)] M) k) Q := fun {Q k} z => by
    refine Rc_V (cq63 (by omega) hS h.1.1 h.1.2 h.2.2.2.2 (fun _ => hm)) fun v M3 p => ?_
    have g := h.cp p tA_s
    rw [show tA t = (t.1 + 1, 0, 0) from if_pos h0] at g p
    refine rs1 (cV_e rfl) ?_
    exact z M3 g (p.2.2 rfl)
  have stp : ∀ {Q : Value → Mem → Prop} {w : Int32}, w = iI 6 → (∀ M3, CQ m kd pl tx N TT ex M0 M1 e s uc M3 H (t.1, 6, pl t.1) → Q .null M3) → Rt (cV (runX d 62 [va_rf (some 65), .int w] M) fun M19 => some (.null, M19)) Q := fun {Q w} hw z => by
    refine Rc_V (cq62 (f := 6) (by omega) hS h.1.1 h.1.2 h.2.2.2.2 hB hw (by omega)) fun v M3 p => ?_
    have g := h.cp p tX_s
    rw [show tX kd pl 6 t = (t.1, 6, pl t.1) from (if_pos h0).trans (by rw [if_neg (by omega)])] at g
    exact Rt.ok (z M3 g)
  rw [r83]; unfold b83; rw [aR_e, aR_e, aZ_e]; unfold c83
  refine rs1 (gtI_q (ck_65 h.1.1) hc.2.1) ?_
  refine rs1 (jn_v) ?_
  by_cases k6 : kd t.1 = 206
  · refine rs1 (if_pos (eqI_p rfl li_206 k6)) ?_
    refine rs1 (gtI_q u1 (u4 5 (by omega) (by omega) (by omega) (by omega))) ?_
    by_cases c : hEF H 1 5 ut < 0
    · refine rs1 (if_pos (lsI_p rfl li_0 (by omega))) ?_
      refine rs1 (jv_e) ?_
      refine rs1 (if_pos (eqI_p li_0 li_0 rfl)) ?_
      refine rs1 (vC_e (ck_65 h.1.1)) ?_
      refine adv fun M3 g f => ?_
      refine rs1 (jn_v) ?_
      refine rs1 (if_pos (eqI_p rfl li_206 k6)) ?_
      obtain ⟨gc, gi⟩ := g.sc rfl
      refine rs1 (gtI_q (ck_65 g.1.1) gc.2.2.2.1) ?_
      refine rs1 (ptI_q (z := e) (g.2.2.2.1.2.2.2 ut hu.1 hu.2).1.1 rfl) ?_
      refine rs1 (jv_e) ?_
      exact Rt.ok (Or.inl ⟨k6, Or.inr ⟨c, g.put (g.2.2.2.1.setu hu.1 hu.2 (by omega))⟩⟩)
    · refine rs1 (if_neg (lsI_n rfl li_0 (by omega))) ?_
      refine rs1 (jv_e) ?_
      refine rs1 (if_neg (eqI_n li_1 li_0 (by omega))) ?_
      refine rs1 (vC_e (ck_65 h.1.1)) ?_
      exact stp li_6 fun M3 g => Or.inl ⟨k6, Or.inl ⟨by omega, g⟩⟩
  · refine rs1 (if_neg (eqI_n rfl li_206 (by omega))) ?_
    by_cases k8 : kd t.1 = 208
    · refine rs1 (if_pos (eqI_p rfl li_208 k8)) ?_
      refine rs1 (gtI_q u1 (u4 7 (by omega) (by omega) (by omega) (by omega))) ?_
      by_cases c : hEF H 1 7 ut < 3
      · refine rs1 (if_pos (lsI_p rfl li_3 (by omega))) ?_
        refine rs1 (jv_e) ?_
        refine rs1 (if_pos (eqI_p li_0 li_0 rfl)) ?_
        refine rs1 (vC_e (ck_65 h.1.1)) ?_
        refine adv fun M3 g f => ?_
        refine rs1 (jn_v) ?_
        refine rs1 (if_neg (eqI_n rfl li_206 (by omega))) ?_
        refine rs1 (if_pos (eqI_p rfl li_208 k8)) ?_
        obtain ⟨gc, gi⟩ := g.sc rfl
        obtain ⟨⟨a1, a2, a3⟩, a4, a5, a6⟩ := g.2.2.2.1.2.2.2 ut hu.1 hu.2
        refine rs1 (gtP_q a1 (a6 0 (by omega)).1.1) ?_
        refine rs1 (gtI_q a1 (a4 7 (by omega) (by omega) (by omega) (by omega))) ?_
        refine rs1 (gtI_q (ck_65 g.1.1) gc.2.2.2.1) ?_
        obtain ⟨ka, qa, fa⟩ := g.2.2.2.1.seta (W := []) (j := ut) (s := 0) (i := hEF H 1 7 ut) (v := e) hu.1 hu.2 (by omega) ⟨h7.1, c⟩
        refine rs1 (asI_q (z := hEF H 1 7 ut) ka rfl (by omega) rfl) ?_
        have g2 := g.put ⟨qa, fa⟩
        obtain ⟨⟨b1, b2, b3⟩, b4, b5, b6⟩ := g2.2.2.2.1.2.2.2 ut hu.1 hu.2
        refine rs1 (gtI_q b1 (b4 7 (by omega) (by omega) (by omega) (by omega))) ?_
        refine rs1 (ptI_q (z := hEF H 1 7 ut + 1) b1 (adI rfl li_1)) ?_
        refine rs1 (jv_e) ?_
        exact Rt.ok (Or.inr (Or.inl ⟨k8, Or.inr ⟨c, g2.put (g2.2.2.2.1.setu hu.1 hu.2 (by omega))⟩⟩))
      · refine rs1 (if_neg (lsI_n rfl li_3 (by omega))) ?_
        refine rs1 (jv_e) ?_
        refine rs1 (if_neg (eqI_n li_1 li_0 (by omega))) ?_
        refine rs1 (vC_e (ck_65 h.1.1)) ?_
        exact stp li_6 fun M3 g => Or.inr (Or.inl ⟨k8, Or.inl ⟨by omega, g⟩⟩)
    · have k9 : kd t.1 = 209 := by omega
      refine rs1 (if_neg (eqI_n rfl li_208 (by omega))) ?_
      refine rs1 (gtI_q u1 (u4 9 (by omega) (by omega) (by omega) (by omega))) ?_
      by_cases c : hEF H 1 9 ut < 3
      · refine rs1 (if_pos (lsI_p rfl li_3 (by omega))) ?_
        refine rs1 (jv_e) ?_
        refine rs1 (if_pos (eqI_p li_0 li_0 rfl)) ?_
        refine rs1 (vC_e (ck_65 h.1.1)) ?_
        refine adv fun M3 g f => ?_
        refine rs1 (jn_v) ?_
        refine rs1 (if_neg (eqI_n rfl li_206 (by omega))) ?_
        refine rs1 (if_neg (eqI_n rfl li_208 (by omega))) ?_
        obtain ⟨gc, gi⟩ := g.sc rfl
        obtain ⟨⟨a1, a2, a3⟩, a4, a5, a6⟩ := g.2.2.2.1.2.2.2 ut hu.1 hu.2
        refine rs1 (gtP_q a1 (a6 1 (by omega)).1.1) ?_
        refine rs1 (gtI_q a1 (a4 9 (by omega) (by omega) (by omega) (by omega))) ?_
        refine rs1 (gtI_q (ck_65 g.1.1) gc.2.2.2.1) ?_
        obtain ⟨ka, qa, fa⟩ := g.2.2.2.1.seta (W := []) (j := ut) (s := 1) (i := hEF H 1 9 ut) (v := e) hu.1 hu.2 (by omega) ⟨h9.1, c⟩
        refine rs1 (asI_q (z := hEF H 1 9 ut) ka rfl (by omega) rfl) ?_
        have g2 := g.put ⟨qa, fa⟩
        obtain ⟨⟨b1, b2, b3⟩, b4, b5, b6⟩ := g2.2.2.2.1.2.2.2 ut hu.1 hu.2
        refine rs1 (gtI_q b1 (b4 9 (by omega) (by omega) (by omega) (by omega))) ?_
        refine rs1 (ptI_q (z := hEF H 1 9 ut + 1) b1 (adI rfl li_1)) ?_
        refine rs1 (jv_e) ?_
        exact Rt.ok (Or.inr (Or.inr ⟨k9, Or.inr ⟨c, g2.put (g2.2.2.2.1.setu hu.1 hu.2 (by omega))⟩⟩))
      · refine rs1 (if_neg (lsI_n rfl li_3 (by omega))) ?_
        refine rs1 (jv_e) ?_
        refine rs1 (if_neg (eqI_n li_1 li_0 (by omega))) ?_
        refine rs1 (vC_e (ck_65 h.1.1)) ?_
        exact stp li_6 fun M3 g => Or.inr (Or.inr ⟨k9, Or.inl ⟨by omega, g⟩⟩)
/-- a part that comes -/
theorem CQ.al (h : CQ m kd pl tx N TT ex M0 M1 e s uc M H t) (h1 : 1 ≤ k) (h2 : k ≤ 4) : CQ m kd pl tx N TT (ex + 1) M0 M1 e s uc (nw M 8 9) (wOw H (owx (hOw H) (ln M) (1000 * k + hEN H k))) t ∧ PD (nw M 8 9) (wOw H (owx (hOw H) (ln M) (1000 * k + hEN H k))) k (ln M) (hEN H k) (fun _ => 0) 0 := by
  obtain ⟨q1, q2, q3⟩ := h.2.2.2.1.alloc (W := []) h1 h2 (Nat.le_trans h.nn.1 h.nn.2)
  exact ⟨h.put ⟨q1, q3⟩, q2⟩
theorem CQ.pe {x : Nat} {F : Nat → Int} {X : Int64} (h : CQ m kd pl tx N TT ex M0 M1 e s uc M H t) (p : PD M H k x (hEN H k) F X) (h1 : 1 ≤ k) (h2 : k ≤ 4) (f : Fo (fun a => a = x) 0 0 M M2) : CQ m kd pl tx N TT ex M0 M1 e s uc M2 H t := h.put (h.2.2.2.1.pend (W := []) p h1 h2 f)
theorem mc86 (hd : 11 ≤ d) (hS : TkS T n m kd pl E tx) (h : CQ m kd pl tx N TT ex M0 M1 e 0 uc M H t) (h0 : t.2.1 = 0) (hB : CB m e 0 uc) (hk : kd t.1 = 214) (hu : 1 ≤ hEN H 1) (hn : 0 ≤ hEN H 4 ∧ hEN H 4 < 100) : Rt (runX d 86 [va_rf (some 65)] M) (fun _ M2 => ∃ x r b ow z1 z2 Q, TdA H (hEN H 1 - 1) (tx (t.1 + 1)) r ∧ ((b = 0 ∧ hEN H 4 < 6) ∨ (b = 1 ∧ 6 ≤ hEN H 4)) ∧ Q = tPar kd pl tx 6 (tE kd pl 40 (tN kd pl r b (t.1 + 1, 0, 0))) 0 L ∧ ((tE kd pl 41 Q.1).2.1 = 0 → z1 = Q.2.1 ∧ z2 = e ∧ LA 76 M2 Q.2.2 Q.2.1 ∧ 1 ≤ Q.2.1 ∧ Q.2.1 ≤ 4) ∧ CQ m kd pl tx N TT ex M0 M1 e Q.2.1 uc M2 (sF (sF (aP H ow 4 x (fun f => if f = 1 then hEN H 1 - 1 else if f = 2 then 6 else if f = 5 then -2 else 0) (tx (t.1 + 1))) 4 4 (hEN H 4) z1) 4 5 (hEN H 4) z2) (tE kd pl 41 Q.1)) := by
  obtain ⟨d, rfl⟩ : ∃ e, d = e + 1 := ⟨d - 1, by omega⟩
  obtain ⟨hc, hi⟩ := h.sc h0
  have hm := hS.more t.1 (by omega) (by omega) (by omega)
  have hBs : ∀ s, 0 ≤ s ∧ s ≤ 4 → CB m e s uc := fun s hs => by unfold CB at hB ⊢; omega
  rw [r86]; unfold b86; rw [aR_e, aZ_e]; unfold c86
  refine rs1 (vC_e (ck_65 h.1.1)) ?_
  refine Rc_V (cq63 (by omega) hS h.1.1 h.1.2 h.2.2.2.2 (fun _ => hm)) fun v M3 p => ?_
  have g := h.cp p tA_s
  rw [show tA t = (t.1 + 1, 0, 0) from if_pos h0] at g
  refine rs1 (cV_e rfl) ?_
  refine rs1 (nO_e) ?_
  obtain ⟨g4, p4⟩ := g.al (k := 4) (by omega) (by omega)
  obtain ⟨o, ho⟩ : ∃ z, z = owx (hOw H) (ln M3) (1000 * (4 : Nat) + hEN H 4) := ⟨_, rfl⟩
  rw [← ho] at g4 p4
  obtain ⟨M4, hM4⟩ : ∃ z, z = nw M3 8 9 := ⟨_, rfl⟩
  rw [← hM4] at g4 p4
  show Rt (vC (7, 20) (nw M3 8 9) (some 65) _) _
  rw [← hM4]
  refine rs1 (vC_e (ck_65 g4.1.1)) ?_
  obtain ⟨hc4, hi4⟩ := g4.sc rfl
  refine Rc_I (a73 (y := tx (t.1 + 1)) (by omega) g4.1.1 g4.2.2.2.1 (a65 (by omega) hS g4.1.1 g4.1.2 hc4.1 hc4.2.1 hc4.2.2.1 hi4)) fun v Ma ⟨r, hv, hMa, td⟩ => ?_
  subst hv
  rw [hMa]
  refine rs1 (cI_e rfl) ?_
  have hr := td.bd
  refine rs1 (gtP_q (ck_65 g4.1.1) (g4.2.2.2.1.1.2.2.1 4 (by omega) (by omega))) ?_
  refine rs1 (vC_e (g4.2.2.2.1.2.1 4 (by omega) (by omega)).1.2.1) ?_
  refine rs1 (cI_e (ls_size (by omega) (g4.2.2.2.1.2.1 4 (by omega) (by omega)))) ?_
  refine Rt.jn (fun w => ∃ b, w = iI b ∧ ((b = 0 ∧ hEN H 4 < 6) ∨ (b = 1 ∧ 6 ≤ hEN H 4))) (fun w hw => ?_) (fun j hj => ?_)
  · obtain ⟨b, hw, hb⟩ := hw
    have hb' : b = 0 ∨ b = 1 := by omega
    refine rs1 (vC_e (ck_65 g4.1.1)) ?_
    refine Rc_L (cq66 (by omega) hS g4.1.1 g4.1.2 g4.2.2.2.2 hB rfl hw hr hb') fun v M5 ⟨y5, hv5, hy5, q5⟩ => ?_
    subst hv5
    have ey := hy5 rfl
    dsimp only at ey
    subst ey
    refine rs1 (cL_e rfl) ?_
    have g5 := g4.cp q5 fun z => (tN_0 z).1
    have p5 := p4.fr q5.2.1 (by decide)
    refine rs1 (gtP_q (ck_65 g5.1.1) (g5.2.2.2.1.1.2.2.1 1 (by omega) (by omega))) ?_
    refine rs1 (vC_e (g5.2.2.2.1.2.1 1 (by omega) (by omega)).1.2.1) ?_
    refine rs1 (cI_e (ls_size (by omega) (g5.2.2.2.1.2.1 1 (by omega) (by omega)))) ?_
    refine rs1 (vC_e p5.1.1) ?_
    obtain ⟨M6, e6, p6, f6⟩ := p5.ctor (d := d) (Y := tx (t.1 + 1)) (u := hEN H 1 - 1) (b := 6) (by omega) (sbI rfl li_1) li_6
    refine rs1 (cV_e e6) ?_
    have g6 := g5.pe p5 (by omega) (by omega) f6
    refine rs1 (gtP_q (ck_65 g6.1.1) (g6.2.2.2.1.1.2.2.1 4 (by omega) (by omega))) ?_
    refine rs1 (vC_e (g6.2.2.2.1.2.1 4 (by omega) (by omega)).1.2.1) ?_
    obtain ⟨M7, e7, q7, f7⟩ := g6.2.2.2.1.addp (W := []) (d := d) (by omega) p6 (by omega) (by omega) hn.2
    refine rs1 (cI_e e7) ?_
    have g7 := g6.put ⟨q7, f7⟩
    obtain ⟨H7, hH7⟩ : ∃ z, z = aP H (owx (hOw (wOw H o)) (ln M6) 4) 4 (ln M3) (fun f => if f = 1 then hEN H 1 - 1 else if f = 2 then 6 else if f = 5 then -2 else 0) (tx (t.1 + 1)) := ⟨_, rfl⟩
    have g7' : CQ m kd pl tx N TT ex M0 M1 e 0 uc M7 H7 (tN kd pl r b (t.1 + 1, 0, 0)) := by rw [hH7]; exact g7
    clear g7
    have hj7 : 0 ≤ hEN H 4 ∧ hEN H 4 < hEN H7 4 := by rw [hH7]; exact aP_j hn.1
    have hx7 : hEC H7 4 (hEN H 4) = ln M3 := by rw [hH7]; exact aP_c
    refine rs1 (vC_e (ck_65 g7'.1.1)) ?_
    refine Rc_V (cq64 (K := 40) (by omega) hS g7'.1.1 g7'.1.2 g7'.2.2.2.2 hB li_40 (by omega)) fun v M8 q8 => ?_
    have g8 := g7'.cp q8 tE_s
    refine rs1 (cV_e rfl) ?_
    refine rs1 (vC_e (ck_65 g8.1.1)) ?_
    obtain ⟨t8, ht8⟩ : ∃ z, z = tE kd pl 40 (tN kd pl r b (t.1 + 1, 0, 0)) := ⟨_, rfl⟩
    rw [← ht8] at g8
    refine Rc_V (mc82 (L := L) (k := 6) (by omega) hS g8 (fun _ jj p1 p2 => absurd p2 (by omega)) hB (by omega) (by omega)) fun v M9 ⟨g9, gL⟩ => ?_
    obtain ⟨Q, hQ⟩ : ∃ Q, Q = tPar kd pl tx 6 t8 0 L := ⟨_, rfl⟩
    rw [← hQ] at g9 gL
    have tQ8 : Q.1.2.1 = 0 → t8.2.1 = 0 := fun z => by
      by_cases y : t8.2.1 = 0
      · exact y
      · rw [hQ, tPar_f (g8.pos y)] at z; exact z
    refine rs1 (cV_e rfl) ?_
    refine rs1 (vC_e (ck_65 g9.1.1)) ?_
    obtain ⟨s9, hs9, hs9'⟩ : ∃ s9 : Int, CQ m kd pl tx N TT ex M0 M1 e s9 uc M9 H7 Q.1 ∧ (0 ≤ s9 ∧ s9 ≤ 4 ∧ (Q.1.2.1 = 0 → s9 = Q.2.1)) := by
      by_cases z : Q.1.2.1 = 0
      · exact ⟨Q.2.1, g9, (gL z).2.1, (gL z).2.2.1, fun _ => rfl⟩
      · exact ⟨0, g9.s2 (g9.pos z), by omega, by omega, fun w => absurd w z⟩
    have hB9 := hBs s9 (by omega)
    refine Rc_V (cq64 (K := 41) (by omega) hS hs9.1.1 hs9.1.2 hs9.2.2.2.2 hB9 li_41 (by omega)) fun v M10 g10 => ?_
    have h5 := hs9.cp g10 tE_s
    refine rs1 (cV_e rfl) ?_
    obtain ⟨s5, e5, k5, m16, m9, m13, mb1, mb2, mok, mft⟩ := h5.2.2.2.2.nm hB9
    refine rs1 (gtI_q (ck_65 h5.1.1) m16) ?_
    obtain ⟨kx, h6⟩ := h5.set (k := 4) (f := 4) (z := s5) (by omega) (by omega) (by omega) hj7 hx7
    refine rs1 (ptI_q (z := s5) kx rfl) ?_
    have x65 : (65 : Nat) ≠ ln M3 := fun w => by rw [← w, ck_65 h5.1.1] at kx; cases kx
    refine rs1 (gtI_q (ck_65 h6.1.1) ((sI_ne x65).trans m9)) ?_
    obtain ⟨kx2, h7⟩ := h6.set (k := 4) (f := 5) (z := e5) (by omega) (by omega) (by omega) hj7 hx7
    refine rs1 (ptI_q (z := e5) kx2 rfl) ?_
    refine Rt.ok ⟨ln M3, r, b, owx (hOw (wOw H o)) (ln M6) 4, s5, e5, Q, td, hb, by rw [hQ, ht8], fun z => ?_, ?_⟩
    · obtain ⟨w1, w2, w3⟩ := mok z
      obtain ⟨u1, u2, u3, u4⟩ := gL (tE_s z)
      have u5 := u4 (tQ8 (tE_s z))
      refine ⟨by rw [w1]; exact hs9'.2.2 (tE_s z), w2, ?_, by omega, u3⟩
      have f5 := g10.2.2 z
      intro jj p1 p2
      show M10.2.1 76 jj.toNat = _
      exact (f5.lc _ (by decide) _).trans (u1 jj p1 p2)
    · rw [hH7] at h7
      by_cases z : (tE kd pl 41 Q.1).2.1 = 0
      · have w := hs9'.2.2 (tE_s z)
        rw [w] at h7
        exact h7
      · exact h7.s2 (h7.pos z)
  · by_cases c : hEN H 4 < 6
    · refine rs1 (if_pos (lsI_p (x := hEN H 4) rfl li_6 (by omega))) ?_
      exact hj _ ⟨0, li_0, Or.inl ⟨rfl, c⟩⟩
    · refine rs1 (if_neg (lsI_n (x := hEN H 4) rfl li_6 (by omega))) ?_
      exact hj _ ⟨1, li_1, Or.inr ⟨rfl, by omega⟩⟩
end S56c
