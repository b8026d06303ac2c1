/-! members: the first object's side -/
def W_c9 : List (Nat × Nat) := [(65, 10), (65, 11), (65, 12), (65, 13), (65, 16), (76, 9999)]
def W_cm : List (Nat × Nat) := W_cp ++ [(65, 14), (75, 9999)]
def CQ (m : Int) (kd pl : Int → Int) (tx : Int → Int64) (N TT ex : Nat) (M0 M1 : Mem) (e s uc : Int) (M : Mem) (H : HG) (t : TS) : Prop := (CT M ∧ TkA M m kd pl tx) ∧ (FN N W_cm M0 M ∧ M.1 65 14 = M1.1 65 14) ∧ (t.2.1 = 0 → FN N W_c9 M1 M) ∧ HS N TT ex M H ∧ CS m kd e s uc M t
def pF (lo u ki : Int) : Nat → Int := fun f => if f = 3 then lo else if f = 1 then u else if f = 2 then ki else if f = 5 then -2 else 0
def BB (H : HG) (b : Int) : Prop := (b = 0 ∧ hEN H 2 - hEF H 1 1 (hEN H 1 - 1) < 12) ∨ (b = 1 ∧ 12 ≤ hEN H 2 - hEF H 1 1 (hEN H 1 - 1))
theorem Wcp_m : ∀ q, q ∈ W_cp → q ∈ W_cm := fun _ h => List.mem_append_left _ h
section S56
variable {d : Nat} {T : Int → Int} {n m b a e s uc i f K c lo ki : Int} {kd pl E : Int → Int} {tx : Int → Int64} {N TT ex : Nat} {M0 M1 M M2 : Mem} {H H2 : HG} {t t2 : TS} {v0 v1 v2 : Int32}
theorem tX_s (h : (tX kd pl f t).2.1 = 0) : t.2.1 = 0 := by
  by_cases c : t.2.1 = 0
  · exact c
  · rw [show tX kd pl f t = t from if_neg c] at h; exact h
theorem tX_n (hf : 1 ≤ f) : ¬ (tX kd pl f t).2.1 = 0 := fun h => by
  have c := tX_s h
  rw [show tX kd pl f t = (t.1, if kd t.1 = 1 then 1 else f, pl t.1) from if_pos c] at h
  dsimp only at h
  split at h <;> omega
theorem tE_0 (h : (tE kd pl K t).2.1 = 0) : t.2.1 = 0 ∧ kd t.1 = K ∧ tE kd pl K t = (t.1 + 1, 0, 0) := by
  by_cases c : t.2.1 = 0 ∧ kd t.1 = K
  · exact ⟨c.1, c.2, if_pos c⟩
  · rw [show tE kd pl K t = tX kd pl 2 t from if_neg c] at h; exact absurd h (tX_n (by omega))
theorem tE_s (h : (tE kd pl K t).2.1 = 0) : t.2.1 = 0 := (tE_0 h).1
theorem tN_0 (h : (tN kd pl a b t).2.1 = 0) : t.2.1 = 0 ∧ kd t.1 = 3 ∧ a ≠ 1 ∧ b ≠ 1 ∧ tN kd pl a b t = (t.1 + 1, 0, 0) := by
  by_cases c : t.2.1 = 0 ∧ kd t.1 = 3
  · by_cases c1 : a = 1
    · rw [show tN kd pl a b t = (t.1, 3, pl t.1) from (if_pos c).trans (if_pos c1)] at h; exact absurd h (by dsimp only; omega)
    · by_cases c2 : b = 1
      · rw [show tN kd pl a b t = (t.1, 6, pl t.1) from (if_pos c).trans ((if_neg c1).trans (if_pos c2))] at h; exact absurd h (by dsimp only; omega)
      · exact ⟨c.1, c.2, c1, c2, (if_pos c).trans ((if_neg c1).trans (if_neg c2))⟩
  · rw [show tN kd pl a b t = tX kd pl 2 t from if_neg c] at h; exact absurd h (tX_n (by omega))
theorem tS_0 (h : (tS kd pl t).2.1 = 0) : t.2.1 = 0 ∧ ∃ i', tS kd pl t = (i', 0, 0) ∧ t.1 < i' ∧ i' ≤ t.1 + 2 ∧ ((kd t.1 = 45 ∧ kd (t.1 + 1) = 4) ∨ (kd t.1 ≠ 45 ∧ kd t.1 = 4)) := by
  obtain ⟨q1, q2, q3⟩ := tE_0 h
  by_cases c : t.2.1 = 0 ∧ kd t.1 = 45
  · have eg : tG kd t = (t.1 + 1, 0, 0) := if_pos c
    rw [eg] at q2 q3
    exact ⟨c.1, t.1 + 1 + 1, by unfold tS; rw [eg]; exact q3, by omega, by omega, Or.inl ⟨c.2, q2⟩⟩
  · have eg : tG kd t = t := if_neg c
    rw [eg] at q1 q2 q3
    exact ⟨q1, t.1 + 1, by unfold tS; rw [eg]; exact q3, by omega, by omega, Or.inr ⟨fun z => c ⟨q1, z⟩, q2⟩⟩
theorem tS_s (h : (tS kd pl t).2.1 = 0) : t.2.1 = 0 := (tS_0 h).1
theorem tM_0 {hi : Int} (h : (tM kd pl tx lo hi t).2.1 = 0) : t.2.1 = 0 ∧ kd t.1 = 4 ∧ lo ≤ nb tx t.1 ∧ nb tx t.1 ≤ hi ∧ tM kd pl tx lo hi t = (t.1 + 1, 0, 0) := by
  by_cases c : t.2.1 = 0 ∧ kd t.1 = 4
  · by_cases c1 : lo ≤ nb tx t.1 ∧ nb tx t.1 ≤ hi
    · exact ⟨c.1, c.2, c1.1, c1.2, (if_pos c).trans (if_pos c1)⟩
    · rw [show tM kd pl tx lo hi t = (t.1, 5, pl t.1) from (if_pos c).trans (if_neg c1)] at h; exact absurd h (by dsimp only; omega)
  · rw [show tM kd pl tx lo hi t = tX kd pl 2 t from if_neg c] at h; exact absurd h (tX_n (by omega))
theorem tM_s {hi : Int} (h : (tM kd pl tx lo hi t).2.1 = 0) : t.2.1 = 0 := (tM_0 h).1
theorem tA_s (h : (tA t).2.1 = 0) : t.2.1 = 0 := by
  by_cases c : t.2.1 = 0
  · exact c
  · rw [show tA t = t from if_neg c] at h; exact h
theorem vSg_r (hS : TkS T n m kd pl E tx) (h : (tS kd pl t).2.1 = 0) (hb : 0 ≤ t.1 ∧ t.1 + 1 < m) : -999999999 ≤ vSg kd tx t ∧ vSg kd tx t ≤ 999999999 := by
  obtain ⟨-, i', -, -, -, c⟩ := tS_0 h
  rcases c with ⟨c1, c2⟩ | ⟨c1, c2⟩
  · rw [show vSg kd tx t = -(nb tx (t.1 + 1)) from if_pos c1]
    have := nb_r hS ⟨by omega, hb.2, c2⟩
    omega
  · rw [show vSg kd tx t = nb tx t.1 from if_neg c1]
    have := nb_r hS ⟨hb.1, by omega, c2⟩
    omega
theorem CQ.sc (h : CQ m kd pl tx N TT ex M0 M1 e s uc M H t) (h0 : t.2.1 = 0) : SC M kd t.1 e s uc ∧ 0 ≤ t.1 ∧ t.1 < m := by
  rcases h.2.2.2.2 with z | z
  · exact z.2
  · exact absurd z.1 (by omega)
theorem CQ.nn (h : CQ m kd pl tx N TT ex M0 M1 e s uc M H t) : 259 ≤ N ∧ N ≤ ln M := ⟨h.2.1.1.1.1, h.2.1.1.len⟩
theorem CQ.st (h : CQ m kd pl tx N TT ex M0 M1 e s uc M H t) {W : List (Nat × Nat)} {e2 s2 uc2 : Int} (f : Fr W_cp M M2) (f2 : t2.2.1 = 0 → Fr W M M2) (hw : ∀ q, q ∈ W → q ∈ W_c9) (hc : CS m kd e2 s2 uc2 M2 t2) (hs : t2.2.1 = 0 → t.2.1 = 0) : CQ m kd pl tx N TT ex M0 M1 e2 s2 uc2 M2 H t2 := ⟨⟨h.1.1.fr f, h.1.2.fr f (by decide)⟩, ⟨h.2.1.1.tr ((f.n h.nn (by decide)).m Wcp_m), (f.i _ _ (by decide)).trans h.2.1.2⟩, fun z => (h.2.2.1 (hs z)).tr ((Fr.m (f2 z) hw).n h.nn (by decide)), h.2.2.2.1.fr f (by decide), hc⟩
theorem CQ.cp (h : CQ m kd pl tx N TT ex M0 M1 e s uc M H t) (p : CP m kd e s uc M t2 M2) (hs : t2.2.1 = 0 → t.2.1 = 0) : CQ m kd pl tx N TT ex M0 M1 e s uc M2 H t2 := h.st p.2.1 p.2.2 (by decide) p.1 hs
theorem CS.fn (h : CS m kd e s uc M t) (f : FN N [] M M2) : CS m kd e s uc M2 t := by
  have g : ∀ j, M2.1 65 j = M.1 65 j := fun j => f.i 65 j ⟨rfl, by omega⟩
  rcases h with ⟨h0, ⟨a1, a2, a3, a4, a5, a6⟩, hb⟩ | ⟨h1, i, sz, sn, u2, b1, b2, b3, b4, b5, b6, b7, b8⟩
  · exact Or.inl ⟨h0, ⟨(g _).trans a1, (g _).trans a2, (g _).trans a3, (g _).trans a4, (g _).trans a5, (g _).trans a6⟩, hb⟩
  · exact Or.inr ⟨h1, i, sz, sn, u2, (g _).trans b1, (g _).trans b2, (g _).trans b3, (g _).trans b4, (g _).trans b5, (g _).trans b6, (g _).trans b7, b8⟩
theorem FN.nil {W : List (Nat × Nat)} (f : FN N [] M M2) : FN N W M M2 := f.m fun _ z => absurd z (List.not_mem_nil)
theorem CQ.put {ex2 : Nat} (h : CQ m kd pl tx N TT ex M0 M1 e s uc M H t) (q : HS N TT ex2 M2 H2 ∧ FN N [] M M2) : CQ m kd pl tx N TT ex2 M0 M1 e s uc M2 H2 t := ⟨⟨h.1.1.fn q.2, h.1.2.fn q.2 (by decide)⟩, ⟨h.2.1.1.tr q.2.nil, (q.2.i 65 14 ⟨rfl, by omega⟩).trans h.2.1.2⟩, fun z => (h.2.2.1 z).tr q.2.nil, q.1, h.2.2.2.2.fn q.2⟩
theorem T66.cs (h : T66 kd pl i a b M2) (hc : M2.1 65 9 = iI e ∧ M2.1 65 16 = iI s ∧ M2.1 65 19 = iI uc) (hB : CB m e s uc) (hi : 0 ≤ i ∧ i < m) (hm : kd i = 3 → i + 1 < m) : CS m kd e s uc M2 (tN kd pl a b (i, 0, 0)) := by
  unfold CB at hB
  rcases h with ⟨k3, a0, b0, h12, h13, h10⟩ | ⟨f, hf, h12, h13, h10, h11⟩
  · rw [show tN kd pl a b (i, 0, 0) = (i + 1, 0, 0) from (if_pos ⟨rfl, k3⟩).trans ((if_neg (by omega)).trans (if_neg (by omega)))]
    exact Or.inl ⟨rfl, ⟨h12, h13, h10, hc.1, hc.2.1, hc.2.2⟩, by have := hm k3; dsimp only; omega, hm k3⟩
  · have go : 1 ≤ f ∧ f ≤ 6 → tN kd pl a b (i, 0, 0) = (i, f, pl i) → CS m kd e s uc M2 (tN kd pl a b (i, 0, 0)) := fun hf q => by
      rw [q]
      exact Or.inr ⟨hf.1, i, e, s, uc, h13, h10, h11, h12, hc.1, hc.2.1, hc.2.2, by dsimp only; omega⟩
    rcases hf with ⟨k3, a1, rfl⟩ | ⟨k3, a0, b1, rfl⟩ | ⟨k1, rfl⟩ | ⟨k1, k3, rfl⟩
    · exact go (by omega) ((if_pos ⟨rfl, k3⟩).trans (if_pos a1))
    · exact go (by omega) ((if_pos ⟨rfl, k3⟩).trans ((if_neg (by omega)).trans (if_pos b1)))
    · exact go (by omega) ((if_neg fun z => by have := z.2; dsimp only at this; omega).trans ((if_pos rfl).trans (by rw [if_pos k1])))
    · exact go (by omega) ((if_neg fun z => k3 z.2).trans ((if_pos rfl).trans (by rw [if_neg k1])))
theorem W66_9 : ∀ q, q ∈ W_66 → q ∈ W_c9 := by decide
theorem mc78 (hd : 9 ≤ d) (hS : TkS T n m kd pl E tx) (h : CQ m kd pl tx N TT ex M0 M1 e s uc M H t) (h0 : t.2.1 = 0) (hB : CB m e s uc) (hm : t.1 + 1 < m) (hv1 : v1 = iI ki) (hv2 : v2 = iI lo) (hlo : 0 ≤ lo ∧ lo ≤ 1) (hu : 1 ≤ hEN H 1) (hn : hEN H 2 < 100) (hf : 0 ≤ hEF H 1 1 (hEN H 1 - 1) ∧ hEF H 1 1 (hEN H 1 - 1) ≤ hEN H 2) : Rt (runX d 78 [va_rf (some 65), .int v1, .int v2] M) (fun v M2 => ∃ x r b ow, v = va_rf (some x) ∧ TdA H (hEN H 1 - 1) (tx (t.1 + 1)) r ∧ BB H b ∧ CQ m kd pl tx N TT ex M0 M1 e s uc M2 (aP H ow 2 x (pF lo (hEN H 1 - 1) ki) (tx (t.1 + 1))) (tN kd pl r b (t.1 + 1, 0, 0))) := by
  obtain ⟨⟨c1, c2, c3, c4, c5, c6⟩, c7, c8⟩ := h.sc h0
  have hB' := hB
  unfold CB at hB'
  refine (a78 hd hS h.1.1 h.1.2 c1 c2 c3 h.2.2.2.1 hv1 hv2 hlo ⟨c7, c8, hm, by omega⟩ hu hn hf).mono fun v M2 ⟨x, r, b, q1, q2, q3, q4, q5, ow, q6⟩ => ⟨x, r, b, ow, q1, q2, q3, ?_⟩
  have g : ∀ j, inW W_66 65 j = false → M2.1 65 j = M.1 65 j := fun j w => q5.i 65 j ⟨w, by omega⟩
  exact ⟨⟨h.1.1.fn q5, h.1.2.fn q5 (by decide)⟩, ⟨h.2.1.1.tr (q5.m (by decide)), (g _ (by decide)).trans h.2.1.2⟩, fun _ => (h.2.2.1 h0).tr (q5.m W66_9), q6, T66.cs q4 ⟨(g _ (by decide)).trans c4, (g _ (by decide)).trans c5, (g _ (by decide)).trans c6⟩ hB ⟨by omega, hm⟩ fun z => hS.more _ (by omega) (by omega) (by omega)⟩
theorem aP_c {ow : Nat → Int} {k x : Nat} {F : Nat → Int} {X : Int64} : hEC (aP H ow k x F X) k (hEN H k) = x := if_pos ⟨rfl, rfl⟩
theorem aP_n {ow : Nat → Int} {k x : Nat} {F : Nat → Int} {X : Int64} : hEN (aP H ow k x F X) k = hEN H k + 1 := if_pos rfl
/-- a number of a part -/
theorem CQ.set {k x f : Nat} {j z : Int} (h : CQ m kd pl tx N TT ex M0 M1 e s uc M H t) (h1 : 2 ≤ k) (h2 : k ≤ 4) (hf : 1 ≤ f ∧ f ≤ 8) (hj : 0 ≤ j ∧ j < hEN H k) (hx : hEC H k j = x) : M.2.2.2[x]? = some (8, 9) ∧ CQ m kd pl tx N TT ex M0 M1 e s uc (sI M x f (iI z)) (sF H k f j z) t := by
  subst hx
  exact ⟨(h.2.2.2.1.2.2.1 k h1 h2 j hj.1 hj.2).1.1, h.put (h.2.2.2.1.setp (W := []) (f := f) (v := z) h1 h2 hj.1 hj.2 hf)⟩
theorem aP_j {ow : Nat → Int} {k x : Nat} {F : Nat → Int} {X : Int64} (h : 0 ≤ hEN H k) : 0 ≤ hEN H k ∧ hEN H k < hEN (aP H ow k x F X) k := by rw [aP_n]; omega
theorem mc79 (hd : 10 ≤ d) (hS : TkS T n m kd pl E tx) (h : CQ m kd pl tx N TT ex M0 M1 e s uc M H t) (h0 : t.2.1 = 0) (hB : CB m e s uc) (hk : kd t.1 = 202 + ki ∧ 0 ≤ ki ∧ ki ≤ 2) (hv1 : v1 = iI lo) (hlo : 0 ≤ lo ∧ lo ≤ 1) (hu : 1 ≤ hEN H 1) (hn : 0 ≤ hEN H 2 ∧ hEN H 2 < 100) (hf : 0 ≤ hEF H 1 1 (hEN H 1 - 1) ∧ hEF H 1 1 (hEN H 1 - 1) ≤ hEN H 2) : Rt (runX d 79 [va_rf (some 65), .int v1] M) (fun _ M2 => ∃ x r b ow z, TdA H (hEN H 1 - 1) (tx (t.1 + 1)) r ∧ BB H b ∧ ((tE kd pl 59 (tS kd pl (tE kd pl 61 (tN kd pl r b (t.1 + 1, 0, 0))))).2.1 = 0 → z = vSg kd tx (tE kd pl 61 (tN kd pl r b (t.1 + 1, 0, 0)))) ∧ CQ m kd pl tx N TT ex M0 M1 e s uc M2 (sF (aP H ow 2 x (pF lo (hEN H 1 - 1) ki) (tx (t.1 + 1))) 2 4 (hEN H 2) z) (tE kd pl 59 (tS kd pl (tE kd pl 61 (tN kd pl r b (t.1 + 1, 0, 0)))))) := by
  obtain ⟨d, rfl⟩ : ∃ e, d = e + 1 := ⟨d - 1, by omega⟩
  obtain ⟨hc, hi⟩ := h.sc h0
  have hm := hS.more t.1 (by omega) (by omega) (by omega)
  rw [r79]; unfold b79; rw [aR_e, aI_e, aZ_e]; unfold c79
  refine rs1 (gtI_q (ck_65 h.1.1) hc.2.1) ?_
  refine Rt.jn (fun s => s = iI ki) (fun s hs => ?_) (fun j hj => ?_)
  · refine rs1 (vC_e (ck_65 h.1.1)) ?_
    refine Rc_P (mc78 (by omega) hS h h0 hB hm hs hv1 hlo hu hn.2 hf) fun v M2 ⟨x, r, b, ow, hv, h1, h2, h3⟩ => ?_
    subst hv
    refine rs1 (cP_e rfl) ?_
    refine rs1 (vC_e (ck_65 h3.1.1)) ?_
    refine Rc_V (cq64 (K := 61) (by omega) hS h3.1.1 h3.1.2 h3.2.2.2.2 hB li_61 (by omega)) fun v M3 g3 => ?_
    have h4 := h3.cp g3 tE_s
    refine rs1 (cV_e rfl) ?_
    refine rs1 (vC_e (ck_65 h4.1.1)) ?_
    refine Rc_I (cq68 (by omega) hS h4.1.1 h4.1.2 h4.2.2.2.2 hB) fun v M4 ⟨z, hz, hzv, g4⟩ => ?_
    subst hz
    have h5 := h4.cp g4 tS_s
    refine rs1 (cI_e rfl) ?_
    obtain ⟨kx, h6⟩ := h5.set (k := 2) (f := 4) (z := z) (by omega) (by omega) (by omega) (aP_j hn.1) aP_c
    refine rs1 (ptI_q (z := z) kx rfl) ?_
    refine rs1 (vC_e (ck_65 h6.1.1)) ?_
    refine Rc_V (cq64 (K := 59) (by omega) hS h6.1.1 h6.1.2 h6.2.2.2.2 hB li_59 (by omega)) fun v M5 g5 => ?_
    refine rs1 (cV_e rfl) ?_
    exact Rt.ok ⟨x, r, b, ow, z, h1, h2, fun w => hzv (tE_s w), h6.cp g5 tE_s⟩
  · by_cases c0 : ki = 0
    · refine rs1 (if_pos (eqI_p rfl li_202 (by omega))) ?_
      exact hj _ (by rw [c0]; exact li_0)
    · refine rs1 (if_neg (eqI_n rfl li_202 (by omega))) ?_
      refine rs1 (gtI_q (ck_65 h.1.1) hc.2.1) ?_
      by_cases c1 : ki = 1
      · refine rs1 (if_pos (eqI_p rfl li_203 (by omega))) ?_
        exact hj _ (by rw [c1]; exact li_1)
      · refine rs1 (if_neg (eqI_n rfl li_203 (by omega))) ?_
        exact hj _ (by rw [show ki = 2 by omega]; exact li_2)
theorem mc80 (hd : 10 ≤ d) (hS : TkS T n m kd pl E tx) (h : CQ m kd pl tx N TT ex M0 M1 e s uc M H t) (h0 : t.2.1 = 0) (hB : CB m e s uc) (hk : kd t.1 = 205) (hv1 : v1 = iI lo) (hlo : 0 ≤ lo ∧ lo ≤ 1) (hu : 1 ≤ hEN H 1) (hn : 0 ≤ hEN H 2 ∧ hEN H 2 < 100) (hf : 0 ≤ hEF H 1 1 (hEN H 1 - 1) ∧ hEF H 1 1 (hEN H 1 - 1) ≤ hEN H 2) : Rt (runX d 80 [va_rf (some 65), .int v1] M) (fun _ M2 => ∃ x r b ow z, TdA H (hEN H 1 - 1) (tx (t.1 + 1)) r ∧ BB H b ∧ ((tE kd pl 59 (tE kd pl 93 (tM kd pl tx 1 50 (tE kd pl 91 (tN kd pl r b (t.1 + 1, 0, 0)))))).2.1 = 0 → z = nb tx (tE kd pl 91 (tN kd pl r b (t.1 + 1, 0, 0))).1) ∧ CQ m kd pl tx N TT ex M0 M1 e s uc M2 (sF (aP H ow 2 x (pF lo (hEN H 1 - 1) 3) (tx (t.1 + 1))) 2 4 (hEN H 2) z) (tE kd pl 59 (tE kd pl 93 (tM kd pl tx 1 50 (tE kd pl 91 (tN kd pl r b (t.1 + 1, 0, 0))))))) := by
  obtain ⟨d, rfl⟩ : ∃ e, d = e + 1 := ⟨d - 1, by omega⟩
  obtain ⟨hc, hi⟩ := h.sc h0
  have hm := hS.more t.1 (by omega) (by omega) (by omega)
  rw [r80]; unfold b80; rw [aR_e, aI_e, aZ_e]; unfold c80
  refine rs1 (vC_e (ck_65 h.1.1)) ?_
  refine Rc_P (mc78 (by omega) hS h h0 hB hm li_3 hv1 hlo hu hn.2 hf) fun v M2 ⟨x, r, b, ow, hv, h1, h2, h3⟩ => ?_
  subst hv
  refine rs1 (cP_e rfl) ?_
  refine rs1 (vC_e (ck_65 h3.1.1)) ?_
  refine Rc_V (cq64 (K := 91) (by omega) hS h3.1.1 h3.1.2 h3.2.2.2.2 hB li_91 (by omega)) fun v M3 g3 => ?_
  have h4 := h3.cp g3 tE_s
  refine rs1 (cV_e rfl) ?_
  refine rs1 (vC_e (ck_65 h4.1.1)) ?_
  refine Rc_I (cq67 (by omega) hS h4.1.1 h4.1.2 h4.2.2.2.2 hB li_1 li_50 (by omega)) fun v M4 ⟨z, hz, hzv, g4⟩ => ?_
  subst hz
  have h5 := h4.cp g4 tM_s
  refine rs1 (cI_e rfl) ?_
  obtain ⟨kx, h6⟩ := h5.set (k := 2) (f := 4) (z := z) (by omega) (by omega) (by omega) (aP_j hn.1) aP_c
  refine rs1 (ptI_q (z := z) kx rfl) ?_
  refine rs1 (vC_e (ck_65 h6.1.1)) ?_
  refine Rc_V (cq64 (K := 93) (by omega) hS h6.1.1 h6.1.2 h6.2.2.2.2 hB li_93 (by omega)) fun v M5 g5 => ?_
  have h7 := h6.cp g5 tE_s
  refine rs1 (cV_e rfl) ?_
  refine rs1 (vC_e (ck_65 h7.1.1)) ?_
  refine Rc_V (cq64 (K := 59) (by omega) hS h7.1.1 h7.1.2 h7.2.2.2.2 hB li_59 (by omega)) fun v M6 g6 => ?_
  refine rs1 (cV_e rfl) ?_
  exact Rt.ok ⟨x, r, b, ow, z, h1, h2, fun w => hzv (tE_s (tE_s w)), h7.cp g6 tE_s⟩
end S56
