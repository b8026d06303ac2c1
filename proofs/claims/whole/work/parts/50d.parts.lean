/-! what comes, and what is written into it -/
/-- a thing that is made, not yet in its list -/
def PD (M : Mem) (H : HG) (k x : Nat) (n : Int) (F : Nat → Int) (X : Int64) : Prop := (M.2.2.2[x]? = some (8, 9) ∧ hOw H x = 1000 * k + n ∧ 259 ≤ x) ∧ (∀ f, 1 ≤ f → f ≤ 8 → M.1 x f = iI (F f)) ∧ M.2.1 x 0 = X
/-- one thing more in list k -/
def aP (H : HG) (ow : Nat → Int) (k x : Nat) (F : Nat → Int) (X : Int64) : HG := (ow, hCL H, fun k' j => if k' = k ∧ j = hEN H k then x else hEC H k' j, fun k' => if k' = k then hEN H k + 1 else hEN H k', fun k' f j => if k' = k ∧ j = hEN H k then F f else hEF H k' f j, fun k' j => if k' = k ∧ j = hEN H k then X else hEX H k' j, hUA H, hAV H)
/-- number f of thing j of list k -/
def sF (H : HG) (k f : Nat) (j v : Int) : HG := (hOw H, hCL H, hEC H, hEN H, fun k' f' j' => if k' = k ∧ f' = f ∧ j' = j then v else hEF H k' f' j', hEX H, hUA H, hAV H)
section S50d
variable {N T ex cc tt k k1 x f : Nat} {W W' : List (Nat × Nat)} {M M' M2 : Mem} {H H' : HG} {Z : Nat → Prop} {a : Nat} {q : Nat × Nat} {n j j1 v : Int} {F : Nat → Int} {X : Int64}
theorem HS.n109 (h : HS N T ex M H) (h1 : 1 ≤ k) (h2 : k ≤ 4) : 0 ≤ hEN H k ∧ hEN H k ≤ 109 := by
  obtain ⟨⟨-, -, -, h4⟩, -, -, D, cap, -, h8, h9, -⟩ := h.2.1 k h1 h2
  omega
theorem HS.cell (h : HS N T ex M H) (h1 : 1 ≤ k) (h2 : k ≤ 4) (h3 : 0 ≤ j) (h4 : j < hEN H k) : 259 ≤ hEC H k j ∧ hEC H k j < ln M ∧ hOw H (hEC H k j) = 1000 * k + j := by
  by_cases y : k = 1
  · subst y
    obtain ⟨⟨a1, a2, a3⟩, -⟩ := h.2.2.2 j h3 h4
    exact ⟨a3, ln_lt a1, by omega⟩
  · obtain ⟨⟨a1, a2, a3⟩, -⟩ := h.2.2.1 k (by omega) h2 j h3 h4
    exact ⟨a3, ln_lt a1, a2⟩
theorem HS.ge (h : HS N T ex M H) (ha : hOw H a ≠ 0) : N ≤ a := by
  rcases Nat.lt_or_ge a N with y | y
  · exact absurd (h.1.2.1 a y) ha
  · exact y
theorem HS.freP (h : HS N T ex M H) (h1 : 1 ≤ k) (h2 : k ≤ 4) : fre H (1000 * k + hEN H k) := by
  have e := h.n109 h1 h2
  refine ⟨fun k' p q => ⟨by omega, fun j a b => ?_⟩, fun j a b => by omega⟩
  have e' := h.n109 p q
  by_cases y : k' = k
  · subst y; omega
  · omega
/-- a new part -/
theorem HS.alloc (h : HS N T ex M H) (h1 : 1 ≤ k) (h2 : k ≤ 4) (hN : 259 ≤ ln M) : HS N T (ex + 1) (nw M 8 9) (wOw H (owx (hOw H) (ln M) (1000 * k + hEN H k))) ∧ PD (nw M 8 9) (wOw H (owx (hOw H) (ln M) (1000 * k + hEN H k))) k (ln M) (hEN H k) (fun _ => 0) 0 ∧ FN N W M (nw M 8 9) := by
  have f : Fo (fun _ => False) 1 9 M (nw M 8 9) := Fo.nw
  exact ⟨h.keep f (fun _ _ z => z.elim) (fun a p => owx_o p) (fun k _ _ => f.p (by omega) id k) (by omega), ⟨⟨nw_kd, owx_n (Nat.le_refl _), hN⟩, fun f _ _ => nw_i, nw_l⟩, FN.of h.1.1 f (fun _ _ z => z.elim)⟩
/-- it is written into -/
theorem PD.fr (h : PD M H k x n F X) (f : Fr W M M') (w : ∀ z, z ∈ W → z.1 < 259) : PD M' H k x n F X := by
  obtain ⟨⟨a1, a2, a3⟩, a4, a5⟩ := h
  exact ⟨⟨f.kd a1, a2, a3⟩, fun g p q => (f.i _ _ (inW_w w a3)).trans (a4 g p q), (f.l _ _ (inW_w w a3)).trans a5⟩
theorem HS.pend (h : HS N T ex M H) (p : PD M H k x (hEN H k) F X) (h1 : 1 ≤ k) (h2 : k ≤ 4) (f : Fo (fun a => a = x) 0 0 M M') : HS N T ex M' H ∧ FN N W M M' := by
  have r0 := p.1.2.1
  have e := h.n109 h1 h2
  have hx : N ≤ x := h.ge (by omega)
  refine ⟨h.keep (ow := hOw H) f (fun a _ z => by rw [z, r0]; exact h.freP h1 h2) (fun _ _ => rfl) (fun k _ _ => f.p (by have := ln_lt p.1.1; have := p.1.2.2; omega) (by have := p.1.2.2; omega) k) (by omega), FN.of h.1.1 f (fun a _ z => by rw [z]; exact hx)⟩
theorem PD.ctor {d : Nat} {a2 a3 : Int32} {u b : Int} (hd : 1 ≤ d) (p : PD M H k x n F X) (e2 : a2 = iI u) (e3 : a3 = iI b) {Y : Int64} : ∃ M2, runX d 110 [va_rf (some x), .long Y, .int a2, .int a3] M = some (.null, M2) ∧ PD M2 H k x n (fun f => if f = 1 then u else if f = 2 then b else if f = 5 then -2 else F f) Y ∧ Fo (fun a => a = x) 0 0 M M2 := by
  obtain ⟨d, rfl⟩ : ∃ e, d = e + 1 := ⟨d - 1, by omega⟩
  obtain ⟨⟨k1, k2, k3⟩, k4, k5⟩ := p
  have f1 : Fo (fun a => a = x) 0 0 M (sI M x 5 (iI (-2))) := Fo.sI rfl
  have f2 : Fo (fun a => a = x) 0 0 M (sL (sI M x 5 (iI (-2))) x 0 Y) := f1.tr (Fo.sL rfl)
  have f3 : Fo (fun a => a = x) 0 0 M (sI (sL (sI M x 5 (iI (-2))) x 0 Y) x 1 (iI u)) := f2.tr (Fo.sI rfl)
  have f4 : Fo (fun a => a = x) 0 0 M (sI (sI (sL (sI M x 5 (iI (-2))) x 0 Y) x 1 (iI u)) x 2 (iI b)) := f3.tr (Fo.sI rfl)
  refine ⟨sI (sI (sL (sI M x 5 (iI (-2))) x 0 Y) x 1 (iI u)) x 2 (iI b), Rt.e ?_, ⟨⟨k1, k2, k3⟩, fun f h1 h2 => ?_, ?_⟩, f4⟩
  · rw [r110]; unfold b110; rw [aR_e, aL_e, aI_e, aI_e, aZ_e]; unfold c110
    refine rs1 (nn_e) ?_
    refine rs1 (ptI_q (z := -2) k1 li_m2) ?_
    refine rs1 (ptL_q (w := Y) k1 rfl) ?_
    refine rs1 (ptI_q (z := u) k1 e2) ?_
    refine rs1 (ptI_q (z := b) k1 e3) ?_
    exact Rt.ok ⟨rfl, rfl⟩
  · show _ = iI (if f = 1 then u else if f = 2 then b else if f = 5 then -2 else F f)
    by_cases y1 : f = 1
    · subst y1
      rw [if_pos rfl]
      exact (sI_nej (by decide)).trans sI_eq
    · rw [if_neg y1]
      by_cases y2 : f = 2
      · subst y2
        rw [if_pos rfl]
        exact sI_eq
      · rw [if_neg y2]
        by_cases y3 : f = 5
        · subst y3
          rw [if_pos rfl]
          exact (sI_nej (by decide)).trans ((sI_nej (by decide)).trans (sL_i.trans sI_eq))
        · rw [if_neg y3]
          exact (sI_nej y2).trans ((sI_nej y1).trans (sL_i.trans ((sI_nej y3).trans (k4 f h1 h2))))
  · exact sI_l.trans (sI_l.trans sL_eq)
theorem PD.set (p : PD M H k x n F X) (h1 : 1 ≤ f) : PD (sI M x f (iI v)) H k x n (fun g => if g = f then v else F g) X := by
  obtain ⟨k1, k4, k5⟩ := p
  refine ⟨k1, fun g a b => ?_, sI_l.trans k5⟩
  show _ = iI (if g = f then v else F g)
  by_cases y : g = f
  · rw [if_pos y, y]; exact sI_eq
  · rw [if_neg y]; exact (sI_nej y).trans (k4 g a b)
/-- it comes into its list -/
theorem HS.addp {d : Nat} (hd : 8 ≤ d) (h : HS N T (ex + 1) M H) (p : PD M H k x (hEN H k) F X) (h1 : 2 ≤ k) (h2 : k ≤ 4) (hn : hEN H k < 100) : ∃ M2, runX d 350 [va_rf (some (hCL H k)), va_rf (some x)] M = some (.int (iI 1), M2) ∧ HS N T ex M2 (aP H (owx (hOw H) (ln M) k) k x F X) ∧ FN N W M M2 := by
  have e := h.n109 (k := k) (by omega) h2
  obtain ⟨⟨p1, p2, p3⟩, p4, p5⟩ := p
  obtain ⟨M2, a1, a2, a3⟩ := Ls.add hd (h.2.1 k (by omega) h2) (by omega) p1 (by decide)
  have lx := ln_lt p1
  refine ⟨M2, a1, ?_, FN.of h.1.1 a3 (fun a _ z => h.ge (by omega))⟩
  obtain ⟨⟨⟨b1, b2⟩, b3, b4, b5, b6⟩, b7, b8, b9⟩ := h
  have g1 := a3.1.2.1
  have g2 := a3.1.2.2.1
  have ho : ∀ a, a < ln M → owx (hOw H) (ln M) k a = hOw H a := fun a p => owx_o p
  have f65 : ∀ i, M2.2.2.1 65 i = M.2.2.1 65 i := fun i => a3.p (by omega) (by rw [b3 65 (by omega)]; omega) i
  have cN : ∀ k', hEN (aP H (owx (hOw H) (ln M) k) k x F X) k' = if k' = k then hEN H k + 1 else hEN H k' := fun _ => rfl
  have hne : ∀ k', k' ≠ k → hEN (aP H (owx (hOw H) (ln M) k) k x F X) k' = hEN H k' := fun k' y => if_neg y
  have hk : hEN (aP H (owx (hOw H) (ln M) k) k x F X) k = hEN H k + 1 := if_pos rfl
  refine ⟨⟨⟨b1, Nat.le_trans b2 a3.1.1⟩, fun a p => (ho a (by omega)).trans (b3 a p), fun k' q1 q2 => (f65 k').trans (b4 k' q1 q2), ?_, ?_⟩, fun k' q1 q2 => ?_, fun k' q1 q2 j r1 r2 => ?_, fun j r1 r2 => ?_⟩
  · rw [cN, cN, cN, cN, if_neg (show ¬ 1 = k by omega)]
    have : k = 2 ∨ k = 3 ∨ k = 4 := by omega
    rcases this with y | y | y <;> subst y
    · rw [if_pos rfl, if_neg (by decide), if_neg (by decide)]; omega
    · rw [if_pos rfl, if_neg (by decide), if_neg (by decide)]; omega
    · rw [if_pos rfl, if_neg (by decide), if_neg (by decide)]; omega
  · rw [cN, cN, cN, cN, if_neg (show ¬ 1 = k by omega)]
    have : k = 2 ∨ k = 3 ∨ k = 4 := by omega
    rcases this with y | y | y <;> subst y
    · rw [if_pos rfl, if_neg (by decide), if_neg (by decide)]; omega
    · rw [if_pos rfl, if_neg (by decide), if_neg (by decide)]; omega
    · rw [if_pos rfl, if_neg (by decide), if_neg (by decide)]; omega
  · by_cases y : k' = k
    · subst y
      have e1 : (up1 (hEC H k') (hEN H k') x) = hEC (aP H (owx (hOw H) (ln M) k') k' x F X) k' := by
        funext i
        show (if i = hEN H k' then x else hEC H k' i) = if k' = k' ∧ i = hEN H k' then x else hEC H k' i
        by_cases z : i = hEN H k'
        · rw [if_pos z, if_pos ⟨rfl, z⟩]
        · rw [if_neg z, if_neg (fun w => z w.2)]
      rw [hk, ← e1]
      exact a2
    · rw [hne k' y]
      have e1 : hEC (aP H (owx (hOw H) (ln M) k) k x F X) k' = hEC H k' := by
        funext i
        exact if_neg fun w => y w.1
      rw [e1]
      exact (b7 k' q1 q2).fo a3 (fun a _ z => by omega) ho
  · by_cases y : k' = k ∧ j = hEN H k
    · obtain ⟨y1, y2⟩ := y
      subst y1
      have z1 : ¬ hOw H x = (k' : Int) := by omega
      have e1 : hEC (aP H (owx (hOw H) (ln M) k') k' x F X) k' j = x := if_pos ⟨rfl, y2⟩
      unfold PtK
      rw [e1]
      refine ⟨⟨a3.kd p1, (ho x lx).trans (by rw [p2, y2]), p3⟩, fun f u v => (a3.i lx z1 f).trans ?_, (a3.l lx z1 0).trans ?_⟩
      · rw [p4 f u v]; exact congrArg iI (if_pos ⟨rfl, y2⟩).symm
      · rw [p5]; exact (if_pos ⟨rfl, y2⟩).symm
    · have r3 : j < hEN H k' := by
        by_cases y1 : k' = k
        · subst y1
          rw [hk] at r2
          have : j ≠ hEN H k' := fun w => y ⟨rfl, w⟩
          omega
        · rw [hne k' y1] at r2; exact r2
      obtain ⟨⟨c1, c2, c3⟩, c4, c5⟩ := b8 k' q1 q2 j r1 r3
      have l1 := ln_lt c1
      have z1 : ¬ hOw H (hEC H k' j) = (k : Int) := by omega
      have e1 : hEC (aP H (owx (hOw H) (ln M) k) k x F X) k' j = hEC H k' j := if_neg y
      unfold PtK
      rw [e1]
      refine ⟨⟨a3.kd c1, (ho _ l1).trans c2, c3⟩, fun f u v => (a3.i l1 z1 f).trans ?_, (a3.l l1 z1 0).trans ?_⟩
      · rw [c4 f u v]; exact congrArg iI (if_neg y).symm
      · rw [c5]; exact (if_neg y).symm
  · have y : ¬ (1 = k ∧ j = hEN H k) := fun w => by omega
    rw [hne 1 (by omega)] at r2
    obtain ⟨⟨c1, c2, c3⟩, c4, c5, c6⟩ := b9 j r1 r2
    have l1 := ln_lt c1
    have z1 : ¬ hOw H (hEC H 1 j) = (k : Int) := by omega
    have e1 : hEC (aP H (owx (hOw H) (ln M) k) k x F X) 1 j = hEC H 1 j := if_neg y
    unfold UtK
    rw [e1]
    refine ⟨⟨a3.kd c1, (ho _ l1).trans c2, c3⟩, fun f u v w z => (a3.i l1 z1 f).trans ?_, (a3.l l1 z1 0).trans ?_, fun s p1 => ?_⟩
    · rw [c4 f u v w z]; exact congrArg iI (if_neg y).symm
    · rw [c5]; exact (if_neg y).symm
    · obtain ⟨⟨d1, d2, d3, d4⟩, d5⟩ := c6 s p1
      have l2 := ln_lt d2
      have z2 : ¬ hOw H (hUA H s j) = (k : Int) := by omega
      exact ⟨⟨(a3.p l1 z1 _).trans d1, a3.kd d2, (ho _ l2).trans d3, d4⟩, fun i u => (a3.i l2 z2 i).trans (d5 i u)⟩
/-- one cell of a thing that is in its list -/
theorem HS.one (h : HS N T ex M H) (g : Fo (fun a => a = hEC H k j) 0 0 M M') (h1 : 1 ≤ k) (h2 : k ≤ 4) (h3 : 0 ≤ j) (h4 : j < hEN H k) (e1 : hOw H' = hOw H ∧ hCL H' = hCL H ∧ hEC H' = hEC H ∧ hEN H' = hEN H ∧ hUA H' = hUA H ∧ hAV H' = hAV H) (e2 : ∀ k' f j', ¬ (k' = k ∧ j' = j) → hEF H' k' f j' = hEF H k' f j') (e3 : ∀ k' j', ¬ (k' = k ∧ j' = j) → hEX H' k' j' = hEX H k' j') (hp : k ≠ 1 → PtK M' H' k j) (hu : k = 1 → UtK M' H' j) : HS N T ex M' H' ∧ FN N W M M' := by
  have hc := h.cell h1 h2 h3 h4
  have en := h.n109 h1 h2
  have hx : N ≤ hEC H k j := h.ge (by omega)
  refine ⟨?_, FN.of h.1.1 g (fun a _ z => by rw [z]; exact hx)⟩
  obtain ⟨⟨⟨b1, b2⟩, b3, b4, b5, b6⟩, b7, b8, b9⟩ := h
  obtain ⟨o1, o2, o3, o4, o5, o6⟩ := e1
  have g1 := g.1.2.1
  have g2 := g.1.2.2.1
  have f65 : ∀ i, M'.2.2.1 65 i = M.2.2.1 65 i := fun i => g.p (by omega) (by omega) i
  refine ⟨⟨⟨b1, Nat.le_trans b2 g.1.1⟩, fun a p => by rw [o1]; exact b3 a p, fun k' q1 q2 => by rw [o2]; exact (f65 k').trans (b4 k' q1 q2), by rw [o4]; omega, by rw [o4]; omega⟩, fun k' q1 q2 => ?_, fun k' q1 q2 i r1 r2 => ?_, fun i r1 r2 => ?_⟩
  · rw [o1, o2, o3, o4]
    exact (b7 k' q1 q2).fo g (fun a _ z => by rw [z]; omega) (fun _ _ => rfl)
  · rw [o4] at r2
    by_cases y : k' = k ∧ i = j
    · obtain ⟨y1, y2⟩ := y
      subst y1; subst y2
      exact hp (by omega)
    · obtain ⟨⟨c1, c2, c3⟩, c4, c5⟩ := b8 k' q1 q2 i r1 r2
      have l1 := ln_lt c1
      have z1 : ¬ hEC H k' i = hEC H k j := fun z => by
        rw [z, hc.2.2] at c2
        have : hEN H k' ≤ 109 := by
          obtain ⟨-, -, -, D, cap, -, w8, w9, -⟩ := b7 k' (by omega) q2
          omega
        by_cases y1 : k' = k
        · exact y ⟨y1, by subst y1; omega⟩
        · omega
      unfold PtK
      rw [o1, o3, e3 k' i y]
      exact ⟨⟨g.kd c1, c2, c3⟩, fun f u v => by rw [e2 k' f i y]; exact (g.i l1 z1 f).trans (c4 f u v), (g.l l1 z1 0).trans c5⟩
  · rw [o4] at r2
    by_cases y : 1 = k ∧ i = j
    · obtain ⟨y1, y2⟩ := y
      subst y1; subst y2
      exact hu rfl
    · obtain ⟨⟨c1, c2, c3⟩, c4, c5, c6⟩ := b9 i r1 r2
      have l1 := ln_lt c1
      have e1' : hEN H 1 ≤ 109 := by
        obtain ⟨-, -, -, D, cap, -, w8, w9, -⟩ := b7 1 (by omega) (by omega)
        omega
      have z1 : ¬ hEC H 1 i = hEC H k j := fun z => by
        rw [z, hc.2.2] at c2
        by_cases y1 : 1 = k
        · exact y ⟨y1, by subst y1; omega⟩
        · omega
      unfold UtK
      rw [o1, o3, o5, o6, e3 1 i y]
      refine ⟨⟨g.kd c1, c2, c3⟩, fun f u v w z => by rw [e2 1 f i y]; exact (g.i l1 z1 f).trans (c4 f u v w z), (g.l l1 z1 0).trans c5, fun s p1 => ?_⟩
      obtain ⟨⟨d1, d2, d3, d4⟩, d5⟩ := c6 s p1
      have z2 : ¬ hUA H s i = hEC H k j := fun z => by
        rw [z, hc.2.2] at d3
        omega
      exact ⟨⟨(g.p l1 z1 _).trans d1, g.kd d2, d3, d4⟩, fun i u => (g.i (ln_lt d2) z2 i).trans (d5 i u)⟩
/-- a number of a part -/
theorem HS.setp (h : HS N T ex M H) (h1 : 2 ≤ k) (h2 : k ≤ 4) (h3 : 0 ≤ j) (h4 : j < hEN H k) (hf : 1 ≤ f ∧ f ≤ 8) : HS N T ex (sI M (hEC H k j) f (iI v)) (sF H k f j v) ∧ FN N W M (sI M (hEC H k j) f (iI v)) := by
  obtain ⟨⟨c1, c2, c3⟩, c4, c5⟩ := h.2.2.1 k h1 h2 j h3 h4
  refine h.one (Fo.sI rfl) (by omega) h2 h3 h4 ⟨rfl, rfl, rfl, rfl, rfl, rfl⟩ (fun k' f' j' y => if_neg fun w => y ⟨w.1, w.2.2⟩) (fun _ _ _ => rfl) (fun _ => ?_) (fun y => by omega)
  refine ⟨⟨c1, c2, c3⟩, fun g u w => ?_, c5⟩
  show (sI M (hEC H k j) f (iI v)).1 (hEC H k j) g = iI (if k = k ∧ g = f ∧ j = j then v else hEF H k g j)
  by_cases y : g = f
  · rw [if_pos ⟨rfl, y, rfl⟩, y]; exact sI_eq
  · rw [if_neg fun z => y z.2.1]; exact (sI_nej y).trans (c4 g u w)
end S50d
