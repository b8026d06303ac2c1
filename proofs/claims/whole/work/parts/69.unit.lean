/-! a unit: the first object's cells -/
/-- a unit that is made, not yet in its list -/
def PU (M : Mem) (H : HG) (x : Nat) (y : Nat → Nat) (n : Int) (F : Nat → Int) (X : Int64) : Prop := (M.2.2.2[x]? = some (11, 10) ∧ hOw H x = 1000 + n ∧ 259 ≤ x) ∧ (∀ f, 1 ≤ f → f ≤ 9 → f ≠ 6 → f ≠ 8 → M.1 x f = iI (F f)) ∧ M.2.1 x 0 = X ∧ ∀ s, s < 2 → (M.2.2.1 x (6 + 2 * s) = some (y s) ∧ M.2.2.2[y s]? = some (100, 3) ∧ hOw H (y s) = 5000 + 1000 * s + n ∧ 259 ≤ y s) ∧ ∀ i, i < 3 → M.1 (y s) i = iI 0
/-- one unit more -/
def aU (H : HG) (ow : Nat → Int) (x : Nat) (y : Nat → Nat) (F : Nat → Int) (X : Int64) : HG := (ow, hCL H, fun k' j => if k' = 1 ∧ j = hEN H 1 then x else hEC H k' j, fun k' => if k' = 1 then hEN H 1 + 1 else hEN H k', fun k' f j => if k' = 1 ∧ j = hEN H 1 then F f else hEF H k' f j, fun k' j => if k' = 1 ∧ j = hEN H 1 then X else hEX H k' j, fun s j => if j = hEN H 1 then y s else hUA H s j, fun s j i => if j = hEN H 1 then 0 else hAV H s j i)
section S69
variable {N T ex cc tt k k1 x f : Nat} {y : Nat → Nat} {W W' : List (Nat × Nat)} {M M' M2 : Mem} {H H' : HG} {Z : Nat → Prop} {a : Nat} {q : Nat × Nat} {n j j1 v u b : Int} {F : Nat → Int} {X Y : Int64} {a2 a3 : Int32}
theorem HS.freU (h : HS N T ex M H) (s : Nat) (hs : s < 2) : fre H (5000 + 1000 * s + hEN H 1) := by
  have e := h.n109 (k := 1) (by omega) (by omega)
  refine ⟨fun k' p q => ⟨by omega, fun j a b => ?_⟩, fun j a b => by omega⟩
  have e' := h.n109 p q
  omega
theorem HS.alu (h : HS N T ex M H) (hN : 259 ≤ ln M) : HS N T (ex + 1) (nw M 11 10) (wOw H (owx (hOw H) (ln M) (1000 + hEN H 1))) ∧ FN N W M (nw M 11 10) := by
  have f : Fo (fun _ => False) 1 10 M (nw M 11 10) := Fo.nw
  exact ⟨h.keep f (fun _ _ z => z.elim) (fun a p => owx_o p) (fun k _ _ => f.p (by omega) id k) (by omega), FN.of h.1.1 f (fun _ _ z => z.elim)⟩
/-- its constructor -/
theorem a126 {d : Nat} (hd : 1 ≤ d) (h : HS N T ex M H) (kx : M.2.2.2[x]? = some (11, 10)) (ox : hOw H x = 1000 + hEN H 1) (gx : 259 ≤ x) (h7 : M.1 x 7 = iI 0) (h9 : M.1 x 9 = iI 0) (e2 : a2 = iI u) (e3 : a3 = iI b) : ∃ M2 ow, runX d 126 [va_rf (some x), .long Y, .int a2, .int a3] M = some (.null, M2) ∧ HS N T (ex + 2) M2 (wOw H ow) ∧ PU M2 (wOw H ow) x (fun s => ln M + s) (hEN H 1) (fun f => if f = 1 ∨ f = 2 then u else if f = 3 ∨ f = 4 then b else if f = 5 then -2 else 0) Y ∧ FN N W M M2 := by
  obtain ⟨d, rfl⟩ : ∃ e, d = e + 1 := ⟨d - 1, by omega⟩
  have lx := ln_lt kx
  have e := h.n109 (k := 1) (by omega) (by omega)
  have hx : N ≤ x := h.ge (by omega)
  have hN := h.1.1
  obtain ⟨M1, hM1⟩ : ∃ z, z = sI M x 5 (iI (-2)) := ⟨_, rfl⟩
  have l1 : ln M1 = ln M := by rw [hM1]; rfl
  have f1 : Fo (fun a => a = x) 0 0 M M1 := by rw [hM1]; exact Fo.sI rfl
  have k1 := f1.kd kx
  obtain ⟨M3, hM3⟩ : ∃ z, z = sP (nw M1 100 3) x 6 (some (ln M1)) := ⟨_, rfl⟩
  have f3 : Fo (fun a => a = x) (0 + 1 + 0) (0 + 3 + 0) M M3 := by rw [hM3]; exact (f1.tr Fo.nw).tr (Fo.sP rfl)
  have l3 : ln M3 = ln M + 1 := by rw [hM3]; exact nw_ln.trans (by rw [l1])
  have k3 := f3.kd kx
  obtain ⟨M5, hM5⟩ : ∃ z, z = sP (nw M3 100 3) x 8 (some (ln M3)) := ⟨_, rfl⟩
  have f5 : Fo (fun a => a = x) (0 + 1 + 0 + 1 + 0) (0 + 3 + 0 + 3 + 0) M M5 := by rw [hM5]; exact (f3.tr Fo.nw).tr (Fo.sP rfl)
  have k5 := f5.kd kx
  obtain ⟨M2, hM2⟩ : ∃ z, z = sI (sI (sI (sI (sL M5 x 0 Y) x 1 (iI u)) x 2 (iI u)) x 3 (iI b)) x 4 (iI b) := ⟨_, rfl⟩
  have f2 : Fo (fun a => a = x) (0 + 1 + 0 + 1 + 0 + 0 + 0 + 0 + 0 + 0) (0 + 3 + 0 + 3 + 0 + 0 + 0 + 0 + 0 + 0) M M2 := by rw [hM2]; exact ((((f5.tr (Fo.sL rfl)).tr (Fo.sI rfl)).tr (Fo.sI rfl)).tr (Fo.sI rfl)).tr (Fo.sI rfl)
  obtain ⟨ow, how⟩ : ∃ z : Nat → Int, z = fun a => if a = ln M then 5000 + hEN H 1 else if a = ln M + 1 then 6000 + hEN H 1 else hOw H a := ⟨_, rfl⟩
  have o1 : ∀ a, a < ln M → ow a = hOw H a := fun a p => by rw [how]; exact (if_neg (by omega)).trans (if_neg (by omega))
  have i5 : ∀ f, M5.1 x f = M1.1 x f := fun f => by
    have g3 : Fo (fun _ => False) 1 3 M1 (nw M1 100 3) := Fo.nw
    have g5 : Fo (fun _ => False) 1 3 M3 (nw M3 100 3) := Fo.nw
    rw [hM5, sP_i, g5.i (by omega) id, hM3, sP_i, g3.i (by omega) id]
  refine ⟨M2, ow, Rt.e ?_, h.keep f2 (fun a _ z => by rw [z, ox]; exact h.freP (k := 1) (by omega) (by omega)) o1 (fun k _ _ => f2.p (by omega) (by omega) k) (by omega), ⟨⟨f2.kd kx, (o1 x lx).trans ox, gx⟩, fun f p1 p2 p3 p4 => ?_, ?_, fun s hs => ?_⟩, FN.of hN f2 (fun a _ z => by rw [z]; exact hx)⟩
  · rw [r126]; unfold b126; rw [aR_e, aL_e, aI_e, aI_e, aZ_e]; unfold c126
    refine rs1 (nn_e) ?_
    refine rs1 (ptI_q (z := -2) kx li_m2) ?_
    rw [← hM1]
    rw [li_3]
    refine rs1 (nA_e (by omega) (by omega)) ?_
    refine rs1 (ptP_e (Fo.nw.kd (Z := fun _ => False) k1)) ?_
    show Rt (nA 100 (sP (nw M1 100 3) x 6 (some (ln M1))) (iI 3) _) _
    rw [← hM3]
    refine rs1 (nA_e (by omega) (by omega)) ?_
    refine rs1 (ptP_e (Fo.nw.kd (Z := fun _ => False) k3)) ?_
    show Rt (ptL (11, 10) (sP (nw M3 100 3) x 8 (some (ln M3))) (some x) 0 Y _) _
    rw [← hM5]
    refine rs1 (ptL_q (w := Y) k5 rfl) ?_
    refine rs1 (ptI_q (z := u) k5 e2) ?_
    refine rs1 (ptI_q (z := u) k5 e2) ?_
    refine rs1 (ptI_q (z := b) k5 e3) ?_
    refine rs1 (ptI_q (z := b) k5 e3) ?_
    rw [← hM2]
    exact Rt.ok ⟨rfl, rfl⟩
  · show _ = iI (if f = 1 ∨ f = 2 then u else if f = 3 ∨ f = 4 then b else if f = 5 then -2 else 0)
    have c : f = 1 ∨ f = 2 ∨ f = 3 ∨ f = 4 ∨ f = 5 ∨ f = 7 ∨ f = 9 := by omega
    rw [hM2]
    rcases c with c | c | c | c | c | c | c <;> subst c
    · rw [if_pos (by omega)]; exact (sI_nej (by decide)).trans ((sI_nej (by decide)).trans ((sI_nej (by decide)).trans sI_eq))
    · rw [if_pos (by omega)]; exact (sI_nej (by decide)).trans ((sI_nej (by decide)).trans sI_eq)
    · rw [if_neg (by omega), if_pos (by omega)]; exact (sI_nej (by decide)).trans sI_eq
    · rw [if_neg (by omega), if_pos (by omega)]; exact sI_eq
    · rw [if_neg (by omega), if_neg (by omega), if_pos rfl]
      exact (sI_nej (by decide)).trans ((sI_nej (by decide)).trans ((sI_nej (by decide)).trans ((sI_nej (by decide)).trans (sL_i.trans ((i5 5).trans (by rw [hM1]; exact sI_eq))))))
    · rw [if_neg (by omega), if_neg (by omega), if_neg (by omega)]
      exact (sI_nej (by decide)).trans ((sI_nej (by decide)).trans ((sI_nej (by decide)).trans ((sI_nej (by decide)).trans (sL_i.trans ((i5 7).trans (by rw [hM1]; exact (sI_nej (by decide)).trans h7))))))
    · rw [if_neg (by omega), if_neg (by omega), if_neg (by omega)]
      exact (sI_nej (by decide)).trans ((sI_nej (by decide)).trans ((sI_nej (by decide)).trans ((sI_nej (by decide)).trans (sL_i.trans ((i5 9).trans (by rw [hM1]; exact (sI_nej (by decide)).trans h9))))))
  · rw [hM2]; exact sI_l.trans (sI_l.trans (sI_l.trans (sI_l.trans sL_eq)))
  · have p2 : ∀ j, M2.2.2.1 x j = M5.2.2.1 x j := fun j => by rw [hM2]; rfl
    have g5 : Fo (fun _ => False) 1 3 M3 (nw M3 100 3) := Fo.nw
    have f35 : Fo (fun a => a = x) (1 + 0 + 0 + 0 + 0 + 0 + 0) (3 + 0 + 0 + 0 + 0 + 0 + 0) M3 M2 := by rw [hM2, hM5]; exact ((((((Fo.nw (Z := fun a => a = x)).tr (Fo.sP rfl)).tr (Fo.sL rfl)).tr (Fo.sI rfl)).tr (Fo.sI rfl)).tr (Fo.sI rfl)).tr (Fo.sI rfl)
    have n5 : Fo (fun a => a = x) (0 + 0 + 0 + 0 + 0 + 0) (0 + 0 + 0 + 0 + 0 + 0) (nw M3 100 3) M2 := by rw [hM2, hM5]; exact (((((Fo.sP (Z := fun a => a = x) rfl).tr (Fo.sL rfl)).tr (Fo.sI rfl)).tr (Fo.sI rfl)).tr (Fo.sI rfl)).tr (Fo.sI rfl)
    have n3 : Fo (fun a => a = x) 0 0 (nw M1 100 3) M3 := by rw [hM3]; exact Fo.sP rfl
    have c : s = 0 ∨ s = 1 := by omega
    rcases c with c | c <;> subst c
    · refine ⟨⟨?_, ?_, ?_, by show 259 ≤ ln M + 0; omega⟩, fun i _ => ?_⟩
      · rw [p2, hM5, sP_nej (by decide), g5.p (by omega) id, hM3]
        exact sP_eq.trans (by rw [l1]; rfl)
      · refine f35.kd ?_
        rw [hM3]
        have := nw_kd (M := M1) (u := 100) (m := 3)
        rw [l1] at this
        exact this
      · show ow (ln M + 0) = 5000 + 1000 * ((0 : Nat) : Int) + hEN H 1
        rw [how]; exact (if_pos (by omega)).trans (by omega)
      · have := nw_i (M := M1) (u := 100) (m := 3) (j := i)
        rw [l1] at this
        have w1 : ln (nw M1 100 3) = ln M + 1 := by rw [nw_ln, l1]
        exact (f35.i (a := ln M) (by omega) (by omega) i).trans ((n3.i (by omega) (by omega) i).trans this)
    · refine ⟨⟨?_, ?_, ?_, by show 259 ≤ ln M + 1; omega⟩, fun i _ => ?_⟩
      · rw [p2, hM5]
        exact sP_eq.trans (by rw [l3])
      · refine n5.kd ?_
        have := nw_kd (M := M3) (u := 100) (m := 3)
        rw [l3] at this
        exact this
      · show ow (ln M + 1) = 5000 + 1000 * ((1 : Nat) : Int) + hEN H 1
        rw [how]; exact (if_neg (by omega)).trans ((if_pos rfl).trans (by omega))
      · have := nw_i (M := M3) (u := 100) (m := 3) (j := i)
        rw [l3] at this
        have w1 : ln (nw M3 100 3) = ln M + 1 + 1 := by rw [nw_ln, l3]
        exact (n5.i (a := ln M + 1) (by omega) (by omega) i).trans this
/-- it comes into its list -/
theorem HS.addu {d : Nat} (hd : 8 ≤ d) (h : HS N T (ex + 3) M H) (p : PU M H x y (hEN H 1) F X) (hn : hEN H 1 < 100) : ∃ M2, runX d 350 [va_rf (some (hCL H 1)), va_rf (some x)] M = some (.int (iI 1), M2) ∧ HS N T ex M2 (aU H (owx (hOw H) (ln M) 1) x y F X) ∧ FN N W M M2 := by
  have e := h.n109 (k := 1) (by omega) (by omega)
  obtain ⟨⟨p1, p2, p3⟩, p4, p5, p6⟩ := p
  obtain ⟨M2, a1, a2, a3⟩ := Ls.add hd (h.2.1 1 (by omega) (by omega)) (by omega) p1 (by decide)
  have lx := ln_lt p1
  refine ⟨M2, a1, ?_, FN.of h.1.1 a3 (fun a _ z => h.ge (by omega))⟩
  obtain ⟨⟨⟨b1, b2⟩, b3, b4, b5, b6⟩, b7, b8, b9⟩ := h
  have g1 := a3.1.2.1
  have g2 := a3.1.2.2.1
  have ho : ∀ a, a < ln M → owx (hOw H) (ln M) 1 a = hOw H a := fun a p => owx_o p
  have f65 : ∀ i, M2.2.2.1 65 i = M.2.2.1 65 i := fun i => a3.p (by omega) (by rw [b3 65 (by omega)]; omega) i
  obtain ⟨H', hH'⟩ : ∃ z, z = aU H (owx (hOw H) (ln M) 1) x y F X := ⟨_, rfl⟩
  have hne : ∀ k', k' ≠ 1 → hEN H' k' = hEN H k' := fun k' z => by rw [hH']; exact if_neg z
  have hk : hEN H' 1 = hEN H 1 + 1 := by rw [hH']; show (if (1 : Nat) = 1 then hEN H 1 + 1 else hEN H 1) = _; exact if_pos rfl
  rw [← hH']
  have cO : hOw H' = owx (hOw H) (ln M) 1 := by rw [hH']; rfl
  have cL : hCL H' = hCL H := by rw [hH']; rfl
  refine ⟨⟨⟨b1, Nat.le_trans b2 a3.1.1⟩, fun a p => by rw [cO]; exact (ho a (by omega)).trans (b3 a p), fun k' q1 q2 => by rw [cL]; exact (f65 k').trans (b4 k' q1 q2), ?_, ?_⟩, fun k' q1 q2 => ?_, fun k' q1 q2 j r1 r2 => ?_, fun j r1 r2 => ?_⟩
  · rw [hk, hne 2 (by omega), hne 3 (by omega), hne 4 (by omega)]; omega
  · rw [hk, hne 2 (by omega), hne 3 (by omega), hne 4 (by omega)]; omega
  · rw [cO, cL]
    by_cases z : k' = 1
    · subst z
      have e1 : (up1 (hEC H 1) (hEN H 1) x) = hEC H' 1 := by
        rw [hH']
        funext i
        show (if i = hEN H 1 then x else hEC H 1 i) = if 1 = 1 ∧ i = hEN H 1 then x else hEC H 1 i
        by_cases z : i = hEN H 1
        · rw [if_pos z, if_pos ⟨rfl, z⟩]
        · rw [if_neg z, if_neg (fun w => z w.2)]
      rw [hk, ← e1]
      exact a2
    · rw [hne k' z]
      have e1 : hEC H' k' = hEC H k' := by
        rw [hH']
        funext i
        exact if_neg fun w => z w.1
      rw [e1]
      exact (b7 k' q1 q2).fo a3 (fun a _ z => by omega) ho
  · rw [hne k' (by omega)] at r2
    obtain ⟨⟨c1, c2, c3⟩, c4, c5⟩ := b8 k' q1 q2 j r1 r2
    have l1 := ln_lt c1
    have z1 : ¬ hOw H (hEC H k' j) = ((1 : Nat) : Int) := by omega
    have e1 : hEC H' k' j = hEC H k' j := by rw [hH']; exact if_neg fun w => by omega
    have e2 : ∀ f, hEF H' k' f j = hEF H k' f j := fun f => by rw [hH']; exact if_neg fun w => by omega
    have e3 : hEX H' k' j = hEX H k' j := by rw [hH']; exact if_neg fun w => by omega
    unfold PtK
    rw [e1, e3, cO]
    exact ⟨⟨a3.kd c1, (ho _ l1).trans c2, c3⟩, fun f u v => by rw [e2]; exact (a3.i l1 z1 f).trans (c4 f u v), (a3.l l1 z1 0).trans c5⟩
  · by_cases z : j = hEN H 1
    · have e1 : hEC H' 1 j = x := by rw [hH']; exact if_pos ⟨rfl, z⟩
      have e2 : ∀ f, hEF H' 1 f j = F f := fun f => by rw [hH']; exact if_pos ⟨rfl, z⟩
      have e3 : hEX H' 1 j = X := by rw [hH']; exact if_pos ⟨rfl, z⟩
      have e4 : ∀ s, hUA H' s j = y s := fun s => by rw [hH']; exact if_pos z
      have e5 : ∀ s i, hAV H' s j i = 0 := fun s i => by rw [hH']; exact if_pos z
      have z1 : ¬ hOw H x = ((1 : Nat) : Int) := by omega
      unfold UtK
      rw [e1, e3, cO]
      refine ⟨⟨a3.kd p1, (ho _ lx).trans (by rw [p2, z]), p3⟩, fun f u v w t => by rw [e2]; exact (a3.i lx z1 f).trans (p4 f u v w t), (a3.l lx z1 0).trans p5, fun s hs => ?_⟩
      rw [e4]
      obtain ⟨⟨d1, d2, d3, d4⟩, d5⟩ := p6 s hs
      have l2 := ln_lt d2
      have z2 : ¬ hOw H (y s) = ((1 : Nat) : Int) := by omega
      exact ⟨⟨(a3.p lx z1 _).trans d1, a3.kd d2, (ho _ l2).trans (by rw [d3, z]), d4⟩, fun i u => by rw [e5]; exact (a3.i l2 z2 i).trans (d5 i u)⟩
    · have r3 : j < hEN H 1 := by omega
      obtain ⟨⟨c1, c2, c3⟩, c4, c5, c6⟩ := b9 j r1 r3
      have l1 := ln_lt c1
      have z1 : ¬ hOw H (hEC H 1 j) = ((1 : Nat) : Int) := by omega
      have e1 : hEC H' 1 j = hEC H 1 j := by rw [hH']; exact if_neg fun w => z w.2
      have e2 : ∀ f, hEF H' 1 f j = hEF H 1 f j := fun f => by rw [hH']; exact if_neg fun w => z w.2
      have e3 : hEX H' 1 j = hEX H 1 j := by rw [hH']; exact if_neg fun w => z w.2
      have e4 : ∀ s, hUA H' s j = hUA H s j := fun s => by rw [hH']; exact if_neg z
      have e5 : ∀ s i, hAV H' s j i = hAV H s j i := fun s i => by rw [hH']; exact if_neg z
      unfold UtK
      rw [e1, e3, cO]
      refine ⟨⟨a3.kd c1, (ho _ l1).trans c2, c3⟩, fun f u v w t => by rw [e2]; exact (a3.i l1 z1 f).trans (c4 f u v w t), (a3.l l1 z1 0).trans c5, fun s hs => ?_⟩
      rw [e4]
      obtain ⟨⟨d1, d2, d3, d4⟩, d5⟩ := c6 s hs
      have l2 := ln_lt d2
      have z2 : ¬ hOw H (hUA H s j) = ((1 : Nat) : Int) := by omega
      exact ⟨⟨(a3.p l1 z1 _).trans d1, a3.kd d2, (ho _ l2).trans d3, d4⟩, fun i u => by rw [e5]; exact (a3.i l2 z2 i).trans (d5 i u)⟩
end S69
