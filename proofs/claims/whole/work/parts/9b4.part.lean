/-! the reference's machine: what done() promises -/
/-- n codes are below, par arguments on the stack: u is the state once the code has begun -/
def zRI (e u : ZS) (M : Mem) (n par : Int) : Prop := (u.1 0 0 0 = n + 1 ∧ u.1 1 0 0 = 0 ∧ u.1 3 n 0 = 0 ∧ u.1 4 n 0 = 0 ∧ u.1 16 n 0 = par) ∧ zRG e u M ∧ (∀ i, 0 ≤ i → i < n → zRf u M i) ∧ (M.1 160 76 = iI n ∧ M.1 160 73 = iI (u.1 6 n 0 + par) ∧ M.1 160 85 = iI 0 ∧ M.1 160 86 = iI 0) ∧ ∀ k, 0 ≤ k → k < par → M.1 213 (u.1 6 n 0 + k).toNat = u.2 0 n k
/-- a code below is the same -/
def zBe (u t : ZS) (i : Int) : Prop := (∀ k, k = 2 ∨ k = 3 ∨ k = 4 ∨ k = 5 ∨ k = 6 ∨ k = 16 → t.1 k i 0 = u.1 k i 0) ∧ (∀ x, t.1 7 i x = u.1 7 i x) ∧ ∀ x, t.2 0 i x = u.2 0 i x ∧ t.2 1 i x = u.2 1 i x
def zBl (u t : ZS) (n : Int) : Prop := t.1 0 0 0 = n ∧ (∀ i, 0 ≤ i → i < n → zBe u t i) ∧ t.1 5 n 0 = u.1 5 n 0 ∧ t.1 6 n 0 = u.1 6 n 0
/-- what comes of a code -/
def zRB (e u : ZS) (n : Int) (M M' : Mem) (r : Int32) : Prop := ∃ t, zto e u t ∧ zRq e t M M' ∧
  ((zBl u t n ∧ zRG e t M' ∧ (∀ i, 0 ≤ i → i < n → zRf t M' i) ∧ (M'.1 160 76 = iI n ∧ M'.1 160 73 = iI (u.1 6 n 0) ∧ M'.1 160 85 = iI 0) ∧ ((t.1 1 0 0 = 2 ∧ M'.1 160 86 = iI 0 ∧ r = t.2 6 0 0) ∨ ((t.1 1 0 0 = 4 ∨ t.1 1 0 0 = 8) ∧ M'.1 160 86 = iI 1 ∧ M'.1 160 87 = iI (if t.1 1 0 0 = 8 then 1 else 0) ∧ M'.1 160 88 = t.2 5 0 0 ∧ M'.1 160 89 = iI (t.1 13 0 0)))) ∨
   ((t.1 1 0 0 = 5 ∨ t.1 1 0 0 = 6) ∧ zRZ e t M'))
/-- so it is done, with N STEPS at most -/
def zRD (e : ZS) (R : Int → RG) (L : Int → Int) (N : Int) : Prop := ∀ (d : Nat) (u : ZS) (M : Mem) (n par : Int) (v1 v2 : Int32), 0 ≤ n → n < 12 → 4 * (12 - n) + 12 ≤ d → u.1 9 0 0 ≤ N → zRE e R L M → zKn e u → zRI e u M n par → v1 = iI (u.1 2 n 0) → v2 = iI par → ∃ r M', runX d 243 [va_rf (some 160), .int v1, .int v2] M = some (.int r, M') ∧ zRB e u n M M' r
section S9b4
variable {d : Nat} {e s s' t u A : ZS} {M M' M1 M2 : Mem} {a b j N x y : Nat} {v v1 v2 v3 w : Int32} {c k i n m p o q id key par : Int} {R : Int → RG} {G : RG} {L : Int → Int} {Y : Nat → Int → Int}
theorem zLr.cg (h : zLr s) (h0 : s'.1 0 0 0 = s.1 0 0 0) (g : ∀ i, 0 ≤ i → i < s.1 0 0 0 → ∀ k, k = 3 ∨ k = 4 ∨ k = 6 ∨ k = 16 → s'.1 k i 0 = s.1 k i 0) : zLr s' := by
  obtain ⟨h1, h2, h3, h4⟩ := h
  have zfe : zf s = s.1 0 0 0 - 1 := rfl
  have ef : zf s' = zf s := by unfold zf; rw [h0]
  refine ⟨by rw [h0]; exact h1, fun i p q => ?_, fun i p q => ?_, ?_⟩
  · rw [h0] at q
    rw [g i p q 6 (by omega), g i p q 16 (by omega), g i p q 4 (by omega)]
    exact h2 i p q
  · rw [ef] at q ⊢
    rw [g i p (by omega) 3 (by omega), g i p (by omega) 6 (by omega), g (zf s) (by omega) (by omega) 6 (by omega)]
    exact h3 i p q
  · unfold zh at h4 ⊢
    rw [ef, g (zf s) (by omega) (by omega) 3 (by omega)]
    exact h4
theorem zRf.be (h : zRf s M i) (g : zBe s s' i) : zRf s' M i := h.lo (fun _ _ _ => rfl) (fun _ _ _ => rfl) (fun _ _ _ => rfl) (g.1 3 (by omega)) (g.1 4 (by omega)) (g.1 6 (by omega)) (g.1 16 (by omega)) g.2.1 (fun x => (g.2.2 x).1) (fun x => (g.2.2 x).2)
theorem zBe.r : zBe s s i := ⟨fun _ _ => rfl, fun _ => rfl, fun _ => ⟨rfl, rfl⟩⟩
theorem zBe.tr (h : zBe s t i) (g : zBe t u i) : zBe s u i := ⟨fun k p => (g.1 k p).trans (h.1 k p), fun x => (g.2.1 x).trans (h.2.1 x), fun x => ⟨(g.2.2 x).1.trans (h.2.2 x).1, (g.2.2 x).2.trans (h.2.2 x).2⟩⟩
/-- what a new code leaves below it -/
theorem zent_be {st sb : Int} (h : i ≠ s.1 0 0 0) : zBe s (zent s c st sb m) i := ⟨fun k p => by
  rcases p with p | p | p | p | p | p <;> subst p
  · exact zi_i (s := s) h
  · exact zi_i (s := s) h
  · exact zi_i (s := s) h
  · exact zi_i (s := s) h
  · exact zi_i (s := s) h
  · exact zi_i (s := s) h, fun _ => rfl, fun _ => ⟨rfl, rfl⟩⟩
theorem zent_v {st sb : Int} : (zent s c st sb m).1 0 0 0 = s.1 0 0 0 + 1 ∧ (zent s c st sb m).1 1 0 0 = s.1 1 0 0 ∧ (zent s c st sb m).1 2 (s.1 0 0 0) 0 = c ∧ (zent s c st sb m).1 3 (s.1 0 0 0) 0 = 0 ∧ (zent s c st sb m).1 4 (s.1 0 0 0) 0 = 0 ∧ (zent s c st sb m).1 5 (s.1 0 0 0) 0 = st ∧ (zent s c st sb m).1 6 (s.1 0 0 0) 0 = sb ∧ (zent s c st sb m).1 16 (s.1 0 0 0) 0 = m := by
  refine ⟨zi_e, rfl, ?_, ?_, ?_, ?_, ?_, ?_⟩
  · exact zi_e (s := s) (k := 2) (i := s.1 0 0 0) (j := 0) (v := c)
  · exact zi_e (s := s) (k := 3) (i := s.1 0 0 0) (j := 0) (v := 0)
  · exact zi_e (s := s) (k := 4) (i := s.1 0 0 0) (j := 0) (v := 0)
  · exact zi_e (s := s) (k := 5) (i := s.1 0 0 0) (j := 0) (v := st)
  · exact zi_e (s := s) (k := 6) (i := s.1 0 0 0) (j := 0) (v := sb)
  · exact zi_e (s := s) (k := 16) (i := s.1 0 0 0) (j := 0) (v := m)
theorem zent_G {st sb : Int} : zGr s (zent s c st sb m) := ⟨fun k p => by rcases p with p | p | p | p | p | p | p | p <;> subst p <;> rfl, fun _ _ _ _ => rfl⟩
/-- a START begins -/
theorem zRM.ist (h : zRM e s M) (hm : s.1 1 0 0 = 0) (hl : zLr s) : zRI e (zent s c k (s.1 6 (zf s) 0 + zh s) 0) M (s.1 0 0 0) 0 := by
  obtain ⟨hG, hF, h76, h73, h85, h86⟩ := h
  obtain ⟨v0, v1, v2, v3, v4, v5, v6, v7⟩ := zent_v (s := s) (c := c) (m := 0) (st := k) (sb := s.1 6 (zf s) 0 + zh s)
  refine ⟨⟨v0, v1.trans hm, v3, v4, v7⟩, hG.ff zRw.r zent_G, fun i p q => (hF i p q).be (zent_be (by omega)), ⟨h76, ?_, h85, h86⟩, fun k a b => by omega⟩
  rw [h73, v6]
  exact congrArg iI (by unfold zsp; omega)
/-- a CALL begins -/
theorem zRM.ica (h : zRM e s M) (hm : s.1 1 0 0 = 0) (hl : zLr s) (hp : 0 ≤ par ∧ par ≤ zh s) : zRI e (zent (zdn (zarg s par) par) c (-1) (s.1 6 (zf s) 0 + (zh s - par)) par) M (s.1 0 0 0) par := by
  obtain ⟨hG, hF, h76, h73, h85, h86⟩ := h
  have l1 := hl.1
  have zfe : zf s = s.1 0 0 0 - 1 := rfl
  obtain ⟨v0, v1, v2, v3, v4, v5, v6, v7⟩ := zent_v (s := zdn (zarg s par) par) (c := c) (m := par) (st := -1) (sb := s.1 6 (zf s) 0 + (zh s - par))
  have e0 : (zdn (zarg s par) par).1 0 0 0 = s.1 0 0 0 := rfl
  rw [e0] at v0 v2 v3 v4 v5 v6 v7
  have wa : ∀ k i j, (zarg s par).2 k i j = if k = 0 ∧ i = s.1 0 0 0 ∧ 0 ≤ j ∧ j < par then s.2 1 (zf s) (zh s - par + j) else s.2 k i j := fun _ _ _ => rfl
  refine ⟨⟨v0, v1.trans hm, v3, v4, v7⟩, ?_, fun i p q => ?_, ⟨h76, ?_, h85, h86⟩, fun k a b => ?_⟩
  · refine hG.ff zRw.r ⟨fun k p => by rcases p with p | p | p | p | p | p | p | p <;> subst p <;> rfl, fun k p _ _ => ?_⟩
    funext x y
    show (zarg s par).2 k x y = _
    rw [wa, if_neg (by omega)]
  · obtain ⟨a1, a2, a3⟩ := hF i p q
    have be := zent_be (s := zdn (zarg s par) par) (c := c) (m := par) (st := -1) (sb := s.1 6 (zf s) 0 + (zh s - par)) (i := i) (by rw [e0]; omega)
    refine zRf.be ?_ be
    refine ⟨fun k u w => ?_, fun k u w => a2 k u w, fun k u w => ?_⟩
    · show _ = (zarg s par).2 0 i k
      rw [wa, if_neg (by omega)]
      exact a1 k u w
    · show _ = (zarg s par).2 1 i k
      rw [wa, if_neg (by omega)]
      refine a3 k u ?_
      by_cases y : i = zf s
      · rw [y] at w ⊢
        have e3 : (zdn (zarg s par) par).1 3 (zf s) 0 = zh s - par := zi_e
        rw [e3] at w
        show k < zh s
        omega
      · have e3 : (zdn (zarg s par) par).1 3 i 0 = s.1 3 i 0 := zi_i y
        rw [e3] at w; exact w
  · rw [h73, v6]
    exact congrArg iI (by unfold zsp; omega)
  · rw [v6]
    show _ = (zarg s par).2 0 (s.1 0 0 0) k
    rw [wa, if_pos ⟨rfl, rfl, a, b⟩]
    have := (hF (zf s) (by omega) (by omega)).2.2 (zh s - par + k) (by omega) (by show _ < zh s; omega)
    rw [← this]
    exact congrArg (fun z : Int => M.1 213 z.toNat) (by omega)
/-- heights at an instruction that uses a member -/
theorem zWT.hu (h : zWT e s) (hm : s.1 1 0 0 = 0) (hT : zET e) (ho : 3 ≤ zop e (zpc s) ∧ zop e (zpc s) ≤ 7) : zIn e (zpc s) ∧ (zop e (zpc s) = 4 ∨ zop e (zpc s) = 5 → 1 ≤ zh s) ∧ (zop e (zpc s) = 6 → 2 ≤ zh s) ∧ (zop e (zpc s) = 7 → 0 ≤ e.1 2 (zpc s) 0 → 0 ≤ e.1 5 (e.1 2 (zpc s) 0) 0 ∧ e.1 5 (e.1 2 (zpc s) 0) 0 ≤ zh s ∧ e.1 5 (e.1 2 (zpc s) 0) 0 ≤ 4 ∧ e.1 4 (e.1 2 (zpc s) 0) 0 = 4) := by
  have q : ∃ Y a c, zwf e s (zf s) Y a c ∧ zh s = Y 0 (zpc s) := by
    rcases h.2 with ⟨-, h1, w, -⟩ | ⟨z, -⟩ | ⟨z, -⟩ | z | z
    · exact w
    all_goals omega
  obtain ⟨Y, a, c, w, hh⟩ := q
  have hin : zIn e (zpc s) := w.1.in _ w.2.1.1 w.2.1.2
  have op := (w.1.2 (zpc s) w.2.1.1 w.2.1.2).2.2
  refine ⟨hin, fun z => ?_, fun z => ?_, fun z z2 => ?_⟩
  · rcases z with z | z
    · have := (op.2.2.2.2.2.1 (Or.inl z)).1; omega
    · have := (op.2.2.2.2.2.2.1 (Or.inl z)).1; omega
  · have := (op.2.2.2.2.2.2.2.1 (Or.inl z)).1; omega
  · have g := op.2.2.2.2.2.2.2.2.1 (Or.inl z)
    rcases hT.2.1 (zpc s) hin ho.1 ho.2 with ⟨x, -⟩ | ⟨-, -, -, -, -, x⟩
    · omega
    · obtain ⟨x1, x2, x3, x4, -⟩ := x z
      have g1 := g.1
      have g2 := g.2.1
      omega
end S9b4
