/-! a BUILD is made, in the class -/
section S9dh
variable {d : Nat} {g0 g1 : PG} {M M' : Mem} {a j x N b : Nat} {p p0 p1 k u i m c z r r2 : Int} {y y0 : Int64} {v : Int32} {R0 R1 : RG} {L lk : Int → Int}
theorem lkB.one (h : lkB R0 R1 m u r) (g : lkB R0 R1 m u r2) : r = r2 := by
  obtain ⟨x1, a1, a2, a3⟩ := h
  obtain ⟨x2, b1, b2, b3⟩ := g
  have e := a1.one b1
  subst e
  omega
/-- the units' row -/
theorem bc0_24 (hd : 5 ≤ d) (h0 : PkP g0) (h1 : PkP g1) (hC0 : PkC p0 g0 M) (hC1 : PkC p1 g1 M) (hl : 259 ≤ ln M) (kb : M.2.2.2[b]? = some (1, 4) ∧ M.2.2.1 b 2 = some (b + 1) ∧ M.2.2.2[b + 1]? = some (100, 8)) (hx : gX g0 + 18 ≤ b ∧ gX g1 + 18 ≤ b) (hL : ∀ u, 0 ≤ u → u < (gR g0).1 1 0 0 → LcF (hEX (gH g1) 1) (hEN (gH g1) 1) (hEX (gH g0) 1 u) (L u)) : ∃ M', (∀ J : Mem → XA, lp (c0_24 (runX d) (some b) (some (gX g0)) (some (gX g1)) J) 4294967296 ((0 : Int32), M) = J M') ∧ Fz (fun a _ => a = b + 1) M M' ∧ ∀ u : Int, 0 ≤ u → u < 8 → M'.1 (b + 1) u.toNat = iI (if u < (gR g0).1 1 0 0 then (if L u = -1 then -2 else L u) else -2) := by
  have n0 := h0.1.n2
  have n1 := h1.1.n2
  have g0l := h0.2.2
  have g1l := h1.2.2
  have l8 : (8 : Int32) = iI 8 := rfl
  refine lp_usej (b := fun J => c0_24 (runX d) (some b) (some (gX g0)) (some (gX g1)) J) (R := fun J s => J s.2) 8 (fun k s => s.1 = iI (k : Int) ∧ Fz (fun a _ => a = b + 1) M s.2 ∧ ∀ u : Int, 0 ≤ u → u < k → s.2.1 (b + 1) u.toNat = iI (if u < (gR g0).1 1 0 0 then (if L u = -1 then -2 else L u) else -2)) ((0 : Int32), M) 4294967296 (by omega) ⟨li_0, Fz.r, fun q a b => by omega⟩ (fun s' g1 g2 => ?_) (fun k s hk' hI => ?_) (fun s hI J go => ?_)
  · exact ⟨s'.2, g2, g1.2.1, fun q a b => g1.2.2 q a (by omega)⟩
  · obtain ⟨i1, Mk⟩ := s
    obtain ⟨u1, u2, u3⟩ := hI
    dsimp only at u1 u2 u3
    subst u1
    have fg : FG (fun a _ => a = b + 1) M Mk := u2.fg hl
    have hC0' : PkC p0 g0 Mk := hC0.fg h0 fg fun a j z x1 x2 => by omega
    have hC1' : PkC p1 g1 Mk := hC1.fg h1 fg fun a j z x1 x2 => by omega
    have q2 : Mk.2.2.1 = M.2.2.1 := congrArg (fun z => z.2.1) u2.1
    have q3 : Mk.2.2.2 = M.2.2.2 := congrArg (fun z => z.2.2) u2.1
    have kb1 : Mk.2.2.2[b]? = some (1, 4) := by rw [q3]; exact kb.1
    have kb2 : Mk.2.2.1 b 2 = some (b + 1) := by rw [q2]; exact kb.2.1
    have kb3 : Mk.2.2.2[b + 1]? = some (100, 8) := by rw [q3]; exact kb.2.2
    obtain ⟨⟨⟨o1, o2, o3⟩, o4, -⟩, -, -, hLs, hT, hU⟩ := id hC0'
    have l := hLs 1 (by decide) (by decide)
    obtain ⟨vv, hvv⟩ : ∃ vv : Int, vv = if (k : Int) < (gR g0).1 1 0 0 then (if L k = -1 then -2 else L k) else -2 := ⟨_, rfl⟩
    refine ⟨(iI ((k + 1 : Nat) : Int), sI Mk (b + 1) ((k : Int)).toNat (iI vv)), ⟨rfl, u2.si rfl, fun q a b => ?_⟩, fun J go => ?_⟩
    · dsimp only
      by_cases y : q = (k : Int)
      · rw [y, ← hvv]; exact sI_eq
      · exact (sI_nej (by omega)).trans (u3 q a (by omega))
    · unfold c0_24
      dsimp only
      rw [if_neg (show ¬ (8 : Int32) ≤ iI (k : Int) from leI_n (x := 8) (y := (k : Int)) rfl rfl (by omega)), gtP_q kb1 kb2, gtP_q o1 (o4 1 (by decide) (by decide)), vC_e l.1.2.1, cI_e (ls_size (by omega) l), jn_v]
      by_cases y : (k : Int) < (gR g0).1 1 0 0
      · rw [if_pos y] at hvv
        obtain ⟨⟨w1, w2, w3⟩, w4, w5, w6⟩ := hU (k : Int) (by omega) (by omega)
        obtain ⟨r, t1, t2⟩ := bc1 (d := d) (y := hEX (gH g0) 1 k) hd h1 hC1'
        have er := t1.one (hL k (by omega) y)
        subst er
        rw [if_neg (leI_n rfl rfl (by omega)), gtP_q o1 (o4 1 (by decide) (by decide)), vC_e l.1.2.1, cP_e (ls_get (by omega) l rfl (by omega)), cst_e w1, gtL_q w1 w5, cI_e t2, ← hvv, jv_e, asI_e (z := (k : Int)) (n := 8) kb3 (by omega) (by omega) (by omega)]
        exact ltI_q (z := ((k + 1 : Nat) : Int)) (cvI (adI rfl li_1) (by omega))
      · rw [if_neg y] at hvv
        rw [if_pos (leI_p rfl rfl (by omega)), jv_e, asI_e (z := (k : Int)) (n := 8) kb3 (by omega) (by omega) (by omega), show (-2 : Int32) = iI vv by rw [hvv]; rfl]
        exact ltI_q (z := ((k + 1 : Nat) : Int)) (cvI (adI rfl li_1) (by omega))
  · obtain ⟨i1, Mk⟩ := s
    obtain ⟨u1, u2, u3⟩ := hI
    dsimp only at u1 u2 u3
    subst u1
    unfold c0_24
    dsimp only
    rw [if_pos (show (8 : Int32) ≤ iI ((8 : Nat) : Int) from Int32.le_refl _)]
/-- the members' row -/
theorem bc0_91 (hd : 5 ≤ d) (h0 : PkP g0) (h1 : PkP g1) (hC0 : PkC p0 g0 M) (hC1 : PkC p1 g1 M) (hl : 259 ≤ ln M) (kb : M.2.2.2[b]? = some (1, 4) ∧ (M.2.2.1 b 2 = some (b + 1) ∧ M.2.2.1 b 3 = some (b + 2)) ∧ M.2.2.2[b + 1]? = some (100, 8) ∧ M.2.2.2[b + 2]? = some (100, ((gR g0).1 2 0 0).toNat)) (hx : gX g0 + 18 ≤ b ∧ gX g1 + 18 ≤ b) (hL : ∀ u, 0 ≤ u → u < (gR g0).1 1 0 0 → LcF (hEX (gH g1) 1) (hEN (gH g1) 1) (hEX (gH g0) 1 u) (L u)) (hrow : ∀ u : Int, 0 ≤ u → u < (gR g0).1 1 0 0 → M.1 (b + 1) u.toNat = iI (if L u = -1 then -2 else L u)) (hlk : ∀ m, 0 ≤ m → m < (gR g0).1 2 0 0 → (L ((gR g0).1 2 1 m) < 0 ∧ lk m = -2) ∨ (0 ≤ L ((gR g0).1 2 1 m) ∧ lkB (gR g0) (gR g1) m (L ((gR g0).1 2 1 m)) (lk m))) : ∃ M', (∀ J : Mem → XA, lp (c0_91 (runX d) (some b) (some (gX g0)) (some (gX g1)) J) 4294967296 ((0 : Int32), M) = J M') ∧ Fz (fun a _ => a = b + 2) M M' ∧ ∀ m : Int, 0 ≤ m → m < (gR g0).1 2 0 0 → M'.1 (b + 2) m.toNat = iI (lk m) := by
  have n0 := h0.1.n2
  have n1 := h1.1.n2
  have g0l := h0.2.2
  have g1l := h1.2.2
  refine lp_usej (b := fun J => c0_91 (runX d) (some b) (some (gX g0)) (some (gX g1)) J) (R := fun J s => J s.2) ((gR g0).1 2 0 0).toNat (fun k s => s.1 = iI (k : Int) ∧ Fz (fun a _ => a = b + 2) M s.2 ∧ ∀ m : Int, 0 ≤ m → m < k → s.2.1 (b + 2) m.toNat = iI (lk m)) ((0 : Int32), M) 4294967296 (by omega) ⟨li_0, Fz.r, fun q a b => by omega⟩ (fun s' g1 g2 => ?_) (fun k s hk' hI => ?_) (fun s hI J go => ?_)
  · exact ⟨s'.2, g2, g1.2.1, fun q a b => g1.2.2 q a (by omega)⟩
  · obtain ⟨i1, Mk⟩ := s
    obtain ⟨u1, u2, u3⟩ := hI
    dsimp only at u1 u2 u3
    subst u1
    have fg : FG (fun a _ => a = b + 2) M Mk := u2.fg hl
    have hC0' : PkC p0 g0 Mk := hC0.fg h0 fg fun a j z x1 x2 => by omega
    have hC1' : PkC p1 g1 Mk := hC1.fg h1 fg fun a j z x1 x2 => by omega
    have q2 : Mk.2.2.1 = M.2.2.1 := congrArg (fun z => z.2.1) u2.1
    have q3 : Mk.2.2.2 = M.2.2.2 := congrArg (fun z => z.2.2) u2.1
    have kb1 : Mk.2.2.2[b]? = some (1, 4) := by rw [q3]; exact kb.1
    have kb2 : Mk.2.2.1 b 2 = some (b + 1) := by rw [q2]; exact kb.2.1.1
    have kb2' : Mk.2.2.1 b 3 = some (b + 2) := by rw [q2]; exact kb.2.1.2
    have kb3 : Mk.2.2.2[b + 1]? = some (100, 8) := by rw [q3]; exact kb.2.2.1
    have kb4 : Mk.2.2.2[b + 2]? = some (100, ((gR g0).1 2 0 0).toNat) := by rw [q3]; exact kb.2.2.2
    obtain ⟨⟨⟨o1, o2, o3⟩, o4, -⟩, -, -, hLs, hT, hU⟩ := id hC0'
    have l := hLs 2 (by decide) (by decide)
    obtain ⟨⟨t1, t2, t3⟩, t4, t5⟩ := hT 2 (by decide) (by decide) (k : Int) (by omega) (by omega)
    obtain ⟨e1, e2, e3, e4, e5, e6, e7, -⟩ := h0.1.1.2.2.2.1 (k : Int) (by omega) (by omega)
    have tf : ∀ f, 1 ≤ f → f ≤ 5 → Mk.1 (hEC (gH g0) 2 k) f = iI ((gR g0).1 2 f k) := fun f x1 x2 => (t4 f x1 (by omega)).trans (congrArg iI (e2 f x1 x2))
    have rw1 : Mk.1 (b + 1) ((gR g0).1 2 1 k).toNat = iI (if L ((gR g0).1 2 1 k) = -1 then -2 else L ((gR g0).1 2 1 k)) := (u2.2 _ _ (by omega)).trans (hrow _ e3.1 (by omega))
    have Lb : -1 ≤ L ((gR g0).1 2 1 k) ∧ L ((gR g0).1 2 1 k) < (gR g1).1 1 0 0 := by
      rcases hL _ e3.1 (by omega) with ⟨x1, x2, -⟩ | ⟨x1, -⟩
      · omega
      · omega
    refine ⟨(iI ((k + 1 : Nat) : Int), sI Mk (b + 2) ((k : Int)).toNat (iI (lk k))), ⟨rfl, u2.si rfl, fun q a b => ?_⟩, fun J go => ?_⟩
    · dsimp only
      by_cases y : q = (k : Int)
      · rw [y]; exact sI_eq
      · exact (sI_nej (by omega)).trans (u3 q a (by omega))
    · unfold c0_91
      dsimp only
      rw [gtP_q kb1 kb2', aln_q' kb4, if_neg (leI_n (y := (k : Int)) rfl rfl (by omega)), gtP_q o1 (o4 2 (by decide) (by decide)), vC_e l.1.2.1, cP_e (ls_get (by omega) l rfl (by omega)), cst_e t1, gtP_q kb1 kb2, gtI_q t1 (tf 1 (by decide) (by decide)), alI_q (n := 8) (z := (gR g0).1 2 1 k) kb3 rfl (by omega) rw1, gtP_q kb1 kb2', jn_v]
      rcases hlk k (by omega) (by omega) with ⟨x1, x2⟩ | ⟨x1, x2⟩
      · rw [if_pos (show L ((gR g0).1 2 1 k) = -1 by omega), if_neg (show ¬ 0 ≤ iI (-2) by decide), jv_e, x2, asI_e (z := (k : Int)) (n := ((gR g0).1 2 0 0).toNat) kb4 (by omega) (by omega) (by omega)]
        exact ltI_q (z := ((k + 1 : Nat) : Int)) (cvI (adI rfl li_1) (by omega))
      · obtain ⟨r, y1, y2⟩ := bc2 (d := d) (m := (k : Int)) (u := L ((gR g0).1 2 1 k)) (R0 := gR g0) hd h1 hC1' ⟨x1, Lb.2⟩ (cc := hEC (gH g0) 2 k) ⟨t1, t5.trans e1, tf 2 (by decide) (by decide), tf 4 (by decide) (by decide)⟩ ⟨e4, e6⟩ rfl
        have er := y1.one x2
        subst er
        rw [if_neg (show ¬ L ((gR g0).1 2 1 k) = -1 by omega), if_pos (show 0 ≤ iI (L ((gR g0).1 2 1 k)) from leI_p (x := 0) li_0 rfl (by omega)), cI_e y2, jv_e, asI_e (z := (k : Int)) (n := ((gR g0).1 2 0 0).toNat) kb4 (by omega) (by omega) (by omega)]
        exact ltI_q (z := ((k + 1 : Nat) : Int)) (cvI (adI rfl li_1) (by omega))
  · obtain ⟨i1, Mk⟩ := s
    obtain ⟨u1, u2, u3⟩ := hI
    dsimp only at u1 u2 u3
    subst u1
    have q2 : Mk.2.2.1 = M.2.2.1 := congrArg (fun z => z.2.1) u2.1
    have q3 : Mk.2.2.2 = M.2.2.2 := congrArg (fun z => z.2.2) u2.1
    have kb1 : Mk.2.2.2[b]? = some (1, 4) := by rw [q3]; exact kb.1
    have kb2' : Mk.2.2.1 b 3 = some (b + 2) := by rw [q2]; exact kb.2.1.2
    have kb4 : Mk.2.2.2[b + 2]? = some (100, ((gR g0).1 2 0 0).toNat) := by rw [q3]; exact kb.2.2.2
    unfold c0_91
    dsimp only
    rw [gtP_q kb1 kb2', aln_q' kb4, if_pos (Int32.le_refl _)]
end S9dh
