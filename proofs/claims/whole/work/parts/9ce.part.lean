/-! the class's own lists: parcels, builds, histories -/
/-- a list at a cell L of the beginning, of n things C 0, C 1 ..; its row is r's -/
def Lf (ow : Nat → Int) (L : Nat) (r : Int) (C : Int → Nat) (n : Int) (M : Mem) : Prop := (M.2.2.2[L]? = some (0, 3) ∧ L < 259 ∧ 0 ≤ n ∧ n ≤ 8) ∧ M.1 L 2 = iI n ∧ (∀ j, 0 ≤ j → j < n → ∃ q : Nat × Nat, M.2.2.2[C j]? = some q ∧ q.1 < 14) ∧ ((n = 0 ∧ M.2.2.1 L 1 = some 2 ∧ M.2.2.2[2]? = some (210, 0)) ∨ ∃ D, M.2.2.1 L 1 = some D ∧ (259 ≤ D ∧ M.2.2.2[D]? = some (110, 10) ∧ ow D = r) ∧ ∀ j, 0 ≤ j → j < n → M.2.2.1 D j.toNat = some (C j))
section S9ce
variable {d : Nat} {M M' M2 : Mem} {L a j x : Nat} {ow ow' : Nat → Int} {r n i : Int} {C C' : Int → Nat} {q : Nat × Nat} {v : Int32} {Z : Nat → Nat → Prop}
theorem Lf.cg (h : Lf ow L r C n M) (f : ∀ j, 0 ≤ j → j < n → C' j = C j) : Lf ow L r C' n M := by
  obtain ⟨h1, h2, h3, h4⟩ := h
  refine ⟨h1, h2, fun j a b => by rw [f j a b]; exact h3 j a b, ?_⟩
  rcases h4 with h4 | ⟨D, e1, e2, e3⟩
  · exact Or.inl h4
  · exact Or.inr ⟨D, e1, e2, fun j a b => by rw [f j a b]; exact e3 j a b⟩
theorem Lf.fg (h : Lf ow L r C n M) (f : FG Z M M') (ho : ∀ a, a < ln M → ow' a = ow a) (w1 : ∀ j, ¬ Z L j) (w2 : ∀ a j, 259 ≤ a → ow a = r → ¬ Z a j) : Lf ow' L r C n M' := by
  obtain ⟨⟨h1, h2, h3, h3'⟩, h5, h6, h7⟩ := h
  have l1 := ln_lt h1
  refine ⟨⟨f.2.1 _ _ h1, h2, h3, h3'⟩, (f.i l1 (w1 _)).trans h5, fun j p q => ?_, ?_⟩
  · obtain ⟨z, z1, z2⟩ := h6 j p q
    exact ⟨z, f.2.1 _ _ z1, z2⟩
  · rcases h7 with ⟨e1, e2, e3⟩ | ⟨D, e1, ⟨e2, e3, e4⟩, e5⟩
    · exact Or.inl ⟨e1, (f.pt l1 (w1 _)).trans e2, f.2.1 _ _ e3⟩
    · exact Or.inr ⟨D, (f.pt l1 (w1 _)).trans e1, ⟨e2, f.2.1 _ _ e3, (ho _ (ln_lt e3)).trans e4⟩, fun j p q => (f.pt (ln_lt e3) (w2 _ _ e2 e4)).trans (e5 j p q)⟩
theorem lf_size (hd : 1 ≤ d) (h : Lf ow L r C n M) : runX d 346 [va_rf (some L)] M = some (.int (iI n), M) := by
  obtain ⟨d, rfl⟩ : ∃ e, d = e + 1 := ⟨d - 1, by omega⟩
  rw [r346]; unfold b346; rw [aR_e, aZ_e]; unfold c346
  rw [gtI_q h.1.1 h.2.1]
theorem lf_get (hd : 3 ≤ d) (h : Lf ow L r C n M) (hv : v = iI i) (hj : 0 ≤ i ∧ i < n) : runX d 348 [va_rf (some L), .int v] M = some (va_rf (some (C i)), M) := by
  obtain ⟨d, rfl⟩ : ∃ e, d = e + 3 := ⟨d - 3, by omega⟩
  obtain ⟨⟨h1, h2, h3, h3'⟩, h5, h6, h7⟩ := h
  rcases h7 with ⟨e1, -⟩ | ⟨D, e1, ⟨e2, e3, e4⟩, e5⟩
  · omega
  · refine Rt.e ?_
    rw [r348]; unfold b348; rw [aR_e, aI_e, aZ_e]; unfold c348
    refine rs1 (gtI_q h1 h5) ?_
    have x1 : runX (d + 1) 360 [.int v, .int (iI n), va_rf none] M = some (.int v, M) := by
      rw [r360]; unfold b360; rw [aI_e, aI_e, aR_e, aZ_e]; unfold c360
      refine Rt.e ?_
      refine rs1 (jn_v) ?_
      refine rs1 (if_neg (lsI_n hv li_0 (by omega))) ?_
      refine rs1 (if_pos (lsI_p hv rfl (by omega))) ?_
      exact Rt.ok ⟨rfl, rfl⟩
    have x2 : runX (d + 2) 357 [.int v, .int (iI n)] M = some (.int v, M) := by
      rw [r357]; unfold b357; rw [aI_e, aI_e, aZ_e]; unfold c357
      rw [cI_e x1]
    refine rs1 (cI_e x2) ?_
    refine rs1 (vC_e h1) ?_
    have x3 : runX (d + 2) 347 [va_rf (some L), .int v] M = some (va_rf (some (C i)), M) := by
      rw [r347]; unfold b347; rw [aR_e, aI_e, aZ_e]; unfold c347
      rw [gtP_q h1 e1, alP_q e3 hv (by omega) (e5 i hj.1 hj.2)]
    refine rs1 (cP_e x3) ?_
    exact Rt.ok ⟨rfl, rfl⟩
theorem Lf.add (hd : 8 ≤ d) (h : Lf ow L r C n M) (hn : n < 8) (hl : 259 ≤ ln M) (hx : M.2.2.2[x]? = some q) (hq : q.1 < 14) : ∃ M2, runX d 350 [va_rf (some L), va_rf (some x)] M = some (.int (iI 1), M2) ∧ Lf (owx ow (ln M) r) L r (up1 C n x) (n + 1) M2 ∧ Fo (fun a => a = L ∨ (259 ≤ a ∧ ow a = r)) 1 10 M M2 ∧ ∀ a j, a < ln M → a ≠ L → M2.1 a j = M.1 a j := by
  obtain ⟨d, rfl⟩ : ∃ e, d = e + 8 := ⟨d - 8, by omega⟩
  obtain ⟨⟨h1, h2, h3, h3'⟩, h5, h6, h7⟩ := id h
  have l1 := ln_lt h1
  have f0 : Fo (fun a => a = L ∨ (259 ≤ a ∧ ow a = r)) 0 0 M (sI M L 0 (M.1 L 0 + 1)) := Fo.sI (Or.inl rfl)
  have h5' : (sI M L 0 (M.1 L 0 + 1)).1 L 2 = iI n := (sI_nej (by decide)).trans h5
  have fin : ∀ (M3 : Mem) (N : Nat), Fo (fun a => a = L ∨ (259 ≤ a ∧ ow a = r)) 1 10 M M3 → 259 ≤ N → M3.2.2.2[N]? = some (110, 10) → owx ow (ln M) r N = r → M3.2.2.1 L 1 = some N → (∀ j, 0 ≤ j → j < n → M3.2.2.1 N j.toNat = some (C j)) → (∀ a j, a < ln M → a ≠ L → M3.1 a j = M.1 a j) → Lf (owx ow (ln M) r) L r (up1 C n x) (n + 1) (sI (sP M3 N n.toNat (some x)) L 2 (iI (n + 1))) ∧ Fo (fun a => a = L ∨ (259 ≤ a ∧ ow a = r)) 1 10 M (sI (sP M3 N n.toNat (some x)) L 2 (iI (n + 1))) ∧ ∀ a j, a < ln M → a ≠ L → (sI (sP M3 N n.toNat (some x)) L 2 (iI (n + 1))).1 a j = M.1 a j := fun M3 N f hN hk ho hp he hi => by
    have hLN : L ≠ N := fun e => by
      have := f.kd h1
      rw [e, hk] at this
      cases this
    refine ⟨⟨⟨f.kd h1, h2, by omega, by omega⟩, sI_eq, fun j p z => ?_, Or.inr ⟨N, ?_, ⟨hN, hk, ho⟩, fun j p z => ?_⟩⟩, ?_, fun a j p z => (sI_ne z).trans (hi a j p z)⟩
    · by_cases y : j = n
      · rw [up1_e y]; exact ⟨q, f.kd hx, hq⟩
      · rw [up1_n y]
        obtain ⟨w, w1, w2⟩ := h6 j p (by omega)
        exact ⟨w, f.kd w1, w2⟩
    · show (sP M3 N n.toNat (some x)).2.2.1 L 1 = some N
      rw [sP_ne hLN]; exact hp
    · show (sP M3 N n.toNat (some x)).2.2.1 N j.toNat = _
      by_cases y : j = n
      · rw [up1_e y, y]; exact sP_eq
      · rw [up1_n y, sP_nej (by omega)]; exact he j p (by omega)
    · refine ⟨⟨f.1.1, f.1.2.1, f.1.2.2.1, f.1.2.2.2⟩, fun a p z j => ?_⟩
      have zL : a ≠ L := fun e => z (Or.inl e)
      have zN : a ≠ N := fun e => by
        by_cases y : N < ln M
        · exact z (Or.inr ⟨by omega, by rw [e]; exact (owx_o y).symm.trans ho⟩)
        · omega
      obtain ⟨e1, e2, e3⟩ := f.2 a p z j
      exact ⟨(sI_ne zL).trans e1, e2, (sP_ne zN : (sP M3 N n.toNat (some x)).2.2.1 a j = _).trans e3⟩
  suffices hs : ∀ D, M.2.2.1 L 1 = some D → (∃ M2, runX (d + 7) 349 [va_rf (some L), va_rf (some x), va_rf (some D), .int (iI n)] (sI M L 0 (M.1 L 0 + 1)) = some (.null, M2) ∧ Lf (owx ow (ln M) r) L r (up1 C n x) (n + 1) M2 ∧ Fo (fun a => a = L ∨ (259 ≤ a ∧ ow a = r)) 1 10 M M2 ∧ ∀ a j, a < ln M → a ≠ L → M2.1 a j = M.1 a j) by
    obtain ⟨D, hD⟩ : ∃ D, M.2.2.1 L 1 = some D := by
      rcases h7 with ⟨-, e2, -⟩ | ⟨D, e1, -⟩
      · exact ⟨2, e2⟩
      · exact ⟨D, e1⟩
    obtain ⟨M2, e1, e2, e3, e4⟩ := hs D hD
    refine ⟨M2, Rt.e ?_, e2, e3, e4⟩
    rw [r350]; unfold b350; rw [aR_e, aR_e, aZ_e]; unfold c350
    refine rs1 (gtI_q h1 rfl) ?_
    refine rs1 (ptI_e h1) ?_
    refine rs1 (gtP_q (M := sI M L 0 (M.1 L 0 + 1)) h1 hD) ?_
    refine rs1 (gtI_q (M := sI M L 0 (M.1 L 0 + 1)) h1 h5') ?_
    refine rs1 (vC_e (M := sI M L 0 (M.1 L 0 + 1)) h1) ?_
    refine rs1 (cV_e e1) ?_
    refine rs1 (rtZ_q (z := 1) li_1 (by omega)) ?_
    exact Rt.ok ⟨rfl, rfl⟩
  intro D hD
  rcases h7 with ⟨g1, g2, g3⟩ | ⟨D', e1, ⟨e2, e3, e4⟩, e5⟩
  · have eD : D = 2 := by rw [hD] at g2; cases g2; rfl
    subst eD
    subst g1
    have e := ls345_0 (d := d + 6) (M := sI M L 0 (M.1 L 0 + 1)) (by omega) h1 h5' hD g3
    have f1 : Fo (fun a => a = L ∨ (259 ≤ a ∧ ow a = r)) 1 10 M (sP (nw (sI M L 0 (M.1 L 0 + 1)) 110 10) L 1 (some (ln M))) := (f0.tr (Fo.nw.tr (Fo.sP (Or.inl rfl)))).m (fun _ _ z => z) (by omega) (by omega)
    obtain ⟨w1, w2, w3⟩ := fin (sP (nw (sI M L 0 (M.1 L 0 + 1)) 110 10) L 1 (some (ln M))) (ln M) f1 hl nw_kd (owx_n (Nat.le_refl _)) sP_eq (fun j p z => absurd z (by omega)) (fun a j p z => (if_neg (Nat.ne_of_lt p)).trans (sI_ne z))
    exact ⟨_, ls349g (D := 2) (b := 210) (cap := 0) (cap2 := 10) (N := ln M) (by omega) h1 g3 (Or.inr rfl) (by omega) rfl e (f1.kd h1) nw_kd (by omega) (f1.kd hx) hq, w1, w2, w3⟩
  · have eD : D = D' := by rw [hD] at e1; cases e1; rfl
    subst eD
    obtain ⟨w1, w2, w3⟩ := fin (sI M L 0 (M.1 L 0 + 1)) D (f0.m (fun _ _ z => z) (by omega) (by omega)) e2 e3 ((owx_o (ln_lt e3)).trans e4) hD e5 (fun a j p z => sI_ne z)
    exact ⟨_, ls349 (by omega) h1 e3 (by omega) hx hq rfl, w1, w2, w3⟩
end S9ce
