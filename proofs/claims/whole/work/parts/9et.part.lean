/-! steps(), seed(), cut(), feed(), drop(), rule(), twin(): what is known between calls stays -/
section S9et
variable {K L0 T0 qc qr : Nat} {LL : Nat} {xs : Nat → Int32} {as : List Value} {v1 v2 v3 v4 v5 : Int32} {o : HO} {ow : Nat → Int} {sl p : Int} {k k' : Nat} {Mc Mr Mc' Mr' : Mem} {Zc Zr : Nat → Nat → Prop} {D' : Nat → Int → Int → Int} {W' : Nat → Int → Int → Int32}
theorem Tp.up {a j b : Nat} {T : Int → Int} {n n' : Int} {M M' : Mem} (h : Tp a j b T n M) (hn : 0 ≤ n' ∧ n' ≤ n) (h1 : M'.1 a j = iI n') (h2 : ∀ i, M'.1 b i = M.1 b i) : Tp a j b (fun i => if i < n' then T i else 0) n' M' := by
  obtain ⟨t1, t2, t3, t4, t5, t6⟩ := h
  refine ⟨h1, hn.1, by omega, fun i x y => ?_, fun i x => if_neg (by omega), fun i => ?_⟩
  · show M'.1 b i.toNat = iI (if i < n' then T i else 0)
    rw [if_pos y, h2]; exact t4 i x (by omega)
  · show -128 ≤ (if i < n' then T i else 0) ∧ (if i < n' then T i else 0) ≤ 127
    by_cases y : i < n'
    · rw [if_pos y]; exact t6 i
    · rw [if_neg y]; omega
/-- a call that changes cells of the base alone -/
theorem IVx.lift2 (h : IVx LL xs L0 T0 o ow sl k Mc Mr) (hk : k ≤ k') (fc : FG Zc Mc Mc') (fr : FG Zr Mr Mr') (rm : Mc'.2.2.2 = Mc.2.2.2) (wc : ∀ a j, Zc a j → ¬ nbC ow a j) (wr : ∀ a j, Zr a j → ¬ nbR a j) (hsl : ∃ sl', (1 ≤ sl' ∧ sl' ≤ 1000) ∧ HC LL xs o ow sl' Mc' ∧ HR o sl' Mr') (hs : Mc'.1 88 2 = Mr'.1 160 78) (ht : iTp k' Mc' Mr') (hdb : iDb k' o Mc' Mr') (wc1 : ∀ a j, Zc a j → ¬ (a = 140 ∨ a = 141 ∨ (259 ≤ a ∧ (ow a = 2 ∨ ow a = 3 ∨ 20 ≤ ow a)))) (wr1 : ∀ a j, Zr a j → ¬ ((a = 160 ∧ (j = 138 ∨ j = 154)) ∨ a = 257 ∨ a = 258 ∨ (246 ≤ a ∧ a ≤ 252))) : IV LL xs L0 T0 k' Mc' Mr' := by
  obtain ⟨s1, s2, s3, s4, s5, s6⟩ := h.rest fc fr wc wr
  obtain ⟨sl', g1, g2, g3⟩ := hsl
  obtain ⟨⟨h1, -, -⟩, -, -, -, -, -, -, -, h11, h12, h13, h14⟩ := h
  have el : ln Mc' = ln Mc := congrArg List.length rm
  refine ⟨o, ow, sl', ⟨h1, g2, g3⟩, g1, hs, ht, hdb, s1, s2, ⟨s3, s4, s5, s6⟩, h11.fg (Int.le_refl _) (fun _ _ _ => rfl) (fun _ _ => rfl) fc fr (fun a j z y => wc1 a j z ?_) (fun a j z y => wr1 a j z ?_), h12.fg g3.1.1.1 (fun _ _ => rfl) fc fr (fun a j z y => wc1 a j z ?_) (fun a j z y => wr1 a j z ?_), by rw [el]; omega, by rw [rm]; omega⟩
  · omega
  · omega
  · omega
  · omega
theorem op_9 : OpK LL xs L0 T0 K 137 268 [.int v1] := OpK.of fun k Mc Mr o ow sl hk h => by
  obtain ⟨p, p1, p2, e1⟩ := iI_ex v1
  have hC := h.1.2.1
  have hR := h.1.2.2
  obtain ⟨r, Mc', Mr', x1, x2, x3⟩ := steps_pair (dl := 2040) (d := 2040) (by omega) (by omega) hC.1.1.1 hR.1.1.1 hC.2.2 hR.2.2.1 e1 (by omega)
  refine ⟨r, Mc', Mr', x1, x2, x3.imp id ?_⟩
  rintro ⟨hb, rfl, rfl⟩
  have fc : FG (fun a j => a = 88 ∧ j = 1) Mc (sI Mc 88 1 (iI p)) := (FG.r (Z := fun a j => a = 88 ∧ j = 1) hC.1.1.2.2).sI ⟨rfl, rfl⟩
  have fr : FG (fun a j => a = 160 ∧ j = 77) Mr (sI Mr 160 77 (iI p)) := (FG.r (Z := fun a j => a = 160 ∧ j = 77) hR.1.1.2).sI ⟨rfl, rfl⟩
  have hC' : hoC LL xs o (sI Mc 88 1 (iI p)) := hC.1.fg h.1.1 fc fun a j z => ⟨by omega, fun q hq => by
    have g : ∀ q, q ∈ CFd → ¬ (q.1 = 88 ∧ q.2.1 = 1) := by decide
    exact g _ hq z, fun p x y u w => by have := (h.1.1.2.2.1 p x y).2.2; omega, fun _ _ => by omega⟩
  have hR' : hoR o (sI Mr 160 77 (iI p)) := hR.1.fg fr fun a j z => ⟨fun y q hq => by
    have g : ∀ q, q ∈ RFd → q.1 ≠ 77 := by decide
    have := g _ hq
    dsimp only at this
    omega, by omega, by omega, by omega⟩
  have l87 : Lf ow 87 1 (fun p => gX (oP o p)) (oN o) (sI Mc 88 1 (iI p)) := hC.2.1.1.fg fc (fun _ _ => rfl) (fun j z => by omega) fun a j l y z => by omega
  exact ⟨fc.m fun a j z => by unfold Zcl; omega, fr.m fun a j z => by unfold Zrf; omega, rfl, h.lift2 (by omega) fc fr rfl (fun a j z y => by unfold nbC at y; omega) (fun a j z y => by unfold nbR at y; omega) ⟨p, hb, ⟨hC', ⟨l87, hC.2.1.2⟩, sI_eq⟩, hR', (sI_nej (by decide)).trans hR.2.1, sI_eq, (sI_nej (by decide)).trans hR.2.2.2.1, (sI_nej (by decide)).trans hR.2.2.2.2.1, (sI_nej (by decide)).trans hR.2.2.2.2.2.1, (sI_nej (by decide)).trans hR.2.2.2.2.2.2⟩ ((sI_nej (by decide)).trans (h.2.2.1.trans (sI_nej (by decide)).symm)) (h.2.2.2.1.fg (by omega) fc fr (fun a j z y => by unfold rTc at y; omega) (fun a j z y => by unfold rTr at y; omega)) (h.2.2.2.2.1.fg (by omega) rfl fc fr (by omega) (by omega)) (fun a j z y => by omega) (fun a j z y => by omega)⟩
theorem op_10 : OpK LL xs L0 T0 K 138 269 [.int v1] := OpK.of fun k Mc Mr o ow sl hk h => by
  have hC := h.1.2.1
  have hR := h.1.2.2
  obtain ⟨r, x1, x2⟩ := seed_pair (dl := 2040) (d := 2040) (v1 := v1) (by omega) (by omega) hC.1.1.1 hR.1.1.1 h.2.2.1
  refine ⟨r, _, _, x1, x2, Or.inr ?_⟩
  have fc : FG (fun a j => a = 88 ∧ j = 2) Mc (sI Mc 88 2 v1) := (FG.r (Z := fun a j => a = 88 ∧ j = 2) hC.1.1.2.2).sI ⟨rfl, rfl⟩
  have fr : FG (fun a j => a = 160 ∧ j = 78) Mr (sI Mr 160 78 v1) := (FG.r (Z := fun a j => a = 160 ∧ j = 78) hR.1.1.2).sI ⟨rfl, rfl⟩
  have hC' : hoC LL xs o (sI Mc 88 2 v1) := hC.1.fg h.1.1 fc fun a j z => ⟨by omega, fun q hq => by
    have g : ∀ q, q ∈ CFd → ¬ (q.1 = 88 ∧ q.2.1 = 2) := by decide
    exact g _ hq z, fun p x y u w => by have := (h.1.1.2.2.1 p x y).2.2; omega, fun _ _ => by omega⟩
  have hR' : hoR o (sI Mr 160 78 v1) := hR.1.fg fr fun a j z => ⟨fun y q hq => by
    have g : ∀ q, q ∈ RFd → q.1 ≠ 78 := by decide
    have := g _ hq
    dsimp only at this
    omega, by omega, by omega, by omega⟩
  have l87 : Lf ow 87 1 (fun p => gX (oP o p)) (oN o) (sI Mc 88 2 v1) := hC.2.1.1.fg fc (fun _ _ => rfl) (fun j z => by omega) fun a j l y z => by omega
  exact ⟨fc.m fun a j z => by unfold Zcl; omega, fr.m fun a j z => by unfold Zrf; omega, rfl, h.lift2 (by omega) fc fr rfl (fun a j z y => by unfold nbC at y; omega) (fun a j z y => by unfold nbR at y; omega) ⟨sl, h.2.1, ⟨hC', ⟨l87, hC.2.1.2⟩, (sI_nej (by decide)).trans hC.2.2⟩, hR', (sI_nej (by decide)).trans hR.2.1, (sI_nej (by decide)).trans hR.2.2.1, (sI_nej (by decide)).trans hR.2.2.2.1, (sI_nej (by decide)).trans hR.2.2.2.2.1, (sI_nej (by decide)).trans hR.2.2.2.2.2.1, (sI_nej (by decide)).trans hR.2.2.2.2.2.2⟩ (sI_eq.trans sI_eq.symm) (h.2.2.2.1.fg (by omega) fc fr (fun a j z y => by unfold rTc at y; omega) (fun a j z y => by unfold rTr at y; omega)) (h.2.2.2.2.1.fg (by omega) rfl fc fr (by omega) (by omega)) (fun a j z y => by omega) (fun a j z y => by omega)⟩
/-- the tape alone changes -/
theorem IVx.tape {T' : Int → Int} {n' : Int} (h : IVx LL xs L0 T0 o ow sl k Mc Mr) (fc : FG (fun a j => a = 67 ∨ (a = 66 ∧ j = 1)) Mc Mc') (fr : FG (fun a j => a = 161 ∨ (a = 160 ∧ j = 1)) Mr Mr') (r1 : Mc'.2.2.2 = Mc.2.2.2) (r2 : Mr'.2.2.2 = Mr.2.2.2) (t1 : Tp 66 1 67 T' n' Mc') (t2 : Tp 160 1 161 T' n' Mr') (hn : n' ≤ 20 * ((k + 1 : Nat) : Int)) : FG Zcl Mc Mc' ∧ FG Zrf Mr Mr' ∧ Mr'.2.2.2 = Mr.2.2.2 ∧ IV LL xs L0 T0 (k + 1) Mc' Mr' := by
  have hC := h.1.2.1
  have hR := h.1.2.2
  have hC' : hoC LL xs o Mc' := hC.1.fg h.1.1 fc fun a j z => ⟨by omega, fun q hq => by
    have g : ∀ q, q ∈ CFd → ¬ (q.1 = 67 ∨ (q.1 = 66 ∧ q.2.1 = 1)) := by decide
    exact g _ hq z, fun p x y u w => by have := (h.1.1.2.2.1 p x y).2.2; omega, fun _ _ => by omega⟩
  have hR' : hoR o Mr' := hR.1.fg fr fun a j z => ⟨fun y q hq => by
    have g : ∀ q, q ∈ RFd → q.1 ≠ 1 := by decide
    have := g _ hq
    dsimp only at this
    omega, by omega, by omega, by omega⟩
  have k160 : ∀ j, j ≠ 1 → Mr'.1 160 j = Mr.1 160 j := fun j y => fr.i (fr.lw (by decide)) fun z => by omega
  have kc : ∀ a j, a < 259 → ¬ (a = 67 ∨ (a = 66 ∧ j = 1)) → Mc'.1 a j = Mc.1 a j := fun a j l y => fc.i (fc.lw l) y
  have l87 : Lf ow 87 1 (fun p => gX (oP o p)) (oN o) Mc' := hC.2.1.1.fg fc (fun _ _ => rfl) (fun j z => by omega) fun a j l y z => by omega
  obtain ⟨-, i2, i3, i4, ⟨s0, i5, i5'⟩, ⟨mu, ut, m1, m2, m3⟩, i7⟩ := h.2.2.2.1
  exact ⟨fc.m fun a j z => by unfold Zcl; omega, fr.m fun a j z => by unfold Zrf; omega, r2, h.lift2 (by omega) fc fr r1 (fun a j z y => by unfold nbC at y; omega) (fun a j z y => by unfold nbR at y; omega) ⟨sl, h.2.1, ⟨hC', ⟨l87, hC.2.1.2⟩, (kc _ _ (by decide) (by decide)).trans hC.2.2⟩, hR', (k160 _ (by decide)).trans hR.2.1, (k160 _ (by decide)).trans hR.2.2.1, (k160 _ (by decide)).trans hR.2.2.2.1, (k160 _ (by decide)).trans hR.2.2.2.2.1, (k160 _ (by decide)).trans hR.2.2.2.2.2.1, (k160 _ (by decide)).trans hR.2.2.2.2.2.2⟩ ((kc _ _ (by decide) (by decide)).trans (h.2.2.1.trans (k160 _ (by decide)).symm)) ⟨⟨T', n', t1, t2, hn⟩, fc.2.1 _ _ i2, fun i a b => (fc.l (fc.lw (by decide)) (by omega)).trans (i3 i a b), fun i a b => (fr.l (fr.lw (by decide)) (by omega)).trans (i4 i a b), ⟨s0, (kc _ _ (by decide) (by decide)).trans i5, i5'⟩, ⟨mu, ut, (k160 _ (by decide)).trans m1, (k160 _ (by decide)).trans m2, m3⟩, (kc _ _ (by decide) (by decide)).trans (i7.trans (k160 _ (by decide)).symm)⟩ (h.2.2.2.2.1.fg (by omega) rfl fc fr (by omega) (by omega)) (fun a j z y => by omega) (fun a j z y => by omega)⟩
theorem op_0 : OpK LL xs L0 T0 K 128 185 [.int v1, .int v2, .int v3, .int v4, .int v5] := OpK.of fun k Mc Mr o ow sl hk h => by
  have hC := h.1.2.1
  have hR := h.1.2.2
  obtain ⟨⟨T, n, t1, t2, hn⟩, -⟩ := h.2.2.2.1
  obtain ⟨r, Mc', Mr', x1, x2, x3⟩ := feed_pair (dl := 2040) (d := 2040) (v1 := v1) (v2 := v2) (v3 := v3) (v4 := v4) (v5 := v5) (by omega) (by omega) hC.1.1.1 hR.1.1.1 t1 t2
  refine ⟨r, Mc', Mr', x1, x2, x3.imp id ?_⟩
  rintro ⟨T', s1, s2, ⟨s3, s4⟩, s5, s6⟩
  exact h.tape (FG.of2 hC.1.1.2.2 s3 fun a j z => s4 a j (by omega) (by omega)) (FG.of2 hR.1.1.2 s5 fun a j z => s6 a j (by omega) (by omega)) (by rw [s3]) (by rw [s5]) s1 s2 (by omega)
theorem op_1 : OpK LL xs L0 T0 K 129 186 [.int v1] := OpK.of fun k Mc Mr o ow sl hk h => by
  obtain ⟨p, p1, p2, e1⟩ := iI_ex v1
  have hC := h.1.2.1
  have hR := h.1.2.2
  obtain ⟨⟨T, n, t1, t2, hn⟩, -⟩ := h.2.2.2.1
  obtain ⟨r, Mc', Mr', x1, x2, x3⟩ := cut_pair (dl := 2040) (d := 2040) (n := n) (by omega) (by omega) hC.1.1.1 hR.1.1.1 t1.1 t2.1 ⟨t1.2.1, t1.2.2.1⟩ e1 (by omega)
  refine ⟨r, Mc', Mr', x1, x2, x3.imp id ?_⟩
  rintro ⟨n', hn', rfl, rfl⟩
  exact h.tape ((FG.r (Z := fun a j => a = 67 ∨ (a = 66 ∧ j = 1)) hC.1.1.2.2).sI (Or.inr ⟨rfl, rfl⟩)) ((FG.r (Z := fun a j => a = 161 ∨ (a = 160 ∧ j = 1)) hR.1.1.2).sI (Or.inr ⟨rfl, rfl⟩)) rfl rfl (t1.up hn' sI_eq fun i => sI_ne (by decide)) (t2.up hn' sI_eq fun i => sI_ne (by decide)) (by omega)
end S9et
