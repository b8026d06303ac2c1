/-! run(), kill(), least(), swap(), smaller(): what is known between calls stays -/
def nbC (ow : Nat → Int) (a j : Nat) : Prop := (108 ≤ a ∧ a < 140 ∧ ((a % 4 = 0 ∧ j = 4) ∨ a % 4 = 2 ∨ a % 4 = 3)) ∨ (a = 64 ∧ (j = 7 ∨ j = 9 ∨ j = 10 ∨ j = 13 ∨ j = 16)) ∨ a = 142 ∨ a = 147 ∨ a = 149 ∨ (259 ≤ a ∧ 10 ≤ ow a ∧ ow a < 18)
def nbR (a j : Nat) : Prop := (a = 160 ∧ (j = 109 ∨ (129 ≤ j ∧ j ≤ 133) ∨ (148 ≤ j ∧ j ≤ 151))) ∨ a = 183 ∨ a = 216 ∨ a = 217 ∨ (221 ≤ a ∧ a ≤ 226) ∨ (235 ≤ a ∧ a ≤ 239) ∨ a = 241 ∨ a = 244 ∨ a = 255
section S9er
variable {K L0 T0 qc qr : Nat} {LL : Nat} {xs : Nat → Int32} {as : List Value} {v1 v2 v3 v4 : Int32} {o : HO} {ow : Nat → Int} {sl p : Int} {k : Nat} {Mc Mr Mc' Mr' : Mem} {Zc Zr : Nat → Nat → Prop}
theorem IVx.rest (h : IVx LL xs L0 T0 o ow sl k Mc Mr) (fc : FG Zc Mc Mc') (fr : FG Zr Mr Mr') (wc : ∀ a j, Zc a j → ¬ nbC ow a j) (wr : ∀ a j, Zr a j → ¬ nbR a j) : iHd Mc' Mr' ∧ (∀ p, 0 ≤ p → p < oN o → iOr o p Mc' Mr' ∧ rsB o p Mc' Mr' ∧ iKl o p Mc' Mr') ∧ tdB Mc' Mr' ∧ smB Mc' Mr' ∧ shB Mc' Mr' ∧ blB Mc' Mr' := by
  obtain ⟨t1, t2, t3, t4⟩ := h.2.2.2.2.2.2.2.1
  have p8 := h.1.1.1
  refine ⟨h.2.2.2.2.2.1.fg fc fr (fun a j z y => wc a j z (Or.inl y)) (fun a j z => ?_), fun p a b => h.pkq ⟨a, b⟩ fc fr (fun a j z y => wc a j z ?_) (fun a j z y => wr a j z ?_), t1.fg fc fr (fun a j z y => wc a j z ?_) (fun a j z y => wr a j z ?_), t2.fg fc fr (fun a j z y => wc a j z ?_) (fun a j z y => wr a j z ?_), t3.fg fc fr (fun a j z y => wc a j z ?_) (fun a j z y => wr a j z ?_), t4.fg fc fr (fun a j z y => wc a j z ?_) (fun a j z y => wr a j z ?_)⟩
  · have := wr a j z
    unfold nbR at this; omega
  · unfold nbC; omega
  · unfold pR at y; unfold nbR; omega
  · unfold nbC; omega
  · unfold nbR; omega
  · unfold nbC; omega
  · unfold nbR; omega
  · unfold nbC; omega
  · unfold nbR; omega
  · unfold nbC; omega
  · unfold nbR; omega
theorem IVx.own (h : IVx LL xs L0 T0 o ow sl k Mc Mr) (hp : 0 ≤ p ∧ p < oN o) : 259 ≤ gX (oP o p) ∧ ∀ a, gX (oP o p) ≤ a ∧ a < gX (oP o p) + 18 → ow a = 10 + p := by
  have g := (h.1.1.2.2.1 p hp.1 hp.2).2.2
  exact ⟨by omega, fun a y => h.1.2.1.2.1.2 p hp.1 hp.2 a (by omega) y.2⟩
theorem op_24 : OpK LL xs L0 T0 K 152 287 [.int v1, .int v2] := OpK.of fun k Mc Mr o ow sl hk h => by
  obtain ⟨p, p1, p2, e1⟩ := iI_ex v1
  obtain ⟨z, z1, z2, e2⟩ := iI_ex v2
  obtain ⟨wk, sw, km, hh⟩ := h.kl p
  obtain ⟨Mc', r, x1, x2, x3⟩ := least_pair (dl := 2040) (d := 2040) (by omega) (by omega) h.1.1 h.1.2.1 h.1.2.2 hh e1 e2 (by omega) (by omega)
  refine ⟨r, Mc', Mr, x1, x2, x3.imp (fun z => ⟨z, rfl⟩) ?_⟩
  rintro ⟨y, m, f1, f2⟩
  have hR := h.1.2.2
  obtain ⟨g1, g2, g3⟩ := h.2.2.2.2.2.2.1 p y.1 y.2
  obtain ⟨t1, t2, t3, t4⟩ := h.2.2.2.2.2.2.2.1
  have fr : FG (fun _ _ => False) Mr Mr := FG.r hR.1.1.2
  have fc : FG (fun a j => a = gX (oP o p) ∧ j = 17) Mc Mc' := by
    rw [f1]; exact (FG.r (Z := fun a j => a = gX (oP o p) ∧ j = 17) h.1.2.1.1.1.2.2).sI ⟨rfl, rfl⟩
  have rm : Mc'.2.2.2 = Mc.2.2.2 := by rw [f1]; rfl
  obtain ⟨o1, o2⟩ := h.own y
  have ox := o2 (gX (oP o p)) (by omega)
  obtain ⟨b1, b2, b3⟩ := h.1.1.bd y
  have l17 := h.1.2.1.l17 y
  have p8 := h.1.1.1
  have wc : ∀ a j, (a = gX (oP o p) ∧ j = 17) → ¬ bsC ow a j := fun a j z y => by
    obtain ⟨rfl, rfl⟩ := z
    unfold bsC rTc at y; omega
  have hC' : hoC LL xs o Mc' := h.1.2.1.1.fg h.1.1 fc fun a j z => by
    obtain ⟨rfl, rfl⟩ := z
    refine ⟨by omega, fun q hq => by have := CFd_b _ hq; dsimp only at this; omega, fun q u w x1 x2 => ?_, fun _ _ => by omega⟩
    by_cases e : q = p
    · subst e; unfold pkZ; omega
    · have := h.1.2.1.2.1.2 q u w _ x1 x2
      omega
  refine ⟨fc.m fun a j z => by unfold Zcl; omega, fr.m fun _ _ z => z.elim, rfl, o, ow, sl, h.lift (by omega) (h.1.2.1.of hC' fc wc) hR fc fr wc (fun _ _ z => z.elim) (h.2.2.2.2.2.1.fg fc fr (fun a j z y => by omega) fun _ _ z => z.elim) (fun q a b => ?_) (t1.fg fc fr (fun a j z y => by omega) fun _ _ z => z.elim) (t2.fg fc fr (fun a j z y => by omega) fun _ _ z => z.elim) (t3.fg fc fr (fun a j z y => by omega) fun _ _ z => z.elim) (t4.fg fc fr (fun a j z y => by omega) fun _ _ z => z.elim) rm⟩
  by_cases e : q = p
  · subst e
    exact ⟨g1.fg rfl a b1 l17 fc fr (fun j z => by omega) (fun j _ _ z => z), g2.fg rfl a b1 b2 l17 fc fr (fun a j z y => by omega) (fun _ _ z => z.elim), wk, sw, km, f2, (hh a b).2⟩
  · exact h.pkq ⟨a, b⟩ fc fr (fun a j z y => by obtain ⟨rfl, rfl⟩ := z; omega) (fun _ _ z => z.elim)
theorem op_11 : OpK LL xs L0 T0 K 139 270 [.int v1, .int v2, .int v3] := OpK.of fun k Mc Mr o ow sl hk h => by
  obtain ⟨p, p1, p2, e1⟩ := iI_ex v1
  obtain ⟨q, q1, q2, e2⟩ := iI_ex v2
  obtain ⟨m, m1, m2, e3⟩ := iI_ex v3
  obtain ⟨Od, hO⟩ : ∃ Od, 0 ≤ p → p < oN o → odK Od ((gR (oP o p)).1 3 0 0).toNat ∧ odO Od ((gR (oP o p)).1 3 0 0).toNat ∧ orB o p Od Mc Mr := by
    by_cases y : 0 ≤ p ∧ p < oN o
    · obtain ⟨Od, z⟩ := (h.2.2.2.2.2.2.1 p y.1 y.2).1
      exact ⟨Od, fun _ _ => z⟩
    · exact ⟨fun i => i, fun a b => absurd ⟨a, b⟩ y⟩
  obtain ⟨r, Mc', Mr', x1, x2, x3⟩ := swap_pair (dl := 2040) (d := 2040) (by omega) (by omega) h.1.1 h.1.2.1 h.1.2.2 hO e1 e2 e3 (by omega) (by omega) (by omega)
  refine ⟨r, Mc', Mr', x1, x2, x3.imp id ?_⟩
  rintro ⟨Od', y, f1, f2, f3, fc, ⟨f5, f6⟩, fr, f8, f9⟩
  have hR := h.1.2.2
  obtain ⟨g1, g2, g3⟩ := h.2.2.2.2.2.2.1 p y.1 y.2
  obtain ⟨t1, t2, t3, t4⟩ := h.2.2.2.2.2.2.2.1
  obtain ⟨o1, o2⟩ := h.own y
  have ox := o2 (gX (oP o p) + 6) (by omega)
  obtain ⟨b1, b2, b3⟩ := h.1.1.bd y
  have l17 := h.1.2.1.l17 y
  have p8 := h.1.1.1
  have wc : ∀ a j, a = gX (oP o p) + 6 → ¬ bsC ow a j := fun a j z y => by
    subst z
    unfold bsC rTc at y; omega
  have wr : ∀ a j : Nat, (a = 183 ∧ 16 * p ≤ j ∧ (j : Int) < 16 * p + 16) → ¬ bsR a j := fun a j z y => by
    unfold bsR rTr at y; omega
  have hC' : hoC LL xs o Mc' := h.1.2.1.1.fg h.1.1 fc fun a j z => by
    subst z
    refine ⟨by omega, fun q hq => by have := CFd_b _ hq; dsimp only at this; omega, fun q u w x1 x2 => ?_, fun _ _ => by omega⟩
    by_cases e : q = p
    · subst e; unfold pkZ; omega
    · have := h.1.2.1.2.1.2 q u w _ x1 x2
      omega
  have hR' : hoR o Mr' := hR.1.fg fr fun a j z => ⟨fun y => by omega, by omega, by omega, by omega⟩
  have k160 : ∀ j, Mr'.1 160 j = Mr.1 160 j := fun j => fr.i (fr.lw (by decide)) fun z => by omega
  refine ⟨fc.m fun a j z => by unfold Zcl; omega, fr.m fun a j z => by unfold Zrf; omega, f8, o, ow, sl, h.lift (by omega) (h.1.2.1.of hC' fc wc) (hR.of hR' fr wr ⟨(k160 _).trans hR.2.2.2.1, (k160 _).trans hR.2.2.2.2.1, (k160 _).trans hR.2.2.2.2.2.1, (k160 _).trans hR.2.2.2.2.2.2⟩) fc fr wc wr (h.2.2.2.2.2.1.fg fc fr (fun a j z y => by omega) fun a j z => by omega) (fun q a b => ?_) (t1.fg fc fr (fun a j z y => by omega) fun a j z y => by omega) (t2.fg fc fr (fun a j z y => by omega) fun a j z y => by omega) (t3.fg fc fr (fun a j z y => by omega) fun a j z y => by omega) (t4.fg fc fr (fun a j z y => by omega) fun a j z y => by omega) f5⟩
  by_cases e : q = p
  · subst e
    exact ⟨⟨Od', f1, f2, f3⟩, g2.fg rfl a b1 b2 l17 fc fr (fun a j z y => by omega) (fun a j z y => by omega), g3.fg rfl a b3 l17 fc fr (fun a j z y => by omega) (fun a j z y => by omega)⟩
  · exact h.pkq ⟨a, b⟩ fc fr (fun a j z y => by subst z; omega) (fun a j z y => by unfold pR at y; omega)
theorem op_27 : OpK LL xs L0 T0 K 155 292 [.int v1, .int v2] := OpK.of fun k Mc Mr o ow sl hk h => by
  obtain ⟨p, p1, p2, e1⟩ := iI_ex v1
  obtain ⟨q, q1, q2, e2⟩ := iI_ex v2
  have hR := h.1.2.2
  obtain ⟨r, Mr', x1, x2, f⟩ := small27 (dl := 2040) (d := 2040) (Mc := Mc) (by omega) (by omega) hR.1.1.1 e1 e2 (by omega) (by omega)
  refine ⟨r, Mc, Mr', x1, x2, Or.inr ?_⟩
  have fr := f.fg hR.1.1.2
  have fc : FG (fun _ _ => False) Mc Mc := FG.r h.1.2.1.1.1.2.2
  have wr : ∀ a j : Nat, (a = 160 ∧ j = 137) → ¬ bsR a j := fun a j z y => by unfold bsR rTr at y; omega
  obtain ⟨s1, s2, s3, s4, s5, s6⟩ := h.rest fc fr (fun _ _ z => z.elim) (fun a j z y => by unfold nbR at y; omega)
  have k160 : ∀ j, j ≠ 137 → Mr'.1 160 j = Mr.1 160 j := fun j y => fr.i (fr.lw (by decide)) fun z => y z.2
  have hR' : hoR o Mr' := hR.1.fg fr fun a j z => ⟨fun y q hq => by
    have g : ∀ q, q ∈ RFd → q.1 ≠ 137 := by decide
    have := g _ hq
    dsimp only at this
    omega, by omega, by omega, by omega⟩
  exact ⟨fc.m fun _ _ z => z.elim, fr.m fun a j z => by unfold Zrf; omega, fz_rm f.1, o, ow, sl, h.lift (by omega) h.1.2.1 (hR.of hR' fr wr ⟨(k160 _ (by decide)).trans hR.2.2.2.1, (k160 _ (by decide)).trans hR.2.2.2.2.1, (k160 _ (by decide)).trans hR.2.2.2.2.2.1, (k160 _ (by decide)).trans hR.2.2.2.2.2.2⟩) fc fr (fun _ _ z => z.elim) wr s1 s2 s3 s4 s5 s6 rfl⟩
end S9er
