/-! what a run does not look at -/
/-- only cells of Z have changed, and numbers alone -/
def Fz (Z : Nat → Nat → Prop) (M M' : Mem) : Prop := M'.2 = M.2 ∧ ∀ a j, ¬ Z a j → M'.1 a j = M.1 a j
def riC (o : HO) (v : VR) (a j : Nat) : Prop := hoZ o a j ∧ (a = 88 → j ≠ 1 ∧ j ≠ 2 ∧ j ≠ 3 ∧ j ≠ 6 ∧ j ≠ 10) ∧ a ≠ 106 ∧ (a < 108 ∨ 140 ≤ a) ∧ (a < 143 ∨ 145 < a) ∧ (a < gX (oP o (vP v)) + 13 ∨ gX (oP o (vP v)) + 15 < a) ∧ (a < 259 ∨ (gL (oP o (vP v)) ≤ a ∧ a < gX (oP o (vP v)) + 18))
def riR (a j : Nat) : Prop := hrZ a j ∧ (a = 160 → j ≠ 66 ∧ j ≠ 67 ∧ j ≠ 77 ∧ j ≠ 78 ∧ j ≠ 83 ∧ j ≠ 90 ∧ j ≠ 91 ∧ j ≠ 92 ∧ j ≠ 97 ∧ j ≠ 98) ∧ a ≠ 209 ∧ a ≠ 211 ∧ (a < 216 ∨ 220 < a) ∧ (a < 235 ∨ 237 < a)
/-- what machines change in runs of a parcel; k = 1: covering -/
def ZM (o : HO) (p k : Int) (a j : Nat) : Prop := (a = 88 ∧ (j = 3 ∨ j = 4 ∨ j = 5 ∨ j = 6 ∨ j = 9 ∨ j = 10 ∨ j = 12 ∨ j = 14 ∨ j = 15 ∨ (18 ≤ j ∧ j ≤ 21))) ∨ a = 89 ∨ a = 91 ∨ a = 92 ∨ (94 ≤ a ∧ a ≤ 107) ∨ (108 ≤ a ∧ a < 140 ∧ ((a % 4 = 0 ∧ j = 4) ∨ a % 4 = 2 ∨ a % 4 = 3)) ∨ (a = 143 ∧ (j = 5 ∨ j = 6)) ∨ a = 144 ∨ a = 145 ∨ (k = 1 ∧ gX (oP o p) + 13 ≤ a ∧ a ≤ gX (oP o p) + 15)
def ZR (p k : Int) (a j : Nat) : Prop := (a = 160 ∧ (j = 66 ∨ j = 67 ∨ j = 73 ∨ j = 76 ∨ (79 ≤ j ∧ j ≤ 93) ∨ j = 97 ∨ j = 98 ∨ (101 ≤ j ∧ j ≤ 103))) ∨ (209 ≤ a ∧ a ≤ 215) ∨ a = 219 ∨ a = 220 ∨ (235 ≤ a ∧ a ≤ 237) ∨ (k = 1 ∧ (216 ≤ a ∧ a ≤ 218) ∧ 1000 * p ≤ j ∧ (j : Int) < 1000 * p + 1000)
def v1p (p : Int) : VR := ((0, p, p), (fun _ => -1), (fun _ => -2), (0, 0))
section S9cc
variable {d dl : Nat} {o : HO} {v : VR} {q : QN} {s s' u : ZS} {M M' M2 Mc Mr Mc' Mr' : Mem} {LL a j : Nat} {xs : Nat → Int32} {c p i n : Int} {w : Int32} {Z Z' : Nat → Nat → Prop} {k : Int} {e : ZS}
theorem Fz.r : Fz Z M M := ⟨rfl, fun _ _ _ => rfl⟩
theorem Fz.tr (h : Fz Z M M') (g : Fz Z M' M2) : Fz Z M M2 := ⟨g.1.trans h.1, fun a j z => (g.2 a j z).trans (h.2 a j z)⟩
theorem Fz.m (h : Fz Z M M') (f : ∀ a j, Z a j → Z' a j) : Fz Z' M M' := ⟨h.1, fun a j z => h.2 a j fun y => z (f a j y)⟩
theorem Fz.fg (h : Fz Z M M') (hl : 259 ≤ ln M) : FG Z M M' := FG.of2 hl h.1 h.2
theorem Fz.si (h : Fz Z M M') (z : Z a j) : Fz Z M (sI M' a j w) := ⟨h.1, fun b i y => by
  refine Eq.trans ?_ (h.2 b i y)
  by_cases t : b = a
  · exact sI_nej fun t2 => by rw [t, t2] at y; exact y z
  · exact sI_ne t⟩
theorem zFl.zm (h : zFl (rK o v k) M M') : Fz (ZM o (vP v) k) M M' := ⟨h.1, fun a j z => by
  have k12 : rK o v k 12 0 = k.toNat := rfl
  have k0 : rK o v k 8 0 = gX (oP o (vP v)) + 13 := rfl
  have k1 : rK o v k 8 1 = gX (oP o (vP v)) + 14 := rfl
  have k2 : rK o v k 8 2 = gX (oP o (vP v)) + 15 := rfl
  have z1 : inW W_y a j = false := by
    cases y : inW W_y a j with
    | true =>
      obtain ⟨q, q1, q2, q3⟩ := inW_x y
      have g : ∀ z, z ∈ W_y → (z.1 = 88 ∧ (z.2 = 3 ∨ z.2 = 4 ∨ z.2 = 5 ∨ z.2 = 6 ∨ z.2 = 9 ∨ z.2 = 10 ∨ z.2 = 12 ∨ z.2 = 14 ∨ z.2 = 15 ∨ (18 ≤ z.2 ∧ z.2 ≤ 21))) ∨ z.1 = 89 ∨ z.1 = 91 ∨ z.1 = 92 ∨ (94 ≤ z.1 ∧ z.1 ≤ 107) ∨ (108 ≤ z.1 ∧ z.1 < 140 ∧ ((z.1 % 4 = 0 ∧ z.2 = 4) ∨ z.1 % 4 = 2 ∨ z.1 % 4 = 3)) ∨ (z.1 = 143 ∧ (z.2 = 5 ∨ z.2 = 6)) ∨ z.1 = 144 ∨ z.1 = 145 := by decide
      have := g q q1
      refine absurd ?_ z
      unfold ZM
      omega
    | false => rfl
  have nn : ¬ (k = 1 ∧ gX (oP o (vP v)) + 13 ≤ a ∧ a ≤ gX (oP o (vP v)) + 15) := fun y => z (by unfold ZM; omega)
  exact h.2 a j z1 (fun _ => by omega) (fun _ => by omega) (fun _ => by omega)⟩
theorem zRl.zr (h : zRl e M M') (he : e.1 29 0 0 = p) (hk : e.1 10 0 0 = k) : Fz (ZR p k) M M' := ⟨h.1, fun a j z => by
  subst he; subst hk
  cases y : inW W_l a j with
  | true =>
    obtain ⟨q, q1, q2, q3⟩ := inW_x y
    have g : ∀ z, z ∈ W_l → (z.1 = 160 ∧ (z.2 = 66 ∨ z.2 = 67 ∨ z.2 = 73 ∨ z.2 = 76 ∨ (79 ≤ z.2 ∧ z.2 ≤ 93) ∨ z.2 = 97 ∨ z.2 = 98 ∨ (101 ≤ z.2 ∧ z.2 ≤ 103))) ∨ (209 ≤ z.1 ∧ z.1 ≤ 220) ∨ (235 ≤ z.1 ∧ z.1 ≤ 237) := by decide
    have := g q q1
    by_cases w : 216 ≤ a ∧ a ≤ 218
    · refine h.2.2 a j (by omega) ?_
      unfold ZR at z
      omega
    · refine absurd ?_ z
      unfold ZR
      omega
  | false => exact h.2.1 a j y⟩
theorem ZM_ho (hP : hoP o) (hp : 0 ≤ p ∧ p < oN o) (h : ZM o p k a j) : hoZ o a j := by
  have lo := (hP.2.2.1 p hp.1 hp.2).2.2
  have g : ∀ q, q ∈ CFd → q.1 < 259 ∧ (q.1 = 88 → q.2.1 = 0 ∨ q.2.1 = 7 ∨ q.2.1 = 8 ∨ q.2.1 = 11 ∨ q.2.1 = 13 ∨ q.2.1 = 16 ∨ q.2.1 = 17) ∧ q.1 ≠ 89 ∧ q.1 ≠ 91 ∧ q.1 ≠ 92 ∧ (q.1 < 94 ∨ 107 < q.1) ∧ (108 ≤ q.1 → q.1 < 140 → (q.1 % 4 = 0 ∧ (q.2.1 = 3 ∨ q.2.1 = 5 ∨ q.2.1 = 6))) ∧ (q.1 = 143 → q.2.1 = 3 ∨ q.2.1 = 4) ∧ q.1 ≠ 144 ∧ q.1 ≠ 145 := by decide
  unfold ZM at h
  refine ⟨by omega, fun q hq => ?_, fun p' x y u z => ?_, fun x y => by omega⟩
  · have := g _ hq
    dsimp only at this
    omega
  · have lo' := (hP.2.2.1 p' x y).2.2
    by_cases z2 : p' = p
    · subst z2; unfold pkZ; omega
    · have := hP.2.2.2 p' p x y hp.1 hp.2 z2
      omega
theorem ZR_hr (h : ZR p k a j) : hrZ a j := by
  have g : ∀ q, q ∈ RFd → ¬ (q.1 = 66 ∨ q.1 = 67 ∨ q.1 = 73 ∨ q.1 = 76 ∨ (79 ≤ q.1 ∧ q.1 ≤ 93) ∨ q.1 = 97 ∨ q.1 = 98 ∨ (101 ≤ q.1 ∧ q.1 ≤ 103)) := by decide
  unfold ZR at h
  refine ⟨fun y q hq => ?_, by omega, by omega, by omega⟩
  have := g _ hq
  dsimp only at this
  omega
theorem rPu.one (hP : hoP o) (hp : 0 ≤ p ∧ p < oN o) (hq : qOK o (v1p p) q) : rPu o (v1p p) q := ⟨hP, ⟨hp, hp⟩, Or.inl ⟨rfl, fun _ => rfl, fun _ => by show (-1 : Int) < 0; decide⟩, Or.inl ⟨rfl, fun _ => rfl⟩, hq⟩
theorem RB.sub (h : RB LL xs o v q Mc Mr) (hP : hoP o) (f : Fz Z Mc Mc') (hz : ∀ a j, Z a j → hoZ o a j ∧ (a = 88 → j ≠ 1 ∧ j ≠ 2 ∧ j ≠ 3 ∧ j ≠ 6) ∧ (a < 259 ∨ (gL (oP o (vP v)) ≤ a ∧ a < gX (oP o (vP v)) + 18))) (g : Fz Z' Mr Mr') (gz : ∀ a j, Z' a j → hrZ a j ∧ (a = 160 → j ≠ 66 ∧ j ≠ 67 ∧ j ≠ 77 ∧ j ≠ 78 ∧ j ≠ 90 ∧ j ≠ 91 ∧ j ≠ 92 ∧ j ≠ 97) ∧ a ≠ 209) : RB LL xs o v q Mc' Mr' := by
  obtain ⟨⟨h1, h2⟩, ⟨⟨a1, ⟨a2, a3, a4, a5⟩, a6, a7⟩, ⟨⟨b1, b2⟩, ⟨b3, b4, b5, b6⟩, b7⟩⟩, h7, h8⟩ := h
  have p2 : Mc'.2.2.1 = Mc.2.2.1 := congrArg (fun z => z.2.1) f.1
  have k2 : Mc'.2.2.2 = Mc.2.2.2 := congrArg (fun z => z.2.2) f.1
  have c8 : ∀ i, i = 1 ∨ i = 2 ∨ i = 3 ∨ i = 6 → Mc'.1 88 i = Mc.1 88 i := fun i y => f.2 _ _ fun z => by
    have := (hz _ _ z).2.1 rfl
    omega
  have r8 : ∀ i, i = 66 ∨ i = 67 ∨ i = 77 ∨ i = 78 ∨ i = 90 ∨ i = 91 ∨ i = 92 ∨ i = 97 → Mr'.1 160 i = Mr.1 160 i := fun i y => g.2 _ _ fun z => by
    have := (gz _ _ z).2.1 rfl
    omega
  refine ⟨⟨h1.fg hP (f.fg h1.1.2.2) fun a j z => (hz a j z).1, h2.fg (g.fg h2.1.2) fun a j z => (gz a j z).1⟩, ⟨⟨by rw [p2]; exact a1, ⟨(c8 1 (by decide)).trans a2, (c8 3 (by decide)).trans a3, (c8 6 (by decide)).trans a4, by rw [p2]; exact a5⟩, by rw [p2]; exact a6, fun y => ?_⟩, ⟨⟨(r8 66 (by decide)).trans b1, (r8 67 (by decide)).trans b2⟩, ⟨(r8 90 (by decide)).trans b3, (r8 91 (by decide)).trans b4, (r8 92 (by decide)).trans b5, (r8 97 (by decide)).trans b6⟩, fun u x y => ⟨(g.2 _ _ fun z => (gz _ _ z).2.2 rfl).trans (b7 u x y).1, (b7 u x y).2⟩⟩⟩, (c8 2 (by decide)).trans (h7.trans (r8 78 (by decide)).symm), (r8 77 (by decide)).trans h8⟩
  obtain ⟨q1, ⟨q2, q3⟩, q4, q5, q6⟩ := a7 y
  refine ⟨by rw [k2]; exact q1, ⟨q2, q3⟩, by rw [p2]; exact q4, by rw [k2]; exact q5, fun m x1 x2 => (f.2 _ _ fun z => ?_).trans (q6 m x1 x2)⟩
  have := (hz _ _ z).2.2
  omega
theorem RI.sub (h : RI LL xs o v q n s Mc Mr) (hP : hoP o) (hv : vrP o v) (f : Fz Z Mc Mc') (hz : ∀ a j, Z a j → riC o v a j) (g : Fz Z' Mr Mr') (gz : ∀ a j, Z' a j → riR a j) : RI LL xs o v q n s Mc' Mr' := by
  have hb := h.rb.sub hP f (fun a j z => ⟨(hz a j z).1, fun y => by have := (hz a j z).2.1 y; omega, (hz a j z).2.2.2.2.2.2⟩) g (fun a j z => ⟨(gz a j z).1, fun y => by have := (gz a j z).2.1 y; omega, (gz a j z).2.2.1⟩)
  obtain ⟨-, -, ⟨⟨a1, a2, a3, a4, a5⟩, ⟨b0, b1, b2, b3, b4, b5⟩⟩, -, h5, h6⟩ := h
  have k0 : rK o v q.2.2.1 8 0 = gX (oP o (vP v)) + 13 := rfl
  have k1 : rK o v q.2.2.1 8 1 = gX (oP o (vP v)) + 14 := rfl
  have k2 : rK o v q.2.2.1 8 2 = gX (oP o (vP v)) + 15 := rfl
  have gl := (hP.2.2.1 _ hv.1.1 hv.1.2).2.2
  have c1 : ∀ a j, (a = 88 ∧ j = 10) ∨ a = 106 ∨ (108 ≤ a ∧ a < 140) ∨ (143 ≤ a ∧ a ≤ 145) ∨ (gX (oP o (vP v)) + 13 ≤ a ∧ a ≤ gX (oP o (vP v)) + 15) → Mc'.1 a j = Mc.1 a j := fun a j y => f.2 _ _ fun z => by
    obtain ⟨-, t1, t2, t3, t4, t5, t6⟩ := hz _ _ z
    rcases y with y | y | y | y | y
    · have := t1 y.1
      omega
    all_goals omega
  have r1 : ∀ a j, (a = 160 ∧ (j = 83 ∨ j = 98)) ∨ a = 211 ∨ (216 ≤ a ∧ a ≤ 220) ∨ (235 ≤ a ∧ a ≤ 237) → Mr'.1 a j = Mr.1 a j := fun a j y => g.2 _ _ fun z => by
    obtain ⟨-, t1, t2, t3, t4, t5⟩ := gz _ _ z
    rcases y with y | y | y | y
    · have := t1 y.1
      omega
    all_goals omega
  refine ⟨hb.1, hb.2.1, ⟨⟨fun id z y => (c1 _ _ (by omega)).trans (a1 id z y), (c1 _ _ (by omega)).trans a2, fun x p y z => ?_, fun q y z => ?_, fun x => ?_⟩, ⟨hb.1.2.1.1, fun id z y => (r1 _ _ (by omega)).trans (b1 id z y), (r1 _ _ (by omega)).trans b2, fun x p y z => ?_, fun q y z => ?_, fun x => ?_⟩⟩, hb.2.2, h5, h6⟩
  · obtain ⟨b1, b2, b3⟩ := a3 x p y z
    exact ⟨(c1 _ _ (by omega)).trans b1, (c1 _ _ (by omega)).trans b2, (c1 _ _ (by omega)).trans b3⟩
  · obtain ⟨b1, b2, b3⟩ := a4 q y z
    have t : 108 ≤ zTw q ∧ zTw q + 3 < 140 := by unfold zTw; omega
    exact ⟨(c1 _ _ (by omega)).trans b1, fun j m n => (c1 _ _ (by omega)).trans (b2 j m n), fun j m n => (c1 _ _ (by omega)).trans (b3 j m n)⟩
  · obtain ⟨b1, b2⟩ := a5 x
    exact ⟨(c1 _ _ (by omega)).trans b1, fun t m n => ⟨(c1 _ _ (by omega)).trans (b2 t m n).1, (c1 _ _ (by omega)).trans (b2 t m n).2⟩⟩
  · obtain ⟨b1, b2, b3⟩ := b3 x p y z
    exact ⟨(r1 _ _ (by omega)).trans b1, (r1 _ _ (by omega)).trans b2, (r1 _ _ (by omega)).trans b3⟩
  · obtain ⟨b1, b2, b3⟩ := b4 q y z
    exact ⟨(r1 _ _ (by omega)).trans b1, fun j m n => (r1 _ _ (by omega)).trans (b2 j m n), fun j m n => (r1 _ _ (by omega)).trans (b3 j m n)⟩
  · obtain ⟨b1, b2⟩ := b5 x
    exact ⟨(r1 _ _ (by omega)).trans b1, fun t m n => ⟨(r1 _ _ (by omega)).trans (b2 t m n).1, (r1 _ _ (by omega)).trans (b2 t m n).2⟩⟩
end S9cc
