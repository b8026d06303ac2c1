/-! the house as a run has it -/
/-- how many parcels, the parcels; DOUBLES and their numbers -/
abbrev HO : Type := (Int × (Int → PG)) × (Nat → Int → Int → Int) × (Nat → Int → Int → Int32)
def oN (o : HO) : Int := o.1.1
def oP (o : HO) : Int → PG := o.1.2
def oD (o : HO) : Nat → Int → Int → Int := o.2.1
def oW (o : HO) : Nat → Int → Int → Int32 := o.2.2
/-- a run: whether there is another parcel, both; links of units, of members; the class's build, its row -/
abbrev VR : Type := (Int × Int × Int) × (Int → Int) × (Int → Int) × (Nat × Nat)
def vF (v : VR) : Int := v.1.1
def vP (v : VR) : Int := v.1.2.1
def vQ (v : VR) : Int := v.1.2.2
def vL (v : VR) : Int → Int := v.2.1
def vM (v : VR) : Int → Int := v.2.2.1
def vO (v : VR) : Nat := v.2.2.2.1
def vB (v : VR) : Nat := v.2.2.2.2
/-- STEPS, what is altered, covers, hears, luck, the CASE's place, CALLS heard at most -/
def Pf (sl al co he lu st b : Int) : Nat → Int := fun k => match k with
  | 0 => sl
  | 1 => al
  | 2 => co
  | 3 => he
  | 4 => lu
  | 5 => st
  | 6 => b
  | _ => 0
def rE (o : HO) (v : VR) (P : Nat → Int) : ZS := zenv (oP o (vP v)) (oP o (vQ v)) (vF v) (vP v) (vQ v) (vM v) P (dD (oD o) (vP v) (vQ v)) (oW o)
def rK (o : HO) (v : VR) (k : Int) : ZK := zkap (oP o (vP v)) (oP o (vQ v)) (vO v) (vB v) k.toNat
def rR (o : HO) (v : VR) : Int → RG := zRR (oP o (vP v)) (oP o (vQ v))
def rvP (o : HO) (v : VR) (P : Nat → Int) : Prop := zEO (oP o (vP v)) (oP o (vQ v)) (vF v) (vP v) (vQ v) (vL v) (vM v) P (dD (oD o) (vP v) (vQ v))
def hoP (o : HO) : Prop := (0 ≤ oN o ∧ oN o ≤ 8) ∧ dbP (oD o) (oN o) (oP o) ∧ (∀ p, 0 ≤ p → p < oN o → PkP (oP o p)) ∧ ∀ p q, 0 ≤ p → p < oN o → 0 ≤ q → q < oN o → p ≠ q → gX (oP o p) + 18 ≤ gL (oP o q) ∨ gX (oP o q) + 18 ≤ gL (oP o p)
def hoC (LL : Nat) (xs : Nat → Int32) (o : HO) (M : Mem) : Prop := (CT M ∧ OldOK LL xs M ∧ 259 ≤ ln M) ∧ (∀ p, 0 ≤ p → p < oN o → PkC p (oP o p) M) ∧ dbC (oD o) (oW o) M
def hoR (o : HO) (M : Mem) : Prop := (RT M ∧ 259 ≤ ln M) ∧ (∀ p, 0 ≤ p → p < oN o → PkR p (oP o p) M) ∧ dbR (oD o) (oW o) M
def vrP (o : HO) (v : VR) : Prop := (0 ≤ vP v ∧ vP v < oN o) ∧ 0 ≤ vQ v ∧ vQ v < oN o
/-- the class's, the reference's machine is ready for the run -/
def rvC (o : HO) (v : VR) (P : Nat → Int) (M : Mem) : Prop := rnC (vF v) (oP o (vP v)) (oP o (vQ v)) (vM v) P (vO v) (vB v) M
def rvR (o : HO) (v : VR) (P : Nat → Int) (M : Mem) : Prop := rnR (vF v) (vP v) (vQ v) (oP o (vP v)) (vL v) P M
/-- what a run may change of it -/
def hoZ (o : HO) (a j : Nat) : Prop := 64 ≤ a ∧ (∀ q, (a, j, q) ∉ CFd) ∧ (∀ p, 0 ≤ p → p < oN o → gL (oP o p) ≤ a → a < gX (oP o p) + 18 → pkZ (gX (oP o p)) a j) ∧ (108 ≤ a → a < 140 → (a % 4 = 0 ∧ (j = 3 ∨ j = 4 ∨ j = 5 ∨ j = 6)) ∨ a % 4 = 2 ∨ a % 4 = 3)
def hrZ (a j : Nat) : Prop := (a = 160 → ∀ q, (j, q) ∉ RFd) ∧ a ≠ 208 ∧ (a < 162 ∨ 193 < a ∨ a = 183) ∧ (a < 227 ∨ 234 < a)
section S9c5
variable {d dl : Nat} {o : HO} {v : VR} {P : Nat → Int} {s : ZS} {M M' Mc Mr : Mem} {LL a j : Nat} {xs : Nat → Int32} {c p i k : Int} {w : Int32} {Z : Nat → Nat → Prop} {e : ZS} {κ : ZK} {W : List (Nat × Nat)}
theorem inW_x (h : inW W a j = true) : ∃ z, z ∈ W ∧ z.1 = a ∧ (z.2 = 9999 ∨ z.2 = j) := by
  unfold inW at h
  obtain ⟨z, z1, z2⟩ := List.any_eq_true.1 h
  refine ⟨z, z1, ?_⟩
  simpa using z2
theorem hoC.fg (h : hoC LL xs o M) (hP : hoP o) (f : FG Z M M') (w : ∀ a j, Z a j → hoZ o a j) : hoC LL xs o M' := by
  obtain ⟨⟨h1, h2, h3⟩, h4, h5⟩ := h
  refine ⟨⟨h1.fg f fun a j _ ⟨q, hq⟩ z => (w a j z).2.1 q hq, h2.fg f fun a j z y => ?_, Nat.le_trans h3 f.lq⟩, fun p a b => (h4 p a b).fg (hP.2.2.1 p a b) f fun a j z => (w a j z).2.2.1 p ‹_› b, h5.fg f fun a j z => (w a j z).2.2.2⟩
  have := (w a j y).1
  omega
theorem hoR.fg (h : hoR o M) (f : FG Z M M') (w : ∀ a j, Z a j → hrZ a j) : hoR o M' := by
  obtain ⟨⟨h1, h3⟩, h4, h5⟩ := h
  exact ⟨⟨h1.fg f fun j ⟨q, hq⟩ z => (w _ j z).1 rfl q hq, Nat.le_trans h3 f.lq⟩, fun p a b => (h4 p a b).fg f fun a j z => ⟨(w a j z).2.1, (w a j z).2.2.1⟩, h5.fg f fun a j z => (w a j z).2.2.2⟩
/-- what lives change -/
theorem W_y_ho (hP : hoP o) (hv : vrP o v) (h : inW W_y a j = true ∨ (rK o v k 12 0 = 1 ∧ (a = rK o v k 8 0 ∨ a = rK o v k 8 1 ∨ a = rK o v k 8 2))) : hoZ o a j := by
  have gl := (hP.2.2.1 _ hv.1.1 hv.1.2).2.2
  rcases h with h | h
  · obtain ⟨z, z1, z2, z3⟩ := inW_x h
    have g : ∀ z, z ∈ W_y → 64 ≤ z.1 ∧ z.1 < 259 ∧ (108 ≤ z.1 → z.1 < 140 → (z.1 % 4 = 0 ∧ (z.2 = 3 ∨ z.2 = 4 ∨ z.2 = 5 ∨ z.2 = 6)) ∨ z.1 % 4 = 2 ∨ z.1 % 4 = 3) := by decide
    have g2 : ∀ z, z ∈ W_y → ∀ q, q ∈ CFd → ¬ (q.1 = z.1 ∧ (z.2 = 9999 ∨ z.2 = q.2.1)) := by decide +kernel
    obtain ⟨a1, a2, a3⟩ := g z z1
    subst z2
    refine ⟨a1, fun q hq => g2 z z1 _ hq ⟨rfl, z3⟩, fun p x y u w => ?_, fun x y => ?_⟩
    · have := (hP.2.2.1 p x y).2.2
      omega
    · have := a3 x y
      omega
  · have h := h.2
    have hk : ∀ i : Nat, rK o v k 8 i = gX (oP o (vP v)) + 13 + i := fun i => rfl
    have h' : a = gX (oP o (vP v)) + 13 ∨ a = gX (oP o (vP v)) + 14 ∨ a = gX (oP o (vP v)) + 15 := by
      rcases h with h | h | h
      · exact Or.inl h
      · exact Or.inr (Or.inl h)
      · exact Or.inr (Or.inr h)
    have ha : 259 ≤ a := by omega
    refine ⟨by omega, fun q hq => ?_, fun p x y u w => ?_, fun x y => by omega⟩
    · have g : ∀ q, q ∈ CFd → q.1 < 259 := by decide
      have := g _ hq
      dsimp only at this
      omega
    · by_cases z : p = vP v
      · subst z; unfold pkZ; omega
      · have := hP.2.2.2 p (vP v) x y hv.1.1 hv.1.2 z
        have := (hP.2.2.1 p x y).2.2
        omega
theorem W_l_ho (h : inW W_l a j = true) : hrZ a j := by
  obtain ⟨z, z1, z2, z3⟩ := inW_x h
  have g : ∀ z, z ∈ W_l → z.1 ≠ 208 ∧ (z.1 < 162 ∨ 193 < z.1 ∨ z.1 = 183) ∧ (z.1 < 227 ∨ 234 < z.1) := by decide
  have g2 : ∀ z, z ∈ W_l → ∀ q, q ∈ RFd → ¬ (z.1 = 160 ∧ (z.2 = 9999 ∨ z.2 = q.1)) := by decide +kernel
  subst z2
  exact ⟨fun y q hq => g2 z z1 _ hq ⟨y, z3⟩, g z z1⟩
theorem hoC.fl (h : hoC LL xs o M) (hP : hoP o) (hv : vrP o v) (f : zFl (rK o v k) M M') : hoC LL xs o M' := h.fg hP (f.fg h.1.2.2) fun a j z => W_y_ho hP hv z
theorem hoR.rl (h : hoR o M) (f : zRl e M M') : hoR o M' := h.fg (f.fg h.1.2) fun a j z => W_l_ho z.1
theorem rvC.fl (h : rvC o v P M) (f : zFl (rK o v k) M M') (hg : PkP (oP o (vP v))) : rvC o v P M' := by
  obtain ⟨h1, ⟨h2, h3, h4, h5, h6⟩, h7, h8⟩ := h
  have gl := hg.2.2
  have p2 : M'.2.2.1 = M.2.2.1 := congrArg (fun z => z.2.1) f.1
  have k2 : M'.2.2.2 = M.2.2.2 := congrArg (fun z => z.2.2) f.1
  have k0 : rK o v k 8 0 = gX (oP o (vP v)) + 13 := rfl
  have k1 : rK o v k 8 1 = gX (oP o (vP v)) + 14 := rfl
  have k2' : rK o v k 8 2 = gX (oP o (vP v)) + 15 := rfl
  have g : ∀ j, j = 1 ∨ j = 3 ∨ j = 5 ∨ j = 6 → M'.1 88 j = M.1 88 j := fun j z => f.2 88 j (by rcases z with z | z | z | z <;> subst z <;> decide) (by omega) (by omega) (by omega)
  refine ⟨by rw [p2]; exact h1, ⟨(g 1 (by decide)).trans h2, (g 3 (by decide)).trans h3, fun z => (g 5 (by decide)).trans (h4 z), (g 6 (by decide)).trans h5, by rw [p2]; exact h6⟩, by rw [p2]; exact h7, fun z => ?_⟩
  obtain ⟨q1, ⟨q2, q3⟩, q4, q5, q6⟩ := h8 z
  refine ⟨by rw [k2]; exact q1, ⟨q2, q3⟩, by rw [p2]; exact q4, by rw [k2]; exact q5, fun m x y => ?_⟩
  refine Eq.trans (f.2 _ _ (inW_n (fun z y => ?_) _) ?_ ?_ ?_) (q6 m x y)
  · have g2 : ∀ z, z ∈ W_y → z.1 < 259 := by decide
    have := g2 z y
    omega
  all_goals omega
theorem rvR.rl (h : rvR o v P M) (f : zRl e M M') : rvR o v P M' := by
  obtain ⟨⟨h1, h2⟩, ⟨h3, h4, h5, h6, h7⟩, h8⟩ := h
  have g : ∀ j, j = 66 ∨ j = 67 ∨ j = 90 ∨ j = 91 ∨ j = 92 ∨ j = 93 ∨ j = 97 → M'.1 160 j = M.1 160 j := fun j z => f.2.1 _ _ (W_lf (by omega))
  refine ⟨⟨(g _ (by decide)).trans h1, (g _ (by decide)).trans h2⟩, ⟨(g _ (by decide)).trans h3, (g _ (by decide)).trans h4, (g _ (by decide)).trans h5, (g _ (by decide)).trans h6, fun z => (g _ (by decide)).trans (h7 z)⟩, fun u a b => ?_⟩
  rw [f.2.1 _ _ (W_lf (by omega))]
  exact h8 u a b
/-- both environments stand -/
theorem ho_E (hP : hoP o) (hv : vrP o v) (hE : rvP o v P) (hC : hoC LL xs o M) (hR : rvC o v P M) : zCE (rE o v P) (rK o v (P 2)) M := by
  refine zCE.mk hE rfl (hP.2.2.1 _ hv.1.1 hv.1.2) (hC.2.1 _ hv.1.1 hv.1.2) (fun z => ⟨hP.2.2.1 _ hv.2.1 hv.2.2, hC.2.1 _ hv.2.1 hv.2.2, ?_⟩) hR (zE7.mk hE hP.2.1 hC.2.2) (fun z => by rw [z]; rfl)
  by_cases y : vQ v = vP v
  · exact Or.inl (by rw [y])
  · have := hP.2.2.2 (vP v) (vQ v) hv.1.1 hv.1.2 hv.2.1 hv.2.2 (fun z => y z.symm)
    exact Or.inr this
theorem ho_R (hP : hoP o) (hv : vrP o v) (hE : rvP o v P) (hC : hoR o M) (hR : rvR o v P M) : zRE (rE o v P) (rR o v) (vL v) M :=
  zRE.mk hE rfl (hP.2.2.1 _ hv.1.1 hv.1.2) (hC.2.1 _ hv.1.1 hv.1.2) (fun z => ⟨hP.2.2.1 _ hv.2.1 hv.2.2, hC.2.1 _ hv.2.1 hv.2.2⟩) hR (zR7.mk hE hP.2.1 hC.2.2)
end S9c5
