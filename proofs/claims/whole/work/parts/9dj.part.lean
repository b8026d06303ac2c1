/-! build(), both -/
/-- a BUILD: its parcels, its cell in the class, links of units, of members -/
abbrev BG : Type := (Int × Int) × Nat × (Int → Int) × (Int → Int)
def bdC (ow : Nat → Int) (o : HO) (nB : Int) (B : Int → BG) (M : Mem) : Prop := Lf ow 140 2 (fun k => (B k).2.1) nB M ∧ ∀ k, 0 ≤ k → k < nB → (((0 ≤ (B k).1.1 ∧ (B k).1.1 < oN o) ∧ 0 ≤ (B k).1.2 ∧ (B k).1.2 < oN o) ∧ 259 ≤ (B k).2.1 ∧ ∀ a, (B k).2.1 ≤ a → a ≤ (B k).2.1 + 2 → ow a = 20 + k) ∧ bdK (oP o (B k).1.1) (oP o (B k).1.2) (B k).2.1 (B k).2.2.1 (B k).2.2.2 M ∧ bdL (oP o (B k).1.1) (oP o (B k).1.2) (B k).2.2.1 (B k).2.2.2
def bdR (nB : Int) (B : Int → BG) (M : Mem) : Prop := M.1 160 154 = iI nB ∧ ∀ k : Int, 0 ≤ k → k < nB → M.1 257 k.toNat = iI (B k).1.1 ∧ M.1 258 k.toNat = iI (B k).1.2
def Zbd (ow : Nat → Int) (a : Nat) : Prop := a = 140 ∨ (259 ≤ a ∧ ow a = 2)
def Zbq (a j : Nat) : Prop := (a = 160 ∧ j = 154) ∨ a = 257 ∨ a = 258
section S9dj
variable {d dl : Nat} {o : HO} {M M' M1 M2 Mc Mr Mc' Mr' : Mem} {LL a j b c t : Nat} {xs : Nat → Int32} {ow ow' : Nat → Int} {p q i k nB sl : Int} {v1 v2 : Int32} {B B' : Int → BG} {g0 g1 : PG} {L lk : Int → Int} {Z : Nat → Prop}
theorem bdK.fo (h : bdK g0 g1 b L lk M) (f : Fo Z c t M M') (z : ∀ a, b ≤ a → a ≤ b + 2 → ¬ Z a) : bdK g0 g1 b L lk M' := by
  obtain ⟨⟨h1, h2, h3⟩, ⟨h4, h5, h6, h7⟩, h8, h9⟩ := h
  have l1 := ln_lt h1
  have l2 := ln_lt h2
  have l3 := ln_lt h3
  have z0 := z b (Nat.le_refl _) (by omega)
  exact ⟨⟨f.kd h1, f.kd h2, f.kd h3⟩, ⟨(f.p l1 z0 _).trans h4, (f.p l1 z0 _).trans h5, (f.p l1 z0 _).trans h6, (f.p l1 z0 _).trans h7⟩, fun u x1 x2 => (f.i l2 (z _ (by omega) (by omega)) _).trans (h8 u x1 x2), fun m x1 x2 => (f.i l3 (z _ (by omega) (by omega)) _).trans (h9 m x1 x2)⟩
theorem Zbd_ho (hP : hoP o) (hpl : plC ow o M) (h : Zbd ow a) : hoZ o a j := by
  rcases h with h | ⟨h, h2⟩
  · subst h
    exact ⟨by decide, fun q hq => by
      have g : ∀ q, q ∈ CFd → q.1 ≠ 140 := by decide
      exact g _ hq rfl, fun p x y u z => by have := (hP.2.2.1 p x y).2.2; omega, fun x y => absurd y (by decide)⟩
  · refine ⟨by omega, fun q hq => ?_, fun p x y u w => ?_, fun x y => by omega⟩
    · have g : ∀ q, q ∈ CFd → q.1 < 259 := by decide
      have := g _ hq
      dsimp only at this
      omega
    · have := hpl.2 p x y a u w
      omega
theorem build_ok (hdl : 20 ≤ dl) (hd : 4 ≤ d) (hP : hoP o) (hp : 0 ≤ p ∧ p < oN o) (hq : 0 ≤ q ∧ q < oN o) (hC : HC LL xs o ow sl Mc) (hR : HR o sl Mr) (hb : bdC ow o nB B Mc) (hr : bdR nB B Mr) (hn : 0 ≤ nB ∧ nB < 8) (hv : v1 = iI p) (hv2 : v2 = iI q) : ∃ Mc' Mr' ow' B', runX dl 164 [va_rf (some 64), .int v1, .int v2] Mc = some (.int (iI nB), Mc') ∧ runX d 306 [va_rf (some 160), .int v1, .int v2] Mr = some (.int (iI nB), Mr') ∧ Fo (Zbd ow) 4 118 Mc Mc' ∧ Fz Zbq Mr Mr' ∧ (∀ a, a < ln Mc → ow' a = ow a) ∧ bdC ow' o (nB + 1) B' Mc' ∧ bdR (nB + 1) B' Mr' ∧ HC LL xs o ow' sl Mc' ∧ HR o sl Mr' := by
  obtain ⟨dl, rfl⟩ : ∃ e, dl = e + 1 := ⟨dl - 1, by omega⟩
  obtain ⟨d, rfl⟩ : ∃ e, d = e + 1 := ⟨d - 1, by omega⟩
  subst hv; subst hv2
  have p8 := hP.1
  have lp := pk_lo hP hp
  have lq := pk_lo hP hq
  have hl := hC.1.1.2.2
  have cM := hC.1.1.1
  have rM := hR.1.1.1
  have e167 := zc167 (d := dl) (M := Mc) (v := iI p) (p := p) (by omega) cM hC.2.1 hC.1.ob rfl (by omega)
  rw [if_pos hp] at e167
  have e167q := zc167 (d := dl) (M := Mc) (v := iI q) (p := q) (by omega) cM hC.2.1 hC.1.ob rfl (by omega)
  rw [if_pos hq] at e167q
  have e255 := zr255 (d := d) (M := Mr) (v := iI p) (p := p) (by omega) rM hR.2.1 (by omega) rfl (by omega)
  rw [if_pos hp] at e255
  have e255q := zr255 (d := d) (M := Mr) (v := iI q) (p := q) (by omega) rM hR.2.1 (by omega) rfl (by omega)
  rw [if_pos hq] at e255q
  have hCp := hC.1.2.1 p hp.1 hp.2
  have hCq := hC.1.2.1 q hq.1 hq.2
  have lnp := ln_lt hCp.2.2.1.2.2
  have lnq := ln_lt hCq.2.2.1.2.2
  -- the object
  obtain ⟨b, hb0⟩ : ∃ b, b = ln Mc := ⟨_, rfl⟩
  obtain ⟨M1, hM1⟩ : ∃ X, X = nw Mc 1 4 := ⟨_, rfl⟩
  have f1 : Fo (fun _ => False) 1 4 Mc M1 := by rw [hM1]; exact Fo.nw
  have l1 : ln M1 = b + 1 := by rw [hM1, nw_ln, ← hb0]
  have kb : M1.2.2.2[b]? = some (1, 4) := by rw [hM1, hb0]; exact nw_kd
  have g1 := f1.fgx hl
  obtain ⟨M2, L, lk, b1, b2, b3, b4, b5⟩ := bc0 (d := dl) (M := M1) (b := b) (by omega) (hP.2.2.1 p hp.1 hp.2) (hP.2.2.1 q hq.1 hq.2) (hCp.fg (hP.2.2.1 p hp.1 hp.2) g1 fun a j z => z.elim) (hCq.fg (hP.2.2.1 q hq.1 hq.2) g1 fun a j z => z.elim) (by omega) (by omega) kb (by omega)
  have f2 : Fo (fun _ => False) 3 108 Mc M2 := by
    have := (f1.m (Z' := fun a => a = b) (fun a _ z => z.elim) (Nat.le_refl _) (Nat.le_refl _)).tr b2
    exact this.m (fun a l z => by omega) (by omega) (by omega)
  have g2 := f2.fgx hl
  -- the list
  obtain ⟨ow1, how1⟩ : ∃ X, X = owx ow b (20 + nB) := ⟨_, rfl⟩
  have o1 : ∀ a, a < b → ow1 a = ow a := fun a z => by rw [how1]; exact if_neg (by omega)
  have o1' : ∀ a, b ≤ a → ow1 a = 20 + nB := fun a z => by rw [how1]; exact if_pos z
  have hL2 : Lf ow1 140 2 (fun k => (B k).2.1) nB M2 := hb.1.fg g2 (fun a z => o1 a (by omega)) (fun _ z => z) (fun _ _ _ _ z => z)
  obtain ⟨M3, c1, c2, c3, c4⟩ := hL2.add (d := dl) (x := b) (by omega) hn.2 (by omega) b4.1.1 (by decide)
  rw [b3] at c2
  obtain ⟨ow2, how2⟩ : ∃ X, X = owx ow1 (b + 3) 2 := ⟨_, rfl⟩
  rw [← how2] at c2
  have o2 : ∀ a, a < b → ow2 a = ow a := fun a z => by rw [how2]; exact (if_neg (by omega)).trans (o1 a z)
  have o2' : ∀ a, b ≤ a → a ≤ b + 2 → ow2 a = 20 + nB := fun a z z2 => by rw [how2]; exact (if_neg (by omega)).trans (o1' a z)
  have f3 : Fo (Zbd ow) 4 118 Mc M3 := by
    have : Fo (fun a => a = 140 ∨ (259 ≤ a ∧ ow1 a = 2)) 4 118 Mc M3 := ((f2.m (fun a _ z => z.elim) (Nat.le_refl _) (Nat.le_refl _)).tr c3)
    exact this.m (fun a l z => by
      have := o1 a (by omega)
      unfold Zbd
      omega) (Nat.le_refl _) (Nat.le_refl _)
  have g3 := f3.fgx hl
  have cl : runX (dl + 1) 164 [va_rf (some 64), .int (iI p), .int (iI q)] Mc = some (.int (iI nB), M3) := by
    have c140 : M2.2.2.2[140]? = some (0, 3) := hL2.1.1
    have cM2 : CT M2 := cM.fg g2 fun _ _ _ _ z => z
    have cM3 : CT M3 := cM.fg g3 fun a j _ ⟨q, hq⟩ y => (Zbd_ho (j := j) hP hC.2.1 y).2.1 q hq
    rw [r164]; unfold b164; rw [aR_e, aI_e, aI_e, aZ_e]; unfold c164
    rw [vC_e (ck_64 cM), cP_e e167, vC_e (ck_64 cM), cP_e e167q, jn_v, if_neg (show ¬ some (gX (oP o p)) = none by simp), if_neg (show ¬ some (gX (oP o q)) = none by simp), gtP_q (ck_64 cM) (cf_64_4 cM), vC_e hb.1.1.1, cI_e (lf_size (by omega) hb.1), if_pos (show iI nB < (8 : Int32) from lsI_p (y := 8) rfl rfl (by omega)), gtP_q (ck_64 cM) (cf_64_4 cM), nO_e, show Mc.2.2.2.length = b from hb0.symm, show nw Mc (1, 4).1 (1, 4).2 = M1 from hM1.symm, vC_e kb, cV_e b1, vC_e c140, cI_e c1, gtP_q (ck_64 cM3) (cf_64_4 cM3), vC_e c2.1.1, cI_e (lf_size (by omega) c2), show iI (nB + 1) - (1 : Int32) = iI nB from cvI (sbI rfl li_1) (by omega)]
  -- the reference
  obtain ⟨r1, r2⟩ := id hr
  obtain ⟨R1, hR1⟩ : ∃ X, X = sI Mr 257 nB.toNat (iI p) := ⟨_, rfl⟩
  obtain ⟨R2, hR2⟩ : ∃ X, X = sI R1 258 nB.toNat (iI q) := ⟨_, rfl⟩
  obtain ⟨R3, hR3⟩ : ∃ X, X = sI R2 160 154 (iI (nB + 1)) := ⟨_, rfl⟩
  have k1 : RT R1 := rM.keep (by rw [hR1]; rfl)
  have k2 : RT R2 := k1.keep (by rw [hR2]; rfl)
  have k3 : RT R3 := k2.keep (by rw [hR3]; rfl)
  have n1 : R1.1 160 154 = iI nB := by rw [hR1]; exact (sI_ne (by decide)).trans r1
  have n2 : R2.1 160 154 = iI nB := by rw [hR2]; exact (sI_ne (by decide)).trans n1
  have n3 : R3.1 160 154 = iI (nB + 1) := by rw [hR3]; exact sI_eq
  have G : Fz Zbq Mr R3 := by
    rw [hR3, hR2, hR1]
    exact ((Fz.r.si (Or.inr (Or.inl rfl))).si (Or.inr (Or.inr rfl))).si (Or.inl ⟨rfl, rfl⟩)
  have rl : runX (d + 1) 306 [va_rf (some 160), .int (iI p), .int (iI q)] Mr = some (.int (iI nB), R3) := by
    rw [r306]; unfold b306; rw [aR_e, aI_e, aI_e, aZ_e]; unfold c306
    rw [vC_e (rk_160 rM), cI_e e255, jn_v, if_neg (show ¬ iI 1 = 0 by decide), vC_e (rk_160 rM), cI_e e255q, if_neg (show ¬ iI 1 = 0 by decide), gtI_q (rk_160 rM) r1, if_neg (show ¬ iI nB = (8 : Int32) from eqI_n (y := 8) rfl rfl (by omega)), gtP_q (rk_160 rM) (rf_155 rM), gtI_q (rk_160 rM) r1, asI_e (z := nB) (n := 8) (rk_257 rM) (by omega) (by omega) (by omega), ← hR1, gtP_q (rk_160 k1) (rf_156 k1), gtI_q (rk_160 k1) n1, asI_e (z := nB) (n := 8) (rk_258 k1) (by omega) (by omega) (by omega), ← hR2, gtI_q (rk_160 k2) n2, ptI_q (z := nB + 1) (rk_160 k2) (adI rfl li_1), ← hR3, gtI_q (rk_160 k3) n3, show iI (nB + 1) - (1 : Int32) = iI nB from cvI (sbI rfl li_1) (by omega)]
  have hRo : hoR o R3 := hR.1.fg (G.fg hR.1.1.2) fun a j z => ⟨fun y q hq => by
    have g : ∀ q, q ∈ RFd → q.1 ≠ 154 := by decide
    have := g _ hq
    dsimp only at this
    unfold Zbq at z
    omega, by unfold Zbq at z; omega, by unfold Zbq at z; omega, by unfold Zbq at z; omega⟩
  have w160 : ∀ j, j ≠ 154 → R3.1 160 j = Mr.1 160 j := fun j z => G.2 _ _ (by unfold Zbq; omega)
  have hCo : hoC LL xs o M3 := hC.1.fg hP g3 fun a j z => Zbd_ho hP hC.2.1 z
  refine ⟨M3, R3, ow2, up1 B nB ((p, q), b, L, lk), cl, rl, f3, G, fun a z => o2 a (by omega), ⟨c2.cg fun j x1 x2 => ?_, fun k x1 x2 => ?_⟩, ⟨n3, fun k x1 x2 => ?_⟩, ⟨hCo, ⟨hC.2.1.1.fg g3 (fun a z => o2 a (by omega)) (fun j z => ?_) (fun a j z1 z2 z3 => ?_), fun p' y1 y2 a y3 y4 => ?_⟩, ?_⟩, hRo, (w160 2 (by decide)).trans hR.2.1, (w160 77 (by decide)).trans hR.2.2.1, (w160 90 (by decide)).trans hR.2.2.2.1, (w160 91 (by decide)).trans hR.2.2.2.2.1, (w160 92 (by decide)).trans hR.2.2.2.2.2.1, (w160 97 (by decide)).trans hR.2.2.2.2.2.2⟩
  · unfold up1
    by_cases y : j = nB
    · rw [if_pos y, if_pos y]
    · rw [if_neg y, if_neg y]
  · unfold up1
    by_cases y : k = nB
    · rw [if_pos y]
      refine ⟨⟨⟨hp, hq⟩, (by show 259 ≤ b; omega), fun a z1 z2 => by rw [y]; exact o2' a z1 z2⟩, ?_, b5⟩
      refine b4.fo c3 fun a z1 z2 z3 => ?_
      have := o1' a z1
      omega
    · rw [if_neg y]
      obtain ⟨⟨h1, h2, h3⟩, h4, h5⟩ := hb.2 k x1 (by omega)
      have lk3 := ln_lt h4.1.2.2
      refine ⟨⟨h1, h2, fun a z1 z2 => (o2 a (by omega)).trans (h3 a z1 z2)⟩, h4.fo f3 (fun a z1 z2 z3 => ?_), h5⟩
      have := h3 a z1 z2
      unfold Zbd at z3
      omega
  · unfold up1
    by_cases y : k = nB
    · rw [if_pos y, y, hR3]
      refine ⟨(sI_ne (by decide)).trans ?_, (sI_ne (by decide)).trans ?_⟩
      · rw [hR2]; exact (sI_ne (by decide)).trans (by rw [hR1]; exact sI_eq)
      · rw [hR2]; exact sI_eq
    · rw [if_neg y, hR3]
      refine ⟨(sI_ne (by decide)).trans ?_, (sI_ne (by decide)).trans ?_⟩
      · rw [hR2]; exact (sI_ne (by decide)).trans (by rw [hR1]; exact (sI_nej (by omega)).trans (r2 k x1 (by omega)).1)
      · rw [hR2]; exact (sI_nej (by omega)).trans (by rw [hR1]; exact (sI_ne (by decide)).trans (r2 k x1 (by omega)).2)
  · unfold Zbd at z; omega
  · unfold Zbd at z3; omega
  · have lp' := ln_lt (hC.1.2.1 p' y1 y2).2.2.1.2.2
    exact (o2 a (by omega)).trans (hC.2.1.2 p' y1 y2 a y3 y4)
  · exact (g3.i (g3.lw (by decide)) (by unfold Zbd; omega)).trans hC.2.2
end S9dj
