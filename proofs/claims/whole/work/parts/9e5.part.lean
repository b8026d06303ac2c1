/-! history(), op(), linear(), place(): both -/
/-- HISTORIES: what is told, the cell in the class -/
def hbC (ow : Nat → Int) (nH : Int) (B : Int → HY × Nat) (M : Mem) : Prop := Lf ow 141 3 (fun i => (B i).2) nH M ∧ ∀ i : Int, 0 ≤ i → i < nH → hyO (B i).1 ∧ hyC (B i).1 (B i).2 M ∧ (259 ≤ (B i).2 ∧ ∀ a, (B i).2 ≤ a → a ≤ (B i).2 + 8 → ow a = 30 + i) ∧ (M.1 (B i).2 5 = iI 0 ∨ (M.1 (B i).2 5 = iI 1 ∧ ∃ b : Int, M.1 (B i).2 6 = iI b ∧ hyX (B i).1 (B i).2 (fun _ => 0) 0 M b))
def hbR (nH : Int) (B : Int → HY × Nat) (M : Mem) : Prop := M.1 160 138 = iI nH ∧ ∀ i : Int, 0 ≤ i → i < nH → hyR (B i).1 i M
def Zhy (ow : Nat → Int) (a : Nat) : Prop := a = 141 ∨ (259 ≤ a ∧ ow a = 3)
def Zho (ow : Nat → Int) (a _ : Nat) : Prop := 259 ≤ a ∧ 30 ≤ ow a
def Zhq (a j : Nat) : Prop := (a = 160 ∧ j = 138) ∨ (246 ≤ a ∧ a ≤ 254)
section S9e5
variable {d dl : Nat} {o : HO} {M M' M1 M2 Mc Mr Mc' Mr' : Mem} {LL a j b c t x : Nat} {xs : Nat → Int32} {ow ow' : Nat → Int} {p q i k nH sl H : Int} {v v1 v2 v3 v4 v5 v6 : Int32} {B B' : Int → HY × Nat} {Z : Nat → Prop} {h : HY}
theorem hyC.fo (H : hyC h x M) (f : Fo Z c t M M') (z : ∀ a, x ≤ a → a ≤ x + 8 → ¬ Z a) : hyC h x M' ∧ ∀ a j, x ≤ a → a ≤ x + 8 → M'.1 a j = M.1 a j := by
  obtain ⟨⟨h1, h2, h3, h4⟩, ⟨h5, h6, h7⟩, h8, ⟨h9, h10⟩, h11⟩ := H
  have l8 := ln_lt h7
  have e : ∀ a j, x ≤ a → a ≤ x + 8 → M'.1 a j = M.1 a j := fun a j y w => f.i (by omega) (z a y w) j
  have ep : ∀ a j, x ≤ a → a ≤ x + 8 → M'.2.2.1 a j = M.2.2.1 a j := fun a j y w => f.p (by omega) (z a y w) j
  refine ⟨⟨⟨f.kd h1, (ep _ _ (by omega) (by omega)).trans h2, (ep _ _ (by omega) (by omega)).trans h3, (ep _ _ (by omega) (by omega)).trans h4⟩, ⟨f.kd h5, f.kd h6, f.kd h7⟩, fun k y => ⟨(ep _ _ (by omega) (by omega)).trans (h8 k y).1, f.kd (h8 k y).2⟩, ⟨(e _ _ (by omega) (by omega)).trans h9, (e _ _ (by omega) (by omega)).trans h10⟩, fun k y w => ?_⟩, e⟩
  obtain ⟨t1, t2, t3, t4, t5⟩ := h11 k y w
  exact ⟨(e _ _ (by omega) (by omega)).trans t1, (e _ _ (by omega) (by omega)).trans t2, (e _ _ (by omega) (by omega)).trans t3, (e _ _ (by omega) (by omega)).trans t4, (e _ _ (by omega) (by omega)).trans t5⟩
/-- a HISTORY is made -/
theorem hc5 (hd : 1 ≤ d) (hk : 0 ≤ k ∧ k ≤ 2) (lx : ln M = x + 1) (kx : M.2.2.2[x]? = some (2, 7)) (z1 : M.1 x 1 = iI 0) (z5 : M.1 x 5 = iI 0) (hv : v = iI k) : ∃ M', runX d 5 [va_rf (some x), .int v] M = some (.null, M') ∧ Fo (fun a => a = x) 8 61 M M' ∧ ln M' = x + 9 ∧ M'.1 x 5 = iI 0 ∧ hyC ((k, 0), (fun _ _ => 0), (fun _ _ => 0)) x M' := by
  obtain ⟨d, rfl⟩ : ∃ e, d = e + 1 := ⟨d - 1, by omega⟩
  subst hv
  have e8 : (8 : Int32) = iI ((8 : Nat) : Int) := rfl
  have e5 : (5 : Int32) = iI ((5 : Nat) : Int) := rfl
  obtain ⟨M2, hM2⟩ : ∃ X, X = nw M 100 8 := ⟨_, rfl⟩
  have f2 : Fo (fun a => a = x) 1 8 M M2 := by rw [hM2]; exact Fo.nw
  have l2 : ln M2 = x + 2 := by rw [hM2, nw_ln]; omega
  have k2 : M2.2.2.2[x + 1]? = some (100, 8) := by rw [hM2, ← lx]; exact nw_kd
  obtain ⟨M3, hM3⟩ : ∃ X, X = sP M2 x 0 (some (x + 1)) := ⟨_, rfl⟩
  have f3 : Fo (fun a => a = x) 1 8 M M3 := by rw [hM3]; exact f2.tr (Fo.sP rfl)
  have l3 : ln M3 = x + 2 := by rw [hM3]; exact l2
  obtain ⟨M5, hM5⟩ : ∃ X, X = nwAA M3 113 100 5 8 := ⟨_, rfl⟩
  have f5' : Fo (fun _ => False) 6 45 M3 M5 := by rw [hM5]; exact Fo.nAA
  have f5 : Fo (fun a => a = x) 7 53 M M5 := (f3.tr (f5'.m (Z' := fun a => a = x) (fun _ _ z => z.elim) (Nat.le_refl _) (Nat.le_refl _))).m (fun _ _ z => z) (by omega) (by omega)
  have l5 : ln M5 = x + 8 := by rw [hM5, nwAA_ln]; omega
  have k5 : M5.2.2.2[x + 2]? = some (113, 5) := by rw [hM5, ← l3]; exact nwAA_k0
  have k5' : ∀ i : Nat, i < 5 → M5.2.2.1 (x + 2) i = some (x + 3 + i) ∧ M5.2.2.2[x + 3 + i]? = some (100, 8) := fun i y => by
    rw [hM5, ← l3, show x + 3 + i = ln M3 + 1 + i by omega]
    exact ⟨nwAA_p y, nwAA_k1 y⟩
  obtain ⟨M6, hM6⟩ : ∃ X, X = sP M5 x 3 (some (x + 2)) := ⟨_, rfl⟩
  have f6 : Fo (fun a => a = x) 7 53 M M6 := by rw [hM6]; exact f5.tr (Fo.sP rfl)
  have l6 : ln M6 = x + 8 := by rw [hM6]; exact l5
  obtain ⟨M8, hM8⟩ : ∃ X, X = nw M6 100 8 := ⟨_, rfl⟩
  have f8' : Fo (fun a => a = x) 1 8 M6 M8 := by rw [hM8]; exact Fo.nw
  have f8 : Fo (fun a => a = x) 8 61 M M8 := (f6.tr f8').m (fun _ _ z => z) (by omega) (by omega)
  have l8 : ln M8 = x + 9 := by rw [hM8, nw_ln]; omega
  have k8 : M8.2.2.2[x + 8]? = some (100, 8) := by rw [hM8, ← l6]; exact nw_kd
  obtain ⟨M9, hM9⟩ : ∃ X, X = sI (sP M8 x 4 (some (x + 8))) x 2 (iI k) := ⟨_, rfl⟩
  have f9 : Fo (fun a => a = x) 8 61 M M9 := by rw [hM9]; exact (f8.tr (Fo.sP rfl)).tr (Fo.sI rfl)
  have i3 : M3.1 = M2.1 := by rw [hM3]; rfl
  have i6 : M6.1 = M5.1 := by rw [hM6]; rfl
  have ix : ∀ j, M8.1 x j = M.1 x j := fun j => by
    have g5 : Fo (fun _ => False) 6 45 M3 M5 := f5'
    have g8 : Fo (fun _ => False) 1 8 M6 M8 := by rw [hM8]; exact Fo.nw
    have g2 : Fo (fun _ => False) 1 8 M M2 := by rw [hM2]; exact Fo.nw
    rw [g8.i (by omega) id, i6, g5.i (by omega) id, i3, g2.i (by omega) id]
  have px : ∀ j, j ≠ 0 → j ≠ 3 → j ≠ 4 → True := fun _ _ _ _ => trivial
  have p0 : M9.2.2.1 x 0 = some (x + 1) := by
    have g5 : Fo (fun _ => False) 6 45 M3 M5 := f5'
    have g8 : Fo (fun _ => False) 1 8 M6 M8 := by rw [hM8]; exact Fo.nw
    rw [hM9]
    show (sP M8 x 4 (some (x + 8))).2.2.1 x 0 = _
    rw [sP_nej (by decide), g8.p (by omega) id, hM6, sP_nej (by decide), g5.p (by omega) id, hM3]
    exact sP_eq
  have p3 : M9.2.2.1 x 3 = some (x + 2) := by
    have g8 : Fo (fun _ => False) 1 8 M6 M8 := by rw [hM8]; exact Fo.nw
    rw [hM9]
    show (sP M8 x 4 (some (x + 8))).2.2.1 x 3 = _
    rw [sP_nej (by decide), g8.p (by omega) id, hM6]
    exact sP_eq
  have p4 : M9.2.2.1 x 4 = some (x + 8) := by
    rw [hM9]
    exact sP_eq
  have kk : ∀ (a : Nat) (q : Nat × Nat), M8.2.2.2[a]? = some q → M9.2.2.2[a]? = some q := fun a q z => by rw [hM9]; exact z
  have k68 : ∀ (a : Nat) (q : Nat × Nat), M5.2.2.2[a]? = some q → M9.2.2.2[a]? = some q := fun a q z => kk a q (by
    rw [hM8]
    have g8 : Fo (fun _ => False) 1 8 M6 (nw M6 100 8) := Fo.nw
    exact g8.kd (by rw [hM6]; exact z))
  have k18 : M9.2.2.2[x + 1]? = some (100, 8) := k68 _ _ (f5'.kd (by rw [hM3]; exact k2))
  have lM8 : ln M8 = x + 9 := l8
  refine ⟨M9, ?_, f9, by rw [hM9]; exact l8, ?_, ⟨f9.kd kx, p0, p3, p4⟩, ⟨k18, k68 _ _ k5, kk _ _ k8⟩, fun i y => ⟨?_, k68 _ _ (k5' i y).2⟩, ⟨?_, ?_⟩, fun k y w => ?_⟩
  · have kx2 : M2.2.2.2[x]? = some (2, 7) := f2.kd kx
    have kx5 : M5.2.2.2[x]? = some (2, 7) := f5.kd kx
    have kx8 : M8.2.2.2[x]? = some (2, 7) := f8.kd kx
    rw [r5]; unfold b5; rw [aR_e, aI_e, aZ_e]; unfold c5
    rw [nn_e, e8, nA_e (by omega) (by omega), show M.2.2.2.length = x + 1 from lx, show nw M 100 ((8 : Nat) : Int).toNat = M2 from hM2.symm, ptP_e kx2, ← hM3, e5, nAA_q (n := 5) (k := 8) rfl rfl (by decide), show ln M3 = x + 2 from l3, ← hM5, ptP_e kx5, ← hM6, nA_e (by omega) (by omega), show M6.2.2.2.length = x + 8 from l6, show nw M6 100 ((8 : Nat) : Int).toNat = M8 from hM8.symm, ptP_e kx8, ptI_e (M := sP M8 x 4 (some (x + 8))) kx8, ← hM9]
  · rw [hM9]
    exact (sI_nej (by decide)).trans ((ix 5).trans z5)
  · have g8 : Fo (fun _ => False) 1 8 M6 M8 := by rw [hM8]; exact Fo.nw
    rw [hM9]
    show (sP M8 x 4 (some (x + 8))).2.2.1 (x + 2) i = _
    rw [sP_ne (by omega), g8.p (by omega) id, hM6, sP_ne (by omega)]
    exact (k5' i y).1
  · rw [hM9]
    exact (sI_nej (by decide)).trans ((ix 1).trans z1)
  · rw [hM9]; exact sI_eq
  · have w' : k < 0 := w
    omega
theorem Zhy_ho (hP : hoP o) (hpl : plC ow o M) (h : Zhy ow a) : hoZ o a j := by
  rcases h with h | ⟨h, h2⟩
  · subst h
    exact ⟨by decide, fun q hq => by
      have g : ∀ q, q ∈ CFd → q.1 ≠ 141 := by decide
      exact g _ hq rfl, fun p x y u z => by have := (hP.2.2.1 p x y).2.2; omega, fun x y => absurd y (by decide)⟩
  · refine ⟨by omega, fun q hq => ?_, fun p x y u w => ?_, fun x y => by omega⟩
    · have g : ∀ q, q ∈ CFd → q.1 < 259 := by decide
      have := g _ hq
      dsimp only at this
      omega
    · have := hpl.2 p x y a u w
      omega
theorem Zho_ho (hP : hoP o) (hpl : plC ow o M) (h : Zho ow a j) : hoZ o a j := by
  obtain ⟨h1, h2⟩ := h
  refine ⟨by omega, fun q hq => ?_, fun p x y u w => ?_, fun x y => by omega⟩
  · have g : ∀ q, q ∈ CFd → q.1 < 259 := by decide
    have := g _ hq
    dsimp only at this
    omega
  · have e := hpl.2 p x y a u w
    have := hP.1
    omega
theorem HR.hq (hR : HR o sl Mr) (G : Fz Zhq Mr Mr') : HR o sl Mr' := by
  have w160 : ∀ j, j ≠ 138 → Mr'.1 160 j = Mr.1 160 j := fun j z => G.2 _ _ (by unfold Zhq; omega)
  refine ⟨hR.1.fg (G.fg hR.1.1.2) fun a j z => ⟨fun y q hq => by
    have g : ∀ q, q ∈ RFd → q.1 ≠ 138 := by decide
    have := g _ hq
    dsimp only at this
    unfold Zhq at z
    omega, by unfold Zhq at z; omega, by unfold Zhq at z; omega, by unfold Zhq at z; omega⟩, (w160 2 (by decide)).trans hR.2.1, (w160 77 (by decide)).trans hR.2.2.1, (w160 90 (by decide)).trans hR.2.2.2.1, (w160 91 (by decide)).trans hR.2.2.2.2.1, (w160 92 (by decide)).trans hR.2.2.2.2.2.1, (w160 97 (by decide)).trans hR.2.2.2.2.2.2⟩
theorem HC.ho (hP : hoP o) (hC : HC LL xs o ow sl Mc) (f : Fz (Zho ow) Mc Mc') : HC LL xs o ow sl Mc' := by
  have g := f.fg hC.1.1.2.2
  refine ⟨hC.1.fg hP g fun a j z => Zho_ho hP hC.2.1 z, ⟨hC.2.1.1.fg g (fun _ _ => rfl) (fun j z => ?_) (fun a j z1 z2 z3 => ?_), hC.2.1.2⟩, (f.2 _ _ (fun z => ?_)).trans hC.2.2⟩
  · unfold Zho at z; omega
  · unfold Zho at z3; omega
  · unfold Zho at z; omega
theorem history_pair (hdl : 20 ≤ dl) (hd : 4 ≤ d) (hP : hoP o) (hC : HC LL xs o ow sl Mc) (hR : HR o sl Mr) (hb : hbC ow nH B Mc) (hr : hbR nH B Mr) (hv : v1 = iI k) (bk : -2147483648 ≤ k ∧ k ≤ 2147483647) : ∃ Mc' Mr' r ow' nH' B', runX dl 156 [va_rf (some 64), .int v1] Mc = some (.int r, Mc') ∧ runX d 293 [va_rf (some 160), .int v1] Mr = some (.int r, Mr') ∧ Fo (Zhy ow) 10 78 Mc Mc' ∧ Fz Zhq Mr Mr' ∧ (∀ a, a < ln Mc → ow' a = ow a) ∧ hbC ow' nH' B' Mc' ∧ hbR nH' B' Mr' ∧ HC LL xs o ow' sl Mc' ∧ HR o sl Mr' := by
  obtain ⟨dl, rfl⟩ : ∃ e, dl = e + 1 := ⟨dl - 1, by omega⟩
  obtain ⟨d, rfl⟩ : ∃ e, d = e + 1 := ⟨d - 1, by omega⟩
  subst hv
  have hl := hC.1.1.2.2
  have cM := hC.1.1.1
  have rM := hR.1.1.1
  have n8 := hb.1.1.2.2
  have q1 := rr184 (d := d) (M := Mr) (v1 := iI k) (v2 := 0) (v3 := 2) (i := k) (b := 0) (c := 2) (by omega) rfl li_0 rfl (by omega) (by omega) (by omega)
  have same : ∀ r, runX (dl + 1) 156 [va_rf (some 64), .int (iI k)] Mc = some (.int r, Mc) → runX (d + 1) 293 [va_rf (some 160), .int (iI k)] Mr = some (.int r, Mr) → ∃ Mc' Mr' r ow' nH' B', runX (dl + 1) 156 [va_rf (some 64), .int (iI k)] Mc = some (.int r, Mc') ∧ runX (d + 1) 293 [va_rf (some 160), .int (iI k)] Mr = some (.int r, Mr') ∧ Fo (Zhy ow) 10 78 Mc Mc' ∧ Fz Zhq Mr Mr' ∧ (∀ a, a < ln Mc → ow' a = ow a) ∧ hbC ow' nH' B' Mc' ∧ hbR nH' B' Mr' ∧ HC LL xs o ow' sl Mc' ∧ HR o sl Mr' := fun r e1 e2 => ⟨Mc, Mr, r, ow, nH, B, e1, e2, Fo.z.m (fun _ _ z => z) (by omega) (by omega), Fz.r, fun _ _ => rfl, hb, hr, hC, hR⟩
  by_cases y : 0 ≤ k ∧ k ≤ 2
  · rw [if_pos y] at q1
    by_cases n : nH < 8
    · -- the object
      obtain ⟨b, hb0⟩ : ∃ b, b = ln Mc := ⟨_, rfl⟩
      obtain ⟨M1, hM1⟩ : ∃ X, X = nw Mc 2 7 := ⟨_, rfl⟩
      have f1 : Fo (fun _ => False) 1 7 Mc M1 := by rw [hM1]; exact Fo.nw
      have l1 : ln M1 = b + 1 := by rw [hM1, nw_ln, ← hb0]
      have kb : M1.2.2.2[b]? = some (2, 7) := by rw [hM1, hb0]; exact nw_kd
      obtain ⟨M2, b1, b2, b3, b4, b5⟩ := hc5 (d := dl) (M := M1) (x := b) (k := k) (v := iI k) (by omega) y l1 kb (by rw [hM1, hb0]; exact nw_i) (by rw [hM1, hb0]; exact nw_i) rfl
      have f2 : Fo (fun _ => False) 9 68 Mc M2 := by
        have := (f1.m (Z' := fun a => a = b) (fun a _ z => z.elim) (Nat.le_refl _) (Nat.le_refl _)).tr b2
        exact this.m (fun a l z => by omega) (by omega) (by omega)
      have g2 := f2.fgx hl
      obtain ⟨ow1, how1⟩ : ∃ X, X = owx ow b (30 + nH) := ⟨_, rfl⟩
      have o1 : ∀ a, a < b → ow1 a = ow a := fun a z => by rw [how1]; exact if_neg (by omega)
      have o1' : ∀ a, b ≤ a → ow1 a = 30 + nH := fun a z => by rw [how1]; exact if_pos z
      have hL2 : Lf ow1 141 3 (fun i => (B i).2) nH M2 := hb.1.fg g2 (fun a z => o1 a (by omega)) (fun _ z => z) (fun _ _ _ _ z => z)
      obtain ⟨M3, c1, c2, c3, c4⟩ := hL2.add (d := dl) (x := b) (by omega) n (by omega) b5.1.1 (by decide)
      rw [b3] at c2
      obtain ⟨ow2, how2⟩ : ∃ X, X = owx ow1 (b + 9) 3 := ⟨_, rfl⟩
      rw [← how2] at c2
      have o2 : ∀ a, a < b → ow2 a = ow a := fun a z => by rw [how2]; exact (if_neg (by omega)).trans (o1 a z)
      have o2' : ∀ a, b ≤ a → a ≤ b + 8 → ow2 a = 30 + nH := fun a z z2 => by rw [how2]; exact (if_neg (by omega)).trans (o1' a z)
      have f3 : Fo (Zhy ow) 10 78 Mc M3 := by
        have : Fo (fun a => a = 141 ∨ (259 ≤ a ∧ ow1 a = 3)) 10 78 Mc M3 := ((f2.m (fun a _ z => z.elim) (Nat.le_refl _) (Nat.le_refl _)).tr c3)
        exact this.m (fun a l z => by
          have := o1 a (by omega)
          unfold Zhy
          omega) (Nat.le_refl _) (Nat.le_refl _)
      have g3 := f3.fgx hl
      have cl : runX (dl + 1) 156 [va_rf (some 64), .int (iI k)] Mc = some (.int (iI nH), M3) := by
        have c141 : M2.2.2.2[141]? = some (0, 3) := hL2.1.1
        have cM2 : CT M2 := cM.fg g2 fun _ _ _ _ z => z
        have cM3 : CT M3 := cM.fg g3 fun a j _ ⟨q, hq⟩ y => (Zhy_ho (j := j) hP hC.2.1 y).2.1 q hq
        rw [r156]; unfold b156; rw [aR_e, aI_e, aZ_e]; unfold c156
        rw [jn_v, if_neg (show ¬ iI k < 0 from lsI_n (y := 0) rfl li_0 (by omega)), if_pos (show iI k ≤ (2 : Int32) from leI_p (y := 2) rfl rfl (by omega)), gtP_q (ck_64 cM) (cf_64_5 cM), vC_e hb.1.1.1, cI_e (lf_size (by omega) hb.1), if_pos (show iI nH < (8 : Int32) from lsI_p (y := 8) rfl rfl (by omega)), gtP_q (ck_64 cM) (cf_64_5 cM), nO_e, show Mc.2.2.2.length = b from hb0.symm, show nw Mc (2, 7).1 (2, 7).2 = M1 from hM1.symm, vC_e kb, cV_e b1, vC_e c141, cI_e c1, gtP_q (ck_64 cM3) (cf_64_5 cM3), vC_e c2.1.1, cI_e (lf_size (by omega) c2), show iI (nH + 1) - (1 : Int32) = iI nH from cvI (sbI rfl li_1) (by omega)]
      -- the reference
      obtain ⟨r1, r2⟩ := id hr
      obtain ⟨R1, hR1⟩ : ∃ X, X = sI Mr 246 nH.toNat (iI k) := ⟨_, rfl⟩
      obtain ⟨R2, hR2⟩ : ∃ X, X = sI R1 247 nH.toNat (iI 0) := ⟨_, rfl⟩
      obtain ⟨R3, hR3⟩ : ∃ X, X = sI R2 160 138 (iI (nH + 1)) := ⟨_, rfl⟩
      have k1 : RT R1 := rM.keep (by rw [hR1]; rfl)
      have k2 : RT R2 := k1.keep (by rw [hR2]; rfl)
      have k3 : RT R3 := k2.keep (by rw [hR3]; rfl)
      have n1 : R1.1 160 138 = iI nH := by rw [hR1]; exact (sI_ne (by decide)).trans r1
      have n2 : R2.1 160 138 = iI nH := by rw [hR2]; exact (sI_ne (by decide)).trans n1
      have n3 : R3.1 160 138 = iI (nH + 1) := by rw [hR3]; exact sI_eq
      have G : Fz Zhq Mr R3 := by
        rw [hR3, hR2, hR1]
        exact ((Fz.r.si (Or.inr (by decide))).si (Or.inr (by decide))).si (Or.inl ⟨rfl, rfl⟩)
      have e0 : ∀ j : Nat, j ≠ nH.toNat → ∀ a, a = 246 ∨ a = 247 → R3.1 a j = Mr.1 a j := fun j z a w => by
        rw [hR3, hR2, hR1]
        rcases w with w | w <;> rw [w]
        · exact (sI_ne (by decide)).trans ((sI_ne (by decide)).trans (sI_nej z))
        · exact (sI_ne (by decide)).trans ((sI_nej z).trans (sI_ne (by decide)))
      have e1 : ∀ a j, 248 ≤ a → R3.1 a j = Mr.1 a j := fun a j z => by
        rw [hR3, hR2, hR1]
        exact (sI_ne (by omega)).trans ((sI_ne (by omega)).trans (sI_ne (by omega)))
      have rl : runX (d + 1) 293 [va_rf (some 160), .int (iI k)] Mr = some (.int (iI nH), R3) := by
        rw [r293]; unfold b293; rw [aR_e, aI_e, aZ_e]; unfold c293
        rw [cI_e q1, if_neg (show ¬ iI 1 = 0 by decide), gtI_q (rk_160 rM) r1, if_neg (show ¬ iI nH = (8 : Int32) from eqI_n (y := 8) rfl rfl (by omega)), gtP_q (rk_160 rM) (rf_139 rM), gtI_q (rk_160 rM) r1, asI_e (z := nH) (n := 8) (rk_246 rM) (by omega) (by omega) (by omega), ← hR1, gtP_q (rk_160 k1) (rf_140 k1), gtI_q (rk_160 k1) n1, li_0, asI_e (z := nH) (n := 8) (rk_247 k1) (by omega) (by omega) (by omega), ← hR2, gtI_q (rk_160 k2) n2, ptI_q (z := nH + 1) (rk_160 k2) (adI rfl li_1), ← hR3, gtI_q (rk_160 k3) n3, show iI (nH + 1) - (1 : Int32) = iI nH from cvI (sbI rfl li_1) (by omega)]
      have hCo : hoC LL xs o M3 := hC.1.fg hP g3 fun a j z => Zhy_ho hP hC.2.1 z
      refine ⟨M3, R3, iI nH, ow2, nH + 1, up1 B nH (((k, 0), (fun _ _ => 0), (fun _ _ => 0)), b), cl, rl, f3, G, fun a z => o2 a (by omega), ⟨c2.cg fun j x1 x2 => ?_, fun i x1 x2 => ?_⟩, ⟨n3, fun i x1 x2 => ?_⟩, ⟨hCo, ⟨hC.2.1.1.fg g3 (fun a z => o2 a (by omega)) (fun j z => ?_) (fun a j z1 z2 z3 => ?_), fun p' y1 y2 a y3 y4 => ?_⟩, ?_⟩, hR.hq G⟩
      · unfold up1
        by_cases y : j = nH
        · rw [if_pos y, if_pos y]
        · rw [if_neg y, if_neg y]
      · unfold up1
        by_cases y2 : i = nH
        · rw [if_pos y2]
          obtain ⟨w1, w2⟩ := b5.fo c3 fun a z1 z2 z3 => by
            have := o1' a z1
            omega
          refine ⟨⟨y, ⟨Int.le_refl _, by show (0 : Int) ≤ 8; decide⟩, fun k z w => ?_⟩, w1, ⟨(by show 259 ≤ b; omega), fun a z1 z2 => by rw [y2]; exact o2' a z1 z2⟩, Or.inl ((w2 b 5 (Nat.le_refl _) (by omega)).trans b4)⟩
          have w' : k < 0 := w
          omega
        · rw [if_neg y2]
          obtain ⟨h1, h2, ⟨h3, h4⟩, h5⟩ := hb.2 i x1 (by omega)
          have lk3 := ln_lt h2.2.1.2.2
          obtain ⟨w1, w2⟩ := h2.fo f3 fun a z1 z2 z3 => by
            have := h4 a z1 z2
            unfold Zhy at z3
            omega
          refine ⟨h1, w1, ⟨h3, fun a z1 z2 => (o2 a (by omega)).trans (h4 a z1 z2)⟩, ?_⟩
          rcases h5 with h5 | ⟨h5, bb, h6, h7⟩
          · exact Or.inl ((w2 _ _ (by omega) (by omega)).trans h5)
          · refine Or.inr ⟨(w2 _ _ (by omega) (by omega)).trans h5, bb, (w2 _ _ (by omega) (by omega)).trans h6, ?_⟩
            rcases h7 with ⟨u1, r', u2, u3⟩ | u
            · exact Or.inl ⟨u1, r', u2, fun j z => (w2 _ _ (by omega) (by omega)).trans (u3 j z)⟩
            · exact Or.inr u
      · unfold up1
        by_cases y2 : i = nH
        · rw [if_pos y2]
          refine ⟨k3, by omega, ⟨?_, ?_⟩, fun k z w => ?_⟩
          · rw [y2, hR3, hR2, hR1]
            exact (sI_ne (by decide)).trans ((sI_ne (by decide)).trans sI_eq)
          · rw [y2, hR3, hR2]
            exact (sI_ne (by decide)).trans sI_eq
          · have w' : k < 0 := w
            omega
        · rw [if_neg y2]
          obtain ⟨h1, h2, ⟨h3, h4⟩, h5⟩ := r2 i x1 (by omega)
          refine ⟨k3, h2, ⟨(e0 _ (by omega) _ (Or.inl rfl)).trans h3, (e0 _ (by omega) _ (Or.inr rfl)).trans h4⟩, fun k z w => ?_⟩
          obtain ⟨t1, t2, t3, t4, t5⟩ := h5 k z w
          exact ⟨(e1 _ _ (by decide)).trans t1, (e1 _ _ (by decide)).trans t2, (e1 _ _ (by decide)).trans t3, (e1 _ _ (by decide)).trans t4, (e1 _ _ (by decide)).trans t5⟩
      · unfold Zhy at z; omega
      · unfold Zhy at z3; omega
      · have lp' := ln_lt (hC.1.2.1 p' y1 y2).2.2.1.2.2
        exact (o2 a (by omega)).trans (hC.2.1.2 p' y1 y2 a y3 y4)
      · exact (g3.i (g3.lw (by decide)) (by unfold Zhy; omega)).trans hC.2.2
    · refine same (-3) ?_ ?_
      · rw [r156]; unfold b156; rw [aR_e, aI_e, aZ_e]; unfold c156
        rw [jn_v, if_neg (show ¬ iI k < 0 from lsI_n (y := 0) rfl li_0 (by omega)), if_pos (show iI k ≤ (2 : Int32) from leI_p (y := 2) rfl rfl (by omega)), gtP_q (ck_64 cM) (cf_64_5 cM), vC_e hb.1.1.1, cI_e (lf_size (by omega) hb.1), if_neg (show ¬ iI nH < (8 : Int32) from lsI_n (y := 8) rfl rfl (by omega))]
      · rw [r293]; unfold b293; rw [aR_e, aI_e, aZ_e]; unfold c293
        rw [cI_e q1, if_neg (show ¬ iI 1 = 0 by decide), gtI_q (rk_160 rM) hr.1, if_pos (show iI nH = (8 : Int32) by rw [show nH = 8 by omega]; rfl)]
  · rw [if_neg y] at q1
    refine same (-1) ?_ ?_
    · rw [r156]; unfold b156; rw [aR_e, aI_e, aZ_e]; unfold c156
      rw [jn_v]
      by_cases y2 : k < 0
      · rw [if_pos (show iI k < 0 from lsI_p (y := 0) rfl li_0 (by omega)), jv_e]
      · rw [if_neg (show ¬ iI k < 0 from lsI_n (y := 0) rfl li_0 (by omega)), if_neg (show ¬ iI k ≤ (2 : Int32) from leI_n (y := 2) rfl rfl (by omega)), jv_e]
    · rw [r293]; unfold b293; rw [aR_e, aI_e, aZ_e]; unfold c293
      rw [cI_e q1, if_pos (show iI 0 = 0 from rfl)]
/-- which HISTORY -/
theorem zc171 (hd : 4 ≤ d) (hC : CT M) (h : hbC ow nH B M) (hv : v = iI i) (hi : -2147483648 ≤ i ∧ i ≤ 2147483647) : runX d 171 [va_rf (some 64), .int v] M = some (va_rf (if 0 ≤ i ∧ i < nH then some (B i).2 else none), M) := by
  obtain ⟨d, rfl⟩ : ∃ e, d = e + 1 := ⟨d - 1, by omega⟩
  have hL := h.1
  have hn := hL.1.2.2
  rw [r171]; unfold b171; rw [aR_e, aI_e, aZ_e]; unfold c171
  rw [jn_v, jn_v]
  by_cases y : i < 0
  · rw [if_pos (lsI_p hv li_0 (by omega)), if_neg (by omega), jv_e, jv_e]
  · rw [if_neg (lsI_n hv li_0 (by omega)), gtP_q (ck_64 hC) (cf_64_5 hC), vC_e hL.1.1, cI_e (lf_size (by omega) hL)]
    by_cases z : i < nH
    · rw [if_pos (lsI_p hv rfl (by omega)), gtP_q (ck_64 hC) (cf_64_5 hC), vC_e hL.1.1, cP_e (lf_get (by omega) hL hv (by omega)), cst_e (h.2 i (by omega) z).2.1.1.1, if_pos (show 0 ≤ i ∧ i < nH by omega), jv_e]
    · rw [if_neg (lsI_n hv rfl (by omega)), if_neg (show ¬ (0 ≤ i ∧ i < nH) by omega), jv_e, jv_e]
end S9e5
