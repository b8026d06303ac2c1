/-! op(), linear(), place(): both -/
def hop (h : HY) (w f t : Int) (v a : Int32) : HY := ((hyK h, hyN h + 1), (fun c k => if k = hyN h then (if c = 0 then w else if c = 1 then f else t) else h.2.1 c k), fun c k => if k = hyN h then (if c = 0 then v else a) else h.2.2 c k)
section S9e6
variable {d dl : Nat} {o : HO} {M M' M1 M2 Mc Mr Mc' Mr' : Mem} {LL a j b c t x n : Nat} {xs : Nat → Int32} {ow ow' : Nat → Int} {p q i k nH sl H w f g : Int} {v v1 v2 v3 v4 v5 v6 : Int32} {B B' : Int → HY × Nat} {Z : Nat → Prop} {h : HY}
theorem hop_k {k : Int} (y : k ≠ hyN h) : hyW (hop h w f g v1 v2) k = hyW h k ∧ hyF (hop h w f g v1 v2) k = hyF h k ∧ hyT (hop h w f g v1 v2) k = hyT h k ∧ hyV (hop h w f g v1 v2) k = hyV h k ∧ hyA (hop h w f g v1 v2) k = hyA h k := ⟨if_neg y, if_neg y, if_neg y, if_neg y, if_neg y⟩
theorem hop_n : hyW (hop h w f g v1 v2) (hyN h) = w ∧ hyF (hop h w f g v1 v2) (hyN h) = f ∧ hyT (hop h w f g v1 v2) (hyN h) = g ∧ hyV (hop h w f g v1 v2) (hyN h) = v1 ∧ hyA (hop h w f g v1 v2) (hyN h) = v2 := ⟨if_pos rfl, if_pos rfl, if_pos rfl, if_pos rfl, if_pos rfl⟩
theorem hop_O (hO : hyO h) (n8 : hyN h < 8) (hw : 0 ≤ w ∧ w ≤ 1) (hf : 0 ≤ f ∧ f ≤ g ∧ g ≤ 1000) : hyO (hop h w f g v1 v2) := by
  obtain ⟨h1, h2, h3⟩ := hO
  refine ⟨h1, ⟨?_, ?_⟩, fun k a b => ?_⟩
  · show 0 ≤ hyN h + 1
    omega
  · show hyN h + 1 ≤ 8
    omega
  · have b' : k < hyN h + 1 := b
    by_cases y : k = hyN h
    · subst y
      obtain ⟨e1, e2, e3, -, -⟩ := hop_n (h := h) (w := w) (f := f) (g := g) (v1 := v1) (v2 := v2)
      rw [e1, e2, e3]
      exact ⟨hw, hf⟩
    · obtain ⟨e1, e2, e3, -, -⟩ := hop_k (h := h) (w := w) (f := f) (g := g) (v1 := v1) (v2 := v2) y
      rw [e1, e2, e3]
      exact h3 k a (by omega)
/-- an OP more, in the class -/
theorem hc6 (hd : 1 ≤ d) (hC : hyC h x M) (n8 : 0 ≤ hyN h ∧ hyN h < 8) : ∃ M', runX d 6 [va_rf (some x), .int (iI w), .int v1, .int v2, .int (iI f), .int (iI g)] M = some (.int (iI (hyN h + 1)), M') ∧ Fz (fun a _ => x ≤ a ∧ a ≤ x + 8) M M' ∧ hyC (hop h w f g v1 v2) x M' ∧ M'.1 x 5 = iI 0 := by
  obtain ⟨d, rfl⟩ : ∃ e, d = e + 1 := ⟨d - 1, by omega⟩
  obtain ⟨⟨h1, h2, h3, h4⟩, ⟨h5, h6, h7⟩, h8, ⟨h9, h10⟩, h11⟩ := id hC
  obtain ⟨n, hn⟩ : ∃ n, n = hyN h := ⟨_, rfl⟩
  rw [← hn] at h9 h11 n8 ⊢
  obtain ⟨M1, hM1⟩ : ∃ X, X = sI M (x + 3) n.toNat (iI w) := ⟨_, rfl⟩
  obtain ⟨M2, hM2⟩ : ∃ X, X = sI M1 (x + 4) n.toNat v1 := ⟨_, rfl⟩
  obtain ⟨M3, hM3⟩ : ∃ X, X = sI M2 (x + 5) n.toNat v2 := ⟨_, rfl⟩
  obtain ⟨M4, hM4⟩ : ∃ X, X = sI M3 (x + 6) n.toNat (iI f) := ⟨_, rfl⟩
  obtain ⟨M5, hM5⟩ : ∃ X, X = sI M4 (x + 7) n.toNat (iI g) := ⟨_, rfl⟩
  obtain ⟨M6, hM6⟩ : ∃ X, X = sI M5 x 1 (iI (n + 1)) := ⟨_, rfl⟩
  obtain ⟨M7, hM7⟩ : ∃ X, X = sI M6 x 5 0 := ⟨_, rfl⟩
  have q1 : M1.2 = M.2 := by rw [hM1]; rfl
  have q2 : M2.2 = M.2 := by rw [hM2]; exact q1
  have q3 : M3.2 = M.2 := by rw [hM3]; exact q2
  have q4 : M4.2 = M.2 := by rw [hM4]; exact q3
  have q5 : M5.2 = M.2 := by rw [hM5]; exact q4
  have q6 : M6.2 = M.2 := by rw [hM6]; exact q5
  have q7 : M7.2 = M.2 := by rw [hM7]; exact q6
  have kk : ∀ X : Mem, X.2 = M.2 → ∀ (a : Nat) (q : Nat × Nat), M.2.2.2[a]? = some q → X.2.2.2[a]? = some q := fun X e a q z => by rw [congrArg (fun z => z.2.2) e]; exact z
  have pp : ∀ X : Mem, X.2 = M.2 → ∀ a j : Nat, X.2.2.1 a j = M.2.2.1 a j := fun X e a j => by rw [congrArg (fun z => z.2.1) e]
  -- what stands
  have e0 : ∀ a j, (a < x ∨ x + 8 ≤ a ∨ a = x + 1 ∨ a = x + 2 ∨ (a = x ∧ j ≠ 1 ∧ j ≠ 5)) → M7.1 a j = M.1 a j := fun a j z => by
    rw [hM7, hM6, hM5, hM4, hM3, hM2, hM1]
    by_cases y : a = x
    · subst y
      exact (sI_nej (by omega)).trans ((sI_nej (by omega)).trans ((sI_ne (by omega)).trans ((sI_ne (by omega)).trans ((sI_ne (by omega)).trans ((sI_ne (by omega)).trans (sI_ne (by omega)))))))
    · exact (sI_ne y).trans ((sI_ne y).trans ((sI_ne (by omega)).trans ((sI_ne (by omega)).trans ((sI_ne (by omega)).trans ((sI_ne (by omega)).trans (sI_ne (by omega)))))))
  have e3 : ∀ j, M7.1 (x + 3) j = if j = n.toNat then iI w else M.1 (x + 3) j := fun j => by
    rw [hM7, hM6, hM5, hM4, hM3, hM2, hM1]
    refine (sI_ne (by omega)).trans ((sI_ne (by omega)).trans ((sI_ne (by omega)).trans ((sI_ne (by omega)).trans ((sI_ne (by omega)).trans ((sI_ne (by omega)).trans ?_)))))
    by_cases y : j = n.toNat
    · rw [if_pos y, y]; exact sI_eq
    · rw [if_neg y]; exact sI_nej y
  have e4 : ∀ j, M7.1 (x + 4) j = if j = n.toNat then v1 else M.1 (x + 4) j := fun j => by
    rw [hM7, hM6, hM5, hM4, hM3, hM2]
    refine (sI_ne (by omega)).trans ((sI_ne (by omega)).trans ((sI_ne (by omega)).trans ((sI_ne (by omega)).trans ((sI_ne (by omega)).trans ?_))))
    by_cases y : j = n.toNat
    · rw [if_pos y, y]; exact sI_eq
    · rw [if_neg y, hM1]; exact (sI_nej y).trans (sI_ne (by omega))
  have e5 : ∀ j, M7.1 (x + 5) j = if j = n.toNat then v2 else M.1 (x + 5) j := fun j => by
    rw [hM7, hM6, hM5, hM4, hM3]
    refine (sI_ne (by omega)).trans ((sI_ne (by omega)).trans ((sI_ne (by omega)).trans ((sI_ne (by omega)).trans ?_)))
    by_cases y : j = n.toNat
    · rw [if_pos y, y]; exact sI_eq
    · rw [if_neg y, hM2, hM1]; exact (sI_nej y).trans ((sI_ne (by omega)).trans (sI_ne (by omega)))
  have e6 : ∀ j, M7.1 (x + 6) j = if j = n.toNat then iI f else M.1 (x + 6) j := fun j => by
    rw [hM7, hM6, hM5, hM4]
    refine (sI_ne (by omega)).trans ((sI_ne (by omega)).trans ((sI_ne (by omega)).trans ?_))
    by_cases y : j = n.toNat
    · rw [if_pos y, y]; exact sI_eq
    · rw [if_neg y, hM3, hM2, hM1]; exact (sI_nej y).trans ((sI_ne (by omega)).trans ((sI_ne (by omega)).trans (sI_ne (by omega))))
  have e7 : ∀ j, M7.1 (x + 7) j = if j = n.toNat then iI g else M.1 (x + 7) j := fun j => by
    rw [hM7, hM6, hM5]
    refine (sI_ne (by omega)).trans ((sI_ne (by omega)).trans ?_)
    by_cases y : j = n.toNat
    · rw [if_pos y, y]; exact sI_eq
    · rw [if_neg y, hM4, hM3, hM2, hM1]; exact (sI_nej y).trans ((sI_ne (by omega)).trans ((sI_ne (by omega)).trans ((sI_ne (by omega)).trans (sI_ne (by omega)))))
  have s1 : ∀ X : Mem, (∀ j, X.1 x j = M.1 x j) → X.1 x 1 = iI n := fun X e => (e 1).trans h9
  have x1 : ∀ j, M1.1 x j = M.1 x j := fun j => by rw [hM1]; exact sI_ne (by omega)
  have x2 : ∀ j, M2.1 x j = M.1 x j := fun j => by rw [hM2]; exact (sI_ne (by omega)).trans (x1 j)
  have x3 : ∀ j, M3.1 x j = M.1 x j := fun j => by rw [hM3]; exact (sI_ne (by omega)).trans (x2 j)
  have x4 : ∀ j, M4.1 x j = M.1 x j := fun j => by rw [hM4]; exact (sI_ne (by omega)).trans (x3 j)
  have x5 : ∀ j, M5.1 x j = M.1 x j := fun j => by rw [hM5]; exact (sI_ne (by omega)).trans (x4 j)
  have r := fun (k : Nat) (z : k < 5) => h8 k z
  refine ⟨M7, ?_, ⟨q7, fun a j z => e0 a j (by omega)⟩, ⟨⟨kk _ q7 _ _ h1, (pp _ q7 _ _).trans h2, (pp _ q7 _ _).trans h3, (pp _ q7 _ _).trans h4⟩, ⟨kk _ q7 _ _ h5, kk _ q7 _ _ h6, kk _ q7 _ _ h7⟩, fun k z => ⟨(pp _ q7 _ _).trans (h8 k z).1, kk _ q7 _ _ (h8 k z).2⟩, ⟨?_, (e0 _ _ (by omega)).trans h10⟩, fun k y z => ?_⟩, ?_⟩
  · rw [r6]; unfold b6; rw [aR_e, aI_e, aI_e, aI_e, aI_e, aI_e, aZ_e]; unfold c6
    rw [gtP_q h1 h3, alP_q (c := (0 : Int32)) (z := 0) h6 rfl (by decide) (r 0 (by decide)).1, gtI_q h1 h9, asI_e (z := n) (n := 8) (r 0 (by decide)).2 (by omega) (by omega) (by omega), show sI M (x + 3 + 0) n.toNat (iI w) = M1 from hM1.symm, gtP_q (kk _ q1 _ _ h1) ((pp _ q1 _ _).trans h3), alP_q (c := (1 : Int32)) (z := 1) (kk _ q1 _ _ h6) rfl (by decide) ((pp _ q1 _ _).trans (r 1 (by decide)).1), gtI_q (kk _ q1 _ _ h1) (s1 _ x1), asI_e (z := n) (n := 8) (kk _ q1 _ _ (r 1 (by decide)).2) (by omega) (by omega) (by omega), show sI M1 (x + 3 + 1) n.toNat v1 = M2 from hM2.symm, gtP_q (kk _ q2 _ _ h1) ((pp _ q2 _ _).trans h3), alP_q (c := (2 : Int32)) (z := 2) (kk _ q2 _ _ h6) rfl (by decide) ((pp _ q2 _ _).trans (r 2 (by decide)).1), gtI_q (kk _ q2 _ _ h1) (s1 _ x2), asI_e (z := n) (n := 8) (kk _ q2 _ _ (r 2 (by decide)).2) (by omega) (by omega) (by omega), show sI M2 (x + 3 + 2) n.toNat v2 = M3 from hM3.symm, gtP_q (kk _ q3 _ _ h1) ((pp _ q3 _ _).trans h3), alP_q (c := (3 : Int32)) (z := 3) (kk _ q3 _ _ h6) rfl (by decide) ((pp _ q3 _ _).trans (r 3 (by decide)).1), gtI_q (kk _ q3 _ _ h1) (s1 _ x3), asI_e (z := n) (n := 8) (kk _ q3 _ _ (r 3 (by decide)).2) (by omega) (by omega) (by omega), show sI M3 (x + 3 + 3) n.toNat (iI f) = M4 from hM4.symm, gtP_q (kk _ q4 _ _ h1) ((pp _ q4 _ _).trans h3), alP_q (c := (4 : Int32)) (z := 4) (kk _ q4 _ _ h6) rfl (by decide) ((pp _ q4 _ _).trans (r 4 (by decide)).1), gtI_q (kk _ q4 _ _ h1) (s1 _ x4), asI_e (z := n) (n := 8) (kk _ q4 _ _ (r 4 (by decide)).2) (by omega) (by omega) (by omega), show sI M4 (x + 3 + 4) n.toNat (iI g) = M5 from hM5.symm, gtI_q (kk _ q5 _ _ h1) (s1 _ x5), ptI_q (z := n + 1) (kk _ q5 _ _ h1) (adI rfl li_1), ← hM6, ptZ_e (kk _ q6 _ _ h1) (Or.inl rfl), ← hM7, gtI_q (w := iI (n + 1)) (kk _ q7 _ _ h1) (by rw [hM7]; exact (sI_nej (by decide)).trans (by rw [hM6]; exact sI_eq))]
  · show M7.1 x 1 = iI (hyN h + 1)
    rw [hM7, ← hn]
    exact (sI_nej (by decide)).trans (by rw [hM6]; exact sI_eq)
  · have z' : k < hyN h + 1 := z
    rw [e3, e4, e5, e6, e7]
    by_cases u : k = n
    · obtain ⟨t1, t2, t3, t4, t5⟩ := hop_n (h := h) (w := w) (f := f) (g := g) (v1 := v1) (v2 := v2)
      rw [← hn] at t1 t2 t3 t4 t5
      rw [u, if_pos rfl, if_pos rfl, if_pos rfl, if_pos rfl, if_pos rfl, t1, t2, t3, t4, t5]
      exact ⟨rfl, rfl, rfl, rfl, rfl⟩
    · obtain ⟨t1, t2, t3, t4, t5⟩ := hop_k (h := h) (w := w) (f := f) (g := g) (v1 := v1) (v2 := v2) (k := k) (by omega)
      rw [if_neg (by omega), if_neg (by omega), if_neg (by omega), if_neg (by omega), if_neg (by omega), t1, t2, t3, t4, t5]
      exact h11 k y (by omega)
  · rw [hM7]; exact sI_eq
/-- a book with one HISTORY changed, in the class -/
theorem hbC.up (hb : hbC ow nH B Mc) (hi : 0 ≤ i ∧ i < nH) (f : Fz (fun a _ => (B i).2 ≤ a ∧ a ≤ (B i).2 + 8) Mc Mc') (h2 : hyO h ∧ hyC h (B i).2 Mc') (hl : Mc'.1 (B i).2 5 = iI 0 ∨ (Mc'.1 (B i).2 5 = iI 1 ∧ ∃ b : Int, Mc'.1 (B i).2 6 = iI b ∧ hyX h (B i).2 (fun _ => 0) 0 Mc' b)) (hn : 259 ≤ ln Mc) : hbC ow nH (up1 B i (h, (B i).2)) Mc' ∧ Fz (Zho ow) Mc Mc' := by
  obtain ⟨-, -, ⟨x1, x2⟩, -⟩ := hb.2 i hi.1 hi.2
  have F : Fz (Zho ow) Mc Mc' := f.m fun a j z => ⟨by omega, by have := x2 a z.1 z.2; omega⟩
  have eB : ∀ j, (up1 B i (h, (B i).2) j).2 = (B j).2 := fun j => by
    unfold up1
    by_cases y : j = i
    · rw [if_pos y, y]
    · rw [if_neg y]
  refine ⟨⟨(hb.1.fg (F.fg hn) (fun _ _ => rfl) (fun j z => ?_) (fun a j z1 z2 z3 => ?_)).cg fun j _ _ => eB j, fun k a b => ?_⟩, F⟩
  · unfold Zho at z; omega
  · unfold Zho at z3; omega
  · by_cases y : k = i
    · rw [y, show up1 B i (h, (B i).2) i = (h, (B i).2) from if_pos rfl]
      exact ⟨h2.1, h2.2, ⟨x1, x2⟩, hl⟩
    · rw [show up1 B i (h, (B i).2) k = B k from if_neg y]
      obtain ⟨y1, y2, ⟨y3, y4⟩, y5⟩ := hb.2 k a b
      have dj : ∀ a', (B k).2 ≤ a' → a' ≤ (B k).2 + 8 → ¬ ((B i).2 ≤ a' ∧ a' ≤ (B i).2 + 8) := fun a' u v w => by
        have e1 := y4 a' u v
        have e2 := x2 a' w.1 w.2
        omega
      have fo : Fo (fun a => (B i).2 ≤ a ∧ a ≤ (B i).2 + 8) 0 0 Mc Mc' := f.fo fun a j z => z
      obtain ⟨w1, w2⟩ := y2.fo fo dj
      refine ⟨y1, w1, ⟨y3, y4⟩, ?_⟩
      rcases y5 with y5 | ⟨y5, bb, y6, y7⟩
      · exact Or.inl ((w2 _ _ (by omega) (by omega)).trans y5)
      · refine Or.inr ⟨(w2 _ _ (by omega) (by omega)).trans y5, bb, (w2 _ _ (by omega) (by omega)).trans y6, ?_⟩
        rcases y7 with ⟨u1, r', u2, u3⟩ | u
        · exact Or.inl ⟨u1, r', u2, fun j z => (w2 _ _ (by omega) (by omega)).trans (u3 j z)⟩
        · exact Or.inr u
theorem op_pair (hdl : 6 ≤ dl) (hd : 4 ≤ d) (hP : hoP o) (hC : HC LL xs o ow sl Mc) (hR : HR o sl Mr) (hb : hbC ow nH B Mc) (hr : hbR nH B Mr) (hv1 : v1 = iI i) (hv2 : v2 = iI w) (hv5 : v5 = iI f) (hv6 : v6 = iI g) (bi : -2147483648 ≤ i ∧ i ≤ 2147483647) (bw : -2147483648 ≤ w ∧ w ≤ 2147483647) (bf : -2147483648 ≤ f ∧ f ≤ 2147483647) (bg : -2147483648 ≤ g ∧ g ≤ 2147483647) : ∃ Mc' Mr' r B', runX dl 157 [va_rf (some 64), .int v1, .int v2, .int v3, .int v4, .int v5, .int v6] Mc = some (.int r, Mc') ∧ runX d 294 [va_rf (some 160), .int v1, .int v2, .int v3, .int v4, .int v5, .int v6] Mr = some (.int r, Mr') ∧ Fz (Zho ow) Mc Mc' ∧ Fz Zhq Mr Mr' ∧ hbC ow nH B' Mc' ∧ hbR nH B' Mr' ∧ HC LL xs o ow sl Mc' ∧ HR o sl Mr' := by
  obtain ⟨dl, rfl⟩ : ∃ e, dl = e + 1 := ⟨dl - 1, by omega⟩
  obtain ⟨d, rfl⟩ : ∃ e, d = e + 1 := ⟨d - 1, by omega⟩
  subst hv1; subst hv2; subst hv5; subst hv6
  have cM := hC.1.1.1
  have rM := hR.1.1.1
  have n8 := hb.1.1.2.2
  have l8 : (8 : Int32) = iI 8 := rfl
  have n10 : ¬ iI 1 = (0 : Int32) := by decide
  have z171 := zc171 (d := dl) (by omega) cM hb (rfl : iI i = iI i) bi
  have q1 := rr184 (d := d) (M := Mr) (v1 := iI i) (v2 := 0) (v3 := iI (nH - 1)) (i := i) (b := 0) (c := nH - 1) (by omega) rfl li_0 rfl (by omega) (by omega) (by omega)
  have q2 := rr184 (d := d) (M := Mr) (v1 := iI w) (v2 := 0) (v3 := 1) (i := w) (b := 0) (c := 1) (by omega) rfl li_0 li_1 (by omega) (by omega) (by omega)
  have q3 := rr184 (d := d) (M := Mr) (v1 := iI f) (v2 := 0) (v3 := 1000) (i := f) (b := 0) (c := 1000) (by omega) rfl li_0 li_1000 (by omega) (by omega) (by omega)
  have q4 := rr184 (d := d) (M := Mr) (v1 := iI g) (v2 := iI f) (v3 := 1000) (i := g) (b := f) (c := 1000) (by omega) rfl rfl li_1000 (by omega) (by omega) (by omega)
  have same : ∀ r, runX (dl + 1) 157 [va_rf (some 64), .int (iI i), .int (iI w), .int v3, .int v4, .int (iI f), .int (iI g)] Mc = some (.int r, Mc) → runX (d + 1) 294 [va_rf (some 160), .int (iI i), .int (iI w), .int v3, .int v4, .int (iI f), .int (iI g)] Mr = some (.int r, Mr) → ∃ Mc' Mr' r B', runX (dl + 1) 157 [va_rf (some 64), .int (iI i), .int (iI w), .int v3, .int v4, .int (iI f), .int (iI g)] Mc = some (.int r, Mc') ∧ runX (d + 1) 294 [va_rf (some 160), .int (iI i), .int (iI w), .int v3, .int v4, .int (iI f), .int (iI g)] Mr = some (.int r, Mr') ∧ Fz (Zho ow) Mc Mc' ∧ Fz Zhq Mr Mr' ∧ hbC ow nH B' Mc' ∧ hbR nH B' Mr' ∧ HC LL xs o ow sl Mc' ∧ HR o sl Mr' := fun r e1 e2 => ⟨Mc, Mr, r, B, e1, e2, Fz.r, Fz.r, hb, hr, hC, hR⟩
  -- the beginnings
  have eC : runX (dl + 1) 157 [va_rf (some 64), .int (iI i), .int (iI w), .int v3, .int v4, .int (iI f), .int (iI g)] Mc = c157 (runX dl) (some 64) (iI i) (iI w) v3 v4 (iI f) (iI g) Mc := by
    rw [r157]; unfold b157; rw [aR_e, aI_e, aI_e, aI_e, aI_e, aI_e, aI_e, aZ_e]
  have eR : runX (d + 1) 294 [va_rf (some 160), .int (iI i), .int (iI w), .int v3, .int v4, .int (iI f), .int (iI g)] Mr = c294 (runX d) (some 160) (iI i) (iI w) v3 v4 (iI f) (iI g) Mr := by
    rw [r294]; unfold b294; rw [aR_e, aI_e, aI_e, aI_e, aI_e, aI_e, aI_e, aZ_e]
  by_cases y : (0 ≤ i ∧ i < nH) ∧ (0 ≤ w ∧ w ≤ 1) ∧ 0 ≤ f ∧ f ≤ g ∧ g ≤ 1000
  · obtain ⟨hi, hw, hf⟩ := y
    rw [if_pos hi] at z171
    rw [if_pos (by omega)] at q1 q2 q3 q4
    obtain ⟨y1, y2, ⟨y3, y4⟩, y5⟩ := hb.2 i hi.1 hi.2
    obtain ⟨r1, r2, ⟨r3, r4⟩, r5⟩ := hr.2 i hi.1 hi.2
    obtain ⟨h, hh⟩ : ∃ h, h = (B i).1 := ⟨_, rfl⟩
    rw [← hh] at y1 y2 y5 r3 r4 r5
    have N8 := y1.2.1
    have k1 := y2.1.1
    have preC : ∀ X : XA, (if hyN h < 8 then (cI (runX dl 6 [va_rf (some (B i).2), .int (iI w), .int v3, .int v4, .int (iI f), .int (iI g)] Mc) fun x7 M6 => some (.int x7, M6)) else some (.int ((-3 : Int32)), Mc)) = X → c157 (runX dl) (some 64) (iI i) (iI w) v3 v4 (iI f) (iI g) Mc = X := fun X e => by
      rw [← e]
      unfold c157
      rw [vC_e (ck_64 cM), cP_e z171, jn_v, if_neg (show ¬ some (B i).2 = none by simp), if_neg (show ¬ iI w < 0 from lsI_n (y := 0) rfl li_0 (by omega)), if_neg (show ¬ (1 : Int32) < iI w from lsI_n (x := 1) li_1 rfl (by omega)), if_neg (show ¬ iI f < 0 from lsI_n (y := 0) rfl li_0 (by omega)), if_neg (show ¬ (1000 : Int32) < iI g from lsI_n (x := 1000) li_1000 rfl (by omega)), if_pos (show iI f ≤ iI g from leI_p rfl rfl (by omega)), gtI_q k1 y2.2.2.2.1.1, jn_v]
      by_cases u : hyN h < 8
      · rw [if_pos (show iI (hyN h) < (8 : Int32) from lsI_p (y := 8) rfl rfl (by omega)), if_pos u, vC_e k1]
        rfl
      · rw [if_neg (show ¬ iI (hyN h) < (8 : Int32) from lsI_n (y := 8) rfl rfl (by omega)), if_neg u, jv_e]
    by_cases u : hyN h < 8
    · obtain ⟨M7, w1, w2, w3, w4⟩ := hc6 (d := dl) (w := w) (f := f) (g := g) (v1 := v3) (v2 := v4) (by omega) y2 ⟨N8.1, u⟩
      obtain ⟨hb', F⟩ := hb.up (i := i) (h := hop h w f g v3 v4) hi w2 ⟨hop_O y1 u hw hf, w3⟩ (Or.inl w4) hC.1.1.2.2
      -- the reference
      obtain ⟨n, hn⟩ : ∃ n, n = hyN h := ⟨_, rfl⟩
      rw [← hn] at r4
      have bx : 0 ≤ 8 * i + n ∧ 8 * i + n < 64 := by omega
      obtain ⟨R1, hR1⟩ : ∃ X, X = sI Mr 248 (8 * i + n).toNat (iI w) := ⟨_, rfl⟩
      obtain ⟨R2, hR2⟩ : ∃ X, X = sI R1 249 (8 * i + n).toNat v3 := ⟨_, rfl⟩
      obtain ⟨R3, hR3⟩ : ∃ X, X = sI R2 250 (8 * i + n).toNat v4 := ⟨_, rfl⟩
      obtain ⟨R4, hR4⟩ : ∃ X, X = sI R3 251 (8 * i + n).toNat (iI f) := ⟨_, rfl⟩
      obtain ⟨R5, hR5⟩ : ∃ X, X = sI R4 252 (8 * i + n).toNat (iI g) := ⟨_, rfl⟩
      obtain ⟨R6, hR6⟩ : ∃ X, X = sI R5 247 i.toNat (iI (n + 1)) := ⟨_, rfl⟩
      have k1' : RT R1 := rM.keep (by rw [hR1]; rfl)
      have k2' : RT R2 := k1'.keep (by rw [hR2]; rfl)
      have k3' : RT R3 := k2'.keep (by rw [hR3]; rfl)
      have k4' : RT R4 := k3'.keep (by rw [hR4]; rfl)
      have k5' : RT R5 := k4'.keep (by rw [hR5]; rfl)
      have k6' : RT R6 := k5'.keep (by rw [hR6]; rfl)
      have e247 : R5.1 247 i.toNat = iI n := by
        rw [hR5, hR4, hR3, hR2, hR1]
        exact (sI_ne (by decide)).trans ((sI_ne (by decide)).trans ((sI_ne (by decide)).trans ((sI_ne (by decide)).trans ((sI_ne (by decide)).trans r4))))
      have f247 : R6.1 247 i.toNat = iI (n + 1) := by rw [hR6]; exact sI_eq
      have G : Fz Zhq Mr R6 := by
        rw [hR6, hR5, hR4, hR3, hR2, hR1]
        exact (((((Fz.r.si (Or.inr (by decide))).si (Or.inr (by decide))).si (Or.inr (by decide))).si (Or.inr (by decide))).si (Or.inr (by decide))).si (Or.inr (by decide))
      have g246 : ∀ j, R6.1 246 j = Mr.1 246 j := fun j => by
        rw [hR6, hR5, hR4, hR3, hR2, hR1]
        exact (sI_ne (by decide)).trans ((sI_ne (by decide)).trans ((sI_ne (by decide)).trans ((sI_ne (by decide)).trans ((sI_ne (by decide)).trans (sI_ne (by decide))))))
      have g138 : R6.1 160 138 = Mr.1 160 138 := by
        rw [hR6, hR5, hR4, hR3, hR2, hR1]
        exact (sI_ne (by decide)).trans ((sI_ne (by decide)).trans ((sI_ne (by decide)).trans ((sI_ne (by decide)).trans ((sI_ne (by decide)).trans (sI_ne (by decide))))))
      have g247 : ∀ j, j ≠ i.toNat → R6.1 247 j = Mr.1 247 j := fun j z => by
        rw [hR6, hR5, hR4, hR3, hR2, hR1]
        exact (sI_nej z).trans ((sI_ne (by decide)).trans ((sI_ne (by decide)).trans ((sI_ne (by decide)).trans ((sI_ne (by decide)).trans (sI_ne (by decide))))))
      have g248 : ∀ j, R6.1 248 j = if j = (8 * i + n).toNat then iI w else Mr.1 248 j := fun j => by
        rw [hR6, hR5, hR4, hR3, hR2, hR1]
        refine (sI_ne (by decide)).trans ((sI_ne (by decide)).trans ((sI_ne (by decide)).trans ((sI_ne (by decide)).trans ((sI_ne (by decide)).trans ?_))))
        by_cases z : j = (8 * i + n).toNat
        · rw [if_pos z, z]; exact sI_eq
        · rw [if_neg z]; exact sI_nej z
      have g249 : ∀ j, R6.1 249 j = if j = (8 * i + n).toNat then v3 else Mr.1 249 j := fun j => by
        rw [hR6, hR5, hR4, hR3, hR2]
        refine (sI_ne (by decide)).trans ((sI_ne (by decide)).trans ((sI_ne (by decide)).trans ((sI_ne (by decide)).trans ?_)))
        by_cases z : j = (8 * i + n).toNat
        · rw [if_pos z, z]; exact sI_eq
        · rw [if_neg z, hR1]; exact (sI_nej z).trans (sI_ne (by decide))
      have g250 : ∀ j, R6.1 250 j = if j = (8 * i + n).toNat then v4 else Mr.1 250 j := fun j => by
        rw [hR6, hR5, hR4, hR3]
        refine (sI_ne (by decide)).trans ((sI_ne (by decide)).trans ((sI_ne (by decide)).trans ?_))
        by_cases z : j = (8 * i + n).toNat
        · rw [if_pos z, z]; exact sI_eq
        · rw [if_neg z, hR2, hR1]; exact (sI_nej z).trans ((sI_ne (by decide)).trans (sI_ne (by decide)))
      have g251 : ∀ j, R6.1 251 j = if j = (8 * i + n).toNat then iI f else Mr.1 251 j := fun j => by
        rw [hR6, hR5, hR4]
        refine (sI_ne (by decide)).trans ((sI_ne (by decide)).trans ?_)
        by_cases z : j = (8 * i + n).toNat
        · rw [if_pos z, z]; exact sI_eq
        · rw [if_neg z, hR3, hR2, hR1]; exact (sI_nej z).trans ((sI_ne (by decide)).trans ((sI_ne (by decide)).trans (sI_ne (by decide))))
      have g252 : ∀ j, R6.1 252 j = if j = (8 * i + n).toNat then iI g else Mr.1 252 j := fun j => by
        rw [hR6, hR5]
        refine (sI_ne (by decide)).trans ?_
        by_cases z : j = (8 * i + n).toNat
        · rw [if_pos z, z]; exact sI_eq
        · rw [if_neg z, hR4, hR3, hR2, hR1]; exact (sI_nej z).trans ((sI_ne (by decide)).trans ((sI_ne (by decide)).trans ((sI_ne (by decide)).trans (sI_ne (by decide)))))
      refine ⟨M7, R6, iI (n + 1), up1 B i (hop h w f g v3 v4, (B i).2), ?_, ?_, F, G, hb', ⟨g138.trans hr.1, fun k a b => ?_⟩, hC.ho hP F, hR.hq G⟩
      · rw [eC]
        refine preC _ ?_
        rw [if_pos u, cI_e w1, hn]
      · rw [eR]
        unfold c294
        have nn8 : n < 8 := by omega
        rw [gtI_q (rk_160 rM) hr.1, show iI nH - (1 : Int32) = iI (nH - 1) from sbI rfl li_1, cI_e q1, jn_v, if_neg n10, cI_e q2, if_neg n10, cI_e q3, if_neg n10, cI_e q4, if_neg n10, gtP_q (rk_160 rM) (rf_140 rM), alI_q (n := 8) (z := i) (rk_247 rM) rfl (by omega) r4, if_neg (show ¬ iI n = (8 : Int32) from eqI_n (y := 8) rfl rfl (by omega)), gtP_q (rk_160 rM) (rf_140 rM), alI_q (n := 8) (z := i) (rk_247 rM) rfl (by omega) r4, ltI_q (z := 8 * i + n) (adI (mlI l8 rfl) rfl), gtP_q (rk_160 rM) (rf_141 rM), asI_e (z := 8 * i + n) (n := 64) (rk_248 rM) (by omega) (by omega) (by omega), ← hR1, gtP_q (rk_160 k1') (rf_142 k1'), asI_e (z := 8 * i + n) (n := 64) (rk_249 k1') (by omega) (by omega) (by omega), ← hR2, gtP_q (rk_160 k2') (rf_143 k2'), asI_e (z := 8 * i + n) (n := 64) (rk_250 k2') (by omega) (by omega) (by omega), ← hR3, gtP_q (rk_160 k3') (rf_144 k3'), asI_e (z := 8 * i + n) (n := 64) (rk_251 k3') (by omega) (by omega) (by omega), ← hR4, gtP_q (rk_160 k4') (rf_145 k4'), asI_e (z := 8 * i + n) (n := 64) (rk_252 k4') (by omega) (by omega) (by omega), ← hR5, gtP_q (rk_160 k5') (rf_140 k5'), alI_q (n := 8) (z := i) (rk_247 k5') rfl (by omega) e247, show iI n + (1 : Int32) = iI (n + 1) from adI rfl li_1, asI_e (z := i) (n := 8) (rk_247 k5') (by omega) (by omega) (by omega), ← hR6, gtP_q (rk_160 k6') (rf_140 k6'), alI_q (n := 8) (z := i) (rk_247 k6') rfl (by omega) f247]
      · by_cases z : k = i
        · rw [z, show up1 B i (hop h w f g v3 v4, (B i).2) i = (hop h w f g v3 v4, (B i).2) from if_pos rfl]
          refine ⟨k6', r2, ⟨(g246 _).trans r3, by rw [f247, hn]; rfl⟩, fun k' a' b' => ?_⟩
          have b'' : k' < hyN h + 1 := b'
          rw [g248, g249, g250, g251, g252]
          by_cases e : k' = n
          · obtain ⟨t1, t2, t3, t4, t5⟩ := hop_n (h := h) (w := w) (f := f) (g := g) (v1 := v3) (v2 := v4)
            rw [← hn] at t1 t2 t3 t4 t5
            rw [e, if_pos rfl, if_pos rfl, if_pos rfl, if_pos rfl, if_pos rfl, t1, t2, t3, t4, t5]
            exact ⟨rfl, rfl, rfl, rfl, rfl⟩
          · obtain ⟨t1, t2, t3, t4, t5⟩ := hop_k (h := h) (w := w) (f := f) (g := g) (v1 := v3) (v2 := v4) (k := k') (by omega)
            rw [if_neg (by omega), if_neg (by omega), if_neg (by omega), if_neg (by omega), if_neg (by omega), t1, t2, t3, t4, t5]
            exact r5 k' a' (by omega)
        · rw [show up1 B i (hop h w f g v3 v4, (B i).2) k = B k from if_neg z]
          obtain ⟨s1, s2, ⟨s3, s4⟩, s5⟩ := hr.2 k a b
          refine ⟨k6', s2, ⟨(g246 _).trans s3, (g247 _ (by omega)).trans s4⟩, fun k' a' b' => ?_⟩
          have hk := (hb.2 k a b).1.2.1
          rw [g248, g249, g250, g251, g252, if_neg (by omega), if_neg (by omega), if_neg (by omega), if_neg (by omega), if_neg (by omega)]
          exact s5 k' a' b'
    · refine same (-3) ?_ ?_
      · rw [eC]
        refine preC _ ?_
        rw [if_neg u]
      · rw [eR]
        unfold c294
        rw [gtI_q (rk_160 rM) hr.1, show iI nH - (1 : Int32) = iI (nH - 1) from sbI rfl li_1, cI_e q1, jn_v, if_neg n10, cI_e q2, if_neg n10, cI_e q3, if_neg n10, cI_e q4, if_neg n10, gtP_q (rk_160 rM) (rf_140 rM), alI_q (n := 8) (z := i) (rk_247 rM) rfl (by omega) r4, if_pos (show iI (hyN h) = (8 : Int32) by rw [show hyN h = 8 by omega]; rfl)]
  · refine same (-1) ?_ ?_
    · rw [eC]
      unfold c157
      rw [vC_e (ck_64 cM), cP_e z171, jn_v]
      by_cases hi : 0 ≤ i ∧ i < nH
      · rw [if_pos hi, if_neg (show ¬ some (B i).2 = none by simp)]
        by_cases a1 : w < 0
        · rw [if_pos (show iI w < 0 from lsI_p (y := 0) rfl li_0 (by omega)), jv_e]
        rw [if_neg (show ¬ iI w < 0 from lsI_n (y := 0) rfl li_0 (by omega))]
        by_cases a2 : 1 < w
        · rw [if_pos (show (1 : Int32) < iI w from lsI_p (x := 1) li_1 rfl (by omega)), jv_e]
        rw [if_neg (show ¬ (1 : Int32) < iI w from lsI_n (x := 1) li_1 rfl (by omega))]
        by_cases a3 : f < 0
        · rw [if_pos (show iI f < 0 from lsI_p (y := 0) rfl li_0 (by omega)), jv_e]
        rw [if_neg (show ¬ iI f < 0 from lsI_n (y := 0) rfl li_0 (by omega))]
        by_cases a4 : 1000 < g
        · rw [if_pos (show (1000 : Int32) < iI g from lsI_p (x := 1000) li_1000 rfl (by omega)), jv_e]
        rw [if_neg (show ¬ (1000 : Int32) < iI g from lsI_n (x := 1000) li_1000 rfl (by omega)), if_neg (show ¬ iI f ≤ iI g from leI_n rfl rfl (by omega)), jv_e]
      · rw [if_neg hi, if_pos rfl, jv_e]
    · rw [eR]
      unfold c294
      rw [gtI_q (rk_160 rM) hr.1, show iI nH - (1 : Int32) = iI (nH - 1) from sbI rfl li_1, cI_e q1, jn_v]
      by_cases hi : 0 ≤ i ∧ i ≤ nH - 1
      · rw [if_pos hi, if_neg n10, cI_e q2]
        by_cases a1 : 0 ≤ w ∧ w ≤ 1
        · rw [if_pos a1, if_neg n10, cI_e q3]
          by_cases a2 : 0 ≤ f ∧ f ≤ 1000
          · rw [if_pos a2, if_neg n10, cI_e q4, if_neg (show ¬ (f ≤ g ∧ g ≤ 1000) by omega), if_pos (show iI 0 = 0 from rfl), jv_e]
          · rw [if_neg a2, if_pos (show iI 0 = 0 from rfl), jv_e]
        · rw [if_neg a1, if_pos (show iI 0 = 0 from rfl), jv_e]
      · rw [if_neg hi, if_pos (show iI 0 = 0 from rfl), jv_e]
/-- whether it is LINEAR, in the class: what is known stays -/
theorem hc7 (hd : 20 ≤ d) (hO : hyO h) (hC : hyC h x M) (hl : M.1 x 5 = iI 0 ∨ (M.1 x 5 = iI 1 ∧ ∃ b : Int, M.1 x 6 = iI b ∧ hyX h x (fun _ => 0) 0 M b)) : ∃ (b : Int) (M' : Mem), runX d 7 [va_rf (some x)] M = some (.int (iI b), M') ∧ Fz (fun a _ => x ≤ a ∧ a ≤ x + 8) M M' ∧ hyC h x M' ∧ (M'.1 x 5 = iI 1 ∧ M'.1 x 6 = iI b) ∧ hyX h x (fun _ => 0) 0 M' b := by
  obtain ⟨d, rfl⟩ : ∃ e, d = e + 1 := ⟨d - 1, by omega⟩
  have n8 := hO.2.1
  have b01 : ∀ (b : Int) (X : Mem), hyX h x (fun _ => 0) 0 X b → b = 0 ∨ b = 1 := fun b X z => by
    rcases z with z | z
    · exact Or.inr z.1
    · exact Or.inl z.1
  rw [r7]; unfold b7; rw [aR_e, aZ_e]; unfold c7
  rcases hl with h0 | ⟨h1, b, h2, h3⟩
  · rw [gtI_q hC.1.1 h0, jn_v, if_pos (show iI 0 = 0 from rfl), vC_e hC.1.1]
    obtain ⟨b, M1, y1, y2, y3⟩ := hc8 hO (hyN h).toNat 0 (fun _ => 0) d (by omega) (by omega) M hC ⟨fun j z => by omega, fun j z w => by
      have : (hf h (fun _ => 0) 0).2.2.1 = 0 := rfl
      omega⟩ (fun i z => by omega)
    have y1' : runX d 8 [va_rf (some x), .int 0, .int 0, .int 0, .int 0, .int 0] M = some (.int (iI b), M1) := y1
    have hb := b01 b M1 y3
    have C1 := hC.fz y2.1
    have b2 : iI b = 0 ∨ iI b = 1 := by rcases hb with z | z <;> rw [z]; exact Or.inl rfl; exact Or.inr rfl
    obtain ⟨M2, hM2⟩ : ∃ X, X = sI M1 x 6 (iI b) := ⟨_, rfl⟩
    obtain ⟨M3, hM3⟩ : ∃ X, X = sI M2 x 5 1 := ⟨_, rfl⟩
    have k2 : M2.2.2.2[x]? = some (2, 7) := by rw [hM2]; exact C1.1.1
    have k3 : M3.2.2.2[x]? = some (2, 7) := by rw [hM3]; exact k2
    have e3 : ∀ a j, ¬ (a = x ∧ (j = 5 ∨ j = 6)) → M3.1 a j = M1.1 a j := fun a j z => by
      rw [hM3, hM2]
      by_cases y : a = x
      · exact (sI_nej (by omega)).trans (sI_nej (by omega))
      · exact (sI_ne y).trans (sI_ne y)
    have q3 : M3.2 = M1.2 := by rw [hM3, hM2]; rfl
    have e6 : M3.1 x 6 = iI b := by rw [hM3]; exact (sI_nej (by decide)).trans (by rw [hM2]; exact sI_eq)
    have F1 : Fz (fun a _ => x ≤ a ∧ a ≤ x + 8) M M1 := y2.1.m fun a j z => by unfold hyZ at z; omega
    refine ⟨b, M3, ?_, ?_, ?_, ⟨?_, e6⟩, ?_⟩
    · rw [cI_e y1', ptZ_e C1.1.1 b2, ← hM2, ptZ_e k2 (Or.inr rfl), ← hM3, jv_e, gtI_q k3 e6, rtZ_e b2]
    · rw [hM3, hM2]
      exact (F1.si ⟨Nat.le_refl _, by omega⟩).si ⟨Nat.le_refl _, by omega⟩
    · obtain ⟨⟨c1, c2, c3, c4⟩, ⟨c5, c6, c7⟩, c8, ⟨c9, c10⟩, c11⟩ := C1
      have e1 : M3.2.2.2 = M1.2.2.2 := congrArg (fun z => z.2.2) q3
      have e2 : M3.2.2.1 = M1.2.2.1 := congrArg (fun z => z.2.1) q3
      rw [hyC, e1, e2]
      refine ⟨⟨c1, c2, c3, c4⟩, ⟨c5, c6, c7⟩, c8, ⟨(e3 _ _ (by omega)).trans c9, (e3 _ _ (by omega)).trans c10⟩, fun k y z => ?_⟩
      obtain ⟨t1, t2, t3, t4, t5⟩ := c11 k y z
      exact ⟨(e3 _ _ (by omega)).trans t1, (e3 _ _ (by omega)).trans t2, (e3 _ _ (by omega)).trans t3, (e3 _ _ (by omega)).trans t4, (e3 _ _ (by omega)).trans t5⟩
    · rw [hM3]; exact sI_eq.trans li_1
    · rcases y3 with ⟨u1, r', u2, u3⟩ | u
      · exact Or.inl ⟨u1, r', u2, fun j z => (e3 _ _ (by omega)).trans (u3 j z)⟩
      · exact Or.inr u
  · have hb := b01 b M h3
    refine ⟨b, M, ?_, Fz.r, hC, ⟨h1, h2⟩, h3⟩
    rw [gtI_q hC.1.1 h1, jn_v, if_neg (show ¬ iI 1 = 0 by decide), jv_e, gtI_q hC.1.1 h2, rtZ_e (by rcases hb with z | z <;> rw [z]; exact Or.inl rfl; exact Or.inr rfl)]
theorem hr245 (hd : 1 ≤ d) (hb : k = 0 ∨ k = 1) : runX d 245 [.int (iI k)] M = some (.int (iI k), M) := by
  obtain ⟨d, rfl⟩ : ∃ e, d = e + 1 := ⟨d - 1, by omega⟩
  rw [r245]; unfold b245; rw [aI_e, aZ_e]; unfold c245
  rcases hb with z | z <;> rw [z]
  · rw [jn_v, if_pos (show iI 0 = 0 from rfl), jv_e]; rfl
  · rw [jn_v, if_neg (show ¬ iI 1 = 0 by decide), jv_e]; rfl
/-- what both find -/
theorem hyX.one {b b2 : Int} {x2 : Nat} (y : hyX h x (fun _ => 0) 0 M b) (z : hyX h x2 (fun _ => 0) 0 M' b2) : b2 = b ∧ (b = 1 → ∀ j : Nat, j < (hyN h).toNat → M.1 (x + 1) j = M'.1 (x2 + 1) j) := by
  rcases y with ⟨y1, r, y2, y3⟩ | ⟨y1, y2⟩ <;> rcases z with ⟨z1, r', z2, z3⟩ | ⟨z1, z2⟩
  · refine ⟨by omega, fun _ j w => ?_⟩
    rw [y3 j w, z3 j w, y2.one z2 j w]
  · exact (y2.ne z2).elim
  · exact (z2.ne y2).elim
  · exact ⟨by omega, fun w => by omega⟩
theorem linear_pair (hdl : 25 ≤ dl) (hd : 15 ≤ d) (hP : hoP o) (hC : HC LL xs o ow sl Mc) (hR : HR o sl Mr) (hb : hbC ow nH B Mc) (hr : hbR nH B Mr) (hv1 : v1 = iI i) (bi : -2147483648 ≤ i ∧ i ≤ 2147483647) : ∃ Mc' Mr' r B', runX dl 158 [va_rf (some 64), .int v1] Mc = some (.int r, Mc') ∧ runX d 298 [va_rf (some 160), .int v1] Mr = some (.int r, Mr') ∧ Fz (Zho ow) Mc Mc' ∧ Fz Zhq Mr Mr' ∧ hbC ow nH B' Mc' ∧ hbR nH B' Mr' ∧ HC LL xs o ow sl Mc' ∧ HR o sl Mr' := by
  obtain ⟨dl, rfl⟩ : ∃ e, dl = e + 1 := ⟨dl - 1, by omega⟩
  obtain ⟨d, rfl⟩ : ∃ e, d = e + 1 := ⟨d - 1, by omega⟩
  subst hv1
  have cM := hC.1.1.1
  have rM := hR.1.1.1
  have n8 := hb.1.1.2.2
  have z171 := zc171 (d := dl) (by omega) cM hb (rfl : iI i = iI i) bi
  have q1 := rr184 (d := d) (M := Mr) (v1 := iI i) (v2 := 0) (v3 := iI (nH - 1)) (i := i) (b := 0) (c := nH - 1) (by omega) rfl li_0 rfl (by omega) (by omega) (by omega)
  rw [r158, r298]; unfold b158 b298; rw [aR_e, aR_e, aI_e, aI_e, aZ_e, aZ_e]; unfold c158 c298
  rw [vC_e (ck_64 cM), cP_e z171, gtI_q (rk_160 rM) hr.1, show iI nH - (1 : Int32) = iI (nH - 1) from sbI rfl li_1, cI_e q1, jn_v]
  by_cases hi : 0 ≤ i ∧ i < nH
  · obtain ⟨y1, y2, -, y5⟩ := hb.2 i hi.1 hi.2
    have r0 := hr.2 i hi.1 hi.2
    have N8 := y1.2.1
    obtain ⟨b, M1, u1, u2, u3, ⟨u4, u5⟩, u6⟩ := hc7 (d := dl) (by omega) y1 y2 y5
    obtain ⟨b2, R1, w1, w2, -, w4⟩ := hr297 y1 ((B i).1.1.2).toNat 0 (fun _ => 0) d Mr (by show 0 + (hyN (B i).1).toNat = _; omega) (by show (hyN (B i).1).toNat + 2 ≤ d; omega) r0 (fun i z => by omega) (fun j z => by omega)
    have w1' : runX d 297 [va_rf (some 160), .int (iI i), .int 0] Mr = some (.int (iI b2), R1) := w1
    obtain ⟨e1, -⟩ := u6.one w4
    have hb2 : b = 0 ∨ b = 1 := by
      rcases u6 with z | z
      · exact Or.inr z.1
      · exact Or.inl z.1
    obtain ⟨hb', F⟩ := hb.up (i := i) (h := (B i).1) hi u2 ⟨y1, u3⟩ (Or.inr ⟨u4, b, u5, u6⟩) hC.1.1.2.2
    have G : Fz Zhq Mr R1 := w2.m fun a j z => by unfold hyRZ at z; unfold Zhq; omega
    have eB : up1 B i ((B i).1, (B i).2) = B := by
      funext j
      unfold up1
      by_cases z : j = i
      · rw [if_pos z, z]
      · rw [if_neg z]
    rw [eB] at hb'
    refine ⟨M1, R1, iI b, B, ?_, ?_, F, G, hb', ⟨(w2.2 _ _ (by unfold hyRZ; omega)).trans hr.1, fun k a c => (hr.2 k a c).fz w2⟩, hC.ho hP F, hR.hq G⟩
    · rw [if_pos hi, if_neg (show ¬ some (B i).2 = none by simp), vC_e y2.1.1, cI_e u1, jn_v]
      rcases hb2 with z | z <;> rw [z]
      · rw [if_pos (show iI 0 = 0 from rfl), jv_e]; rfl
      · rw [if_neg (show ¬ iI 1 = 0 by decide), jv_e]; rfl
    · rw [if_pos (show 0 ≤ i ∧ i ≤ nH - 1 by omega), if_neg (show ¬ iI 1 = 0 by decide), vC_e (rk_160 rM), cI_e w1', e1, cI_e (hr245 (by omega) hb2), jv_e]
  · refine ⟨Mc, Mr, -1, B, ?_, ?_, Fz.r, Fz.r, hb, hr, hC, hR⟩
    · rw [if_neg hi, if_pos rfl]
    · rw [if_neg (show ¬ (0 ≤ i ∧ i ≤ nH - 1) by omega), if_pos (show iI 0 = 0 from rfl), jv_e]
theorem place_pair (hdl : 25 ≤ dl) (hd : 15 ≤ d) (hP : hoP o) (hC : HC LL xs o ow sl Mc) (hR : HR o sl Mr) (hb : hbC ow nH B Mc) (hr : hbR nH B Mr) (hv1 : v1 = iI i) (hv2 : v2 = iI k) (bi : -2147483648 ≤ i ∧ i ≤ 2147483647) (bk : -2147483648 ≤ k ∧ k ≤ 2147483647) : ∃ Mc' Mr' r B', runX dl 159 [va_rf (some 64), .int v1, .int v2] Mc = some (.int r, Mc') ∧ runX d 299 [va_rf (some 160), .int v1, .int v2] Mr = some (.int r, Mr') ∧ Fz (Zho ow) Mc Mc' ∧ Fz Zhq Mr Mr' ∧ hbC ow nH B' Mc' ∧ hbR nH B' Mr' ∧ HC LL xs o ow sl Mc' ∧ HR o sl Mr' := by
  obtain ⟨dl, rfl⟩ : ∃ e, dl = e + 1 := ⟨dl - 1, by omega⟩
  obtain ⟨d, rfl⟩ : ∃ e, d = e + 1 := ⟨d - 1, by omega⟩
  subst hv1; subst hv2
  have cM := hC.1.1.1
  have rM := hR.1.1.1
  have n8 := hb.1.1.2.2
  have n10 : ¬ iI 1 = (0 : Int32) := by decide
  have z171 := zc171 (d := dl) (by omega) cM hb (rfl : iI i = iI i) bi
  have q1 := rr184 (d := d) (M := Mr) (v1 := iI i) (v2 := 0) (v3 := iI (nH - 1)) (i := i) (b := 0) (c := nH - 1) (by omega) rfl li_0 rfl (by omega) (by omega) (by omega)
  rw [r159, r299]; unfold b159 b299; rw [aR_e, aR_e, aI_e, aI_e, aI_e, aI_e, aZ_e, aZ_e]; unfold c159 c299
  rw [vC_e (ck_64 cM), cP_e z171, gtI_q (rk_160 rM) hr.1, show iI nH - (1 : Int32) = iI (nH - 1) from sbI rfl li_1, cI_e q1, jn_v, jn_v]
  by_cases hi : 0 ≤ i ∧ i < nH
  · obtain ⟨y1, y2, -, y5⟩ := hb.2 i hi.1 hi.2
    have r0 := hr.2 i hi.1 hi.2
    have N8 := y1.2.1
    have q2 := rr184 (d := d) (M := Mr) (v1 := iI k) (v2 := 0) (v3 := iI (hyN (B i).1 - 1)) (i := k) (b := 0) (c := hyN (B i).1 - 1) (by omega) rfl li_0 rfl (by omega) (by omega) (by omega)
    rw [if_pos hi, if_neg (show ¬ some (B i).2 = none by simp), if_pos (show 0 ≤ i ∧ i ≤ nH - 1 by omega), if_neg n10, gtP_q (rk_160 rM) (rf_140 rM), alI_q (n := 8) (z := i) (rk_247 rM) rfl (by omega) r0.2.2.1.2, show iI (hyN (B i).1) - (1 : Int32) = iI (hyN (B i).1 - 1) from sbI rfl li_1, cI_e q2]
    by_cases hk : 0 ≤ k ∧ k < hyN (B i).1
    · rw [if_pos (show 0 ≤ k ∧ k ≤ hyN (B i).1 - 1 by omega), if_neg n10, if_neg (show ¬ iI k < 0 from lsI_n (y := 0) rfl li_0 (by omega)), gtI_q y2.1.1 y2.2.2.2.1.1, if_pos (show iI k < iI (hyN (B i).1) from lsI_p rfl rfl (by omega)), vC_e y2.1.1, vC_e (rk_160 rM)]
      obtain ⟨b, M1, u1, u2, u3, ⟨u4, u5⟩, u6⟩ := hc7 (d := dl) (by omega) y1 y2 y5
      obtain ⟨b2, R1, w1, w2, -, w4⟩ := hr297 y1 ((B i).1.1.2).toNat 0 (fun _ => 0) d Mr (by show 0 + (hyN (B i).1).toNat = _; omega) (by show (hyN (B i).1).toNat + 2 ≤ d; omega) r0 (fun i z => by omega) (fun j z => by omega)
      have w1' : runX d 297 [va_rf (some 160), .int (iI i), .int 0] Mr = some (.int (iI b2), R1) := w1
      obtain ⟨e1, e2⟩ := u6.one w4
      have hb2 : b = 0 ∨ b = 1 := by
        rcases u6 with z | z
        · exact Or.inr z.1
        · exact Or.inl z.1
      obtain ⟨hb', F⟩ := hb.up (i := i) (h := (B i).1) hi u2 ⟨y1, u3⟩ (Or.inr ⟨u4, b, u5, u6⟩) hC.1.1.2.2
      have G : Fz Zhq Mr R1 := w2.m fun a j z => by unfold hyRZ at z; unfold Zhq; omega
      have R1' := r0.fz w2
      have eB : up1 B i ((B i).1, (B i).2) = B := by
        funext j
        unfold up1
        by_cases z : j = i
        · rw [if_pos z, z]
        · rw [if_neg z]
      rw [eB] at hb'
      rw [cI_e u1, cI_e w1', e1, jn_v, jn_v]
      have tail : hbC ow nH B M1 ∧ hbR nH B R1 ∧ HC LL xs o ow sl M1 ∧ HR o sl R1 := ⟨hb', ⟨(w2.2 _ _ (by unfold hyRZ; omega)).trans hr.1, fun k a c => (hr.2 k a c).fz w2⟩, hC.ho hP F, hR.hq G⟩
      rcases hb2 with z | z
      · refine ⟨M1, R1, -2, B, ?_, ?_, F, G, tail⟩
        · rw [z, if_pos (show iI 0 = 0 from rfl), jv_e]
        · rw [z, if_pos (show iI 0 = 0 from rfl), jv_e]
      · refine ⟨M1, R1, R1.1 253 k.toNat, B, ?_, ?_, F, G, tail⟩
        · rw [z, if_neg n10, gtP_q u3.1.1 u3.1.2.1, alI_q (n := 8) (z := k) u3.2.1.1 rfl (by omega) (e2 z k.toNat (by omega)), jv_e]
        · rw [z, if_neg n10, gtP_q (rk_160 R1'.1) (rf_146 R1'.1), alI_q (n := 8) (z := k) (rk_253 R1'.1) rfl (by omega) rfl, jv_e]
    · refine ⟨Mc, Mr, -1, B, ?_, ?_, Fz.r, Fz.r, hb, hr, hC, hR⟩
      · by_cases k0 : k < 0
        · rw [if_pos (show iI k < 0 from lsI_p (y := 0) rfl li_0 (by omega)), jv_e]
        · rw [if_neg (show ¬ iI k < 0 from lsI_n (y := 0) rfl li_0 (by omega)), gtI_q y2.1.1 y2.2.2.2.1.1, if_neg (show ¬ iI k < iI (hyN (B i).1) from lsI_n rfl rfl (by omega)), jv_e]
      · rw [if_neg (show ¬ (0 ≤ k ∧ k ≤ hyN (B i).1 - 1) by omega), if_pos (show iI 0 = 0 from rfl), jv_e]
  · refine ⟨Mc, Mr, -1, B, ?_, ?_, Fz.r, Fz.r, hb, hr, hC, hR⟩
    · rw [if_neg hi, if_pos rfl, jv_e]
    · rw [if_neg (show ¬ (0 ≤ i ∧ i ≤ nH - 1) by omega), if_pos (show iI 0 = 0 from rfl), jv_e]
end S9e6
