/-! kill(): one run, with or without a MUTANT: both -/
/-- between the runs of kill(), property(), luck(), blame(): WORK, CALLS heard -/
def KI (LL : Nat) (xs : Nat → Int32) (o : HO) (p sl lu b : Int) (hs : ZS) (Mc Mr : Mem) : Prop := (hoC LL xs o Mc ∧ hoR o Mr) ∧ (∀ al, rvW o (v1p p) (sl, al, 0, 0, lu) (sI Mc 88 3 (iI (if al < 0 then -2 else al)))) ∧ (Mr.1 160 77 = iI sl ∧ Mr.1 160 91 = iI 0 ∧ Mr.1 160 92 = iI 0 ∧ Mr.1 160 97 = iI lu) ∧ Mc.1 88 2 = Mr.1 160 78 ∧ (Mc.1 88 10 = iI b ∧ Mr.1 160 83 = iI b ∧ Mr.1 160 84 = iI 0 ∧ 0 ≤ b ∧ b ≤ 40000) ∧ hdC hs Mc ∧ hdR hs Mr ∧ ∀ D, 0 ≤ hs.1 17 D 0 ∧ hs.1 17 D 0 ≤ 34000
/-- no WORK was left -/
def KS (LL : Nat) (xs : Nat → Int32) (o : HO) (p sl lu : Int) (Mc Mr : Mem) : Prop := (hoC LL xs o Mc ∧ hoR o Mr) ∧ (Mr.1 160 77 = iI sl ∧ Mr.1 160 91 = iI 0 ∧ Mr.1 160 92 = iI 0 ∧ Mr.1 160 97 = iI lu) ∧ Mc.1 88 2 = Mr.1 160 78 ∧ (Mc.1 88 10 = iI (-1) ∧ Mr.1 160 84 = iI 1) ∧ ∃ hs, hdC hs Mc ∧ hdR hs Mr ∧ ∀ D, 0 ≤ hs.1 17 D 0 ∧ hs.1 17 D 0 ≤ 34000
section S9cn
variable {d dl : Nat} {o : HO} {v : VR} {q : QN} {s s' u hs : ZS} {M M' M1 M2 Mc Mr Mc' Mr' : Mem} {LL a j x N bs n : Nat} {xs : Nat → Int32} {ow : Nat → Int} {c p i nc k t b sl al lu : Int} {w v1 v2 : Int32} {Z Z' : Nat → Nat → Prop} {Od : Int → Int} {T U : Nat → Int → Int32}
theorem hdC.fz (h : hdC hs M) (f : ∀ a j, 108 ≤ a ∧ a < 140 → M'.1 a j = M.1 a j) : hdC hs M' := fun Q a b => by
  obtain ⟨y1, y2, y3⟩ := h Q a b
  have tz : 108 ≤ zTw Q ∧ zTw Q + 3 < 140 := by unfold zTw; omega
  exact ⟨(f _ _ (by omega)).trans y1, fun j m n => (f _ _ (by omega)).trans (y2 j m n), fun j m n => (f _ _ (by omega)).trans (y3 j m n)⟩
theorem hdR.fz (h : hdR hs M) (f : ∀ a j, 235 ≤ a ∧ a ≤ 237 → M'.1 a j = M.1 a j) : hdR hs M' := fun Q a b => by
  obtain ⟨y1, y2, y3⟩ := h Q a b
  exact ⟨(f _ _ (by omega)).trans y1, fun j m n => (f _ _ (by omega)).trans (y2 j m n), fun j m n => (f _ _ (by omega)).trans (y3 j m n)⟩
theorem RI.hd (h : RI LL xs o v q k s Mc Mr) : hdC s Mc ∧ hdR s Mr := ⟨h.2.2.1.1.2.2.2.1, h.2.2.1.2.2.2.2.2.1⟩
/-- a run begins: what of it stands in the class, in the reference -/
theorem KI.beg (hdl : 5 ≤ dl) (hd : 2 ≤ d) (hP : hoP o) (hp : 0 ≤ p ∧ p < oN o) (hsl : 1 ≤ sl ∧ sl ≤ 1000) (h : KI LL xs o p sl lu b hs Mc Mr) (hq : q = (sl, al, 0, 0, lu)) (hqk : qOK o (v1p p) q) (hMc : Mc' = sI Mc 88 3 (iI (if al < 0 then -2 else al))) (hMr : Mr' = sI Mr 160 90 (iI al)) (hw : w = iI p) (t : Int) (ht : 0 ≤ t ∧ t ≤ 1000) (hs2 : ZS) (h2 : hs2.1 = hs.1 ∧ ∀ k, k = 12 ∨ k = 13 → hs2.2 k = hs.2 k) (hlu : lu = 1 → (Mc.1 143 5 = iI t ∧ ∀ z, 0 ≤ z → z < t → Mc.1 144 z.toNat = hs2.2 9 z 0 ∧ Mc.1 145 z.toNat = hs2.2 10 z 0) ∧ Mr.1 160 98 = iI t ∧ ∀ z, 0 ≤ z → z < t → Mr.1 219 z.toNat = hs2.2 9 z 0 ∧ Mr.1 220 z.toNat = hs2.2 10 z 0) : ∃ Mg R2, runX dl 23 [va_rf (some 88)] Mc' = some (.null, Mg) ∧ runX d 235 [va_rf (some 160), .int w, .int ((-1 : Int32))] Mr' = some (.null, R2) ∧ Mg.2 = Mc'.2 ∧ (∀ a j, a ≠ 106 → Mg.1 a j = Mc'.1 a j) ∧ R2.2 = Mr'.2 ∧ (∀ a j, ¬ Zma a j → R2.1 a j = Mr'.1 a j) ∧ RI LL xs o (v1p p) q 17 (zst (rE o (v1p p) (pf q 0 0)) b t hs2) Mg R2 := by
  obtain ⟨⟨h1, h2'⟩, h3, ⟨h4, h5, h6, h7⟩, h8, ⟨h9, h10, h11, h12, h13⟩, h14, h15, h16⟩ := h
  have hu : rPu o (v1p p) q := rPu.one hP hp hqk
  have hE := hu.env (st := 0) (b := 0) (by omega) (by omega)
  have nE := (hP.2.2.1 p hp.1 hp.2).1.n2
  have hC' : hoC LL xs o Mc' := by
    rw [hMc]
    refine h1.si hP (ZM_ho (p := p) (k := 0) hP hp (Or.inl ⟨rfl, by decide⟩))
  have hR' : hoR o Mr' := by
    rw [hMr]
    exact h2'.si (ZR_hr (p := 0) (k := 0) (Or.inl ⟨rfl, by decide⟩))
  have hW' : rvW o (v1p p) q Mc' := by rw [hMc, hq]; exact h3 al
  obtain ⟨Mg, g1, g2, g3, g4, g5⟩ := bg_C (d := dl) (M := Mc') (P := pf q 0 0) hdl hP hu.2.1 hE hC' hW'.1
  obtain ⟨R2, y1, y2, y3, y4, y5, y6, y7⟩ := bg_R (d := d) (M := Mr') (P := pf q 0 0) (v1 := w) (v2 := (-1 : Int32)) hd hP hu.2.1 hu.2.2.2.1 hR' hw (by rw [if_neg v1F]; rfl)
  have q1 : q.1 = sl := by rw [hq]
  have q2 : q.2.1 = al := by rw [hq]
  have q3 : q.2.2.1 = 0 := by rw [hq]
  have q4 : q.2.2.2.1 = 0 := by rw [hq]
  have q5 : q.2.2.2.2 = lu := by rw [hq]
  have c1 : ∀ a j, ¬ (a = 88 ∧ j = 3) → Mc'.1 a j = Mc.1 a j := fun a j z => by
    rw [hMc]
    by_cases y : a = 88
    · exact sI_nej fun w => z ⟨y, w⟩
    · exact sI_ne y
  have r1 : ∀ a j, ¬ (a = 160 ∧ j = 90) → Mr'.1 a j = Mr.1 a j := fun a j z => by
    rw [hMr]
    by_cases y : a = 160
    · exact sI_nej fun w => z ⟨y, w⟩
    · exact sI_ne y
  have cg : ∀ a j, ¬ (a = 88 ∧ j = 3) → a ≠ 106 → Mg.1 a j = Mc.1 a j := fun a j z z' => (g3 a j z').trans (c1 a j z)
  have rg : ∀ a j, ¬ (a = 160 ∧ (j = 90 ∨ j = 66 ∨ j = 67)) → a ≠ 209 → a ≠ 211 → R2.1 a j = Mr.1 a j := fun a j z z1 z2 => (y3 a j (by unfold Zma; omega)).trans (r1 a j (by omega))
  have pg : Mg.2.2.1 = Mc'.2.2.1 := congrArg (fun z => z.2.1) g2
  have hW : rvW o (v1p p) q Mg := by
    obtain ⟨w1, ⟨w2, w3, w4, w5⟩, w6, w7⟩ := hW'
    exact ⟨by rw [pg]; exact w1, ⟨(g3 _ _ (by decide)).trans w2, (g3 _ _ (by decide)).trans w3, (g3 _ _ (by decide)).trans w4, by rw [pg]; exact w5⟩, by rw [pg]; exact w6, fun z => absurd z v1F⟩
  have hX : rvX o (v1p p) q R2 := by
    refine ⟨y5, ⟨?_, ?_, ?_, ?_⟩, y6⟩
    · rw [q2, y3 _ _ (by unfold Zma; omega), hMr]; exact sI_eq
    · rw [q3]; exact (rg _ _ (by omega) (by decide) (by decide)).trans h5
    · rw [q4]; exact (rg _ _ (by omega) (by decide) (by decide)).trans h6
    · rw [q5]; exact (rg _ _ (by omega) (by decide) (by decide)).trans h7
  have hh : hdC hs2 Mg := fun Q a b => by
    obtain ⟨z1, z2, z3⟩ := h14 Q a b
    have tz : 108 ≤ zTw Q ∧ zTw Q + 3 < 140 := by unfold zTw; omega
    rw [h2.1, h2.2 12 (by decide), h2.2 13 (by decide)]
    exact ⟨(cg _ _ (by omega) (by omega)).trans z1, fun j m n => (cg _ _ (by omega) (by omega)).trans (z2 j m n), fun j m n => (cg _ _ (by omega) (by omega)).trans (z3 j m n)⟩
  have hr : hdR hs2 R2 := fun Q a b => by
    obtain ⟨z1, z2, z3⟩ := h15 Q a b
    rw [h2.1, h2.2 12 (by decide), h2.2 13 (by decide)]
    exact ⟨(rg _ _ (by omega) (by decide) (by decide)).trans z1, fun j m n => (rg _ _ (by omega) (by decide) (by decide)).trans (z2 j m n), fun j m n => (rg _ _ (by omega) (by decide) (by decide)).trans (z3 j m n)⟩
  refine ⟨Mg, R2, g1, y1, g2, g3, y2, y3, RI.mk g4 y4 hW hX ((cg _ _ (by omega) (by decide)).trans (h8.trans (rg _ _ (by omega) (by decide) (by decide)).symm)) (by rw [q1]; exact (rg _ _ (by omega) (by decide) (by decide)).trans h4) g5 y7 ?_ ?_ (fun z => by omega) hh hr (fun z => ?_) (fun D => ?_) ⟨Or.inl h12, by omega⟩ ht.2 (by decide) (show gE (oP o p) ≤ 1000 by omega)⟩
  · rw [if_pos h12]; exact (cg _ _ (by omega) (by decide)).trans h9
  · exact (rg _ _ (by omega) (by decide) (by decide)).trans h10
  · obtain ⟨⟨l1, l2⟩, l3, l4⟩ := hlu (by omega)
    exact ⟨⟨(cg _ _ (by omega) (by decide)).trans l1, fun z a b => ⟨(cg _ _ (by omega) (by decide)).trans (l2 z a b).1, (cg _ _ (by omega) (by decide)).trans (l2 z a b).2⟩⟩, (rg _ _ (by omega) (by decide) (by decide)).trans l3, fun z a b => ⟨(rg _ _ (by omega) (by decide) (by decide)).trans (l4 z a b).1, (rg _ _ (by omega) (by decide) (by decide)).trans (l4 z a b).2⟩⟩
  · rw [h2.1]
    have := h16 D
    omega
end S9cn
