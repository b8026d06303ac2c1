/-! a life when no WORK is left: the reference goes on alone -/
section S9d7
variable {d dl : Nat} {o : HO} {v : VR} {q : QN} {P : Nat → Int} {s s' u : ZS} {M M' Mc Mr Mc' Mr' : Mem} {LL a j : Nat} {xs : Nat → Int32} {c p i n st b : Int} {w sd v1 v2 : Int32} {e : ZS} {κ : ZK} {g : PG}
theorem RI.turnS (hdl : 12 ≤ dl) (hd : 63 ≤ d) (hu : rPu o v q) (h : RI LL xs o v q n s Mc Mr) (hn : n ≤ 20) (hi : 0 ≤ i ∧ i < 16) (hMc : Mc' = sI Mc 88 5 (iI (i + 1)) ∨ (Mc' = Mc ∧ q.2.2.1 = 0)) (hMr : Mr' = sI Mr 160 93 (iI i) ∨ (Mr' = Mr ∧ q.2.2.1 = 0)) (q3 : q.2.2.1 = 0) (q4 : q.2.2.2.1 = 0) (q5 : q.2.2.2.2 = 0) (h12 : 0 ≤ s.1 12 0 0) (hc : 0 ≤ c ∧ c < (gR (oP o (vP v))).1 3 0 0) (hw : w = iI c) : ∃ Mc2 Mr2, runX dl 25 [va_rf (some 88), va_rf (some (hEC (gH (oP o (vP v))) 3 c))] Mc' = some (.null, Mc2) ∧ runX d 254 [va_rf (some 160), .int w] Mr' = some (.null, Mr2) ∧ zFl (rK o v q.2.2.1) Mc' Mc2 ∧ zRl (rE o v (pf q 0 0)) Mr' Mr2 ∧ RB LL xs o v q Mc2 Mr2 ∧ ((∃ s' V Fa Wh, RI LL xs o v q n s' Mc2 Mr2 ∧ (zHw s s' ∧ s'.1 17 = s.1 17) ∧ (0 ≤ s'.1 12 0 0 ∧ s'.1 12 0 0 ≤ s.1 12 0 0) ∧ zLv V Fa Wh Mc2 Mr2 ∧ Mr2.1 160 84 = Mr.1 160 84) ∨ (Mc2.1 88 10 = iI (-1) ∧ Mr2.1 160 84 = iI 1 ∧ ∃ u, RI LL xs o v q n u (sI Mc2 88 10 (iI 0)) Mr2 ∧ (zHw s u ∧ u.1 17 = s.1 17) ∧ u.1 12 0 0 = 0 ∧ hdC u Mc2)) := by
  obtain ⟨Mc2, Mr2, x1, x2, x3, x4, x5, x6, x7, x8⟩ := h.life hdl hd hu hn hi hMc hMr (fun z => by omega) hc hw
  refine ⟨Mc2, Mr2, x1, x2, x3, x4, ⟨x5, x6, x7⟩, ?_⟩
  obtain ⟨-, -, -, -, ⟨h9, h10, h11, h12', h13, h14⟩, h15⟩ := h
  have nh : (rE o v (pf q i (2000 * n))).1 10 1 0 ≠ 1 := by
    show ¬ q.2.2.2.1 = 1
    omega
  have hzs : ∀ sd, zHw s (zrs (rE o v (pf q i (2000 * n))) s sd) := fun sd => ⟨zrs_w (by decide), zrs_w (by decide)⟩
  rcases x8 with ⟨s', V, Fa, Wh, y1, ⟨y2, y2'⟩, y3, y4, y5, y6, y7, y8⟩ | ⟨y0, y⟩
  · obtain ⟨n1, n2, n3, n4, n5, n6, n7, n8, n9⟩ := id y1
    have z17 : s'.1 17 = s.1 17 := n4 nh
    have hw' : zHw s s' := by
      rcases y7 with ⟨-, z⟩ | ⟨-, z, -⟩
      · have z1 := z.fx.2.2.2.2.2.2 nh
        exact ⟨z1.1.trans (hzs _).1, z1.2.trans (hzs _).2⟩
      · rw [z]; exact hzs _
    exact Or.inl ⟨s', V, Fa, Wh, ⟨x5, x6, ⟨y2, y2'⟩, x7, ⟨n1, n2.2, fun D => by rw [z17]; exact h11 D, n5, Or.inl (n7 h12), by omega⟩, h15⟩, ⟨hw', z17⟩, ⟨n7 h12, by omega⟩, y3, y4⟩
  · obtain ⟨z1, z2, z3, z4, z5, z6, z7, z8, z9, u, f, iv, u12, rh, cx⟩ := y
    have f17 : u.1 17 = s.1 17 := (f.2.2.2.1 nh).trans (zrs_k (by decide) (by decide) (by decide) (by decide))
    have fw := f.2.2.2.2.2.2 nh
    have nn : ∀ a j, a ≠ 88 → (sI Mc2 88 10 (iI 0)).1 a j = Mc2.1 a j := fun a j z => sI_ne z
    have z10 : hoZ o 88 10 := ZM_ho (p := vP v) (k := 0) hu.1 hu.2.1.1 (Or.inl ⟨rfl, by decide⟩)
    have hd0 : hdC u Mc2 := cx.2.2.1
    refine Or.inr ⟨z5, z8, znb u, ⟨⟨x5.1.si hu.1 z10, x5.2⟩, ⟨x6.1.si hu.1 hu.2.1 (by omega) (by omega), x6.2⟩, ⟨⟨fun id a b => (nn _ _ (by decide)).trans (cx.1 id a b), ?_, fun z => ?_, fun Q a b => ?_, fun z => ?_⟩, rh.1, rh.2.1, ?_, rh.2.2.2.1, rh.2.2.2.2.1, rh.2.2.2.2.2⟩, ⟨(sI_nej (by decide)).trans x7.1, x7.2⟩, ⟨⟨rfl, rfl⟩, ?_, fun D => ?_, ?_, ?_, ?_⟩, h15⟩, ⟨⟨fw.1.trans (hzs _).1, fw.2.trans (hzs _).2⟩, ?_⟩, ?_, hd0⟩
    · have : zcw (znb u) = 0 := by
        unfold zcw
        rw [if_neg (by show ¬ (0 : Int) = 6; decide), if_pos (by show 0 ≤ u.1 12 0 0; omega)]
        exact u12
      rw [this]; exact sI_eq
    · have z2 : q.2.2.1 = 1 := z
      omega
    · obtain ⟨b1, b2, b3⟩ := cx.2.2.1 Q a b
      have tz : 108 ≤ zTw Q := by unfold zTw; omega
      exact ⟨(nn _ _ (by omega)).trans b1, fun j m n => (nn _ _ (by omega)).trans (b2 j m n), fun j m n => (nn _ _ (by omega)).trans (b3 j m n)⟩
    · have z2 : q.2.2.2.2 = 1 := z
      omega
    · exact rh.2.2.1
    · exact iv.2.2.1
    · show 0 ≤ u.1 17 D 0 ∧ u.1 17 D 0 ≤ 2000 * n
      rw [f17]; exact h11 D
    · exact iv.2.2.2.2.1
    · exact Or.inl (by show 0 ≤ u.1 12 0 0; omega)
    · show u.1 12 0 0 ≤ 2147483647
      omega
    · exact f17
    · exact u12
/-- the reference alone -/
theorem RI.alone (hd : 63 ≤ d) (hu : rPu o v q) (h : RI LL xs o v q n s Mc Mr) (hn : n ≤ 20) (q3 : q.2.2.1 = 0) (q4 : q.2.2.2.1 = 0) (q5 : q.2.2.2.2 = 0) (h12 : s.1 12 0 0 = 0) (h84 : Mr.1 160 84 = iI 1) (hc : 0 ≤ c ∧ c < (gR (oP o (vP v))).1 3 0 0) (hw : w = iI c) : ∃ X Mr2 s', runX d 254 [va_rf (some 160), .int w] Mr = some (.null, Mr2) ∧ zRl (rE o v (pf q 0 0)) Mr Mr2 ∧ RI LL xs o v q n s' X Mr2 ∧ (zHw s s' ∧ s'.1 17 = s.1 17) ∧ s'.1 12 0 0 = 0 ∧ Mr2.1 160 84 = iI 1 := by
  obtain ⟨Mc2, Mr2, x1, x2, x3, x4, x5, x6⟩ := h.turnS (dl := 12) (d := d) (i := 0) (c := c) (w := w) (Mc' := Mc) (Mr' := Mr) (by omega) hd hu hn (by omega) (Or.inr ⟨rfl, q3⟩) (Or.inr ⟨rfl, q3⟩) q3 q4 q5 (by omega) hc hw
  rcases x6 with ⟨s', V, Fa, Wh, y1, y2, y3, y4, y5⟩ | ⟨y1, y2, u, y3, y4, y5, y6⟩
  · exact ⟨Mc2, Mr2, s', x2, x4, y1, y2, by omega, y5.trans h84⟩
  · exact ⟨_, Mr2, u, x2, x4, y3, y4, y5, y2⟩
end S9d7
