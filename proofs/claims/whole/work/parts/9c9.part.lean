/-! a life of a run: what stands behind it -/
/-- what stands in a run whatever becomes of it -/
def RB (LL : Nat) (xs : Nat → Int32) (o : HO) (v : VR) (q : QN) (Mc Mr : Mem) : Prop := (hoC LL xs o Mc ∧ hoR o Mr) ∧ (rvW o v q Mc ∧ rvX o v q Mr) ∧ Mc.1 88 2 = Mr.1 160 78 ∧ Mr.1 160 77 = iI q.1
/-- CALLS heard, in both -/
def hdC (u : ZS) (M : Mem) : Prop := ∀ q, 0 ≤ q → q < 8 → M.1 (zTw q) 4 = iI (u.1 17 q 0) ∧ (∀ j, 0 ≤ j → j < 50 → M.1 (zTw q + 3) j.toNat = u.2 12 q j) ∧ ∀ j, 0 ≤ j → j < 200 → M.1 (zTw q + 2) j.toNat = u.2 13 q j
def hdR (u : ZS) (M : Mem) : Prop := ∀ q, 0 ≤ q → q < 8 → M.1 235 q.toNat = iI (u.1 17 q 0) ∧ (∀ j, 0 ≤ j → j < 50 → M.1 236 (50 * q + j).toNat = u.2 12 q j) ∧ ∀ j, 0 ≤ j → j < 200 → M.1 237 (200 * q + j).toNat = u.2 13 q j
/-- no WORK is left -/
def rvS (q : QN) (s : ZS) (Mc Mr : Mem) : Prop := Mc.1 88 10 = iI (-1) ∧ Mr.1 160 84 = iI 1 ∧ ∃ u, (hdC u Mc ∧ hdR u Mr) ∧ (q.2.2.2.1 = 0 → u.1 17 = s.1 17)
/-- what is told of a life -/
def lvT (o : HO) (v : VR) (q : QN) (i n : Int) (s : ZS) (c : Int) (sd : Int32) (s' : ZS) (V : Int) (Fa Wh : Int32) (Mr Mc' Mr' : Mem) : Prop := zLv V Fa Wh Mc' Mr' ∧ Mr'.1 160 84 = Mr.1 160 84 ∧ (Mc'.1 89 3 = iI (s'.1 10 0 0) ∧ Mr'.1 160 81 = iI (s'.1 10 0 0)) ∧ (Mc'.1 89 4 = iI (s'.1 11 0 0) ∧ Mr'.1 160 82 = iI (s'.1 11 0 0)) ∧ nPs (rE o v (pf q i (2000 * n))) s s' ∧ ((kK (oP o (vP v)) c 5 = 0 ∧ zLf (rE o v (pf q i (2000 * n))) (kK (oP o (vP v)) c) (kF (oP o (vP v)) c) (zrs (rE o v (pf q i (2000 * n))) s sd) V Fa Wh s') ∨ (kK (oP o (vP v)) c 5 = 1 ∧ s' = zrs (rE o v (pf q i (2000 * n))) s sd ∧ V = 5 ∧ Fa = 0 ∧ Wh = -2)) ∧ (q.2.2.2.2 = 1 → Mc'.1 143 6 = iI (s'.1 11 0 0) ∧ s'.1 11 0 0 ≤ s'.1 14 0 0)
section S9c9
variable {d dl : Nat} {o : HO} {v : VR} {q : QN} {P : Nat → Int} {s s' u : ZS} {M M' Mc Mr Mc' Mr' : Mem} {LL a j : Nat} {xs : Nat → Int32} {c p i n st b : Int} {w sd v1 v2 : Int32} {e : ZS} {κ : ZK} {g : PG}
theorem RI.rb (h : RI LL xs o v q n s Mc Mr) : RB LL xs o v q Mc Mr := ⟨h.1, h.2.1, h.2.2.2.1⟩
theorem RI.turn (hdl : 12 ≤ dl) (hd : 63 ≤ d) (hu : rPu o v q) (h : RI LL xs o v q n s Mc Mr) (hn : n ≤ 20) (hi : 0 ≤ i ∧ i < 16) (hMc : Mc' = sI Mc 88 5 (iI (i + 1)) ∨ (Mc' = Mc ∧ q.2.2.1 = 0)) (hMr : Mr' = sI Mr 160 93 (iI i) ∨ (Mr' = Mr ∧ q.2.2.1 = 0)) (hlu : q.2.2.2.2 = 1 → Mc.1 143 6 = iI 0 ∧ 0 ≤ s.1 14 0 0) (hc : 0 ≤ c ∧ c < (gR (oP o (vP v))).1 3 0 0) (hw : w = iI c) : ∃ Mc2 Mr2, runX dl 25 [va_rf (some 88), va_rf (some (hEC (gH (oP o (vP v))) 3 c))] Mc' = some (.null, Mc2) ∧ runX d 254 [va_rf (some 160), .int w] Mr' = some (.null, Mr2) ∧ zFl (rK o v q.2.2.1) Mc' Mc2 ∧ zRl (rE o v (pf q 0 0)) Mr' Mr2 ∧ RB LL xs o v q Mc2 Mr2 ∧ ((∃ s' V Fa Wh, RI LL xs o v q (n + 1) s' Mc2 Mr2 ∧ (q.2.2.2.1 = 0 → 0 ≤ s.1 12 0 0 → RI LL xs o v q n s' Mc2 Mr2) ∧ lvT o v q i n s c (Mc.1 88 2) s' V Fa Wh Mr Mc2 Mr2) ∨ (0 ≤ s.1 12 0 0 ∧ rvS q s Mc2 Mr2)) := by
  obtain ⟨Mc2, Mr2, x1, x2, x3, x4, x5, x6, x7, x8⟩ := h.life hdl hd hu hn hi hMc hMr hlu hc hw
  refine ⟨Mc2, Mr2, x1, x2, x3, x4, ⟨x5, x6, x7⟩, ?_⟩
  obtain ⟨-, -, -, -, ⟨h9, h10, h11, h12, h13, h14⟩, h15⟩ := h
  rcases x8 with ⟨s', V, Fa, Wh, y1, ⟨y2, y2'⟩, y3, y4, y5, y6, y7, y8⟩ | ⟨y0, y⟩
  · obtain ⟨n1, n2, n3, n4, n5, n6, n7, n8, n9⟩ := id y1
    have e30 : (rE o v (pf q i (2000 * n))).1 30 0 0 = 2000 * n := rfl
    rw [e30] at n3
    refine Or.inl ⟨s', V, Fa, Wh, ⟨x5, x6, ⟨y2, y2'⟩, x7, ⟨n1, n2.2, fun D => ?_, n5, ?_, ?_⟩, by omega⟩, fun z z2 => ⟨x5, x6, ⟨y2, y2'⟩, x7, ⟨n1, n2.2, fun D => ?_, n5, Or.inl (n7 z2), ?_⟩, h15⟩, y3, y4, y5, y6, y1, y7, y8⟩
    · have := n3 D
      omega
    · rcases h13 with z | z
      · exact Or.inl (n7 z)
      · by_cases z2 : 0 ≤ s.1 12 0 0
        · exact Or.inl (n7 z2)
        · right; omega
    · omega
    · have z17 : s'.1 17 = s.1 17 := n4 (fun z3 => by
        have z4 : q.2.2.2.1 = 1 := z3
        omega)
      rw [z17]; exact h11 D
    · omega
  · obtain ⟨z1, z2, z3, z4, z5, z6, z7, z8, z9, u, f, iv, u12, rh, cx⟩ := y
    obtain ⟨f1, f2, f3, f4, f5, f6⟩ := f
    have e12 : (zrs (rE o v (pf q i (2000 * n))) s (Mc.1 88 2)).1 12 0 0 = s.1 12 0 0 := rfl
    have e17 : (zrs (rE o v (pf q i (2000 * n))) s (Mc.1 88 2)).1 17 = s.1 17 := zrs_k (by decide) (by decide) (by decide) (by decide)
    rw [e12] at f3
    rw [e17] at f4
    refine Or.inr ⟨?_, z5, z8, u, ⟨cx.2.2.1, rh.2.2.2.2.1⟩, fun z => f4 fun z3 => ?_⟩
    · by_cases z : 0 ≤ s.1 12 0 0
      · exact z
      · have := f3 (by omega)
        omega
    · have z4 : q.2.2.2.1 = 1 := z3
      omega
end S9c9
