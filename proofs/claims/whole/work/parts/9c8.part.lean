/-! lives of a run, one after the other: what stands between them -/
/-- STEPS, what is altered, covers, hears, luck -/
abbrev QN : Type := Int × Int × Int × Int × Int
def pf (q : QN) (st b : Int) : Nat → Int := Pf q.1 q.2.1 q.2.2.1 q.2.2.2.1 q.2.2.2.2 st b
def qOK (o : HO) (v : VR) (q : QN) : Prop := (1 ≤ q.1 ∧ q.1 ≤ 1000) ∧ (q.2.1 = -1 ∨ (vF v = 0 ∧ 0 ≤ q.2.1 ∧ q.2.1 < gE (oP o (vP v)) ∧ iw (gG (oP o (vP v)) 0 q.2.1) ≠ -1)) ∧ (q.2.2.1 = 0 ∨ (q.2.2.1 = 1 ∧ q.2.2.2.1 = 1 ∧ vF v = 0)) ∧ (q.2.2.2.1 = 0 ∨ q.2.2.2.1 = 1) ∧ (q.2.2.2.2 = 0 ∨ q.2.2.2.2 = 1)
def vrK (o : HO) (v : VR) : Prop := (vF v = 0 ∧ (∀ m, vM v m = -2) ∧ ∀ u, vL v u < 0) ∨ (vF v = 1 ∧ LkF (gR (oP o (vP v))) (gR (oP o (vQ v))) (vL v) (vM v))
/-- a run, pure -/
def rPu (o : HO) (v : VR) (q : QN) : Prop := hoP o ∧ vrP o v ∧ vrK o v ∧ vrL o v ∧ qOK o v q
def rvW (o : HO) (v : VR) (q : QN) (M : Mem) : Prop :=
  (M.2.2.1 91 0 = some (gX (oP o (vP v))) ∧ (vF v = 1 → M.2.2.1 91 1 = some (gX (oP o (vQ v)))) ∧ (vF v = 0 → M.2.2.1 91 1 = none)) ∧
  (M.1 88 1 = iI q.1 ∧ M.1 88 3 = iI (if q.2.1 < 0 then -2 else q.2.1) ∧ M.1 88 6 = iI (if q.2.2.1 = 1 then 2 else if q.2.2.2.1 = 1 then 1 else 0) ∧ M.2.2.1 88 4 = if q.2.2.2.2 = 1 then some 143 else none) ∧
  (M.2.2.1 88 9 = if vF v = 1 then some (vO v) else none) ∧
  (vF v = 1 → M.2.2.2[vO v]? = some (1, 4) ∧ (259 ≤ vB v ∧ (vB v < gL (oP o (vP v)) ∨ gX (oP o (vP v)) + 18 ≤ vB v)) ∧ M.2.2.1 (vO v) 3 = some (vB v) ∧ M.2.2.2[vB v]? = some (100, ((gR (oP o (vP v))).1 2 0 0).toNat) ∧ ∀ m, 0 ≤ m → m < (gR (oP o (vP v))).1 2 0 0 → M.1 (vB v) m.toNat = iI (vM v m))
def rvX (o : HO) (v : VR) (q : QN) (M : Mem) : Prop :=
  (M.1 160 66 = iI (vP v) ∧ M.1 160 67 = iI (if vF v = 1 then vQ v else -1)) ∧
  (M.1 160 90 = iI q.2.1 ∧ M.1 160 91 = iI q.2.2.1 ∧ M.1 160 92 = iI q.2.2.2.1 ∧ M.1 160 97 = iI q.2.2.2.2) ∧
  ∀ u, 0 ≤ u → u < (gR (oP o (vP v))).1 1 0 0 → M.1 209 u.toNat = iI (vL v u) ∧ -2 ≤ vL v u ∧ vL v u ≤ 7
/-- between the lives of a run: n of them were done -/
def RI (LL : Nat) (xs : Nat → Int32) (o : HO) (v : VR) (q : QN) (n : Int) (s : ZS) (Mc Mr : Mem) : Prop :=
  (hoC LL xs o Mc ∧ hoR o Mr) ∧ (rvW o v q Mc ∧ rvX o v q Mr) ∧
  (zCH (rE o v (pf q 0 0)) (rK o v q.2.2.1) s Mc ∧ zRH (rE o v (pf q 0 0)) s Mr) ∧ (Mc.1 88 2 = Mr.1 160 78 ∧ Mr.1 160 77 = iI q.1) ∧
  ((s.1 0 0 0 = 0 ∧ s.1 1 0 0 = 0) ∧ s.1 14 0 0 ≤ 1000 ∧ (∀ D, 0 ≤ s.1 17 D 0 ∧ s.1 17 D 0 ≤ 2000 * n) ∧ (∀ p, -1 ≤ s.1 15 p 0 ∧ s.1 15 p 0 ≤ 16) ∧ (0 ≤ s.1 12 0 0 ∨ -1000 * n - 1 ≤ s.1 12 0 0) ∧ s.1 12 0 0 ≤ 2147483647) ∧ 0 ≤ n
section S9c8
variable {d dl : Nat} {o : HO} {v : VR} {q : QN} {P : Nat → Int} {s s' u : ZS} {M M' Mc Mr Mc' Mr' : Mem} {LL a j : Nat} {xs : Nat → Int32} {c p i n st b : Int} {w sd v1 v2 : Int32} {e : ZS} {κ : ZK} {g : PG}
theorem rPu.env (h : rPu o v q) (hs : 0 ≤ st ∧ st < 16) (hb : 0 ≤ b ∧ b ≤ 40000) : rvP o v (pf q st b) := by
  obtain ⟨h1, h2, h3, h4, h5, h6, h7, h8, h9⟩ := h
  have := h1.1
  have := h2.1
  have := h2.2
  refine zEO.mk (h1.2.2.1 _ h2.1.1 h2.1.2) (by omega) (fun _ => h1.2.2.1 _ h2.2.1 h2.2.2) (by omega) h3 ⟨h5, h6, ?_, h8, h9, hs, hb⟩ h1.2.1
  show q.2.2.1 = 0 ∨ (q.2.2.1 = 1 ∧ q.2.2.2.1 = 1 ∧ vF v = 0)
  exact h7
theorem rvW.ct (h : rvW o v q M) (g : q.2.2.1 = 1 → M.1 88 5 = iI (st + 1)) : rvC o v (pf q st b) M := ⟨h.1, ⟨h.2.1.1, h.2.1.2.1, g, h.2.1.2.2.1, h.2.1.2.2.2⟩, h.2.2.1, h.2.2.2⟩
theorem rvC.wk (h : rvC o v (pf q st b) M) : rvW o v q M := ⟨h.1, ⟨h.2.1.1, h.2.1.2.1, h.2.1.2.2.2.1, h.2.1.2.2.2.2⟩, h.2.2.1, h.2.2.2⟩
theorem rvX.rt (h : rvX o v q M) (g : q.2.2.1 = 1 → M.1 160 93 = iI st) : rvR o v (pf q st b) M := ⟨h.1, ⟨h.2.1.1, h.2.1.2.1, h.2.1.2.2.1, h.2.1.2.2.2, g⟩, h.2.2⟩
theorem rvR.xt (h : rvR o v (pf q st b) M) : rvX o v q M := ⟨h.1, ⟨h.2.1.1, h.2.1.2.1, h.2.1.2.2.1, h.2.1.2.2.2.1⟩, h.2.2⟩
/-- the number of a CASE is told -/
theorem Z885 (hP : hoP o) : hoZ o 88 5 := ⟨by decide, fun q => by
  intro hq
  have g : ∀ q, q ∈ CFd → ¬ (q.1 = 88 ∧ q.2.1 = 5) := by decide
  exact g _ hq ⟨rfl, rfl⟩, fun p x y u z => by have := (hP.2.2.1 p x y).2.2; omega, fun x => absurd x (by decide)⟩
theorem hoC.si (h : hoC LL xs o M) (hP : hoP o) (z : hoZ o a j) : hoC LL xs o (sI M a j w) := h.fg (Z := fun b i => b = a ∧ i = j) hP ((FG.r h.1.2.2).sI ⟨rfl, rfl⟩) fun b i y => by rw [y.1, y.2]; exact z
theorem hoR.si (h : hoR o M) (z : hrZ a j) : hoR o (sI M a j w) := h.fg (Z := fun b i => b = a ∧ i = j) ((FG.r h.1.2).sI ⟨rfl, rfl⟩) fun b i y => by rw [y.1, y.2]; exact z
theorem rvW.si (h : rvW o v q M) (hP : hoP o) (hv : vrP o v) (z : ¬ (a = 88 ∧ (j = 1 ∨ j = 3 ∨ j = 6))) (z2 : a < 259 ∨ gL (oP o (vP v)) ≤ a ∧ a < gX (oP o (vP v)) + 18) : rvW o v q (sI M a j w) := by
  obtain ⟨h1, ⟨h2, h3, h4, h5⟩, h6, h7⟩ := h
  have g : ∀ i, i = 1 ∨ i = 3 ∨ i = 6 → (sI M a j w).1 88 i = M.1 88 i := fun i y => by
    by_cases c : a = 88
    · exact sI_nej (fun c2 => z ⟨c, by omega⟩)
    · exact sI_ne (fun c2 => c c2.symm)
  refine ⟨h1, ⟨(g 1 (by decide)).trans h2, (g 3 (by decide)).trans h3, (g 6 (by decide)).trans h4, h5⟩, h6, fun y => ?_⟩
  obtain ⟨q1, ⟨q2, q3⟩, q4, q5, q6⟩ := h7 y
  refine ⟨q1, ⟨q2, q3⟩, q4, q5, fun m x1 x2 => (sI_ne ?_).trans (q6 m x1 x2)⟩
  omega
/-- a life -/
theorem RI.life (hdl : 12 ≤ dl) (hd : 63 ≤ d) (hu : rPu o v q) (h : RI LL xs o v q n s Mc Mr) (hn : n ≤ 20) (hi : 0 ≤ i ∧ i < 16) (hMc : Mc' = sI Mc 88 5 (iI (i + 1)) ∨ (Mc' = Mc ∧ q.2.2.1 = 0)) (hMr : Mr' = sI Mr 160 93 (iI i) ∨ (Mr' = Mr ∧ q.2.2.1 = 0)) (hlu : q.2.2.2.2 = 1 → Mc.1 143 6 = iI 0 ∧ 0 ≤ s.1 14 0 0) (hc : 0 ≤ c ∧ c < (gR (oP o (vP v))).1 3 0 0) (hw : w = iI c) : ∃ Mc2 Mr2, runX dl 25 [va_rf (some 88), va_rf (some (hEC (gH (oP o (vP v))) 3 c))] Mc' = some (.null, Mc2) ∧ runX d 254 [va_rf (some 160), .int w] Mr' = some (.null, Mr2) ∧ zFl (rK o v q.2.2.1) Mc' Mc2 ∧ zRl (rE o v (pf q 0 0)) Mr' Mr2 ∧ (hoC LL xs o Mc2 ∧ hoR o Mr2) ∧ (rvW o v q Mc2 ∧ rvX o v q Mr2) ∧ (Mc2.1 88 2 = Mr2.1 160 78 ∧ Mr2.1 160 77 = iI q.1) ∧ lvO LL xs o v (pf q i (2000 * n)) s c (Mc.1 88 2) Mr Mc2 Mr2 := by
  obtain ⟨⟨h1, h2⟩, ⟨h3, h4⟩, ⟨h5, h6⟩, ⟨h7, h8⟩, ⟨h9, h10, h11, h12, h13, h14⟩, h15⟩ := h
  have hE := hu.env (st := i) (b := 2000 * n) hi (by omega)
  have hP := hu.1
  have hv := hu.2.1
  have hg := hP.2.2.1 _ hv.1.1 hv.1.2
  have z93 : hrZ 160 93 := ⟨fun _ q hq => by
    have g : ∀ q, q ∈ RFd → q.1 ≠ 93 := by decide
    exact g _ hq rfl, by decide, by decide, by decide⟩
  have oc : ∀ a j, ¬ (a = 88 ∧ j = 5) → Mc'.1 a j = Mc.1 a j := fun a j z => by
    rcases hMc with y | y
    · rw [y]
      by_cases t : a = 88
      · exact sI_nej fun w => z ⟨t, w⟩
      · exact sI_ne t
    · rw [y.1]
  have or' : ∀ a j, ¬ (a = 160 ∧ j = 93) → Mr'.1 a j = Mr.1 a j := fun a j z => by
    rcases hMr with y | y
    · rw [y]
      by_cases t : a = 160
      · exact sI_nej fun w => z ⟨t, w⟩
      · exact sI_ne t
    · rw [y.1]
  have hoc : hoC LL xs o Mc' := by
    rcases hMc with y | y
    · rw [y]; exact h1.si hP (Z885 hP)
    · rw [y.1]; exact h1
  have hor : hoR o Mr' := by
    rcases hMr with y | y
    · rw [y]; exact h2.si z93
    · rw [y.1]; exact h2
  have rc : rvC o v (pf q i (2000 * n)) Mc' := by
    rcases hMc with y | y
    · rw [y]; exact (h3.si hP hv (by omega) (by omega)).ct fun _ => sI_eq
    · rw [y.1]; exact h3.ct fun z => by omega
  have rr : rvR o v (pf q i (2000 * n)) Mr' := by
    rcases hMr with y | y
    · rw [y]
      refine rvX.rt ?_ fun _ => sI_eq
      obtain ⟨⟨a1, a2⟩, ⟨a3, a4, a5, a6⟩, a7⟩ := h4
      exact ⟨⟨(sI_nej (by decide)).trans a1, (sI_nej (by decide)).trans a2⟩, ⟨(sI_nej (by decide)).trans a3, (sI_nej (by decide)).trans a4, (sI_nej (by decide)).trans a5, (sI_nej (by decide)).trans a6⟩, fun u x y => ⟨(sI_ne (by decide)).trans (a7 u x y).1, (a7 u x y).2⟩⟩
    · rw [y.1]; exact h4.rt fun z => by omega
  have k0 : rK o v q.2.2.1 8 0 = gX (oP o (vP v)) + 13 := rfl
  have k1 : rK o v q.2.2.1 8 1 = gX (oP o (vP v)) + 14 := rfl
  have k2 : rK o v q.2.2.1 8 2 = gX (oP o (vP v)) + 15 := rfl
  have gl := hg.2.2
  have ch : zCH (rE o v (pf q i (2000 * n))) (rK o v q.2.2.1) s Mc' := by
    obtain ⟨a1, a2, a3, a4, a5⟩ := h5
    refine ⟨fun id z y => (oc _ _ (by omega)).trans (a1 id z y), (oc _ _ (by omega)).trans a2, fun x p y z => ?_, fun q y z => ?_, fun x => ?_⟩
    · obtain ⟨b1, b2, b3⟩ := a3 x p y z
      exact ⟨(oc _ _ (by omega)).trans b1, (oc _ _ (by omega)).trans b2, (oc _ _ (by omega)).trans b3⟩
    · obtain ⟨b1, b2, b3⟩ := a4 q y z
      exact ⟨(oc _ _ (by omega)).trans b1, fun j m n => (oc _ _ (by unfold zTw; omega)).trans (b2 j m n), fun j m n => (oc _ _ (by unfold zTw; omega)).trans (b3 j m n)⟩
    · obtain ⟨b1, b2⟩ := a5 x
      exact ⟨(oc _ _ (by omega)).trans b1, fun t m n => ⟨(oc _ _ (by omega)).trans (b2 t m n).1, (oc _ _ (by omega)).trans (b2 t m n).2⟩⟩
  have rh : zRH (rE o v (pf q i (2000 * n))) s Mr' := by
    obtain ⟨a0, a1, a2, a3, a4, a5⟩ := h6
    refine ⟨hor.1.1, fun id z y => (or' _ _ (by omega)).trans (a1 id z y), (or' _ _ (by omega)).trans a2, fun x p y z => ?_, fun q y z => ?_, fun x => ?_⟩
    · obtain ⟨b1, b2, b3⟩ := a3 x p y z
      exact ⟨(or' _ _ (by omega)).trans b1, (or' _ _ (by omega)).trans b2, (or' _ _ (by omega)).trans b3⟩
    · obtain ⟨b1, b2, b3⟩ := a4 q y z
      exact ⟨(or' _ _ (by omega)).trans b1, fun j m n => (or' _ _ (by omega)).trans (b2 j m n), fun j m n => (or' _ _ (by omega)).trans (b3 j m n)⟩
    · obtain ⟨b1, b2⟩ := a5 x
      exact ⟨(or' _ _ (by omega)).trans b1, fun t m n => ⟨(or' _ _ (by omega)).trans (b2 t m n).1, (or' _ _ (by omega)).trans (b2 t m n).2⟩⟩
  have ps : zPs (rE o v (pf q i (2000 * n))) s := ⟨h9, h10, h11, h12, by omega, h14⟩
  have c882 : Mc'.1 88 2 = Mc.1 88 2 := oc _ _ (by omega)
  obtain ⟨Mc2, Mr2, x1, x2, x3, x4, x5, ⟨x6, x7⟩, x8⟩ := live_pair hdl hd hP hv hE hoc hor rc rr ps ch rh (c882.trans (h7.trans (or' _ _ (by omega)).symm)) ((or' _ _ (by omega)).trans h8) (fun z => ⟨(oc _ _ (by omega)).trans (hlu z).1, (hlu z).2⟩) hc hw
  have n2 : Mc2.1 88 2 = Mc'.1 88 2 := x3.2 _ _ (by decide) (fun _ => by show 88 ≠ gX (oP o (vP v)) + 13; omega) (fun _ => by show 88 ≠ gX (oP o (vP v)) + 14; omega) (fun _ => by show 88 ≠ gX (oP o (vP v)) + 15; omega)
  have n78 : Mr2.1 160 78 = Mr'.1 160 78 := x4.2.1 _ _ (by decide)
  have n77 : Mr2.1 160 77 = Mr'.1 160 77 := x4.2.1 _ _ (by decide)
  refine ⟨Mc2, Mr2, x1, x2, x3, x4, x5, ⟨x6.wk, x7.xt⟩, ⟨n2.trans (c882.trans (h7.trans (n78.trans (or' _ _ (by omega))).symm)), n77.trans ((or' _ _ (by omega)).trans h8)⟩, ?_⟩
  rw [c882] at x8
  have e84 : Mr'.1 160 84 = Mr.1 160 84 := or' _ _ (by omega)
  unfold lvO at x8 ⊢
  rw [e84] at x8
  exact x8
end S9c8
