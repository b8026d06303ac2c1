/-! a life in the house -/
/-- what lives leave, but for what is shared -/
def zCY (e : ZS) (κ : ZK) (s : ZS) (M : Mem) : Prop := M.1 88 10 = iI (zcw s) ∧
  (e.1 10 0 0 = 1 → ∀ p, 0 ≤ p → p < e.1 21 0 0 → M.1 (κ 8 0) p.toNat = s.2 7 p 0 ∧ M.1 (κ 8 1) p.toNat = s.2 8 p 0 ∧ M.1 (κ 8 2) p.toNat = iI (s.1 15 p 0 + 1)) ∧
  (∀ q, 0 ≤ q → q < 8 → M.1 (zTw q) 4 = iI (s.1 17 q 0) ∧ (∀ j, 0 ≤ j → j < 50 → M.1 (zTw q + 3) j.toNat = s.2 12 q j) ∧ ∀ j, 0 ≤ j → j < 200 → M.1 (zTw q + 2) j.toNat = s.2 13 q j) ∧
  (e.1 10 2 0 = 1 → M.1 143 5 = iI (s.1 14 0 0) ∧ ∀ t, 0 ≤ t → t < s.1 14 0 0 → M.1 144 t.toNat = s.2 9 t 0 ∧ M.1 145 t.toNat = s.2 10 t 0)
def zRY (e s : ZS) (M : Mem) : Prop := RT M ∧ M.1 160 83 = iI (s.1 12 0 0) ∧
  (e.1 10 0 0 = 1 → ∀ p, 0 ≤ p → p < e.1 21 0 0 → M.1 216 (zrp e p).toNat = s.2 7 p 0 ∧ M.1 217 (zrp e p).toNat = s.2 8 p 0 ∧ M.1 218 (zrp e p).toNat = iI (s.1 15 p 0)) ∧
  (∀ q, 0 ≤ q → q < 8 → M.1 235 q.toNat = iI (s.1 17 q 0) ∧ (∀ j, 0 ≤ j → j < 50 → M.1 236 (50 * q + j).toNat = s.2 12 q j) ∧ ∀ j, 0 ≤ j → j < 200 → M.1 237 (200 * q + j).toNat = s.2 13 q j) ∧
  (e.1 10 2 0 = 1 → M.1 160 98 = iI (s.1 14 0 0) ∧ ∀ t, 0 ≤ t → t < s.1 14 0 0 → M.1 219 t.toNat = s.2 9 t 0 ∧ M.1 220 t.toNat = s.2 10 t 0)
/-- from one life to the next -/
def nPs (e s s' : ZS) : Prop := (s'.1 0 0 0 = 0 ∧ s'.1 1 0 0 = 0) ∧ (s.1 14 0 0 ≤ s'.1 14 0 0 ∧ s'.1 14 0 0 ≤ 1000) ∧ (∀ D, 0 ≤ s'.1 17 D 0 ∧ s'.1 17 D 0 ≤ e.1 30 0 0 + 2000) ∧ (e.1 10 1 0 ≠ 1 → s'.1 17 = s.1 17) ∧ (∀ p, -1 ≤ s'.1 15 p 0 ∧ s'.1 15 p 0 ≤ 16) ∧ (s.1 12 0 0 - 1000 ≤ s'.1 12 0 0 ∧ s'.1 12 0 0 ≤ s.1 12 0 0) ∧ (0 ≤ s.1 12 0 0 → 0 ≤ s'.1 12 0 0) ∧ (s.1 12 0 0 < 0 → s'.1 12 0 0 < 0) ∧ (0 ≤ s'.1 10 0 0 ∧ s'.1 10 0 0 ≤ 1000) ∧ 0 ≤ s'.1 11 0 0 ∧ s'.1 11 0 0 ≤ s'.1 10 0 0
section S9c6
variable {d dl : Nat} {o : HO} {v : VR} {P : Nat → Int} {s s' u : ZS} {M M' Mc Mr Mc' Mr' : Mem} {LL a j : Nat} {xs : Nat → Int32} {c p i : Int} {w sd : Int32} {e : ZS} {κ : ZK}
theorem zCH.cy (h : zCH e κ s M) : zCY e κ s M := h.2
theorem zRH.ry (h : zRH e s M) : zRY e s M := ⟨h.1, h.2.2⟩
theorem zCY.ch (h : zCY e κ s M) (g : ∀ id, zId e id → e.1 4 id 0 = 2 → M.1 106 (e.1 23 id 0).toNat = s.2 2 id 0) : zCH e κ s M := ⟨g, h⟩
theorem zRY.rh (h : zRY e s M) (g : ∀ id, zId e id → e.1 4 id 0 = 2 → M.1 211 id.toNat = s.2 2 id 0) : zRH e s M := ⟨h.1, g, h.2⟩
theorem nPs.mk (h : zBt e s') (f : zFx e (zrs e s sd) s') (hl : zEl e) : nPs e s s' := by
  obtain ⟨⟨b0, b1⟩, ⟨⟨i1, i2⟩, ⟨i3, i4⟩, i5, i6, i7, i8⟩, b2, b3⟩ := h
  obtain ⟨f1, f2, f3, f4, f5, f6⟩ := f
  have l20 := hl.1
  have e9 : (zrs e s sd).1 9 0 0 = e.1 20 0 0 := rfl
  have e12 : (zrs e s sd).1 12 0 0 = s.1 12 0 0 := rfl
  have e14 : (zrs e s sd).1 14 0 0 = s.1 14 0 0 := rfl
  have e17 : (zrs e s sd).1 17 = s.1 17 := zrs_k (by decide) (by decide) (by decide) (by decide)
  rw [e9, e12] at f1
  rw [e12] at f2 f3 f6
  rw [e14] at f5
  rw [e17] at f4
  refine ⟨⟨b0, b1⟩, ⟨f5, i5⟩, fun D => ?_, f4, i7, by omega, f2, f3, by omega, by omega, by omega⟩
  have := i6 D
  rw [b1, if_neg (by decide)] at this
  omega
/-- what comes of a life in the house -/
def lvO (LL : Nat) (xs : Nat → Int32) (o : HO) (v : VR) (P : Nat → Int) (s : ZS) (c : Int) (sd : Int32) (Mr Mc' Mr' : Mem) : Prop :=
  (∃ s' V Fa Wh, nPs (rE o v P) s s' ∧ (zCH (rE o v P) (rK o v (P 2)) s' Mc' ∧ zRH (rE o v P) s' Mr') ∧ zLv V Fa Wh Mc' Mr' ∧ Mr'.1 160 84 = Mr.1 160 84 ∧ (Mc'.1 89 3 = iI (s'.1 10 0 0) ∧ Mr'.1 160 81 = iI (s'.1 10 0 0)) ∧ (Mc'.1 89 4 = iI (s'.1 11 0 0) ∧ Mr'.1 160 82 = iI (s'.1 11 0 0)) ∧ ((kK (oP o (vP v)) c 5 = 0 ∧ zLf (rE o v P) (kK (oP o (vP v)) c) (kF (oP o (vP v)) c) (zrs (rE o v P) s sd) V Fa Wh s') ∨ (kK (oP o (vP v)) c 5 = 1 ∧ s' = zrs (rE o v P) s sd ∧ V = 5 ∧ Fa = 0 ∧ Wh = -2)) ∧ ((rE o v P).1 10 2 0 = 1 → Mc'.1 143 6 = iI (s'.1 11 0 0) ∧ s'.1 11 0 0 ≤ s'.1 14 0 0)) ∨
  (kK (oP o (vP v)) c 5 = 0 ∧ zSp LL xs (rE o v P) (rK o v (P 2)) (rR o v) (vL v) (zrs (rE o v P) s sd) Mc' Mr')
theorem live_pair (hdl : 12 ≤ dl) (hd : 63 ≤ d) (hP : hoP o) (hv : vrP o v) (hE : rvP o v P) (hC : hoC LL xs o Mc) (hR : hoR o Mr) (hrc : rvC o v P Mc) (hrr : rvR o v P Mr) (hs : zPs (rE o v P) s) (hcs : zCH (rE o v P) (rK o v (P 2)) s Mc) (hrs : zRH (rE o v P) s Mr) (hsd : Mc.1 88 2 = Mr.1 160 78) (h77 : Mr.1 160 77 = iI (P 0)) (hlu : P 4 = 1 → Mc.1 143 6 = iI 0 ∧ 0 ≤ s.1 14 0 0) (hc : 0 ≤ c ∧ c < (gR (oP o (vP v))).1 3 0 0) (hw : w = iI c) : ∃ Mc' Mr', runX dl 25 [va_rf (some 88), va_rf (some (hEC (gH (oP o (vP v))) 3 c))] Mc = some (.null, Mc') ∧ runX d 254 [va_rf (some 160), .int w] Mr = some (.null, Mr') ∧ zFl (rK o v (P 2)) Mc Mc' ∧ zRl (rE o v P) Mr Mr' ∧ (hoC LL xs o Mc' ∧ hoR o Mr') ∧ (rvC o v P Mc' ∧ rvR o v P Mr') ∧ lvO LL xs o v P s c (Mc.1 88 2) Mr Mc' Mr' := by
  have hg := hP.2.2.1 _ hv.1.1 hv.1.2
  have EC := ho_E hP hv hE hC hrc
  have ER := ho_R hP hv hE hR hrr
  have hV : zEv (rE o v P) := hE.ev
  have hb : zKb (rE o v P) (kK (oP o (vP v)) c) (kF (oP o (vP v)) c) := hE.kb rfl hc
  obtain ⟨g1, g2, g3⟩ := hC.1
  have pl : zPL LL xs (rE o v P) (rK o v (P 2)) (rR o v) (vL v) s Mc Mr := ⟨hs, ⟨g1, hcs, EC, g2⟩, ⟨hrs, ER⟩, hsd, h77, hlu⟩
  have S0 : SdM (rE o v P) (rK o v (P 2)) 0 (vP v) (oP o (vP v)) Mc := by
    refine ⟨SdF.s0 hE _ rfl, hg, hC.2.1 _ hv.1.1 hv.1.2, fun a x y => ?_, hrc.1.1⟩
    have k0 : rK o v (P 2) 8 0 = gX (oP o (vP v)) + 13 := rfl
    have k1 : rK o v (P 2) 8 1 = gX (oP o (vP v)) + 14 := rfl
    have k2 : rK o v (P 2) 8 2 = gX (oP o (vP v)) + 15 := rfl
    have := hg.2.2
    exact ⟨by omega, by omega, by omega, by omega⟩
  have hkc := S0.kc hc
  have hkr : zKr (rE o v P) (kK (oP o (vP v)) c) (kF (oP o (vP v)) c) Mr := zKr.mk hg (hR.2.1 _ hv.1.1 hv.1.2).1 rfl hc
  obtain ⟨Mc', Mr', x1, x2, x3, x4, x5⟩ := life_pair (v := w) hdl hd hV hb pl hkc hkr hw
  refine ⟨Mc', Mr', x1, x2, x3, x4, ⟨hC.fl hP hv x3, hR.rl x4⟩, ⟨hrc.fl x3 hg, hrr.rl x4⟩, ?_⟩
  rcases x5 with ⟨s', V, Fa, Wh, y1, y2, y3, y4⟩ | y
  · refine Or.inl ⟨s', V, Fa, Wh, ?_, ⟨y1.2.1.2.1.ch, y1.2.2.1.rh⟩, y2, y3, ?_, ?_, y4, ?_⟩
    · refine nPs.mk (sd := Mc.1 88 2) y1.1 ?_ hV.2.1
      rcases y4 with ⟨-, z⟩ | ⟨-, z, -⟩
      · exact z.fx
      · rw [z]; exact zFx.r
    · exact ⟨y1.2.1.2.1.2.2.2.1.2.1, y1.2.2.1.2.2.2.2.1.2.2.1⟩
    · exact ⟨y1.2.1.2.1.2.2.2.1.2.2.1, y1.2.2.1.2.2.2.2.1.2.2.2.1⟩
    · intro z
      have t := y1.2.1.2.1.2.2.2.2.2.2 z
      exact ⟨t.1.1, t.1.2.2⟩
  · exact Or.inr y
end S9c6
