/-! luck: a row, both -/
def hsX (hs : ZS) (D N : Int → Int32) : ZS := (hs.1, fun k i j => if k = 9 then D i else if k = 10 then N i else hs.2 k i j)
/-- the row comes of one that was done -/
def lkP (e e0 : ZS) (K : Nat → Int) (F : Nat → Int → Int) (sd : Int32) (hs : ZS) (t : Int) (D : Int → Int32) : Prop := t = 0 ∨ (K 5 = 0 ∧ ∃ (b0 t0 : Int) (D0 N0 : Int → Int32) (V : Int) (Fa Wh : Int32) (u : ZS), zLf e K F (zrs e (zst e0 b0 t0 (hsX hs D0 N0)) sd) V Fa Wh u ∧ 0 ≤ t0 ∧ zPd u ∧ t ≤ u.1 14 0 0 ∧ ∀ i : Int, 0 ≤ i → i < t - 1 → u.2 9 i 0 = D i)
def Zlc (a j : Nat) : Prop := (a = 143 ∧ j ≠ 3 ∧ j ≠ 4) ∨ a = 144 ∨ a = 145
def Zlq (a j : Nat) : Prop := (a = 160 ∧ j = 98) ∨ a = 219 ∨ a = 220
section S9dz
variable {d dl : Nat} {o : HO} {v : VR} {q : QN} {e e0 s s' u hs : ZS} {M M' Mc Mr Mc' Mr' : Mem} {LL a j : Nat} {xs : Nat → Int32} {c p i n st b b' nc sl al lu t : Int} {w sd v1 v2 : Int32} {K : Nat → Int} {F : Nat → Int → Int} {D N : Int → Int32} {Z : Nat → Nat → Prop}
theorem lkP.pd {V : Int} {Fa Wh : Int32} (hl : e.1 10 2 0 = 1) (h : lkP e e0 K F sd hs t D) (ht : 0 ≤ t) (hL : zLf e K F (zrs e (zst e0 b t (hsX hs D N)) sd) V Fa Wh u) : zPd u := by
  have z14 : (zrs e (zst e0 b t (hsX hs D N)) sd).1 14 0 0 = t := rfl
  have z11 : (zrs e (zst e0 b t (hsX hs D N)) sd).1 11 0 0 = 0 := rfl
  by_cases t0 : t = 0
  · refine hL.pd hl ?_
    show (zrs e (zst e0 b t (hsX hs D N)) sd).1 11 0 0 = (zrs e (zst e0 b t (hsX hs D N)) sd).1 14 0 0
    rw [z11, z14, t0]
  · rcases h with h | ⟨-, b0, t1, D0, N0, V0, Fa0, Wh0, u0, h1, h2, h3, h4, h5⟩
    · exact absurd h t0
    · have lk : zLq (fun i => u0.2 9 i 0) t (zrs e (zst e0 b0 t1 (hsX hs D0 N0)) sd) (zrs e (zst e0 b t (hsX hs D N)) sd) := by
        refine ⟨⟨fun k i j x y => ?_, fun k i j x y => ?_⟩, z14, ⟨Int.le_refl _, by show 0 < t; omega⟩, h2, fun i x y => ?_⟩
        · show (if k = 8 then 0 else if k = 9 then e.1 20 0 0 else if k = 10 then 0 else if k = 11 then 0 else if k = 12 then b else if k = 14 then t else if k = 15 then -1 else if k = 17 then hs.1 17 i j else 0) = if k = 8 then 0 else if k = 9 then e.1 20 0 0 else if k = 10 then 0 else if k = 11 then 0 else if k = 12 then b0 else if k = 14 then t1 else if k = 15 then -1 else if k = 17 then hs.1 17 i j else 0
          rw [if_neg x, if_neg x, if_neg y, if_neg y]
        · show (if k = 4 then sd else if k = 2 then e0.2 0 i 0 else if k = 7 then 0 else if k = 8 then 0 else if k = 9 then D i else if k = 10 then N i else hs.2 k i j) = if k = 4 then sd else if k = 2 then e0.2 0 i 0 else if k = 7 then 0 else if k = 8 then 0 else if k = 9 then D0 i else if k = 10 then N0 i else hs.2 k i j
          rw [if_neg x, if_neg x, if_neg y, if_neg y]
        · exact (h5 i x y).symm
      rcases zLf_lk hl h1 hL lk (fun i _ _ => rfl) with z | z
      · exfalso
        have z1 := z.2.2.1.2
        have z2 : u0.1 11 0 0 = u0.1 14 0 0 := h3
        omega
      · exact z
/-- between runs, out of the lives of a run -/
theorem RI.kl (hq : q = (sl, -1, 0, 0, 1)) (h : RI LL xs o (v1p p) q n s Mc Mr) (h12 : 0 ≤ s.1 12 0 0 ∧ s.1 12 0 0 ≤ 40000) (h84 : Mr.1 160 84 = iI 0) (h17 : ∀ D, 0 ≤ hs.1 17 D 0 ∧ hs.1 17 D 0 ≤ 34000) (hw : zHw s hs) (he : hs.1 17 = s.1 17) : KI LL xs o p sl 1 (s.1 12 0 0) hs Mc Mr ∧ (Mc.1 88 3 = iI (-2) ∧ Mr.1 160 90 = iI (-1)) := by
  have q1 : q.1 = sl := by rw [hq]
  have q2 : q.2.1 = -1 := by rw [hq]
  have q3 : q.2.2.1 = 0 := by rw [hq]
  have q4 : q.2.2.2.1 = 0 := by rw [hq]
  have q5 : q.2.2.2.2 = 1 := by rw [hq]
  obtain ⟨⟨z1, z2⟩, ⟨⟨w1, ⟨w2, w3, w4, w5⟩, w6, w7⟩, z4⟩, -, ⟨z6, z7⟩, ⟨z8, z9, z10, z11, z12, z13⟩, z14⟩ := id h
  have hd' := h.hd
  have e10 : Mc.1 88 10 = iI (s.1 12 0 0) := by
    have := h.2.2.1.1.2.1
    rw [this]
    unfold zcw
    rw [if_neg (by rw [z8.2]; decide), if_pos h12.1]
  refine ⟨⟨⟨z1, z2⟩, fun al' => ⟨w1, ⟨?_, sI_eq, ?_, ?_⟩, w6, fun z => absurd z v1F⟩, ⟨?_, ?_, ?_, ?_⟩, z6, ⟨e10, h.2.2.1.2.2.2.1, h84, h12⟩, hd'.1.cg hw he, hd'.2.cg hw he, h17⟩, ?_, ?_⟩
  · rw [← q1]; exact (sI_nej (by decide)).trans w2
  · rw [q3, q4] at w4; exact (sI_nej (by decide)).trans w4
  · rw [q5] at w5; exact w5
  · rw [z7, q1]
  · rw [z4.2.1.2.1, q3]
  · rw [z4.2.1.2.2.1, q4]
  · rw [z4.2.1.2.2.2, q5]
  · rw [q2] at w3; exact w3
  · rw [z4.2.1.1, q2]
theorem RB.kl (hq : q = (sl, -1, 0, 0, 1)) (h : RB LL xs o (v1p p) q Mc Mr) (h10 : Mc.1 88 10 = iI (-1)) (h84 : Mr.1 160 84 = iI 1) (hc : hdC u Mc) (hr : hdR u Mr) (h17 : ∀ D, 0 ≤ u.1 17 D 0 ∧ u.1 17 D 0 ≤ 34000) : KSx LL xs o p sl 1 Mc Mr := by
  have q1 : q.1 = sl := by rw [hq]
  have q2 : q.2.1 = -1 := by rw [hq]
  have q3 : q.2.2.1 = 0 := by rw [hq]
  have q4 : q.2.2.2.1 = 0 := by rw [hq]
  have q5 : q.2.2.2.2 = 1 := by rw [hq]
  obtain ⟨⟨z1, z2⟩, ⟨z3, z4⟩, z6, z7⟩ := h
  refine ⟨⟨⟨z1, z2⟩, ⟨?_, ?_, ?_, ?_⟩, z6, ⟨h10, h84⟩, u, hc, hr, h17⟩, ?_⟩
  · rw [z7, q1]
  · rw [z4.2.1.2.1, q3]
  · rw [z4.2.1.2.2.1, q4]
  · rw [z4.2.1.2.2.2, q5]
  · rw [z4.2.1.1, q2]
theorem some_n {x : XA} {A B : Mem} (h : x = some (.null, A)) (g : x = some (.null, B)) : B = A := by
  rw [h] at g
  injection g with g
  injection g with _ g
  exact g.symm
theorem luck_row (hdl : 13 ≤ dl) (hd : 64 ≤ d) (hP : hoP o) (hp : 0 ≤ p ∧ p < oN o) (hsl : 1 ≤ sl ∧ sl ≤ 1000) (hc : 0 ≤ c ∧ c < (gR (oP o p)).1 3 0 0) (h : KI LL xs o p sl 1 b hs Mc Mr) (h3 : Mc.1 88 3 = iI (-2)) (h90 : Mr.1 160 90 = iI (-1)) (h6 : Mc.1 143 6 = iI 0) (ht : 0 ≤ t ∧ t ≤ 1000) (hA : lkC t D N Mc) (hB : lkR t D N Mr) (hq : q = (sl, -1, 0, 0, 1)) (hpv : lkP (rE o (v1p p) (pf q 0 34000)) (rE o (v1p p) (pf q 0 0)) (kK (oP o p) c) (kF (oP o p) c) (Mc.1 88 2) hs t D) : ∃ Mg Mc' Rg Mr', runX dl 23 [va_rf (some 88)] Mc = some (.null, Mg) ∧ CT Mg ∧ runX dl 25 [va_rf (some 88), va_rf (some (hEC (gH (oP o p)) 3 c))] Mg = some (.null, Mc') ∧ runX d 235 [va_rf (some 160), .int (iI p), .int ((-1 : Int32))] Mr = some (.null, Rg) ∧ RT Rg ∧ runX d 254 [va_rf (some 160), .int (iI c)] Rg = some (.null, Mr') ∧ Fz (ZM o 0 0) Mc Mc' ∧ Fz (ZR 0 0) Mr Mr' ∧ ((∃ (T : Int) (D' N' : Int → Int32) (V b' : Int), KI LL xs o p sl 1 b' hs Mc' Mr' ∧ Mc'.1 88 3 = iI (-2) ∧ Mr'.1 160 90 = iI (-1) ∧ (t ≤ T ∧ T ≤ 1000) ∧ lkC T D' N' Mc' ∧ lkR T D' N' Mr' ∧ (∀ z : Int, 0 ≤ z → (z < t → D' z = D z ∧ N' z = N z) ∧ (t ≤ z → z < T → D' z = 0 ∧ (1 : Int32) ≤ N' z)) ∧ (1 ≤ V ∧ V ≤ 5) ∧ Mc'.1 89 0 = iI V ∧ Mr'.1 160 101 = iI V ∧ Mr'.1 160 82 = iI T ∧ Mr'.1 160 84 = iI 0 ∧ ∀ (t2 : Int) (D2 : Int → Int32), 0 ≤ t2 → t2 ≤ T → (∀ i : Int, 0 ≤ i → i < t2 - 1 → D' i = D2 i) → lkP (rE o (v1p p) (pf q 0 34000)) (rE o (v1p p) (pf q 0 0)) (kK (oP o p) c) (kF (oP o p) c) (Mc.1 88 2) hs t2 D2) ∨ (KSx LL xs o p sl 1 Mc' Mr' ∧ ∃ T : Nat, T ≤ 1000 ∧ Mr'.1 160 98 = iI (T : Int))) := by
  have lo := pk_lo hP hp
  have p8 := hP.1
  have q1 : q.1 = sl := by rw [hq]
  have q2 : q.2.1 = -1 := by rw [hq]
  have q3 : q.2.2.1 = 0 := by rw [hq]
  have q4 : q.2.2.2.1 = 0 := by rw [hq]
  have q5 : q.2.2.2.2 = 1 := by rw [hq]
  have hqk : qOK o (v1p p) q := ⟨by omega, Or.inl q2, Or.inl q3, Or.inl q4, Or.inr q5⟩
  have hu : rPu o (v1p p) q := rPu.one hP hp hqk
  obtain ⟨Mg, Rg, g1, g2, g3, g4, g5, g6, g7⟩ := h.beg (dl := dl) (d := d) (w := iI p) (al := -1) (q := q) (Mc' := Mc) (Mr' := Mr) (by omega) (by omega) hP hp hsl hq hqk (by rw [if_pos (by decide)]; exact (sI_id h3).symm) (sI_id h90).symm rfl t ht (hsX hs D N) ⟨rfl, fun k z => by rcases z with z | z <;> rw [z] <;> rfl⟩ (fun _ => ⟨hA, hB⟩)
  obtain ⟨s, hs'⟩ : ∃ s, s = zst (rE o (v1p p) (pf q 0 0)) b t (hsX hs D N) := ⟨_, rfl⟩
  rw [← hs'] at g7
  have h12 : s.1 12 0 0 = b := by rw [hs']; rfl
  have h14 : s.1 14 0 0 = t := by rw [hs']; rfl
  have h17 : s.1 17 = hs.1 17 := by rw [hs']; rfl
  have hwi : zHw s hs := ⟨by rw [hs']; rfl, by rw [hs']; rfl⟩
  have b0 := h.2.2.2.2.1.2.2.2
  have hC := h.1.1.1.1
  have hR := h.1.2.1.1
  have cG : CT Mg := hC.keep g3
  have rG : RT Rg := hR.keep g5
  have fz : Fz (ZM o 0 0) Mc Mg := ⟨g3, fun a j z => g4 a j fun y => z (by unfold ZM; omega)⟩
  have gz : Fz (ZR 0 0) Mr Rg := ⟨g5, fun a j z => g6 a j fun y => z (Zma_R y)⟩
  have g84 : Rg.1 160 84 = iI 0 := (g6 _ _ (by unfold Zma; omega)).trans h.2.2.2.2.1.2.2.1
  have m6 : Mg.1 143 6 = iI 0 := (g4 _ _ (by decide)).trans h6
  have esd : Mg.1 88 2 = Mc.1 88 2 := g4 _ _ (by decide)
  obtain ⟨Mc2, Mr2, x1, x2, x3, x4, x5, x6, x7, x8⟩ := g7.life (dl := dl) (d := d) (c := c) (i := 0) (w := iI c) (Mc' := Mg) (Mr' := Rg) (by omega) (by omega) hu (by omega) (by omega) (Or.inr ⟨rfl, q3⟩) (Or.inr ⟨rfl, q3⟩) (fun _ => ⟨m6, by omega⟩) hc rfl
  obtain ⟨Mc3, Mr3, y1, y2, y3, y4, y5, y6⟩ := g7.turn (dl := dl) (d := d) (c := c) (i := 0) (w := iI c) (Mc' := Mg) (Mr' := Rg) (by omega) (by omega) hu (by omega) (by omega) (Or.inr ⟨rfl, q3⟩) (Or.inr ⟨rfl, q3⟩) (fun _ => ⟨m6, by omega⟩) hc rfl
  have e3 := some_n x1 y1
  have e4 := some_n x2 y2
  subst e3; subst e4
  have f15 : Fz (ZM o 0 0) Mg Mc3 := (by rw [← q3]; exact x3.zm : Fz (ZM o p 0) _ _).m fun _ _ z => ZM_0 z
  have g15 : Fz (ZR 0 0) Rg Mr3 := (x4.zr (p := p) (k := 0) rfl q3).m fun _ _ z => ZR_0 z
  have el : (rE o (v1p p) (pf q 0 34000)).1 10 2 0 = 1 := q5
  have nh : (rE o (v1p p) (pf q 0 34000)).1 10 1 0 ≠ 1 := by
    show ¬ q.2.2.2.1 = 1
    omega
  refine ⟨Mg, Mc3, Rg, Mr3, g1, cG, x1, g2, rG, x2, fz.tr f15, gz.tr g15, ?_⟩
  rcases y6 with ⟨s2, V, Fa, Wh, -, w2, w3, w4, w5, w6, w7, w8, w9⟩ | ⟨r0, r1, r2, u, ⟨r3, r4⟩, r5⟩
  · refine Or.inl ?_
    have RIn := w2 q4 (by omega)
    obtain ⟨n1, n2, n3, n4, n5, n6, n7, n8, n9⟩ := id w7
    have z17 : s2.1 17 = s.1 17 := n4 nh
    have zr17 : (rE o (v1p p) (pf q 0 34000)).1 10 1 0 ≠ 1 := nh
    have hw2 : zHw s s2 := by
      rcases w8 with ⟨-, z⟩ | ⟨-, z, -⟩
      · have z1 := z.fx.2.2.2.2.2.2 nh
        exact ⟨z1.1.trans (zrs_w (by decide)), z1.2.trans (zrs_w (by decide))⟩
      · rw [z]; exact ⟨zrs_w (by decide), zrs_w (by decide)⟩
    have hwh : zHw s2 hs := ⟨hwi.1.trans hw2.1.symm, hwi.2.trans hw2.2.symm⟩
    have pd : zPd s2 := by
      rcases w8 with ⟨z0, z⟩ | ⟨z0, z, -⟩
      · rw [esd, hs'] at z
        exact hpv.pd el ht.1 z
      · rcases hpv with hz | ⟨hz, -⟩
        · show s2.1 11 0 0 = s2.1 14 0 0
          rw [z]
          show 0 = s.1 14 0 0
          omega
        · exfalso
          have z0' : kK (oP o p) c 5 = 1 := z0
          omega
    have dn : zDn s s2 := by
      rcases w8 with ⟨-, z⟩ | ⟨-, z, -⟩
      · exact zDn.tr (t := zrs (rE o (v1p p) (pf q 0 34000)) s (Mg.1 88 2)) (zDn.eq ⟨rfl, rfl, rfl⟩) z.dn
      · rw [z]; exact zDn.eq ⟨rfl, rfl, rfl⟩
    have d9 : s.2 9 = fun i _ => D i := by rw [hs']; rfl
    have d10 : s.2 10 = fun i _ => N i := by rw [hs']; rfl
    obtain ⟨k1, k2, k3⟩ := RIn.kl (hs := hs) hq ⟨n7 (by omega), by omega⟩ (w4.trans g84) h.2.2.2.2.2.2.2 hwh (by rw [z17, h17])
    have cl := RIn.2.2.1.1.2.2.2.2 el
    have rl := RIn.2.2.1.2.2.2.2.2.2 el
    refine ⟨s2.1 14 0 0, fun z => s2.2 9 z 0, fun z => s2.2 10 z 0, V, _, k1, k2, k3, ⟨by omega, by omega⟩, cl, rl, fun z a => ⟨fun b => ?_, fun b c => ?_⟩, w3.2.2, w3.1.1, w3.2.1.1, w6.2.trans (congrArg iI pd), w4.trans g84, fun t2 D2 a1 a2 a3 => ?_⟩
    · obtain ⟨y1, y2⟩ := (dn.2 z a).1 (by omega)
      rw [d9] at y1
      rw [d10] at y2
      exact ⟨y1, y2⟩
    · exact (dn.2 z a).2 (by omega) c
    · rcases w8 with ⟨z0, z⟩ | ⟨z0, z, -⟩
      · rw [esd, hs'] at z
        exact Or.inr ⟨z0, b, t, D, N, V, Fa, Wh, s2, z, ht.1, pd, a2, a3⟩
      · refine Or.inl ?_
        have pd' : s2.1 11 0 0 = s2.1 14 0 0 := pd
        have z11 : s2.1 11 0 0 = 0 := by rw [z]; rfl
        omega
  · refine Or.inr ⟨RB.kl (u := u) hq ⟨x5, x6, x7⟩ r1 r2 r3 r4 fun D => by rw [r5 q4, h17]; exact h.2.2.2.2.2.2.2 D, ?_⟩
    rcases x8 with ⟨s', V, Fa, Wh, z1, -, -, z4, -⟩ | ⟨-, z⟩
    · exfalso
      rw [r2, g84] at z4
      exact absurd z4 (by decide)
    · obtain ⟨-, -, -, -, -, -, -, -, -, u', f, iv, -, rh, -⟩ := z
      have r14 := (rh.2.2.2.2.2 el).1
      have l14 : s.1 14 0 0 ≤ u'.1 14 0 0 := f.2.2.2.2.1
      have u14 : u'.1 14 0 0 ≤ 1000 := iv.2.2.1
      exact ⟨(u'.1 14 0 0).toNat, by omega, by rw [r14]; congr 1; omega⟩
/-- what luck() writes by itself -/
theorem Zlc_ho (hP : hoP o) (h : Zlc a j) : hoZ o a j := by
  unfold Zlc at h
  refine ⟨by omega, fun q hq => ?_, fun p x y u z => ?_, fun x y => by omega⟩
  · have g : ∀ q, q ∈ CFd → q.1 ≠ 144 ∧ q.1 ≠ 145 ∧ (q.1 = 143 → q.2.1 = 3 ∨ q.2.1 = 4) := by decide
    have := g _ hq
    dsimp only at this
    omega
  · have := (hP.2.2.1 p x y).2.2
    omega
theorem Zlq_hr (h : Zlq a j) : hrZ a j := by
  unfold Zlq at h
  refine ⟨fun x q hq => ?_, by omega, by omega, by omega⟩
  have g : ∀ q, q ∈ RFd → q.1 ≠ 98 := by decide
  have := g _ hq
  dsimp only at this
  omega
theorem KI.lk (hP : hoP o) (h : KI LL xs o p sl lu b hs Mc Mr) (f : FG Zlc Mc Mc') (f2 : Mc'.2.2 = Mc.2.2) (g : Fz Zlq Mr Mr') : KI LL xs o p sl lu b hs Mc' Mr' := by
  obtain ⟨⟨h1, h2⟩, h3, ⟨h4, h5, h6, h7⟩, h8, ⟨h9, h10, h11, h12⟩, h13, h14, h15⟩ := h
  have fc : ∀ a j, a < 143 → Mc'.1 a j = Mc.1 a j := fun a j z => nm h1 f (by omega) (by unfold Zlc; omega)
  have gr : ∀ a j, ¬ Zlq a j → Mr'.1 a j = Mr.1 a j := g.2
  refine ⟨⟨h1.fg hP f fun a j z => Zlc_ho hP z, h2.fg (g.fg h2.1.2) fun a j z => Zlq_hr z⟩, fun al => ?_, ⟨(gr _ _ (by unfold Zlq; omega)).trans h4, (gr _ _ (by unfold Zlq; omega)).trans h5, (gr _ _ (by unfold Zlq; omega)).trans h6, (gr _ _ (by unfold Zlq; omega)).trans h7⟩, ((fc _ _ (by decide)).trans h8).trans (gr _ _ (by unfold Zlq; omega)).symm, ⟨(fc _ _ (by decide)).trans h9, (gr _ _ (by unfold Zlq; omega)).trans h10, (gr _ _ (by unfold Zlq; omega)).trans h11, h12⟩, h13.fz fun a j z => fc a j (by omega), h14.fz fun a j z => gr a j (by unfold Zlq; omega), h15⟩
  obtain ⟨w1, ⟨w2, w3, w4, w5⟩, w6, w7⟩ := h3 al
  have e2 : Mc'.2.2.1 = Mc.2.2.1 := congrArg (fun z => z.1) f2
  have n88 : ∀ j, j ≠ 3 → (sI Mc' 88 3 (iI (if al < 0 then -2 else al))).1 88 j = (sI Mc 88 3 (iI (if al < 0 then -2 else al))).1 88 j := fun j z => (sI_nej z).trans ((fc _ _ (by decide)).trans (sI_nej z).symm)
  have ep : ∀ a j, (sI Mc' 88 3 (iI (if al < 0 then -2 else al))).2.2.1 a j = (sI Mc 88 3 (iI (if al < 0 then -2 else al))).2.2.1 a j := fun a j => congrFun (congrFun e2 a) j
  exact ⟨⟨(ep _ _).trans w1.1, fun z => absurd z v1F, fun z => (ep _ _).trans (w1.2.2 z)⟩, ⟨(n88 _ (by decide)).trans w2, sI_eq, (n88 _ (by decide)).trans w4, (ep _ _).trans w5⟩, (ep _ _).trans w6, fun z => absurd z v1F⟩
theorem KS.lk (hP : hoP o) (h : KS LL xs o p sl lu Mc Mr) (g : Fz (fun a j => Zlq a j ∨ (a = 160 ∧ j = 84)) Mr Mr') (h84 : Mr'.1 160 84 = iI 1) : KS LL xs o p sl lu Mc Mr' := by
  obtain ⟨⟨h1, h2⟩, ⟨h4, h5, h6, h7⟩, h8, ⟨h9, h10⟩, hu, h13, h14, h15⟩ := h
  have gr : ∀ a j, ¬ (Zlq a j ∨ (a = 160 ∧ j = 84)) → Mr'.1 a j = Mr.1 a j := g.2
  refine ⟨⟨h1, h2.fg (g.fg h2.1.2) fun a j z => ?_⟩, ⟨(gr _ _ (by unfold Zlq; omega)).trans h4, (gr _ _ (by unfold Zlq; omega)).trans h5, (gr _ _ (by unfold Zlq; omega)).trans h6, (gr _ _ (by unfold Zlq; omega)).trans h7⟩, h8.trans (gr _ _ (by unfold Zlq; omega)).symm, ⟨h9, h84⟩, hu, h13, h14.fz fun a j z => gr a j (by unfold Zlq; omega), h15⟩
  rcases z with z | z
  · exact Zlq_hr z
  · exact ZR_hr (p := 0) (k := 0) (Or.inl ⟨z.1, by omega⟩)
end S9dz
