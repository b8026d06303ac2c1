/-! members: tests, the first object's side -/
def tK (kd : Int → Int) (K : Int) (t : TS) : TS := if t.2.1 = 0 ∧ kd t.1 = K then (t.1 + 1, 0, 0) else t
/-- one number of with more: the n-th, of c CASES -/
def wS (kd pl : Int → Int) (n c : Int) (t : TS) : TS := if (kd (t.1 + 1) = 45 ∨ kd (t.1 + 1) = 4) ∧ (4 ≤ n ∨ 16 ≤ c) then (t.1 + 1, 6, pl (t.1 + 1)) else (t.1 + 1, 0, 0)
def wQ (kd pl : Int → Int) (c0 : Int) (t : TS) : Nat → TS
  | 0 => tS kd pl t
  | k + 1 => tS kd pl (wS kd pl (k + 1) (c0 + k + 1) (wQ kd pl c0 t k))
def wV (kd pl : Int → Int) (tx : Int → Int64) (c0 : Int) (t : TS) : Nat → Int
  | 0 => vSg kd tx t
  | k + 1 => vSg kd tx (wS kd pl (k + 1) (c0 + k + 1) (wQ kd pl c0 t k))
/-- where the numbers of with end -/
def wE (kd pl : Int → Int) (c0 : Int) (t : TS) (k : Nat) : Prop := (∀ j, j < k → (wQ kd pl c0 t j).2.1 = 0 ∧ kd (wQ kd pl c0 t j).1 = 44) ∧ ((wQ kd pl c0 t k).2.1 ≠ 0 ∨ kd (wQ kd pl c0 t k).1 ≠ 44)
/-- CASES from c0 on: k + 1 of them, of unit u, raises r, skip y, the NAME X -/
def WR2 (H H' : HG) (c0 : Int) (k : Nat) (u r y : Int) (X : Int64) : Prop := (hEN H' 3 = c0 + k + 1 ∧ hEN H' 1 = hEN H 1 ∧ hEN H' 2 = hEN H 2 ∧ hEN H' 4 = hEN H 4) ∧ (∀ k' f j, 1 ≤ k' → k' ≤ 4 → ¬ (k' = 3 ∧ c0 ≤ j) → hEF H' k' f j = hEF H k' f j) ∧ (∀ k' j, 1 ≤ k' → k' ≤ 4 → ¬ (k' = 3 ∧ c0 ≤ j) → hEX H' k' j = hEX H k' j) ∧ (∀ s j i, hAV H' s j i = hAV H s j i) ∧ (∀ j, 1 ≤ j → j ≤ 4 → hCL H' j = hCL H j) ∧ ∀ j : Int, c0 ≤ j → j ≤ c0 + k → hEX H' 3 j = X ∧ hEF H' 3 1 j = u ∧ hEF H' 3 6 j = r ∧ hEF H' 3 7 j = y
section S56d
variable {d : Nat} {T : Int → Int} {n m b a e s uc i f K c lo ki r v j c0 u y : Int} {kd pl E : Int → Int} {tx : Int → Int64} {N TT ex : Nat} {M0 M1 M M2 : Mem} {H H' H2 : HG} {t t2 : TS} {v0 v1 v2 : Int32} {L : Int → Int64} {k : Nat} {W : List (Nat × Nat)} {X : Int64}
theorem wE.one {k2 : Nat} (h : wE kd pl c0 t k) (g : wE kd pl c0 t k2) : k = k2 := by
  rcases Nat.lt_trichotomy k k2 with z | z | z
  · exact absurd (g.1 k z) (fun w => h.2.elim (fun q => q w.1) (fun q => q w.2))
  · exact z
  · exact absurd (h.1 k2 z) (fun w => g.2.elim (fun q => q w.1) (fun q => q w.2))
theorem tK_s (h : (tK kd K t).2.1 = 0) : t.2.1 = 0 := by
  by_cases c : t.2.1 = 0
  · exact c
  · rw [show tK kd K t = t from if_neg fun z => c z.1] at h; exact h
theorem WR2.st5 {f : Nat} (h : WR2 H H' c0 k u r y X) (hf : f = 4 ∨ f = 5) (hj : c0 ≤ j) : WR2 H (sF H' 3 f j v) c0 k u r y X := by
  obtain ⟨h1, h2, h3, h4, h5, h6⟩ := h
  refine ⟨h1, fun k' f' j' a b q => ?_, h3, h4, h5, fun j' a b => ?_⟩
  · exact (if_neg fun z => q ⟨z.1, by omega⟩).trans (h2 k' f' j' a b q)
  · obtain ⟨q1, q2, q3, q4⟩ := h6 j' a b
    exact ⟨q1, (if_neg fun z => by omega).trans q2, (if_neg fun z => by omega).trans q3, (if_neg fun z => by omega).trans q4⟩
theorem WR2.add {ow : Nat → Int} {x : Nat} {F : Nat → Int} (h : WR2 H H' c0 k u r y X) (h1 : F 1 = u) (h6 : F 6 = r) (h7 : F 7 = y) : WR2 H (aP H' ow 3 x F X) c0 (k + 1) u r y X := by
  obtain ⟨⟨a1, a2, a3, a4⟩, b2, b3, b4, b5, b6⟩ := h
  have ne : ∀ k', k' ≠ 3 → hEN (aP H' ow 3 x F X) k' = hEN H' k' := fun k' z => if_neg z
  refine ⟨⟨by rw [aP_n, a1]; omega, by rw [ne 1 (by omega)]; exact a2, by rw [ne 2 (by omega)]; exact a3, by rw [ne 4 (by omega)]; exact a4⟩, fun k' f' j' a b q => ?_, fun k' j' a b q => ?_, b4, b5, fun j' a b => ?_⟩
  · exact (if_neg fun z => q ⟨z.1, by omega⟩).trans (b2 k' f' j' a b q)
  · exact (if_neg fun z => q ⟨z.1, by omega⟩).trans (b3 k' j' a b q)
  · by_cases z : j' = hEN H' 3
    · exact ⟨if_pos ⟨rfl, z⟩, (if_pos ⟨rfl, z⟩ : hEF (aP H' ow 3 x F X) 3 1 j' = F 1).trans h1, (if_pos ⟨rfl, z⟩ : hEF (aP H' ow 3 x F X) 3 6 j' = F 6).trans h6, (if_pos ⟨rfl, z⟩ : hEF (aP H' ow 3 x F X) 3 7 j' = F 7).trans h7⟩
    · obtain ⟨q1, q2, q3, q4⟩ := b6 j' a (by omega)
      exact ⟨(if_neg fun w => z w.2).trans q1, (if_neg fun w => z w.2).trans q2, (if_neg fun w => z w.2).trans q3, (if_neg fun w => z w.2).trans q4⟩
/-- with: its numbers, a CASE each -/
theorem mc85 {x : Nat} (hd : 10 ≤ d) (hS : TkS T n m kd pl E tx) (h : CQ m kd pl tx N TT ex M0 M1 e s uc M H t) (hB : CB m e s uc) (hw : WR2 H2 H c0 0 u r y X) (hx : hEC H 3 c0 = x) (hc0 : 0 ≤ c0 ∧ c0 ≤ 16) (hy : 0 ≤ y ∧ y ≤ 1) : Rt (runX d 85 [va_rf (some 65), va_rf (some x)] M) (fun _ M2 => ∃ (k : Nat) (H' : HG), wE kd pl c0 t k ∧ k ≤ 20 ∧ CQ m kd pl tx N TT ex M0 M1 e s uc M2 H' (wQ kd pl c0 t k) ∧ WR2 H2 H' c0 k u r y X ∧ ((wQ kd pl c0 t k).2.1 = 0 → ∀ j : Nat, j ≤ k → hEF H' 3 4 (c0 + j) = wV kd pl tx c0 t j)) := by
  obtain ⟨d, rfl⟩ : ∃ e, d = e + 1 := ⟨d - 1, by omega⟩
  rw [r85]; unfold b85; rw [aR_e, aR_e, aZ_e]; unfold c85
  refine rs1 (vC_e (ck_65 h.1.1)) ?_
  refine Rc_I (cq68 (by omega) hS h.1.1 h.1.2 h.2.2.2.2 hB) fun v M3 ⟨z, hz, hzv, p3⟩ => ?_
  subst hz
  have g3 := h.cp p3 tS_s
  refine rs1 (cI_e rfl) ?_
  have j3 : 0 ≤ c0 ∧ c0 < hEN H 3 := by have := hw.1.1; omega
  obtain ⟨kx, g4⟩ := g3.set (k := 3) (f := 4) (z := z) (by omega) (by omega) (by omega) j3 hx
  refine rs1 (ptI_q (z := z) kx rfl) ?_
  have w4 : WR2 H2 (sF H 3 4 c0 z) c0 0 u r y X := hw.st5 (Or.inl rfl) (Int.le_refl _)
  refine rs1 (jn_v) ?_
  refine Rt.lp (fun mm q => ∃ (k : Nat) (H' : HG), q.1 = iI (k + 1) ∧ CQ m kd pl tx N TT ex M0 M1 e s uc q.2 H' (wQ kd pl c0 t k) ∧ WR2 H2 H' c0 k u r y X ∧ hEC H' 3 c0 = x ∧ (∀ j, j < k → (wQ kd pl c0 t j).2.1 = 0 ∧ kd (wQ kd pl c0 t j).1 = 44) ∧ ((wQ kd pl c0 t k).2.1 = 0 → ∀ j : Nat, j ≤ k → hEF H' 3 4 (c0 + j) = wV kd pl tx c0 t j) ∧ (k ≤ 3 ∨ k = 4 ∧ (wQ kd pl c0 t k).2.1 ≠ 0) ∧ mm + k = 5) (fun mm q go hq hgo => ?_) 5 _ _ (by omega) ⟨0, _, li_1, g4, w4, hx, fun j z => absurd z (by omega), fun z0 j zj => by
      have : j = 0 := by omega
      subst this
      show (if 3 = 3 ∧ 4 = 4 ∧ c0 + ((0 : Nat) : Int) = c0 then z else _) = _
      rw [if_pos ⟨rfl, rfl, by omega⟩]
      exact hzv z0, Or.inl (by omega), rfl⟩
  obtain ⟨q1, M5⟩ := q
  obtain ⟨k, H', hq1, g, gw, gx, gj, gv, gk, gm⟩ := hq
  dsimp only at hq1 g
  unfold c85_10
  dsimp only
  obtain ⟨s5, e5, k5, m16, m9, m13, mb1, mb2, mok, mft⟩ := g.2.2.2.2.nm hB
  refine rs1 (if_neg (leI_n li_3000 hq1 (by omega))) ?_
  refine rs1 (gtI_q (ck_65 g.1.1) m13) ?_
  by_cases c : (wQ kd pl c0 t k).2.1 = 0 ∧ kd (wQ kd pl c0 t k).1 = 44
  · obtain ⟨t', ht'⟩ : ∃ z, z = wQ kd pl c0 t k := ⟨_, rfl⟩
    rw [← ht'] at g c gk mok mft gv
    obtain ⟨hc, hi⟩ := g.sc c.1
    have hk3 : k ≤ 3 := gk.elim id fun z => absurd c.1 z.2
    have hm := hS.more t'.1 (by omega) (by omega) (by omega)
    refine rs1 (if_pos (eqI_p rfl li_44 (by rw [(mok c.1).2.2]; exact c.2))) ?_
    refine rs1 (vC_e (ck_65 g.1.1)) ?_
    refine Rc_V (cq63 (by omega) hS g.1.1 g.1.2 g.2.2.2.2 (fun _ => hm)) fun v M6 p6 => ?_
    have g6 := g.cp p6 tA_s
    rw [show tA t' = (t'.1 + 1, 0, 0) from if_pos c.1] at g6
    obtain ⟨hc6, hi6⟩ := g6.sc rfl
    have hk6 := (hS.ok (t'.1 + 1) (by omega) hm).r
    refine rs1 (cV_e rfl) ?_
    refine rs1 (gtI_q (ck_65 g6.1.1) hc6.2.1) ?_
    obtain ⟨t7, ht7⟩ : ∃ z, z = wS kd pl (k + 1) (c0 + k + 1) t' := ⟨_, rfl⟩
    have t7s : t7.2.1 = 0 → ((t'.1 + 1, 0, 0) : TS).2.1 = 0 := fun _ => rfl
    -- behind a FAULT, if there is one
    refine Rt.jn (fun q => CQ m kd pl tx N TT ex M0 M1 e s uc q H' t7) (fun q hq => ?_) (fun j hj => ?_)
    · refine rs1 (nO_e) ?_
      obtain ⟨g8, p8⟩ := hq.al (k := 3) (by omega) (by omega)
      obtain ⟨o, ho⟩ : ∃ z, z = owx (hOw H') (ln q) (1000 * (3 : Nat) + hEN H' 3) := ⟨_, rfl⟩
      rw [← ho] at g8 p8
      obtain ⟨M8, hM8⟩ : ∃ z, z = nw q 8 9 := ⟨_, rfl⟩
      rw [← hM8] at g8 p8
      show Rt (gtL (8, 9) (nw q 8 9) (some x) 0 _) _
      rw [← hM8]
      have hx8 := g8.2.2.2.1.2.2.1 3 (by omega) (by omega) c0 hc0.1 (by show c0 < hEN H' 3; rw [gw.1.1]; omega)
      have ex8 : hEC (wOw H' o) 3 c0 = x := gx
      unfold PtK at hx8
      rw [ex8] at hx8
      obtain ⟨⟨kx8, -, -⟩, nx8, lx8⟩ := hx8
      obtain ⟨w1, w2, w3, w4⟩ := gw.2.2.2.2.2 c0 (Int.le_refl _) (by omega)
      have e0 : hEX (wOw H' o) 3 c0 = X := w1
      have e1 : hEF (wOw H' o) 3 1 c0 = u := w2
      have e6 : hEF (wOw H' o) 3 6 c0 = r := w3
      have e7 : hEF (wOw H' o) 3 7 c0 = y := w4
      have n1 := nx8 1 (by omega) (by omega)
      have n6 := nx8 6 (by omega) (by omega)
      have n7 := nx8 7 (by omega) (by omega)
      rw [e1] at n1
      rw [e6] at n6
      rw [e7] at n7
      rw [e0] at lx8
      refine rs1 (gtL_q kx8 lx8) ?_
      refine rs1 (gtI_q kx8 n1) ?_
      refine rs1 (vC_e p8.1.1) ?_
      obtain ⟨M9, e9, p9, f9⟩ := p8.ctor (d := d) (Y := X) (u := u) (b := 5) (by omega) rfl li_5
      refine rs1 (cV_e e9) ?_
      have g9 := g8.pe p8 (by omega) (by omega) f9
      have nx : x ≠ ln q := fun w => by
        have a1 := p8.1.2.1
        have a2 := (g8.2.2.2.1.2.2.1 3 (by omega) (by omega) c0 hc0.1 (by show c0 < hEN H' 3; rw [gw.1.1]; omega)).1.2.1
        rw [ex8, w, a1] at a2
        have : c0 < hEN H' 3 := by rw [gw.1.1]; omega
        have a3 : hEN (wOw H' o) 3 = hEN H' 3 := rfl
        omega
      have lx := ln_lt kx8
      refine rs1 (gtI_q (f9.kd kx8) ((f9.i lx nx 7).trans n7)) ?_
      refine rs1 (ptZ_q (z := y) p9.1.1 rfl hy) ?_
      have p10 := p9.set (f := 7) (v := y) (by omega)
      have g10 := g9.pe (M2 := sI M9 (ln q) 7 (iI y)) p9 (by omega) (by omega) (Fo.sI rfl)
      refine rs1 (gtI_q (a := x) (f9.kd kx8) ((sI_ne nx).trans ((f9.i lx nx 6).trans n6))) ?_
      refine rs1 (ptI_q (z := r) p10.1.1 rfl) ?_
      have p11 := p10.set (f := 6) (v := r) (by omega)
      have g11 := g10.pe (M2 := sI (sI M9 (ln q) 7 (iI y)) (ln q) 6 (iI r)) p10 (by omega) (by omega) (Fo.sI rfl)
      refine rs1 (vC_e (ck_65 g11.1.1)) ?_
      refine Rc_I (cq68 (by omega) hS g11.1.1 g11.1.2 g11.2.2.2.2 hB) fun v M12 ⟨z12, hz12, hv12, q12⟩ => ?_
      subst hz12
      have g12 := g11.cp q12 tS_s
      have p12 := p11.fr q12.2.1 (by decide)
      refine rs1 (cI_e rfl) ?_
      refine rs1 (ptI_q (z := z12) p12.1.1 rfl) ?_
      have p13 := p12.set (f := 4) (v := z12) (by omega)
      have g13 := g12.pe (M2 := sI M12 (ln q) 4 (iI z12)) p12 (by omega) (by omega) (Fo.sI rfl)
      refine rs1 (gtP_q (ck_65 g13.1.1) (g13.2.2.2.1.1.2.2.1 3 (by omega) (by omega))) ?_
      refine rs1 (vC_e (g13.2.2.2.1.2.1 3 (by omega) (by omega)).1.2.1) ?_
      obtain ⟨M14, e14, q14, f14⟩ := g13.2.2.2.1.addp (W := []) (d := d) (by omega) p13 (by omega) (by omega) (by show hEN H' 3 < 100; rw [gw.1.1]; omega)
      refine rs1 (cI_e e14) ?_
      have g14 := g13.put ⟨q14, f14⟩
      refine rs1 (ltI_q (z := ((k + 1 : Nat) : Int) + 1) (cvI (adI hq1 li_1) (by omega))) ?_
      have eQ : wQ kd pl c0 t (k + 1) = tS kd pl t7 := by rw [ht7, ht']; rfl
      have eV : wV kd pl tx c0 t (k + 1) = vSg kd tx t7 := by rw [ht7, ht']; rfl
      refine hgo (4 - k) _ (by omega) ⟨k + 1, _, rfl, by rw [eQ]; exact g14, gw.add rfl rfl rfl, ?_, fun j zj => ?_, fun z0 j zj => ?_, ?_, by omega⟩
      · exact (if_neg fun w => by have h1 := w.2; have h2 := gw.1.1; have h3 : hEN (wOw H' o) 3 = hEN H' 3 := rfl; omega).trans gx
      · by_cases w : j = k
        · rw [w, ← ht']; exact c
        · exact gj j (by omega)
      · rw [eQ] at z0
        have a3 : hEN (wOw H' o) 3 = c0 + k + 1 := gw.1.1
        by_cases w : j = k + 1
        · rw [w, eV, ← hv12 z0]
          exact if_pos ⟨rfl, by have q2 := gw.1.1; show c0 + ((k + 1 : Nat) : Int) = hEN H' 3; omega⟩
        · exact (if_neg fun w2 => by have q1 : c0 + (j : Int) = hEN H' 3 := w2.2; have q2 := gw.1.1; omega).trans (gv c.1 j (by omega))
      · rw [eQ]
        by_cases w : k + 1 ≤ 3
        · exact Or.inl w
        · refine Or.inr ⟨by omega, fun z0 => ?_⟩
          have z7 := tS_0 z0
          obtain ⟨z70, i', -, -, -, z74⟩ := z7
          by_cases w2 : (kd (t'.1 + 1) = 45 ∨ kd (t'.1 + 1) = 4) ∧ (4 ≤ ((k : Int) + 1) ∨ 16 ≤ c0 + (k : Int) + 1)
          · rw [ht7, show wS kd pl (k + 1) (c0 + k + 1) t' = (t'.1 + 1, 6, pl (t'.1 + 1)) from if_pos w2] at z70
            exact absurd z70 (by dsimp only; omega)
          · rw [ht7, show wS kd pl (k + 1) (c0 + k + 1) t' = (t'.1 + 1, 0, 0) from if_neg w2] at z74
            dsimp only at z74
            exact w2 ⟨by omega, by omega⟩
    · -- the number of numbers
      have six : (kd (t'.1 + 1) = 45 ∨ kd (t'.1 + 1) = 4) → (4 ≤ ((k : Int) + 1) ∨ 16 ≤ c0 + (k : Int) + 1) → ∀ {w : Int32} {kk : Mem → XA} {Q : Value → Mem → Prop}, w = iI 6 → (∀ M3, CQ m kd pl tx N TT ex M0 M1 e s uc M3 H' t7 → Rt (kk M3) Q) → Rt (cV (runX d 62 [va_rf (some 65), .int w] M6) kk) Q := fun a b w kk Q hw zz => by
        refine Rc_V (cq62 (f := 6) (by omega) hS g6.1.1 g6.1.2 g6.2.2.2.2 hB hw (by omega)) fun v M7 p7 => ?_
        have g7 := g6.cp p7 tX_s
        rw [show tX kd pl 6 (t'.1 + 1, 0, 0) = t7 from by rw [ht7, show wS kd pl (k + 1) (c0 + k + 1) t' = (t'.1 + 1, 6, pl (t'.1 + 1)) from if_pos ⟨a, b⟩]; exact (if_pos rfl).trans (by rw [if_neg (by dsimp only; omega)])] at g7
        refine rs1 (cV_e rfl) ?_
        exact zz M7 g7
      have non : ¬ ((kd (t'.1 + 1) = 45 ∨ kd (t'.1 + 1) = 4) ∧ (4 ≤ ((k : Int) + 1) ∨ 16 ≤ c0 + (k : Int) + 1)) → CQ m kd pl tx N TT ex M0 M1 e s uc M6 H' t7 := fun a => by
        rw [ht7, show wS kd pl (k + 1) (c0 + k + 1) t' = (t'.1 + 1, 0, 0) from if_neg a]; exact g6
      have tail : (kd (t'.1 + 1) = 45 ∨ kd (t'.1 + 1) = 4) → Rt (jn (fun (s27 : Mem) => vC (7, 20) s27 (some 65) <| cV (runX d 62 [va_rf (some 65), .int ((6 : Int32))] s27) fun M28 => j M28) fun j64 => if ((4 : Int32)) ≤ q1 then (j64 M6) else (gtP (7, 20) M6 (some 65) 3 fun x29 => vC (0, 3) M6 x29 <| cI (runX d 346 [va_rf x29] M6) fun x31 M30 => if x31 < ((16 : Int32)) then (j M30) else (j64 M30))) (fun _ M2 => ∃ (k : Nat) (H' : HG), wE kd pl c0 t k ∧ k ≤ 20 ∧ CQ m kd pl tx N TT ex M0 M1 e s uc M2 H' (wQ kd pl c0 t k) ∧ WR2 H2 H' c0 k u r y X ∧ ((wQ kd pl c0 t k).2.1 = 0 → ∀ j : Nat, j ≤ k → hEF H' 3 4 (c0 + j) = wV kd pl tx c0 t j)) := fun a => by
        refine rs1 (jn_v) ?_
        by_cases c4 : 4 ≤ ((k : Int) + 1)
        · refine rs1 (if_pos (leI_p li_4 hq1 (by omega))) ?_
          refine rs1 (jv_e) ?_
          refine rs1 (vC_e (ck_65 g6.1.1)) ?_
          exact six a (Or.inl c4) li_6 fun M3 g => hj M3 g
        · refine rs1 (if_neg (leI_n li_4 hq1 (by omega))) ?_
          refine rs1 (gtP_q (ck_65 g6.1.1) (g6.2.2.2.1.1.2.2.1 3 (by omega) (by omega))) ?_
          refine rs1 (vC_e (g6.2.2.2.1.2.1 3 (by omega) (by omega)).1.2.1) ?_
          refine rs1 (cI_e (ls_size (by omega) (g6.2.2.2.1.2.1 3 (by omega) (by omega)))) ?_
          have a1 := gw.1.1
          by_cases c6 : hEN H' 3 < 16
          · refine rs1 (if_pos (lsI_p rfl li_16 (by omega))) ?_
            exact hj _ (non fun z => by have := z.2; omega)
          · refine rs1 (if_neg (lsI_n rfl li_16 (by omega))) ?_
            refine rs1 (jv_e) ?_
            refine rs1 (vC_e (ck_65 g6.1.1)) ?_
            exact six a (Or.inr (by omega)) li_6 fun M3 g => hj M3 g
      refine rs1 (jn_v) ?_
      by_cases c45 : kd (t'.1 + 1) = 45
      · refine rs1 (if_pos (eqI_p rfl li_45 c45)) ?_
        refine rs1 (jv_e) ?_
        exact tail (Or.inl c45)
      · refine rs1 (if_neg (eqI_n (x := kd (t'.1 + 1)) rfl li_45 (by omega))) ?_
        refine rs1 (gtI_q (ck_65 g6.1.1) hc6.2.1) ?_
        by_cases c44 : kd (t'.1 + 1) = 4
        · refine rs1 (if_pos (eqI_p rfl li_4 c44)) ?_
          refine rs1 (jv_e) ?_
          exact tail (Or.inr c44)
        · refine rs1 (if_neg (eqI_n (x := kd (t'.1 + 1)) rfl li_4 (by omega))) ?_
          exact hj _ (non fun z => by have := z.1; omega)
  · have nk : ¬ k5 = 44 ∧ -2147483648 ≤ k5 ∧ k5 ≤ 2147483647 := by
      by_cases z : (wQ kd pl c0 t k).2.1 = 0
      · obtain ⟨-, -, w⟩ := mok z
        obtain ⟨-, v1, v2⟩ := g.sc z
        have := (hS.ok (wQ kd pl c0 t k).1 v1 v2).r
        exact ⟨fun y => c ⟨z, by omega⟩, by omega, by omega⟩
      · have := mft (g.pos z)
        omega
    refine rs1 (if_neg (eqI_n rfl li_44 (by omega))) ?_
    refine rs1 (jv_e) ?_
    refine Rt.ok ⟨k, H', ⟨gj, ?_⟩, by omega, g, gw, gv⟩
    by_cases z : (wQ kd pl c0 t k).2.1 = 0
    · exact Or.inr fun w => c ⟨z, w⟩
    · exact Or.inl z
end S56d
