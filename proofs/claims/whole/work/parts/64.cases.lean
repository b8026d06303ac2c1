/-! CASES of the reference -/
def rC (R : RG) (x : Int64) (ut r y z : Int) : RG := rsF (rsF (rsF (rsF (rsX (rsF R 3 0 0 (R.1 3 0 0 + 1)) 3 (R.1 3 0 0) x) 3 1 (R.1 3 0 0) ut) 3 6 (R.1 3 0 0) r) 3 7 (R.1 3 0 0) y) 3 4 (R.1 3 0 0) z
/-- CASES from c0 on: k + 1 of them -/
def WRr (R R2 : RG) (c0 : Int) (k : Nat) (u r y : Int) (X : Int64) : Prop := R2.1 3 0 0 = c0 + k + 1 ∧ (∀ k' f j, ¬ (k' = 3 ∧ f = 0) → ¬ (k' = 3 ∧ c0 ≤ j) → R2.1 k' f j = R.1 k' f j) ∧ (∀ k' j, ¬ (k' = 3 ∧ c0 ≤ j) → R2.2 k' j = R.2 k' j) ∧ ∀ j : Int, c0 ≤ j → j ≤ c0 + k → R2.2 3 j = X ∧ R2.1 3 1 j = u ∧ R2.1 3 6 j = r ∧ R2.1 3 7 j = y
section S64
variable {d : Nat} {T : Int → Int} {n m b e s u dp i r y z v j p ut cnt c0 : Int} {kd pl E : Int → Int} {tx : Int → Int64} {M0 M1 M M2 : Mem} {R R2 R0 : RG} {t t4 : TS} {v1 w3 w4 w5 : Int32} {k : Nat} {X : Int64}
theorem WRr.base (hc : R.1 3 0 0 = c0) : WRr R (rC R X ut r y z) c0 0 ut r y X := by
  subst hc
  refine ⟨?_, fun k' f j q1 q2 => ?_, fun k' j q => rsX_n (by omega), fun j p q => ?_⟩
  · exact ((rsF_n (by omega)).trans ((rsF_n (by omega)).trans ((rsF_n (by omega)).trans ((rsF_n (by omega)).trans (rsF_p : (rsF R 3 0 0 (R.1 3 0 0 + 1)).1 3 0 0 = _))))).trans (by omega)
  · exact (rsF_n (by omega)).trans ((rsF_n (by omega)).trans ((rsF_n (by omega)).trans ((rsF_n (by omega)).trans (rsF_n (by omega)))))
  · have e : j = R.1 3 0 0 := by omega
    subst e
    exact ⟨rsX_p, (rsF_n (by omega)).trans ((rsF_n (by omega)).trans ((rsF_n (by omega)).trans rsF_p)), (rsF_n (by omega)).trans ((rsF_n (by omega)).trans rsF_p), (rsF_n (by omega)).trans rsF_p⟩
theorem WRr.add (h : WRr R R2 c0 k ut r y X) : WRr R (rC R2 X ut r y z) c0 (k + 1) ut r y X := by
  obtain ⟨h1, h2, h3, h4⟩ := h
  have b := WRr.base (R := R2) (c0 := c0 + k + 1) (X := X) (ut := ut) (r := r) (y := y) (z := z) h1
  obtain ⟨b1, b2, b3, b4⟩ := b
  refine ⟨by rw [b1]; omega, fun k' f j q1 q2 => (b2 k' f j q1 (by omega)).trans (h2 k' f j q1 q2), fun k' j q => (b3 k' j (by omega)).trans (h3 k' j q), fun j p q => ?_⟩
  by_cases w : j = c0 + k + 1
  · exact b4 j (by omega) (by omega)
  · obtain ⟨g1, g2, g3, g4⟩ := h4 j p (by omega)
    exact ⟨(b3 3 j (by omega)).trans g1, (b2 3 1 j (by omega) (by omega)).trans g2, (b2 3 6 j (by omega) (by omega)).trans g3, (b2 3 7 j (by omega) (by omega)).trans g4⟩
theorem WRr.s4 {f : Nat} (h : WRr R R2 c0 k ut r y X) (hf : f = 4 ∨ f = 5) (hj : c0 ≤ j) : WRr R (rsF R2 3 f j v) c0 k ut r y X := by
  obtain ⟨h1, h2, h3, h4⟩ := h
  refine ⟨(rsF_n (by omega)).trans h1, fun k' f' j' q1 q2 => (rsF_n (by omega)).trans (h2 k' f' j' q1 q2), h3, fun j' p q => ?_⟩
  obtain ⟨g1, g2, g3, g4⟩ := h4 j' p q
  exact ⟨g1, (rsF_n (by omega)).trans g2, (rsF_n (by omega)).trans g3, (rsF_n (by omega)).trans g4⟩
theorem rC_4 : (rC R X ut r y z).1 3 4 (R.1 3 0 0) = z := rsF_p
theorem rC_4n (h : j ≠ R.1 3 0 0) : (rC R X ut r y z).1 3 4 j = R.1 3 4 j := (rsF_n (by omega)).trans ((rsF_n (by omega)).trans ((rsF_n (by omega)).trans ((rsF_n (by omega)).trans (rsF_n (by omega) : (rsF R 3 0 0 (R.1 3 0 0 + 1)).1 3 4 j = _))))
theorem mr224 (hd : 1 ≤ d) (h : RQ T n b m kd pl E tx M0 M1 p ut cnt e s u dp M R t) (hv1 : v1 = iI p) (hp : 0 ≤ p ∧ p ≤ 7) (hc : 0 ≤ R.1 3 0 0 ∧ R.1 3 0 0 < 16) (hr : w3 = iI r) (hy : w4 = iI y) (hyb : 0 ≤ y ∧ y ≤ 1) (hz : w5 = iI z) : Rt (runX d 224 [va_rf (some 160), .int v1, .long X, .int w3, .int w4, .int w5] M) (fun _ M2 => RQ T n b m kd pl E tx M0 M1 p ut cnt e s u dp M2 (rC R X ut r y z) t) := by
  obtain ⟨d, rfl⟩ : ∃ e, d = e + 1 := ⟨d - 1, by omega⟩
  rw [r224]; unfold b224; rw [aR_e, aI_e, aL_e, aI_e, aI_e, aI_e, aZ_e]; unfold c224
  refine rs1 (gtP_q (w := some 176) (rk_160 h.1.1) (rf_17 h.1.1)) ?_
  refine rs1 (alI_q (n := 8) (z := p) (w := iI (R.1 3 0 0)) (rk_176 h.1.1) hv1 (by omega) (h.2.2.2.1.1.gi (st := 1) (by decide) ⟨by omega, by omega⟩ (by omega))) ?_
  refine rs1 (ltI_q (z := 16 * p + R.1 3 0 0) (adI (mlI li_16 hv1) rfl)) ?_
  refine rs1 (gtP_q (w := some 176) (rk_160 h.1.1) (rf_17 h.1.1)) ?_
  refine rs1 (alI_q (n := 8) (z := p) (w := iI (R.1 3 0 0)) (rk_176 h.1.1) hv1 (by omega) (h.2.2.2.1.1.gi (st := 1) (by decide) ⟨by omega, by omega⟩ (by omega))) ?_
  refine rs1 (asI_q (u := 100) (n := 8) (z := p) (y := R.1 3 0 0 + 1) (rk_176 h.1.1) hv1 (by omega) (adI rfl li_1)) ?_
  have h2 := h.si (cc := 176) (st := 1) (k := 3) (f := 0) (j0 := 0) (v := R.1 3 0 0 + 1) (i := p) hp.1 (by decide) (by omega) (by omega)
  refine rs1 (gtP_q (w := some 177) (rk_160 h2.1.1) (rf_18 h2.1.1)) ?_
  refine rs1 (asL_q (n := 128) (z := 16 * p + R.1 3 0 0) (w := X) (rk_177 h2.1.1) rfl (by omega) rfl) ?_
  have h4 := h2.sl (cc := 177) (st := 16) (k := 3) (j0 := R.1 3 0 0) (X := X) (i := 16 * p + R.1 3 0 0) hp.1 (by decide) (by omega) (by omega)
  refine rs1 (gtP_q (w := some 178) (rk_160 h4.1.1) (rf_19 h4.1.1)) ?_
  refine rs1 (gtI_q (rk_160 h4.1.1) h4.2.2.2.2.2.1) ?_
  refine rs1 (asI_q (u := 100) (n := 128) (z := 16 * p + R.1 3 0 0) (y := ut) (rk_178 h4.1.1) rfl (by omega) rfl) ?_
  have h5 := h4.si (cc := 178) (st := 16) (k := 3) (f := 1) (j0 := R.1 3 0 0) (v := ut) (i := 16 * p + R.1 3 0 0) hp.1 (by decide) (by omega) (by omega)
  refine rs1 (gtP_q (w := some 180) (rk_160 h5.1.1) (rf_21 h5.1.1)) ?_
  refine rs1 (asI_q (u := 100) (n := 128) (z := 16 * p + R.1 3 0 0) (y := r) (rk_180 h5.1.1) rfl (by omega) hr) ?_
  have h6 := h5.si (cc := 180) (st := 16) (k := 3) (f := 6) (j0 := R.1 3 0 0) (v := r) (i := 16 * p + R.1 3 0 0) hp.1 (by decide) (by omega) (by omega)
  refine rs1 (gtP_q (w := some 181) (rk_160 h6.1.1) (rf_22 h6.1.1)) ?_
  refine rs1 (asI_q (u := 102) (n := 128) (z := 16 * p + R.1 3 0 0) (y := y) (rk_181 h6.1.1) rfl (by omega) (znar_e hy hyb)) ?_
  have h7 := h6.si (cc := 181) (st := 16) (k := 3) (f := 7) (j0 := R.1 3 0 0) (v := y) (i := 16 * p + R.1 3 0 0) hp.1 (by decide) (by omega) (by omega)
  refine rs1 (gtP_q (w := some 179) (rk_160 h7.1.1) (rf_20 h7.1.1)) ?_
  refine rs1 (asI_q (u := 100) (n := 128) (z := 16 * p + R.1 3 0 0) (y := z) (rk_179 h7.1.1) rfl (by omega) hz) ?_
  have h8 := h7.si (cc := 179) (st := 16) (k := 3) (f := 4) (j0 := R.1 3 0 0) (v := z) (i := 16 * p + R.1 3 0 0) hp.1 (by decide) (by omega) (by omega)
  exact Rt.ok h8
/-- with: its numbers -/
theorem with225 {xL : XA} {Q : Value → Mem → Value → Mem → Prop} {j395 : Mem → XA} {s24 x21 : Int32} {s27 : Int32 × Mem} (hd : 8 ≤ d) (hS : TkS T n m kd pl E tx) (h : RQ T n b m kd pl E tx M0 M1 p ut cnt e s u dp M R0 t4) (h0 : t4.2.1 = 0) (hk : kd t4.1 = 213) (hw : WRr R R0 c0 0 ut r y X) (hc0 : 0 ≤ c0 ∧ c0 < 16) (hv1 : v1 = iI p) (hp : 0 ≤ p ∧ p ≤ 7) (he : 0 ≤ e ∧ e ≤ b) (hb3 : b ≤ 3000) (hm14 : m ≤ 1400) (hr : s27.1 = iI r) (hy : s24 = iI y) (hyb : 0 ≤ y ∧ y ≤ 1) (hx : x21 = iI c0) (hj : ∀ M2 R2 k, wE kd pl c0 (t4.1 + 1, 0, 0) k → RQ T n b m kd pl E tx M0 M1 p ut cnt e s u dp M2 R2 (wQ kd pl c0 (t4.1 + 1, 0, 0) k) → (0 ≤ R2.1 3 0 0 ∧ R2.1 3 0 0 ≤ 16) → ((wQ kd pl c0 (t4.1 + 1, 0, 0) k).2.1 = 0 → WRr R R2 c0 k ut r y X ∧ ∀ j : Nat, j ≤ k → R2.1 3 4 (c0 + j) = wV kd pl tx c0 (t4.1 + 1, 0, 0) j) → Rs xL (j395 M2) Q) : Rs xL (lp (c225_240 (runX d) (some 160) v1 j395 s24 s27 X x21) 4294967296 ((0 : Int32), (1 : Int32), M)) Q := by
  obtain ⟨t, ht⟩ : ∃ z : TS, z = (t4.1 + 1, 0, 0) := ⟨_, rfl⟩
  rw [← ht] at hj
  refine Rr_lp (fun mm q => (∃ (k : Nat) (tp tk : TS) (Rk : RG), q.1 = iI k ∧ q.2.1 = iI 1 ∧ RQ T n b m kd pl E tx M0 M1 p ut cnt e s u dp q.2.2 Rk tp ∧ tp.2.1 = 0 ∧ (kd tp.1 ≠ 0 ∧ kd tp.1 ≠ 1) ∧ wQ kd pl c0 t k = tS kd pl tk ∧ wV kd pl tx c0 t k = vSg kd tx tk ∧ tk = (if (kd (tp.1 + 1) = 45 ∨ kd (tp.1 + 1) = 4) ∧ (4 ≤ (k : Int) ∨ (1 ≤ k ∧ 16 ≤ c0 + k)) then (tp.1 + 1, 6, pl (tp.1 + 1)) else (tp.1 + 1, 0, 0)) ∧ (∀ j, j < k → (wQ kd pl c0 t j).2.1 = 0 ∧ kd (wQ kd pl c0 t j).1 = 44) ∧ WRr R Rk c0 (k - 1) ut r y X ∧ (∀ j : Nat, j < k → Rk.1 3 4 (c0 + j) = wV kd pl tx c0 t j) ∧ (k ≤ 4 ∧ c0 + k ≤ 16) ∧ mm + k = 10) ∨ (∃ (k : Nat) (Rk : RG), q.2.1 = iI 0 ∧ RQ T n b m kd pl E tx M0 M1 p ut cnt e s u dp q.2.2 Rk (wQ kd pl c0 t k) ∧ wE kd pl c0 t k ∧ (0 ≤ Rk.1 3 0 0 ∧ Rk.1 3 0 0 ≤ 16) ∧ ((wQ kd pl c0 t k).2.1 = 0 → WRr R Rk c0 k ut r y X ∧ ∀ j : Nat, j ≤ k → Rk.1 3 4 (c0 + j) = wV kd pl tx c0 t j) ∧ mm = 0)) (fun mm q go hq hgo => ?_) 10 _ _ (by omega) (Or.inl ⟨0, t4, t, R0, li_0, li_1, h, h0, by omega, rfl, rfl, by rw [if_neg (by omega)]; exact ht, fun j z => absurd z (by omega), hw, fun j z => absurd z (by omega), by omega, by omega⟩)
  obtain ⟨q1, q2, M3⟩ := q
  dsimp only at hq
  unfold c225_240
  dsimp only
  rcases hq with ⟨k, tp, tk, Rk, e1, e2, g, g0, gk, gQ, gV, gt, gj, gw, gv, gb, gm⟩ | ⟨k, Rk, e2, g, ge, gq, gw, gm⟩
  · refine rsr (if_neg (eqI_n e2 li_0 (by omega))) ?_
    refine rsr (vC_e (rk_160 g.1.1)) ?_
    refine RrV (q191 (by omega) hS g.1 g.2.2.2.2.1 hb3 (fun _ => gk)) fun v M5 p5 => ?_
    have g5 := g.rp p5 tA_s
    rw [show tA tp = (tp.1 + 1, 0, 0) from if_pos g0] at g5
    obtain ⟨hr5, hm5, hi5⟩ := g5.sr rfl
    refine rsr (cV_e rfl) ?_
    refine rsr (gtI_q (rk_160 g5.1.1) hr5.2.2.2.1) ?_
    refine rsr (if_pos (eqI_p rfl li_0 rfl)) ?_
    refine rsr (gtI_q (rk_160 g5.1.1) hr5.1) ?_
    refine rsr (jn_v) ?_
    refine rsr (jn_v) ?_
    -- a FAULT ends it
    have stop : ∀ {Mq : Mem} {tq : TS} {w : Int32}, tS kd pl tk = tq → 1 ≤ tq.2.1 → RP b m kd pl E tx e s u dp M5 tq Mq → Rs xL (go (w, (0 : Int32), Mq)) Q := fun {Mq tq w} a1 a2 a3 => by
      have hq := g5.rp a3 (fun _ => rfl)
      refine hgo 0 _ (by omega) (Or.inr ⟨k, Rk, li_0, by rw [gQ, a1]; exact hq, ⟨gj, Or.inl (by rw [gQ, a1]; omega)⟩, (by have := gw.1; omega), fun z => absurd z (by rw [gQ, a1]; omega), rfl⟩)
    have number : (kd (tp.1 + 1) = 45 ∨ kd (tp.1 + 1) = 4) → Rs xL (vC (13, 157) M5 (some 160) <| cI (runX d 193 [va_rf (some 160), .int ((1 : Int32))] M5) fun x50 M49 => if x50 = 0 then (go (q1, (0 : Int32), M49)) else (jn (fun (s51 : Int32) => vC (13, 157) M49 (some 160) <| cI (runX d 194 [va_rf (some 160), .int s51, .int ((6 : Int32))] M49) fun x53 M52 => if x53 = 0 then (go (q1, (0 : Int32), M52)) else (vC (13, 157) M52 (some 160) <| cV (runX d 219 [va_rf (some 160)] M52) fun M54 => jn (fun (s55 : Mem) => lt (q1 + (1 : Int32)) fun (x56 : Int32) => gtI (13, 157) s55 (some 160) 41 fun x57 => jn (fun (s58 : Int32) => go (x56, s58, s55)) fun j390 => jn (fun (s59 : Unit) => j390 ((0 : Int32))) fun j389 => if x57 = 0 then (gtI (13, 157) s55 (some 160) 36 fun x60 => if x60 = ((44 : Int32)) then (j390 ((1 : Int32))) else (j389 ())) else (j389 ())) fun j366 => if q1 = 0 then (gtP (13, 157) M54 (some 160) 20 fun x61 => gtI (13, 157) M54 (some 160) 62 fun x62 => asI 100 M54 x61 (((16 : Int32) * v1) + x21) x62 fun M63 => j366 M63) else (gtI (13, 157) M54 (some 160) 62 fun x64 => vC (13, 157) M54 (some 160) <| cV (runX d 224 [va_rf (some 160), .int v1, .long X, .int s27.1, .int s24, .int x64] M54) fun M65 => j366 M65))) fun j316 => jn (fun (s66 : Unit) => j316 ((0 : Int32))) fun j315 => if ((4 : Int32)) ≤ q1 then (j315 ()) else (jn (fun (s67 : Unit) => j316 ((1 : Int32))) fun j311 => if q1 = 0 then (j311 ()) else (gtP (13, 157) M49 (some 160) 17 fun x68 => alI 100 M49 x68 v1 fun x69 => if ((16 : Int32)) ≤ x69 then (j315 ()) else (j311 ()))))) Q := fun c => by
      refine rsr (vC_e (rk_160 g5.1.1)) ?_
      refine rsr (cI_e (ar193_p (by omega) hS g5.1.1 hr5.1 hr5.2.1 hr5.2.2.2.1 li_1 ⟨hi5.1, hi5.2, by dsimp only; omega, rfl⟩)) ?_
      refine rsr (if_neg (eqI_n (x := 1) (y := 0) rfl li_0 (by omega))) ?_
      refine rsr (jn_v) ?_
      refine rsr (jn_v) ?_
      have six : (4 ≤ (k : Int) ∨ (1 ≤ k ∧ 16 ≤ c0 + k)) → ∀ {K : Int32 → Mem → XA}, (∀ Mq, RP b m kd pl E tx e s u dp M5 (tp.1 + 1, 6, pl (tp.1 + 1)) Mq → Rs xL (K (iI 0) Mq) Q) → Rs xL (vC (13, 157) M5 (some 160) <| cI (runX d 194 [va_rf (some 160), .int ((0 : Int32)), .int ((6 : Int32))] M5) K) Q := fun _ {K} hK => by
        refine rsr (vC_e (rk_160 g5.1.1)) ?_
        obtain ⟨Mq, q1, q2⟩ := q194n (d := d) (b := b) (f := 6) (by omega) hS g5.1.1 hr5 hm5 he hi5 li_0 li_6 (by omega)
        refine rsr (cI_e q1) ?_
        exact hK Mq q2
      have tk6 : (4 ≤ (k : Int) ∨ (1 ≤ k ∧ 16 ≤ c0 + k)) → tS kd pl tk = (tp.1 + 1, 6, pl (tp.1 + 1)) := fun a => by
        rw [gt, if_pos ⟨c, a⟩]; exact tS_f (by dsimp only; omega)
      have good : ¬ (4 ≤ (k : Int) ∨ (1 ≤ k ∧ 16 ≤ c0 + k)) → Rs xL (vC (13, 157) M5 (some 160) <| cI (runX d 194 [va_rf (some 160), .int ((1 : Int32)), .int ((6 : Int32))] M5) fun x53 M52 => if x53 = 0 then (go (q1, (0 : Int32), M52)) else (vC (13, 157) M52 (some 160) <| cV (runX d 219 [va_rf (some 160)] M52) fun M54 => jn (fun (s55 : Mem) => lt (q1 + (1 : Int32)) fun (x56 : Int32) => gtI (13, 157) s55 (some 160) 41 fun x57 => jn (fun (s58 : Int32) => go (x56, s58, s55)) fun j390 => jn (fun (s59 : Unit) => j390 ((0 : Int32))) fun j389 => if x57 = 0 then (gtI (13, 157) s55 (some 160) 36 fun x60 => if x60 = ((44 : Int32)) then (j390 ((1 : Int32))) else (j389 ())) else (j389 ())) fun j366 => if q1 = 0 then (gtP (13, 157) M54 (some 160) 20 fun x61 => gtI (13, 157) M54 (some 160) 62 fun x62 => asI 100 M54 x61 (((16 : Int32) * v1) + x21) x62 fun M63 => j366 M63) else (gtI (13, 157) M54 (some 160) 62 fun x64 => vC (13, 157) M54 (some 160) <| cV (runX d 224 [va_rf (some 160), .int v1, .long X, .int s27.1, .int s24, .int x64] M54) fun M65 => j366 M65))) Q := fun a => by
        have tk1 : tk = (tp.1 + 1, 0, 0) := by rw [gt]; exact if_neg fun z => a z.2
        rw [← tk1] at g5
        refine rsr (vC_e (rk_160 g5.1.1)) ?_
        refine rsr (cI_e (ar194_p (by omega) hS g5.1.1 hr5.1 hr5.2.1 hr5.2.2.2.1 li_1 li_6 ⟨hi5.1, hi5.2, rfl⟩)) ?_
        refine rsr (if_neg (eqI_n (x := 1) (y := 0) rfl li_0 (by omega))) ?_
        refine rsr (vC_e (rk_160 g5.1.1)) ?_
        refine RrV (q219 (by omega) hS g5.1 g5.2.2.2.2.1 ⟨he.1, he.2, hb3⟩ hm14) fun v M6 ⟨z6, p6⟩ => ?_
        have g6 := g5.rp p6 tS_s
        refine rsr (cV_e rfl) ?_
        obtain ⟨z, hz62, hzv⟩ : ∃ z : Int, M6.1 160 62 = iI z ∧ ((tS kd pl tk).2.1 = 0 → z = vSg kd tx tk) := by
          by_cases y : (tS kd pl tk).2.1 = 0
          · exact ⟨_, z6 y, fun _ => rfl⟩
          · exact ⟨_, eV, fun w => absurd w y⟩
        refine rsr (jn_v) ?_
        -- behind a number
        have fin : ∀ M7 R7, RQ T n b m kd pl E tx M0 M1 p ut cnt e s u dp M7 R7 (tS kd pl tk) → WRr R R7 c0 k ut r y X → ((tS kd pl tk).2.1 = 0 → ∀ j : Nat, j ≤ k → R7.1 3 4 (c0 + j) = wV kd pl tx c0 t j) → Rs xL (lt (q1 + (1 : Int32)) fun (x56 : Int32) => gtI (13, 157) M7 (some 160) 41 fun x57 => jn (fun (s58 : Int32) => go (x56, s58, M7)) fun j390 => jn (fun (s59 : Unit) => j390 ((0 : Int32))) fun j389 => if x57 = 0 then (gtI (13, 157) M7 (some 160) 36 fun x60 => if x60 = ((44 : Int32)) then (j390 ((1 : Int32))) else (j389 ())) else (j389 ())) Q := fun M7 R7 g7 w7 v7 => by
          refine rsr (ltI_q (z := ((k + 1 : Nat) : Int)) (cvI (adI e1 li_1) (by omega))) ?_
          obtain ⟨F, f41, fr1, fr2, fr3⟩ := g7.n41
          refine rsr (gtI_q (rk_160 g7.1.1) f41) ?_
          refine rsr (jn_v) ?_
          refine rsr (jn_v) ?_
          by_cases c7 : (tS kd pl tk).2.1 = 0
          · obtain ⟨hr7, hm7, hi7⟩ := g7.sr c7
            refine rsr (if_pos (eqI_p rfl li_0 (fr3.2 c7))) ?_
            refine rsr (gtI_q (rk_160 g7.1.1) hr7.1) ?_
            by_cases c44 : kd (tS kd pl tk).1 = 44
            · refine rsr (if_pos (krI_p (k := 44) rfl li_44 c44 (by decide +kernel))) ?_
              refine rsr (jv_e) ?_
              refine hgo (10 - (k + 1)) _ (by omega) (Or.inl ⟨k + 1, tS kd pl tk, wS kd pl (k + 1) (c0 + k + 1) (tS kd pl tk), R7, rfl, li_1, g7, c7, by omega, by rw [← gQ]; rfl, by rw [← gQ]; rfl, ?_, fun j zj => ?_, w7, fun j zj => v7 c7 j (by omega), by omega, by omega⟩)
              · unfold wS
                have q : (4 ≤ ((k : Int) + 1) ∨ 16 ≤ c0 + (k : Int) + 1) ↔ (4 ≤ (((k + 1 : Nat)) : Int) ∨ (1 ≤ k + 1 ∧ 16 ≤ c0 + ((k + 1 : Nat) : Int))) := by omega
                by_cases w : (kd ((tS kd pl tk).1 + 1) = 45 ∨ kd ((tS kd pl tk).1 + 1) = 4) ∧ (4 ≤ ((k : Int) + 1) ∨ 16 ≤ c0 + (k : Int) + 1)
                · rw [if_pos w, if_pos ⟨w.1, q.1 w.2⟩]
                · rw [if_neg w, if_neg fun w2 => w ⟨w2.1, q.2 w2.2⟩]
              · by_cases w : j = k
                · rw [w, gQ]; exact ⟨c7, c44⟩
                · exact gj j (by omega)
            · refine rsr (if_neg (krI_n (k := 44) rfl li_44 (hS.ok _ hi7.1 hi7.2) (by unfold KdOK sgk; omega) (by decide +kernel) c44 (by omega))) ?_
              refine rsr (jv_e) ?_
              refine rsr (jv_e) ?_
              exact hgo 0 _ (by omega) (Or.inr ⟨k, R7, li_0, by rw [gQ]; exact g7, ⟨gj, Or.inr (by rw [gQ]; exact c44)⟩, (by have := w7.1; omega), fun _ => ⟨w7, v7 c7⟩, rfl⟩)
          · refine rsr (if_neg (eqI_n rfl li_0 (by omega))) ?_
            refine rsr (jv_e) ?_
            refine rsr (jv_e) ?_
            exact hgo 0 _ (by omega) (Or.inr ⟨k, R7, li_0, by rw [gQ]; exact g7, ⟨gj, Or.inl (by rw [gQ]; exact c7)⟩, (by have := w7.1; omega), fun zz => absurd zz (by rw [gQ]; exact c7), rfl⟩)
        by_cases k0 : k = 0
        · subst k0
          refine rsr (if_pos (eqI_p e1 li_0 rfl)) ?_
          refine rsr (gtP_q (w := some 179) (rk_160 g6.1.1) (rf_20 g6.1.1)) ?_
          refine rsr (gtI_q (rk_160 g6.1.1) hz62) ?_
          refine rsr (asI_q (u := 100) (n := 128) (z := 16 * p + c0) (y := z) (rk_179 g6.1.1) (adI (mlI li_16 hv1) hx) (by omega) rfl) ?_
          have g7 := g6.si (cc := 179) (st := 16) (k := 3) (f := 4) (j0 := c0) (v := z) (i := 16 * p + c0) hp.1 (by decide) (by omega) (by omega)
          refine rsr (jv_e) ?_
          refine fin _ _ g7 (gw.s4 (Or.inl rfl) (Int.le_refl _)) fun zz j zj => ?_
          have : j = 0 := by omega
          subst this
          rw [gV, ← hzv zz, show c0 + ((0 : Nat) : Int) = c0 by omega]
          exact rsF_p
        · refine rsr (if_neg (eqI_n e1 li_0 (by omega))) ?_
          refine rsr (gtI_q (rk_160 g6.1.1) hz62) ?_
          refine rsr (vC_e (rk_160 g6.1.1)) ?_
          obtain ⟨k, rfl⟩ : ∃ e, k = e + 1 := ⟨k - 1, by omega⟩
          have cE := gw.1
          rw [show k + 1 - 1 = k by omega] at gw cE
          refine RrV (mr224 (r := r) (y := y) (z := z) (by omega) g6 hv1 hp (by omega) hr hy hyb rfl) fun v M7 g7 => ?_
          refine rsr (cV_e rfl) ?_
          refine rsr (jv_e) ?_
          refine fin _ _ g7 gw.add fun zz j zj => ?_
          by_cases w : j = k + 1
          · rw [w, gV, ← hzv zz, show c0 + ((k + 1 : Nat) : Int) = Rk.1 3 0 0 by omega]
            exact rC_4
          · exact (rC_4n (by omega)).trans (gv j (by omega))
      by_cases c4 : 4 ≤ (k : Int)
      · refine rsr (if_pos (leI_p li_4 e1 (by omega))) ?_
        refine rsr (jv_e) ?_
        refine rsr (jv_e) ?_
        refine six (Or.inl c4) fun Mq q2 => ?_
        refine rsr (if_pos (eqI_p rfl li_0 rfl)) ?_
        exact stop (tk6 (Or.inl c4)) (by dsimp only; omega) q2
      · refine rsr (if_neg (leI_n li_4 e1 (by omega))) ?_
        refine rsr (jn_v) ?_
        by_cases k0 : k = 0
        · refine rsr (if_pos (eqI_p e1 li_0 (by omega))) ?_
          refine rsr (jv_e) ?_
          refine rsr (jv_e) ?_
          exact good (by omega)
        · refine rsr (if_neg (eqI_n e1 li_0 (by omega))) ?_
          have cE := gw.1
          refine rsr (gtP_q (w := some 176) (rk_160 g5.1.1) (rf_17 g5.1.1)) ?_
          refine rsr (alI_q (n := 8) (z := p) (w := iI (Rk.1 3 0 0)) (rk_176 g5.1.1) hv1 (by omega) (g5.2.2.2.1.1.gi (st := 1) (by decide) ⟨by omega, by omega⟩ (by omega))) ?_
          by_cases c16 : 16 ≤ Rk.1 3 0 0
          · refine rsr (if_pos (leI_p li_16 rfl (by omega))) ?_
            refine rsr (jv_e) ?_
            refine rsr (jv_e) ?_
            refine six (Or.inr (by omega)) fun Mq q2 => ?_
            refine rsr (if_pos (eqI_p rfl li_0 rfl)) ?_
            exact stop (tk6 (Or.inr (by omega))) (by dsimp only; omega) q2
          · refine rsr (if_neg (leI_n li_16 rfl (by omega))) ?_
            refine rsr (jv_e) ?_
            refine rsr (jv_e) ?_
            exact good (by omega)
    by_cases c45 : kd (tp.1 + 1) = 45
    · refine rsr (if_pos (krI_p (k := 45) rfl li_45 c45 (by decide +kernel))) ?_
      refine rsr (jv_e) ?_
      refine rsr (jv_e) ?_
      exact number (Or.inl c45)
    · refine rsr (if_neg (krI_n (k := 45) rfl li_45 (hS.ok (tp.1 + 1) hi5.1 hi5.2) (by unfold KdOK sgk; omega) (by decide +kernel) c45 (by omega))) ?_
      refine rsr (gtI_q (rk_160 g5.1.1) hr5.1) ?_
      by_cases c44 : kd (tp.1 + 1) = 4
      · refine rsr (if_pos (krI_p (k := 4) rfl li_2 c44 (by decide +kernel))) ?_
        refine rsr (jv_e) ?_
        refine rsr (jv_e) ?_
        exact number (Or.inr c44)
      · refine rsr (if_neg (krI_n (k := 4) rfl li_2 (hS.ok (tp.1 + 1) hi5.1 hi5.2) (by unfold KdOK; omega) (by decide +kernel) c44 (by omega))) ?_
        refine rsr (jv_e) ?_
        refine rsr (vC_e (rk_160 g5.1.1)) ?_
        obtain ⟨Mq, q1, q2⟩ := q193n (d := d) (b := b) (by omega) hS g5.1.1 hr5 hm5 he hi5 li_0
        refine rsr (cI_e q1) ?_
        refine rsr (if_pos (eqI_p rfl li_0 rfl)) ?_
        have tk1 : tk = (tp.1 + 1, 0, 0) := by rw [gt]; exact if_neg fun z => by omega
        refine stop (tq := (tp.1 + 1, if kd (tp.1 + 1) = 1 then 1 else 2, pl (tp.1 + 1))) ?_ (by dsimp only; split <;> omega) q2
        rw [tk1]
        unfold tS
        rw [show tG kd (tp.1 + 1, 0, 0) = (tp.1 + 1, 0, 0) from if_neg fun z => c45 z.2]
        exact (if_neg fun z => c44 z.2).trans (if_pos rfl)
  · refine rsr (if_pos (eqI_p e2 li_0 rfl)) ?_
    exact hj _ _ _ ge g gq gw
end S64
