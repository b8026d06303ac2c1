/-! members without a code: both -/
section S61
variable {d d' : Nat} {T : Int → Int} {n m b b2 a e s s' s0 u uc dp dq dq' i i' i0 K c lo ki r v j p ut cnt cnt' cn0 j0 z F P mu cb : Int} {kd pl E : Int → Int} {tx : Int → Int64} {M0 M1 M M2 M0c M0r Mc Mr Mc1 Mr1 M1c M1r : Mem} {R R' R0 : RG} {t t2 : TS} {L L0 : Int → Int64} {k k' f : Nat} {W : List (Nat × Nat)} {N TT ex x : Nat} {H H' H0 : HG} {G U : Nat → Int → Int} {X : Nat → Int → Int64} {ow : Nat → Int} {v0 v1 v2 w0 w1 w2 : Int32}
theorem MOQ.ok {sr : Int} (g1 : CQ m kd pl tx N TT ex M0c M1c e s' uc Mc1 H' (i', 0, 0)) (fc : FN N W_c9 Mc Mc1) (q1 : RQ T n 2500 m kd pl E tx M0r M1r p ut cnt' e sr u dq' Mr1 R' (i', 0, 0)) (fr : Fr W_mk Mr Mr1) (hw : RW Mc Mr G U L X e 0 u uc) (hbd : BD m i e s u uc 0) (hE : e ≤ 1000) (hi : i0 < i') (hi2 : i ≤ i' ∧ i' < m) (hs : 0 ≤ s' ∧ s' ≤ 10) (hH : HRK G e H' R' ut cnt') (hG : DGK G U X e u) (hM : CMK Mc G e) : MOQ T n m kd pl E tx N TT ex M0c M0r p ut i0 Mc1 Mr1 := by
  unfold BD at hbd
  exact Or.inl ⟨i', G, U, X, L, H', R', e, s', u, uc, cnt', dq', hi, g1.re, ⟨_, q1.re⟩, hw.mv fc fr (fun j p q => absurd q (by omega)) (fun j p q => absurd q (by omega)), by unfold BD; omega, hE, hH, hG, fun j p q => (fc.c 75 ⟨by decide, by omega⟩ _).trans (hM j p q)⟩
theorem MOQ.ft {Mc1 : Mem} (g1 : CQ m kd pl tx N TT ex M0c M1c e s uc Mc1 H' t) (h1 : 1 ≤ t.2.1) (hu : hEN H' 1 = ut + 1) (q1 : RQ T n b m kd pl E tx M0r M1r p ut cnt' e s' u dq' Mr1 R' t) (hb : b ≤ 2510) : MOQ T n m kd pl E tx N TT ex M0c M0r p ut i0 Mc1 Mr1 := Or.inr ⟨t.2.1, t.2.2, ⟨H', t, e, s, uc, ⟨rfl, rfl, h1⟩, hu, g1.re⟩, q1.fl h1 hb⟩
/-- bounds out of what both know -/
theorem MO.nb (h : MO T n m kd pl E tx N TT ex M0c M0r p ut i Mc Mr G U X L H R e s u uc cnt dq) : CB m e s uc ∧ (0 ≤ i ∧ i < m ∧ m ≤ 1400 ∧ 0 ≤ e ∧ e ≤ 1000 ∧ 0 ≤ s ∧ s ≤ 10 ∧ 0 ≤ u ∧ u ≤ uc ∧ uc ≤ i ∧ e ≤ i) ∧ (hEN H 1 = ut + 1 ∧ 0 ≤ ut ∧ ut ≤ 7 ∧ 0 ≤ hEN H 2 ∧ hEN H 2 ≤ 96 ∧ 0 ≤ cnt ∧ cnt ≤ 12 ∧ 0 ≤ hEN H 3 ∧ hEN H 3 ≤ 16 ∧ 0 ≤ hEN H 4 ∧ hEN H 4 ≤ 6 ∧ (cnt < 12 → hEN H 2 < 96)) ∧ ((0 ≤ R.1 2 0 0 ∧ R.1 2 0 0 ≤ 96) ∧ (0 ≤ R.1 3 0 0 ∧ R.1 3 0 0 ≤ 16) ∧ 0 ≤ R.1 4 0 0 ∧ R.1 4 0 0 ≤ 6) ∧ (0 ≤ hEF H 1 1 (hEN H 1 - 1) ∧ hEF H 1 1 (hEN H 1 - 1) ≤ hEN H 2) ∧ (∀ b, BB H b → (b = 0 ∧ cnt < 12) ∨ (b = 1 ∧ 12 ≤ cnt)) := by
  obtain ⟨g, q, hw, hbd, hE, ⟨⟨a1, a2, a3, a4, a5⟩, b1, h3, -⟩, hG, hM⟩ := h
  unfold BD at hbd
  have eu : hEN H 1 - 1 = ut := by omega
  obtain ⟨-, -, -, -, ⟨c1, c2, c3, -⟩, -⟩ := h3 ut (by omega) (by omega)
  rw [enU_p] at c2
  unfold CB
  rw [eu]
  refine ⟨by omega, by omega, by omega, by omega, by omega, fun b h => ?_⟩
  unfold BB at h
  rw [eu] at h
  omega
theorem thing_v (hd : 20 ≤ d) (hd' : 20 ≤ d') (hS : TkS T n m kd pl E tx) (mo : MO T n m kd pl E tx N TT ex M0c M0r p ut i Mc Mr G U X L H R e s u uc cnt dq) (hp : 0 ≤ p ∧ p ≤ 7) (hk : kd i = 202 + ki ∧ 0 ≤ ki ∧ ki ≤ 2) (hv1 : v1 = iI lo) (hlo : 0 ≤ lo ∧ lo ≤ 1) (hw1 : w1 = iI p) (hw2 : w2 = iI lo) : Rs (runX d 79 [va_rf (some 65), .int v1] Mc) (runX d' 222 [va_rf (some 160), .int w1, .int w2] Mr) (fun _ Mc' _ Mr' => MOQ T n m kd pl E tx N TT ex M0c M0r p ut i Mc' Mr') := by
  obtain ⟨nB, n1, n2, n3, n4, n5⟩ := mo.nb
  obtain ⟨g, ⟨sr, q⟩, hw, hbd, hE, hH, hG, hM⟩ := mo
  refine Rs.seq ((mc79 (by omega) hS g rfl nB hk hv1 hlo (by omega) (by omega) n4).mono fun v Mc1 ⟨x, r, b, ow, z, htd, hbb, hz, g1⟩ => ?_)
  refine (mr222v (r := r) (by omega) hS q rfl hw1 hp (by omega) (by omega) (by omega) n3 (hH.td htd) hk hw2 hlo (by omega) (n5 b hbb) (fun w => by have := hH.1.2.2.1; have := n2.2.2.2.2.2.2.2.2.2.2.2 w; omega)).mono fun w Mr1 ⟨R2, cn2, q1, hok⟩ => ?_
  dsimp only at g1 q1 hz hok
  by_cases c : (tE kd pl 59 (tS kd pl (tE kd pl 61 (tN kd pl r b (i + 1, 0, 0))))).2.1 = 0
  · obtain ⟨rfl, rfl⟩ := hok c
    obtain ⟨c1, c2, c3⟩ := tE_0 c
    obtain ⟨c4, j5, c5, c6, c7, c8⟩ := tS_0 c1
    obtain ⟨c9, c10, c11⟩ := tE_0 c4
    obtain ⟨-, -, -, -, c12⟩ := tN_0 c9
    have fc := g1.2.2.1 c
    have fr := q1.2.2.1 c
    have hz' := hz c
    obtain ⟨-, p1, p2⟩ := g1.sc c
    rw [c3] at p1 p2 g1 q1
    rw [c5] at p1 p2 g1 q1
    have e61 : (tE kd pl 61 (tN kd pl r b (i + 1, 0, 0))) = (i + 1 + 1 + 1, 0, 0) := by rw [c11, c12]
    rw [e61] at hz' c6 c8
    dsimp only at p1 p2 c6 c8
    have zr := vSg_r (t := (i + 1 + 1 + 1, 0, 0)) hS (by rw [← e61]; exact c1) (by dsimp only; omega)
    rw [← hz'] at zr
    rw [e61, ← hz'] at q1
    exact MOQ.ok g1 fc q1 fr hw hbd hE (by omega) (by omega) (by omega) (hH.nm0 (by
      rcases n5 b hbb with y | y
      · omega
      · have := (tN_0 c9).2.2.2.1; omega) ⟨hk.2.1, by omega⟩ hlo zr (fun y => by omega)) hG hM
  · exact MOQ.ft g1 (g1.pos c) ((aP_nn (by omega) : hEN (aP H ow 2 x (pF lo (hEN H 1 - 1) ki) (tx (i + 1))) 1 = hEN H 1).trans n2.1) q1 (by omega)
theorem thing_r (hd : 20 ≤ d) (hd' : 20 ≤ d') (hS : TkS T n m kd pl E tx) (mo : MO T n m kd pl E tx N TT ex M0c M0r p ut i Mc Mr G U X L H R e s u uc cnt dq) (hp : 0 ≤ p ∧ p ≤ 7) (hk : kd i = 205) (hv1 : v1 = iI lo) (hlo : 0 ≤ lo ∧ lo ≤ 1) (hw1 : w1 = iI p) (hw2 : w2 = iI lo) : Rs (runX d 80 [va_rf (some 65), .int v1] Mc) (runX d' 222 [va_rf (some 160), .int w1, .int w2] Mr) (fun _ Mc' _ Mr' => MOQ T n m kd pl E tx N TT ex M0c M0r p ut i Mc' Mr') := by
  obtain ⟨nB, n1, n2, n3, n4, n5⟩ := mo.nb
  obtain ⟨g, ⟨sr, q⟩, hw, hbd, hE, hH, hG, hM⟩ := mo
  refine Rs.seq ((mc80 (by omega) hS g rfl nB hk hv1 hlo (by omega) (by omega) n4).mono fun v Mc1 ⟨x, r, b, ow, z, htd, hbb, hz, g1⟩ => ?_)
  refine (mr222r (r := r) (ki := 3) (by omega) hS q rfl hw1 hp (by omega) (by omega) (by omega) n3 (hH.td htd) ⟨hk, rfl⟩ hw2 hlo (by omega) (n5 b hbb) (fun w => by have := hH.1.2.2.1; have := n2.2.2.2.2.2.2.2.2.2.2.2 w; omega)).mono fun w Mr1 ⟨R2, cn2, q1, hok⟩ => ?_
  dsimp only at g1 q1 hz hok
  by_cases c : (tE kd pl 59 (tE kd pl 93 (tM kd pl tx 1 50 (tE kd pl 91 (tN kd pl r b (i + 1, 0, 0)))))).2.1 = 0
  · obtain ⟨rfl, rfl⟩ := hok c
    obtain ⟨c1, c2, c3⟩ := tE_0 c
    obtain ⟨d1, d2, d3⟩ := tE_0 c1
    obtain ⟨c4, c5, c6, c7, c8⟩ := tM_0 d1
    obtain ⟨c9, c10, c11⟩ := tE_0 c4
    obtain ⟨-, -, -, -, c12⟩ := tN_0 c9
    have fc := g1.2.2.1 c
    have fr := q1.2.2.1 c
    have hz' := hz c
    obtain ⟨-, p1, p2⟩ := g1.sc c
    rw [← hz'] at c6 c7 q1
    rw [c3, d3, c8, c11, c12] at p1 p2 g1 q1
    dsimp only at p1 p2 g1 q1
    exact MOQ.ok g1 fc q1 fr hw hbd hE (by omega) (by omega) (by omega) (hH.nm0 (by
      rcases n5 b hbb with y | y
      · omega
      · have := (tN_0 c9).2.2.2.1; omega) (by omega) hlo (by omega) (fun _ => by omega)) hG hM
  · exact MOQ.ft g1 (g1.pos c) ((aP_nn (by omega) : hEN (aP H ow 2 x (pF lo (hEN H 1 - 1) 3) (tx (i + 1))) 1 = hEN H 1).trans n2.1) q1 (by omega)
end S61
