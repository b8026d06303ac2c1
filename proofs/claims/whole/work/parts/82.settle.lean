/-! the words of a text are settled: both -/
section S82
variable {dl d k : Nat} {T : Int → Int} {n m n1 n2 i e s u uc un r j p ut cnt dq u0 k9 : Int} {kd pl E : Int → Int} {tx : Int → Int64} {M0c M0r Mc Mr M0 M1 M M2 : Mem} {R : RG} {L : Int → Int64} {N TT ex : Nat} {H : HG} {G G1 G2 U B C : Nat → Int → Int} {X : Nat → Int → Int64} {X1 X2 Y1 Y2 : Int → Int64} {v1 : Int32} {F F2 : Int → Int} {y : Int64}
theorem MbF.cg (h : MbF F X1 n u0 y r) (e : ∀ j, 0 ≤ j → j < n → F2 j = F j ∧ X2 j = X1 j) : MbF F2 X2 n u0 y r := by
  rcases h with ⟨a, b, ⟨c1, c2⟩, d⟩ | ⟨a, b⟩
  · refine Or.inl ⟨a, b, ⟨?_, ?_⟩, fun j p q w => ?_⟩
    · rw [(e r a b).1]; exact c1
    · rw [(e r a b).2]; exact c2
    · rw [(e j p (by omega)).1, (e j p (by omega)).2] at w; exact d j p q w
  · exact Or.inr ⟨a, fun j p q w => by rw [(e j p q).1, (e j p q).2] at w; exact b j p q w⟩
theorem UsL.cg (h : UsL X1 X2 n1 n2 B U X j un r) (h1 : ∀ j, 0 ≤ j → j < n1 → Y1 j = X1 j) (h2 : ∀ r, 0 ≤ r → r < n2 → Y2 r = X2 r ∧ ∀ f, 1 ≤ f → f ≤ 5 → C f r = B f r) : UsL Y1 Y2 n1 n2 C U X j un r := by
  obtain ⟨a, b⟩ := h
  refine ⟨?_, b.cg fun j p q => ⟨(h2 j p q).2 1 (by omega) (by omega), (h2 j p q).1⟩⟩
  rcases a with ⟨c, d⟩ | ⟨c, d⟩
  · exact Or.inl ⟨c, d⟩
  · exact Or.inr ⟨c, d.cg h1⟩
theorem UsL.lt (h : UsL X1 X2 n1 n2 B U X j un r) : r < n2 ∨ r = -1 := by
  rcases h.2 with ⟨a, b, -⟩ | ⟨a, -⟩
  · exact Or.inl b
  · exact Or.inr a
theorem UsO.cg (h : UsO B U j un r) (hr : r < n2 ∨ r = -1) (h2 : ∀ r, 0 ≤ r → r < n2 → Y2 r = X2 r ∧ ∀ f, 1 ≤ f → f ≤ 5 → C f r = B f r) : UsO C U j un r := by
  have h0 : 0 ≤ r := h.1
  have e := (h2 r h0 (by omega)).2
  unfold UsO
  rw [e 3 (by omega) (by omega), e 2 (by omega) (by omega), e 4 (by omega) (by omega)]
  exact h
theorem SetU.cg (h1 : ∀ j, 0 ≤ j → j < n1 → Y1 j = X1 j) (h2 : ∀ r, 0 ≤ r → r < n2 → Y2 r = X2 r ∧ ∀ f, 1 ≤ f → f ≤ 5 → C f r = B f r) : ∀ {k : Nat} {G1 : Nat → Int → Int}, SetU X1 X2 n1 n2 B U X G k G1 → SetU Y1 Y2 n1 n2 C U X G k G1
  | 0, _, h => h
  | k + 1, _, ⟨Ga, un, r, a1, a2, a3, a4⟩ => by
    have h0 : 0 ≤ r := a3.1
    have e := (h2 r h0 (by have := a2.lt; omega)).2
    refine ⟨Ga, un, r, SetU.cg h1 h2 a1, a2.cg h1 h2, a3.cg a2.lt h2, ?_⟩
    rw [a4]
    unfold sU
    rw [e 2 (by omega) (by omega), e 4 (by omega) (by omega)]
theorem SetU.at : ∀ {k : Nat} {G1 : Nat → Int → Int}, SetU X1 X2 n1 n2 B U X G k G1 → ∀ j, j < k → ∃ un r, UsL X1 X2 n1 n2 B U X j un r ∧ UsO B U j un r
  | 0, _, _, j, q => absurd q (by omega)
  | k + 1, _, ⟨Ga, un, r, a1, a2, a3, a4⟩, j, q => by
    by_cases y : j = k
    · rw [y]; exact ⟨un, r, a2, a3⟩
    · exact SetU.at a1 j (by omega)
theorem settle (hdl : 9 ≤ dl) (hd : 5 ≤ d) (hS : TkS T n m kd pl E tx) (uo : UO T n m kd pl E tx N TT ex M0c M0r p i Mc Mr G U X L H R e s u uc k9 ut cnt dq) (hp : 0 ≤ p ∧ p ≤ 7) (hv1 : v1 = iI p) : ∃ Mc' Mr', runX dl 107 [va_rf (some 65)] Mc = some (.null, Mc') ∧ runX d 230 [va_rf (some 160), .int v1] Mr = some (.null, Mr') ∧ ((∃ G', SetU (R.2 1) (R.2 2) (R.1 1 0 0) (R.1 2 0 0) (R.1 2) U X G u.toNat G' ∧ CA1 Mc' G' e ∧ CQ m kd pl tx N TT ex M0c Mc' e s uc Mc' H (i, 0, 0) ∧ RA1 Mr' G' e ∧ (∃ sr, RQ T n 2500 m kd pl E tx M0r Mr' p ut cnt e sr u dq Mr' R (i, 0, 0)) ∧ Fr [(72, 9999), (73, 9999)] Mc Mc') ∨ (∃ P, Mc'.1 65 10 = iI 4 ∧ Mc'.1 65 11 = iI P ∧ Mr'.1 160 41 = iI 4 ∧ Mr'.1 160 42 = iI P ∧ Fr [(72, 9999), (73, 9999), (65, 10), (65, 11)] Mc Mc' ∧ Fr [(195, 9999), (196, 9999), (160, 41), (160, 42)] Mr Mr')) := by
  obtain ⟨g, ⟨sr, q⟩, hw, hbd, hE, hH, hG, hM⟩ := uo
  obtain ⟨r1, r2, r3, r4, r5, r6⟩ := hw
  have hbd' := hbd
  unfold BD at hbd'
  obtain ⟨⟨a1, a2, a3, a4, a5⟩, b1, h3, h4, h5, h6, h7⟩ := hH
  have us : ∀ q, 0 ≤ q → q < u → (0 ≤ U 6 q ∧ U 6 q ≤ 7) ∧ (0 ≤ U 1 q ∧ U 1 q ≤ 4) ∧ (U 1 q < 3 ∧ U 7 q = U 1 q + 1 ∨ 3 ≤ U 1 q ∧ U 7 q = U 1 q) ∧ U 8 q = U 2 q ∧ (0 ≤ U 2 q ∧ U 2 q < e) ∧ (U 1 q = 4 → U 9 q = U 5 q) ∧ (X 0 q = 0 ∨ U 3 q = U 10 q) := fun q w1 w2 => by
    obtain ⟨⟨z1, z2, z3, z4, z5, z6, z7, z8, z9⟩, y1, y2, y3⟩ := hG.1 q w1 w2
    exact ⟨⟨y2, y3⟩, z1, z2, z3, z4, fun w => (z6 w).1, z9⟩
  have e1 : ∀ j, 0 ≤ j → j < hEN H 1 → R.2 1 j = hEX H 1 j := fun j w1 w2 => (h3 j w1 (by omega)).1.symm
  have e2 : ∀ r, 0 ≤ r → r < hEN H 2 → R.2 2 r = hEX H 2 r ∧ ∀ f, 1 ≤ f → f ≤ 5 → R.1 2 f r = hEF H 2 f r := fun r w1 w2 => by
    obtain ⟨z1, z2, -⟩ := h4 r w1 w2
    exact ⟨z1.symm, fun f p1 p2 => (z2 f p1 p2).symm⟩
  have eb : ∀ r, 0 ≤ r → r < hEN H 2 → (0 ≤ R.1 2 1 r ∧ R.1 2 1 r ≤ 7) ∧ (0 ≤ R.1 2 2 r ∧ R.1 2 2 r ≤ 4) ∧ (0 ≤ R.1 2 3 r ∧ R.1 2 3 r ≤ 1) := fun r w1 w2 => by
    obtain ⟨z1, z2, z3, z4, z5, -⟩ := h4 r w1 w2
    exact ⟨by omega, z4, z5⟩
  obtain ⟨v, Mc', ec, rfl, hc⟩ := a107 (d := dl) (by omega) g rfl r1 r5 ⟨by omega, by omega⟩ ⟨by omega, by omega, by omega⟩ (fun q w1 w2 => by
    obtain ⟨z1, z2, z3, z4, z5, z6, z7⟩ := us q w1 w2
    exact ⟨z1, by omega, z4, z5, fun w => z6 (by omega)⟩) (fun r w1 w2 => by
    have q2 := (e2 r w1 w2).2
    rw [← q2 2 (by omega) (by omega), ← q2 3 (by omega) (by omega)]
    exact (eb r w1 w2).2)
  obtain ⟨w, Mr', er, rfl, hr⟩ := a230 (d := d) (by omega) hS q rfl hv1 hp r2 r6 ⟨by omega, by omega⟩ ⟨by omega, by omega⟩ (by omega) (fun i w1 w2 => by
    have := hG.2 i w1 w2
    omega) (fun q w1 w2 => by
    obtain ⟨z1, z2, z3, z4, z5, z6, z7⟩ := us q w1 w2
    exact ⟨z1, z2, z3, z5⟩) (fun r w1 w2 => eb r w1 (by omega))
  have sc : ∀ {k G1}, SetU (hEX H 1) (hEX H 2) (hEN H 1) (hEN H 2) (hEF H 2) U X G k G1 → SetU (R.2 1) (R.2 2) (R.1 1 0 0) (R.1 2 0 0) (R.1 2) U X G k G1 := fun {k G1} z => by
    have z2 := SetU.cg e1 e2 z
    rw [a1, a3, ← a2] at z2
    exact z2
  have ul : ∀ {k : Int} {un r}, UsL (hEX H 1) (hEX H 2) (hEN H 1) (hEN H 2) (hEF H 2) U X k un r → UsL (R.2 1) (R.2 2) (R.1 1 0 0) (R.1 2 0 0) (R.1 2) U X k un r := fun {k un r} z => by
    have z2 := z.cg e1 e2
    rw [a1, a3, ← a2] at z2
    exact z2
  have uoc : ∀ {k : Int} {un r}, (r < hEN H 2 ∨ r = -1) → UsO (R.1 2) U k un r → UsO (hEF H 2) U k un r := fun {k un r} z w => by
    have f2 : ∀ r, 0 ≤ r → r < hEN H 2 → hEX H 2 r = R.2 2 r ∧ ∀ f, 1 ≤ f → f ≤ 5 → hEF H 2 f r = R.1 2 f r := fun r p1 p2 => ⟨(e2 r p1 p2).1.symm, fun f q1 q2 => ((e2 r p1 p2).2 f q1 q2).symm⟩
    exact w.cg z f2
  refine ⟨Mc', Mr', ec, er, ?_⟩
  rcases hc with ⟨Gc, s1, s2, s3, sf⟩ | ⟨kc, Gc, unc, rc, k1, s1, s2, s3, s4, s5, s6⟩
  · rcases hr with ⟨Gr, t1, t2, t3⟩ | ⟨kr_, Gr, unr, rr, k1, t1, t2, t3, t4, t5, t6⟩
    · have e := (sc s1).one t1
      subst e
      exact Or.inl ⟨Gc, t1, s2, s3, t2, ⟨_, t3⟩, sf⟩
    · obtain ⟨un, r, z1, z2⟩ := (sc s1).at kr_ (by omega)
      obtain ⟨rfl, rfl⟩ := z1.one t2
      exact absurd z2 t3
  · rcases hr with ⟨Gr, t1, t2, t3⟩ | ⟨kr_, Gr, unr, rr, k2, t1, t2, t3, t4, t5, t6⟩
    · obtain ⟨un, r, z1, z2⟩ := t1.at kc (by omega)
      obtain ⟨rfl, rfl⟩ := z1.one (ul s2)
      exact absurd (uoc s2.lt z2) s3
    · have ek : kc = kr_ := by
        rcases Nat.lt_trichotomy kc kr_ with z | z | z
        · obtain ⟨un, r, z1, z2⟩ := t1.at kc z
          obtain ⟨rfl, rfl⟩ := z1.one (ul s2)
          exact absurd (uoc s2.lt z2) s3
        · exact z
        · obtain ⟨un, r, z1, z2⟩ := (sc s1).at kr_ z
          obtain ⟨rfl, rfl⟩ := z1.one t2
          exact absurd z2 t3
      subst ek
      obtain ⟨rfl, rfl⟩ := (ul s2).one t2
      refine Or.inr ⟨_, s4, s5, t4, ?_, s6, t6⟩
      rw [t5]
      by_cases z : 0 ≤ unc
      · rw [if_pos z, if_pos z]
      · rw [if_neg z, if_neg z]
        obtain ⟨z1, -, -, -, -, -, z7⟩ := us kc (by omega) k1
        have : U 3 kc = U 10 kc := by
          rcases s2.1 with ⟨w1, w2⟩ | ⟨w1, -⟩
          · omega
          · exact z7.resolve_left w1
        rw [this]
end S82
