/-! the first object's machine: a unit begins -/
section S99f
variable {d : Nat} {e s s' u : ZS} {κ : ZK} {M M' M1 M2 : Mem} {a b j N x y : Nat} {v v1 v2 w : Int32} {c t k i n p o q id fl ar : Int} {Y : Nat → Int → Int}
/-- a stretch of a row is filled -/
theorem kp353 (hd : 2 ≤ d) (hk : M.2.2.2[a]? = some (100, N)) (h : x ≤ y ∧ y ≤ N ∧ N ≤ 10000) (hx : v1 = iI x) (hy : v2 = iI y) : ∃ M', runX d 353 [va_rf (some a), .int v1, .int v2, .int w] M = some (.null, M') ∧ M'.2 = M.2 ∧ (∀ b j, ¬ (b = a ∧ x ≤ j ∧ j < y) → M'.1 b j = M.1 b j) ∧ ∀ j, x ≤ j → j < y → M'.1 a j = w := by
  obtain ⟨d, rfl⟩ : ∃ e, d = e + 2 := ⟨d - 2, by omega⟩
  subst hx; subst hy
  have e351 : runX (d + 1) 351 [.int (iI N), .int (iI x), .int (iI y)] M = some (.null, M) := by
    rw [r351]; unfold b351; rw [aI_e, aI_e, aI_e, aZ_e]; unfold c351
    rw [if_pos (leI_p rfl rfl (by omega)), if_pos (leI_p li_0 rfl (by omega)), if_pos (leI_p rfl rfl (by omega))]
  rw [r353]; unfold b353; rw [aR_e, aI_e, aI_e, aI_e, aZ_e]; unfold c353
  rw [aln_q' hk, cV_e e351, jn_v]
  refine lp_use (body := c353_10 (runX (d + 1)) (some a) (iI y) w (jv fun s3 => some (.null, s3))) (R := fun s => some (.null, s.2)) (y - x) (fun k s => s.1 = iI ((x + k : Nat) : Int) ∧ s.2.2 = M.2 ∧ (∀ b j, ¬ (b = a ∧ x ≤ j ∧ j < x + k) → s.2.1 b j = M.1 b j) ∧ ∀ j, x ≤ j → j < x + k → s.2.1 a j = w) (iI x, M) 4294967296 (by omega) ⟨rfl, rfl, fun _ _ _ => rfl, fun j p q => by omega⟩ (fun s' h1 h2 => ?_) (fun k s hk' hI => ?_) (fun s hI go => ?_)
  · obtain ⟨g1, g2, g3, g4⟩ := h1
    rw [show x + (y - x) = y by omega] at g3 g4
    exact ⟨s'.2, h2, g2, g3, g4⟩
  · obtain ⟨i1, M1⟩ := s
    obtain ⟨g1, g2, g3, g4⟩ := hI
    dsimp only at g1 g2 g3 g4
    subst g1
    have k1 : M1.2.2.2[a]? = some (100, N) := by rw [congrArg (fun z => z.2.2) g2]; exact hk
    refine ⟨(iI ((x + (k + 1) : Nat) : Int), sI M1 a (x + k) w), ⟨rfl, g2, fun b j p => ?_, fun j p q => ?_⟩, fun go => ?_⟩
    · by_cases y1 : b = a
      · by_cases y2 : j = x + k
        · exact absurd ⟨y1, by omega, by omega⟩ p
        · exact (sI_nej y2).trans (g3 b j fun z => p ⟨z.1, z.2.1, by omega⟩)
      · exact (sI_ne y1).trans (g3 b j fun z => y1 z.1)
    · by_cases y2 : j = x + k
      · rw [y2]; exact sI_eq
      · exact (sI_nej y2).trans (g4 j p (by omega))
    · unfold c353_10
      refine (if_neg (leI_n rfl rfl (by omega))).trans ?_
      refine (asI_e k1 (by omega) (by omega) (by omega)).trans ?_
      exact (ltI_q (z := ((x + (k + 1) : Nat) : Int)) (cvI (adI rfl li_1) (by omega)))
  · obtain ⟨i1, M1⟩ := s
    obtain ⟨g1, -⟩ := hI
    dsimp only at g1
    subst g1
    unfold c353_10
    refine (if_pos (leI_p rfl rfl (by omega))).trans ?_
    exact jv_e
theorem zId.of (hE : zE2 e κ M) (hq : zSd e q) (hm : 0 ≤ n ∧ n < e.1 24 q 0) : zId e (96 * q + n) ∧ (96 * q + n < 96 ↔ q = 0) ∧ 0 ≤ q ∧ q ≤ 1 := by
  have := (hE.1 q hq).1
  unfold zId
  rcases hq with q0 | ⟨q0, -⟩ <;> subst q0 <;> omega
/-- what is told stands in the members of a unit -/
theorem kp45 (hd : 5 ≤ d) (hC : CT M) (hE : zCE e κ M) (hq : zSd e q) (hk : 0 ≤ k ∧ k < e.1 25 q 0) (hv : v = iI q) : ∃ M', runX d 45 [va_rf (some 88), .int v, va_rf (some (κ 7 (8 * q + k)))] M = some (.null, M') ∧ M'.2 = M.2 ∧ (∀ a j, a ≠ 106 → M'.1 a j = M.1 a j) ∧ (∀ id, zId e id → e.1 3 id 0 = 8 * q + k → (e.1 4 id 0 = 1 → M'.1 106 (e.1 23 id 0).toNat = e.2 0 id 0) ∧ (e.1 4 id 0 = 3 → ∀ i, 0 ≤ i → i < e.1 5 id 0 → M'.1 106 (e.1 23 id 0 + i).toNat = 0)) ∧ ∀ id, zId e id → ¬ (e.1 3 id 0 = 8 * q + k ∧ (e.1 4 id 0 = 1 ∨ e.1 4 id 0 = 3)) → ∀ i, 0 ≤ i → i < zlen e id → M'.1 106 (e.1 23 id 0 + i).toNat = M.1 106 (e.1 23 id 0 + i).toNat := by
  obtain ⟨d, rfl⟩ : ∃ e, d = e + 1 := ⟨d - 1, by omega⟩
  subst hv
  obtain ⟨⟨u1, u2⟩, u3, u4, u5⟩ := hE.2.2.1.1 q hq
  obtain ⟨u6, u7⟩ := u5
  obtain ⟨⟨a1, a2⟩, a3, a4, a5, a6, a7, a8⟩ := u7 k hk.1 hk.2
  obtain ⟨F, hF⟩ : ∃ F, F = e.1 26 (8 * q + k) 0 := ⟨_, rfl⟩
  obtain ⟨L, hL⟩ : ∃ L, L = e.1 27 (8 * q + k) 0 := ⟨_, rfl⟩
  rw [← hF] at a3 a6 a7
  rw [← hL] at a4 a6 a7
  have hb24 := (hE.2.1.1 q hq).1
  rw [r45]; unfold b45; rw [aR_e, aI_e, aR_e, aZ_e]; unfold c45
  rw [gtI_q a2 a3, jn_v]
  refine lp_use (body := c45_5 (runX d) (some 88) (iI q) (some (κ 7 (8 * q + k))) (jv fun s2 => some (.null, s2))) (R := fun s => some (.null, s.2)) (L - F).toNat (fun m s => s.1 = iI (F + m) ∧ s.2.2 = M.2 ∧ (∀ a j, a ≠ 106 → s.2.1 a j = M.1 a j) ∧ (∀ id, 96 * q + F ≤ id → id < 96 * q + F + m → (e.1 4 id 0 = 1 → s.2.1 106 (e.1 23 id 0).toNat = e.2 0 id 0) ∧ (e.1 4 id 0 = 3 → ∀ i, 0 ≤ i → i < e.1 5 id 0 → s.2.1 106 (e.1 23 id 0 + i).toNat = 0)) ∧ ∀ id, zId e id → ¬ (96 * q + F ≤ id ∧ id < 96 * q + F + m ∧ (e.1 4 id 0 = 1 ∨ e.1 4 id 0 = 3)) → ∀ i, 0 ≤ i → i < zlen e id → s.2.1 106 (e.1 23 id 0 + i).toNat = M.1 106 (e.1 23 id 0 + i).toNat) (iI F, M) 4294967296 (by omega) ⟨show iI F = iI (F + ((0 : Nat) : Int)) from congrArg iI (by omega), rfl, fun _ _ _ => rfl, fun id p q => by omega, fun _ _ _ _ _ _ => rfl⟩ (fun s' h1 h2 => ?_) (fun m s hm hI => ?_) (fun s hI go => ?_)
  · obtain ⟨g1, g2, g3, g4, g5⟩ := h1
    have rng : ∀ id, zId e id → (e.1 3 id 0 = 8 * q + k ↔ 96 * q + F ≤ id ∧ id < 96 * q + F + ((L - F).toNat : Int)) := fun id hid => by
      have un := hE.2.2.1.2 id hid
      have b25 := (hE.2.2.1.1 0 (Or.inl rfl)).1
      have b24 := (hE.2.1.1 0 (Or.inl rfl)).1
      by_cases y : 96 * q ≤ id ∧ id < 96 * q + e.1 24 q 0
      · have := a7 (id - 96 * q) (by omega) (by omega)
        rw [show 96 * q + (id - 96 * q) = id by omega] at this
        rw [this]; omega
      · refine ⟨fun z => ?_, fun z => absurd (by omega) y⟩
        exfalso
        unfold zId at hid
        by_cases y0 : id < 96
        · rw [if_pos y0] at un
          rcases hq with q0 | ⟨q0, -⟩ <;> subst q0 <;> omega
        · rw [if_neg y0] at un
          rcases hq with q0 | ⟨q0, -⟩ <;> subst q0 <;> omega
    refine ⟨s'.2, h2, g2, g3, fun id hid z => g4 id ((rng id hid).1 z).1 ((rng id hid).1 z).2, fun id hid z => g5 id hid fun r => z ⟨(rng id hid).2 ⟨r.1, r.2.1⟩, r.2.2⟩⟩
  · obtain ⟨i1, Mk⟩ := s
    obtain ⟨g1, g2, g3, g4, g5⟩ := hI
    dsimp only at g1 g2 g3 g4 g5
    subst g1
    have fo : zFo κ M Mk := ⟨g2, fun a j p _ _ _ => g3 a j fun z => by rw [z] at p; rw [inW_c (by decide)] at p; cases p⟩
    have Ek := hE.fo fo
    have Ck : CT Mk := ⟨fun q y => by rw [congrArg (fun z => z.2.2) g2]; exact hC.1 q y, fun q y => by rw [congrArg (fun z => z.2.1) g2]; exact hC.2 q y⟩
    have kk := ck_88 Ck
    have k106 := ck_106 Ck
    obtain ⟨id, hid⟩ : ∃ id, id = 96 * q + (F + m) := ⟨_, rfl⟩
    obtain ⟨zid, zlt, q0, q1⟩ := zId.of (n := F + m) Ek.2.1 hq (by omega)
    rw [← hid] at zid zlt
    obtain ⟨⟨b1, b2⟩, b3, b4, b5, b6, b7, b8, b9⟩ := Ek.2.1.2 id zid
    obtain ⟨-, c2, c3, ow, c4⟩ := Ek.2.1.1 q hq
    obtain ⟨⟨x1, x2, -, -, -⟩, -⟩ := Ek.1.2.2 q hq
    obtain ⟨⟨y1, y2⟩, -, y4, -⟩ := (Ek.2.2.1.1 q hq).2.2.2.2 k hk.1 hk.2
    rw [← hL] at y4
    have get := ls_get (d := d) (v := iI (F + m)) (j := F + m) (by omega) c4 rfl (by omega)
    rw [← hid] at get
    have lay := hE.2.2.2.1.1 id zid
    have dis := hE.2.2.2.1.2
    have cell : iI q * 4800 + iI (e.1 23 id 0 - (if id < 96 then 0 else 4800)) = iI (e.1 23 id 0) := by
      refine cvI (adI (mlI (y := 4800) rfl rfl) rfl) ?_
      by_cases y0 : id < 96
      · rw [if_pos y0]; have := zlt.1 y0; subst this; omega
      · rw [if_neg y0]
        have : q = 1 := by
          have := fun z => y0 (zlt.2 z)
          omega
        subst this; omega
    have cb : 0 ≤ e.1 23 id 0 ∧ e.1 23 id 0 + zlen e id ≤ 9600 := by
      by_cases y0 : id < 96
      · rw [if_pos y0, if_pos y0] at lay; omega
      · rw [if_neg y0, if_neg y0] at lay; omega
    have zl1 : 1 ≤ zlen e id := by
      unfold zlen; split
      · have := b9.2.2.1 (by assumption); omega
      · omega
    have head : ∀ go : Int32 × Mem → XA, c45_5 (runX d) (some 88) (iI q) (some (κ 7 (8 * q + k))) (jv fun s2 => some (.null, s2)) (iI (F + m), Mk) go = (jn (fun (s13 : Mem) => lt (iI (F + m) + (1 : Int32)) fun (x14 : Int32) => go (x14, s13)) fun j95 => if iI (e.1 4 id 0) = ((1 : Int32)) then (asI 100 Mk (some 106) (iI (e.1 23 id 0)) (iI (e.1 5 id 0)) fun M17 => j95 M17) else (if iI (e.1 4 id 0) = ((3 : Int32)) then (cV (runX d 353 [va_rf (some 106), .int (iI (e.1 23 id 0)), .int (iI (e.1 23 id 0) + iI (e.1 5 id 0)), .int ((0 : Int32))] Mk) fun M21 => j95 M21) else (j95 Mk)) : XA) := fun go => by
      unfold c45_5
      refine (gtI_q y2 y4).trans ?_
      refine (if_neg (leI_n rfl rfl (by omega))).trans ?_
      refine (gtP_q kk (cf_88_8 Ck)).trans ?_
      refine (alP_q (z := q) (ck_91 Ck) rfl (by omega) x1).trans ?_
      refine (gtP_q x2 c2).trans ?_
      refine (vC_e c4.1.2.1).trans ?_
      refine (cP_e get).trans ?_
      refine (cst_e b2).trans ?_
      refine (gtI_q b2 b8).trans ?_
      refine (ltI_q (z := e.1 23 id 0) cell).trans ?_
      refine (gtI_q b2 b4).trans ?_
      rw [jn_v, jn_v]
      by_cases z1 : iI (e.1 4 id 0) = 1
      · rw [if_pos z1, if_pos z1]
        refine (gtP_q kk (cf_88_16 Ck)).trans ?_
        exact gtI_q b2 b5
      · rw [if_neg z1, if_neg z1]
        refine (gtI_q b2 b4).trans ?_
        by_cases z3 : iI (e.1 4 id 0) = 3
        · rw [if_pos z3, if_pos z3]
          refine (gtP_q kk (cf_88_16 Ck)).trans ?_
          exact gtI_q b2 b5
        · rw [if_neg z3, if_neg z3]
    have fin : ∀ Mn : Mem, Mn.2 = Mk.2 → (∀ a j, a ≠ 106 → Mn.1 a j = Mk.1 a j) → (e.1 4 id 0 = 1 → Mn.1 106 (e.1 23 id 0).toNat = e.2 0 id 0) → (e.1 4 id 0 = 3 → ∀ i, 0 ≤ i → i < e.1 5 id 0 → Mn.1 106 (e.1 23 id 0 + i).toNat = 0) → (∀ x : Int, 0 ≤ x → (x < e.1 23 id 0 ∨ e.1 23 id 0 + zlen e id ≤ x ∨ ¬ (e.1 4 id 0 = 1 ∨ e.1 4 id 0 = 3)) → Mn.1 106 x.toNat = Mk.1 106 x.toNat) → (iI (F + ((m + 1 : Nat) : Int)) = iI (F + ((m + 1 : Nat) : Int)) ∧ Mn.2 = M.2 ∧ (∀ a j, a ≠ 106 → Mn.1 a j = M.1 a j) ∧ (∀ id, 96 * q + F ≤ id → id < 96 * q + F + ((m + 1 : Nat) : Int) → (e.1 4 id 0 = 1 → Mn.1 106 (e.1 23 id 0).toNat = e.2 0 id 0) ∧ (e.1 4 id 0 = 3 → ∀ i, 0 ≤ i → i < e.1 5 id 0 → Mn.1 106 (e.1 23 id 0 + i).toNat = 0)) ∧ ∀ id, zId e id → ¬ (96 * q + F ≤ id ∧ id < 96 * q + F + ((m + 1 : Nat) : Int) ∧ (e.1 4 id 0 = 1 ∨ e.1 4 id 0 = 3)) → ∀ i, 0 ≤ i → i < zlen e id → Mn.1 106 (e.1 23 id 0 + i).toNat = M.1 106 (e.1 23 id 0 + i).toNat) := fun Mn n1 n2 n3 n4 n5 => by
      refine ⟨rfl, n1.trans g2, fun a j p => (n2 a j p).trans (g3 a j p), fun i2 p r => ?_, fun i2 z2 p i r t => ?_⟩
      · by_cases y : i2 = id
        · rw [y]; exact ⟨n3, n4⟩
        · have zi2 : zId e i2 := by
            have := (zId.of (n := i2 - 96 * q) Ek.2.1 hq (by omega)).1
            rw [show 96 * q + (i2 - 96 * q) = i2 by omega] at this
            exact this
          have dd := dis i2 id zi2 zid y
          have l2 := hE.2.2.2.1.1 i2 zi2
          have l0 : 0 ≤ e.1 23 i2 0 := by split at l2 <;> omega
          obtain ⟨w1, w2⟩ := g4 i2 p (by omega)
          refine ⟨fun z => ?_, fun z i r t => ?_⟩
          · have zz : zlen e i2 = 1 := by unfold zlen; rw [if_neg (by omega)]
            rw [n5 _ l0 (by omega)]; exact w1 z
          · have zz : zlen e i2 = e.1 5 i2 0 := by unfold zlen; rw [if_pos z]
            rw [n5 _ (by omega) (by omega)]; exact w2 z i r t
      · have l2 := hE.2.2.2.1.1 i2 z2
        have l0 : 0 ≤ e.1 23 i2 0 := by split at l2 <;> omega
        have old := g5 i2 z2 (fun z => p ⟨z.1, by omega, z.2.2⟩) i r t
        by_cases y : i2 = id
        · rw [← old]
          exact n5 _ (by omega) (Or.inr (Or.inr fun z => p (by rw [y]; exact ⟨by omega, by omega, z⟩)))
        · have dd := dis i2 id z2 zid y
          rw [n5 _ (by omega) (by omega)]; exact old
    by_cases z1 : e.1 4 id 0 = 1
    · have zz : zlen e id = 1 := by unfold zlen; rw [if_neg (by omega)]
      refine ⟨(iI (F + ((m + 1 : Nat) : Int)), sI Mk 106 (e.1 23 id 0).toNat (iI (e.1 5 id 0))), fin _ rfl (fun a j p => sI_ne p) (fun _ => sI_eq.trans b6.symm) (fun z => by omega) (fun x p r => sI_nej (by omega)), fun go => (head go).trans ?_⟩
      refine (jn_v).trans ?_
      refine (if_pos (eqI_p rfl li_1 z1)).trans ?_
      refine (asI_q (n := 9600) (z := e.1 23 id 0) (y := e.1 5 id 0) k106 rfl (by omega) rfl).trans ?_
      refine (jv_e).trans ?_
      exact (ltI_q (z := F + ((m + 1 : Nat) : Int)) (cvI (adI rfl li_1) (by omega)))
    · by_cases z3 : e.1 4 id 0 = 3
      · have zz : zlen e id = e.1 5 id 0 := by unfold zlen; rw [if_pos z3]
        have v5 := b9.2.2.1 z3
        obtain ⟨Mn, r1, r2, r3, r4⟩ := kp353 (d := d) (M := Mk) (a := 106) (N := 9600) (x := (e.1 23 id 0).toNat) (y := (e.1 23 id 0 + e.1 5 id 0).toNat) (w := 0) (v1 := iI (e.1 23 id 0)) (v2 := iI (e.1 23 id 0) + iI (e.1 5 id 0)) (by omega) k106 (by omega) (by congr 1; omega) (cvI (adI rfl rfl) (by omega))
        refine ⟨(iI (F + ((m + 1 : Nat) : Int)), Mn), fin _ r2 (fun a j p => r3 a j fun z => p z.1) (fun z => by omega) (fun _ i p r => r4 _ (by omega) (by omega)) (fun x p r => r3 _ _ fun z => by omega), fun go => (head go).trans ?_⟩
        refine (jn_v).trans ?_
        refine (if_neg (eqI_n rfl li_1 (by omega))).trans ?_
        refine (if_pos (eqI_p (y := 3) rfl rfl z3)).trans ?_
        refine (cV_e r1).trans ?_
        refine (jv_e).trans ?_
        exact (ltI_q (z := F + ((m + 1 : Nat) : Int)) (cvI (adI rfl li_1) (by omega)))
      · refine ⟨(iI (F + ((m + 1 : Nat) : Int)), Mk), fin _ rfl (fun a j p => rfl) (fun z => by omega) (fun z => by omega) (fun x p r => rfl), fun go => (head go).trans ?_⟩
        refine (jn_v).trans ?_
        refine (if_neg (eqI_n rfl li_1 (by omega))).trans ?_
        refine (if_neg (eqI_n (y := 3) rfl rfl (by omega))).trans ?_
        refine (jv_e).trans ?_
        exact (ltI_q (z := F + ((m + 1 : Nat) : Int)) (cvI (adI rfl li_1) (by omega)))
  · obtain ⟨i1, Mk⟩ := s
    obtain ⟨g1, g2, g3, g4, g5⟩ := hI
    dsimp only at g1 g2 g3
    subst g1
    have fo : zFo κ M Mk := ⟨g2, fun a j p _ _ _ => g3 a j fun z => by rw [z] at p; rw [inW_c (by decide)] at p; cases p⟩
    have Ek := hE.fo fo
    obtain ⟨⟨y1, y2⟩, -, y4, -⟩ := (Ek.2.2.1.1 q hq).2.2.2.2 k hk.1 hk.2
    rw [← hL] at y4
    unfold c45_5
    refine (gtI_q y2 y4).trans ?_
    refine (if_pos (leI_p rfl rfl (by omega))).trans ?_
    exact jv_e
end S99f
