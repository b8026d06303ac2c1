/-- the same but for whole numbers in the cells of A -/
def Sm (A : List Nat) (M M' : Mem) : Prop := M'.2 = M.2 ∧ ∀ a j, a ∉ A → M'.1 a j = M.1 a j
theorem Sm.refl {A : List Nat} {M : Mem} : Sm A M M := ⟨rfl, fun _ _ _ => rfl⟩
theorem Sm.trans {A : List Nat} {M M' M2 : Mem} (h : Sm A M M') (g : Sm A M' M2) : Sm A M M2 := ⟨g.1.trans h.1, fun a j q => (g.2 a j q).trans (h.2 a j q)⟩
theorem sI_ne {M : Mem} {a b j i : Nat} {v : Int32} (h : b ≠ a) : (sI M a j v).1 b i = M.1 b i := by
  show up2 M.1 a j v b i = M.1 b i
  unfold up2
  rw [if_neg h]
theorem sI_eq {M : Mem} {a j : Nat} {v : Int32} : (sI M a j v).1 a j = v := by
  show up2 M.1 a j v a j = v
  unfold up2
  rw [if_pos rfl, if_pos rfl]
theorem Sm.sI {A : List Nat} {M : Mem} {a j : Nat} {v : Int32} (h : a ∈ A) : Sm A M (sI M a j v) := ⟨rfl, fun b i q => sI_ne (fun e => q (by rw [e]; exact h))⟩
theorem Sm.mono {A B : List Nat} {M M' : Mem} (h : Sm A M M') (hB : ∀ a, a ∈ A → a ∈ B) : Sm B M M' := ⟨h.1, fun a j q => h.2 a j (fun e => q (hB a e))⟩
def End (L : Nat) (xs : Nat → Int32) (M : Mem) : Prop := Base L xs M ∧ M.2.2.2.length ≤ 600064 ∧ tot M.2.2.2 ≤ tot (Minit L xs).2.2.2 + 7302250
def Inv1 (L : Nat) (xs : Nat → Int32) (k : Nat) (M : Mem) : Prop := if k = 0 then M = app (Minit L xs) LQ183 else End L xs M
theorem Sm.k {A : List Nat} {M M' : Mem} (h : Sm A M M') : M'.2.2.2 = M.2.2.2 := congrArg (fun z => z.2.2) h.1
theorem Sm.p {A : List Nat} {M M' : Mem} (h : Sm A M M') : M'.2.2.1 = M.2.2.1 := congrArg (fun z => z.2.1) h.1
theorem End.sm {L : Nat} {xs : Nat → Int32} {A : List Nat} {M M' : Mem} (h : Sm A M M') (hA : ∀ a, a ∈ A → 64 ≤ a) (e : End L xs M) : End L xs M' := by
  obtain ⟨⟨⟨e1, e2⟩, e3, e4⟩, e5, e6⟩ := e
  refine ⟨⟨⟨fun a ha => ?_, fun a j ha => ?_⟩, ?_, ?_⟩, ?_, ?_⟩
  · rw [h.k]; exact e1 a ha
  · rw [h.2 a j (fun q => by have := hA a q; omega)]; exact e2 a j ha
  · rw [h.k]; exact e3
  · rw [h.k]; exact e4
  · rw [h.k]; exact e5
  · rw [h.k]; exact e6
theorem FrR.sm {A : List Nat} {M M' : Mem} (h : Sm A M M') (h1 : 160 ∉ A) (h2 : 227 ∉ A) (e : FrR M) : FrR M' := by
  obtain ⟨e1, e2, e3, e4, e5, e6, e7, e8, e9, e10, e11, e12⟩ := e
  refine ⟨by rw [h.k]; exact e1, ?_, ?_, ?_, ?_, ?_, ?_, ?_, ?_, by rw [h.p]; exact e10, by rw [h.k]; exact e11, fun i hi => by rw [h.2 _ _ h2]; exact e12 i hi⟩ <;> (rw [h.2 _ _ h1]; assumption)
theorem End.app {L : Nat} {xs : Nat → Int32} {l : List Op} (hv : vOK l = true) (hx : kA l 64 = some (12, 19)) (hy : kA l 160 = some (13, 157)) (hn : nl l ≤ 600064) (ht : tot (kl l) ≤ 7302250) : End L xs (app (Minit L xs) l) := by
  refine ⟨⟨app_ok hv, kA_ok hx, kA_ok hy⟩, ?_, ?_⟩
  · rw [nl_ok]; exact hn
  · rw [app_k]
    have q : ∀ (A B : List (Nat × Nat)), tot (A ++ B) = tot A + tot B := by intro A B; unfold tot; rw [List.map_append, List.sum_append]
    rw [q]
    omega
section F1
variable {L : Nat} {xs : Nat → Int32}
theorem vq : vOK LQ183 = true := by decide +kernel
theorem F0p (a j : Nat) (v : Option Nat) (h : pO LQ183 a j = v) : (app (Minit L xs) LQ183).2.2.1 a j = v := (app_p vq a j).trans h
theorem F0i (a j : Nat) (z : Int) (ha : 64 ≤ a) (h : iO LQ183 a j = z) : (app (Minit L xs) LQ183).1 a j = iI z := by rw [app_i vq a j ha, h]
theorem F0z (a j : Nat) (z : Int) {v : Int32} (ha : 64 ≤ a) (h : iO LQ183 a j = z) (hz : iI z = v) : (app (Minit L xs) LQ183).1 a j = v := (F0i a j z ha h).trans hz
theorem F0C : FrC (app (Minit L xs) LQ183) := by
  refine ⟨kA_ok (by decide +kernel), F0p 64 0 (some 65) (by decide +kernel), kA_ok (by decide +kernel), F0z 65 10 (0) (by decide) (by decide +kernel) (by decide +kernel), F0p 64 1 (some 87) (by decide +kernel), kA_ok (by decide +kernel), F0z 87 2 (0) (by decide) (by decide +kernel) (by decide +kernel), F0p 64 2 (some 88) (by decide +kernel), kA_ok (by decide +kernel), F0p 64 4 (some 140) (by decide +kernel), kA_ok (by decide +kernel), F0z 140 2 (0) (by decide) (by decide +kernel) (by decide +kernel), F0p 64 5 (some 141) (by decide +kernel), kA_ok (by decide +kernel), F0z 141 2 (0) (by decide) (by decide +kernel) (by decide +kernel), F0z 64 7 (0) (by decide) (by decide +kernel) (by decide +kernel), F0z 64 10 (0) (by decide) (by decide +kernel) (by decide +kernel), F0z 64 13 (-2) (by decide) (by decide +kernel) (by decide +kernel), F0z 64 16 (0) (by decide) (by decide +kernel) (by decide +kernel), F0p 88 7 (some 90) (by decide +kernel), kA_ok (by decide +kernel), ?_⟩
  have q : ∀ i, i < 8 → pO LQ183 90 i = some (108 + 4 * i) ∧ kA LQ183 (108 + 4 * i) = some (10, 9) ∧ iO LQ183 (108 + 4 * i) 0 = -2 := by decide +kernel
  intro i hi
  obtain ⟨q1, q2, q3⟩ := q i hi
  exact ⟨F0p _ _ _ q1, kA_ok q2, F0z _ _ _ (by omega) q3 (by decide +kernel)⟩
theorem F0R : FrR (app (Minit L xs) LQ183) := by
  refine ⟨kA_ok (by decide +kernel), F0z 160 2 (0) (by decide) (by decide +kernel) (by decide +kernel), F0z 160 65 (0) (by decide) (by decide +kernel) (by decide +kernel), F0z 160 109 (0) (by decide) (by decide +kernel) (by decide +kernel), F0z 160 129 (0) (by decide) (by decide +kernel) (by decide +kernel), F0z 160 138 (0) (by decide) (by decide +kernel) (by decide +kernel), F0z 160 148 (0) (by decide) (by decide +kernel) (by decide +kernel), F0z 160 151 (0) (by decide) (by decide +kernel) (by decide +kernel), F0z 160 154 (0) (by decide) (by decide +kernel) (by decide +kernel), F0p 160 112 (some 227) (by decide +kernel), kA_ok (by decide +kernel), ?_⟩
  have q : ∀ i, i < 8 → iO LQ183 227 i = -1 := by decide +kernel
  intro i hi
  exact F0z _ _ _ (by decide) (q i hi) (by decide +kernel)
theorem F0E : End L xs (app (Minit L xs) LQ183) := End.app vq (by decide +kernel) (by decide +kernel) (by decide +kernel) (by decide +kernel)
theorem sim0 {qc qr : Nat} {as : List Value} (r : Int32) (hc : ∀ M, FrC M → runX 2040 qc (va_rf (some 64) :: as) M = some (.int r, M)) (hr : ∀ M, FrR M → runX 2040 qr (va_rf (some 160) :: as) M = some (.int r, M)) : Sim 1 L xs (Inv1 L xs) qc qr as := by
  intro k M hk hI
  obtain rfl : k = 0 := by omega
  have hI : M = app (Minit L xs) LQ183 := hI
  subst hI
  exact ⟨r, _, _, hc _ F0C, hr _ F0R, F0E.1, F0E⟩
theorem sim1 {qc qr : Nat} {as : List Value} (h : ∃ (r : Int32) (M1 M2 : Mem), runX 2040 qc (va_rf (some 64) :: as) (app (Minit L xs) LQ183) = some (.int r, M1) ∧ runX 2040 qr (va_rf (some 160) :: as) M1 = some (.int r, M2) ∧ Base L xs M1 ∧ End L xs M2) : Sim 1 L xs (Inv1 L xs) qc qr as := by
  intro k M hk hI
  obtain rfl : k = 0 := by omega
  have hI : M = app (Minit L xs) LQ183 := hI
  subst hI
  exact h
end F1
section F2
variable {M : Mem} {d : Nat} {v v1 v2 v3 v4 v5 v6 : Int32}
theorem q_137a (h : FrC M) (g : v < 1 ∨ 1000 < v) : runX (d + 4) 137 [va_rf (some 64), .int v] M = some (.int (-1), M) := by
  rw [r137]; unfold b137; rw [aR_e, aI_e, aZ_e]; unfold c137; rw [jn_e]
  by_cases h0 : v < 1
  · rw [if_pos h0]
  · rw [if_neg h0, if_neg (by rcases g with g | g; exact absurd g h0; exact Int32.not_le.mpr g)]
theorem q_137b (h : FrC M) (g : ¬ (v < 1 ∨ 1000 < v)) : runX (d + 4) 137 [va_rf (some 64), .int v] M = some (.int (M.1 88 1), sI M 88 1 v) := by
  rw [r137]; unfold b137; rw [aR_e, aI_e, aZ_e]; unfold c137
  rw [jn_e, if_neg (fun q => g (Or.inl q)), if_pos (Int32.not_lt.mp (fun q => g (Or.inr q))), gtP_e h.x, h.p2, gtI_e h.k88, gtP_e h.x, h.p2, ptI_e h.k88]
theorem q_268a (h : FrR M) (g : v < 1 ∨ 1000 < v) : runX (d + 4) 268 [va_rf (some 160), .int v] M = some (.int (-1), M) := by
  rw [r268]; unfold b268; rw [aR_e, aI_e, aZ_e]; unfold c268; rw [cI_e a_184, if_pos g, if_pos rfl]
theorem q_268b (h : FrR M) (g : ¬ (v < 1 ∨ 1000 < v)) : runX (d + 4) 268 [va_rf (some 160), .int v] M = some (.int (M.1 160 77), sI M 160 77 v) := by
  rw [r268]; unfold b268; rw [aR_e, aI_e, aZ_e]; unfold c268; rw [cI_e a_184, if_neg g, if_neg (by decide), gtI_e h.y, ptI_e h.y]
theorem q_138 (h : FrC M) : runX (d + 4) 138 [va_rf (some 64), .int v] M = some (.int (M.1 88 2), sI M 88 2 v) := by
  rw [r138]; unfold b138; rw [aR_e, aI_e, aZ_e]; unfold c138
  rw [gtP_e h.x, h.p2, gtI_e h.k88, gtP_e h.x, h.p2, ptI_e h.k88]
theorem q_269 (h : FrR M) : runX (d + 4) 269 [va_rf (some 160), .int v] M = some (.int (M.1 160 78), sI M 160 78 v) := by
  rw [r269]; unfold b269; rw [aR_e, aI_e, aZ_e]; unfold c269; rw [gtI_e h.y, ptI_e h.y]
/-- the tape's cells -/
def TpC (M : Mem) (n : Nat) : Prop := M.2.2.1 65 0 = some 66 ∧ M.2.2.2[66]? = some (9, 8) ∧ M.2.2.1 66 0 = some 67 ∧ M.2.2.2[67]? = some (101, 3000) ∧ M.1 66 1 = iI n
def TpR (M : Mem) (n : Nat) : Prop := M.2.2.1 160 0 = some 161 ∧ M.2.2.2[161]? = some (101, 3000) ∧ M.1 160 1 = iI n
theorem ad_l {rec : Nat → List Value → Mem → XA} {j46 : Mem → XA} : ∀ (m n N : Nat) (M : Mem), TpC M n → n + m ≤ 3000 → m ≤ 4 → m < N → ∃ M', lp (c112_3 rec (some 66) v j46) N (iI (8 * m - 8), M) = j46 M' ∧ Sm [66, 67] M M' ∧ M'.1 66 1 = iI (n + m : Nat) := by
  intro m
  induction m with
  | zero =>
    intro n N M h h1 h2 h3
    obtain ⟨N, rfl⟩ : ∃ n, N = n + 1 := ⟨N - 1, by omega⟩
    refine ⟨M, ?_, Sm.refl, h.2.2.2.2⟩
    rw [lp_e]; unfold c112_3; dsimp only; rw [if_pos (by decide +kernel)]
  | succ m ih =>
    intro n N M h h1 h2 h3
    obtain ⟨N, rfl⟩ : ∃ n, N = n + 1 := ⟨N - 1, by omega⟩
    obtain ⟨g1, g2, g3, g4, g5⟩ := h
    have e0 : ¬ iI (8 * ((m + 1 : Nat) : Int) - 8) < 0 := by rw [iI_0, iI_lt (by omega) (by omega) (by omega) (by omega)]; omega
    have e1 : ¬ (3000 : Int32) ≤ iI n := by rw [lit_3000, iI_le (by omega) (by omega) (by omega) (by omega)]; omega
    have e2 : iI (8 * ((m + 1 : Nat) : Int) - 8) + (-8 : Int32) = iI (8 * (m : Int) - 8) := by
      rw [show (-8 : Int32) = iI (-8) from by decide +kernel, iI_add]
      congr 1
      omega
    generalize hb : ((((Int32.toUInt32 v >>> (Int32.toUInt32 (iI (8 * ((m + 1 : Nat) : Int) - 8)) &&& Int32.toUInt32 31)).toInt32).toInt8.toInt32).toInt8.toInt32) = by_
    have t : TpC (sI (sI M 67 n by_) 66 1 (iI ((n + 1 : Nat) : Int))) (n + 1) := ⟨g1, g2, g3, g4, sI_eq⟩
    obtain ⟨M', a1, a2, a3⟩ := ih (n + 1) N _ t (by omega) (by omega) (by omega)
    refine ⟨M', ?_, ((Sm.sI (by decide)).trans (Sm.sI (by decide))).trans a2, by rw [a3]; congr 2; omega⟩
    have e3 : (sI M 67 n by_).1 66 1 = iI n := (sI_ne (by decide)).trans g5
    rw [lp_e]
    generalize hK : lp (c112_3 rec (some 66) v j46) N = K
    rw [hK] at a1
    unfold c112_3
    dsimp only
    rw [if_neg e0, gtI_e g2, g5, if_neg e1, gtP_e g2, g3, gtI_e g2, g5, asI_e g4 (by omega) (by omega) (by omega), Int.toNat_natCast, hb, gtI_e (t := (9, 8)) (M := sI M 67 n by_) g2, e3, ptI_e (t := (9, 8)) (M := sI M 67 n by_) g2, lt_e, e2, iI_1, iI_add]
    exact a1
theorem a_112 {n : Nat} (h : TpC M n) (h1 : n + 4 ≤ 3000) : ∃ M', runX (d + 1) 112 [va_rf (some 66), .int v] M = some (.null, M') ∧ Sm [66, 67] M M' ∧ TpC M' (n + 4) := by
  obtain ⟨M', a1, a2, a3⟩ := ad_l (v := v) (rec := runX d) (j46 := fun s => some (.null, s)) 4 n 4294967296 M h h1 (by omega) (by omega)
  refine ⟨M', ?_, a2, ?_⟩
  · rw [r112]; unfold b112; rw [aR_e, aI_e, aZ_e]; unfold c112; rw [jn_e]; exact a1
  · obtain ⟨g1, g2, g3, g4, g5⟩ := h
    exact ⟨by rw [a2.p]; exact g1, by rw [a2.k]; exact g2, by rw [a2.p]; exact g3, by rw [a2.k]; exact g4, a3⟩
theorem q_128 (h : FrC M) (t : TpC M 0) : ∃ M', runX (d + 4) 128 [va_rf (some 64), .int v1, .int v2, .int v3, .int v4, .int v5] M = some (.int (iI 20), M') ∧ Sm [66, 67] M M' := by
  obtain ⟨M1, a1, s1, t1⟩ := a_112 (d := d + 2) (v := v1) t (by omega)
  obtain ⟨M2, a2, s2, t2⟩ := a_112 (d := d + 2) (v := v2) t1 (by omega)
  obtain ⟨M3, a3, s3, t3⟩ := a_112 (d := d + 2) (v := v3) t2 (by omega)
  obtain ⟨M4, a4, s4, t4⟩ := a_112 (d := d + 2) (v := v4) t3 (by omega)
  obtain ⟨M5, a5, s5, t5⟩ := a_112 (d := d + 2) (v := v5) t4 (by omega)
  refine ⟨M5, ?_, (((s1.trans s2).trans s3).trans s4).trans s5⟩
  rw [r128]; unfold b128; rw [aR_e, aI_e, aI_e, aI_e, aI_e, aI_e, aZ_e]; unfold c128
  rw [gtP_e h.x, h.p0, gtP_e h.k65, t.1, gtI_e t.2.1, t.2.2.2.2, if_pos (by decide +kernel)]
  rw [vC_e t.2.1, cV_e a1, vC_e t1.2.1, cV_e a2, vC_e t2.2.1, cV_e a3, vC_e t3.2.1, cV_e a4, vC_e t4.2.1, cV_e a5, gtI_e t5.2.1, t5.2.2.2.2]
  rfl
theorem fd_l {rec : Nat → List Value → Mem → XA} {j106 : Mem → XA} : ∀ (m k N : Nat) (M : Mem), k + m = 20 → M.2.2.2[160]? = some (13, 157) → TpR M 0 → m < N → ∃ M', lp (c185_19 rec (some 160) v1 v2 v3 v4 v5 j106) N (iI k, M) = j106 M' ∧ Sm [161] M M' := by
  intro m
  induction m with
  | zero =>
    intro k N M h1 hy h h3
    obtain ⟨N, rfl⟩ : ∃ n, N = n + 1 := ⟨N - 1, by omega⟩
    obtain rfl : k = 20 := by omega
    refine ⟨M, ?_, Sm.refl⟩
    rw [lp_e]; unfold c185_19; dsimp only; rw [if_pos (by decide +kernel)]
  | succ m ih =>
    intro k N M h1 hy h h3
    obtain ⟨N, rfl⟩ : ∃ n, N = n + 1 := ⟨N - 1, by omega⟩
    obtain ⟨g1, g2, g3⟩ := h
    have e0 : ¬ (20 : Int32) ≤ iI k := by rw [show (20 : Int32) = iI 20 from by decide +kernel, iI_le (by omega) (by omega) (by omega) (by omega)]; omega
    have ih' : ∀ w : Int32, ∃ M', lp (c185_19 rec (some 160) v1 v2 v3 v4 v5 j106) N (iI (k : Int) + 1, sI M 161 k w) = j106 M' ∧ Sm [161] M M' := by
      intro w
      obtain ⟨M', a1, a2⟩ := ih (k + 1) N (sI M 161 k w) (by omega) hy ⟨g1, g2, (sI_ne (by decide)).trans g3⟩ (by omega)
      exact ⟨M', by rw [iI_1, iI_add]; exact a1, (Sm.sI (by decide)).trans a2⟩
    rw [lp_e]
    generalize lp (c185_19 rec (some 160) v1 v2 v3 v4 v5 j106) N = K at ih' ⊢
    unfold c185_19
    dsimp only
    rw [if_neg e0, jn_v]
    have hb : ∀ s7 : Int32, ∃ M', jv (fun s7 => gtP (13, 157) M (some 160) 0 fun x8 => gtI (13, 157) M (some 160) 1 fun x9 => if ((4 : Int32)) = 0 then none else asI 101 M x8 (x9 + iI k) (((s7 >>> ((((24 : Int32)) - (((8 : Int32)) * (xrem (iI k) ((4 : Int32))))) &&& 31)).toInt8.toInt32).toInt8.toInt32) fun M10 => lt (iI k + (1 : Int32)) fun (x11 : Int32) => K (x11, M10)) s7 = j106 M' ∧ Sm [161] M M' := by
      intro s7
      obtain ⟨M', a1, a2⟩ := ih' (((s7 >>> ((((24 : Int32)) - (((8 : Int32)) * (xrem (iI k) ((4 : Int32))))) &&& 31)).toInt8.toInt32).toInt8.toInt32)
      refine ⟨M', ?_, a2⟩
      rw [jv_e, gtP_e hy, g1, gtI_e hy, g3, if_neg (by decide), iI_add, asI_e g2 (by omega) (by omega) (by omega), lt_e, show ((((0 : Nat) : Int) + (k : Int)).toNat) = k from by omega]
      exact a1
    by_cases c1 : (4 : Int32) ≤ iI k
    · rw [if_pos c1]
      by_cases c2 : (8 : Int32) ≤ iI k
      · rw [if_pos c2]
        by_cases c3 : (12 : Int32) ≤ iI k
        · rw [if_pos c3]
          by_cases c4 : (16 : Int32) ≤ iI k
          · rw [if_pos c4]; exact hb v5
          · rw [if_neg c4]; exact hb v4
        · rw [if_neg c3]; exact hb v3
      · rw [if_neg c2]; exact hb v2
    · rw [if_neg c1]; exact hb v1
theorem q_185 (h : FrR M) (t : TpR M 0) : ∃ M', runX (d + 4) 185 [va_rf (some 160), .int v1, .int v2, .int v3, .int v4, .int v5] M = some (.int (iI 20), M') ∧ Sm [160, 161] M M' := by
  have e1 : M.1 160 1 = iI (0 : Nat) := t.2.2
  obtain ⟨M', a1, a2⟩ := fd_l (rec := runX (d + 3)) (v1 := v1) (v2 := v2) (v3 := v3) (v4 := v4) (v5 := v5) (j106 := jv (fun s2 => gtI (13, 157) s2 (some 160) 1 fun x3 => ptI (13, 157) s2 (some 160) 1 (x3 + ((20 : Int32))) fun M4 => gtI (13, 157) M4 (some 160) 1 fun x5 => some (.int x5, M4))) 20 0 4294967296 M (by omega) h.y t (by omega)
  have y' : M'.2.2.2[160]? = some (13, 157) := by rw [a2.k]; exact h.y
  have e2 : M'.1 160 1 = iI (0 : Nat) := by rw [a2.2 160 1 (by decide)]; exact e1
  refine ⟨sI M' 160 1 (iI 20), ?_, (a2.mono (by decide)).trans (Sm.sI (by decide))⟩
  rw [r185]; unfold b185; rw [aR_e, aI_e, aI_e, aI_e, aI_e, aI_e, aZ_e]; unfold c185
  rw [gtI_e h.y, e1, if_pos (by decide +kernel), jn_v]
  refine a1.trans ?_
  rw [jv_e, gtI_e y', e2, ptI_e y', gtI_e (t := (13, 157)) (M := sI M' 160 1 _) y']
  rw [show iI ((0 : Nat) : Int) + (20 : Int32) = iI 20 from by decide +kernel]
  rw [sI_eq]
theorem q_129a (h : FrC M) (t : TpC M 0) (g : v < 0 ∨ 0 < v) : runX (d + 4) 129 [va_rf (some 64), .int v] M = some (.int (-1), M) := by
  have e : M.1 66 1 = 0 := t.2.2.2.2.trans (by decide +kernel)
  rw [r129]; unfold b129; rw [aR_e, aI_e, aZ_e]; unfold c129
  rw [gtP_e h.x, h.p0, gtP_e h.k65, t.1, jn_e]
  by_cases h0 : v < 0
  · rw [if_pos h0]
  · rw [if_neg h0, gtI_e t.2.1, e, if_neg (by rcases g with g | g; exact absurd g h0; exact Int32.not_le.mpr g)]
theorem q_129b (h : FrC M) (t : TpC M 0) : runX (d + 4) 129 [va_rf (some 64), .int 0] M = some (.int 0, sI M 66 1 0) := by
  have e : M.1 66 1 = 0 := t.2.2.2.2.trans (by decide +kernel)
  rw [r129]; unfold b129; rw [aR_e, aI_e, aZ_e]; unfold c129
  rw [gtP_e h.x, h.p0, gtP_e h.k65, t.1, jn_e, if_neg (by decide), gtI_e t.2.1, e, if_pos (by decide), gtI_e t.2.1, e, ptI_e t.2.1, gtI_e (t := (9, 8)) (M := sI M 66 1 _) t.2.1]
  rw [show (0 : Int32) - 0 = 0 from by decide]
  rw [sI_eq]
theorem q_186a (h : FrR M) (t : TpR M 0) (g : v < 0 ∨ 0 < v) : runX (d + 4) 186 [va_rf (some 160), .int v] M = some (.int (-1), M) := by
  have e : M.1 160 1 = 0 := t.2.2.trans (by decide +kernel)
  rw [r186]; unfold b186; rw [aR_e, aI_e, aZ_e]; unfold c186
  rw [gtI_e h.y, e, cI_e a_184, if_pos g, if_pos rfl]
theorem q_186b (h : FrR M) (t : TpR M 0) : runX (d + 4) 186 [va_rf (some 160), .int 0] M = some (.int 0, sI M 160 1 0) := by
  have e : M.1 160 1 = 0 := t.2.2.trans (by decide +kernel)
  rw [r186]; unfold b186; rw [aR_e, aI_e, aZ_e]; unfold c186
  rw [gtI_e h.y, e, cI_e a_184, if_neg (by decide), gtI_e h.y, e, ptI_e h.y, gtI_e (t := (13, 157)) (M := sI M 160 1 _) h.y]
  rw [show (0 : Int32) - 0 = 0 from by decide]
  rw [sI_eq]
end F2
section F3
variable {L : Nat} {xs : Nat → Int32}
theorem F0tc : TpC (app (Minit L xs) LQ183) 0 := ⟨F0p 65 0 (some 66) (by decide +kernel), kA_ok (by decide +kernel), F0p 66 0 (some 67) (by decide +kernel), kA_ok (by decide +kernel), F0i 66 1 0 (by decide) (by decide +kernel)⟩
theorem F0tr : TpR (app (Minit L xs) LQ183) 0 := ⟨F0p 160 0 (some 161) (by decide +kernel), kA_ok (by decide +kernel), F0i 160 1 0 (by decide) (by decide +kernel)⟩
theorem TpR.sm {A : List Nat} {M M' : Mem} {n : Nat} (h : Sm A M M') (h1 : 160 ∉ A) (e : TpR M n) : TpR M' n := ⟨by rw [h.p]; exact e.1, by rw [h.k]; exact e.2.1, by rw [h.2 _ _ h1]; exact e.2.2⟩
theorem p1_0 : Sim0 1 L xs (Inv1 L xs) := by
  intro v1 v2 v3 v4 v5
  apply sim1
  obtain ⟨M1, a1, s1⟩ := q_128 (d := 2036) (v1 := v1) (v2 := v2) (v3 := v3) (v4 := v4) (v5 := v5) (F0C (L := L) (xs := xs)) F0tc
  obtain ⟨M2, a2, s2⟩ := q_185 (d := 2036) (v1 := v1) (v2 := v2) (v3 := v3) (v4 := v4) (v5 := v5) (F0R.sm s1 (by decide) (by decide)) (F0tr.sm s1 (by decide))
  have e1 := F0E.sm s1 (by decide)
  exact ⟨_, M1, M2, a1, a2, e1.1, e1.sm s2 (by decide)⟩
theorem p1_1 : Sim1 1 L xs (Inv1 L xs) := by
  intro v
  apply sim1
  by_cases g : v < 0 ∨ 0 < v
  · exact ⟨_, _, _, q_129a F0C F0tc g, q_186a F0R F0tr g, F0E.1, F0E⟩
  · obtain rfl : v = 0 := Int32.le_antisymm (Int32.not_lt.mp (fun q => g (Or.inr q))) (Int32.not_lt.mp (fun q => g (Or.inl q)))
    have s1 : Sm [66, 160] (app (Minit L xs) LQ183) (sI (app (Minit L xs) LQ183) 66 1 0) := Sm.sI (by decide)
    have s1' : Sm [66] (app (Minit L xs) LQ183) (sI (app (Minit L xs) LQ183) 66 1 0) := Sm.sI (by decide)
    have e1 := F0E.sm s1 (by decide)
    exact ⟨_, _, _, q_129b F0C F0tc, q_186b (F0R.sm s1' (by decide) (by decide)) (F0tr.sm s1' (by decide)), e1.1, e1.sm (Sm.sI (A := [160]) (by decide)) (by decide)⟩
theorem p1_9 : Sim9 1 L xs (Inv1 L xs) := by
  intro v
  apply sim1
  by_cases g : v < 1 ∨ 1000 < v
  · exact ⟨_, _, _, q_137a F0C g, q_268a F0R g, F0E.1, F0E⟩
  · have s1 : Sm [88] (app (Minit L xs) LQ183) (sI (app (Minit L xs) LQ183) 88 1 v) := Sm.sI (by decide)
    have e1 := F0E.sm s1 (by decide)
    have s2 : Sm [160] (sI (app (Minit L xs) LQ183) 88 1 v) (sI (sI (app (Minit L xs) LQ183) 88 1 v) 160 77 v) := Sm.sI (by decide)
    refine ⟨_, _, _, q_137b F0C g, (q_268b (F0R.sm s1 (by decide) (by decide)) g).trans ?_, e1.1, e1.sm s2 (by decide)⟩
    rw [s1.2 160 77 (by decide), F0i 160 77 200 (by decide) (by decide +kernel), F0i 88 1 200 (by decide) (by decide +kernel)]
theorem p1_10 : Sim10 1 L xs (Inv1 L xs) := by
  intro v
  apply sim1
  have s1 : Sm [88] (app (Minit L xs) LQ183) (sI (app (Minit L xs) LQ183) 88 2 v) := Sm.sI (by decide)
  have e1 := F0E.sm s1 (by decide)
  have s2 : Sm [160] (sI (app (Minit L xs) LQ183) 88 2 v) (sI (sI (app (Minit L xs) LQ183) 88 2 v) 160 78 v) := Sm.sI (by decide)
  refine ⟨_, _, _, q_138 F0C, (q_269 (F0R.sm s1 (by decide) (by decide))).trans ?_, e1.1, e1.sm s2 (by decide)⟩
  rw [s1.2 160 78 (by decide), F0i 160 78 1 (by decide) (by decide +kernel), F0i 88 2 1 (by decide) (by decide +kernel)]
end F3
