/-! DOUBLES: rule(), both -/
section S9ed
variable {d dl : Nat} {o : HO} {M M' Mc Mr : Mem} {LL a j b c t x : Nat} {xs : Nat → Int32} {ow : Nat → Int} {p i k sl m n f w q np tm : Int} {v v1 v2 v3 v4 v5 w1 w2 : Int32} {D : Nat → Int → Int → Int} {W : Nat → Int → Int → Int32} {g : Int → PG} {u : ZS}
theorem dbA_o {k : Nat} (h : k ≠ 12 ∧ k ≠ 13 ∧ k ≠ 14) {a b : Int} : dbA D q m f k a b = D k a b := by
  unfold dbA
  rw [if_neg (fun z => h.1 z.2.1), if_neg (fun z => h.2.1 z.2.1), if_neg (fun z => h.2.2 z.2.1)]
theorem dbA_n {k : Nat} {a b : Int} (h : a ≠ q) : dbA D q m f k a b = D k a b := by
  unfold dbA
  rw [if_neg (fun z => h z.1), if_neg (fun z => h z.1), if_neg (fun z => h z.1)]
theorem dbA_12 : dbA D q m f 12 q 0 = D 12 q 0 + 1 := if_pos ⟨rfl, rfl, rfl⟩
theorem dbA_13 {b : Int} : dbA D q m f 13 q b = if b = D 12 q 0 then m else D 13 q b := by
  unfold dbA
  rw [if_neg (fun z => by have := z.2.1; omega)]
  by_cases y : b = D 12 q 0
  · rw [if_pos ⟨rfl, rfl, y⟩, if_pos y]
  · rw [if_neg (fun z => y z.2.2), if_neg (fun z => by have := z.2.1; omega), if_neg y]
theorem dbA_14 {b : Int} : dbA D q m f 14 q b = if b = D 12 q 0 then f else D 14 q b := by
  unfold dbA
  rw [if_neg (fun z => by have := z.2.1; omega), if_neg (fun z => by have := z.2.1; omega)]
  by_cases y : b = D 12 q 0
  · rw [if_pos ⟨rfl, rfl, y⟩, if_pos y]
  · rw [if_neg (fun z => y z.2.2), if_neg y]
theorem dbW_n {k : Nat} {a b : Int} (h : ¬ (a = q ∧ b = n)) : dbW W q n w1 w2 k a b = W k a b := by
  unfold dbW
  rw [if_neg (fun z => h ⟨z.1, z.2.2⟩), if_neg (fun z => h ⟨z.1, z.2.2⟩)]
theorem dbW_1 : dbW W q n w1 w2 1 q n = w1 := if_pos ⟨rfl, rfl, rfl⟩
theorem dbW_2 : dbW W q n w1 w2 2 q n = w2 := by
  unfold dbW
  rw [if_neg (fun z => by have := z.2.1; omega), if_pos ⟨rfl, rfl, rfl⟩]
theorem dbP.da (h : dbP D np g) (h0 : 0 ≤ D 0 q 0) (hn : D 12 q 0 < 8) (hm : -1 ≤ m ∧ m < D 3 q 0) (hf : 0 ≤ f ∧ f ≤ 1) : dbP (dbA D q m f) np g := fun a u w => by
  obtain ⟨h1, h2, h3, h4, h5, h6, h7⟩ := h a u w
  rw [dbA_o (k := 0) (by decide), dbA_o (k := 1) (by decide), dbA_o (k := 2) (by decide), dbA_o (k := 3) (by decide)]
  by_cases z : a = q
  · subst z
    rw [dbA_12]
    refine ⟨h1, h2, h3, by omega, fun r x y => ?_, fun z => ?_, fun q' a b c e1 e2 e3 => ?_⟩
    · rw [dbA_14]
      by_cases y : r = D 12 a 0
      · rw [if_pos y]; exact hf
      · rw [if_neg y]; exact h5 r x ‹_›
    · obtain ⟨t1, t2, t3, t4, t5⟩ := h6 z
      refine ⟨t1, t2, t3, t4, fun r x y => ?_⟩
      rw [dbA_13]
      by_cases e : r = D 12 a 0
      · rw [if_pos e]; exact hm
      · rw [if_neg e]; exact t5 r x (by omega)
    · rw [dbA_o (k := 0) (by decide)] at e1
      rw [dbA_o (k := 1) (by decide)] at e2
      rw [dbA_o (k := 2) (by decide)] at e3
      exact h7 q' a b c e1 e2 e3
  · rw [dbA_n (k := 12) z]
    refine ⟨h1, h2, h3, h4, fun r x y => by rw [dbA_n z]; exact h5 r x y, fun z2 => ?_, fun q' a b c e1 e2 e3 => ?_⟩
    · obtain ⟨t1, t2, t3, t4, t5⟩ := h6 z2
      exact ⟨t1, t2, t3, t4, fun r x y => by rw [dbA_n z]; exact t5 r x y⟩
    · rw [dbA_o (k := 0) (by decide)] at e1
      rw [dbA_o (k := 1) (by decide)] at e2
      rw [dbA_o (k := 2) (by decide)] at e3
      exact h7 q' a b c e1 e2 e3
theorem dbI.da (h : dbI D tm) : dbI (dbA D q m f) tm := fun a u w => by
  obtain ⟨h1, h2⟩ := h a u w
  rw [dbA_o (k := 0) (by decide)]
  refine ⟨h1, fun q' x y c e => h2 q' x y c ?_⟩
  rw [dbA_o (k := 0) (by decide)] at e
  exact e
theorem dbC.da (h : dbC D W M) (hq : 0 ≤ q ∧ q < 8) (hn : n = D 12 q 0) (hb : 0 ≤ n ∧ n < 8) (h2 : M'.1 (zTw q) 2 = iI (n + 1)) (h3 : M'.1 (zTw q + 1) (4 * n).toNat = iI m ∧ M'.1 (zTw q + 1) (4 * n + 1).toNat = w1 ∧ M'.1 (zTw q + 1) (4 * n + 2).toNat = iI f ∧ M'.1 (zTw q + 1) (4 * n + 3).toNat = w2) (e : ∀ a j : Nat, ¬ (a = zTw q ∧ j = 2) → ¬ (a = zTw q + 1 ∧ 4 * n ≤ (j : Int) ∧ (j : Int) < 4 * n + 4) → M'.1 a j = M.1 a j) : dbC (dbA D q m f) (dbW W q n w1 w2) M' := fun a u w => by
  obtain ⟨⟨g1, g2, g3, g4, g5⟩, g6⟩ := h a u w
  obtain ⟨i1, i2, i3, i4, i5⟩ := zTw_i hq (q' := a) ⟨u, w⟩
  obtain ⟨j1, j2, -⟩ := zTw_i (q := a) (q' := q) ⟨u, w⟩ hq
  rw [dbA_o (k := 0) (by decide), dbA_o (k := 1) (by decide), dbA_o (k := 2) (by decide), dbA_o (k := 3) (by decide), e (zTw a) 0 (by omega) (by omega), e (zTw a) 7 (by omega) (by omega), e (zTw a) 8 (by omega) (by omega), e (zTw a) 1 (by omega) (by omega)]
  by_cases z : a = q
  · subst z
    rw [dbA_12, ← hn]
    refine ⟨⟨g1, g2, g3, h2, g5⟩, fun r x y => ?_⟩
    rw [dbA_13, dbA_14, ← hn]
    by_cases k : r = n
    · rw [if_pos k, if_pos k, k, dbW_1, dbW_2]
      exact h3
    · rw [if_neg k, if_neg k, dbW_n (fun z => k z.2), dbW_n (fun z => k z.2), e (zTw a + 1) (4 * r).toNat (by omega) (by omega), e (zTw a + 1) (4 * r + 1).toNat (by omega) (by omega), e (zTw a + 1) (4 * r + 2).toNat (by omega) (by omega), e (zTw a + 1) (4 * r + 3).toNat (by omega) (by omega)]
      exact g6 r x y
  · have ne : zTw a ≠ zTw q := fun y => z (j1.1 y)
    rw [dbA_n z, e (zTw a) 2 (by omega) (by omega)]
    refine ⟨⟨g1, g2, g3, g4, g5⟩, fun r x y => ?_⟩
    rw [dbA_n z, dbA_n z, dbW_n (fun y => z y.1), dbW_n (fun y => z y.1), e (zTw a + 1) (4 * r).toNat (by omega) (by omega), e (zTw a + 1) (4 * r + 1).toNat (by omega) (by omega), e (zTw a + 1) (4 * r + 2).toNat (by omega) (by omega), e (zTw a + 1) (4 * r + 3).toNat (by omega) (by omega)]
    exact g6 r x y
theorem dbR.da (h : dbR D W M) (hq : 0 ≤ q ∧ q < 8) (hn : n = D 12 q 0) (hb : 0 ≤ n ∧ n < 8) (h2 : M'.1 230 q.toNat = iI (n + 1)) (h3 : M'.1 231 (8 * q + n).toNat = iI m ∧ M'.1 232 (8 * q + n).toNat = w1 ∧ M'.1 233 (8 * q + n).toNat = iI f ∧ M'.1 234 (8 * q + n).toNat = w2) (e : ∀ a j : Nat, ¬ (a = 230 ∧ j = q.toNat) → ¬ (231 ≤ a ∧ a ≤ 234 ∧ j = (8 * q + n).toNat) → M'.1 a j = M.1 a j) : dbR (dbA D q m f) (dbW W q n w1 w2) M' := fun a u w => by
  obtain ⟨⟨g1, g2, g3, g4⟩, g6⟩ := h a u w
  rw [dbA_o (k := 0) (by decide), dbA_o (k := 1) (by decide), dbA_o (k := 2) (by decide), e 227 a.toNat (by omega) (by omega), e 228 a.toNat (by omega) (by omega), e 229 a.toNat (by omega) (by omega)]
  by_cases z : a = q
  · subst z
    rw [dbA_12, ← hn]
    refine ⟨⟨g1, g2, g3, h2⟩, fun r x y => ?_⟩
    rw [dbA_13, dbA_14, ← hn]
    by_cases k : r = n
    · rw [if_pos k, if_pos k, k, dbW_1, dbW_2]
      exact h3
    · rw [if_neg k, if_neg k, dbW_n (fun z => k z.2), dbW_n (fun z => k z.2), e 231 (8 * a + r).toNat (by omega) (by omega), e 232 (8 * a + r).toNat (by omega) (by omega), e 233 (8 * a + r).toNat (by omega) (by omega), e 234 (8 * a + r).toNat (by omega) (by omega)]
      exact g6 r x y
  · rw [dbA_n z, e 230 a.toNat (by omega) (by omega)]
    refine ⟨⟨g1, g2, g3, g4⟩, fun r x y => ?_⟩
    rw [dbA_n z, dbA_n z, dbW_n (fun y => z y.1), dbW_n (fun y => z y.1), e 231 (8 * a + r).toNat (by omega) (by omega), e 232 (8 * a + r).toNat (by omega) (by omega), e 233 (8 * a + r).toNat (by omega) (by omega), e 234 (8 * a + r).toNat (by omega) (by omega)]
    exact g6 r x y
theorem zc123 (hd : 1 ≤ d) (cM : CT M) (hq : 0 ≤ q ∧ q < 8) (h2 : M.1 (zTw q) 2 = iI n) (hb : 0 ≤ n ∧ n < 8) (hv4 : v4 = iI f) (hf : 0 ≤ f ∧ f ≤ 1) : ∃ M', runX d 123 [va_rf (some (zTw q)), .int v2, .int v3, .int v4, .int v5] M = some (.int (iI (n + 1)), M') ∧ (M'.2 = M.2 ∧ ∀ a j : Nat, ¬ (a = zTw q ∧ j = 2) → ¬ (a = zTw q + 1 ∧ 4 * n ≤ (j : Int) ∧ (j : Int) < 4 * n + 4) → M'.1 a j = M.1 a j) ∧ M'.1 (zTw q) 2 = iI (n + 1) ∧ M'.1 (zTw q + 1) (4 * n).toNat = v2 ∧ M'.1 (zTw q + 1) (4 * n + 1).toNat = v3 ∧ M'.1 (zTw q + 1) (4 * n + 2).toNat = iI f ∧ M'.1 (zTw q + 1) (4 * n + 3).toNat = v5 := by
  obtain ⟨d, rfl⟩ : ∃ e, d = e + 1 := ⟨d - 1, by omega⟩
  subst hv4
  have k1 := (zTw_k cM hq).1.1
  have k2 := (zTw_k cM hq).1.2.1
  have f1 := (zTw_k cM hq).2.1.1
  have l4 : (4 : Int32) = iI 4 := rfl
  have l2 : (2 : Int32) = iI 2 := rfl
  have l3 : (3 : Int32) = iI 3 := rfl
  obtain ⟨t1, -⟩ := zTw_i hq hq
  obtain ⟨A, hA⟩ : ∃ A, A = sI M (zTw q + 1) (4 * n).toNat v2 := ⟨_, rfl⟩
  obtain ⟨B, hB⟩ : ∃ B, B = sI A (zTw q + 1) (4 * n + 1).toNat v3 := ⟨_, rfl⟩
  obtain ⟨C, hC⟩ : ∃ C, C = sI B (zTw q + 1) (4 * n + 2).toNat (iI f) := ⟨_, rfl⟩
  obtain ⟨E, hE⟩ : ∃ E, E = sI C (zTw q + 1) (4 * n + 3).toNat v5 := ⟨_, rfl⟩
  obtain ⟨F, hF⟩ : ∃ F, F = sI E (zTw q) 2 (iI (n + 1)) := ⟨_, rfl⟩
  have a2 : A.2 = M.2 := by rw [hA]; rfl
  have b2 : B.2 = M.2 := by rw [hB]; exact a2
  have c2 : C.2 = M.2 := by rw [hC]; exact b2
  have e2 : E.2 = M.2 := by rw [hE]; exact c2
  have f2 : F.2 = M.2 := by rw [hF]; exact e2
  have K : ∀ X : Mem, X.2 = M.2 → X.2.2.2[zTw q]? = some (10, 9) ∧ X.2.2.2[zTw q + 1]? = some (100, 32) ∧ X.2.2.1 (zTw q) 3 = some (zTw q + 1) := fun X h => by
    rw [h]; exact ⟨k1, k2, f1⟩
  have nE : E.1 (zTw q) 2 = iI n := by
    rw [hE, sI_ne (by omega), hC, sI_ne (by omega), hB, sI_ne (by omega), hA, sI_ne (by omega)]; exact h2
  refine ⟨F, ?_, ⟨f2, fun a j y z => ?_⟩, by rw [hF, sI_eq], ?_, ?_, ?_, ?_⟩
  · rw [r123]; unfold b123; rw [aR_e, aI_e, aI_e, aI_e, aI_e, aZ_e]; unfold c123
    rw [gtI_q k1 h2, ltI_q (z := 4 * n) (cvI (mlI rfl l4) (by omega)), gtP_q k1 f1, show iI (4 * n) + 0 = iI (4 * n) from cvI (adI rfl li_0) (by omega), asI_e k2 (by omega) (by omega) (by omega), ← hA, gtP_q (K A a2).1 (K A a2).2.2, show iI (4 * n) + 1 = iI (4 * n + 1) from adI rfl li_1, asI_e (K A a2).2.1 (by omega) (by omega) (by omega), ← hB, gtP_q (K B b2).1 (K B b2).2.2, jn_v]
    have fin : (jv (fun (s8 : Int32) => asI 100 B (some (zTw q + 1)) (iI (4 * n) + ((2 : Int32))) s8 fun M9 => gtP (10, 9) M9 (some (zTw q)) 3 fun x10 => asI 100 M9 x10 (iI (4 * n) + ((3 : Int32))) v5 fun M11 => gtI (10, 9) M11 (some (zTw q)) 2 fun x12 => ptI (10, 9) M11 (some (zTw q)) 2 (x12 + ((1 : Int32))) fun M13 => gtI (10, 9) M13 (some (zTw q)) 2 fun x14 => some (.int x14, M13)) (iI f) : XA) = some (.int (iI (n + 1)), F) := by
      rw [jv_e, show iI (4 * n) + (2 : Int32) = iI (4 * n + 2) from adI rfl l2, asI_e (K B b2).2.1 (by omega) (by omega) (by omega), ← hC, gtP_q (K C c2).1 (K C c2).2.2, show iI (4 * n) + (3 : Int32) = iI (4 * n + 3) from adI rfl l3, asI_e (K C c2).2.1 (by omega) (by omega) (by omega), ← hE, gtI_q (K E e2).1 nE, ptI_q (K E e2).1 (adI rfl li_1), ← hF, gtI_q (K F f2).1 (by rw [hF, sI_eq])]
    by_cases z : f = 0
    · rw [if_pos (show iI f = 0 by rw [z]; rfl), ← fin, z]
      rfl
    · rw [if_neg (show ¬ iI f = 0 from eqI_n (y := 0) rfl li_0 (by omega)), ← fin, show f = 1 by omega]
      rfl
  · rw [hF, hE, hC, hB, hA]
    have h0 : ∀ (X : Mem) (s : Int) (w : Int32), 4 * n ≤ s → s < 4 * n + 4 → (sI X (zTw q + 1) s.toNat w).1 a j = X.1 a j := fun X s w x1 x2 => by
      by_cases e : a = zTw q + 1
      · exact sI_nej (by omega)
      · exact sI_ne e
    have h1 : ∀ (X : Mem) (w : Int32), (sI X (zTw q) 2 w).1 a j = X.1 a j := fun X w => by
      by_cases e : a = zTw q
      · exact sI_nej (by omega)
      · exact sI_ne e
    rw [h1, h0 _ _ _ (by omega) (by omega), h0 _ _ _ (by omega) (by omega), h0 _ _ _ (by omega) (by omega), h0 _ _ _ (by omega) (by omega)]
  · rw [hF, sI_ne (by omega), hE, sI_nej (by omega), hC, sI_nej (by omega), hB, sI_nej (by omega), hA, sI_eq]
  · rw [hF, sI_ne (by omega), hE, sI_nej (by omega), hC, sI_nej (by omega), hB, sI_eq]
  · rw [hF, sI_ne (by omega), hE, sI_nej (by omega), hC, sI_eq]
  · rw [hF, sI_ne (by omega), hE, sI_eq]
theorem rule_pair (hdl : 2 ≤ dl) (hd : 2 ≤ d) (hP : hoP o) (hC : HC LL xs o ow sl Mc) (hR : HR o sl Mr) (hI : dbI (oD o) tm) (hv1 : v1 = iI i) (hv2 : v2 = iI m) (h01 : v4 = 0 ∨ v4 = 1) (bi : -2147483648 ≤ i ∧ i ≤ 2147483647) (bm : -2147483648 ≤ m ∧ m ≤ 2147483647) : ∃ r Mc' Mr', runX dl 146 [va_rf (some 64), .int v1, .int v2, .int v3, .int v4, .int v5] Mc = some (.int r, Mc') ∧ runX d 275 [va_rf (some 160), .int v1, .int v2, .int v3, .int v4, .int v5] Mr = some (.int r, Mr') ∧ ((Mc' = Mc ∧ Mr' = Mr) ∨ ∃ q D' W', (0 ≤ q ∧ q < 8) ∧ (Mc'.2 = Mc.2 ∧ ∀ a j : Nat, ¬ (a = zTw q ∧ j = 2) → a ≠ zTw q + 1 → Mc'.1 a j = Mc.1 a j) ∧ (Mr'.2 = Mr.2 ∧ ∀ a j : Nat, (a < 230 ∨ 234 < a) → Mr'.1 a j = Mr.1 a j) ∧ dbP D' (oN o) (oP o) ∧ dbI D' tm ∧ dbC D' W' Mc' ∧ dbR D' W' Mr') := by
  obtain ⟨dl, rfl⟩ : ∃ e, dl = e + 1 := ⟨dl - 1, by omega⟩
  obtain ⟨d, rfl⟩ : ∃ e, d = e + 1 := ⟨d - 1, by omega⟩
  obtain ⟨f, hf, hf1⟩ : ∃ f : Int, v4 = iI f ∧ 0 ≤ f ∧ f ≤ 1 := by
    rcases h01 with z | z
    · exact ⟨0, z, by decide⟩
    · exact ⟨1, z, by decide⟩
  subst hv1; subst hv2
  have cM := hC.1.1.1
  have rM := hR.1.1.1
  have l8 : (8 : Int32) = iI 8 := rfl
  have lm : (-1 : Int32) = iI (-1) := rfl
  have n10 : ¬ iI 1 = (0 : Int32) := by decide
  have eC : runX (dl + 1) 146 [va_rf (some 64), .int (iI i), .int (iI m), .int v3, .int v4, .int v5] Mc = c146 (runX dl) (some 64) (iI i) (iI m) v3 v4 v5 Mc := by
    rw [r146]; unfold b146; rw [aR_e, aI_e, aI_e, aI_e, aI_e, aI_e, aZ_e]
  have eR : runX (d + 1) 275 [va_rf (some 160), .int (iI i), .int (iI m), .int v3, .int v4, .int v5] Mr = c275 (runX d) (some 160) (iI i) (iI m) v3 v4 v5 Mr := by
    rw [r275]; unfold b275; rw [aR_e, aI_e, aI_e, aI_e, aI_e, aI_e, aZ_e]
  rcases dbl_two (dl := dl) (d := d) (by omega) (by omega) cM rM hP.2.1 hI hC.1.2.2 hR.1.2.2 bi with ⟨q, hq, hi, e1, e2⟩ | ⟨hn, e1, e2⟩
  · have k1 := (zTw_k cM hq).1
    obtain ⟨d1, d2, d3, d4⟩ := hP.d3 hq (by omega)
    obtain ⟨⟨-, -, -, c12, e3⟩, -⟩ := hC.1.2.2 q hq.1 hq.2
    have e3 := e3 (by omega)
    obtain ⟨⟨-, -, -, r12⟩, -⟩ := hR.1.2.2 q hq.1 hq.2
    have b12 := (hP.2.1 q hq.1 hq.2).2.2.2.1
    have e4 := rr274 (d := d) (by omega) hP hR.1 hq (by omega)
    have q5 := r_in (d := d) (M := Mr) (i := m) (k := -1) (m := oD o 3 q 0 - 1) (by omega) bm (by omega) (by omega)
    rw [← lm, show iI (oD o 3 q 0 - 1) = iI (oD o 3 q 0) - (1 : Int32) from (sbI rfl li_1).symm] at q5
    obtain ⟨n, hn⟩ : ∃ n, n = oD o 12 q 0 := ⟨_, rfl⟩
    rw [← hn] at c12 r12 b12
    by_cases hm : -1 ≤ m ∧ m < oD o 3 q 0
    · rw [if_pos (by omega)] at q5
      by_cases h8 : n < 8
      · obtain ⟨M', x1, ⟨x2, x3⟩, x4, x5, x6, x7, x8⟩ := zc123 (d := dl) (v2 := iI m) (v3 := v3) (v4 := v4) (v5 := v5) (by omega) cM hq c12 ⟨b12.1, h8⟩ hf hf1
        obtain ⟨A, hA⟩ : ∃ A, A = sI Mr 231 (8 * q + n).toNat (iI m) := ⟨_, rfl⟩
        obtain ⟨B, hB⟩ : ∃ B, B = sI A 232 (8 * q + n).toNat v3 := ⟨_, rfl⟩
        obtain ⟨C, hC'⟩ : ∃ C, C = sI B 233 (8 * q + n).toNat (iI f) := ⟨_, rfl⟩
        obtain ⟨E, hE⟩ : ∃ E, E = sI C 234 (8 * q + n).toNat v5 := ⟨_, rfl⟩
        obtain ⟨F, hF⟩ : ∃ F, F = sI E 230 q.toNat (iI (n + 1)) := ⟨_, rfl⟩
        have RA : RT A := by rw [hA]; exact rM
        have RB : RT B := by rw [hB]; exact RA
        have RC : RT C := by rw [hC']; exact RB
        have RE : RT E := by rw [hE]; exact RC
        have RF : RT F := by rw [hF]; exact RE
        have nE : E.1 230 q.toNat = iI n := by
          rw [hE, sI_ne (by decide), hC', sI_ne (by decide), hB, sI_ne (by decide), hA, sI_ne (by decide)]; exact r12
        have fe : ∀ a j : Nat, ¬ (a = 230 ∧ j = q.toNat) → ¬ (231 ≤ a ∧ a ≤ 234 ∧ j = (8 * q + n).toNat) → F.1 a j = Mr.1 a j := fun a j y z => by
          have h0 : ∀ (X : Mem) (s : Nat) (w : Int32), 231 ≤ s → s ≤ 234 → (sI X s (8 * q + n).toNat w).1 a j = X.1 a j := fun X s w x1 x2 => by
            by_cases e : a = s
            · exact sI_nej (by omega)
            · exact sI_ne e
          have h1 : ∀ (X : Mem) (w : Int32), (sI X 230 q.toNat w).1 a j = X.1 a j := fun X w => by
            by_cases e : a = 230
            · exact sI_nej (by omega)
            · exact sI_ne e
          rw [hF, hE, hC', hB, hA, h1, h0 _ _ _ (by omega) (by omega), h0 _ _ _ (by omega) (by omega), h0 _ _ _ (by omega) (by omega), h0 _ _ _ (by omega) (by omega)]
        have g1 : F.1 231 (8 * q + n).toNat = iI m := by
          rw [hF, sI_ne (by decide), hE, sI_ne (by decide), hC', sI_ne (by decide), hB, sI_ne (by decide), hA, sI_eq]
        have g2 : F.1 232 (8 * q + n).toNat = v3 := by
          rw [hF, sI_ne (by decide), hE, sI_ne (by decide), hC', sI_ne (by decide), hB, sI_eq]
        have g3 : F.1 233 (8 * q + n).toNat = iI f := by
          rw [hF, sI_ne (by decide), hE, sI_ne (by decide), hC', sI_eq]
        have g4 : F.1 234 (8 * q + n).toNat = v5 := by
          rw [hF, sI_ne (by decide), hE, sI_eq]
        have g5 : F.1 230 q.toNat = iI (n + 1) := by rw [hF, sI_eq]
        refine ⟨iI (n + 1), M', F, ?_, ?_, Or.inr ⟨q, dbA (oD o) q m f, dbW (oW o) q n v3 v5, hq, ⟨x2, fun a j y z => x3 a j y fun w => z w.1⟩, ⟨by rw [hF, hE, hC', hB, hA]; rfl, fun a j y => fe a j (by omega) (by omega)⟩, hP.2.1.da (by omega) (by omega) hm hf1, hI.da, hC.1.2.2.da hq hn ⟨b12.1, h8⟩ x4 ⟨x5, x6, x7, x8⟩ x3, hR.1.2.2.da hq hn ⟨b12.1, h8⟩ g5 ⟨g1, g2, g3, g4⟩ fe⟩⟩
        · rw [eC]
          unfold c146
          rw [vC_e (ck_64 cM), cP_e e1, jn_v, if_neg (show ¬ some (zTw q) = none by simp), if_neg (show ¬ iI m < (-1 : Int32) from lsI_n (y := -1) rfl rfl (by omega)), gtI_q k1.1 e3, if_pos (show iI m < iI (oD o 3 q 0) from lsI_p rfl rfl (by omega)), gtI_q k1.1 c12, jn_v, if_pos (show iI n < (8 : Int32) from lsI_p (y := 8) rfl rfl (by omega)), vC_e k1.1, cI_e x1, jv_e]
        · rw [eR]
          unfold c275
          have i8 : iI (n : Int) = iI n := rfl
          rw [vC_e (rk_160 rM), cI_e e2, jn_v, if_neg (show ¬ iI q < 0 from lsI_n (y := 0) rfl li_0 (by omega)), vC_e (rk_160 rM), cI_e e4, cI_e q5, if_neg n10, gtP_q (rk_160 rM) (rf_115 rM), alI_q (n := 8) (z := q) (rk_230 rM) rfl (by omega) r12, if_neg (show ¬ iI n = (8 : Int32) from eqI_n (y := 8) rfl rfl (by omega)), gtP_q (rk_160 rM) (rf_115 rM), alI_q (n := 8) (z := q) (rk_230 rM) rfl (by omega) r12, ltI_q (z := 8 * q + n) (adI (mlI l8 rfl) rfl), gtP_q (rk_160 rM) (rf_116 rM), asI_e (rk_231 rM) (by omega) (by omega) (by omega), ← hA, gtP_q (rk_160 RA) (rf_117 RA), asI_e (rk_232 RA) (by omega) (by omega) (by omega), ← hB, gtP_q (rk_160 RB) (rf_118 RB), znar_e hf hf1, asI_e (rk_233 RB) (by omega) (by omega) (by omega), ← hC', gtP_q (rk_160 RC) (rf_119 RC), asI_e (rk_234 RC) (by omega) (by omega) (by omega), ← hE, gtP_q (rk_160 RE) (rf_115 RE), alI_q (n := 8) (z := q) (rk_230 RE) rfl (by omega) nE, asI_q (n := 8) (z := q) (rk_230 RE) rfl (by omega) (adI rfl li_1), ← hF, gtP_q (rk_160 RF) (rf_115 RF), alI_q (n := 8) (z := q) (rk_230 RF) rfl (by omega) g5]
      · refine ⟨-3, Mc, Mr, ?_, ?_, Or.inl ⟨rfl, rfl⟩⟩
        · rw [eC]
          unfold c146
          rw [vC_e (ck_64 cM), cP_e e1, jn_v, if_neg (show ¬ some (zTw q) = none by simp), if_neg (show ¬ iI m < (-1 : Int32) from lsI_n (y := -1) rfl rfl (by omega)), gtI_q k1.1 e3, if_pos (show iI m < iI (oD o 3 q 0) from lsI_p rfl rfl (by omega)), gtI_q k1.1 c12, jn_v, if_neg (show ¬ iI n < (8 : Int32) from lsI_n (y := 8) rfl rfl (by omega)), jv_e]
        · rw [eR]
          unfold c275
          rw [vC_e (rk_160 rM), cI_e e2, jn_v, if_neg (show ¬ iI q < 0 from lsI_n (y := 0) rfl li_0 (by omega)), vC_e (rk_160 rM), cI_e e4, cI_e q5, if_neg n10, gtP_q (rk_160 rM) (rf_115 rM), alI_q (n := 8) (z := q) (rk_230 rM) rfl (by omega) r12, if_pos (show iI n = (8 : Int32) from eqI_p (y := 8) rfl rfl (by omega))]
    · rw [if_neg (by omega)] at q5
      refine ⟨-1, Mc, Mr, ?_, ?_, Or.inl ⟨rfl, rfl⟩⟩
      · rw [eC]
        unfold c146
        rw [vC_e (ck_64 cM), cP_e e1, jn_v, if_neg (show ¬ some (zTw q) = none by simp)]
        by_cases m0 : m < -1
        · rw [if_pos (show iI m < (-1 : Int32) from lsI_p (y := -1) rfl rfl (by omega)), jv_e]
        rw [if_neg (show ¬ iI m < (-1 : Int32) from lsI_n (y := -1) rfl rfl (by omega)), gtI_q k1.1 e3, if_neg (show ¬ iI m < iI (oD o 3 q 0) from lsI_n rfl rfl (by omega)), jv_e]
      · rw [eR]
        unfold c275
        rw [vC_e (rk_160 rM), cI_e e2, jn_v, if_neg (show ¬ iI q < 0 from lsI_n (y := 0) rfl li_0 (by omega)), vC_e (rk_160 rM), cI_e e4, cI_e q5, if_pos (show iI 0 = 0 from rfl), jv_e]
  · refine ⟨-1, Mc, Mr, ?_, ?_, Or.inl ⟨rfl, rfl⟩⟩
    · rw [eC]
      unfold c146
      rw [vC_e (ck_64 cM), cP_e e1, jn_v, if_pos rfl, jv_e]
    · rw [eR]
      unfold c275
      rw [vC_e (rk_160 rM), cI_e e2, jn_v, if_pos (show iI (-1) < 0 by decide), jv_e]
end S9ed
