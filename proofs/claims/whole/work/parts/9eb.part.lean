/-! DOUBLES by their numbers; drop(), calls(): both -/
/-- each DOUBLE has a number of its own, below tm -/
def dbI (D : Nat → Int → Int → Int) (tm : Int) : Prop := ∀ q, 0 ≤ q → q < 8 → D 0 q 0 < tm ∧ ∀ q', 0 ≤ q' → q' < 8 → 0 ≤ D 0 q 0 → D 0 q' 0 = D 0 q 0 → q' = q
/-- one is dropped -/
def dbK (D : Nat → Int → Int → Int) (q : Int) : Nat → Int → Int → Int := fun k a b => if k = 0 ∧ a = q then -1 else D k a b
section S9eb
variable {d dl : Nat} {o : HO} {M M' Mc Mr : Mem} {LL a j b c t x : Nat} {xs : Nat → Int32} {ow : Nat → Int} {p i k sl m n f w q np tm : Int} {v v1 v2 v3 v4 : Int32} {D : Nat → Int → Int → Int} {W : Nat → Int → Int → Int32} {g : Int → PG} {u : ZS}
theorem dbl_c (hd : 1 ≤ d) (cM : CT M) (hD : dbP D np g) (hI : dbI D tm) (hC : dbC D W M) (hq : 0 ≤ q ∧ q < 8) (hi : 0 ≤ i ∧ D 0 q 0 = i) : runX d 170 [va_rf (some 64), .int (iI i)] M = some (va_rf (some (zTw q)), M) := by
  obtain ⟨d, rfl⟩ : ∃ e, d = e + 1 := ⟨d - 1, by omega⟩
  have c64 := ck_64 cM
  have c88 := ck_88 cM
  have f7 : M.2.2.1 88 7 = some 90 := cf_88_7 cM
  have c90 := ck_90 cM
  have hb := (hD q hq.1 hq.2).1
  rw [r170]; unfold b170; rw [aR_e, aI_e, aZ_e]; unfold c170
  rw [jn_v, jn_v]
  have t7 : M.2.2.1 90 (7 - q).toNat = some (zTw q) := (zTw_k cM hq).2.2
  refine lp_use (body := c170_2 (runX d) (some 64) (iI i) M (jv fun (s1 : Int32) => gtP (12, 19) M (some 64) 2 fun x2 => gtP (4, 22) M x2 7 fun x3 => alP 112 M x3 s1 fun x4 => some (va_rf x4, M)) (jv fun (_ : Unit) => some (va_rf none, M))) (R := fun _ => some (va_rf (some (zTw q)), M)) (7 - q).toNat (fun k s => s = iI (k : Int)) (0 : Int32) 4294967296 (by omega) li_0 (fun s' g1 g2 => g2) (fun k s hk hs => ?_) (fun s hs go => ?_)
  · subst hs
    refine ⟨iI ((k + 1 : Nat) : Int), rfl, fun go => ?_⟩
    have tk := (zTw_k cM (q := 7 - (k : Int)) (by omega)).2.2
    rw [show (7 - (7 - (k : Int))) = (k : Int) by omega] at tk
    have e0 := (hC (7 - (k : Int)) (by omega) (by omega)).1.1
    have b0 := (hD (7 - (k : Int)) (by omega) (by omega)).1
    have ne : ¬ D 0 (7 - (k : Int)) 0 = D 0 q 0 := fun z => by
      have := (hI q hq.1 hq.2).2 (7 - (k : Int)) (by omega) (by omega) (by omega) z
      omega
    unfold c170_2
    rw [if_neg (show ¬ (8 : Int32) ≤ iI (k : Int) from leI_n (x := 8) rfl rfl (by omega)), if_neg (show ¬ iI i < 0 from lsI_n (y := 0) rfl li_0 (by omega)), gtP_q c64 (cf_64_2 cM), gtP_q c88 f7, alP_q (z := (k : Int)) c90 rfl (by omega) tk, gtI_q (zTw_k cM (q := 7 - (k : Int)) (by omega)).1.1 e0]
    by_cases y : D 0 (7 - (k : Int)) 0 < 0
    · rw [if_pos y, if_neg (show ¬ iI (-2) = iI i from eqI_n (x := -2) rfl rfl (by omega))]
      exact ltI_q (z := ((k + 1 : Nat) : Int)) (cvI (adI rfl li_1) (by omega))
    · rw [if_neg y, if_neg (show ¬ iI (D 0 (7 - (k : Int)) 0) = iI i from eqI_n rfl rfl (by omega))]
      exact ltI_q (z := ((k + 1 : Nat) : Int)) (cvI (adI rfl li_1) (by omega))
  · subst hs
    have e0 := (hC q hq.1 hq.2).1.1
    rw [if_neg (show ¬ D 0 q 0 < 0 by omega)] at e0
    have j7 : (((7 - q).toNat : Nat) : Int) = 7 - q := by omega
    unfold c170_2
    rw [j7, if_neg (show ¬ (8 : Int32) ≤ iI (7 - q) from leI_n (x := 8) rfl rfl (by omega)), if_neg (show ¬ iI i < 0 from lsI_n (y := 0) rfl li_0 (by omega)), gtP_q c64 (cf_64_2 cM), gtP_q c88 f7, alP_q (z := 7 - q) c90 rfl (by omega) t7, gtI_q (zTw_k cM hq).1.1 e0, if_pos (show iI (D 0 q 0) = iI i by rw [hi.2]), jv_e, gtP_q c64 (cf_64_2 cM), gtP_q c88 f7, alP_q (z := 7 - q) c90 rfl (by omega) t7]
theorem dbl_n (hd : 1 ≤ d) (cM : CT M) (hD : dbP D np g) (hC : dbC D W M) (hn : ∀ q, 0 ≤ q → q < 8 → ¬ (0 ≤ i ∧ D 0 q 0 = i)) (bi : -2147483648 ≤ i ∧ i ≤ 2147483647) : runX d 170 [va_rf (some 64), .int (iI i)] M = some (va_rf none, M) := by
  obtain ⟨d, rfl⟩ : ∃ e, d = e + 1 := ⟨d - 1, by omega⟩
  have c64 := ck_64 cM
  have c88 := ck_88 cM
  have f7 : M.2.2.1 88 7 = some 90 := cf_88_7 cM
  have c90 := ck_90 cM
  rw [r170]; unfold b170; rw [aR_e, aI_e, aZ_e]; unfold c170
  rw [jn_v, jn_v]
  by_cases hi : i < 0
  · rw [lp_e]
    unfold c170_2
    rw [if_neg (show ¬ (8 : Int32) ≤ 0 by decide), if_pos (show iI i < 0 from lsI_p (y := 0) rfl li_0 (by omega)), jv_e]
  refine lp_use (body := c170_2 (runX d) (some 64) (iI i) M (jv fun (s1 : Int32) => gtP (12, 19) M (some 64) 2 fun x2 => gtP (4, 22) M x2 7 fun x3 => alP 112 M x3 s1 fun x4 => some (va_rf x4, M)) (jv fun (_ : Unit) => some (va_rf none, M))) (R := fun _ => some (va_rf none, M)) 8 (fun k s => s = iI (k : Int)) (0 : Int32) 4294967296 (by omega) li_0 (fun s' g1 g2 => g2) (fun k s hk hs => ?_) (fun s hs go => ?_)
  · subst hs
    refine ⟨iI ((k + 1 : Nat) : Int), rfl, fun go => ?_⟩
    have tk := (zTw_k cM (q := 7 - (k : Int)) (by omega)).2.2
    rw [show (7 - (7 - (k : Int))) = (k : Int) by omega] at tk
    have e0 := (hC (7 - (k : Int)) (by omega) (by omega)).1.1
    have b0 := (hD (7 - (k : Int)) (by omega) (by omega)).1
    have ne := hn (7 - (k : Int)) (by omega) (by omega)
    unfold c170_2
    rw [if_neg (show ¬ (8 : Int32) ≤ iI (k : Int) from leI_n (x := 8) rfl rfl (by omega)), if_neg (show ¬ iI i < 0 from lsI_n (y := 0) rfl li_0 (by omega)), gtP_q c64 (cf_64_2 cM), gtP_q c88 f7, alP_q (z := (k : Int)) c90 rfl (by omega) tk, gtI_q (zTw_k cM (q := 7 - (k : Int)) (by omega)).1.1 e0]
    by_cases y : D 0 (7 - (k : Int)) 0 < 0
    · rw [if_pos y, if_neg (show ¬ iI (-2) = iI i from eqI_n (x := -2) rfl rfl (by omega))]
      exact ltI_q (z := ((k + 1 : Nat) : Int)) (cvI (adI rfl li_1) (by omega))
    · rw [if_neg y, if_neg (show ¬ iI (D 0 (7 - (k : Int)) 0) = iI i from eqI_n rfl rfl (by omega))]
      exact ltI_q (z := ((k + 1 : Nat) : Int)) (cvI (adI rfl li_1) (by omega))
  · subst hs
    unfold c170_2
    rw [if_pos (show (8 : Int32) ≤ iI ((8 : Nat) : Int) from leI_p (x := 8) rfl rfl (by omega)), jv_e]
theorem dbl_r (hd : 1 ≤ d) (rM : RT M) (hD : dbP D np g) (hR : dbR D W M) (bi : -2147483648 ≤ i ∧ i ≤ 2147483647) (hq : (0 ≤ q ∧ q < 8 ∧ (0 ≤ i ∧ D 0 q 0 = i) ∧ ∀ q', 0 ≤ q' → q' < 8 → (0 ≤ i ∧ D 0 q' 0 = i) → q' = q) ∨ (q = -1 ∧ ∀ q', 0 ≤ q' → q' < 8 → ¬ (0 ≤ i ∧ D 0 q' 0 = i))) : runX d 271 [va_rf (some 160), .int (iI i)] M = some (.int (iI q), M) := by
  obtain ⟨d, rfl⟩ : ∃ e, d = e + 1 := ⟨d - 1, by omega⟩
  have r160 := rk_160 rM
  rw [r271]; unfold b271; rw [aR_e, aI_e, aZ_e]; unfold c271
  rw [jn_v]
  have qb : -1 ≤ q ∧ q < 8 := by
    rcases hq with z | z
    · have := z.1; have := z.2.1; omega
    · have := z.1; omega
  have iff : ∀ x : Int, 0 ≤ x → x < 8 → ((0 ≤ i ∧ D 0 x 0 = i) ↔ x = q) := fun x p1 p2 => by
    rcases hq with ⟨z1, z2, z3, z4⟩ | ⟨z1, z2⟩
    · exact ⟨fun h => z4 x p1 p2 h, fun h => by rw [h]; exact z3⟩
    · exact ⟨fun h => absurd h (z2 x p1 p2), fun h => by omega⟩
  clear hq
  refine lp_use (body := c271_4 (runX d) (some 160) (iI i) M (jv fun (s1 : Int32) => some (.int s1, M))) (R := fun s => some (.int s.1, M)) 8 (fun k s => s.1 = iI (if 0 ≤ q ∧ q < k then q else -1) ∧ s.2 = iI (k : Int)) ((-1 : Int32), (0 : Int32)) 4294967296 (by omega) ⟨by rw [if_neg (by omega)]; rfl, li_0⟩ (fun s' g1 g2 => ?_) (fun k s hk hI => ?_) (fun s hI go => ?_)
  · rw [g2, g1.1]
    by_cases y : 0 ≤ q
    · rw [if_pos (by omega)]
    · rw [if_neg (by omega), show q = -1 by omega]
  · obtain ⟨i1, i2⟩ := s
    obtain ⟨u1, u2⟩ := hI
    dsimp only at u1 u2
    subst u1; subst u2
    have e0 := (hR (k : Int) (by omega) (by omega)).1.1
    have b0 := (hD (k : Int) (by omega) (by omega)).1
    have fi := iff (k : Int) (by omega) (by omega)
    have ik : iI (k : Int) + (1 : Int32) = iI ((k + 1 : Nat) : Int) := cvI (adI rfl li_1) (by omega)
    refine ⟨(iI (if 0 ≤ q ∧ q < ((k + 1 : Nat) : Int) then q else -1), iI ((k + 1 : Nat) : Int)), ⟨rfl, rfl⟩, fun go => ?_⟩
    unfold c271_4
    dsimp only
    have nx : ∀ z : Int32, (jv (fun (s3 : Int32) => lt (iI (k : Int) + (1 : Int32)) fun (x4 : Int32) => go (s3, x4)) z : XA) = go (z, iI ((k + 1 : Nat) : Int)) := fun z => by rw [jv_e, ltI_q ik]
    have no : ¬ (k : Int) = q → (if 0 ≤ q ∧ q < ((k + 1 : Nat) : Int) then q else -1) = (if 0 ≤ q ∧ q < (k : Int) then q else -1) := fun z => by
      by_cases y : 0 ≤ q ∧ q < (k : Int)
      · rw [if_pos y, if_pos ⟨y.1, by omega⟩]
      · rw [if_neg y, if_neg (by omega)]
    rw [if_neg (show ¬ (8 : Int32) ≤ iI (k : Int) from leI_n (x := 8) rfl rfl (by omega)), jn_v, jn_v]
    by_cases y1 : i < 0
    · rw [if_pos (lsI_p rfl li_0 (by omega)), jv_e, nx, no (by omega)]
    rw [if_neg (lsI_n rfl li_0 (by omega)), gtP_q r160 (rf_112 rM), alI_q (n := 8) (z := (k : Int)) (rk_227 rM) rfl (by omega) e0]
    by_cases y2 : D 0 (k : Int) 0 = i
    · have e1 := fi.1 ⟨by omega, y2⟩
      rw [if_pos (eqI_p rfl rfl y2), nx, if_pos (by omega), e1]
    · rw [if_neg (eqI_n rfl rfl (by omega)), jv_e, nx, no (by omega)]
  · obtain ⟨i1, i2⟩ := s
    obtain ⟨u1, u2⟩ := hI
    dsimp only at u1 u2
    subst u2
    unfold c271_4
    dsimp only
    rw [if_pos (show (8 : Int32) ≤ iI ((8 : Nat) : Int) from leI_p (x := 8) rfl rfl (by omega))]
    rfl
theorem dbl_two (hdl : 1 ≤ dl) (hd : 1 ≤ d) (cM : CT Mc) (rM : RT Mr) (hD : dbP D np g) (hI : dbI D tm) (hC : dbC D W Mc) (hR : dbR D W Mr) (bi : -2147483648 ≤ i ∧ i ≤ 2147483647) : (∃ q : Int, (0 ≤ q ∧ q < 8) ∧ (0 ≤ i ∧ D 0 q 0 = i) ∧ runX dl 170 [va_rf (some 64), .int (iI i)] Mc = some (va_rf (some (zTw q)), Mc) ∧ runX d 271 [va_rf (some 160), .int (iI i)] Mr = some (.int (iI q), Mr)) ∨ ((∀ q : Int, 0 ≤ q → q < 8 → ¬ (0 ≤ i ∧ D 0 q 0 = i)) ∧ runX dl 170 [va_rf (some 64), .int (iI i)] Mc = some (va_rf none, Mc) ∧ runX d 271 [va_rf (some 160), .int (iI i)] Mr = some (.int (iI (-1)), Mr)) := by
  by_cases y : ∃ q : Int, (0 ≤ q ∧ q < 8) ∧ (0 ≤ i ∧ D 0 q 0 = i)
  · obtain ⟨q, hq, hi⟩ := y
    refine Or.inl ⟨q, hq, hi, dbl_c hdl cM hD hI hC hq hi, dbl_r hd rM hD hR bi (Or.inl ⟨hq.1, hq.2, hi, fun q' a b c => (hI q hq.1 hq.2).2 q' a b (by omega) (by omega)⟩)⟩
  · have z : ∀ q : Int, 0 ≤ q → q < 8 → ¬ (0 ≤ i ∧ D 0 q 0 = i) := fun q a b c => y ⟨q, ⟨a, b⟩, c⟩
    exact Or.inr ⟨z, dbl_n hdl cM hD hC z bi, dbl_r hd rM hD hR bi (Or.inr ⟨rfl, z⟩)⟩
theorem dbK_0 {k : Nat} (h : k ≠ 0) {a b : Int} : dbK D q k a b = D k a b := if_neg fun z => h z.1
theorem dbK_n {k : Nat} {a b : Int} (h : a ≠ q) : dbK D q k a b = D k a b := if_neg fun z => h z.2
theorem dbK_p {b : Int} : dbK D q 0 q b = -1 := if_pos ⟨rfl, rfl⟩
theorem dbP.dk (h : dbP D np g) : dbP (dbK D q) np g := fun a u w => by
  obtain ⟨h1, h2, h3, h4, h5, h6, h7⟩ := h a u w
  rw [dbK_0 (k := 1) (by decide), dbK_0 (k := 2) (by decide), dbK_0 (k := 12) (by decide), dbK_0 (k := 3) (by decide)]
  by_cases z : a = q
  · rw [z, dbK_p]
    rw [z] at h2 h3 h4 h5
    exact ⟨by omega, h2, h3, h4, fun r a b => by rw [dbK_0 (k := 14) (by decide)]; exact h5 r a b, fun z => by omega, fun q' a b c => by omega⟩
  · rw [dbK_n z]
    refine ⟨h1, h2, h3, h4, fun r a b => by rw [dbK_0 (k := 14) (by decide)]; exact h5 r a b, fun z => ?_, fun q' a b c e1 e2 e3 => ?_⟩
    · obtain ⟨t1, t2, t3, t4, t5⟩ := h6 z
      exact ⟨t1, t2, t3, t4, fun r x y => by rw [dbK_0 (k := 13) (by decide)]; exact t5 r x y⟩
    · by_cases y : q' = q
      · rw [y, dbK_p] at e1; omega
      · rw [dbK_n y] at e1
        rw [dbK_0 (k := 1) (by decide)] at e2
        rw [dbK_0 (k := 2) (by decide)] at e3
        exact h7 q' a b c e1 e2 e3
theorem dbI.dk (h : dbI D tm) (ht : 0 ≤ tm) : dbI (dbK D q) tm := fun a u w => by
  obtain ⟨h1, h2⟩ := h a u w
  by_cases z : a = q
  · rw [z, dbK_p]
    exact ⟨by omega, fun q' x y c => by omega⟩
  · rw [dbK_n z]
    refine ⟨h1, fun q' x y c e => ?_⟩
    by_cases z2 : q' = q
    · rw [z2, dbK_p] at e; omega
    · rw [dbK_n z2] at e; exact h2 q' x y c e
theorem zTw_i {q' : Int} (hq : 0 ≤ q ∧ q < 8) (hq' : 0 ≤ q' ∧ q' < 8) : (zTw q = zTw q' ↔ q = q') ∧ zTw q ≠ zTw q' + 1 ∧ zTw q ≠ zTw q' + 2 ∧ zTw q ≠ zTw q' + 3 ∧ 108 ≤ zTw q ∧ zTw q ≤ 136 := by
  unfold zTw
  omega
theorem dbC.dk (h : dbC D W M) (hq : 0 ≤ q ∧ q < 8) : dbC (dbK D q) W (sI M (zTw q) 0 (iI (-2))) := fun a u w => by
  obtain ⟨⟨h1, h2, h3, h4, h5⟩, h6⟩ := h a u w
  obtain ⟨i1, i2, -⟩ := zTw_i hq (q' := a) ⟨u, w⟩
  have nj : ∀ j : Nat, j ≠ 0 → (sI M (zTw q) 0 (iI (-2))).1 (zTw a) j = M.1 (zTw a) j := fun j hj => sI_nej hj
  rw [dbK_0 (k := 1) (by decide), dbK_0 (k := 2) (by decide), dbK_0 (k := 12) (by decide), dbK_0 (k := 3) (by decide), nj 7 (by decide), nj 8 (by decide), nj 2 (by decide), nj 1 (by decide)]
  refine ⟨⟨?_, h2, h3, h4, fun z => ?_⟩, fun r x y => ?_⟩
  · by_cases z : a = q
    · rw [z, dbK_p, sI_eq, if_pos (by decide)]
    · rw [dbK_n z, sI_ne (fun e => z (i1.1 e.symm).symm)]; exact h1
  · by_cases y : a = q
    · rw [y, dbK_p] at z; omega
    · rw [dbK_n y] at z; exact h5 z
  · rw [dbK_0 (k := 13) (by decide), dbK_0 (k := 14) (by decide), sI_ne (Ne.symm i2), sI_ne (Ne.symm i2), sI_ne (Ne.symm i2), sI_ne (Ne.symm i2)]
    exact h6 r x y
theorem dbR.dk (h : dbR D W M) (hq : 0 ≤ q ∧ q < 8) : dbR (dbK D q) W (sI M 227 q.toNat (iI (-1))) := fun a u w => by
  obtain ⟨⟨h1, h2, h3, h4⟩, h6⟩ := h a u w
  rw [dbK_0 (k := 1) (by decide), dbK_0 (k := 2) (by decide), dbK_0 (k := 12) (by decide), sI_ne (show (228 : Nat) ≠ 227 by decide), sI_ne (show (229 : Nat) ≠ 227 by decide), sI_ne (show (230 : Nat) ≠ 227 by decide)]
  refine ⟨⟨?_, h2, h3, h4⟩, fun r x y => ?_⟩
  · by_cases z : a = q
    · rw [z, dbK_p, sI_eq]
    · rw [dbK_n z, sI_nej (by omega)]; exact h1
  · rw [dbK_0 (k := 13) (by decide), dbK_0 (k := 14) (by decide), sI_ne (by decide), sI_ne (by decide), sI_ne (by decide), sI_ne (by decide)]
    exact h6 r x y
theorem drop_pair (hdl : 2 ≤ dl) (hd : 2 ≤ d) (cM : CT Mc) (rM : RT Mr) (hD : dbP D np g) (hI : dbI D tm) (ht : 0 ≤ tm) (hC : dbC D W Mc) (hR : dbR D W Mr) (hv1 : v1 = iI i) (bi : -2147483648 ≤ i ∧ i ≤ 2147483647) : ∃ r Mc' Mr', runX dl 147 [va_rf (some 64), .int v1] Mc = some (.int r, Mc') ∧ runX d 276 [va_rf (some 160), .int v1] Mr = some (.int r, Mr') ∧ ((Mc' = Mc ∧ Mr' = Mr) ∨ ∃ q, (0 ≤ q ∧ q < 8) ∧ Mc' = sI Mc (zTw q) 0 (iI (-2)) ∧ Mr' = sI Mr 227 q.toNat (iI (-1)) ∧ dbP (dbK D q) np g ∧ dbI (dbK D q) tm ∧ dbC (dbK D q) W Mc' ∧ dbR (dbK D q) W Mr') := by
  obtain ⟨dl, rfl⟩ : ∃ e, dl = e + 1 := ⟨dl - 1, by omega⟩
  obtain ⟨d, rfl⟩ : ∃ e, d = e + 1 := ⟨d - 1, by omega⟩
  subst hv1
  have eC : runX (dl + 1) 147 [va_rf (some 64), .int (iI i)] Mc = c147 (runX dl) (some 64) (iI i) Mc := by
    rw [r147]; unfold b147; rw [aR_e, aI_e, aZ_e]
  have eR : runX (d + 1) 276 [va_rf (some 160), .int (iI i)] Mr = c276 (runX d) (some 160) (iI i) Mr := by
    rw [r276]; unfold b276; rw [aR_e, aI_e, aZ_e]
  rcases dbl_two (dl := dl) (d := d) (by omega) (by omega) cM rM hD hI hC hR bi with ⟨q, hq, hi, e1, e2⟩ | ⟨hn, e1, e2⟩
  · obtain ⟨⟨-, -, -, q2, -⟩, -⟩ := hC q hq.1 hq.2
    obtain ⟨⟨-, -, -, q4⟩, -⟩ := hR q hq.1 hq.2
    refine ⟨iI (D 12 q 0), _, _, ?_, ?_, Or.inr ⟨q, hq, rfl, rfl, hD.dk, hI.dk ht, hC.dk hq, hR.dk hq⟩⟩
    · rw [eC]
      unfold c147
      have k1 := (zTw_k cM hq).1.1
      rw [vC_e (ck_64 cM), cP_e e1, if_neg (show ¬ some (zTw q) = none by simp), ptI_q (v := (-2 : Int32)) (z := -2) k1 rfl, gtI_q (M := sI Mc (zTw q) 0 (iI (-2))) k1 ((sI_nej (by decide)).trans q2)]
    · rw [eR]
      unfold c276
      rw [vC_e (rk_160 rM), cI_e e2, if_pos (show 0 ≤ iI q from leI_p (x := 0) li_0 rfl (by omega)), gtP_q (rk_160 rM) (rf_112 rM), asI_q (n := 8) (z := q) (v := (-1 : Int32)) (y := -1) (rk_227 rM) rfl (by omega) rfl]
      have r2 : RT (sI Mr 227 q.toNat (iI (-1))) := rM
      rw [gtP_q (rk_160 r2) (rf_115 r2), alI_q (n := 8) (z := q) (rk_230 r2) rfl (by omega) ((sI_ne (by decide)).trans q4)]
  · refine ⟨-1, Mc, Mr, ?_, ?_, Or.inl ⟨rfl, rfl⟩⟩
    · rw [eC]
      unfold c147
      rw [vC_e (ck_64 cM), cP_e e1, if_pos rfl]
    · rw [eR]
      unfold c276
      rw [vC_e (rk_160 rM), cI_e e2, if_neg (show ¬ 0 ≤ iI (-1) by decide)]
end S9eb
