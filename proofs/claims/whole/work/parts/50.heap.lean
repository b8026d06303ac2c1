/-! cells that come: what stays of those that stood; the class's lists -/
def ln (M : Mem) : Nat := M.2.2.2.length
/-- those that stood have their kinds; outside Z they are as they were; at most c came, with t places -/
def Fo (Z : Nat → Prop) (c t : Nat) (M M' : Mem) : Prop := (ln M ≤ ln M' ∧ ln M' ≤ ln M + c ∧ tot M'.2.2.2 ≤ tot M.2.2.2 + t ∧ ∀ a, a < ln M → M'.2.2.2[a]? = M.2.2.2[a]?) ∧ ∀ a, a < ln M → ¬ Z a → ∀ j, M'.1 a j = M.1 a j ∧ M'.2.1 a j = M.2.1 a j ∧ M'.2.2.1 a j = M.2.2.1 a j
/-- whose a cell is, once others have come for r -/
def owx (ow : Nat → Int) (N : Nat) (r : Int) : Nat → Int := fun a => if N ≤ a then r else ow a
/-- a list at L of n things C 0, C 1 ..; its own cells are r's -/
def Ls (M : Mem) (ow : Nat → Int) (L : Nat) (C : Int → Nat) (n r : Int) : Prop := (259 ≤ L ∧ M.2.2.2[L]? = some (0, 3) ∧ ow L = r ∧ 0 ≤ n) ∧ M.1 L 2 = iI n ∧ (∀ j, 0 ≤ j → j < n → ∃ q : Nat × Nat, M.2.2.2[C j]? = some q ∧ q.1 < 14) ∧ ∃ (D cap : Nat), M.2.2.1 L 1 = some D ∧ (D = 2 ∧ cap = 0 ∧ M.2.2.2[2]? = some (210, 0) ∨ 259 ≤ D ∧ M.2.2.2[D]? = some (110, cap) ∧ ow D = r ∧ (cap = 10 ∨ cap = 15 ∨ cap = 22 ∨ cap = 33 ∨ cap = 49 ∨ cap = 73 ∨ cap = 109)) ∧ n ≤ cap ∧ ∀ j, 0 ≤ j → j < n → M.2.2.1 D j.toNat = some (C j)
section S50
variable {Z Z' : Nat → Prop} {c c' t t' a b L D cap x N : Nat} {M M' M2 : Mem} {q : Nat × Nat} {ow ow' : Nat → Int} {C : Int → Nat} {n r : Int}
theorem ln_lt (h : M.2.2.2[a]? = some q) : a < ln M := (List.getElem?_eq_some_iff.mp h).1
theorem Fo.z : Fo Z 0 0 M M := ⟨⟨Nat.le_refl _, Nat.le_refl _, Nat.le_refl _, fun _ _ => rfl⟩, fun _ _ _ _ => ⟨rfl, rfl, rfl⟩⟩
theorem Fo.tr (h : Fo Z c t M M') (g : Fo Z c' t' M' M2) : Fo Z (c + c') (t + t') M M2 := by
  obtain ⟨⟨h1, h2, h3, h4⟩, h5⟩ := h
  obtain ⟨⟨g1, g2, g3, g4⟩, g5⟩ := g
  refine ⟨⟨by omega, by omega, by omega, fun a p => (g4 a (by omega)).trans (h4 a p)⟩, fun a p z j => ?_⟩
  obtain ⟨e1, e2, e3⟩ := h5 a p z j
  obtain ⟨f1, f2, f3⟩ := g5 a (by omega) z j
  exact ⟨f1.trans e1, f2.trans e2, f3.trans e3⟩
theorem Fo.m (h : Fo Z c t M M') (hz : ∀ a, a < ln M → Z a → Z' a) (hc : c ≤ c') (ht : t ≤ t') : Fo Z' c' t' M M' := by
  obtain ⟨⟨h1, h2, h3, h4⟩, h5⟩ := h
  exact ⟨⟨h1, by omega, by omega, h4⟩, fun a p z => h5 a p fun w => z (hz a p w)⟩
theorem Fo.kd (h : Fo Z c t M M') (e : M.2.2.2[a]? = some q) : M'.2.2.2[a]? = some q := (h.1.2.2.2 a (ln_lt e)).trans e
theorem Fo.i (h : Fo Z c t M M') (ha : a < ln M) (hz : ¬ Z a) (j : Nat) : M'.1 a j = M.1 a j := (h.2 a ha hz j).1
theorem Fo.l (h : Fo Z c t M M') (ha : a < ln M) (hz : ¬ Z a) (j : Nat) : M'.2.1 a j = M.2.1 a j := (h.2 a ha hz j).2.1
theorem Fo.p (h : Fo Z c t M M') (ha : a < ln M) (hz : ¬ Z a) (j : Nat) : M'.2.2.1 a j = M.2.2.1 a j := (h.2 a ha hz j).2.2
theorem tot_ap1 {K : List (Nat × Nat)} {u m : Nat} : tot (K ++ [(u, m)]) = tot K + m := by
  unfold tot
  rw [List.map_append, List.sum_append]
  rfl
theorem Fo.nw {u m : Nat} : Fo Z 1 m M (nw M u m) := by
  refine ⟨⟨?_, ?_, ?_, fun a p => ?_⟩, fun a p _ j => ?_⟩
  · show M.2.2.2.length ≤ (M.2.2.2 ++ [(u, m)]).length
    rw [List.length_append]; omega
  · show (M.2.2.2 ++ [(u, m)]).length ≤ M.2.2.2.length + 1
    rw [List.length_append]; exact Nat.le_refl _
  · show tot (M.2.2.2 ++ [(u, m)]) ≤ _
    rw [tot_ap1]; exact Nat.le_refl _
  · exact List.getElem?_append_left p
  · have e : a ≠ M.2.2.2.length := Nat.ne_of_lt p
    exact ⟨if_neg e, if_neg e, if_neg e⟩
theorem nw_kd {u m : Nat} : (nw M u m).2.2.2[ln M]? = some (u, m) := by
  show (M.2.2.2 ++ [(u, m)])[M.2.2.2.length]? = _
  rw [List.getElem?_append_right (Nat.le_refl _), Nat.sub_self]
  rfl
theorem nw_ln {u m : Nat} : ln (nw M u m) = ln M + 1 := by
  show (M.2.2.2 ++ [(u, m)]).length = M.2.2.2.length + 1
  rw [List.length_append]
  rfl
theorem nw_i {u m j : Nat} : (nw M u m).1 (ln M) j = iI 0 := (if_pos rfl : (nw M u m).1 (ln M) j = 0).trans li_0
theorem nw_l {u m j : Nat} : (nw M u m).2.1 (ln M) j = 0 := if_pos rfl
theorem nw_p {u m j : Nat} : (nw M u m).2.2.1 (ln M) j = none := if_pos rfl
theorem Fo.sI {j : Nat} {v : Int32} (ha : Z a) : Fo Z 0 0 M (sI M a j v) := ⟨⟨Nat.le_refl _, Nat.le_refl _, Nat.le_refl _, fun _ _ => rfl⟩, fun b _ z i => ⟨sI_ne fun e => z (e ▸ ha), rfl, rfl⟩⟩
theorem Fo.sL {j : Nat} {v : Int64} (ha : Z a) : Fo Z 0 0 M (sL M a j v) := ⟨⟨Nat.le_refl _, Nat.le_refl _, Nat.le_refl _, fun _ _ => rfl⟩, fun b _ z i => ⟨rfl, sL_ne fun e => z (e ▸ ha), rfl⟩⟩
theorem sP_eq {j : Nat} {v : Option Nat} : (sP M a j v).2.2.1 a j = v := by
  show up2 M.2.2.1 a j v a j = v
  rw [up2_at, if_pos rfl]
theorem sP_nej {i j : Nat} {v : Option Nat} (h : i ≠ j) : (sP M a j v).2.2.1 b i = M.2.2.1 b i := by
  show up2 M.2.2.1 a j v b i = _
  by_cases e : b = a
  · rw [e, up2_at, if_neg h]
  · exact up2_ne e i
theorem sP_ne {i j : Nat} {v : Option Nat} (h : b ≠ a) : (sP M a j v).2.2.1 b i = M.2.2.1 b i := up2_ne h i
theorem Fo.sP {j : Nat} {v : Option Nat} (ha : Z a) : Fo Z 0 0 M (sP M a j v) := ⟨⟨Nat.le_refl _, Nat.le_refl _, Nat.le_refl _, fun _ _ => rfl⟩, fun b _ z i => ⟨rfl, rfl, sP_ne fun e => z (e ▸ ha)⟩⟩
theorem Fo.cpP {a0 sp dp m : Nat} (ha : Z a) : Fo Z 0 0 M (cpP M a0 sp a dp m) := ⟨⟨Nat.le_refl _, Nat.le_refl _, Nat.le_refl _, fun _ _ => rfl⟩, fun b _ z i => ⟨rfl, rfl, if_neg fun (e : b = a) => z (e ▸ ha)⟩⟩
theorem owx_o (h : a < N) : owx ow N r a = ow a := if_neg (by omega)
theorem owx_n (h : N ≤ a) : owx ow N r a = r := if_pos h
theorem Ls.fo (h : Ls M ow L C n r) (f : Fo Z c t M M') (hz : ∀ a, a < ln M → Z a → ow a ≠ r) (ho : ∀ a, a < ln M → ow' a = ow a) : Ls M' ow' L C n r := by
  obtain ⟨⟨h1, h2, h3, h4⟩, h5, h6, D, cap, h7, h8, h9, h10⟩ := h
  have l1 := ln_lt h2
  have z1 : ¬ Z L := fun w => hz L l1 w h3
  refine ⟨⟨h1, f.kd h2, (ho _ l1).trans h3, h4⟩, (f.i l1 z1 _).trans h5, fun j p q => ?_, D, cap, (f.p l1 z1 _).trans h7, ?_, h9, fun j p q => ?_⟩
  · obtain ⟨w, w1, w2⟩ := h6 j p q
    exact ⟨w, f.kd w1, w2⟩
  · rcases h8 with ⟨e1, e2, e3⟩ | ⟨e1, e2, e3, e4⟩
    · exact Or.inl ⟨e1, e2, f.kd e3⟩
    · exact Or.inr ⟨e1, f.kd e2, (ho _ (ln_lt e2)).trans e3, e4⟩
  · rcases h8 with ⟨e1, e2, e3⟩ | ⟨e1, e2, e3, e4⟩
    · omega
    · exact (f.p (ln_lt e2) (fun w => hz D (ln_lt e2) w e3) _).trans (h10 j p q)
theorem asP_q {u : Nat} {i : Int32} {z : Int} {k : Mem → XA} (h : M.2.2.2[a]? = some (u, cap)) (hi : i = iI z) (hz : 0 ≤ z ∧ z < cap ∧ z < 2147483648) (hv : asOK u M (some x) = true) : asP u M (some a) i (some x) k = k (sP M a z.toNat (some x)) := by rw [hi, asP_e h hz.1 hz.2.1 hz.2.2 hv]
theorem asOK_o (h : M.2.2.2[x]? = some q) (hq : q.1 < 14) : asOK 110 M (some x) = true := by
  unfold asOK
  dsimp only
  rw [h]
  exact decide_eq_true hq
/-- how many it has, and one of them -/
theorem ls_size {d : Nat} (hd : 1 ≤ d) (h : Ls M ow L C n r) : runX d 346 [va_rf (some L)] M = some (.int (iI n), M) := by
  obtain ⟨d, rfl⟩ : ∃ e, d = e + 1 := ⟨d - 1, by omega⟩
  rw [r346]; unfold b346; rw [aR_e, aZ_e]; unfold c346
  rw [gtI_q h.1.2.1 h.2.1]
theorem ls_get {d : Nat} {v : Int32} {j : Int} (hd : 3 ≤ d) (h : Ls M ow L C n r) (hv : v = iI j) (hj : 0 ≤ j ∧ j < n) : runX d 348 [va_rf (some L), .int v] M = some (va_rf (some (C j)), M) := by
  obtain ⟨d, rfl⟩ : ∃ e, d = e + 3 := ⟨d - 3, by omega⟩
  obtain ⟨⟨h1, h2, h3, h4⟩, h5, h6, D, cap, h7, h8, h9, h10⟩ := h
  have hc : cap ≤ 109 := by omega
  refine Rt.e ?_
  rw [r348]; unfold b348; rw [aR_e, aI_e, aZ_e]; unfold c348
  refine rs1 (gtI_q h2 h5) ?_
  have e1 : runX (d + 1) 360 [.int v, .int (iI n), va_rf none] M = some (.int v, M) := by
    rw [r360]; unfold b360; rw [aI_e, aI_e, aR_e, aZ_e]; unfold c360
    refine Rt.e ?_
    refine rs1 (jn_v) ?_
    refine rs1 (if_neg (lsI_n hv li_0 (by omega))) ?_
    refine rs1 (if_pos (lsI_p hv rfl (by omega))) ?_
    exact Rt.ok ⟨rfl, rfl⟩
  have e2 : runX (d + 2) 357 [.int v, .int (iI n)] M = some (.int v, M) := by
    rw [r357]; unfold b357; rw [aI_e, aI_e, aZ_e]; unfold c357
    rw [cI_e e1]
  refine rs1 (cI_e e2) ?_
  refine rs1 (vC_e h2) ?_
  have e3 : runX (d + 2) 347 [va_rf (some L), .int v] M = some (va_rf (some (C j)), M) := by
    rw [r347]; unfold b347; rw [aR_e, aI_e, aZ_e]; unfold c347
    rw [gtP_q h2 h7]
    rcases h8 with ⟨-, e2, -⟩ | ⟨-, e2, -, -⟩
    · omega
    · rw [alP_q e2 hv (by omega) (h10 j hj.1 hj.2)]
  refine rs1 (cP_e e3) ?_
  exact Rt.ok ⟨rfl, rfl⟩
/-- behind the last: there is room -/
theorem ls349 {d : Nat} {v : Int32} (hd : 1 ≤ d) (h2 : M.2.2.2[L]? = some (0, 3)) (hk : M.2.2.2[D]? = some (110, cap)) (hn : 0 ≤ n ∧ n < cap ∧ cap ≤ 200) (hx : M.2.2.2[x]? = some q) (hq : q.1 < 14) (hv : v = iI n) : runX d 349 [va_rf (some L), va_rf (some x), va_rf (some D), .int v] M = some (.null, sI (sP M D n.toNat (some x)) L 2 (iI (n + 1))) := by
  obtain ⟨d, rfl⟩ : ∃ e, d = e + 1 := ⟨d - 1, by omega⟩
  refine Rt.e ?_
  rw [r349]; unfold b349; rw [aR_e, aR_e, aR_e, aI_e, aZ_e]; unfold c349
  refine rs1 (aln_q hk (by omega)) ?_
  refine rs1 (jn_v) ?_
  refine rs1 (if_neg (eqI_n hv rfl (by omega))) ?_
  refine rs1 (jv_e) ?_
  refine rs1 (asP_q hk hv (by omega) (asOK_o hx hq)) ?_
  refine rs1 (ptI_q (z := n + 1) h2 (adI hv li_1)) ?_
  exact Rt.ok ⟨rfl, rfl⟩
/-- a first array of ten -/
theorem ls345_0 {d : Nat} (hd : 2 ≤ d) (h2 : M.2.2.2[L]? = some (0, 3)) (h5 : M.1 L 2 = iI 0) (h7 : M.2.2.1 L 1 = some 2) (h8 : M.2.2.2[2]? = some (210, 0)) : runX d 345 [va_rf (some L)] M = some (va_rf (some (ln M)), sP (nw M 110 10) L 1 (some (ln M))) := by
  obtain ⟨d, rfl⟩ : ∃ e, d = e + 2 := ⟨d - 2, by omega⟩
  refine Rt.e ?_
  rw [r345]; unfold b345; rw [aR_e, aZ_e]; unfold c345
  refine rs1 (gtI_q h2 h5) ?_
  refine rs1 (vC_e h2) ?_
  have e1 : runX (d + 1) 344 [va_rf (some L), .int (iI 0 + 1)] M = some (va_rf (some (ln M)), sP (nw M 110 10) L 1 (some (ln M))) := by
    refine Rt.e ?_
    rw [r344]; unfold b344; rw [aR_e, aI_e, aZ_e]; unfold c344
    refine rs1 (gtP_q h2 h7) ?_
    refine rs1 (aln_q h8 (Or.inr ⟨by omega, by omega⟩)) ?_
    refine rs1 (jn_v) ?_
    refine rs1 (if_neg (lsI_n (x := 0) (y := 0) li_0 rfl (by omega))) ?_
    refine rs1 (gtP_q h2 h7) ?_
    refine rs1 (if_pos rfl) ?_
    refine rs1 (ltI_q (z := 10) ((if_neg (lsI_n (x := 10) (y := 1) li_10 (adI rfl li_1) (by omega))).trans li_10)) ?_
    refine rs1 (nA_e (by omega) (by omega)) ?_
    refine rs1 (ptP_e (Fo.nw.kd (Z := fun _ => False) h2)) ?_
    exact Rt.ok ⟨rfl, rfl⟩
  refine rs1 (cP_e e1) ?_
  exact Rt.ok ⟨rfl, rfl⟩
theorem obN_of {a0 : Nat} : ∀ m : Nat, (∀ j, j < m → ∃ y q, M.2.2.1 a0 j = some y ∧ M.2.2.2[y]? = some q ∧ q.1 < 14) → obN M a0 0 m = true
  | 0, _ => rfl
  | m + 1, h => by
    obtain ⟨y, q, h1, h2, h3⟩ := h m (Nat.lt_succ_self m)
    have e : M.2.2.1 a0 (0 + m) = some y := by rw [Nat.zero_add]; exact h1
    show (obN M a0 0 m && asOK 110 M (M.2.2.1 a0 (0 + m))) = true
    rw [obN_of m (fun j p => h j (Nat.lt_succ_of_lt p)), e, asOK_o h2 h3]
    rfl
theorem gcl_e {k : Option Nat → XA} (h : M.2.2.2[a]? = some (110, cap)) : gcl M (some a) k = k (some 63) := by
  unfold gcl
  dsimp only
  rw [h]
  rfl
theorem acP_e {a0 m : Nat} {k : Mem → XA} {i j w : Int32} (hi : i = iI 0) (hj : j = iI 0) (hw : w = iI m) (h1 : M.2.2.2[a0]? = some (110, b)) (h2 : M.2.2.2[a]? = some (110, cap)) (hm : m ≤ b ∧ m ≤ cap ∧ m ≤ 1000) (ho : obN M a0 0 m = true) : acP M (some a0) i (some a) j w k = k (cpP M a0 0 a 0 m) := by
  have e0 : i.toNatClampNeg = 0 := by rw [hi]; rfl
  have e1 : j.toNatClampNeg = 0 := by rw [hj]; rfl
  have e2 : w.toNatClampNeg = m := by rw [hw, iI_nat (by omega) (by omega)]; rfl
  have n0 : ¬ i < 0 := lsI_n hi li_0 (by omega)
  have n1 : ¬ j < 0 := lsI_n hj li_0 (by omega)
  have n2 : ¬ w < 0 := lsI_n hw li_0 (by omega)
  unfold acP
  have g : acOK 110 M a0 i a j w = true := by
    unfold acOK
    rw [h1, h2, e0, e1, e2]
    dsimp only
    rw [decide_eq_false n0, decide_eq_false n1, decide_eq_false n2, decide_eq_true (show 0 + m ≤ b by omega), decide_eq_true (show 0 + m ≤ cap by omega)]
    rfl
  dsimp only
  rw [e0, e1, e2, if_pos ⟨g, ho⟩]
end S50
