/-! the first object's machine: its small methods -/
section S93
variable {d : Nat} {M : Mem} {t n b w q p x y z : Int} {v v1 v2 v3 v4 : Int32} {i F : Nat}
theorem cf93n (hC : CT M) (h : i < 12) : M.2.2.1 93 i = some (94 + i) := by
  have c : i = 0 ∨ i = 1 ∨ i = 2 ∨ i = 3 ∨ i = 4 ∨ i = 5 ∨ i = 6 ∨ i = 7 ∨ i = 8 ∨ i = 9 ∨ i = 10 ∨ i = 11 := by omega
  rcases c with c | c | c | c | c | c | c | c | c | c | c | c <;> subst c <;> exact hC.2 (93, _, _) (by decide +kernel)
theorem ck94n (hC : CT M) (h : i < 12) : M.2.2.2[94 + i]? = some (100, 4) := by
  have c : i = 0 ∨ i = 1 ∨ i = 2 ∨ i = 3 ∨ i = 4 ∨ i = 5 ∨ i = 6 ∨ i = 7 ∨ i = 8 ∨ i = 9 ∨ i = 10 ∨ i = 11 := by omega
  rcases c with c | c | c | c | c | c | c | c | c | c | c | c <;> subst c <;> exact hC.1 (_, 100, 4) (by decide +kernel)
theorem mC32 (hd : 1 ≤ d) (hC : CT M) (h : M.1 88 12 = iI t) (ht : 0 ≤ t ∧ t < 2520) : runX d 32 [va_rf (some 88), .int v] M = some (.null, sI (sI M 92 t.toNat v) 88 12 (iI (t + 1))) := by
  obtain ⟨d, rfl⟩ : ∃ e, d = e + 1 := ⟨d - 1, by omega⟩
  have k := ck_88 hC
  refine Rt.e ?_
  rw [r32]; unfold b32; rw [aR_e, aI_e, aZ_e]; unfold c32
  refine rs1 (gtI_q k h) ?_
  refine rs1 (jn_v) ?_
  refine rs1 (if_neg (lsI_n rfl li_0 (by omega))) ?_
  refine rs1 (gtI_q k h) ?_
  refine rs1 (gtP_q k (cf_88_11 hC)) ?_
  refine rs1 (aln_q (ck_92 hC) (by decide)) ?_
  refine rs1 (if_neg (leI_n rfl rfl (by omega))) ?_
  refine rs1 (gtP_q k (cf_88_11 hC)) ?_
  refine rs1 (gtI_q k h) ?_
  refine rs1 (asI_e (ck_92 hC) (by omega) (by omega) (by omega)) ?_
  refine rs1 (gtI_q (M := sI M 92 t.toNat v) k ((sI_ne (by decide)).trans h)) ?_
  refine rs1 (ptI_q (M := sI M 92 t.toNat v) (z := t + 1) k (adI rfl li_1)) ?_
  refine rs1 (jv_e) ?_
  exact Rt.ok ⟨rfl, rfl⟩
theorem mC33 (hd : 1 ≤ d) (hC : CT M) (h : M.1 88 12 = iI t) (ht : 1 ≤ t ∧ t ≤ 2520) : runX d 33 [va_rf (some 88)] M = some (.int (M.1 92 (t - 1).toNat), sI M 88 12 (iI (t - 1))) := by
  obtain ⟨d, rfl⟩ : ∃ e, d = e + 1 := ⟨d - 1, by omega⟩
  have k := ck_88 hC
  refine Rt.e ?_
  rw [r33]; unfold b33; rw [aR_e, aZ_e]; unfold c33
  refine rs1 (gtI_q k h) ?_
  refine rs1 (jn_v) ?_
  refine rs1 (if_neg (leI_n rfl li_0 (by omega))) ?_
  refine rs1 (gtI_q k h) ?_
  refine rs1 (gtP_q k (cf_88_11 hC)) ?_
  refine rs1 (aln_q (ck_92 hC) (by decide)) ?_
  refine rs1 (if_pos (leI_p rfl rfl (by omega))) ?_
  refine rs1 (gtI_q k h) ?_
  refine rs1 (ptI_q (z := t - 1) k (sbI rfl li_1)) ?_
  refine rs1 (gtP_q (M := sI M 88 12 (iI (t - 1))) k (cf_88_11 hC)) ?_
  refine rs1 (gtI_q (M := sI M 88 12 (iI (t - 1))) k sI_eq) ?_
  refine rs1 (alI_e (M := sI M 88 12 (iI (t - 1))) (ck_92 hC) (by omega) (by omega) (by omega)) ?_
  exact Rt.ok ⟨congrArg Value.int (sI_ne (by decide)), rfl⟩
theorem mC32' (hd : 1 ≤ d) (hC : CT M) (h : M.1 88 12 = iI t) (ht : 0 ≤ t ∧ t < 2520) : runX d 32 [va_rf (some 88), .int v] M = some (.null, sI (sI M 92 t.toNat v) 88 12 (iI (t + 1))) := by
  obtain ⟨d, rfl⟩ : ∃ e, d = e + 1 := ⟨d - 1, by omega⟩
  have k := ck_88 hC
  have k2 := ck_92 hC
  have h2 := cf_88_11 hC
  rw [r32]; unfold b32; rw [aR_e, aI_e, aZ_e]; unfold c32
  simp (disch := omega) only [gtI, gtP, k, k2, h, h2, jn_v, jv_e, aln_e k2, li_0, li_1, iI_lt, iI_le, iI_add, if_pos, if_neg, asI_e, sI_ne, ptI, k_sI, ↓reduceIte, ne_eq, not_false_eq_true]
theorem mC29 (hd : 1 ≤ d) (hC : CT M) (h : M.1 88 14 = iI n) (hn : 0 ≤ n ∧ n < 12) : runX d 29 [va_rf (some 88), .int v1, .int v2, .int v3, .int v4] M = some (.null, sI (sI (sI (sI (sI (sI M (94 + n.toNat) 0 v1) (94 + n.toNat) 1 v2) (94 + n.toNat) 2 v3) (94 + n.toNat) 3 v4) 88 14 (iI (n + 1))) 88 12 (v2 + 10)) := by
  obtain ⟨d, rfl⟩ : ∃ e, d = e + 1 := ⟨d - 1, by omega⟩
  have k := ck_88 hC
  have kf : M.2.2.2[94 + n.toNat]? = some (100, 4) := ck94n hC (by omega)
  refine Rt.e ?_
  rw [r29]; unfold b29; rw [aR_e, aI_e, aI_e, aI_e, aI_e, aZ_e]; unfold c29
  refine rs1 (gtP_q k (cf_88_13 hC)) ?_
  refine rs1 (gtI_q k h) ?_
  refine rs1 (alP_q (ck_93 hC) rfl (by omega) (cf93n hC (by omega))) ?_
  rw [li_0, li_1, li_2, li_3]
  refine rs1 (asI_e kf (by omega) (by omega) (by omega)) ?_
  refine rs1 (asI_e (M := sI M _ _ _) kf (by omega) (by omega) (by omega)) ?_
  refine rs1 (asI_e (M := sI (sI M _ _ _) _ _ _) kf (by omega) (by omega) (by omega)) ?_
  refine rs1 (asI_e (M := sI (sI (sI M _ _ _) _ _ _) _ _ _) kf (by omega) (by omega) (by omega)) ?_
  refine rs1 (gtI_q (w := iI n) (by exact k) ?_) ?_
  · exact (sI_ne (by omega)).trans ((sI_ne (by omega)).trans ((sI_ne (by omega)).trans ((sI_ne (by omega)).trans h)))
  refine rs1 (ptI_q (z := n + 1) (by exact k) (adI rfl rfl)) ?_
  refine rs1 (ptI_e (by exact k)) ?_
  exact Rt.ok ⟨rfl, rfl⟩
end S93
