/-! the reference's machine: its small methods -/
section S94
variable {d : Nat} {M : Mem} {t n p z o id : Int} {v v1 v2 v3 a b : Int32}
theorem mR241 (hd : 1 ≤ d) (hR : RT M) (h : M.1 160 73 = iI t) (ht : 0 ≤ t ∧ t < 3000) : runX d 241 [va_rf (some 160), .int v] M = some (.null, sI (sI M 213 t.toNat v) 160 73 (iI (t + 1))) := by
  obtain ⟨d, rfl⟩ : ∃ e, d = e + 1 := ⟨d - 1, by omega⟩
  have k := rk_160 hR
  refine Rt.e ?_
  rw [r241]; unfold b241; rw [aR_e, aI_e, aZ_e]; unfold c241
  refine rs1 (gtP_q k (rf_72 hR)) ?_
  refine rs1 (gtI_q k h) ?_
  refine rs1 (asI_e (rk_213 hR) (by omega) (by omega) (by omega)) ?_
  refine rs1 (gtI_q (M := sI M 213 t.toNat v) k ((sI_ne (by decide)).trans h)) ?_
  refine rs1 (ptI_q (M := sI M 213 t.toNat v) (z := t + 1) k (adI rfl li_1)) ?_
  exact Rt.ok ⟨rfl, rfl⟩
theorem mR242 (hd : 1 ≤ d) (hR : RT M) (h : M.1 160 73 = iI t) (ht : 1 ≤ t ∧ t ≤ 3000) : runX d 242 [va_rf (some 160)] M = some (.int (M.1 213 (t - 1).toNat), sI M 160 73 (iI (t - 1))) := by
  obtain ⟨d, rfl⟩ : ∃ e, d = e + 1 := ⟨d - 1, by omega⟩
  have k := rk_160 hR
  refine Rt.e ?_
  rw [r242]; unfold b242; rw [aR_e, aZ_e]; unfold c242
  refine rs1 (gtI_q k h) ?_
  refine rs1 (ptI_q k (sbI rfl li_1)) ?_
  refine rs1 (gtP_q (M := sI M 160 73 (iI (t - 1))) k (rf_72 hR)) ?_
  refine rs1 (gtI_q (M := sI M 160 73 (iI (t - 1))) k sI_eq) ?_
  refine rs1 (alI_e (M := sI M 160 73 (iI (t - 1))) (rk_213 hR) (by omega) (by omega) (by omega)) ?_
  exact Rt.ok ⟨congrArg Value.int (sI_ne (by decide)), rfl⟩
/-- what fails is noted -/
def rF (M : Mem) (v1 v2 v3 : Int32) : Mem := sI (sI (sI (sI M 160 86 1) 160 88 v1) 160 89 v2) 160 87 v3
theorem mR239 (hd : 1 ≤ d) (hR : RT M) (h : v3 = 0 ∨ v3 = 1) : runX d 239 [va_rf (some 160), .int v1, .int v2, .int v3] M = some (.null, rF M v1 v2 v3) := by
  obtain ⟨d, rfl⟩ : ∃ e, d = e + 1 := ⟨d - 1, by omega⟩
  have k := rk_160 hR
  refine Rt.e ?_
  rw [r239]; unfold b239; rw [aR_e, aI_e, aI_e, aI_e, aZ_e]; unfold c239
  refine rs1 (ptZ_e k (Or.inr rfl)) ?_
  refine rs1 (ptI_e (M := sI M 160 86 1) k) ?_
  refine rs1 (ptI_e (M := sI (sI M 160 86 1) 160 88 v1) k) ?_
  refine rs1 (ptZ_e (M := sI (sI (sI M 160 86 1) 160 88 v1) 160 89 v2) k h) ?_
  exact Rt.ok ⟨rfl, rfl⟩
theorem mR245 (hd : 1 ≤ d) (h : v = 0 ∨ v = 1) : runX d 245 [.int v] M = some (.int v, M) := by
  obtain ⟨d, rfl⟩ : ∃ e, d = e + 1 := ⟨d - 1, by omega⟩
  rw [r245]; unfold b245; rw [aI_e, aZ_e]; unfold c245
  rcases h with rfl | rfl <;> rfl
theorem mR236 (hd : 1 ≤ d) (hR : RT M) {q : Int} (h66 : M.1 160 66 = iI p) (h67 : M.1 160 67 = iI q) (hp : 0 ≤ p ∧ p < 8 ∧ -1 ≤ q ∧ q < 8) (hv : v = iI id) (hi : 0 ≤ id ∧ id < 192) : runX d 236 [va_rf (some 160), .int v] M = some (.int (iI (if id < 96 then 96 * p + id else 96 * (q - 1) + id)), M) := by
  obtain ⟨d, rfl⟩ : ∃ e, d = e + 1 := ⟨d - 1, by omega⟩
  have k := rk_160 hR
  refine Rt.e ?_
  rw [r236]; unfold b236; rw [aR_e, aI_e, aZ_e]; unfold c236
  refine rs1 (jn_v) ?_
  by_cases c : id < 96
  · rw [if_pos c]
    refine rs1 (if_neg (leI_n (x := 96) rfl hv (by omega))) ?_
    refine rs1 (gtI_q k h66) ?_
    refine rs1 (jv_e) ?_
    exact Rt.ok ⟨congrArg Value.int (adI (mlI (x := 96) rfl rfl) hv), rfl⟩
  · rw [if_neg c]
    refine rs1 (if_pos (leI_p (x := 96) rfl hv (by omega))) ?_
    refine rs1 (gtI_q k h67) ?_
    refine rs1 (jv_e) ?_
    exact Rt.ok ⟨congrArg Value.int (adI (mlI (x := 96) rfl (sbI rfl li_1)) hv), rfl⟩
theorem two_c (h : 10 ≤ o ∧ o ≤ 20) : o = 10 ∨ o = 11 ∨ o = 12 ∨ o = 13 ∨ o = 14 ∨ o = 15 ∨ o = 16 ∨ o = 17 ∨ o = 18 ∨ o = 19 ∨ o = 20 := by omega
/-- operations 10 to 20: a number, or a division by 0 -/
theorem mR246 (hd : 2 ≤ d) (hR : RT M) (h : M.1 160 73 = iI t) (ht : 0 ≤ t ∧ t < 3000) (hv : v = iI o) (ho : 10 ≤ o ∧ o ≤ 20) : runX d 246 [va_rf (some 160), .int v, .int a, .int b, .int v1] M = some (.null, if b = 0 ∧ (o = 13 ∨ o = 14) then rF M 1 v1 0 else sI (sI M 213 t.toNat (ztwo o a b)) 160 73 (iI (t + 1))) := by
  obtain ⟨d, rfl⟩ : ∃ e, d = e + 2 := ⟨d - 2, by omega⟩
  have k := rk_160 hR
  have p1 : ∀ x : Int32, runX (d + 1) 241 [va_rf (some 160), .int x] M = some (.null, sI (sI M 213 t.toNat x) 160 73 (iI (t + 1))) := fun x => mR241 (by omega) hR h ht
  have p2 : runX (d + 1) 239 [va_rf (some 160), .int (1 : Int32), .int v1, .int (0 : Int32)] M = some (.null, rF M 1 v1 0) := mR239 (by omega) hR (Or.inl rfl)
  have p3 : runX (d + 1) 245 [.int (0 : Int32)] M = some (.int 0, M) := mR245 (by omega) (Or.inl rfl)
  have p4 : runX (d + 1) 245 [.int (1 : Int32)] M = some (.int 1, M) := mR245 (by omega) (Or.inr rfl)
  subst hv
  rw [r246]; unfold b246; rw [aR_e, aI_e, aI_e, aI_e, aI_e, aZ_e]; unfold c246
  rcases two_c ho with c | c | c | c | c | c | c | c | c | c | c <;> subst c
  · rw [if_neg (by omega)]
    show (vC (13, 157) M (some 160) _ : XA) = _
    rw [vC_e k, cV_e (p1 _)]; rfl
  · rw [if_neg (by omega)]
    show (vC (13, 157) M (some 160) _ : XA) = _
    rw [vC_e k, cV_e (p1 _)]; rfl
  · rw [if_neg (by omega)]
    show (vC (13, 157) M (some 160) _ : XA) = _
    rw [vC_e k, cV_e (p1 _)]; rfl
  · by_cases c : b = 0
    · rw [if_pos ⟨c, Or.inl rfl⟩]
      show (if b = 0 then _ else _ : XA) = _
      rw [if_pos c, vC_e k, cV_e p2]
    · rw [if_neg fun q => c q.1]
      show (if b = 0 then _ else _ : XA) = _
      rw [if_neg c]
      show (if b = 0 then _ else _ : XA) = _
      rw [if_neg c]
      show (vC (13, 157) M (some 160) _ : XA) = _
      rw [vC_e k, cV_e (p1 _)]; rfl
  · by_cases c : b = 0
    · rw [if_pos ⟨c, Or.inr rfl⟩]
      show (if b = 0 then _ else _ : XA) = _
      rw [if_pos c, vC_e k, cV_e p2]
    · rw [if_neg fun q => c q.1]
      show (if b = 0 then _ else _ : XA) = _
      rw [if_neg c]
      show (if b = 0 then _ else _ : XA) = _
      rw [if_neg c]
      show (vC (13, 157) M (some 160) _ : XA) = _
      rw [vC_e k, cV_e (p1 _)]; rfl
  · rw [if_neg (by omega)]
    show (if b ≤ a then _ else _ : XA) = _
    by_cases c : b ≤ a
    · rw [if_pos c]
      show (cI _ _ : XA) = _
      rw [cI_e p3, vC_e k, cV_e (p1 _)]
      show some (Value.null, _) = some (Value.null, sI (sI M 213 t.toNat (if b ≤ a then 0 else 1)) 160 73 _)
      rw [if_pos c]
    · rw [if_neg c]
      show (cI _ _ : XA) = _
      rw [cI_e p4, vC_e k, cV_e (p1 _)]
      show some (Value.null, _) = some (Value.null, sI (sI M 213 t.toNat (if b ≤ a then 0 else 1)) 160 73 _)
      rw [if_neg c]
  · rw [if_neg (by omega)]
    show (if b < a then _ else _ : XA) = _
    by_cases c : b < a
    · rw [if_pos c]
      show (cI _ _ : XA) = _
      rw [cI_e p3, vC_e k, cV_e (p1 _)]
      show some (Value.null, _) = some (Value.null, sI (sI M 213 t.toNat (if b < a then 0 else 1)) 160 73 _)
      rw [if_pos c]
    · rw [if_neg c]
      show (cI _ _ : XA) = _
      rw [cI_e p4, vC_e k, cV_e (p1 _)]
      show some (Value.null, _) = some (Value.null, sI (sI M 213 t.toNat (if b < a then 0 else 1)) 160 73 _)
      rw [if_neg c]
  · rw [if_neg (by omega)]
    show (if a = b then _ else _ : XA) = _
    by_cases c : a = b
    · rw [if_pos c]
      show (cI _ _ : XA) = _
      rw [cI_e p4, vC_e k, cV_e (p1 _)]
      show some (Value.null, _) = some (Value.null, sI (sI M 213 t.toNat (if a = b then 1 else 0)) 160 73 _)
      rw [if_pos c]
    · rw [if_neg c]
      show (cI _ _ : XA) = _
      rw [cI_e p3, vC_e k, cV_e (p1 _)]
      show some (Value.null, _) = some (Value.null, sI (sI M 213 t.toNat (if a = b then 1 else 0)) 160 73 _)
      rw [if_neg c]
  · rw [if_neg (by omega)]
    show (if a = b then _ else _ : XA) = _
    by_cases c : a = b
    · rw [if_pos c]
      show (cI _ _ : XA) = _
      rw [cI_e p3, vC_e k, cV_e (p1 _)]
      show some (Value.null, _) = some (Value.null, sI (sI M 213 t.toNat (if a = b then 0 else 1)) 160 73 _)
      rw [if_pos c]
    · rw [if_neg c]
      show (cI _ _ : XA) = _
      rw [cI_e p4, vC_e k, cV_e (p1 _)]
      show some (Value.null, _) = some (Value.null, sI (sI M 213 t.toNat (if a = b then 0 else 1)) 160 73 _)
      rw [if_neg c]
  · rw [if_neg (by omega)]
    show (if a = 0 then _ else _ : XA) = _
    by_cases c : a = 0
    · rw [if_pos c]
      show (cI _ _ : XA) = _
      rw [cI_e p3, vC_e k, cV_e (p1 _)]
      show some (Value.null, _) = some (Value.null, sI (sI M 213 t.toNat (if a = 0 then 0 else if b = 0 then 0 else 1)) 160 73 _)
      rw [if_pos c]
    · rw [if_neg c]
      by_cases c2 : b = 0
      · rw [if_pos c2]
        show (cI _ _ : XA) = _
        rw [cI_e p3, vC_e k, cV_e (p1 _)]
        show some (Value.null, _) = some (Value.null, sI (sI M 213 t.toNat (if a = 0 then 0 else if b = 0 then 0 else 1)) 160 73 _)
        rw [if_neg c, if_pos c2]
      · rw [if_neg c2]
        show (cI _ _ : XA) = _
        rw [cI_e p4, vC_e k, cV_e (p1 _)]
        show some (Value.null, _) = some (Value.null, sI (sI M 213 t.toNat (if a = 0 then 0 else if b = 0 then 0 else 1)) 160 73 _)
        rw [if_neg c, if_neg c2]
  · rw [if_neg (by omega)]
    show (if a = 0 then _ else _ : XA) = _
    by_cases c : a = 0
    · rw [if_pos c]
      by_cases c2 : b = 0
      · rw [if_pos c2]
        show (cI _ _ : XA) = _
        rw [cI_e p3, vC_e k, cV_e (p1 _)]
        show some (Value.null, _) = some (Value.null, sI (sI M 213 t.toNat (if a = 0 then (if b = 0 then 0 else 1) else 1)) 160 73 _)
        rw [if_pos c, if_pos c2]
      · rw [if_neg c2]
        show (cI _ _ : XA) = _
        rw [cI_e p4, vC_e k, cV_e (p1 _)]
        show some (Value.null, _) = some (Value.null, sI (sI M 213 t.toNat (if a = 0 then (if b = 0 then 0 else 1) else 1)) 160 73 _)
        rw [if_pos c, if_neg c2]
    · rw [if_neg c]
      show (cI _ _ : XA) = _
      rw [cI_e p4, vC_e k, cV_e (p1 _)]
      show some (Value.null, _) = some (Value.null, sI (sI M 213 t.toNat (if a = 0 then (if b = 0 then 0 else 1) else 1)) 160 73 _)
      rw [if_neg c]
end S94
