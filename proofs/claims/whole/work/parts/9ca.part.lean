/-! cases of a run in the class: a turn of the loop of runCases() -/
/-- what is told of a CASE is kept -/
def wr4 (r : Nat → Nat) (c : Nat) (M : Mem) : Mem := sI (sI (sI (sI M (r 0) c (M.1 89 0)) (r 1) c (M.1 89 1)) (r 2) c (M.1 89 2)) (r 3) c (M.1 89 3)
/-- the rows that it is kept in -/
def rsC (rs m : Nat) (r : Nat → Nat) (M : Mem) : Prop := M.2.2.2[rs]? = some (113, 4) ∧ (∀ k, k < 4 → M.2.2.1 rs k = some (r k) ∧ M.2.2.2[r k]? = some (100, m)) ∧ (∀ k, k < 4 → r k ≠ 89) ∧ ∀ i k, i < 4 → k < 4 → i ≠ k → r i ≠ r k
section S9ca
variable {d dl : Nat} {M M' M1 : Mem} {LL a j x ar rs m N L3 : Nat} {ow : Nat → Int} {C : Int → Nat} {r : Nat → Nat} {c p i n nc len wo : Int} {w : Int32} {v1 v2 v3 : Int32}
theorem wr4_o (h : ∀ k, k < 4 → ¬ (a = r k ∧ j = c.toNat)) : (wr4 r c.toNat M).1 a j = M.1 a j := by
  have g : ∀ (M : Mem) (k : Nat) (w : Int32), k < 4 → (sI M (r k) c.toNat w).1 a j = M.1 a j := fun M k w hk => by
    by_cases y : a = r k
    · rw [y]; exact sI_nej fun z => h k hk ⟨y, z⟩
    · exact sI_ne y
  unfold wr4
  exact (g _ 3 _ (by decide)).trans ((g _ 2 _ (by decide)).trans ((g _ 1 _ (by decide)).trans (g _ 0 _ (by decide))))
theorem wr4_2 : (wr4 r j M).2 = M.2 := rfl
theorem wr4_e (h : ∀ i k, i < 4 → k < 4 → i ≠ k → r i ≠ r k) : (wr4 r j M).1 (r 0) j = M.1 89 0 ∧ (wr4 r j M).1 (r 1) j = M.1 89 1 ∧ (wr4 r j M).1 (r 2) j = M.1 89 2 ∧ (wr4 r j M).1 (r 3) j = M.1 89 3 := by
  unfold wr4
  refine ⟨?_, ?_, ?_, sI_eq⟩
  · exact (sI_ne (h 0 3 (by decide) (by decide) (by decide))).trans ((sI_ne (h 0 2 (by decide) (by decide) (by decide))).trans ((sI_ne (h 0 1 (by decide) (by decide) (by decide))).trans sI_eq))
  · exact (sI_ne (h 1 3 (by decide) (by decide) (by decide))).trans ((sI_ne (h 1 2 (by decide) (by decide) (by decide))).trans sI_eq)
  · exact (sI_ne (h 2 3 (by decide) (by decide) (by decide))).trans sI_eq
theorem c174_e {J : Mem → XA} (hl : len ≤ i ∧ i ≤ 1000 ∧ -1000 ≤ len) (hN : 0 < N) (hv : v1 = iI len) : lp (c174_19 (runX d) (some 64) (some x) (some ar) v1 v2 (some rs) J (some 89)) N (iI i, M) = J M := by
  obtain ⟨N, rfl⟩ : ∃ e, N = e + 1 := ⟨N - 1, by omega⟩
  rw [lp_e]
  unfold c174_19
  dsimp only
  rw [if_pos (leI_p hv rfl (by omega))]
theorem c174_s {J : Mem → XA} (hd : 1 ≤ d) (hC : CT M) (h : M.1 88 10 = iI (-1)) (hl : 0 ≤ i ∧ i ≤ 1000 ∧ 0 ≤ len ∧ len ≤ 1000) (hN : 0 < N) (hv : v1 = iI len) : lp (c174_19 (runX d) (some 64) (some x) (some ar) v1 v2 (some rs) J (some 89)) N (iI i, M) = J M := by
  obtain ⟨N, rfl⟩ : ∃ e, N = e + 1 := ⟨N - 1, by omega⟩
  rw [lp_e]
  unfold c174_19
  dsimp only
  by_cases y : len ≤ i
  · rw [if_pos (leI_p hv rfl (by omega))]
  · have z := zc22 (d := d) hd hC h (by decide)
    rw [if_pos (by decide)] at z
    rw [if_neg (leI_n hv rfl (by omega)), gtP_q (ck_64 hC) (cf_64_2 hC), vC_e (ck_88 hC), cI_e z, if_neg (show ¬ iI 1 = 0 by decide)]
/-- a CASE is left out -/
theorem c174_w {J : Mem → XA} (hd : 4 ≤ d) (hC : CT M) (h : M.1 88 10 = iI n) (hn : 0 ≤ n ∧ n ≤ 2147483647) (hi : 0 ≤ i ∧ i < len ∧ len ≤ 1000) (ha : M.2.2.2[ar]? = some (100, m) ∧ len ≤ m ∧ M.1 ar i.toNat = iI c) (hx : M.2.2.2[x]? = some (6, 18) ∧ M.2.2.1 x 3 = some L3) (hL : Ls M ow L3 C nc 1) (hc : 0 ≤ c ∧ c < nc) (hk : M.2.2.2[C c]? = some (8, 9)) (hv : v1 = iI len) (hw : v2 = iI i) : lp (c174_19 (runX d) (some 64) (some x) (some ar) v1 v2 (some rs) J (some 89)) (N + 1) (iI i, M) = lp (c174_19 (runX d) (some 64) (some x) (some ar) v1 v2 (some rs) J (some 89)) N (iI (i + 1), M) := by
  have z := zc22 (d := d) (by omega) hC h (by omega)
  rw [if_neg (by omega)] at z
  rw [lp_e]
  generalize lp (c174_19 (runX d) (some 64) (some x) (some ar) v1 v2 (some rs) J (some 89)) N = go
  unfold c174_19
  dsimp only
  rw [if_neg (leI_n hv rfl (by omega)), gtP_q (ck_64 hC) (cf_64_2 hC), vC_e (ck_88 hC), cI_e z, if_pos (show iI 0 = 0 from rfl), alI_q ha.1 rfl (by omega) ha.2.2, gtP_q hx.1 hx.2, cP_e (zpart hd hL rfl hc hk), jn_v, if_neg (show ¬ some (C c) = none by simp), if_pos hw.symm, jv_e]
  exact ltI_q (adI rfl li_1)
/-- a CASE is done -/
theorem c174_t {J : Mem → XA} (hd : 4 ≤ d) (hC : CT M) (h : M.1 88 10 = iI n) (hn : 0 ≤ n ∧ n ≤ 2147483647) (hi : 0 ≤ i ∧ i < len ∧ len ≤ 1000) (ha : M.2.2.2[ar]? = some (100, m) ∧ len ≤ m ∧ M.1 ar i.toNat = iI c) (hx : M.2.2.2[x]? = some (6, 18) ∧ M.2.2.1 x 3 = some L3) (hL : Ls M ow L3 C nc 1) (hc : 0 ≤ c ∧ c < nc) (hk : M.2.2.2[C c]? = some (8, 9)) (hv : v1 = iI len) (hw : v2 = iI wo) (hwo : wo ≠ i ∧ -1000 ≤ wo ∧ wo ≤ 1000) (hr : rsC rs j r M) (hj : nc ≤ j ∧ j ≤ 1000) (e : runX d 25 [va_rf (some 88), va_rf (some (C c))] (sI M 88 5 (iI (i + 1))) = some (.null, M1)) (h2 : M1.2 = M.2) : lp (c174_19 (runX d) (some 64) (some x) (some ar) v1 v2 (some rs) J (some 89)) (N + 1) (iI i, M) = lp (c174_19 (runX d) (some 64) (some x) (some ar) v1 v2 (some rs) J (some 89)) N (iI (i + 1), wr4 r c.toNat M1) := by
  have z := zc22 (d := d) (by omega) hC h (by omega)
  rw [if_neg (by omega)] at z
  have p2 : M1.2.2.1 = M.2.2.1 := congrArg (fun z => z.2.1) h2
  have k2 : M1.2.2.2 = M.2.2.2 := congrArg (fun z => z.2.2) h2
  obtain ⟨r1, r2, r3, r4⟩ := hr
  have rk : ∀ k, k < 4 → M1.2.2.1 rs k = some (r k) ∧ M1.2.2.2[r k]? = some (100, j) := fun k y => by rw [p2, k2]; exact r2 k y
  have rs1 : M1.2.2.2[rs]? = some (113, 4) := by rw [k2]; exact r1
  have k89 : M1.2.2.2[89]? = some (5, 5) := by rw [k2]; exact ck_89 hC
  have k64 : M.2.2.2[64]? = some (12, 19) := ck_64 hC
  rw [lp_e]
  generalize lp (c174_19 (runX d) (some 64) (some x) (some ar) v1 v2 (some rs) J (some 89)) N = go
  unfold c174_19
  dsimp only
  rw [if_neg (leI_n hv rfl (by omega)), gtP_q k64 (cf_64_2 hC), vC_e (ck_88 hC), cI_e z, if_pos (show iI 0 = 0 from rfl), alI_q ha.1 rfl (by omega) ha.2.2, gtP_q hx.1 hx.2, cP_e (zpart hd hL rfl hc hk), jn_v, if_neg (show ¬ some (C c) = none by simp), if_neg (eqI_n rfl hw (by omega)), gtP_q k64 (cf_64_2 hC), ptI_q (z := i + 1) (ck_88 hC) (adI rfl li_1)]
  have kk : (sI M 88 5 (iI (i + 1))).2.2.2[64]? = some (12, 19) := k64
  have pp : (sI M 88 5 (iI (i + 1))).2.2.1 64 2 = some 88 := cf_64_2 hC
  have k88 : (sI M 88 5 (iI (i + 1))).2.2.2[88]? = some (4, 22) := ck_88 hC
  rw [gtP_q kk pp, vC_e k88, cV_e e]
  rw [alP_q rs1 li_0 (by decide) (rk 0 (by decide)).1, gtI_e k89, asI_e (rk 0 (by decide)).2 (by omega) (by omega) (by omega)]
  rw [alP_q (M := sI M1 (r 0) c.toNat (M1.1 89 0)) rs1 li_1 (by decide) (rk 1 (by decide)).1, gtI_q (M := sI M1 (r 0) c.toNat (M1.1 89 0)) (w := M1.1 89 1) k89 (sI_ne (fun y => r3 0 (by decide) y.symm)), asI_e (M := sI M1 (r 0) c.toNat (M1.1 89 0)) (rk 1 (by decide)).2 (by omega) (by omega) (by omega)]
  rw [alP_q (M := sI (sI M1 (r 0) c.toNat (M1.1 89 0)) (r 1) c.toNat (M1.1 89 1)) rs1 li_2 (by decide) (rk 2 (by decide)).1, gtI_q (M := sI (sI M1 (r 0) c.toNat (M1.1 89 0)) (r 1) c.toNat (M1.1 89 1)) (w := M1.1 89 2) k89 ((sI_ne (fun y => r3 1 (by decide) y.symm)).trans (sI_ne (fun y => r3 0 (by decide) y.symm))), asI_e (M := sI (sI M1 (r 0) c.toNat (M1.1 89 0)) (r 1) c.toNat (M1.1 89 1)) (rk 2 (by decide)).2 (by omega) (by omega) (by omega)]
  rw [alP_q (M := sI (sI (sI M1 (r 0) c.toNat (M1.1 89 0)) (r 1) c.toNat (M1.1 89 1)) (r 2) c.toNat (M1.1 89 2)) rs1 li_3 (by decide) (rk 3 (by decide)).1, gtI_q (M := sI (sI (sI M1 (r 0) c.toNat (M1.1 89 0)) (r 1) c.toNat (M1.1 89 1)) (r 2) c.toNat (M1.1 89 2)) (w := M1.1 89 3) k89 ((sI_ne (fun y => r3 2 (by decide) y.symm)).trans ((sI_ne (fun y => r3 1 (by decide) y.symm)).trans (sI_ne (fun y => r3 0 (by decide) y.symm)))), asI_e (M := sI (sI (sI M1 (r 0) c.toNat (M1.1 89 0)) (r 1) c.toNat (M1.1 89 1)) (r 2) c.toNat (M1.1 89 2)) (rk 3 (by decide)).2 (by omega) (by omega) (by omega), jv_e]
  exact ltI_q (adI rfl li_1)
end S9ca
