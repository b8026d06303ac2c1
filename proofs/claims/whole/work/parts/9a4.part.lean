/-! the reference's machine: a member of the other parcel of the same name -/
/-- what is found: a member (96 + x), or why none (below 0) -/
def zLk (RP RQ : RG) (n x : Int) : Int := if x < 0 then -10 else if ¬ RQ.1 2 2 x = RP.1 2 2 n then -11 else if ¬ RQ.1 2 3 x = 0 then -12 else if RQ.1 2 2 x = 4 ∧ ¬ RQ.1 2 4 x = RP.1 2 4 n then -13 else 96 + x
/-- sorts, sizes are small -/
def zRb (R : RG) : Prop := ∀ j, 0 ≤ j → j < R.1 2 0 0 → (0 ≤ R.1 2 2 j ∧ R.1 2 2 j ≤ 10) ∧ (0 ≤ R.1 2 3 j ∧ R.1 2 3 j ≤ 1) ∧ (R.1 2 2 j = 4 → 0 ≤ R.1 2 4 j ∧ R.1 2 4 j ≤ 1000)
section S9a4
variable {d : Nat} {M M' : Mem} {RP RQ : RG} {v1 v2 v3 v4 : Int32} {p q n L : Int}
theorem a237 (hd : 2 ≤ d) (hR : RT M) (h1 : RR M p RP) (h2 : RR M q RQ) (hp : 0 ≤ p ∧ p ≤ 7 ∧ 0 ≤ q ∧ q ≤ 7) (hn : (0 ≤ RP.1 2 0 0 ∧ RP.1 2 0 0 ≤ 96) ∧ (0 ≤ RQ.1 2 0 0 ∧ RQ.1 2 0 0 ≤ 96) ∧ 0 ≤ n ∧ n < RP.1 2 0 0) (b1 : zRb RP) (b2 : zRb RQ) (hv1 : v1 = iI p) (hv2 : v2 = iI n) (hv3 : v3 = iI q) (hv4 : v4 = iI L) : ∃ x, MbF (RQ.1 2 1) (RQ.2 2) (RQ.1 2 0 0) L (RP.2 2 n) x ∧ runX d 237 [va_rf (some 160), .int v1, .int v2, .int v3, .int v4] M = some (.int (iI (zLk RP RQ n x)), M) := by
  obtain ⟨d, rfl⟩ : ∃ e, d = e + 1 := ⟨d - 1, by omega⟩
  subst hv1; subst hv2; subst hv3; subst hv4
  have k := rk_160 hR
  have e1 : (96 : Int32) * iI p + iI n = iI (96 * p + n) := adI (mlI (x := 96) rfl rfl) rfl
  have gl : M.2.1 170 (96 * p + n).toNat = RP.2 2 n := h1.gl (c := 170) (st := 96) (k := 2) (by decide) (by omega) rfl
  obtain ⟨v, M2, z1, r, z2, z3, z4⟩ := a228 (d := d) (y := RP.2 2 n) (v1 := iI q) (v2 := iI L) (by omega) hR h2 rfl rfl ⟨hp.2.2.1, hp.2.2.2⟩ hn.2.1
  subst z2; subst z3
  refine ⟨r, z4, ?_⟩
  have rb : r = -1 ∨ 0 ≤ r ∧ r < RQ.1 2 0 0 := by
    rcases z4 with ⟨a, b, -⟩ | ⟨a, -⟩
    · exact Or.inr ⟨a, b⟩
    · exact Or.inl a
  clear z4
  rw [r237]; unfold b237; rw [aR_e, aI_e, aI_e, aI_e, aI_e, aZ_e]; unfold c237
  rw [ltI_q e1, gtP_q k (rf_11 hR), alL_q (n := 768) (z := 96 * p + n) (rk_170 hR) rfl (by omega) gl, vC_e k, cI_e z1]
  unfold zLk
  by_cases y0 : r < 0
  · rw [if_pos y0, if_neg (leI_n li_0 rfl (by omega))]
    rfl
  rw [if_neg y0, if_pos (leI_p li_0 rfl (by omega))]
  have e2 : (96 : Int32) * iI q + iI r = iI (96 * q + r) := adI (mlI (x := 96) rfl rfl) rfl
  have s1 : M2.1 172 (96 * p + n).toNat = iI (RP.1 2 2 n) := h1.gi (c := 172) (st := 96) (k := 2) (f := 2) (by decide) (by omega) rfl
  have s2 : M2.1 172 (96 * q + r).toNat = iI (RQ.1 2 2 r) := h2.gi (c := 172) (st := 96) (k := 2) (f := 2) (by decide) (by omega) rfl
  have d2 : M2.1 173 (96 * q + r).toNat = iI (RQ.1 2 3 r) := h2.gi (c := 173) (st := 96) (k := 2) (f := 3) (by decide) (by omega) rfl
  have l1 : M2.1 174 (96 * p + n).toNat = iI (RP.1 2 4 n) := h1.gi (c := 174) (st := 96) (k := 2) (f := 4) (by decide) (by omega) rfl
  have l2 : M2.1 174 (96 * q + r).toNat = iI (RQ.1 2 4 r) := h2.gi (c := 174) (st := 96) (k := 2) (f := 4) (by decide) (by omega) rfl
  obtain ⟨p1, p2, p3⟩ := b1 n hn.2.2.1 hn.2.2.2
  obtain ⟨q1, q2, q3⟩ := b2 r (by omega) (by omega)
  rw [ltI_q e2, gtP_q k (rf_13 hR), alI_q (n := 768) (z := 96 * q + r) (rk_172 hR) rfl (by omega) s2, gtP_q k (rf_13 hR), alI_q (n := 768) (z := 96 * p + n) (rk_172 hR) rfl (by omega) s1]
  by_cases y1 : RQ.1 2 2 r = RP.1 2 2 n
  · rw [if_pos (eqI_p rfl rfl y1), if_neg (show ¬ ¬ RQ.1 2 2 r = RP.1 2 2 n from fun z => z y1), gtP_q k (rf_14 hR), alX_q (n := 768) (z := 96 * q + r) (rk_173 hR) rfl (by omega) d2]
    by_cases y2 : RQ.1 2 3 r = 0
    · rw [if_pos (eqI_p rfl li_0 y2), if_neg (show ¬ ¬ RQ.1 2 3 r = 0 from fun z => z y2), gtP_q k (rf_13 hR), alI_q (n := 768) (z := 96 * q + r) (rk_172 hR) rfl (by omega) s2, jn_v, jn_v]
      have fin : (jv (fun (s15 : Int32) => some (.int s15, M2)) ((96 : Int32) + iI r) : XA) = some (.int (iI (96 + r)), M2) := by
        rw [jv_e, show (96 : Int32) + iI r = iI (96 + r) from adI (x := 96) rfl rfl]
      by_cases y3 : RQ.1 2 2 r = 4
      · rw [if_pos (show iI (RQ.1 2 2 r) = 4 from eqI_p (y := 4) rfl rfl y3), gtP_q k (rf_15 hR), alI_q (n := 768) (z := 96 * q + r) (rk_174 hR) rfl (by omega) l2, gtP_q k (rf_15 hR), alI_q (n := 768) (z := 96 * p + n) (rk_174 hR) rfl (by omega) l1]
        by_cases y4 : RQ.1 2 4 r = RP.1 2 4 n
        · rw [if_pos (eqI_p rfl rfl y4), if_neg (fun z => z.2 y4), jv_e]
          exact fin
        · rw [if_neg (eqI_n rfl rfl (by omega)), if_pos ⟨y3, y4⟩]
          rfl
      · rw [if_neg (show ¬ iI (RQ.1 2 2 r) = 4 from eqI_n (y := 4) rfl rfl (by omega)), if_neg (fun z => y3 z.1), jv_e]
        exact fin
    · rw [if_neg (eqI_n rfl li_0 (by omega)), if_pos (show ¬ RQ.1 2 3 r = 0 from y2)]
      rfl
  · rw [if_neg (eqI_n rfl rfl (by omega)), if_pos (show ¬ RQ.1 2 2 r = RP.1 2 2 n from y1)]
    rfl
end S9a4
