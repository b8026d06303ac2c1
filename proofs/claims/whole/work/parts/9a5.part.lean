/-! the reference's machine: the member that an instruction uses -/
section S9a5
variable {d : Nat} {M M' : Mem} {RP RQ : RG} {v1 v2 v3 v4 : Int32} {p q n L pc : Int}
theorem a238_p (hd : 3 ≤ d) (hR : RT M) (h1 : RR M p RP) (h2 : 0 ≤ L → RR M q RQ ∧ (0 ≤ q ∧ q ≤ 7) ∧ (0 ≤ RQ.1 2 0 0 ∧ RQ.1 2 0 0 ≤ 96) ∧ zRb RQ ∧ M.1 160 67 = iI q) (hp : 0 ≤ p ∧ p ≤ 7) (h66 : M.1 160 66 = iI p) (hn : (0 ≤ RP.1 2 0 0 ∧ RP.1 2 0 0 ≤ 96) ∧ 0 ≤ n ∧ n < RP.1 2 0 0) (b1 : zRb RP) (hu : 0 ≤ RP.1 2 1 n ∧ RP.1 2 1 n < 8) (hpc : 0 ≤ pc ∧ pc < 1000) (hc : M.1 190 (1000 * p + pc).toNat = iI n) (hL : M.1 209 (RP.1 2 1 n).toNat = iI L) (hLb : -2 ≤ L ∧ L ≤ 7) (hv : v1 = iI pc) : ∃ r, runX d 238 [va_rf (some 160), .int v1] M = some (.int (iI r), M) ∧ (L < 0 → r = n) ∧ (0 ≤ L → ∃ x, MbF (RQ.1 2 1) (RQ.2 2) (RQ.1 2 0 0) L (RP.2 2 n) x ∧ r = zLk RP RQ n x) := by
  obtain ⟨d, rfl⟩ : ∃ e, d = e + 1 := ⟨d - 1, by omega⟩
  subst hv
  have k := rk_160 hR
  have e1 : (1000 : Int32) * iI p + iI pc = iI (1000 * p + pc) := adI (mlI (x := 1000) rfl rfl) rfl
  have e2 : (96 : Int32) * iI p + iI n = iI (96 * p + n) := adI (mlI (x := 96) rfl rfl) rfl
  have u1 : M.1 171 (96 * p + n).toNat = iI (RP.1 2 1 n) := h1.gi (c := 171) (st := 96) (k := 2) (f := 1) (by decide) (by omega) rfl
  have head : runX (d + 1) 238 [va_rf (some 160), .int (iI pc)] M = (if 0 ≤ iI L then (gtI (13, 157) M (some 160) 66 fun x10 => gtI (13, 157) M (some 160) 67 fun x11 => vC (13, 157) M (some 160) <| cI (runX d 237 [va_rf (some 160), .int x10, .int (iI n), .int x11, .int (iI L)] M) fun x13 M12 => some (.int x13, M12)) else some (.int (iI n), M) : XA) := by
    rw [r238]; unfold b238; rw [aR_e, aI_e, aZ_e]; unfold c238
    rw [if_pos (show iI pc < 1000 from lsI_p (y := 1000) rfl rfl (by omega)), gtP_q k (rf_31 hR), gtI_q k h66, alI_q (n := 8000) (z := 1000 * p + pc) (rk_190 hR) e1 (by omega) hc, gtP_q k (rf_68 hR), gtP_q k (rf_12 hR), gtI_q k h66, alI_q (n := 768) (z := 96 * p + n) (rk_171 hR) e2 (by omega) u1, alI_q (n := 8) (z := RP.1 2 1 n) (rk_209 hR) rfl (by omega) hL, jn_v]
    rfl
  rw [head]
  by_cases y : L < 0
  · exact ⟨n, by rw [if_neg (leI_n li_0 rfl (by omega))], fun _ => rfl, fun z => by omega⟩
  · obtain ⟨g1, g2, g3, g4, g5⟩ := h2 (by omega)
    obtain ⟨x, z1, z2⟩ := a237 (d := d) (v1 := iI p) (v2 := iI n) (v3 := iI q) (v4 := iI L) (by omega) hR h1 g1 ⟨hp.1, hp.2, g2.1, g2.2⟩ ⟨hn.1, g3, hn.2⟩ b1 g4 rfl rfl rfl rfl
    exact ⟨zLk RP RQ n x, by rw [if_pos (leI_p li_0 rfl (by omega)), gtI_q k h66, gtI_q k g5, vC_e k, cI_e z2], fun z => by omega, fun _ => ⟨x, z1, rfl⟩⟩
theorem a238_q (hd : 1 ≤ d) (hR : RT M) (h67 : M.1 160 67 = iI q) (hq : 0 ≤ q ∧ q ≤ 7) (hpc : 1000 ≤ pc ∧ pc < 2000) (hc : M.1 190 (1000 * (q - 1) + pc).toNat = iI n) (hv : v1 = iI pc) : runX d 238 [va_rf (some 160), .int v1] M = some (.int (iI (96 + n)), M) := by
  obtain ⟨d, rfl⟩ : ∃ e, d = e + 1 := ⟨d - 1, by omega⟩
  subst hv
  have k := rk_160 hR
  have e1 : (1000 : Int32) * (iI q - 1) + iI pc = iI (1000 * (q - 1) + pc) := adI (mlI (x := 1000) rfl (sbI rfl li_1)) rfl
  rw [r238]; unfold b238; rw [aR_e, aI_e, aZ_e]; unfold c238
  rw [if_neg (show ¬ iI pc < 1000 from lsI_n (y := 1000) rfl rfl (by omega)), gtP_q k (rf_31 hR), gtI_q k h67, alI_q (n := 8000) (z := 1000 * (q - 1) + pc) (rk_190 hR) e1 (by omega) hc, show (96 : Int32) + iI n = iI (96 + n) from adI (x := 96) rfl rfl]
end S9a5
