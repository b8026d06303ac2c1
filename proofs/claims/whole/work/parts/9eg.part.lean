/-! feed(), both; run() of a number that names nothing; smaller() -/
/-- byte k of a number, as the class has it, as the reference has it -/
def byC (v s : Int32) : Int32 := (((Int32.toUInt32 v >>> (Int32.toUInt32 s &&& Int32.toUInt32 31)).toInt32).toInt8.toInt32).toInt8.toInt32
def byR (v s : Int32) : Int32 := (((v >>> ((((24 : Int32)) - (((8 : Int32)) * (xrem s ((4 : Int32))))) &&& 31)).toInt8.toInt32).toInt8.toInt32)
section S9eg
variable {d dl : Nat} {o : HO} {M M' Mc Mr : Mem} {LL a j b c t x : Nat} {xs : Nat → Int32} {ow : Nat → Int} {p i k sl m n f w q z : Int} {v v1 v2 v3 v4 v5 w1 w2 : Int32} {T : Int → Int}
theorem run_no (hdl : 6 ≤ dl) (hd : 4 ≤ d) (hP : hoP o) (hC : HC LL xs o ow sl Mc) (hR : HR o sl Mr) (hv : v1 = iI p) (bp : -2147483648 ≤ p ∧ p ≤ 2147483647) (hn : ¬ (0 ≤ p ∧ p < oN o)) : runX dl 140 [va_rf (some 64), .int v1] Mc = some (.int (-1), Mc) ∧ runX d 257 [va_rf (some 160), .int v1] Mr = some (.int (-1), Mr) := by
  obtain ⟨dl, rfl⟩ : ∃ e, dl = e + 1 := ⟨dl - 1, by omega⟩
  obtain ⟨d, rfl⟩ : ∃ e, d = e + 1 := ⟨d - 1, by omega⟩
  subst hv
  obtain ⟨e1, e2⟩ := pk_two (dl := dl) (d := d) (p := p) (by omega) (by omega) hP hC hR bp
  rw [if_neg hn] at e1 e2
  refine ⟨?_, ?_⟩
  · rw [r140]; unfold b140; rw [aR_e, aI_e, aZ_e]; unfold c140
    rw [vC_e (ck_64 hC.1.1.1), cP_e e1, if_pos rfl]
  · rw [r257]; unfold b257; rw [aR_e, aI_e, aZ_e]; unfold c257
    rw [vC_e (rk_160 hR.1.1.1), cI_e e2, if_pos (show iI 0 = 0 from rfl)]
theorem small27 (hdl : 4 ≤ dl) (hd : 2 ≤ d) (rM : RT Mr) (hv1 : v1 = iI z) (hv2 : v2 = iI n) (bz : -2147483648 ≤ z ∧ z ≤ 2147483647) (bn : -2147483648 ≤ n ∧ n ≤ 2147483647) : ∃ r Mr', runX dl 155 [va_rf (some 64), .int v1, .int v2] Mc = some (.int r, Mc) ∧ runX d 292 [va_rf (some 160), .int v1, .int v2] Mr = some (.int r, Mr') ∧ Fz (fun a j => a = 160 ∧ j = 137) Mr Mr' := by
  obtain ⟨dl, rfl⟩ : ∃ e, dl = e + 4 := ⟨dl - 4, by omega⟩
  obtain ⟨d, rfl⟩ : ∃ e, d = e + 2 := ⟨d - 2, by omega⟩
  subst hv1; subst hv2
  have e1 := q_155 (d := dl) (M := Mc) (x := some 64) (z := z) (n := n) bz.1 (by omega) bn.1 (by omega)
  have hy := rk_160 rM
  by_cases y : n < 0
  · refine ⟨smA z n, Mr, e1, ?_, Fz.r⟩
    rw [r292]; unfold b292; rw [aR_e, aI_e, aI_e, aZ_e]; unfold c292
    have e2 : runX (d + 1) 291 [va_rf (some 160), .int (iI z), .int (iI n)] Mr = some (.int 0, Mr) := by
      rw [r291]; unfold b291; rw [aR_e, aI_e, aI_e, aZ_e]; unfold c291
      rw [jn_v]
      by_cases z0 : z = 0
      · rw [if_pos (show iI z = 0 by rw [z0]; rfl), jv_e, rtZ_e (Or.inl rfl)]
      · rw [if_neg (show ¬ iI z = 0 from eqI_n (y := 0) rfl li_0 (by omega)), if_neg (show ¬ 0 ≤ iI n from leI_n (x := 0) li_0 rfl (by omega)), jv_e, rtZ_e (Or.inl rfl)]
    rw [vC_e hy, cI_e e2, jn_v, if_pos rfl, jv_e]
    unfold smA
    rw [if_pos y]
  · obtain ⟨M', a1, a2, a3⟩ := q291x (d := d) (M := Mr) (z := z) (n := n) hy bz.1 (by omega) (by omega) (by omega)
    refine ⟨smA z n, M', e1, ?_, a2⟩
    rw [r292]; unfold b292; rw [aR_e, aI_e, aI_e, aZ_e]; unfold c292
    rw [vC_e hy, cI_e a1, jn_v]
    have y' : M'.2.2.2[160]? = some (13, 157) := by rw [a2.1]; exact hy
    by_cases c : n < cnt z
    · rw [if_pos c, if_neg (show ¬ (1 : Int32) = 0 by decide), gtI_q y' (a3 c), jv_e]
    · rw [if_neg c, if_pos rfl, jv_e]
      unfold smA
      rw [if_neg y, if_neg c]
theorem i8_b (y : Int8) : y.toInt32 = iI y.toInt ∧ -128 ≤ y.toInt ∧ y.toInt ≤ 127 := by
  have h1 := Int8.le_toInt y
  have h2 := Int8.toInt_lt y
  refine ⟨?_, by simpa using h1, by have : y.toInt < 128 := by simpa using h2
                                    omega⟩
  rw [← Int32.toInt_inj, iI_toInt (by have : (-128 : Int) ≤ y.toInt := by simpa using h1
                                      omega) (by have : y.toInt < 128 := by simpa using h2
                                                 omega), Int8.toInt_toInt32]
theorem byR_b : byR v w1 = iI (byR v w1).toInt ∧ -128 ≤ (byR v w1).toInt ∧ (byR v w1).toInt ≤ 127 := by
  obtain ⟨h1, h2⟩ := i8_b (((v >>> ((((24 : Int32)) - (((8 : Int32)) * (xrem w1 ((4 : Int32))))) &&& 31)).toInt8.toInt32).toInt8)
  have e : byR v w1 = iI _ := h1
  refine ⟨?_, ?_⟩
  · rw [e, iI_toInt (by omega) (by omega)]
  · rw [e, iI_toInt (by omega) (by omega)]
    exact h2
theorem by_0 (x : BitVec 32) (s : Nat) (hs : s ≤ 24) : BitVec.signExtend 8 (x >>> s) = BitVec.signExtend 8 (x.sshiftRight s) := by
  rw [BitVec.signExtend_eq_setWidth_of_le _ (by decide), BitVec.signExtend_eq_setWidth_of_le _ (by decide)]
  ext i hi
  have h : s + i < 32 := by omega
  have h2 : i < 32 := by omega
  simp [BitVec.getLsbD_sshiftRight, BitVec.getElem_sshiftRight, h, h2]
theorem by_1 (s : Nat) (hs : s = 0 ∨ s = 8 ∨ s = 16 ∨ s = 24) : ((Int32.toUInt32 v >>> (UInt32.ofNat s)).toInt32).toInt8 = (v >>> (Int32.ofNat s)).toInt8 := by
  rw [← Int8.toBitVec_inj]
  rcases hs with rfl | rfl | rfl | rfl
  · exact by_0 v.toBitVec 0 (by decide)
  · exact by_0 v.toBitVec 8 (by decide)
  · exact by_0 v.toBitVec 16 (by decide)
  · exact by_0 v.toBitVec 24 (by decide)
theorem by_s : ∀ k : Nat, k < 4 → (Int32.toUInt32 (iI (24 - 8 * (k : Int))) &&& Int32.toUInt32 31) = UInt32.ofNat (24 - 8 * k) := by decide +kernel
theorem by_t : ∀ k : Nat, k < 20 → ((((24 : Int32)) - (((8 : Int32)) * (xrem (iI (k : Int)) ((4 : Int32))))) &&& 31) = Int32.ofNat (24 - 8 * (k % 4)) := by decide +kernel
theorem by_e (k r : Nat) (hk : k < 4) (hr : r < 20) (h : r % 4 = k) : byC v (iI (24 - 8 * (k : Int))) = byR v (iI (r : Int)) := by
  unfold byC byR
  rw [by_s k hk, by_t r hr, h, by_1 (24 - 8 * k) (by omega)]
end S9eg
