/-! numbers: halvings and leading zeros -/
theorem ush (z k : Nat) (hz : z < 4294967296) (hk : k < 32) : (Int32.toUInt32 (iI (z : Int)) >>> UInt32.ofNat k).toInt32 = iI ((z / 2 ^ k : Nat) : Int) := by
  have e1 : Int32.toUInt32 (iI (z : Int)) = UInt32.ofNat z := by
    show Int32.toUInt32 (Int32.ofInt (z : Int)) = _
    rw [Int32.ofInt_eq_ofNat]
    rfl
  have e2 : UInt32.ofNat z >>> UInt32.ofNat k = UInt32.ofNat (z / 2 ^ k) := by
    apply UInt32.toNat_inj.mp
    rw [UInt32.toNat_shiftRight, UInt32.toNat_ofNat', UInt32.toNat_ofNat', UInt32.toNat_ofNat', Nat.shiftRight_eq_div_pow]
    have h1 : z / 2 ^ k ≤ z := Nat.div_le_self _ _
    rw [Nat.mod_eq_of_lt (show k < 2 ^ 32 by omega), Nat.mod_eq_of_lt (show k < 32 by omega), Nat.mod_eq_of_lt (show z < 2 ^ 32 by omega), Nat.mod_eq_of_lt (show z / 2 ^ k < 2 ^ 32 by omega)]
  rw [e1, e2, UInt32.toInt32_ofNat']
  show _ = Int32.ofInt _
  rw [Int32.ofInt_eq_ofNat]
/-- the count of leading zeros, stage by stage -/
def St (z w e : Nat) : Prop := 2 ^ e * w ≤ z ∧ z < 2 ^ e * (w + 1) ∧ 1 ≤ w
theorem St.sh {z w e : Nat} (t : Nat) (h : St z w e) (hw : 2 ^ t ≤ w) : St z (w / 2 ^ t) (e + t) := by
  obtain ⟨h1, h2, h3⟩ := h
  have p : 0 < 2 ^ t := Nat.two_pow_pos t
  have q1 : w / 2 ^ t * 2 ^ t ≤ w := Nat.div_mul_le_self _ _
  have q2 : w < (w / 2 ^ t + 1) * 2 ^ t := by
    have := Nat.lt_mul_div_succ w p
    rw [Nat.mul_comm]; exact this
  refine ⟨?_, ?_, Nat.div_pos hw p⟩
  · rw [Nat.pow_add, Nat.mul_assoc]
    refine Nat.le_trans (Nat.mul_le_mul_left _ ?_) h1
    rw [Nat.mul_comm]; exact q1
  · rw [Nat.pow_add, Nat.mul_assoc]
    refine Nat.lt_of_lt_of_le h2 (Nat.mul_le_mul_left _ ?_)
    rw [Nat.mul_comm (2 ^ t)]; exact q2
theorem St.log {z w e : Nat} (h : St z w e) (hw : w < 4) : Nat.log2 z = e + w / 2 := by
  obtain ⟨h1, h2, h3⟩ := h
  have hz : z ≠ 0 := by
    have : 0 < 2 ^ e := Nat.two_pow_pos e
    intro q; subst q
    have := Nat.mul_pos this h3
    omega
  have l : ∀ m, 2 ^ m ≤ z → z < 2 ^ (m + 1) → Nat.log2 z = m := by
    intro m a b
    have a1 : m ≤ Nat.log2 z := (Nat.le_log2 hz).mpr a
    have a2 : Nat.log2 z < m + 1 := (Nat.log2_lt hz).mpr b
    omega
  have hc : w = 1 ∨ w = 2 ∨ w = 3 := by omega
  have p1 : 2 ^ (e + 1) = 2 ^ e * 2 := Nat.pow_succ ..
  have p2 : 2 ^ (e + 1 + 1) = 2 ^ e * 2 * 2 := by rw [Nat.pow_succ, p1]
  rcases hc with rfl | rfl | rfl
  · exact l e (by omega) (by omega)
  · exact l (e + 1) (by omega) (by omega)
  · exact l (e + 1) (by omega) (by omega)
theorem i64c (z : Nat) (hz : z < 4294967296) : ((Int64.toUInt64 (Int64.ofInt (z : Int)) >>> ((Int32.toInt64 (32 : Int32)).toUInt64 &&& Int64.toUInt64 63)).toInt64).toInt32 = 0 := by
  have e1 : Int64.toUInt64 (Int64.ofInt (z : Int)) = UInt64.ofNat z := by
    rw [Int64.ofInt_eq_ofNat]
    rfl
  have e0 : ((Int32.toInt64 (32 : Int32)).toUInt64 &&& Int64.toUInt64 63) = UInt64.ofNat 32 := by decide +kernel
  have e2 : UInt64.ofNat z >>> UInt64.ofNat 32 = 0 := by
    apply UInt64.toNat_inj.mp
    rw [UInt64.toNat_shiftRight, UInt64.toNat_ofNat', UInt64.toNat_ofNat', Nat.shiftRight_eq_div_pow]
    rw [Nat.mod_eq_of_lt (show z < 2 ^ 64 by omega)]
    show z / 2 ^ 32 = 0
    omega
  rw [e1, e0, e2]
  decide +kernel
theorem shl1 (k : Nat) (hk : k < 63) : ((1 : Int64) <<< (Int32.toInt64 (iI (k : Int)) &&& 63)) = Int64.ofInt ((2 ^ k : Nat) : Int) := by
  have : ∀ k : Fin 63, ((1 : Int64) <<< (Int32.toInt64 (iI ((k.val : Nat) : Int)) &&& 63)) = Int64.ofInt ((2 ^ k.val : Nat) : Int) := by decide +kernel
  exact this ⟨k, hk⟩
theorem mx32 : Int32.maxValue.toInt = 2147483647 := by decide
theorem td_cast (n : Nat) (m : Nat) : (n : Int).tdiv (m : Int) = ((n / m : Nat) : Int) := (Int.ofNat_tdiv n m).symm
theorem td_cases (z : Int) : (∃ n : Nat, z = n) ∨ ∃ n : Nat, z = -(n : Int) := by
  rcases Int.le_total 0 z with h | h
  · exact Or.inl ⟨z.toNat, by omega⟩
  · exact Or.inr ⟨(-z).toNat, by omega⟩
theorem td_2 (z : Int) (j : Nat) : (z.tdiv ((2 ^ j : Nat) : Int)).tdiv 2 = z.tdiv ((2 ^ (j + 1) : Nat) : Int) := by
  have e : ∀ n : Nat, ((n : Int).tdiv ((2 ^ j : Nat) : Int)).tdiv 2 = (n : Int).tdiv ((2 ^ (j + 1) : Nat) : Int) := by
    intro n
    rw [td_cast, td_cast]
    have := td_cast (n / 2 ^ j) 2
    rw [show ((2 : Nat) : Int) = 2 from rfl] at this
    rw [this, Nat.div_div_eq_div_mul, Nat.pow_succ]
  rcases td_cases z with ⟨n, rfl⟩ | ⟨n, rfl⟩
  · exact e n
  · rw [Int.neg_tdiv, Int.neg_tdiv, Int.neg_tdiv, e n]
theorem td_0 (z : Int) : z.tdiv ((2 ^ 0 : Nat) : Int) = z := by
  show z.tdiv 1 = z
  exact Int.tdiv_one z
theorem td_abs (z : Int) (k : Nat) : (z.tdiv ((2 ^ k : Nat) : Int)).natAbs = z.natAbs / 2 ^ k := by
  rw [Int.natAbs_tdiv]
  rfl
theorem td_ne (z : Int) (k : Nat) (hz : z ≠ 0) : z.tdiv ((2 ^ k : Nat) : Int) ≠ 0 ↔ k ≤ Nat.log2 z.natAbs := by
  have h0 : z.natAbs ≠ 0 := by omega
  rw [Nat.le_log2 h0, ne_eq, ← Int.natAbs_eq_zero, td_abs, Nat.div_eq_zero_iff]
  have : 0 < 2 ^ k := Nat.two_pow_pos k
  omega
theorem td_le (z : Int) (k : Nat) : (z.tdiv ((2 ^ k : Nat) : Int)).natAbs ≤ z.natAbs := by
  rw [td_abs]; exact Nat.div_le_self _ _
theorem lg_lt (z : Int) (h1 : -2147483648 ≤ z) (h2 : z < 2147483648) (hz : z ≠ 0) : Nat.log2 z.natAbs < 32 := by
  rw [Nat.log2_lt (by omega)]
  omega
theorem half (b : Int) (h1 : -2147483648 ≤ b) (h2 : b < 2147483648) : iI b / (2 : Int32) = iI (b.tdiv 2) := by
  show Int32.ofInt b / (2 : Int32) = Int32.ofInt (b.tdiv 2)
  rw [Int32.ofInt_tdiv (by simpa using h1) (by rw [mx32]; omega) (by decide) (by decide)]
  rfl
theorem absL (z : Int) (h1 : -2147483648 ≤ z) (h2 : z < 2147483648) : (if 0 < (iI z).toInt64 then (iI z).toInt64 else -(iI z).toInt64) = Int64.ofInt (z.natAbs : Int) := by
  have e : (iI z).toInt64 = Int64.ofInt z := Int32.toInt64_ofInt (by simpa using h1) (by rw [mx32]; omega)
  rw [e]
  have q : (0 : Int64) < Int64.ofInt z ↔ 0 < z := by
    rw [Int64.lt_iff_toInt_lt, Int64.toInt_ofInt_of_le (by omega) (by omega)]
    exact Iff.rfl
  by_cases h : 0 < z
  · rw [if_pos (q.mpr h)]; congr 1; omega
  · rw [if_neg (fun c => h (q.mp c)), ← Int64.ofInt_neg]; congr 1; omega
theorem p2ne (k : Nat) (hk : k < 63) : Int64.ofInt ((2 ^ k : Nat) : Int) ≠ 0 := by
  have : ∀ k : Fin 63, Int64.ofInt ((2 ^ k.val : Nat) : Int) ≠ 0 := by decide +kernel
  exact this ⟨k, hk⟩
theorem qnum (z : Int) (k : Nat) (h1 : -2147483648 ≤ z) (h2 : z < 2147483648) (hk : k < 62) : ((iI z).toInt64 - (iI z).toInt64 / Int64.ofInt ((2 ^ k : Nat) : Int)).toInt32 = iI (z - z.tdiv ((2 ^ k : Nat) : Int)) := by
  have e : (iI z).toInt64 = Int64.ofInt z := Int32.toInt64_ofInt (by simpa using h1) (by rw [mx32]; omega)
  have m1 : Int64.maxValue.toInt = 9223372036854775807 := by decide
  have m2 : Int64.minValue.toInt = -9223372036854775808 := by decide
  have p : 2 ^ k < 2 ^ 62 := Nat.pow_lt_pow_right (by decide) hk
  have p' : (2 : Nat) ^ 62 = 4611686018427387904 := by decide
  generalize hw : 2 ^ k = w at p ⊢
  rw [e, ← Int64.ofInt_tdiv (by omega) (by omega) (by omega) (by omega), ← Int64.ofInt_sub, Int64.toInt32_ofInt]
  rfl
section SM21
variable {M : Mem} {d : Nat}
theorem sh16 : (Int32.toUInt32 ((16 : Int32)) &&& Int32.toUInt32 31) = UInt32.ofNat 16 := by decide +kernel
theorem sh8 : (Int32.toUInt32 ((8 : Int32)) &&& Int32.toUInt32 31) = UInt32.ofNat 8 := by decide +kernel
theorem sh4 : (Int32.toUInt32 ((4 : Int32)) &&& Int32.toUInt32 31) = UInt32.ofNat 4 := by decide +kernel
theorem sh2 : (Int32.toUInt32 ((2 : Int32)) &&& Int32.toUInt32 31) = UInt32.ofNat 2 := by decide +kernel
theorem sh1 : (Int32.toUInt32 ((1 : Int32)) &&& Int32.toUInt32 31) = UInt32.ofNat 1 := by decide +kernel
def nz4 (M : Mem) (s4 : Int32 × Int32) : XA := some (.int (s4.2 - ((Int32.toUInt32 s4.1 >>> (Int32.toUInt32 ((1 : Int32)) &&& Int32.toUInt32 31)).toInt32)), M)
def nz3 (M : Mem) (s : Int32 × Int32) : XA := jn (nz4 M) fun j => if s.1 < ((4 : Int32)) then (j (s.1, s.2)) else (lt (s.2 + (-2 : Int32)) fun (x5 : Int32) => lt ((Int32.toUInt32 s.1 >>> (Int32.toUInt32 ((2 : Int32)) &&& Int32.toUInt32 31)).toInt32) fun (x6 : Int32) => j (x6, x5))
def nz2 (M : Mem) (s : Int32 × Int32) : XA := jn (nz3 M) fun j => if s.1 < ((16 : Int32)) then (j (s.1, s.2)) else (lt (s.2 + (-4 : Int32)) fun (x5 : Int32) => lt ((Int32.toUInt32 s.1 >>> (Int32.toUInt32 ((4 : Int32)) &&& Int32.toUInt32 31)).toInt32) fun (x6 : Int32) => j (x6, x5))
def nz1 (M : Mem) (s : Int32 × Int32) : XA := jn (nz2 M) fun j => if s.1 < ((256 : Int32)) then (j (s.1, s.2)) else (lt (s.2 + (-8 : Int32)) fun (x5 : Int32) => lt ((Int32.toUInt32 s.1 >>> (Int32.toUInt32 ((8 : Int32)) &&& Int32.toUInt32 31)).toInt32) fun (x6 : Int32) => j (x6, x5))
theorem c314_u (rec : Nat → List Value → Mem → XA) (a0 : Int32) (M : Mem) : c314 rec a0 M = if 0 < a0 then (jn (nz1 M) fun j33 => if a0 < ((65536 : Int32)) then (j33 (a0, (31 : Int32))) else (lt (((31 : Int32)) + (-16 : Int32)) fun (x11 : Int32) => lt ((Int32.toUInt32 a0 >>> (Int32.toUInt32 ((16 : Int32)) &&& Int32.toUInt32 31)).toInt32) fun (x12 : Int32) => j33 (x12, x11))) else (jn (fun (s13 : Int32) => some (.int s13, M)) fun j14 => if a0 = 0 then (j14 ((32 : Int32))) else (j14 ((0 : Int32)))) := rfl
theorem nz4_e {z w e : Nat} (h : St z w e) (hw : w < 4) : nz4 M (iI w, iI (31 - e)) = some (.int (iI (31 - (Nat.log2 z : Int))), M) := by
  unfold nz4
  dsimp only
  rw [sh1, ush w 1 (by omega) (by omega), iI_sub, h.log hw]
  congr 4
  omega
theorem nz3_e {z w e : Nat} (h : St z w e) (hw : w < 16) : nz3 M (iI w, iI (31 - e)) = some (.int (iI (31 - (Nat.log2 z : Int))), M) := by
  unfold nz3
  dsimp only
  rw [jn_e]
  have q : (iI (w : Int) < (4 : Int32)) = ((w : Int) < 4) := by rw [show (4 : Int32) = iI 4 from by decide +kernel, iI_lt (by omega) (by omega) (by omega) (by omega)]
  by_cases c : (w : Int) < 4
  · rw [if_pos (by rw [q]; exact c)]; exact nz4_e h (by omega)
  · rw [if_neg (by rw [q]; exact c), lt_e, lt_e, sh2, ush w 2 (by omega) (by omega), show (-2 : Int32) = iI (-2) from by decide +kernel, iI_add]
    have h' := h.sh 2 (by omega)
    have e2 : (31 : Int) - (e : Int) + -2 = 31 - ((e + 2 : Nat) : Int) := by omega
    rw [e2]
    exact nz4_e h' (by omega)
theorem nz2_e {z w e : Nat} (h : St z w e) (hw : w < 256) : nz2 M (iI w, iI (31 - e)) = some (.int (iI (31 - (Nat.log2 z : Int))), M) := by
  unfold nz2
  dsimp only
  rw [jn_e]
  have q : (iI (w : Int) < (16 : Int32)) = ((w : Int) < 16) := by rw [show (16 : Int32) = iI 16 from by decide +kernel, iI_lt (by omega) (by omega) (by omega) (by omega)]
  by_cases c : (w : Int) < 16
  · rw [if_pos (by rw [q]; exact c)]; exact nz3_e h (by omega)
  · rw [if_neg (by rw [q]; exact c), lt_e, lt_e, sh4, ush w 4 (by omega) (by omega), show (-4 : Int32) = iI (-4) from by decide +kernel, iI_add]
    have h' := h.sh 4 (by omega)
    have e2 : (31 : Int) - (e : Int) + -4 = 31 - ((e + 4 : Nat) : Int) := by omega
    rw [e2]
    exact nz3_e h' (by omega)
theorem nz1_e {z w e : Nat} (h : St z w e) (hw : w < 65536) : nz1 M (iI w, iI (31 - e)) = some (.int (iI (31 - (Nat.log2 z : Int))), M) := by
  unfold nz1
  dsimp only
  rw [jn_e]
  have q : (iI (w : Int) < (256 : Int32)) = ((w : Int) < 256) := by rw [show (256 : Int32) = iI 256 from by decide +kernel, iI_lt (by omega) (by omega) (by omega) (by omega)]
  by_cases c : (w : Int) < 256
  · rw [if_pos (by rw [q]; exact c)]; exact nz2_e h (by omega)
  · rw [if_neg (by rw [q]; exact c), lt_e, lt_e, sh8, ush w 8 (by omega) (by omega), show (-8 : Int32) = iI (-8) from by decide +kernel, iI_add]
    have h' := h.sh 8 (by omega)
    have e2 : (31 : Int) - (e : Int) + -8 = 31 - ((e + 8 : Nat) : Int) := by omega
    rw [e2]
    exact nz2_e h' (by omega)
theorem a_314 {z : Nat} (h0 : 0 < z) (h1 : z < 2147483648) : runX (d + 1) 314 [.int (iI z)] M = some (.int (iI (31 - (Nat.log2 z : Int))), M) := by
  rw [r314]; unfold b314; rw [aI_e, aZ_e, c314_u]
  have hS : St z z 0 := ⟨by omega, by omega, h0⟩
  have q : (iI (z : Int) < (65536 : Int32)) = ((z : Int) < 65536) := by rw [show (65536 : Int32) = iI 65536 from by decide +kernel, iI_lt (by omega) (by omega) (by omega) (by omega)]
  rw [if_pos (by rw [iI_0, iI_lt (by omega) (by omega) (by omega) (by omega)]; omega), jn_e]
  by_cases c : (z : Int) < 65536
  · rw [if_pos (by rw [q]; exact c)]
    show nz1 M (iI (z : Int), (31 : Int32)) = _
    rw [show (31 : Int32) = iI (31 - ((0 : Nat) : Int)) from by decide +kernel]
    exact nz1_e hS (by omega)
  · rw [if_neg (by rw [q]; exact c), lt_e, lt_e, sh16, ush z 16 (by omega) (by omega), show (31 : Int32) + (-16 : Int32) = iI (31 - ((0 + 16 : Nat) : Int)) from by decide +kernel]
    exact nz1_e (hS.sh 16 (by omega)) (by omega)
theorem a_316 {z : Nat} (h0 : 0 < z) (h1 : z ≤ 2147483648) : runX (d + 2) 316 [.long (Int64.ofInt (z : Int))] M = some (.int (iI (63 - (Nat.log2 z : Int))), M) := by
  rw [r316]; unfold b316; rw [aL_e, aZ_e]; unfold c316
  rw [i64c z (by omega), lt_e, jn_e, if_pos rfl, Int64.toInt32_ofInt]
  by_cases c : z < 2147483648
  · rw [show Int32.ofInt (z : Int) = iI z from rfl, cI_e (a_314 h0 c), show (32 : Int32) = iI 32 from by decide +kernel, iI_add]
    have : (32 : Int) + (31 - (Nat.log2 z : Int)) = 63 - (Nat.log2 z : Int) := by omega
    rw [this]
  · obtain rfl : z = 2147483648 := by omega
    have e : runX (d + 1) 314 [.int (Int32.ofInt ((2147483648 : Nat) : Int))] M = some (.int 0, M) := by
      rw [r314]; unfold b314; rw [aI_e, aZ_e, c314_u, if_neg (by decide +kernel), jn_e, if_neg (by decide +kernel)]
    rw [cI_e e, show (32 : Int32) + 0 = iI (63 - (Nat.log2 2147483648 : Int)) from by decide +kernel]
def cnt (z : Int) : Int := if z = 0 then 0 else (if 0 ≤ z then 1 else 2) + (Nat.log2 z.natAbs : Int)
theorem ge0 {z : Int} (h1 : -2147483648 ≤ z) (h2 : z < 2147483648) : (0 ≤ iI z) = (0 ≤ z) := by rw [iI_0, iI_le (by omega) (by omega) (by omega) (by omega)]
theorem eq0 {z : Int} (h1 : -2147483648 ≤ z) (h2 : z < 2147483648) : (iI z = 0) = (z = 0) := by rw [iI_0, iI_eq (by omega) (by omega) (by omega) (by omega)]
theorem lt0 {z : Int} (h1 : -2147483648 ≤ z) (h2 : z < 2147483648) : (iI z < 0) = (z < 0) := by rw [iI_0, iI_lt (by omega) (by omega) (by omega) (by omega)]
theorem a_180 {z : Int} (h1 : -2147483648 ≤ z) (h2 : z < 2147483648) : runX (d + 3) 180 [.int (iI z)] M = some (.int (iI (cnt z)), M) := by
  rw [r180]; unfold b180; rw [aI_e, aZ_e]; unfold c180
  unfold cnt
  by_cases h0 : z = 0
  · rw [if_pos (by rw [eq0 h1 h2]; exact h0), if_pos h0]; rfl
  · rw [if_neg (by rw [eq0 h1 h2]; exact h0), if_neg h0, absL z h1 h2, lt_e, cI_e (a_316 (z := z.natAbs) (by omega) (by omega)), show (63 : Int32) = iI 63 from by decide +kernel, iI_sub, lt_e, jn_v]
    have e3 : (63 : Int) - (63 - (Nat.log2 z.natAbs : Int)) = (Nat.log2 z.natAbs : Int) := by omega
    rw [e3]
    by_cases c : 0 ≤ z
    · rw [if_pos (by rw [ge0 h1 h2]; exact c), if_pos c, jv_e, iI_1, iI_add]
    · rw [if_neg (by rw [ge0 h1 h2]; exact c), if_neg c, jv_e, lit_2, iI_add]
/-- the k-th halving's number -/
def hv (z : Int) (k : Nat) : Int := z.tdiv ((2 ^ k : Nat) : Int)
theorem a_181 {z n : Int} (h1 : -2147483648 ≤ z) (h2 : z < 2147483648) (g1 : 0 ≤ n) (g2 : n < 60) : runX (d + 1) 181 [.int (iI z), .int (iI n)] M = some (.int (if n = 0 then 0 else if 0 ≤ z then iI (z - hv z n.toNat) else if n = 1 then -iI z else iI (z - hv z (n - 1).toNat)), M) := by
  rw [r181]; unfold b181; rw [aI_e, aI_e, aZ_e]; unfold c181
  have fin : ∀ k : Nat, k < 60 → (if (((1 : Int64)) <<< (Int32.toInt64 (iI (k : Int)) &&& 63)) = 0 then none else some (.int (((iI z).toInt64 - ((iI z).toInt64 / (((1 : Int64)) <<< (Int32.toInt64 (iI (k : Int)) &&& 63)))).toInt32), M) : XA) = some (.int (iI (z - hv z k)), M) := by
    intro k hk
    rw [shl1 k (by omega), if_neg (p2ne k (by omega)), qnum z k h1 h2 (by omega)]
    rfl
  by_cases h0 : n = 0
  · rw [if_pos (by rw [eq0 (by omega) (by omega)]; exact h0), if_pos h0]
  · rw [if_neg (by rw [eq0 (by omega) (by omega)]; exact h0), if_neg h0, jn_v]
    by_cases c : 0 ≤ z
    · rw [if_pos (by rw [ge0 h1 h2]; exact c), if_pos c, jv_e, jn_v, if_pos (by rw [ge0 h1 h2]; exact c), jv_e]
      have q := fin n.toNat (by omega)
      rw [Int.toNat_of_nonneg g1] at q
      exact q
    · rw [if_neg (by rw [ge0 h1 h2]; exact c), if_neg c]
      by_cases c1 : n = 1
      · rw [if_pos (by rw [iI_1, iI_eq (by omega) (by omega) (by omega) (by omega)]; exact c1), if_pos c1]
      · rw [if_neg (by rw [iI_1, iI_eq (by omega) (by omega) (by omega) (by omega)]; exact c1), if_neg c1, jv_e, jn_v, if_neg (by rw [ge0 h1 h2]; exact c), jv_e, iI_1, iI_sub]
        have q := fin (n - 1).toNat (by omega)
        rw [Int.toNat_of_nonneg (by omega)] at q
        exact q
/-- what smaller answers -/
def smA (z n : Int) : Int32 := if n < 0 then -2 else if n < cnt z then (if n = 0 then 0 else if 0 ≤ z then iI (z - hv z n.toNat) else if n = 1 then -iI z else iI (z - hv z (n - 1).toNat)) else -2
theorem q_155 {z n : Int} {x : Option Nat} (h1 : -2147483648 ≤ z) (h2 : z < 2147483648) (g1 : -2147483648 ≤ n) (g2 : n < 2147483648) : runX (d + 4) 155 [va_rf x, .int (iI z), .int (iI n)] M = some (.int (smA z n), M) := by
  rw [r155]; unfold b155; rw [aR_e, aI_e, aI_e, aZ_e]; unfold c155
  unfold smA
  rw [jn_e, jn_e]
  have hc : -5 < cnt z ∧ cnt z < 35 := by
    unfold cnt
    by_cases h0 : z = 0
    · rw [if_pos h0]; omega
    · have := lg_lt z h1 h2 h0
      rw [if_neg h0]
      split <;> omega
  by_cases h0 : n < 0
  · rw [if_pos (by rw [lt0 g1 g2]; exact h0), if_pos h0]
  · rw [if_neg (by rw [lt0 g1 g2]; exact h0), if_neg h0, cI_e (a_180 h1 h2)]
    by_cases c : n < cnt z
    · rw [if_pos (by rw [iI_lt g1 g2 (by omega) (by omega)]; exact c), if_pos c, cI_e (a_181 h1 h2 (by omega) (by omega))]
    · rw [if_neg (by rw [iI_lt g1 g2 (by omega) (by omega)]; exact c), if_neg c]
/-- the reference's halvings -/
theorem hv_l {rec : Nat → List Value → Mem → XA} {j73 : Int32 → XA} {s4 : Int32 × Mem} {z : Int} {K : Nat} (h1 : -2147483648 ≤ z) (h2 : z < 2147483648) (hK : K < 2147483648) (hs : s4.1 = iI ((K : Int) - 1)) : ∀ (m k N : Nat), k + m = K → m < N → lp (c291_50 rec j73 s4) N (iI (hv z k), iI k) = j73 (iI (hv z K)) := by
  have hb : ∀ k, -2147483648 ≤ hv z k ∧ hv z k < 2147483648 := by
    intro k
    have q := td_le z k
    have q2 : k = 0 ∨ 0 < k := by omega
    unfold hv
    rcases q2 with rfl | q2
    · rw [td_0]; omega
    · have q3 := td_abs z k
      have q4 : z.natAbs / 2 ^ k < 2147483648 := by
        have : 2 ^ 1 ≤ 2 ^ k := Nat.pow_le_pow_right (by decide) q2
        have : z.natAbs / 2 ^ k ≤ z.natAbs / 2 := Nat.div_le_div_left this (by decide)
        omega
      omega
  have hz : ∀ i k, hv z k = 0 → hv z (k + i) = 0 := by
    intro i
    induction i with
    | zero => intro k h; exact h
    | succ i ih =>
      intro k h
      have := ih k h
      unfold hv at this ⊢
      rw [show k + (i + 1) = (k + i) + 1 from by omega, ← td_2, this]
      rfl
  intro m
  induction m with
  | zero =>
    intro k N h3 h4
    obtain ⟨N, rfl⟩ : ∃ n, N = n + 1 := ⟨N - 1, by omega⟩
    obtain rfl : k = K := by omega
    rw [lp_e]; unfold c291_50; dsimp only
    rw [hs, if_pos (by rw [iI_lt (by omega) (by omega) (by omega) (by omega)]; omega)]
  | succ m ih =>
    intro k N h3 h4
    obtain ⟨N, rfl⟩ : ∃ n, N = n + 1 := ⟨N - 1, by omega⟩
    have ih' := ih (k + 1) N (by omega) (by omega)
    obtain ⟨b1, b2⟩ := hb k
    rw [lp_e]
    generalize lp (c291_50 rec j73 s4) N = F at ih' ⊢
    unfold c291_50; dsimp only
    rw [hs, if_neg (by rw [iI_lt (by omega) (by omega) (by omega) (by omega)]; omega)]
    by_cases c : hv z k = 0
    · rw [if_pos (by rw [eq0 b1 b2]; exact c), show K = k + (m + 1) from by omega, hz _ _ c, c]
    · rw [if_neg (by rw [eq0 b1 b2]; exact c), if_neg (by decide), half _ b1 b2, lt_e, lt_e, iI_1, iI_add]
      rw [show (hv z k).tdiv 2 = hv z (k + 1) from td_2 z k]
      exact ih'
theorem q_291 {z n : Int} (hy : M.2.2.2[160]? = some (13, 157)) (h1 : -2147483648 ≤ z) (h2 : z < 2147483648) (g1 : -2147483648 ≤ n) (g2 : n < 2147483648) : ∃ (r : Int32) (M' : Mem), runX (d + 1) 291 [va_rf (some 160), .int (iI z), .int (iI n)] M = some (.int r, M') ∧ Sm [160] M M' ∧ (if r = 0 then -2 else M'.1 160 137) = smA z n := by
  have y1 : ∀ v, (sI M 160 137 v).2.2.2[160]? = some (13, 157) := fun _ => hy
  have y2 : ∀ v w, (sI (sI M 160 137 v) 160 137 w).2.2.2[160]? = some (13, 157) := fun _ _ => hy
  rw [r291]; unfold b291; rw [aR_e, aI_e, aI_e, aZ_e]; unfold c291
  rw [jn_e]
  by_cases hz : z = 0
  · refine ⟨0, M, ?_, Sm.refl, ?_⟩
    · rw [if_pos (by rw [eq0 h1 h2]; exact hz), rtZ_e (Or.inl rfl)]
    · rw [if_pos rfl]
      unfold smA cnt
      rw [if_pos hz]
      by_cases c : n < 0
      · rw [if_pos c]
      · rw [if_neg c, if_neg c]
  · rw [if_neg (by rw [eq0 h1 h2]; exact hz)]
    by_cases hn' : n < 0
    · refine ⟨0, M, ?_, Sm.refl, ?_⟩
      · rw [if_neg (by rw [ge0 g1 g2]; omega), rtZ_e (Or.inl rfl)]
      · rw [if_pos rfl]; unfold smA; rw [if_pos hn']
    · have hn : 0 ≤ n := by omega
      rw [if_pos (by rw [ge0 g1 g2]; exact hn), ptI_e hy]
      have hcn : cnt z = (if 0 ≤ z then 1 else 2) + (Nat.log2 z.natAbs : Int) := by unfold cnt; rw [if_neg hz]
      by_cases h0 : n = 0
      · refine ⟨1, sI M 160 137 0, ?_, Sm.sI (by decide), ?_⟩
        · rw [if_pos (by rw [eq0 g1 g2]; exact h0), rtZ_e (Or.inr rfl)]
        · rw [if_neg (by decide), sI_eq]
          unfold smA
          rw [if_neg (by omega), if_pos (by rw [hcn, h0]; split <;> omega), if_pos h0]
      · rw [if_neg (by rw [eq0 g1 g2]; exact h0), show iI n - (1 : Int32) = iI (n - 1) from by rw [iI_1, iI_sub], lt_e]
        -- the loop from a memory M2, then the ending
        have fin : ∀ (M2 : Mem) (K : Nat), M2.2.2.2[160]? = some (13, 157) → K < 2147483648 → Sm [160] M M2 → (jn (fun (s5 : Int32) =>
            ptI (13, 157) M2 (some 160) 137 (iI z - s5) fun M6 =>
            jn (fun (s7 : Int32) =>
              rtZ s7 M6) fun j91 =>
            if s5 = 0 then (
              j91 ((0 : Int32))) else (
              j91 ((1 : Int32)))) fun j73 =>
          lp (c291_50 (runX d) j73 (iI ((K : Int) - 1), M2)) 4294967296 (iI z, (0 : Int32))) = some (.int (if hv z K = 0 then 0 else 1), sI M2 160 137 (iI (z - hv z K))) := by
          intro M2 K y3 hK hS
          have bK : -2147483648 ≤ hv z K ∧ hv z K < 2147483648 := by
            have q := td_le z K
            have q2 : K = 0 ∨ 0 < K := by omega
            unfold hv
            rcases q2 with rfl | q2
            · rw [td_0]; omega
            · have q3 := td_abs z K
              have q4 : z.natAbs / 2 ^ K < 2147483648 := by
                have : 2 ^ 1 ≤ 2 ^ K := Nat.pow_le_pow_right (by decide) q2
                have : z.natAbs / 2 ^ K ≤ z.natAbs / 2 := Nat.div_le_div_left this (by decide)
                omega
              omega
          rw [jn_v]
          have q := hv_l (rec := runX d) (s4 := (iI ((K : Int) - 1), M2)) (z := z) h1 h2 hK rfl K 0 4294967296 (by omega) (by omega) (j73 := jv (fun (s5 : Int32) =>
            ptI (13, 157) M2 (some 160) 137 (iI z - s5) fun M6 =>
            jn (fun (s7 : Int32) =>
              rtZ s7 M6) fun j91 =>
            if s5 = 0 then (
              j91 ((0 : Int32))) else (
              j91 ((1 : Int32)))))
          rw [show hv z 0 = z from td_0 z, show iI ((0 : Nat) : Int) = 0 from by decide +kernel] at q
          rw [q, jv_e, ptI_e y3, jn_v, iI_sub]
          by_cases c : hv z K = 0
          · rw [if_pos (by rw [eq0 bK.1 bK.2]; exact c), jv_e, rtZ_e (Or.inl rfl), if_pos c]
          · rw [if_neg (by rw [eq0 bK.1 bK.2]; exact c), jv_e, rtZ_e (Or.inr rfl), if_neg c]
        have ne : ∀ K : Nat, hv z K = 0 ↔ ¬ K ≤ Nat.log2 z.natAbs := by
          intro K
          have := td_ne z K hz
          unfold hv
          constructor
          · intro a b; exact (this.mpr b) a
          · intro a; exact Classical.byContradiction (fun b => a (this.mp b))
        rw [jn_v]
        by_cases c : 0 ≤ z
        · rw [if_pos (by rw [ge0 h1 h2]; exact c), jv_e]
          refine ⟨if hv z n.toNat = 0 then 0 else 1, sI (sI M 160 137 0) 160 137 (iI (z - hv z n.toNat)), ?_, (Sm.sI (by decide)).trans (Sm.sI (by decide)), ?_⟩
          · have q := fin (sI M 160 137 0) n.toNat (y1 0) (by omega) (Sm.sI (by decide))
            rw [Int.toNat_of_nonneg hn] at q
            exact q
          · rw [sI_eq]
            unfold smA
            rw [if_neg (show ¬ n < 0 by omega), hcn, if_pos c, if_neg h0, if_pos c]
            by_cases e : hv z n.toNat = 0
            · have e' := (ne _).mp e
              rw [if_pos e, if_pos rfl, if_neg (by omega)]
            · have e' : n.toNat ≤ Nat.log2 z.natAbs := Classical.byContradiction (fun b => e ((ne _).mpr b))
              rw [if_neg e, if_neg (by decide), if_pos (by omega)]
        · rw [if_neg (by rw [ge0 h1 h2]; exact c), ptI_e (y1 0)]
          by_cases h1n : n = 1
          · refine ⟨1, sI (sI M 160 137 0) 160 137 (-iI z), ?_, (Sm.sI (by decide)).trans (Sm.sI (by decide)), ?_⟩
            · rw [if_pos (by rw [eq0 (by omega) (by omega)]; omega), rtZ_e (Or.inr rfl)]
            · rw [if_neg (by decide), sI_eq]
              unfold smA
              rw [if_neg (by omega), if_pos (by rw [hcn, if_neg c]; omega), if_neg h0, if_neg c, if_pos h1n]
          · rw [if_neg (by rw [eq0 (by omega) (by omega)]; omega), show (-1 : Int32) = iI (-1) from by decide +kernel, iI_add, lt_e, jv_e]
            refine ⟨if hv z (n - 1).toNat = 0 then 0 else 1, sI (sI (sI M 160 137 0) 160 137 (-iI z)) 160 137 (iI (z - hv z (n - 1).toNat)), ?_, ((Sm.sI (by decide)).trans (Sm.sI (by decide))).trans (Sm.sI (by decide)), ?_⟩
            · have q := fin (sI (sI M 160 137 0) 160 137 (-iI z)) (n - 1).toNat (y2 0 _) (by omega) ((Sm.sI (by decide)).trans (Sm.sI (by decide)))
              rw [Int.toNat_of_nonneg (show 0 ≤ n - 1 by omega)] at q
              exact q
            · rw [sI_eq]
              unfold smA
              rw [if_neg (show ¬ n < 0 by omega), hcn, if_neg c, if_neg h0, if_neg c, if_neg h1n]
              by_cases e : hv z (n - 1).toNat = 0
              · have e' := (ne _).mp e
                rw [if_pos e, if_pos rfl, if_neg (by omega)]
              · have e' : (n - 1).toNat ≤ Nat.log2 z.natAbs := Classical.byContradiction (fun b => e ((ne _).mpr b))
                rw [if_neg e, if_neg (by decide), if_pos (by omega)]
theorem q_292 {z n : Int} (hy : M.2.2.2[160]? = some (13, 157)) (h1 : -2147483648 ≤ z) (h2 : z < 2147483648) (g1 : -2147483648 ≤ n) (g2 : n < 2147483648) : ∃ M', runX (d + 4) 292 [va_rf (some 160), .int (iI z), .int (iI n)] M = some (.int (smA z n), M') ∧ Sm [160] M M' := by
  obtain ⟨r, M', a1, a2, a3⟩ := q_291 (d := d + 2) hy h1 h2 g1 g2
  have y' : M'.2.2.2[160]? = some (13, 157) := by rw [a2.k]; exact hy
  refine ⟨M', ?_, a2⟩
  rw [r292]; unfold b292; rw [aR_e, aI_e, aI_e, aZ_e]; unfold c292
  rw [vC_e hy, cI_e a1, jn_v]
  by_cases c : r = 0
  · rw [if_pos c] at a3
    rw [if_pos c, jv_e, ← a3]
  · rw [if_neg c] at a3
    rw [if_neg c, gtI_e y', jv_e, ← a3]
theorem p1_27 {L : Nat} {xs : Nat → Int32} : Sim27 1 L xs (Inv1 L xs) := by
  intro v n
  apply sim1
  obtain ⟨z, z1, z2, rfl⟩ := iI_ex v
  obtain ⟨n, n1, n2, rfl⟩ := iI_ex n
  obtain ⟨M', a1, a2⟩ := q_292 (d := 2036) (F0R (L := L) (xs := xs)).y z1 z2 n1 n2
  exact ⟨_, _, M', q_155 (d := 2036) z1 z2 n1 n2, a1, F0E.1, F0E.sm a2 (by decide)⟩
end SM21
