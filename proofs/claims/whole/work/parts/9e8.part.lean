/-! name(): both -/
/-- how many leading zeros, how many bytes -/
def nlz (z : Nat) : Nat := if z = 0 then 64 else 63 - Nat.log2 z
def nby (y : Int64) : Nat := (71 - nlz y.toUInt64.toNat) / 8
def nbt (y : Int64) (i : Int) : Int32 := if 0 ≤ i ∧ i < nby y then (((Int64.toUInt64 y >>> ((Int32.toInt64 (((8 : Int32)) * ((iI (nby y : Nat) - ((1 : Int32))) - iI i))).toUInt64 &&& Int64.toUInt64 63)).toInt64).toInt32) &&& ((255 : Int32)) else -1
section S9e8
variable {d dl : Nat} {o : HO} {M M' Mc Mr : Mem} {LL a j b c t x n z w : Nat} {xs : Nat → Int32} {ow : Nat → Int} {p i k sl m f : Int} {v v1 v2 v3 v4 : Int32} {y : Int64} {rec : Nat → List Value → Mem → XA}
theorem lg2 {m : Nat} (a : 2 ^ m ≤ z) (b : z < 2 ^ (m + 1)) : Nat.log2 z = m := by
  have hz : z ≠ 0 := by
    have : 0 < 2 ^ m := Nat.two_pow_pos m
    omega
  have a1 : m ≤ Nat.log2 z := (Nat.le_log2 hz).mpr a
  have a2 : Nat.log2 z < m + 1 := (Nat.log2_lt hz).mpr b
  omega
theorem lg2_s (h : z ≠ 0) : 2 ^ Nat.log2 z ≤ z ∧ z < 2 ^ (Nat.log2 z + 1) := ⟨(Nat.le_log2 h).mp (Nat.le_refl _), (Nat.log2_lt h).mp (by omega)⟩
theorem a314g (hw : w < 4294967296) : runX (d + 1) 314 [.int (iI (w : Int))] M = some (.int (iI (if w = 0 then 32 else 31 - (Nat.log2 w : Int))), M) := by
  by_cases h0 : w = 0
  · subst h0
    rw [if_pos rfl, r314]; unfold b314; rw [aI_e, aZ_e, c314_u, if_neg (by decide +kernel), jn_e, if_pos (by decide +kernel)]
    rfl
  rw [if_neg h0]
  by_cases h1 : w < 2147483648
  · exact a_314 (by omega) h1
  · have e : Nat.log2 w = 31 := lg2 (by omega) (by omega)
    have e2 : iI (w : Int) = iI ((w : Int) - 4294967296) := by
      show Int32.ofInt _ = Int32.ofInt _
      have hs : Int32.size = 4294967296 := rfl
      rw [← Int32.toInt_inj, Int32.toInt_ofInt, Int32.toInt_ofInt, hs]
      simp only [Int.bmod_def]
      omega
    have n1 : ¬ 0 < iI (w : Int) := by
      rw [e2]
      exact lsI_n (x := 0) li_0 rfl (by omega)
    have n2 : ¬ iI (w : Int) = 0 := by
      rw [e2]
      exact eqI_n (y := 0) rfl li_0 (by omega)
    rw [r314]; unfold b314; rw [aI_e, aZ_e, c314_u, if_neg n1, jn_e, if_neg n2, e]
    rfl
theorem u32s : ((Int32.toInt64 (32 : Int32)).toUInt64 &&& Int64.toUInt64 63) = UInt64.ofNat 32 := by decide +kernel
theorem i32n (u : UInt64) : (u.toInt64).toInt32 = iI (u.toNat : Int) := by
  have e : u.toInt64 = Int64.ofInt (u.toNat : Int) := by
    rw [Int64.ofInt_eq_ofNat, ← UInt64.toInt64_ofNat', UInt64.ofNat_toNat]
  rw [e, Int64.toInt32_ofInt]
  rfl
theorem a316g : runX (d + 2) 316 [.long y] M = some (.int (iI (nlz y.toUInt64.toNat : Nat)), M) := by
  obtain ⟨z, hz⟩ : ∃ z, z = y.toUInt64.toNat := ⟨_, rfl⟩
  have z64 : z < 18446744073709551616 := by rw [hz]; exact y.toUInt64.toNat_lt
  have ey : y = y.toUInt64.toInt64 := by rw [Int64.toInt64_toUInt64]
  have hi : (((Int64.toUInt64 y >>> ((Int32.toInt64 ((32 : Int32))).toUInt64 &&& Int64.toUInt64 63)).toInt64).toInt32) = iI ((z / 4294967296 : Nat) : Int) := by
    rw [u32s, i32n]
    congr 2
    rw [UInt64.toNat_shiftRight, UInt64.toNat_ofNat', Nat.shiftRight_eq_div_pow, ← hz]
  have lo : y.toInt32 = iI (z : Int) := by
    rw [ey, i32n, ← hz]
  rw [r316]; unfold b316; rw [aL_e, aZ_e]; unfold c316
  rw [hi, lt_e, jn_v, ← hz]
  by_cases c : z < 4294967296
  · rw [show z / 4294967296 = 0 by omega, if_pos (show iI ((0 : Nat) : Int) = 0 from rfl), lo, cI_e (a314g c), jv_e, show (32 : Int32) = iI 32 from rfl, iI_add]
    unfold nlz
    by_cases h0 : z = 0
    · rw [if_pos h0, if_pos h0]
      rfl
    · rw [if_neg h0, if_neg h0]
      have := (Nat.log2_lt h0).mpr (show z < 2 ^ 32 by omega)
      rw [show (32 : Int) + (31 - (Nat.log2 z : Int)) = ((63 - Nat.log2 z : Nat) : Int) by omega]
  · have h0 : z ≠ 0 := by omega
    have hd : z / 4294967296 < 4294967296 := by omega
    have hd0 : z / 4294967296 ≠ 0 := by omega
    have ne : ¬ iI ((z / 4294967296 : Nat) : Int) = 0 := by
      by_cases h1 : z / 4294967296 < 2147483648
      · exact eqI_n (y := 0) rfl li_0 (by omega)
      · have e2 : iI ((z / 4294967296 : Nat) : Int) = iI (((z / 4294967296 : Nat) : Int) - 4294967296) := by
          show Int32.ofInt _ = Int32.ofInt _
          have hs : Int32.size = 4294967296 := rfl
          rw [← Int32.toInt_inj, Int32.toInt_ofInt, Int32.toInt_ofInt, hs]
          simp only [Int.bmod_def]
          omega
        rw [e2]
        exact eqI_n (y := 0) rfl li_0 (by omega)
    obtain ⟨s1, s2⟩ := lg2_s h0
    have g : 32 ≤ Nat.log2 z := (Nat.le_log2 h0).mpr (by omega)
    have g2 : Nat.log2 z < 64 := (Nat.log2_lt h0).mpr (by omega)
    obtain ⟨k, hk⟩ : ∃ k, Nat.log2 z = 32 + k := ⟨Nat.log2 z - 32, by omega⟩
    have e : Nat.log2 (z / 4294967296) = k := by
      have p1 : 2 ^ (32 + k) = 4294967296 * 2 ^ k := by rw [Nat.pow_add]
      have p2 : 2 ^ (32 + k + 1) = 4294967296 * 2 ^ (k + 1) := by rw [Nat.add_assoc, Nat.pow_add]
      rw [hk] at s1 s2
      rw [p1] at s1
      rw [p2] at s2
      refine lg2 ?_ ?_
      · rw [Nat.le_div_iff_mul_le (by decide), Nat.mul_comm]; exact s1
      · rw [Nat.div_lt_iff_lt_mul (by decide), Nat.mul_comm]; exact s2
    rw [if_neg ne, cI_e (a314g hd), jv_e, if_neg hd0, e]
    unfold nlz
    rw [if_neg h0, hk, show (31 : Int) - (k : Int) = ((63 - (32 + k) : Nat) : Int) by omega]
theorem nlz_b : nlz z ≤ 64 := by
  unfold nlz
  split <;> omega
theorem div8 : ∀ n : Nat, n < 65 → (((71 : Int32)) - iI (n : Int)) / ((8 : Int32)) = iI (((71 - n) / 8 : Nat) : Int) := by decide +kernel
theorem nby_b : nby y ≤ 8 := by
  unfold nby
  have := nlz_b (z := y.toUInt64.toNat)
  omega
theorem zc173 (hd : 3 ≤ d) (hi : -2147483648 ≤ i ∧ i ≤ 2147483647) : runX d 173 [.long y, .int (iI i)] M = some (.int (nbt y i), M) := by
  obtain ⟨d, rfl⟩ : ∃ e, d = e + 3 := ⟨d - 3, by omega⟩
  have b8 := nby_b (y := y)
  rw [r173]; unfold b173; rw [aL_e, aI_e, aZ_e]; unfold c173
  rw [cI_e a316g, if_neg (show ¬ (8 : Int32) = 0 by decide), div8 _ (by have := nlz_b (z := y.toUInt64.toNat); omega), show (71 - nlz y.toUInt64.toNat) / 8 = nby y from rfl, lt_e, jn_v, jn_v]
  unfold nbt
  by_cases h0 : i < 0
  · rw [if_pos (lsI_p (y := 0) rfl li_0 (by omega)), jv_e, jv_e, if_neg (by omega)]
  rw [if_neg (lsI_n (y := 0) rfl li_0 (by omega))]
  by_cases h1 : i < nby y
  · rw [if_pos (lsI_p rfl rfl (by omega)), jv_e, if_pos (by omega)]
  · rw [if_neg (lsI_n rfl rfl (by omega)), jv_e, jv_e, if_neg (by omega)]
/-- how many bytes, in the reference -/
theorem sh8s : ∀ s : Nat, s < 8 → ((Int32.toInt64 (((8 : Int32)) * iI (s : Int))).toUInt64 &&& Int64.toUInt64 63) = UInt64.ofNat (8 * s) := by decide +kernel
theorem r266_151 {J : Int32 → XA} : ∀ (m s Nf : Nat), s + m = 8 → m < Nf → s ≤ nby y → lp (c266_151 rec J y) Nf (iI (s : Int)) = J (iI (nby y : Nat))
  | 0, s, Nf, e, hN, h => by
    obtain ⟨Nf, rfl⟩ : ∃ e, Nf = e + 1 := ⟨Nf - 1, by omega⟩
    have b8 := nby_b (y := y)
    rw [lp_e]; unfold c266_151
    rw [if_pos (show (8 : Int32) ≤ iI (s : Int) from leI_p (x := 8) rfl rfl (by omega)), show s = nby y by omega]
  | m + 1, s, Nf, e, hN, h => by
    obtain ⟨Nf, rfl⟩ : ∃ e, Nf = e + 1 := ⟨Nf - 1, by omega⟩
    obtain ⟨z, hz⟩ : ∃ z, z = y.toUInt64.toNat := ⟨_, rfl⟩
    have z64 : z < 18446744073709551616 := by rw [hz]; exact y.toUInt64.toNat_lt
    have sh : (Int64.toUInt64 y >>> ((Int32.toInt64 (((8 : Int32)) * iI (s : Int))).toUInt64 &&& Int64.toUInt64 63)).toNat = z / 2 ^ (8 * s) := by
      rw [sh8s s (by omega), UInt64.toNat_shiftRight, UInt64.toNat_ofNat', Nat.shiftRight_eq_div_pow, ← hz, Nat.mod_eq_of_lt (show 8 * s < 2 ^ 64 by omega), Nat.mod_eq_of_lt (show 8 * s < 64 by omega)]
    have iff : lg_cmp ((Int64.toUInt64 y >>> ((Int32.toInt64 (((8 : Int32)) * iI (s : Int))).toUInt64 &&& Int64.toUInt64 63)).toInt64) ((0 : Int64)) = 0 ↔ z / 2 ^ (8 * s) = 0 := by
      rw [lg_cmp_eq]
      constructor
      · intro w
        have w2 := congrArg (fun v : Int64 => v.toUInt64.toNat) w
        rw [UInt64.toUInt64_toInt64, sh] at w2
        exact w2
      · intro w
        rw [← sh] at w
        have w2 : Int64.toUInt64 y >>> ((Int32.toInt64 (((8 : Int32)) * iI (s : Int))).toUInt64 &&& Int64.toUInt64 63) = 0 := UInt64.toNat_inj.mp w
        rw [w2]
        rfl
    have key : z / 2 ^ (8 * s) = 0 ↔ nby y ≤ s := by
      unfold nby nlz
      rw [← hz]
      have p : 0 < 2 ^ (8 * s) := Nat.two_pow_pos _
      rw [Nat.div_eq_zero_iff]
      by_cases h0 : z = 0
      · rw [if_pos h0, h0]
        constructor
        · intro _
          omega
        · intro _
          exact Or.inr p
      · rw [if_neg h0]
        have g2 : Nat.log2 z < 64 := (Nat.log2_lt h0).mpr (by omega)
        have g3 : z < 2 ^ (8 * s) ↔ Nat.log2 z < 8 * s := (Nat.log2_lt h0).symm
        constructor
        · intro w
          rcases w with w | w
          · omega
          · have := g3.mp w
            omega
        · intro w
          exact Or.inr (g3.mpr (by omega))
    rw [lp_e]; unfold c266_151
    rw [if_neg (show ¬ (8 : Int32) ≤ iI (s : Int) from leI_n (x := 8) rfl rfl (by omega))]
    by_cases c : nby y ≤ s
    · rw [if_pos (iff.mpr (key.mpr c)), show s = nby y by omega]
    · rw [if_neg (fun w => c (key.mp (iff.mp w))), ltI_q (z := ((s + 1 : Nat) : Int)) (cvI (adI rfl li_1) (by omega))]
      exact r266_151 m (s + 1) Nf (by omega) (by omega) (by omega)
theorem and255 (v : Int64) : (v &&& ((255 : Int64))).toInt32 = v.toInt32 &&& ((255 : Int32)) := by
  rw [Int64.toInt32_and]
  rfl
/-- what is behind the NAME -/
theorem r266_t (hi : 0 ≤ i ∧ i ≤ 7) : (jn (fun (s7 : Int32) => jn (fun (s8 : Int32) => some (.int s8, M)) fun j206 => if s7 ≤ iI i then ( j206 ((-1 : Int32))) else ( j206 ((((Int64.toUInt64 y >>> ((Int32.toInt64 (((8 : Int32)) * ((s7 - ((1 : Int32))) - iI i))).toUInt64 &&& Int64.toUInt64 63)).toInt64) &&& ((255 : Int64))).toInt32))) fun j177 => lp (c266_151 rec j177 y) 4294967296 ((0 : Int32)) : XA) = some (.int (nbt y i), M) := by
  have b8 := nby_b (y := y)
  rw [jn_v, show (0 : Int32) = iI ((0 : Nat) : Int) from rfl, r266_151 8 0 4294967296 (by omega) (by omega) (by omega), jv_e, jn_v]
  unfold nbt
  by_cases h1 : i < nby y
  · rw [if_neg (leI_n rfl rfl (by omega)), jv_e, and255, if_pos (by omega)]
  · rw [if_pos (leI_p rfl rfl (by omega)), jv_e, if_neg (by omega)]
theorem nbt_0 : nbt (0 : Int64) i = -1 := by
  have e : nby (0 : Int64) = 0 := by decide +kernel
  unfold nbt
  rw [e, if_neg (by omega)]
/-- the NAME, in the class -/
theorem name_c (hdl : 7 ≤ dl) (hP : hoP o) (hC : HC LL xs o ow sl Mc) (bp : -2147483648 ≤ p ∧ p ≤ 2147483647) (bk : -2147483648 ≤ k ∧ k ≤ 2147483647) (bm : -2147483648 ≤ m ∧ m ≤ 2147483647) (bi : -2147483648 ≤ i ∧ i ≤ 2147483647) : runX dl 135 [va_rf (some 64), .int (iI p), .int (iI k), .int (iI m), .int (iI i)] Mc = some (.int (if (0 ≤ p ∧ p < oN o) ∧ (0 ≤ k ∧ k ≤ 3) ∧ 0 ≤ m ∧ m < (gR (oP o p)).1 (k.toNat + 1) 0 0 then nbt ((gR (oP o p)).2 (k.toNat + 1) m) i else -1), Mc) := by
  obtain ⟨dl, rfl⟩ : ∃ e, dl = e + 1 := ⟨dl - 1, by omega⟩
  have cM := hC.1.1.1
  have e1 := zc167 (d := dl) (M := Mc) (v := iI p) (p := p) (by omega) hC.1.1.1 hC.2.1 hC.1.ob rfl bp
  rw [r135]; unfold b135; rw [aR_e, aI_e, aI_e, aI_e, aI_e, aZ_e]; unfold c135
  rw [vC_e (ck_64 cM), cP_e e1, jn_v]
  by_cases hp : 0 ≤ p ∧ p < oN o
  · rw [if_pos hp, if_neg (show ¬ some (gX (oP o p)) = none by simp)]
    obtain ⟨⟨⟨o1, o2, o3⟩, o4, o6, o9, -⟩, hPA, -, hLs, hTT, hUT⟩ := hC.1.2.1 p hp.1 hp.2
    have hg := hP.2.2.1 p hp.1 hp.2
    obtain ⟨n1, -, n2, n3, n4⟩ := hg.1.1.1
    have p8 := hP.1
    by_cases k0 : k < 0
    · rw [if_pos (lsI_p (y := 0) rfl li_0 (by omega)), jv_e, if_neg (by omega)]
    rw [if_neg (lsI_n (y := 0) rfl li_0 (by omega))]
    by_cases k3 : 3 < k
    · rw [if_neg (show ¬ iI k ≤ (3 : Int32) from leI_n (y := 3) rfl rfl (by omega)), jv_e, if_neg (by omega)]
    rw [if_pos (show iI k ≤ (3 : Int32) from leI_p (y := 3) rfl rfl (by omega))]
    by_cases kz : k = 0
    · subst kz
      rw [if_pos (show iI 0 = 0 from rfl), jn_v, jn_v]
      by_cases m0 : m < 0
      · rw [if_pos (lsI_p (y := 0) rfl li_0 (by omega)), jv_e, jv_e, if_neg (by omega)]
      rw [if_neg (lsI_n (y := 0) rfl li_0 (by omega)), gtP_q o1 (o4 1 (by decide) (by decide)), vC_e (hLs 1 (by decide) (by decide)).1.2.1, cI_e (ls_size (by omega) (hLs 1 (by decide) (by decide)))]
      have nb : hEN (gH (oP o p)) 1 ≤ 8 := by have := hg.1.n2; omega
      have nb2 := hg.1.2.1
      by_cases m1 : m < hEN (gH (oP o p)) 1
      · obtain ⟨⟨u1, -⟩, -, u3, -⟩ := hUT m (by omega) m1
        have g1 := (hg.1.1.2.2.1 m (by omega) (by omega)).1
        rw [if_pos (lsI_p rfl rfl (by omega)), gtP_q o1 (o4 1 (by decide) (by decide)), vC_e (hLs 1 (by decide) (by decide)).1.2.1, cP_e (ls_get (by omega) (hLs 1 (by decide) (by decide)) rfl (by omega)), cst_e u1, gtL_q u1 u3, cI_e (zc173 (by omega) bi), jv_e, g1, if_pos ⟨hp, by omega, by omega, by show m < (gR (oP o p)).1 1 0 0; omega⟩]
        rfl
      · rw [if_neg (lsI_n rfl rfl (by omega)), jv_e, jv_e, if_neg (show ¬ ((0 ≤ p ∧ p < oN o) ∧ (0 ≤ (0 : Int) ∧ (0 : Int) ≤ 3) ∧ 0 ≤ m ∧ m < (gR (oP o p)).1 (Int.toNat 0 + 1) 0 0) from fun z => m1 (by have z2 : m < (gR (oP o p)).1 1 0 0 := z.2.2.2; omega))]
    · rw [if_neg (eqI_n (y := 0) rfl li_0 (by omega)), jn_v]
      obtain ⟨kk, hkk⟩ : ∃ kk : Nat, kk = k.toNat + 1 := ⟨_, rfl⟩
      have kr : 2 ≤ kk ∧ kk ≤ 4 := by omega
      have eN : hEN (gH (oP o p)) kk = (gR (oP o p)).1 kk 0 0 := by
        have : kk = 2 ∨ kk = 3 ∨ kk = 4 := by omega
        rcases this with z | z | z <;> rw [z] <;> assumption
      have eX : ∀ m, 0 ≤ m → m < hEN (gH (oP o p)) kk → hEX (gH (oP o p)) kk m = (gR (oP o p)).2 kk m := by
        have : kk = 2 ∨ kk = 3 ∨ kk = 4 := by omega
        rcases this with z | z | z <;> rw [z] <;> intro m a b
        · exact (hg.1.1.2.2.2.1 m a b).1
        · exact (hg.1.1.2.2.2.2.1 m a b).1
        · exact (hg.1.1.2.2.2.2.2.1 m a b).1
      rw [← hkk]
      have go : (cP (runX dl 168 [va_rf (some (hCL (gH (oP o p)) kk)), .int (iI m)] Mc) fun x17 M16 => jn (fun (s18 : Int32 × Mem) => some (.int s18.1, s18.2)) fun j124 => if x17 = none then ( j124 ((-1 : Int32), M16)) else ( gtL (8, 9) M16 x17 0 fun x19 => cI (runX dl 173 [.long x19, .int (iI i)] M16) fun x21 M20 => j124 (x21, M20)) : XA) = some (.int (if (0 ≤ p ∧ p < oN o) ∧ (0 ≤ k ∧ k ≤ 3) ∧ 0 ≤ m ∧ m < (gR (oP o p)).1 kk 0 0 then nbt ((gR (oP o p)).2 kk m) i else -1), Mc) := by
        have e3 := zpartn (d := dl) (M := Mc) (v := iI m) (i := m) (by omega) (hLs kk (by omega) (by omega)) rfl bm (fun j a b => (hTT kk (by omega) (by omega) j a b).1.1)
        rw [cP_e e3, jn_v]
        by_cases hm : 0 ≤ m ∧ m < hEN (gH (oP o p)) kk
        · obtain ⟨⟨t1, -, -⟩, t4, t5⟩ := hTT kk (by omega) (by omega) m hm.1 hm.2
          rw [if_pos hm, if_neg (show ¬ some (hEC (gH (oP o p)) kk m) = none by simp), gtL_q t1 t5, cI_e (zc173 (by omega) bi), jv_e, eX m hm.1 hm.2, if_pos ⟨hp, by omega, by omega, by omega⟩]
        · rw [if_neg hm, if_pos rfl, jv_e, if_neg (fun z => hm (by omega))]
      have k123 : k = 1 ∨ k = 2 ∨ k = 3 := by omega
      rcases k123 with z | z | z
      · have e2 : kk = 2 := by omega
        rw [if_pos (show iI k = (1 : Int32) by rw [z]; rfl), gtP_q o1 (o4 2 (by decide) (by decide)), jv_e]
        rw [e2] at go ⊢
        exact go
      · have e2 : kk = 3 := by omega
        rw [if_neg (show ¬ iI k = (1 : Int32) by rw [z]; decide), if_pos (show iI k = (2 : Int32) by rw [z]; rfl), gtP_q o1 (o4 3 (by decide) (by decide)), jv_e]
        rw [e2] at go ⊢
        exact go
      · have e2 : kk = 4 := by omega
        rw [if_neg (show ¬ iI k = (1 : Int32) by rw [z]; decide), if_neg (show ¬ iI k = (2 : Int32) by rw [z]; decide), gtP_q o1 (o4 4 (by decide) (by decide)), jv_e]
        rw [e2] at go ⊢
        exact go
  · rw [if_neg hp, if_pos rfl, jv_e, if_neg (fun z => hp z.1)]
/-- and in the reference -/
theorem name_r (hd : 5 ≤ d) (hP : hoP o) (hR : HR o sl Mr) (bp : -2147483648 ≤ p ∧ p ≤ 2147483647) (bk : -2147483648 ≤ k ∧ k ≤ 2147483647) (bm : -2147483648 ≤ m ∧ m ≤ 2147483647) (bi : -2147483648 ≤ i ∧ i ≤ 2147483647) : runX d 266 [va_rf (some 160), .int (iI p), .int (iI k), .int (iI m), .int (iI i)] Mr = some (.int (if (0 ≤ p ∧ p < oN o) ∧ (0 ≤ k ∧ k ≤ 3) ∧ 0 ≤ m ∧ m < (gR (oP o p)).1 (k.toNat + 1) 0 0 then nbt ((gR (oP o p)).2 (k.toNat + 1) m) i else -1), Mr) := by
  obtain ⟨d, rfl⟩ : ∃ e, d = e + 1 := ⟨d - 1, by omega⟩
  have rM := hR.1.1.1
  have p8 := hP.1
  have e2 := zr255 (d := d) (M := Mr) (v := iI p) (p := p) (by omega) rM hR.2.1 (by omega) rfl bp
  have q := r_in (d := d) (M := Mr) (i := i) (k := 0) (m := 7) (by omega) bi (by omega) (by omega)
  rw [← li_0, show iI 7 = (7 : Int32) from rfl] at q
  have n10 : ¬ iI 1 = (0 : Int32) := by decide
  rw [r266]; unfold b266; rw [aR_e, aI_e, aI_e, aI_e, aI_e, aZ_e]; unfold c266
  rw [vC_e (rk_160 rM), cI_e e2, jn_v]
  by_cases hp : 0 ≤ p ∧ p < oN o
  · rw [if_pos hp, if_neg n10]
    obtain ⟨rr, rk⟩ := hR.1.2.1 p hp.1 hp.2
    have hg := hP.2.2.1 p hp.1 hp.2
    obtain ⟨n1, -, n2, n3, n4⟩ := hg.1.1.1
    have nb1 := hg.1.n2
    have nb3 := hg.1.n3
    have nb4 := hg.1.2.1
    by_cases m0 : m < 0
    · rw [if_pos (lsI_p (y := 0) rfl li_0 (by omega)), jv_e, if_neg (by omega)]
    rw [if_neg (lsI_n (y := 0) rfl li_0 (by omega)), cI_e q]
    by_cases hi : 0 ≤ i ∧ i ≤ 7
    · rw [if_pos hi, if_neg n10, jn_v]
      obtain ⟨J, hJ⟩ : ∃ J : Int64 → XA, J = jv fun (s6 : Int64) => jn (fun (s7 : Int32) => jn (fun (s8 : Int32) => some (.int s8, Mr)) fun j206 => if s7 ≤ iI i then ( j206 ((-1 : Int32))) else ( j206 ((((Int64.toUInt64 s6 >>> ((Int32.toInt64 (((8 : Int32)) * ((s7 - ((1 : Int32))) - iI i))).toUInt64 &&& Int64.toUInt64 63)).toInt64) &&& ((255 : Int64))).toInt32))) fun j177 => lp (c266_151 (runX d) j177 s6) 4294967296 ((0 : Int32)) := ⟨_, rfl⟩
      have hJv : ∀ y : Int64, J y = some (.int (nbt y i), Mr) := fun y => by
        rw [hJ, jv_e]
        exact r266_t hi
      have z0 : J 0 = some (.int (-1), Mr) := by rw [hJv, nbt_0]
      rw [← hJ, jn_v, jn_v, jn_v]
      have c162 : Mr.1 162 p.toNat = iI ((gR (oP o p)).1 1 0 0) := rr.at (q := (162, 1, 1, 0)) (j := 0) (x := p) (by decide) (by decide) (by decide) (by dsimp only; omega)
      have c169 : Mr.1 169 p.toNat = iI ((gR (oP o p)).1 2 0 0) := rr.at (q := (169, 1, 2, 0)) (j := 0) (x := p) (by decide) (by decide) (by decide) (by dsimp only; omega)
      have c176 : Mr.1 176 p.toNat = iI ((gR (oP o p)).1 3 0 0) := rr.at (q := (176, 1, 3, 0)) (j := 0) (x := p) (by decide) (by decide) (by decide) (by dsimp only; omega)
      have c184 : Mr.1 184 p.toNat = iI ((gR (oP o p)).1 4 0 0) := rr.at (q := (184, 1, 4, 0)) (j := 0) (x := p) (by decide) (by decide) (by decide) (by dsimp only; omega)
      have l8 : (8 : Int32) = iI 8 := rfl
      have l96 : (96 : Int32) = iI 96 := rfl
      have l16 : (16 : Int32) = iI 16 := rfl
      have l6 : (6 : Int32) = iI 6 := rfl
      have kr := rk_160 rM
      by_cases kz : k = 0
      · subst kz
        rw [if_pos (show iI 0 = 0 from rfl), gtP_q kr (rf_3 rM), alI_q (n := 8) (z := p) (rk_162 rM) rfl (by omega) c162]
        by_cases m1 : m < (gR (oP o p)).1 1 0 0
        · have l : Mr.2.1 163 (8 * p + m).toNat = (gR (oP o p)).2 1 m := rr.2 (163, 8, 1) (by decide) m (by omega) (by show m < 8; omega)
          rw [if_neg (leI_n rfl rfl (by omega)), gtP_q kr (rf_4 rM), alL_q (n := 64) (z := 8 * p + m) (rk_163 rM) (adI (mlI l8 rfl) rfl) (by omega) l, hJv, if_pos ⟨hp, by omega, by omega, m1⟩]
          rfl
        · rw [if_pos (leI_p rfl rfl (by omega)), jv_e, if_neg (show ¬ iI 0 = (1 : Int32) by decide), jv_e, if_neg (show ¬ iI 0 = (2 : Int32) by decide), jv_e, if_neg (show ¬ iI 0 = (3 : Int32) by decide), z0, if_neg (fun z => m1 z.2.2.2)]
      rw [if_neg (eqI_n (y := 0) rfl li_0 (by omega)), jv_e]
      by_cases k1 : k = 1
      · subst k1
        rw [if_pos (show iI 1 = (1 : Int32) from rfl), gtP_q kr (rf_10 rM), alI_q (n := 8) (z := p) (rk_169 rM) rfl (by omega) c169]
        by_cases m1 : m < (gR (oP o p)).1 2 0 0
        · have l : Mr.2.1 170 (96 * p + m).toNat = (gR (oP o p)).2 2 m := rr.2 (170, 96, 2) (by decide) m (by omega) (by show m < 96; omega)
          rw [if_neg (leI_n rfl rfl (by omega)), gtP_q kr (rf_11 rM), alL_q (n := 768) (z := 96 * p + m) (rk_170 rM) (adI (mlI l96 rfl) rfl) (by omega) l, hJv, if_pos ⟨hp, by omega, by omega, m1⟩]
          rfl
        · rw [if_pos (leI_p rfl rfl (by omega)), jv_e, if_neg (show ¬ iI 1 = (2 : Int32) by decide), jv_e, if_neg (show ¬ iI 1 = (3 : Int32) by decide), z0, if_neg (fun z => m1 z.2.2.2)]
      rw [if_neg (eqI_n (y := 1) rfl li_1 (by omega)), jv_e]
      by_cases k2 : k = 2
      · subst k2
        rw [if_pos (show iI 2 = (2 : Int32) from rfl), gtP_q kr (rf_17 rM), alI_q (n := 8) (z := p) (rk_176 rM) rfl (by omega) c176]
        by_cases m1 : m < (gR (oP o p)).1 3 0 0
        · have l : Mr.2.1 177 (16 * p + m).toNat = (gR (oP o p)).2 3 m := rr.2 (177, 16, 3) (by decide) m (by omega) (by show m < 16; omega)
          rw [if_neg (leI_n rfl rfl (by omega)), gtP_q kr (rf_18 rM), alL_q (n := 128) (z := 16 * p + m) (rk_177 rM) (adI (mlI l16 rfl) rfl) (by omega) l, hJv, if_pos ⟨hp, by omega, by omega, m1⟩]
          rfl
        · rw [if_pos (leI_p rfl rfl (by omega)), jv_e, if_neg (show ¬ iI 2 = (3 : Int32) by decide), z0, if_neg (fun z => m1 z.2.2.2)]
      rw [if_neg (show ¬ iI k = (2 : Int32) from eqI_n (y := 2) rfl rfl (by omega)), jv_e]
      by_cases k3 : k = 3
      · subst k3
        rw [if_pos (show iI 3 = (3 : Int32) from rfl), gtP_q kr (rf_25 rM), alI_q (n := 8) (z := p) (rk_184 rM) rfl (by omega) c184]
        by_cases m1 : m < (gR (oP o p)).1 4 0 0
        · have l : Mr.2.1 185 (6 * p + m).toNat = (gR (oP o p)).2 4 m := rr.2 (185, 6, 4) (by decide) m (by omega) (by show m < 6; omega)
          rw [if_neg (leI_n rfl rfl (by omega)), gtP_q kr (rf_26 rM), alL_q (n := 48) (z := 6 * p + m) (rk_185 rM) (adI (mlI l6 rfl) rfl) (by omega) l, hJv, if_pos ⟨hp, by omega, by omega, m1⟩]
          rfl
        · rw [if_pos (leI_p rfl rfl (by omega)), z0, if_neg (fun z => m1 z.2.2.2)]
      rw [if_neg (show ¬ iI k = (3 : Int32) from eqI_n (y := 3) rfl rfl (by omega)), z0, if_neg (by omega)]
    · rw [if_neg hi, if_pos (show iI 0 = 0 from rfl), jv_e]
      by_cases hv : (0 ≤ p ∧ p < oN o) ∧ (0 ≤ k ∧ k ≤ 3) ∧ 0 ≤ m ∧ m < (gR (oP o p)).1 (k.toNat + 1) 0 0
      · rw [if_pos hv]
        unfold nbt
        have b8 := nby_b (y := (gR (oP o p)).2 (k.toNat + 1) m)
        rw [if_neg (by omega)]
      · rw [if_neg hv]
  · rw [if_neg hp, if_pos (show iI 0 = 0 from rfl), jv_e, if_neg (fun z => hp z.1)]
end S9e8
