/-! long numbers; common divisors; products of ranges -/
def iL (z : Nat) : Int64 := Int64.ofInt (z : Int)
def zfp : Nat → Nat × Nat
  | 0 => (0, 1)
  | n + 1 => ((zfp n).2, (zfp n).1 + (zfp n).2)
section S9dv
variable {a b c i n N k d : Nat} {z : Int} {M : Mem} {rec : Nat → List Value → Mem → XA}
theorem iL_add : iL a + iL b = iL (a + b) := by
  unfold iL
  rw [← Int64.ofInt_add]
  rfl
theorem iL_mul : iL a * iL b = iL (a * b) := by
  unfold iL
  rw [← Int64.ofInt_mul]
  rfl
theorem iL_toInt (h : a < 9223372036854775808) : (iL a).toInt = a := Int64.toInt_ofInt_of_le (by omega) (by omega)
theorem iL_div (ha : a < 9223372036854775808) (hb : b < 9223372036854775808) : iL a / iL b = iL (a / b) := by
  have m1 : Int64.maxValue.toInt = 9223372036854775807 := by decide
  have m2 : Int64.minValue.toInt = -9223372036854775808 := by decide
  unfold iL
  rw [← Int64.ofInt_tdiv (by omega) (by omega) (by omega) (by omega), td_cast]
theorem iL_rem (ha : a < 9223372036854775808) (hb : b < 9223372036854775808) : lrem (iL a) (iL b) = iL (a % b) := by
  unfold lrem
  rw [iL_div ha hb, iL_mul]
  unfold iL
  rw [← Int64.ofInt_sub]
  congr 1
  have h := Nat.mod_add_div a b
  rw [Nat.mul_comm] at h
  generalize a / b * b = w at *
  omega
theorem iL_0 : (0 : Int64) = iL 0 := by decide +kernel
theorem iL_1 : (1 : Int64) = iL 1 := by decide +kernel
theorem iL_f : (1000000000 : Int64) = iL 1000000000 := by decide +kernel
theorem iL_inj (ha : a < 9223372036854775808) (hb : b < 9223372036854775808) : iL a = iL b ↔ a = b := by
  constructor
  · intro h
    have := congrArg Int64.toInt h
    rw [iL_toInt ha, iL_toInt hb] at this
    omega
  · intro h
    rw [h]
theorem iL_z (ha : a < 9223372036854775808) : iL a = 0 ↔ a = 0 := by
  rw [iL_0]
  exact iL_inj ha (by omega)
theorem lgL_z (ha : a < 9223372036854775808) : lg_cmp (iL a) (0 : Int64) = 0 ↔ a = 0 := (lg_cmp_eq _ _).trans (iL_z ha)
theorem lgL_le (ha : a < 9223372036854775808) (hb : b < 9223372036854775808) : lg_cmp (iL a) (iL b) ≤ 0 ↔ a ≤ b := by
  rw [lg_cmp_le, Int64.le_iff_toInt_le, iL_toInt ha, iL_toInt hb]
  omega
theorem lgL_gt (ha : a < 9223372036854775808) (hb : b < 9223372036854775808) : 0 < lg_cmp (iL a) (iL b) ↔ b < a := by
  rw [lg_cmp_gt, Int64.lt_iff_toInt_lt, iL_toInt ha, iL_toInt hb]
  omega
theorem li64 (h : 0 ≤ z ∧ z ≤ 2147483647) : (iI z).toInt64 = iL z.toNat := by
  have e : (iI z).toInt64 = Int64.ofInt z := Int32.toInt64_ofInt (by have := h.1; simp; omega) (by rw [mx32]; omega)
  rw [e]
  unfold iL
  congr 1
  omega
theorem iL_i (n : Nat) : (iL n).toInt32 = iI (n : Int) := Int64.toInt32_ofInt
theorem zfp_99 : 4611686018427387904 ≤ (zfp 99).1 := by decide +kernel
theorem zfp_1 : (zfp (n + 1)).1 = (zfp n).2 := rfl
theorem zfp_2 : (zfp (n + 2)).1 = (zfp n).1 + (zfp (n + 1)).1 := rfl
/-- how many steps there are -/
def zgK (n a b : Nat) : Prop := (b ≤ a → ¬ ((zfp (n + 1)).1 ≤ b ∧ (zfp (n + 2)).1 ≤ a)) ∧ (a < b → 4611686018427387904 ≤ (zfp n).1)
theorem zgK.st (h : zgK (n + 1) a b) (ha : a < 4611686018427387904) (hb : ¬ b = 0) : zgK n b (a % b) := by
  obtain ⟨h1, h2⟩ := h
  have hm : a % b < b := Nat.mod_lt _ (by omega)
  refine ⟨fun y w => ?_, fun y => by omega⟩
  by_cases c : b ≤ a
  · have z := h1 c
    have d1 : 1 ≤ a / b := Nat.div_pos c (by omega)
    have d2 := Nat.mod_add_div a b
    have d3 : b * 1 ≤ b * (a / b) := Nat.mul_le_mul_left _ d1
    have z3 : (zfp (n + 1 + 2)).1 = (zfp (n + 1)).1 + (zfp (n + 2)).1 := rfl
    have z4 : (zfp (n + 1 + 1)).1 = (zfp (n + 2)).1 := rfl
    omega
  · have z := h2 (by omega)
    rw [Nat.mod_eq_of_lt (by omega)] at w
    omega
theorem zgK.z0 (h : zgK 0 a b) : b = 0 := by
  obtain ⟨h1, h2⟩ := h
  by_cases c : b ≤ a
  · have z := h1 c
    have z1 : (zfp (0 + 1)).1 = 1 := rfl
    have z2 : (zfp (0 + 2)).1 = 1 := rfl
    omega
  · have z := h2 (by omega)
    have z1 : (zfp 0).1 = 0 := rfl
    omega
theorem gcd_st (a b : Nat) : Nat.gcd b (a % b) = Nat.gcd a b := by
  rw [Nat.gcd_comm b, ← Nat.gcd_rec, Nat.gcd_comm]
theorem zgl17 {J : Int64 → XA} : ∀ (n a b : Nat) (i : Int) (N : Nat), a < 4611686018427387904 → b < 4611686018427387904 → zgK n a b → 0 ≤ i → i + n ≤ 99 → n < N → lp (c17_9 rec J) N (iL a, iL b, iI i) = J (iL (Nat.gcd a b)) := by
  intro n
  induction n with
  | zero =>
    intro a b i N ha hb hk h0 h1 hN
    obtain ⟨N, rfl⟩ : ∃ e, N = e + 1 := ⟨N - 1, by omega⟩
    rw [lp_e]
    unfold c17_9
    dsimp only
    have z := hk.z0
    subst z
    rw [if_neg (show ¬ (100 : Int32) ≤ iI i from leI_n (x := 100) rfl rfl (by omega)), if_pos ((lgL_z (by omega)).mpr rfl), Nat.gcd_zero_right]
  | succ n ih =>
    intro a b i N ha hb hk h0 h1 hN
    obtain ⟨N, rfl⟩ : ∃ e, N = e + 1 := ⟨N - 1, by omega⟩
    rw [lp_e]
    unfold c17_9
    dsimp only
    rw [if_neg (show ¬ (100 : Int32) ≤ iI i from leI_n (x := 100) rfl rfl (by omega))]
    by_cases z : b = 0
    · subst z
      rw [if_pos ((lgL_z (by omega)).mpr rfl), Nat.gcd_zero_right]
    · rw [if_neg (fun y => z ((lgL_z (by omega)).mp y)), if_neg (fun y => z ((iL_z (by omega)).mp y)), iL_rem (by omega) (by omega)]
      have hm : a % b < b := Nat.mod_lt _ (by omega)
      have q := ih b (a % b) (i + 1) N hb (by omega) (hk.st ha z) (by omega) (by omega) (by omega)
      rw [gcd_st] at q
      rw [← q, ← (show iI i + (1 : Int32) = iI (i + 1) from adI rfl li_1)]
      rfl
theorem zgl300 {J : Int64 → XA} : ∀ (n a b : Nat) (N : Nat), a < 4611686018427387904 → b < 4611686018427387904 → zgK n a b → n < N → lp (c300_6 rec J) N (iL a, iL b) = J (iL (Nat.gcd a b)) := by
  intro n
  induction n with
  | zero =>
    intro a b N ha hb hk hN
    obtain ⟨N, rfl⟩ : ∃ e, N = e + 1 := ⟨N - 1, by omega⟩
    rw [lp_e]
    unfold c300_6
    dsimp only
    have z := hk.z0
    subst z
    rw [if_pos ((lgL_z (by omega)).mpr rfl), Nat.gcd_zero_right]
  | succ n ih =>
    intro a b N ha hb hk hN
    obtain ⟨N, rfl⟩ : ∃ e, N = e + 1 := ⟨N - 1, by omega⟩
    rw [lp_e]
    unfold c300_6
    dsimp only
    by_cases z : b = 0
    · subst z
      rw [if_pos ((lgL_z (by omega)).mpr rfl), Nat.gcd_zero_right]
    · rw [if_neg (fun y => z ((lgL_z (by omega)).mp y)), if_neg (fun y => z ((iL_z (by omega)).mp y)), iL_rem (by omega) (by omega)]
      have hm : a % b < b := Nat.mod_lt _ (by omega)
      have q := ih b (a % b) N hb (by omega) (hk.st ha z) (by omega)
      rw [gcd_st] at q
      rw [← q]
      rfl
theorem zgK99 (ha : a < 4611686018427387904) (hb : b < 4611686018427387904) : zgK 99 a b := by
  have z := zfp_99
  have z1 : (zfp (99 + 1)).1 = (zfp 98).1 + (zfp 99).1 := rfl
  exact ⟨fun _ w => by omega, fun _ => z⟩
theorem zc17 (hd : 1 ≤ d) (ha : a < 4611686018427387904) (hb : b < 4611686018427387904) : runX d 17 [.long (iL a), .long (iL b)] M = some (.long (iL (Nat.gcd a b)), M) := by
  obtain ⟨d, rfl⟩ : ∃ e, d = e + 1 := ⟨d - 1, by omega⟩
  rw [r17]; unfold b17; rw [aL_e, aL_e, aZ_e]; unfold c17
  have q := zgl17 (rec := runX d) (J := jv fun s1 => some (.long s1, M)) 99 a b 0 4294967296 ha hb (zgK99 ha hb) (by omega) (by omega) (by omega)
  rw [jn_v, show (0 : Int32) = iI 0 from li_0, q]
  rfl
theorem zr300 (hd : 1 ≤ d) (ha : a < 4611686018427387904) (hb : b < 4611686018427387904) : runX d 300 [.long (iL a), .long (iL b)] M = some (.long (iL (Nat.gcd a b)), M) := by
  obtain ⟨d, rfl⟩ : ∃ e, d = e + 1 := ⟨d - 1, by omega⟩
  rw [r300]; unfold b300; rw [aL_e, aL_e, aZ_e]; unfold c300
  have q := zgl300 (rec := runX d) (J := jv fun s1 => some (.long s1, M)) 99 a b 4294967296 ha hb (zgK99 ha hb) (by omega)
  rw [jn_v, q]
  rfl
end S9dv
