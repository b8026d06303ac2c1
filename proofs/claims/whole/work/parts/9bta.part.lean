/-! how many bits -/
def bcx (a0 : Int32) : Int32 :=
  let x1 := (a0 - (((Int32.toUInt32 a0 >>> (Int32.toUInt32 ((1 : Int32)) &&& Int32.toUInt32 31)).toInt32) &&& ((1431655765 : Int32))))
  let x2 := ((x1 &&& ((858993459 : Int32))) + (((Int32.toUInt32 x1 >>> (Int32.toUInt32 ((2 : Int32)) &&& Int32.toUInt32 31)).toInt32) &&& ((858993459 : Int32))))
  let x3 := ((x2 + ((Int32.toUInt32 x2 >>> (Int32.toUInt32 ((4 : Int32)) &&& Int32.toUInt32 31)).toInt32)) &&& ((252645135 : Int32)))
  let x4 := (x3 + ((Int32.toUInt32 x3 >>> (Int32.toUInt32 ((8 : Int32)) &&& Int32.toUInt32 31)).toInt32))
  let x5 := (x4 + ((Int32.toUInt32 x4 >>> (Int32.toUInt32 ((16 : Int32)) &&& Int32.toUInt32 31)).toInt32))
  (x5 &&& ((63 : Int32)))
def popN : Nat → Nat → Nat
  | 0, _ => 0
  | k + 1, n => n % 2 + popN k (n / 2)
section S9cq
variable {d : Nat} {M : Mem} {w : Int32}
theorem zr315 (hd : 1 ≤ d) : runX d 315 [.int w] M = some (.int (bcx w), M) := by
  obtain ⟨d, rfl⟩ : ∃ e, d = e + 1 := ⟨d - 1, by omega⟩
  rw [r315]; unfold b315; rw [aI_e, aZ_e]; unfold c315
  rfl
theorem bcx_0 : ∀ a : Nat, a < 16 → ∀ b : Nat, b < 256 → bcx (iI ((0 + 256 * a + b : Nat) : Int)) = iI (popN 16 (0 + 256 * a + b) : Int) := by decide +kernel
theorem bcx_1 : ∀ a : Nat, a < 16 → ∀ b : Nat, b < 256 → bcx (iI ((4096 + 256 * a + b : Nat) : Int)) = iI (popN 16 (4096 + 256 * a + b) : Int) := by decide +kernel
theorem bcx_2 : ∀ a : Nat, a < 16 → ∀ b : Nat, b < 256 → bcx (iI ((8192 + 256 * a + b : Nat) : Int)) = iI (popN 16 (8192 + 256 * a + b) : Int) := by decide +kernel
theorem bcx_3 : ∀ a : Nat, a < 16 → ∀ b : Nat, b < 256 → bcx (iI ((12288 + 256 * a + b : Nat) : Int)) = iI (popN 16 (12288 + 256 * a + b) : Int) := by decide +kernel
theorem bcx_4 : ∀ a : Nat, a < 16 → ∀ b : Nat, b < 256 → bcx (iI ((16384 + 256 * a + b : Nat) : Int)) = iI (popN 16 (16384 + 256 * a + b) : Int) := by decide +kernel
theorem bcx_5 : ∀ a : Nat, a < 16 → ∀ b : Nat, b < 256 → bcx (iI ((20480 + 256 * a + b : Nat) : Int)) = iI (popN 16 (20480 + 256 * a + b) : Int) := by decide +kernel
theorem bcx_6 : ∀ a : Nat, a < 16 → ∀ b : Nat, b < 256 → bcx (iI ((24576 + 256 * a + b : Nat) : Int)) = iI (popN 16 (24576 + 256 * a + b) : Int) := by decide +kernel
theorem bcx_7 : ∀ a : Nat, a < 16 → ∀ b : Nat, b < 256 → bcx (iI ((28672 + 256 * a + b : Nat) : Int)) = iI (popN 16 (28672 + 256 * a + b) : Int) := by decide +kernel
theorem bcx_8 : ∀ a : Nat, a < 16 → ∀ b : Nat, b < 256 → bcx (iI ((32768 + 256 * a + b : Nat) : Int)) = iI (popN 16 (32768 + 256 * a + b) : Int) := by decide +kernel
theorem bcx_9 : ∀ a : Nat, a < 16 → ∀ b : Nat, b < 256 → bcx (iI ((36864 + 256 * a + b : Nat) : Int)) = iI (popN 16 (36864 + 256 * a + b) : Int) := by decide +kernel
theorem bcx_10 : ∀ a : Nat, a < 16 → ∀ b : Nat, b < 256 → bcx (iI ((40960 + 256 * a + b : Nat) : Int)) = iI (popN 16 (40960 + 256 * a + b) : Int) := by decide +kernel
theorem bcx_11 : ∀ a : Nat, a < 16 → ∀ b : Nat, b < 256 → bcx (iI ((45056 + 256 * a + b : Nat) : Int)) = iI (popN 16 (45056 + 256 * a + b) : Int) := by decide +kernel
theorem bcx_12 : ∀ a : Nat, a < 16 → ∀ b : Nat, b < 256 → bcx (iI ((49152 + 256 * a + b : Nat) : Int)) = iI (popN 16 (49152 + 256 * a + b) : Int) := by decide +kernel
theorem bcx_13 : ∀ a : Nat, a < 16 → ∀ b : Nat, b < 256 → bcx (iI ((53248 + 256 * a + b : Nat) : Int)) = iI (popN 16 (53248 + 256 * a + b) : Int) := by decide +kernel
theorem bcx_14 : ∀ a : Nat, a < 16 → ∀ b : Nat, b < 256 → bcx (iI ((57344 + 256 * a + b : Nat) : Int)) = iI (popN 16 (57344 + 256 * a + b) : Int) := by decide +kernel
theorem bcx_15 : ∀ a : Nat, a < 16 → ∀ b : Nat, b < 256 → bcx (iI ((61440 + 256 * a + b : Nat) : Int)) = iI (popN 16 (61440 + 256 * a + b) : Int) := by decide +kernel
theorem bcx_e {n : Nat} (hn : n < 65536) : bcx (iI (n : Int)) = iI (popN 16 n : Int) := by
  have c : n / 4096 = 0 ∨ n / 4096 = 1 ∨ n / 4096 = 2 ∨ n / 4096 = 3 ∨ n / 4096 = 4 ∨ n / 4096 = 5 ∨ n / 4096 = 6 ∨ n / 4096 = 7 ∨ n / 4096 = 8 ∨ n / 4096 = 9 ∨ n / 4096 = 10 ∨ n / 4096 = 11 ∨ n / 4096 = 12 ∨ n / 4096 = 13 ∨ n / 4096 = 14 ∨ n / 4096 = 15 := by omega
  rcases c with c | c | c | c | c | c | c | c | c | c | c | c | c | c | c | c
  · have := bcx_0 (n % 4096 / 256) (by omega) (n % 256) (by omega)
    rw [show 0 + 256 * (n % 4096 / 256) + n % 256 = n by omega] at this
    exact this
  · have := bcx_1 (n % 4096 / 256) (by omega) (n % 256) (by omega)
    rw [show 4096 + 256 * (n % 4096 / 256) + n % 256 = n by omega] at this
    exact this
  · have := bcx_2 (n % 4096 / 256) (by omega) (n % 256) (by omega)
    rw [show 8192 + 256 * (n % 4096 / 256) + n % 256 = n by omega] at this
    exact this
  · have := bcx_3 (n % 4096 / 256) (by omega) (n % 256) (by omega)
    rw [show 12288 + 256 * (n % 4096 / 256) + n % 256 = n by omega] at this
    exact this
  · have := bcx_4 (n % 4096 / 256) (by omega) (n % 256) (by omega)
    rw [show 16384 + 256 * (n % 4096 / 256) + n % 256 = n by omega] at this
    exact this
  · have := bcx_5 (n % 4096 / 256) (by omega) (n % 256) (by omega)
    rw [show 20480 + 256 * (n % 4096 / 256) + n % 256 = n by omega] at this
    exact this
  · have := bcx_6 (n % 4096 / 256) (by omega) (n % 256) (by omega)
    rw [show 24576 + 256 * (n % 4096 / 256) + n % 256 = n by omega] at this
    exact this
  · have := bcx_7 (n % 4096 / 256) (by omega) (n % 256) (by omega)
    rw [show 28672 + 256 * (n % 4096 / 256) + n % 256 = n by omega] at this
    exact this
  · have := bcx_8 (n % 4096 / 256) (by omega) (n % 256) (by omega)
    rw [show 32768 + 256 * (n % 4096 / 256) + n % 256 = n by omega] at this
    exact this
  · have := bcx_9 (n % 4096 / 256) (by omega) (n % 256) (by omega)
    rw [show 36864 + 256 * (n % 4096 / 256) + n % 256 = n by omega] at this
    exact this
  · have := bcx_10 (n % 4096 / 256) (by omega) (n % 256) (by omega)
    rw [show 40960 + 256 * (n % 4096 / 256) + n % 256 = n by omega] at this
    exact this
  · have := bcx_11 (n % 4096 / 256) (by omega) (n % 256) (by omega)
    rw [show 45056 + 256 * (n % 4096 / 256) + n % 256 = n by omega] at this
    exact this
  · have := bcx_12 (n % 4096 / 256) (by omega) (n % 256) (by omega)
    rw [show 49152 + 256 * (n % 4096 / 256) + n % 256 = n by omega] at this
    exact this
  · have := bcx_13 (n % 4096 / 256) (by omega) (n % 256) (by omega)
    rw [show 53248 + 256 * (n % 4096 / 256) + n % 256 = n by omega] at this
    exact this
  · have := bcx_14 (n % 4096 / 256) (by omega) (n % 256) (by omega)
    rw [show 57344 + 256 * (n % 4096 / 256) + n % 256 = n by omega] at this
    exact this
  · have := bcx_15 (n % 4096 / 256) (by omega) (n % 256) (by omega)
    rw [show 61440 + 256 * (n % 4096 / 256) + n % 256 = n by omega] at this
    exact this
end S9cq
