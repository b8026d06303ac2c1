/-! bits of CASES as numbers; which CASES differ -/
def porN (f : Int → Nat) : Nat → Nat
  | 0 => 0
  | k + 1 => porN f k ||| f k
def dmN (T U : Nat → Int → Int32) (c : Int) : Nat := if T 0 c = U 0 c ∧ T 1 c = U 1 c then 0 else 2 ^ c.toNat
section S9cp
variable {d dl : Nat} {o : HO} {v : VR} {q : QN} {s s' u hs : ZS} {M M' M1 M2 Mc Mr Mc' Mr' : Mem} {LL a b j x N bs n : Nat} {xs : Nat → Int32} {ow : Nat → Int} {c p i nc k t sl al lu : Int} {w v1 v2 : Int32} {Z Z' : Nat → Nat → Prop} {Od : Int → Int} {T U : Nat → Int → Int32} {f : Int → Int32} {g : Int → Nat}
theorem iI_tb : (iI (n : Int)).toBitVec = BitVec.ofNat 32 n := by
  show (Int32.ofInt (n : Int)).toBitVec = _
  rw [Int32.toBitVec_ofInt, BitVec.ofInt_natCast]
theorem iI_or : iI (a : Int) ||| iI (b : Int) = iI ((a ||| b : Nat) : Int) := Int32.toBitVec_inj.1 (by
  show (iI (a : Int)).toBitVec ||| (iI (b : Int)).toBitVec = _
  rw [iI_tb, iI_tb, iI_tb, BitVec.ofNat_or])
theorem iI_and : iI (a : Int) &&& iI (b : Int) = iI ((a &&& b : Nat) : Int) := Int32.toBitVec_inj.1 (by
  show (iI (a : Int)).toBitVec &&& (iI (b : Int)).toBitVec = _
  rw [iI_tb, iI_tb, iI_tb, BitVec.ofNat_and])
theorem iI_xor : iI (a : Int) ^^^ iI (b : Int) = iI ((a ^^^ b : Nat) : Int) := Int32.toBitVec_inj.1 (by
  show (iI (a : Int)).toBitVec ^^^ (iI (b : Int)).toBitVec = _
  rw [iI_tb, iI_tb, iI_tb, BitVec.ofNat_xor])
theorem por_N (h : ∀ k : Int, 0 ≤ k → k < n → f k = iI (g k : Int)) : por f n = iI (porN g n : Int) := by
  induction n with
  | zero => exact li_0
  | succ n ih =>
    show por f n ||| f n = iI ((porN g n ||| g n : Nat) : Int)
    rw [ih fun k a b => h k a (by omega), h n (by omega) (by omega), iI_or]
theorem porN_b {m : Nat} (h : ∀ k : Int, 0 ≤ k → k < n → g k < 2 ^ m) : porN g n < 2 ^ m := by
  induction n with
  | zero => exact Nat.two_pow_pos m
  | succ n ih => exact Nat.or_lt_two_pow (ih fun k a b => h k a (by omega)) (h n (by omega) (by omega))
theorem bit_c (h : 0 ≤ c ∧ c < 16) : (1 : Int32) <<< (iI c &&& 31) = iI ((2 ^ c.toNat : Nat) : Int) := by
  have k : c = 0 ∨ c = 1 ∨ c = 2 ∨ c = 3 ∨ c = 4 ∨ c = 5 ∨ c = 6 ∨ c = 7 ∨ c = 8 ∨ c = 9 ∨ c = 10 ∨ c = 11 ∨ c = 12 ∨ c = 13 ∨ c = 14 ∨ c = 15 := by omega
  rcases k with k | k | k | k | k | k | k | k | k | k | k | k | k | k | k | k <;> subst k <;> decide +kernel
theorem dm_N (h : 0 ≤ c ∧ c < 16) : dmk T U c = iI (dmN T U c : Int) := by
  unfold dmk dmN
  by_cases y : T 0 c = U 0 c ∧ T 1 c = U 1 c
  · rw [if_pos y, if_pos y]; exact li_0
  · rw [if_neg y, if_neg y]; exact bit_c h
theorem dm_b (h : 0 ≤ c ∧ c < n) : dmN T U c < 2 ^ n := by
  unfold dmN
  by_cases y : T 0 c = U 0 c ∧ T 1 c = U 1 c
  · rw [if_pos y]; exact Nat.two_pow_pos n
  · rw [if_neg y]; exact Nat.pow_lt_pow_right (by decide) (by omega)
/-- the CASES that notice -/
theorem mask_N (hn : n ≤ 16) : por (dmk T U) n = iI (porN (dmN T U) n : Int) ∧ porN (dmN T U) n < 2 ^ n := ⟨por_N fun k a b => dm_N ⟨a, by omega⟩, porN_b fun k a b => dm_b ⟨a, b⟩⟩
/-- casesThatDiffer() -/
theorem zc176 (hd : 1 ≤ d) (hC : CT M) (hn : n ≤ 16) (hT : ∀ c : Int, 0 ≤ c → c < n → vfC 150 T c M ∧ vfC 155 U c M) (hw : w = iI (n : Int)) : runX d 176 [va_rf (some 64), .int w] M = some (.int (por (dmk T U) n), M) := by
  obtain ⟨d, rfl⟩ : ∃ e, d = e + 1 := ⟨d - 1, by omega⟩
  subst hw
  rw [r176]; unfold b176; rw [aR_e, aI_e, aZ_e]; unfold c176
  rw [jn_v]
  refine lp_use (body := c176_4 (runX d) (some 64) (iI (n : Int)) M (jv fun s1 => some (.int s1, M))) (R := fun s => some (.int s.1, M)) n (fun k s => s.1 = por (dmk T U) k ∧ s.2 = iI (k : Int)) ((0 : Int32), (0 : Int32)) 4294967296 (by omega) ⟨rfl, li_0⟩ (fun s' g1 g2 => ?_) (fun k s hk' hI => ?_) (fun s hI go => ?_)
  · rw [g2, g1.1]
  · obtain ⟨i1, i2⟩ := s
    obtain ⟨u1, u2⟩ := hI
    dsimp only at u1 u2
    subst u1; subst u2
    refine ⟨(por (dmk T U) (k + 1), iI ((k + 1 : Nat) : Int)), ⟨rfl, rfl⟩, fun go => ?_⟩
    obtain ⟨t1, t2⟩ := hT k (by omega) (by omega)
    have p0 : M.1 151 (k : Int).toNat = T 0 k := t1 0 (by decide)
    have p1 : M.1 152 (k : Int).toNat = T 1 k := t1 1 (by decide)
    have a0 : M.1 156 (k : Int).toNat = U 0 k := t2 0 (by decide)
    have a1 : M.1 157 (k : Int).toNat = U 1 k := t2 1 (by decide)
    have k64 := ck_64 hC
    have fin : ∀ z : Int32, por (dmk T U) (k + 1) = z → (jv (fun (s9 : Int32) => lt (iI (k : Int) + (1 : Int32)) fun (x10 : Int32) => go (s9, x10)) z : XA) = go (por (dmk T U) (k + 1), iI ((k + 1 : Nat) : Int)) := fun z hz => by
      rw [jv_e, hz]
      exact ltI_q (cvI (adI rfl li_1) (by omega))
    have e : por (dmk T U) (k + 1) = por (dmk T U) k ||| dmk T U (k : Int) := rfl
    unfold c176_4
    dsimp only
    rw [if_neg (leI_n rfl rfl (by omega)), gtP_q k64 (cf_64_17 hC), alP_q (ck_150 hC) li_0 (by decide) (cf_150_0 hC), alI_q (ck_151 hC) rfl (by omega) p0, gtP_q k64 (cf_64_18 hC), alP_q (ck_155 hC) li_0 (by decide) (cf_155_0 hC), alI_q (ck_156 hC) rfl (by omega) a0, jn_v, jn_v]
    by_cases y : T 0 (k : Int) = U 0 k
    · rw [if_pos y, gtP_q k64 (cf_64_17 hC), alP_q (ck_150 hC) li_1 (by decide) (cf_150_1 hC), alI_q (ck_152 hC) rfl (by omega) p1, gtP_q k64 (cf_64_18 hC), alP_q (ck_155 hC) li_1 (by decide) (cf_155_1 hC), alI_q (ck_157 hC) rfl (by omega) a1]
      by_cases y2 : T 1 (k : Int) = U 1 k
      · rw [if_pos y2]
        exact fin _ (by rw [e, show dmk T U (k : Int) = 0 from if_pos ⟨y, y2⟩, Int32.or_zero])
      · rw [if_neg y2, jv_e, lt_e]
        exact fin _ (by rw [e, show dmk T U (k : Int) = _ from if_neg fun z => y2 z.2])
    · rw [if_neg y, jv_e, lt_e]
      exact fin _ (by rw [e, show dmk T U (k : Int) = _ from if_neg fun z => y z.1])
  · obtain ⟨i1, i2⟩ := s
    obtain ⟨u1, u2⟩ := hI
    dsimp only at u1 u2
    subst u2
    unfold c176_4
    dsimp only
    rw [if_pos (leI_p rfl rfl (by omega)), jv_e]
end S9cp
