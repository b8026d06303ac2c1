/-! whole numbers out of mathematical ones, and the steps of a method's meaning -/
def iI (z : Int) : Int32 := Int32.ofInt z
theorem iI_toInt {z : Int} (h1 : -2147483648 ≤ z) (h2 : z < 2147483648) : (iI z).toInt = z := Int32.toInt_ofInt_of_le (by simpa using h1) (by simpa using h2)
theorem iI_eta (x : Int32) : iI x.toInt = x := Int32.ofInt_toInt x
theorem iI_ex (x : Int32) : ∃ z : Int, -2147483648 ≤ z ∧ z < 2147483648 ∧ x = iI z := ⟨x.toInt, by have := Int32.le_toInt x; simpa using this, by have := Int32.toInt_lt x; simpa using this, (iI_eta x).symm⟩
theorem iI_add (a b : Int) : iI a + iI b = iI (a + b) := (Int32.ofInt_add a b).symm
theorem iI_sub (a b : Int) : iI a - iI b = iI (a - b) := (Int32.ofInt_sub a b).symm
theorem iI_mul (a b : Int) : iI a * iI b = iI (a * b) := (Int32.ofInt_mul a b).symm
theorem iI_neg (a : Int) : -iI a = iI (-a) := (Int32.ofInt_neg a).symm
theorem iI_lt {a b : Int} (h1 : -2147483648 ≤ a) (h2 : a < 2147483648) (h3 : -2147483648 ≤ b) (h4 : b < 2147483648) : (iI a < iI b) = (a < b) := by
  rw [Int32.lt_iff_toInt_lt, iI_toInt h1 h2, iI_toInt h3 h4]
theorem iI_le {a b : Int} (h1 : -2147483648 ≤ a) (h2 : a < 2147483648) (h3 : -2147483648 ≤ b) (h4 : b < 2147483648) : (iI a ≤ iI b) = (a ≤ b) := by
  rw [Int32.le_iff_toInt_le, iI_toInt h1 h2, iI_toInt h3 h4]
theorem iI_eq {a b : Int} (h1 : -2147483648 ≤ a) (h2 : a < 2147483648) (h3 : -2147483648 ≤ b) (h4 : b < 2147483648) : (iI a = iI b) = (a = b) := by
  apply propext
  constructor
  · intro h
    have := congrArg Int32.toInt h
    rwa [iI_toInt h1 h2, iI_toInt h3 h4] at this
  · intro h
    rw [h]
theorem iI_nat {z : Int} (h1 : 0 ≤ z) (h2 : z < 2147483648) : (iI z).toNatClampNeg = z.toNat := by
  show (iI z).toInt.toNat = _
  rw [iI_toInt (by omega) h2]
theorem iI_ofNat (n : Nat) : nI n = iI n := by
  show Int32.ofNat n = Int32.ofInt n
  exact (Int32.ofInt_eq_ofNat (n := n)).symm
theorem iI_0 : (0 : Int32) = iI 0 := by decide +kernel
theorem iI_1 : (1 : Int32) = iI 1 := by decide +kernel
/-- an index of an array -/
theorem inAb_i {M : Mem} {a t n : Nat} {z : Int} (h : M.2.2.2[a]? = some (t, n)) (h0 : 0 ≤ z) (h1 : z < n) (h2 : z < 2147483648) : inAb M a t (iI z) = true := by
  refine inAb_iff.mpr ⟨n, h, fun q => ?_⟩
  rcases q with q | q
  · rw [iI_0, iI_lt (by omega) h2 (by decide) (by decide)] at q
    omega
  · rw [iI_nat h0 h2] at q
    omega
section ST
variable {M : Mem} {a n : Nat} {t : Nat × Nat} {j : Nat} {z : Int}
theorem gtI_e {k : Int32 → XA} (h : M.2.2.2[a]? = some t) : gtI t M (some a) j k = k (M.1 a j) := if_pos h
theorem gtL_e {k : Int64 → XA} (h : M.2.2.2[a]? = some t) : gtL t M (some a) j k = k (M.2.1 a j) := if_pos h
theorem gtP_e {k : Option Nat → XA} (h : M.2.2.2[a]? = some t) : gtP t M (some a) j k = k (M.2.2.1 a j) := if_pos h
theorem ptI_e {v : Int32} {k : Mem → XA} (h : M.2.2.2[a]? = some t) : ptI t M (some a) j v k = k (sI M a j v) := if_pos h
theorem ptZ_e {v : Int32} {k : Mem → XA} (h : M.2.2.2[a]? = some t) (hv : v = 0 ∨ v = 1) : ptZ t M (some a) j v k = k (sI M a j v) := if_pos ⟨h, hv⟩
theorem ptL_e {v : Int64} {k : Mem → XA} (h : M.2.2.2[a]? = some t) : ptL t M (some a) j v k = k (sL M a j v) := if_pos h
theorem ptP_e {v : Option Nat} {k : Mem → XA} (h : M.2.2.2[a]? = some t) : ptP t M (some a) j v k = k (sP M a j v) := if_pos h
theorem alI_e {u : Nat} {k : Int32 → XA} (h : M.2.2.2[a]? = some (u, n)) (h0 : 0 ≤ z) (h1 : z < n) (h2 : z < 2147483648) : alI u M (some a) (iI z) k = k (M.1 a z.toNat) := by
  unfold alI
  simp only [if_pos (Or.inl (inAb_i h h0 h1 h2) : inAb M a u (iI z) = true ∨ inAb M a (u + 100) (iI z) = true), iI_nat h0 h2]
theorem alI_o {u : Nat} {k : Int32 → XA} (h : M.2.2.2[a]? = some (u + 100, n)) (h0 : 0 ≤ z) (h1 : z < n) (h2 : z < 2147483648) : alI u M (some a) (iI z) k = k (M.1 a z.toNat) := by
  unfold alI
  simp only [if_pos (Or.inr (inAb_i h h0 h1 h2) : inAb M a u (iI z) = true ∨ inAb M a (u + 100) (iI z) = true), iI_nat h0 h2]
theorem alX_e {u : Nat} {k : Int32 → XA} (h : M.2.2.2[a]? = some (u, n)) (h0 : 0 ≤ z) (h1 : z < n) (h2 : z < 2147483648) : alX u M (some a) (iI z) k = k (M.1 a z.toNat) := by
  unfold alX
  simp only [if_pos (inAb_i h h0 h1 h2), iI_nat h0 h2]
theorem alL_e {k : Int64 → XA} (h : M.2.2.2[a]? = some (104, n)) (h0 : 0 ≤ z) (h1 : z < n) (h2 : z < 2147483648) : alL M (some a) (iI z) k = k (M.2.1 a z.toNat) := by
  unfold alL
  simp only [if_pos (inAb_i h h0 h1 h2), iI_nat h0 h2]
theorem alP_e {u : Nat} {k : Option Nat → XA} (h : M.2.2.2[a]? = some (u, n)) (h0 : 0 ≤ z) (h1 : z < n) (h2 : z < 2147483648) : alP u M (some a) (iI z) k = k (M.2.2.1 a z.toNat) := by
  unfold alP
  simp only [if_pos (inAb_i h h0 h1 h2), iI_nat h0 h2]
theorem asI_e {u : Nat} {v : Int32} {k : Mem → XA} (h : M.2.2.2[a]? = some (u, n)) (h0 : 0 ≤ z) (h1 : z < n) (h2 : z < 2147483648) : asI u M (some a) (iI z) v k = k (sI M a z.toNat v) := by
  unfold asI
  simp only [if_pos (inAb_i h h0 h1 h2), iI_nat h0 h2]
theorem asL_e {v : Int64} {k : Mem → XA} (h : M.2.2.2[a]? = some (104, n)) (h0 : 0 ≤ z) (h1 : z < n) (h2 : z < 2147483648) : asL M (some a) (iI z) v k = k (sL M a z.toNat v) := by
  unfold asL
  simp only [if_pos (inAb_i h h0 h1 h2), iI_nat h0 h2]
theorem asP_e {u : Nat} {v : Option Nat} {k : Mem → XA} (h : M.2.2.2[a]? = some (u, n)) (h0 : 0 ≤ z) (h1 : z < n) (h2 : z < 2147483648) (hv : asOK u M v = true) : asP u M (some a) (iI z) v k = k (sP M a z.toNat v) := by
  unfold asP
  simp only [if_pos (⟨inAb_i h h0 h1 h2, hv⟩ : inAb M a u (iI z) = true ∧ asOK u M v = true), iI_nat h0 h2]
theorem aln_e {u : Nat} {k : Int32 → XA} (h : M.2.2.2[a]? = some (u, n)) (hu : (100 ≤ u ∧ (u ≤ 104 ∨ 110 ≤ u ∧ u ≤ 114)) ∨ (200 ≤ u ∧ u ≠ 220)) : aln M (some a) k = k (iI n) := by
  unfold aln
  simp only [h, if_pos hu, iI_ofNat]
theorem nO_e {k : Option Nat → Mem → XA} : nO t M k = k (some M.2.2.2.length) (nw M t.1 t.2) := rfl
theorem nA_e {u : Nat} {k : Option Nat → Mem → XA} (h0 : 0 ≤ z) (h1 : z ≤ 100000) : nA u M (iI z) k = k (some M.2.2.2.length) (nw M u z.toNat) := by
  unfold nA
  have h2 : ¬ iI z < 0 := by
    rw [iI_0, iI_lt (by omega) (by omega) (by decide) (by decide)]
    omega
  rw [if_pos ⟨h2, by rw [iI_nat h0 (by omega)]; omega⟩, iI_nat h0 (by omega)]
theorem nAA_e {u ui : Nat} {y : Int} {k : Option Nat → Mem → XA} (h0 : 0 ≤ z) (h1 : z ≤ 100000) (h2 : 0 ≤ y) (h3 : y ≤ 100000) : nAA u ui M (iI z) (iI y) k = k (some M.2.2.2.length) (nwAA M u ui z.toNat y.toNat) := by
  unfold nAA
  have g1 : ¬ iI z < 0 := by
    rw [iI_0, iI_lt (by omega) (by omega) (by decide) (by decide)]
    omega
  have g2 : ¬ iI y < 0 := by
    rw [iI_0, iI_lt (by omega) (by omega) (by decide) (by decide)]
    omega
  rw [iI_nat h0 (by omega), iI_nat h2 (by omega), if_pos ⟨g1, g2, by omega, by omega⟩]
theorem vC_e {x : XA} (h : M.2.2.2[a]? = some t) : vC t M (some a) x = x := if_pos h
theorem vS_e {x : XA} (h : 3 ≤ a ∧ a < 33) : vS (some a) x = x := if_pos h
theorem cst_e {x : XA} (h : M.2.2.2[a]? = some t) : cst t M (some a) x = x := if_pos h
theorem cst_0 {x : XA} : cst t M none x = x := rfl
theorem nn_e {x : XA} : nn (some a) x = x := rfl
theorem cI_e {x : XA} {v : Int32} {M' : Mem} {k : Int32 → Mem → XA} (h : x = some (.int v, M')) : cI x k = k v M' := by rw [h]; rfl
theorem cL_e {x : XA} {v : Int64} {M' : Mem} {k : Int64 → Mem → XA} (h : x = some (.long v, M')) : cL x k = k v M' := by rw [h]; rfl
theorem cP_e {x : XA} {v : Option Nat} {M' : Mem} {k : Option Nat → Mem → XA} (h : x = some (va_rf v, M')) : cP x k = k v M' := by rw [h]; cases v <;> rfl
theorem cV_e {x : XA} {v : Value} {M' : Mem} {k : Mem → XA} (h : x = some (v, M')) : cV x k = k M' := by rw [h]; rfl
theorem gsV_e {k : Option Nat → XA} (h : 3 ≤ a ∧ a < 33) : gsV (some a) k = k (some (a + 30)) := if_pos h
theorem gsC_e {k : Int32 → XA} (h : 3 ≤ a ∧ a < 33) : gsC (some a) k = k 0 := if_pos h
theorem rtZ_e {v : Int32} (h : v = 0 ∨ v = 1) : rtZ v M = some (.int v, M) := if_pos h
theorem rtB_e {v : Int32} (h : v.toInt8.toInt32 = v) : rtB v M = some (.int v, M) := if_pos h
theorem rtC_e {v : Int32} (h : (v.toUInt32 % 65536).toInt32 = v) : rtC v M = some (.int v, M) := if_pos h
theorem pci_e {y : Int} {x : XA} (h0 : 0 ≤ z) (h1 : z < y) (h2 : y < 2147483648) : pci (iI z) (iI y) x = x := by
  unfold pci
  have g1 : ¬ iI z < 0 := by
    rw [iI_0, iI_lt (by omega) (by omega) (by decide) (by decide)]
    omega
  rw [if_pos ⟨g1, by rw [iI_lt (by omega) (by omega) (by omega) (by omega)]; exact h1⟩]
theorem lp_e {σ : Type} {body : σ → (σ → XA) → XA} {n : Nat} {s : σ} : lp body (n + 1) s = body s (lp body n) := rfl
theorem aI_e {v : Int32} {l : List Value} {k : Int32 → List Value → XA} : aI (.int v :: l) k = k v l := rfl
theorem aL_e {v : Int64} {l : List Value} {k : Int64 → List Value → XA} : aL (.long v :: l) k = k v l := rfl
theorem aR_e {v : Option Nat} {l : List Value} {k : Option Nat → List Value → XA} : aR (va_rf v :: l) k = k v l := by cases v <;> rfl
theorem aZ_e {x : XA} : aZ [] x = x := rfl
theorem jn_e {σ : Type} {f : σ → XA} {k : (σ → XA) → XA} : jn f k = k f := rfl
theorem lt_e {α : Type} {e : α} {k : α → XA} : lt e k = k e := rfl
theorem k_sI {v : Int32} : (sI M a j v).2.2.2 = M.2.2.2 := rfl
theorem k_sL {v : Int64} : (sL M a j v).2.2.2 = M.2.2.2 := rfl
theorem k_sP {v : Option Nat} : (sP M a j v).2.2.2 = M.2.2.2 := rfl
theorem k_nw {u : Nat} : (nw M u n).2.2.2 = M.2.2.2 ++ [(u, n)] := rfl
end ST
