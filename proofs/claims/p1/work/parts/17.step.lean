/-! steps on a memory that is known: every value by its number -/
def jv {σ : Type} (f : σ → XA) (s : σ) : XA := f s
theorem jn_v {σ : Type} {f : σ → XA} {k : (σ → XA) → XA} : jn f k = k (jv f) := rfl
theorem jv_e {σ : Type} {f : σ → XA} {s : σ} : jv f s = f s := rfl
section ST17
variable {L : Nat} {xs : Nat → Int32} {l : List Op} {a j : Nat} {t : Nat × Nat}
theorem gtI_c (z : Int) {k : Int32 → XA} (h : kA l a = some t) (hv : vOK l = true) (ha : 64 ≤ a) (hz : iO l a j = z) : gtI t (app (Minit L xs) l) (some a) j k = k (iI z) := by
  rw [gtI_e (kA_ok h), app_i hv a j ha, hz]
theorem gtL_c (z : Int) {k : Int64 → XA} (h : kA l a = some t) (hv : vOK l = true) (hz : lO l a j = Int64.ofInt z) : gtL t (app (Minit L xs) l) (some a) j k = k (Int64.ofInt z) := by
  rw [gtL_e (kA_ok h), app_l hv a j, hz]
theorem gtP_c (v : Option Nat) {k : Option Nat → XA} (h : kA l a = some t) (hv : vOK l = true) (hz : pO l a j = v) : gtP t (app (Minit L xs) l) (some a) j k = k v := by
  rw [gtP_e (kA_ok h), app_p hv a j, hz]
theorem alI_c (w : Int) {z : Int} {n u : Nat} {i : Int32} {k : Int32 → XA} (h : kA l a = some (u, n)) (hv : vOK l = true) (ha : 64 ≤ a) (hi : i = iI z) (h0 : 0 ≤ z) (h1 : z < n) (h2 : z < 2147483648) (hw : iO l a z.toNat = w) : alI u (app (Minit L xs) l) (some a) i k = k (iI w) := by
  rw [hi, alI_e (kA_ok h) h0 h1 h2, app_i hv a _ ha, hw]
theorem alX_c (w : Int) {z : Int} {n u : Nat} {i : Int32} {k : Int32 → XA} (h : kA l a = some (u, n)) (hv : vOK l = true) (ha : 64 ≤ a) (hi : i = iI z) (h0 : 0 ≤ z) (h1 : z < n) (h2 : z < 2147483648) (hw : iO l a z.toNat = w) : alX u (app (Minit L xs) l) (some a) i k = k (iI w) := by
  rw [hi, alX_e (kA_ok h) h0 h1 h2, app_i hv a _ ha, hw]
theorem alL_c (w : Int) {z : Int} {n : Nat} {i : Int32} {k : Int64 → XA} (h : kA l a = some (104, n)) (hv : vOK l = true) (hi : i = iI z) (h0 : 0 ≤ z) (h1 : z < n) (h2 : z < 2147483648) (hw : lO l a z.toNat = Int64.ofInt w) : alL (app (Minit L xs) l) (some a) i k = k (Int64.ofInt w) := by
  rw [hi, alL_e (kA_ok h) h0 h1 h2, app_l hv a _, hw]
theorem alP_c (w : Option Nat) {z : Int} {n u : Nat} {i : Int32} {k : Option Nat → XA} (h : kA l a = some (u, n)) (hv : vOK l = true) (hi : i = iI z) (h0 : 0 ≤ z) (h1 : z < n) (h2 : z < 2147483648) (hw : pO l a z.toNat = w) : alP u (app (Minit L xs) l) (some a) i k = k w := by
  rw [hi, alP_e (kA_ok h) h0 h1 h2, app_p hv a _, hw]
theorem aln_l {n u : Nat} {k : Int32 → XA} (h : kA l a = some (u, n)) (hu : (100 ≤ u ∧ (u ≤ 104 ∨ 110 ≤ u ∧ u ≤ 114)) ∨ (200 ≤ u ∧ u ≠ 220)) : aln (app (Minit L xs) l) (some a) k = k (iI n) := aln_e (kA_ok h) hu
theorem ptI_c (z : Int) {v : Int32} {k : Mem → XA} (h : kA l a = some t) (hv : v = iI z) : ptI t (app (Minit L xs) l) (some a) j v k = k (app (Minit L xs) ((1, a, j, z) :: l)) := by
  rw [hv, ptI_l h]
theorem ptZ_c (z : Int) {v : Int32} {k : Mem → XA} (h : kA l a = some t) (hv : v = iI z) (hz : z = 0 ∨ z = 1) : ptZ t (app (Minit L xs) l) (some a) j v k = k (app (Minit L xs) ((1, a, j, z) :: l)) := by
  rw [hv, ptZ_l h hz]
theorem ptL_c (z : Int) {v : Int64} {k : Mem → XA} (h : kA l a = some t) (hv : v = Int64.ofInt z) : ptL t (app (Minit L xs) l) (some a) j v k = k (app (Minit L xs) ((2, a, j, z) :: l)) := by
  rw [hv, ptL_e (kA_ok h)]
  rfl
theorem asI_c {z y : Int} {n u : Nat} {i v : Int32} {k : Mem → XA} (h : kA l a = some (u, n)) (hi : i = iI z) (hy : v = iI y) (h0 : 0 ≤ z) (h1 : z < n) (h2 : z < 2147483648) : asI u (app (Minit L xs) l) (some a) i v k = k (app (Minit L xs) ((1, a, z.toNat, y) :: l)) := by
  rw [hi, hy, asI_l h h0 h1 h2]
theorem asL_c {z y : Int} {n : Nat} {i : Int32} {v : Int64} {k : Mem → XA} (h : kA l a = some (104, n)) (hi : i = iI z) (hy : v = Int64.ofInt y) (h0 : 0 ≤ z) (h1 : z < n) (h2 : z < 2147483648) : asL (app (Minit L xs) l) (some a) i v k = k (app (Minit L xs) ((2, a, z.toNat, y) :: l)) := by
  rw [hi, hy, asL_l h h0 h1 h2]
theorem asP_c {z : Int} {b n u : Nat} {s : Nat × Nat} {i : Int32} {k : Mem → XA} (h : kA l a = some (u, n)) (hi : i = iI z) (h0 : 0 ≤ z) (h1 : z < n) (h2 : z < 2147483648) (hb : kA l b = some s) (hs : u = 110 ∧ s.1 < 14 ∨ u = 111 ∧ s.1 = 6 ∨ u = 112 ∧ s.1 = 10) : asP u (app (Minit L xs) l) (some a) i (some b) k = k (app (Minit L xs) ((3, a, z.toNat, (b : Int)) :: l)) := by
  rw [hi, asP_e (kA_ok h) h0 h1 h2]
  · rfl
  · unfold asOK
    simp only [kA_ok hb]
    rcases hs with ⟨rfl, q⟩ | ⟨rfl, q⟩ | ⟨rfl, q⟩
    · simp [q]
    · simp [q]
    · simp [q]
theorem aln_2 {k : Int32 → XA} (hv : vOK l = true) : aln (app (Minit L xs) l) (some 2) k = k (iI 0) :=
  aln_e (u := 210) (n := 0) ((app_ok (L := L) (xs := xs) hv).1 2 (by decide)) (Or.inr ⟨by decide, by decide⟩)
theorem nA_d (n : Nat) {z : Int} {u : Nat} {v : Int32} {k : Option Nat → Mem → XA} (h : nl l = n) (hv : v = iI z) (h0 : 0 ≤ z) (h1 : z ≤ 100000) : nA u (app (Minit L xs) l) v k = k (some n) (app (Minit L xs) ((0, u, z.toNat, 0) :: l)) := by
  rw [hv, nA_c n h h0 h1]
theorem nAA_d (n : Nat) {z y : Int} {u ui : Nat} {v w : Int32} {k : Option Nat → Mem → XA} (h : nl l = n) (hv : v = iI z) (hw : w = iI y) (hu : u = 113 ∧ ui = 100 ∨ u = 114 ∧ ui = 104) (h0 : 0 ≤ z) (h1 : z ≤ 100000) (h2 : 0 ≤ y) (h3 : y ≤ 100000) : nAA u ui (app (Minit L xs) l) v w k = k (some n) (app (Minit L xs) ((4, u, z.toNat, y) :: l)) := by
  rw [hv, hw, nAA_c n h hu h0 h1 h2 h3]
theorem cst_l {x : XA} (h : kA l a = some t) : cst t (app (Minit L xs) l) (some a) x = x := cst_e (kA_ok h)
theorem pci_c {z y : Int} {v w : Int32} {x : XA} (hv : v = iI z) (hw : w = iI y) (h0 : 0 ≤ z) (h1 : z < y) (h2 : y < 2147483648) : pci v w x = x := by
  rw [hv, hw, pci_e h0 h1 h2]
end ST17
