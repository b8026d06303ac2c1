/-! what is the same in both parsers ahead of a FAULT, and what is left behind one -/
def W_rx : List (Nat × Nat) := [(160, 36), (160, 37), (160, 38), (160, 39), (160, 40), (160, 41), (160, 42), (160, 43), (160, 50), (160, 51), (160, 53), (160, 62), (195, 9999), (196, 9999), (197, 9999), (198, 9999), (199, 9999), (200, 9999), (201, 9999), (202, 9999), (203, 9999), (204, 9999), (205, 9999), (206, 9999), (207, 9999)]
theorem W_rx_p : ∀ q, q ∈ W_rx → q ∈ W_rp := by decide
theorem inW_hi {L : List (Nat × Nat)} {a : Nat} (h : ∀ q, q ∈ L → q.1 < 259) (ha : 259 ≤ a) (j : Nat) : inW L a j = false := inW_n (fun q hq e => by have := h q hq; omega) j
/-- what stays all the time; ua: the class's list of units, which has ut + 1 -/
def Cx (T : Int → Int) (n m : Int) (kd pl : Int → Int) (tx : Int → Int64) (ua : Nat) (ut mu : Int) (Mc Mr : Mem) : Prop := CT Mc ∧ RT Mr ∧ TkA Mc m kd pl tx ∧ Tp 160 1 161 T n Mr ∧ (∀ i, 0 ≤ i → i < 28 → Mr.2.1 194 i.toNat = WR i) ∧ (259 ≤ ua ∧ Mc.2.2.1 65 1 = some ua ∧ Mc.2.2.2[ua]? = some (0, 3) ∧ Mc.1 ua 2 = iI (ut + 1)) ∧ Mr.1 160 49 = iI ut ∧ Mr.1 160 48 = iI mu ∧ (0 ≤ ut ∧ ut ≤ 7 ∧ 0 ≤ mu ∧ mu ≤ 1)
def SC (Mc : Mem) (kd : Int → Int) (i e s uc : Int) : Prop := Mc.1 65 12 = iI i ∧ Mc.1 65 13 = iI (kd i) ∧ Mc.1 65 10 = iI 0 ∧ Mc.1 65 9 = iI e ∧ Mc.1 65 16 = iI s ∧ Mc.1 65 19 = iI uc
def SR (Mr : Mem) (kd pl E : Int → Int) (tx : Int → Int64) (i e s u dp : Int) : Prop := Mr.1 160 36 = iI (kr (kd i)) ∧ Mr.1 160 37 = iI (pl i) ∧ Mr.1 160 38 = iI (E i) ∧ Mr.1 160 41 = iI 0 ∧ Mr.1 160 43 = iI e ∧ Mr.1 160 51 = iI s ∧ Mr.1 160 53 = iI u ∧ Mr.1 160 50 = iI dp ∧ NmR Mr (kd i) (tx i)
/-- uses: U 0 the class's place of one, 1 what for, 2 its code, 3 and 4 where it stands, 5 arguments, 6 its unit; the class's 7 what for, 8 code, 9 arguments, 10 place of the unit -/
def CU (M : Mem) (U : Nat → Int → Int) (X : Nat → Int → Int64) (u uc : Int) : Prop := (∀ j, 0 ≤ j → j < u → (0 ≤ U 0 j ∧ U 0 j < uc) ∧ M.1 78 (U 0 j).toNat = iI (U 7 j) ∧ M.1 79 (U 0 j).toNat = iI (U 8 j) ∧ M.1 80 (U 0 j).toNat = iI (U 9 j) ∧ M.1 81 (U 0 j).toNat = iI (U 6 j) ∧ M.1 82 (U 0 j).toNat = iI (U 10 j) ∧ M.1 83 (U 0 j).toNat = iI (U 4 j) ∧ M.2.1 85 (U 0 j).toNat = X 0 j ∧ M.2.1 86 (U 0 j).toNat = X 1 j) ∧ (∀ a b, 0 ≤ a → a < b → b < u → U 0 a < U 0 b) ∧ ∀ x, 0 ≤ x → x < uc → (∀ j, 0 ≤ j → j < u → U 0 j ≠ x) → M.1 78 x.toNat = iI 0
def RU (M : Mem) (U : Nat → Int → Int) (X : Nat → Int → Int64) (u : Int) : Prop := ∀ j, 0 ≤ j → j < u → M.1 200 j.toNat = iI (U 2 j) ∧ M.1 201 j.toNat = iI (U 1 j) ∧ M.2.1 202 j.toNat = X 0 j ∧ M.1 203 j.toNat = iI (U 3 j) ∧ M.2.1 204 j.toNat = X 1 j ∧ M.1 205 j.toNat = iI (U 4 j) ∧ M.1 206 j.toNat = iI (U 5 j) ∧ M.1 207 j.toNat = iI (U 6 j)
/-- all rows -/
def RW (Mc Mr : Mem) (G U : Nat → Int → Int) (Hl : Int → Int64) (X : Nat → Int → Int64) (e s u uc : Int) : Prop := CA1 Mc G e ∧ RA1 Mr G e ∧ LA 76 Mc Hl s ∧ LA 199 Mr Hl s ∧ CU Mc U X u uc ∧ RU Mr U X u
def BD (m i e s u uc dp : Int) : Prop := 0 ≤ i ∧ i < m ∧ m ≤ 1400 ∧ 0 ≤ e ∧ e ≤ i ∧ 0 ≤ s ∧ s ≤ 10 ∧ 0 ≤ u ∧ u ≤ uc ∧ uc ≤ i ∧ 0 ≤ dp ∧ dp ≤ 20
def FTc (m F P : Int) (M : Mem) : Prop := ∃ i sz sn uc : Int, M.1 65 13 = iI 2 ∧ M.1 65 10 = iI F ∧ M.1 65 11 = iI P ∧ M.1 65 12 = iI i ∧ M.1 65 9 = iI sz ∧ M.1 65 16 = iI sn ∧ M.1 65 19 = iI uc ∧ (0 ≤ i ∧ i < m ∧ m ≤ 3001 ∧ 1 ≤ F ∧ F ≤ 6 ∧ 0 ≤ sz ∧ sz ≤ 4096 ∧ 0 ≤ sn ∧ sn ≤ 10 ∧ 0 ≤ uc ∧ uc ≤ 1500)
def FTr (b F P : Int) (M : Mem) : Prop := ∃ em sn us mu ut : Int, M.1 160 41 = iI F ∧ M.1 160 42 = iI P ∧ M.1 160 43 = iI em ∧ M.1 160 51 = iI sn ∧ M.1 160 53 = iI us ∧ M.1 160 48 = iI mu ∧ M.1 160 49 = iI ut ∧ (0 ≤ em ∧ em ≤ b ∧ 0 ≤ mu ∧ mu ≤ 1 ∧ 0 ≤ ut ∧ ut ≤ 8)
/-- the class's texts of uses from before -/
def KU (c : Int) (M M2 : Mem) : Prop := M2.1 65 14 = M.1 65 14 ∧ (∀ x : Int, 0 ≤ x → x < c → M2.2.1 85 x.toNat = M.2.1 85 x.toNat ∧ M2.2.1 86 x.toNat = M.2.1 86 x.toNat) ∧ ∀ j : Nat, M2.1 75 j = M.1 75 j
/-- both went on alike, to token i' -/
def PK (dl ut mu m : Int) (kd pl E : Int → Int) (tx : Int → Int64) (Mc Mr : Mem) (G U : Nat → Int → Int) (Hl : Int → Int64) (X : Nat → Int → Int64) (i e s u uc dp : Int) (Mc' Mr' : Mem) (i' : Int) : Prop := ∃ (e' u' uc' : Int) (G' U' : Nat → Int → Int) (X' : Nat → Int → Int64), Fr W_cp Mc Mc' ∧ Fr W_rx Mr Mr' ∧ SC Mc' kd i' e' s uc' ∧ SR Mr' kd pl E tx i' e' s u' dp ∧ RW Mc' Mr' G' U' Hl X' e' s u' uc' ∧ BD m i' e' s u' uc' dp ∧ (i < i' ∧ e ≤ e' ∧ e' - e ≤ i' - i ∧ u ≤ u' ∧ uc' - uc ≤ i' - i ∧ uc ≤ uc') ∧ Ag G G' e ∧ Ag U U' u ∧ AgL X X' u ∧ Tye G' e e' s dl ∧ DU ut mu uc G' U' X' e e' u u' ∧ KU uc Mc Mc'
/-- behind a pair of parts of a text: both went on alike, or both found the FAULT -/
def PO (dl ut mu m : Int) (kd pl E : Int → Int) (tx : Int → Int64) (Mc Mr : Mem) (G U : Nat → Int → Int) (Hl : Int → Int64) (X : Nat → Int → Int64) (i e s u uc dp b : Int) (Mc' Mr' : Mem) : Prop := (∃ i' : Int, PK dl ut mu m kd pl E tx Mc Mr G U Hl X i e s u uc dp Mc' Mr' i') ∨ ∃ F P : Int, Fr W_cp Mc Mc' ∧ Fr W_rp Mr Mr' ∧ FTc m F P Mc' ∧ FTr b F P Mr'
/-- a pair: a method of the class (with its level, if it has one) and one of the reference -/
def Pair (D : Nat) (qc : Nat) (lv : List Int) (qr : Nat) (off : Int) (dp : Int) : Prop := ∀ (d d' : Nat), D ≤ d → D ≤ d' → ∀ (T : Int → Int) (n m : Int) (kd pl E : Int → Int) (tx : Int → Int64) (ua : Nat) (ut mu : Int) (Mc Mr : Mem) (G U : Nat → Int → Int) (Hl : Int → Int64) (X : Nat → Int → Int64) (i e s u uc : Int) (vs : List Value), TkS T n m kd pl E tx → Cx T n m kd pl tx ua ut mu Mc Mr → SC Mc kd i e s uc → SR Mr kd pl E tx i e s u dp → RW Mc Mr G U Hl X e s u uc → BD m i e s u uc dp → vs = (lv ++ [dp]).map (fun z => Value.int (iI z)) → Rs (runX d qc (va_rf (some 65) :: vs) Mc) (runX d' qr [va_rf (some 160)] Mr) (fun _ Mc' _ Mr' => PO 1 ut mu m kd pl E tx Mc Mr G U Hl X i e s u uc dp (2500 - 30 * dp - off) Mc' Mr')
/-- a pair that begins at a token of kind K -/
def PairK (K : Int) (D : Nat) (qc : Nat) (lv : List Int) (qr : Nat) (off : Int) (dp : Int) : Prop := ∀ (d d' : Nat), D ≤ d → D ≤ d' → ∀ (T : Int → Int) (n m : Int) (kd pl E : Int → Int) (tx : Int → Int64) (ua : Nat) (ut mu : Int) (Mc Mr : Mem) (G U : Nat → Int → Int) (Hl : Int → Int64) (X : Nat → Int → Int64) (i e s u uc : Int) (vs : List Value), TkS T n m kd pl E tx → Cx T n m kd pl tx ua ut mu Mc Mr → SC Mc kd i e s uc → SR Mr kd pl E tx i e s u dp → RW Mc Mr G U Hl X e s u uc → BD m i e s u uc dp → kd i = K → vs = (lv ++ [dp]).map (fun z => Value.int (iI z)) → Rs (runX d qc (va_rf (some 65) :: vs) Mc) (runX d' qr [va_rf (some 160)] Mr) (fun _ Mc' _ Mr' => PO 1 ut mu m kd pl E tx Mc Mr G U Hl X i e s u uc dp (2500 - 30 * dp - off) Mc' Mr')
section S36
variable {T : Int → Int} {n m ut mu i e s u uc dp b q : Int} {kd pl E : Int → Int} {tx : Int → Int64} {ua : Nat} {Mc Mr M M2 Mc' Mr' : Mem} {G G' G2 U U' : Nat → Int → Int} {Hl : Int → Int64} {X X' X2 : Nat → Int → Int64} {W W' : List (Nat × Nat)}
theorem Cx.fr (h : Cx T n m kd pl tx ua ut mu Mc Mr) (f : Fr W_cp Mc Mc') (g : Fr W_rx Mr Mr') : Cx T n m kd pl tx ua ut mu Mc' Mr' := by
  obtain ⟨h1, h2, h3, h4, h5, ⟨h6, h7, h8, h9⟩, h10, h11, h12⟩ := h
  exact ⟨h1.fr f, h2.fr g, h3.fr f (by decide), h4.fr g (by decide) (by decide), fun i a b => (g.lc _ (by decide) _).trans (h5 i a b), ⟨h6, by rw [f.p]; exact h7, by rw [f.k]; exact h8, (f.i _ _ (inW_hi (by decide) h6 _)).trans h9⟩, (g.i _ _ (by decide)).trans h10, (g.i _ _ (by decide)).trans h11, h12⟩
theorem CU.fr (h : CU M U X u uc) (f : Fr W M M2) (w : ∀ z, z ∈ W → z.1 ≠ 78 ∧ z.1 ≠ 79 ∧ z.1 ≠ 80 ∧ z.1 ≠ 81 ∧ z.1 ≠ 82 ∧ z.1 ≠ 83 ∧ z.1 ≠ 85 ∧ z.1 ≠ 86) : CU M2 U X u uc := by
  obtain ⟨h1, h2, h3⟩ := h
  refine ⟨fun j p q => ?_, h2, fun x p q r => (f.c _ (fun z y => (w z y).1) _).trans (h3 x p q r)⟩
  obtain ⟨a, a1, a2, a3, a4, a5, a6, a7, a8⟩ := h1 j p q
  exact ⟨a, (f.c _ (fun z y => (w z y).1) _).trans a1, (f.c _ (fun z y => (w z y).2.1) _).trans a2, (f.c _ (fun z y => (w z y).2.2.1) _).trans a3, (f.c _ (fun z y => (w z y).2.2.2.1) _).trans a4, (f.c _ (fun z y => (w z y).2.2.2.2.1) _).trans a5, (f.c _ (fun z y => (w z y).2.2.2.2.2.1) _).trans a6, (f.lc _ (fun z y => (w z y).2.2.2.2.2.2.1) _).trans a7, (f.lc _ (fun z y => (w z y).2.2.2.2.2.2.2) _).trans a8⟩
theorem RU.fr (h : RU M U X u) (f : Fr W M M2) (w : ∀ z, z ∈ W → z.1 < 200 ∨ 207 < z.1) : RU M2 U X u := by
  intro j p q
  obtain ⟨a1, a2, a3, a4, a5, a6, a7, a8⟩ := h j p q
  have k : ∀ c, 200 ≤ c → c ≤ 207 → ∀ z, z ∈ W → z.1 ≠ c := fun c x y z hz => by have := w z hz; omega
  exact ⟨(f.c _ (k 200 (by omega) (by omega)) _).trans a1, (f.c _ (k 201 (by omega) (by omega)) _).trans a2, (f.lc _ (k 202 (by omega) (by omega)) _).trans a3, (f.c _ (k 203 (by omega) (by omega)) _).trans a4, (f.lc _ (k 204 (by omega) (by omega)) _).trans a5, (f.c _ (k 205 (by omega) (by omega)) _).trans a6, (f.c _ (k 206 (by omega) (by omega)) _).trans a7, (f.c _ (k 207 (by omega) (by omega)) _).trans a8⟩
theorem inW_14 (w : ∀ z, z ∈ W → z ≠ (65, 14) ∧ z ≠ (65, 9999)) : inW W 65 14 = false := by
  unfold inW
  rw [List.any_eq_false]
  intro q hq hp
  rw [Bool.and_eq_true, Bool.or_eq_true, beq_iff_eq, beq_iff_eq, beq_iff_eq] at hp
  obtain ⟨a, b⟩ := q
  obtain ⟨h1, h2 | h2⟩ := hp
  · exact (w _ hq).2 (by rw [show a = 65 from h1, show b = 9999 from h2])
  · exact (w _ hq).1 (by rw [show a = 65 from h1, show b = 14 from h2])
theorem KU.r : KU uc M M := ⟨rfl, fun _ _ _ => ⟨rfl, rfl⟩, fun _ => rfl⟩
theorem KU.fr (h : KU uc Mr M) (f : Fr W M M2) (w : ∀ z, z ∈ W → z.1 ≠ 85 ∧ z.1 ≠ 86 ∧ z.1 ≠ 75 ∧ z ≠ (65, 14) ∧ z ≠ (65, 9999)) : KU uc Mr M2 := ⟨(f.i _ _ (inW_14 fun z y => (w z y).2.2.2)).trans h.1, fun x p q => ⟨(f.lc _ (fun z y => (w z y).1) _).trans (h.2.1 x p q).1, (f.lc _ (fun z y => (w z y).2.1) _).trans (h.2.1 x p q).2⟩, fun j => (f.c _ (fun z y => (w z y).2.2.1) _).trans (h.2.2 j)⟩
theorem KU.t (h : KU uc Mr M) (k : KU b M M2) (hb : uc ≤ b) : KU uc Mr M2 := ⟨k.1.trans h.1, fun x p q => ⟨(k.2.1 x p (by omega)).1.trans (h.2.1 x p q).1, (k.2.1 x p (by omega)).2.trans (h.2.1 x p q).2⟩, fun j => (k.2.2 j).trans (h.2.2 j)⟩
theorem NmR.fr {k : Int} {x : Int64} (h : NmR M k x) (f : Fr W M M2) (w1 : inW W 160 39 = false) (w2 : inW W 160 40 = false) : NmR M2 k x := ⟨fun c => (f.l _ _ w1).trans (h.1 c), fun c => (f.i _ _ w2).trans (h.2 c)⟩
theorem Pair.le {D D' qc qr : Nat} {lv : List Int} {off : Int} (h : Pair D qc lv qr off dp) (hD : D ≤ D') : Pair D' qc lv qr off dp := fun d d' a b => h d d' (by omega) (by omega)
theorem PairK.le {K : Int} {D D' qc qr : Nat} {lv : List Int} {off : Int} (h : PairK K D qc lv qr off dp) (hD : D ≤ D') : PairK K D' qc lv qr off dp := fun d d' a b => h d d' (by omega) (by omega)
theorem vs1 {v : Int32} {a : Int} (h : v = iI a) : [Value.int v] = ([] ++ [a]).map (fun z => Value.int (iI z)) := by rw [h]; rfl
theorem vs2 {v w : Int32} {a c : Int} (h : v = iI a) (k : w = iI c) : [Value.int v, Value.int w] = ([a] ++ [c]).map (fun z => Value.int (iI z)) := by rw [h, k]; rfl
end S36
def W_c0 : List (Nat × Nat) := [(65, 9), (65, 10), (65, 11), (65, 12), (65, 13), (65, 16), (65, 19)]
def W_r0 : List (Nat × Nat) := [(160, 36), (160, 37), (160, 38), (160, 41), (160, 42), (160, 43), (160, 50), (160, 51), (160, 53), (160, 62)]
theorem lv_0 {d : Nat} {M : Mem} (hd : 1 ≤ d) {v : Int32} {o0 : Int} (hv : v = iI o0) (h : -2147483648 ≤ o0 ∧ o0 ≤ 2147483647 ∧ o0 ≠ 226) : Rt (runX d 102 [.int (v)] M) (fun v M2 => ∃ r, v = .int (iI r) ∧ M2 = M ∧ r ≠ 0 ∧ (-2 ≤ r ∧ r ≤ 5)) := by
  obtain ⟨d, rfl⟩ : ∃ e, d = e + 1 := ⟨d - 1, by omega⟩
  rw [r102]; unfold b102; rw [aI_e, aZ_e]; unfold c102
  refine rs1 (swI_c) ?_
  by_cases c1 : o0 = 37
  · refine rs1 (if_pos (eqI_p (hv) (li_37) (by omega))) ?_
    exact Rt.okI (z := 5) (li_5) ⟨5, rfl, rfl, by omega, by omega⟩
  refine rs1 (if_neg (eqI_n (hv) (li_37) (by omega))) ?_
  refine rs1 (swI_c) ?_
  by_cases c2 : o0 = 42
  · refine rs1 (if_pos (eqI_p (hv) (li_42) (by omega))) ?_
    exact Rt.okI (z := 5) (li_5) ⟨5, rfl, rfl, by omega, by omega⟩
  refine rs1 (if_neg (eqI_n (hv) (li_42) (by omega))) ?_
  refine rs1 (swI_c) ?_
  by_cases c3 : o0 = 43
  · refine rs1 (if_pos (eqI_p (hv) (li_43) (by omega))) ?_
    exact Rt.okI (z := 4) (li_4) ⟨4, rfl, rfl, by omega, by omega⟩
  refine rs1 (if_neg (eqI_n (hv) (li_43) (by omega))) ?_
  refine rs1 (swI_c) ?_
  by_cases c4 : o0 = 45
  · refine rs1 (if_pos (eqI_p (hv) (li_45) (by omega))) ?_
    exact Rt.okI (z := 4) (li_4) ⟨4, rfl, rfl, by omega, by omega⟩
  refine rs1 (if_neg (eqI_n (hv) (li_45) (by omega))) ?_
  refine rs1 (swI_c) ?_
  by_cases c5 : o0 = 47
  · refine rs1 (if_pos (eqI_p (hv) (li_47) (by omega))) ?_
    exact Rt.okI (z := 5) (li_5) ⟨5, rfl, rfl, by omega, by omega⟩
  refine rs1 (if_neg (eqI_n (hv) (li_47) (by omega))) ?_
  refine rs1 (swI_c) ?_
  by_cases c6 : o0 = 60
  · refine rs1 (if_pos (eqI_p (hv) (li_60) (by omega))) ?_
    exact Rt.okI (z := 3) (li_3) ⟨3, rfl, rfl, by omega, by omega⟩
  refine rs1 (if_neg (eqI_n (hv) (li_60) (by omega))) ?_
  refine rs1 (swI_c) ?_
  by_cases c7 : o0 = 128
  · refine rs1 (if_pos (eqI_p (hv) (li_128) (by omega))) ?_
    exact Rt.okI (z := 3) (li_3) ⟨3, rfl, rfl, by omega, by omega⟩
  refine rs1 (if_neg (eqI_n (hv) (li_128) (by omega))) ?_
  refine rs1 (swI_c) ?_
  by_cases c8 : o0 = 129
  · refine rs1 (if_pos (eqI_p (hv) (li_129) (by omega))) ?_
    exact Rt.okI (z := 3) (li_3) ⟨3, rfl, rfl, by omega, by omega⟩
  refine rs1 (if_neg (eqI_n (hv) (li_129) (by omega))) ?_
  refine rs1 (swI_c) ?_
  by_cases c9 : o0 = 130
  · refine rs1 (if_pos (eqI_p (hv) (li_130) (by omega))) ?_
    exact Rt.okI (z := 3) (li_3) ⟨3, rfl, rfl, by omega, by omega⟩
  refine rs1 (if_neg (eqI_n (hv) (li_130) (by omega))) ?_
  refine rs1 (swI_c) ?_
  by_cases c10 : o0 = 225
  · refine rs1 (if_pos (eqI_p (hv) (li_225) (by omega))) ?_
    exact Rt.okI (z := 1) (li_1) ⟨1, rfl, rfl, by omega, by omega⟩
  refine rs1 (if_neg (eqI_n (hv) (li_225) (by omega))) ?_
  refine rs1 (swI_c) ?_
  refine rs1 (if_neg (eqI_n (hv) (li_226) (by omega))) ?_
  refine rs1 (swI_n) ?_
  exact Rt.okI (z := (-2)) (li_m2) ⟨(-2), rfl, rfl, by omega, by omega⟩
theorem lv_1 {d : Nat} {M : Mem} (hd : 1 ≤ d) {v : Int32} {o0 : Int} (hv : v = iI o0) (h : -2147483648 ≤ o0 ∧ o0 ≤ 2147483647 ∧ o0 ≠ 225) : Rt (runX d 102 [.int (v)] M) (fun v M2 => ∃ r, v = .int (iI r) ∧ M2 = M ∧ r ≠ 1 ∧ (-2 ≤ r ∧ r ≤ 5)) := by
  obtain ⟨d, rfl⟩ : ∃ e, d = e + 1 := ⟨d - 1, by omega⟩
  rw [r102]; unfold b102; rw [aI_e, aZ_e]; unfold c102
  refine rs1 (swI_c) ?_
  by_cases c1 : o0 = 37
  · refine rs1 (if_pos (eqI_p (hv) (li_37) (by omega))) ?_
    exact Rt.okI (z := 5) (li_5) ⟨5, rfl, rfl, by omega, by omega⟩
  refine rs1 (if_neg (eqI_n (hv) (li_37) (by omega))) ?_
  refine rs1 (swI_c) ?_
  by_cases c2 : o0 = 42
  · refine rs1 (if_pos (eqI_p (hv) (li_42) (by omega))) ?_
    exact Rt.okI (z := 5) (li_5) ⟨5, rfl, rfl, by omega, by omega⟩
  refine rs1 (if_neg (eqI_n (hv) (li_42) (by omega))) ?_
  refine rs1 (swI_c) ?_
  by_cases c3 : o0 = 43
  · refine rs1 (if_pos (eqI_p (hv) (li_43) (by omega))) ?_
    exact Rt.okI (z := 4) (li_4) ⟨4, rfl, rfl, by omega, by omega⟩
  refine rs1 (if_neg (eqI_n (hv) (li_43) (by omega))) ?_
  refine rs1 (swI_c) ?_
  by_cases c4 : o0 = 45
  · refine rs1 (if_pos (eqI_p (hv) (li_45) (by omega))) ?_
    exact Rt.okI (z := 4) (li_4) ⟨4, rfl, rfl, by omega, by omega⟩
  refine rs1 (if_neg (eqI_n (hv) (li_45) (by omega))) ?_
  refine rs1 (swI_c) ?_
  by_cases c5 : o0 = 47
  · refine rs1 (if_pos (eqI_p (hv) (li_47) (by omega))) ?_
    exact Rt.okI (z := 5) (li_5) ⟨5, rfl, rfl, by omega, by omega⟩
  refine rs1 (if_neg (eqI_n (hv) (li_47) (by omega))) ?_
  refine rs1 (swI_c) ?_
  by_cases c6 : o0 = 60
  · refine rs1 (if_pos (eqI_p (hv) (li_60) (by omega))) ?_
    exact Rt.okI (z := 3) (li_3) ⟨3, rfl, rfl, by omega, by omega⟩
  refine rs1 (if_neg (eqI_n (hv) (li_60) (by omega))) ?_
  refine rs1 (swI_c) ?_
  by_cases c7 : o0 = 128
  · refine rs1 (if_pos (eqI_p (hv) (li_128) (by omega))) ?_
    exact Rt.okI (z := 3) (li_3) ⟨3, rfl, rfl, by omega, by omega⟩
  refine rs1 (if_neg (eqI_n (hv) (li_128) (by omega))) ?_
  refine rs1 (swI_c) ?_
  by_cases c8 : o0 = 129
  · refine rs1 (if_pos (eqI_p (hv) (li_129) (by omega))) ?_
    exact Rt.okI (z := 3) (li_3) ⟨3, rfl, rfl, by omega, by omega⟩
  refine rs1 (if_neg (eqI_n (hv) (li_129) (by omega))) ?_
  refine rs1 (swI_c) ?_
  by_cases c9 : o0 = 130
  · refine rs1 (if_pos (eqI_p (hv) (li_130) (by omega))) ?_
    exact Rt.okI (z := 3) (li_3) ⟨3, rfl, rfl, by omega, by omega⟩
  refine rs1 (if_neg (eqI_n (hv) (li_130) (by omega))) ?_
  refine rs1 (swI_c) ?_
  refine rs1 (if_neg (eqI_n (hv) (li_225) (by omega))) ?_
  refine rs1 (swI_c) ?_
  by_cases c10 : o0 = 226
  · refine rs1 (if_pos (eqI_p (hv) (li_226) (by omega))) ?_
    exact Rt.okI (z := 0) (li_0) ⟨0, rfl, rfl, by omega, by omega⟩
  refine rs1 (if_neg (eqI_n (hv) (li_226) (by omega))) ?_
  refine rs1 (swI_n) ?_
  exact Rt.okI (z := (-2)) (li_m2) ⟨(-2), rfl, rfl, by omega, by omega⟩
theorem lv_2 {d : Nat} {M : Mem} (hd : 1 ≤ d) {v : Int32} {o0 : Int} (hv : v = iI o0) (h : -2147483648 ≤ o0 ∧ o0 ≤ 2147483647) : Rt (runX d 102 [.int (v)] M) (fun v M2 => ∃ r, v = .int (iI r) ∧ M2 = M ∧ r ≠ 2 ∧ (-2 ≤ r ∧ r ≤ 5)) := by
  obtain ⟨d, rfl⟩ : ∃ e, d = e + 1 := ⟨d - 1, by omega⟩
  rw [r102]; unfold b102; rw [aI_e, aZ_e]; unfold c102
  refine rs1 (swI_c) ?_
  by_cases c1 : o0 = 37
  · refine rs1 (if_pos (eqI_p (hv) (li_37) (by omega))) ?_
    exact Rt.okI (z := 5) (li_5) ⟨5, rfl, rfl, by omega, by omega⟩
  refine rs1 (if_neg (eqI_n (hv) (li_37) (by omega))) ?_
  refine rs1 (swI_c) ?_
  by_cases c2 : o0 = 42
  · refine rs1 (if_pos (eqI_p (hv) (li_42) (by omega))) ?_
    exact Rt.okI (z := 5) (li_5) ⟨5, rfl, rfl, by omega, by omega⟩
  refine rs1 (if_neg (eqI_n (hv) (li_42) (by omega))) ?_
  refine rs1 (swI_c) ?_
  by_cases c3 : o0 = 43
  · refine rs1 (if_pos (eqI_p (hv) (li_43) (by omega))) ?_
    exact Rt.okI (z := 4) (li_4) ⟨4, rfl, rfl, by omega, by omega⟩
  refine rs1 (if_neg (eqI_n (hv) (li_43) (by omega))) ?_
  refine rs1 (swI_c) ?_
  by_cases c4 : o0 = 45
  · refine rs1 (if_pos (eqI_p (hv) (li_45) (by omega))) ?_
    exact Rt.okI (z := 4) (li_4) ⟨4, rfl, rfl, by omega, by omega⟩
  refine rs1 (if_neg (eqI_n (hv) (li_45) (by omega))) ?_
  refine rs1 (swI_c) ?_
  by_cases c5 : o0 = 47
  · refine rs1 (if_pos (eqI_p (hv) (li_47) (by omega))) ?_
    exact Rt.okI (z := 5) (li_5) ⟨5, rfl, rfl, by omega, by omega⟩
  refine rs1 (if_neg (eqI_n (hv) (li_47) (by omega))) ?_
  refine rs1 (swI_c) ?_
  by_cases c6 : o0 = 60
  · refine rs1 (if_pos (eqI_p (hv) (li_60) (by omega))) ?_
    exact Rt.okI (z := 3) (li_3) ⟨3, rfl, rfl, by omega, by omega⟩
  refine rs1 (if_neg (eqI_n (hv) (li_60) (by omega))) ?_
  refine rs1 (swI_c) ?_
  by_cases c7 : o0 = 128
  · refine rs1 (if_pos (eqI_p (hv) (li_128) (by omega))) ?_
    exact Rt.okI (z := 3) (li_3) ⟨3, rfl, rfl, by omega, by omega⟩
  refine rs1 (if_neg (eqI_n (hv) (li_128) (by omega))) ?_
  refine rs1 (swI_c) ?_
  by_cases c8 : o0 = 129
  · refine rs1 (if_pos (eqI_p (hv) (li_129) (by omega))) ?_
    exact Rt.okI (z := 3) (li_3) ⟨3, rfl, rfl, by omega, by omega⟩
  refine rs1 (if_neg (eqI_n (hv) (li_129) (by omega))) ?_
  refine rs1 (swI_c) ?_
  by_cases c9 : o0 = 130
  · refine rs1 (if_pos (eqI_p (hv) (li_130) (by omega))) ?_
    exact Rt.okI (z := 3) (li_3) ⟨3, rfl, rfl, by omega, by omega⟩
  refine rs1 (if_neg (eqI_n (hv) (li_130) (by omega))) ?_
  refine rs1 (swI_c) ?_
  by_cases c10 : o0 = 225
  · refine rs1 (if_pos (eqI_p (hv) (li_225) (by omega))) ?_
    exact Rt.okI (z := 1) (li_1) ⟨1, rfl, rfl, by omega, by omega⟩
  refine rs1 (if_neg (eqI_n (hv) (li_225) (by omega))) ?_
  refine rs1 (swI_c) ?_
  by_cases c11 : o0 = 226
  · refine rs1 (if_pos (eqI_p (hv) (li_226) (by omega))) ?_
    exact Rt.okI (z := 0) (li_0) ⟨0, rfl, rfl, by omega, by omega⟩
  refine rs1 (if_neg (eqI_n (hv) (li_226) (by omega))) ?_
  refine rs1 (swI_n) ?_
  exact Rt.okI (z := (-2)) (li_m2) ⟨(-2), rfl, rfl, by omega, by omega⟩
theorem lv_3 {d : Nat} {M : Mem} (hd : 1 ≤ d) {v : Int32} {o0 : Int} (hv : v = iI o0) (h : -2147483648 ≤ o0 ∧ o0 ≤ 2147483647 ∧ o0 ≠ 60 ∧ o0 ≠ 128 ∧ o0 ≠ 129 ∧ o0 ≠ 130) : Rt (runX d 102 [.int (v)] M) (fun v M2 => ∃ r, v = .int (iI r) ∧ M2 = M ∧ r ≠ 3 ∧ (-2 ≤ r ∧ r ≤ 5)) := by
  obtain ⟨d, rfl⟩ : ∃ e, d = e + 1 := ⟨d - 1, by omega⟩
  rw [r102]; unfold b102; rw [aI_e, aZ_e]; unfold c102
  refine rs1 (swI_c) ?_
  by_cases c1 : o0 = 37
  · refine rs1 (if_pos (eqI_p (hv) (li_37) (by omega))) ?_
    exact Rt.okI (z := 5) (li_5) ⟨5, rfl, rfl, by omega, by omega⟩
  refine rs1 (if_neg (eqI_n (hv) (li_37) (by omega))) ?_
  refine rs1 (swI_c) ?_
  by_cases c2 : o0 = 42
  · refine rs1 (if_pos (eqI_p (hv) (li_42) (by omega))) ?_
    exact Rt.okI (z := 5) (li_5) ⟨5, rfl, rfl, by omega, by omega⟩
  refine rs1 (if_neg (eqI_n (hv) (li_42) (by omega))) ?_
  refine rs1 (swI_c) ?_
  by_cases c3 : o0 = 43
  · refine rs1 (if_pos (eqI_p (hv) (li_43) (by omega))) ?_
    exact Rt.okI (z := 4) (li_4) ⟨4, rfl, rfl, by omega, by omega⟩
  refine rs1 (if_neg (eqI_n (hv) (li_43) (by omega))) ?_
  refine rs1 (swI_c) ?_
  by_cases c4 : o0 = 45
  · refine rs1 (if_pos (eqI_p (hv) (li_45) (by omega))) ?_
    exact Rt.okI (z := 4) (li_4) ⟨4, rfl, rfl, by omega, by omega⟩
  refine rs1 (if_neg (eqI_n (hv) (li_45) (by omega))) ?_
  refine rs1 (swI_c) ?_
  by_cases c5 : o0 = 47
  · refine rs1 (if_pos (eqI_p (hv) (li_47) (by omega))) ?_
    exact Rt.okI (z := 5) (li_5) ⟨5, rfl, rfl, by omega, by omega⟩
  refine rs1 (if_neg (eqI_n (hv) (li_47) (by omega))) ?_
  refine rs1 (swI_c) ?_
  refine rs1 (if_neg (eqI_n (hv) (li_60) (by omega))) ?_
  refine rs1 (swI_c) ?_
  refine rs1 (if_neg (eqI_n (hv) (li_128) (by omega))) ?_
  refine rs1 (swI_c) ?_
  refine rs1 (if_neg (eqI_n (hv) (li_129) (by omega))) ?_
  refine rs1 (swI_c) ?_
  refine rs1 (if_neg (eqI_n (hv) (li_130) (by omega))) ?_
  refine rs1 (swI_c) ?_
  by_cases c6 : o0 = 225
  · refine rs1 (if_pos (eqI_p (hv) (li_225) (by omega))) ?_
    exact Rt.okI (z := 1) (li_1) ⟨1, rfl, rfl, by omega, by omega⟩
  refine rs1 (if_neg (eqI_n (hv) (li_225) (by omega))) ?_
  refine rs1 (swI_c) ?_
  by_cases c7 : o0 = 226
  · refine rs1 (if_pos (eqI_p (hv) (li_226) (by omega))) ?_
    exact Rt.okI (z := 0) (li_0) ⟨0, rfl, rfl, by omega, by omega⟩
  refine rs1 (if_neg (eqI_n (hv) (li_226) (by omega))) ?_
  refine rs1 (swI_n) ?_
  exact Rt.okI (z := (-2)) (li_m2) ⟨(-2), rfl, rfl, by omega, by omega⟩
theorem lv_4 {d : Nat} {M : Mem} (hd : 1 ≤ d) {v : Int32} {o0 : Int} (hv : v = iI o0) (h : -2147483648 ≤ o0 ∧ o0 ≤ 2147483647 ∧ o0 ≠ 43 ∧ o0 ≠ 45) : Rt (runX d 102 [.int (v)] M) (fun v M2 => ∃ r, v = .int (iI r) ∧ M2 = M ∧ r ≠ 4 ∧ (-2 ≤ r ∧ r ≤ 5)) := by
  obtain ⟨d, rfl⟩ : ∃ e, d = e + 1 := ⟨d - 1, by omega⟩
  rw [r102]; unfold b102; rw [aI_e, aZ_e]; unfold c102
  refine rs1 (swI_c) ?_
  by_cases c1 : o0 = 37
  · refine rs1 (if_pos (eqI_p (hv) (li_37) (by omega))) ?_
    exact Rt.okI (z := 5) (li_5) ⟨5, rfl, rfl, by omega, by omega⟩
  refine rs1 (if_neg (eqI_n (hv) (li_37) (by omega))) ?_
  refine rs1 (swI_c) ?_
  by_cases c2 : o0 = 42
  · refine rs1 (if_pos (eqI_p (hv) (li_42) (by omega))) ?_
    exact Rt.okI (z := 5) (li_5) ⟨5, rfl, rfl, by omega, by omega⟩
  refine rs1 (if_neg (eqI_n (hv) (li_42) (by omega))) ?_
  refine rs1 (swI_c) ?_
  refine rs1 (if_neg (eqI_n (hv) (li_43) (by omega))) ?_
  refine rs1 (swI_c) ?_
  refine rs1 (if_neg (eqI_n (hv) (li_45) (by omega))) ?_
  refine rs1 (swI_c) ?_
  by_cases c3 : o0 = 47
  · refine rs1 (if_pos (eqI_p (hv) (li_47) (by omega))) ?_
    exact Rt.okI (z := 5) (li_5) ⟨5, rfl, rfl, by omega, by omega⟩
  refine rs1 (if_neg (eqI_n (hv) (li_47) (by omega))) ?_
  refine rs1 (swI_c) ?_
  by_cases c4 : o0 = 60
  · refine rs1 (if_pos (eqI_p (hv) (li_60) (by omega))) ?_
    exact Rt.okI (z := 3) (li_3) ⟨3, rfl, rfl, by omega, by omega⟩
  refine rs1 (if_neg (eqI_n (hv) (li_60) (by omega))) ?_
  refine rs1 (swI_c) ?_
  by_cases c5 : o0 = 128
  · refine rs1 (if_pos (eqI_p (hv) (li_128) (by omega))) ?_
    exact Rt.okI (z := 3) (li_3) ⟨3, rfl, rfl, by omega, by omega⟩
  refine rs1 (if_neg (eqI_n (hv) (li_128) (by omega))) ?_
  refine rs1 (swI_c) ?_
  by_cases c6 : o0 = 129
  · refine rs1 (if_pos (eqI_p (hv) (li_129) (by omega))) ?_
    exact Rt.okI (z := 3) (li_3) ⟨3, rfl, rfl, by omega, by omega⟩
  refine rs1 (if_neg (eqI_n (hv) (li_129) (by omega))) ?_
  refine rs1 (swI_c) ?_
  by_cases c7 : o0 = 130
  · refine rs1 (if_pos (eqI_p (hv) (li_130) (by omega))) ?_
    exact Rt.okI (z := 3) (li_3) ⟨3, rfl, rfl, by omega, by omega⟩
  refine rs1 (if_neg (eqI_n (hv) (li_130) (by omega))) ?_
  refine rs1 (swI_c) ?_
  by_cases c8 : o0 = 225
  · refine rs1 (if_pos (eqI_p (hv) (li_225) (by omega))) ?_
    exact Rt.okI (z := 1) (li_1) ⟨1, rfl, rfl, by omega, by omega⟩
  refine rs1 (if_neg (eqI_n (hv) (li_225) (by omega))) ?_
  refine rs1 (swI_c) ?_
  by_cases c9 : o0 = 226
  · refine rs1 (if_pos (eqI_p (hv) (li_226) (by omega))) ?_
    exact Rt.okI (z := 0) (li_0) ⟨0, rfl, rfl, by omega, by omega⟩
  refine rs1 (if_neg (eqI_n (hv) (li_226) (by omega))) ?_
  refine rs1 (swI_n) ?_
  exact Rt.okI (z := (-2)) (li_m2) ⟨(-2), rfl, rfl, by omega, by omega⟩
theorem lv_5 {d : Nat} {M : Mem} (hd : 1 ≤ d) {v : Int32} {o0 : Int} (hv : v = iI o0) (h : -2147483648 ≤ o0 ∧ o0 ≤ 2147483647 ∧ o0 ≠ 37 ∧ o0 ≠ 42 ∧ o0 ≠ 47) : Rt (runX d 102 [.int (v)] M) (fun v M2 => ∃ r, v = .int (iI r) ∧ M2 = M ∧ r ≠ 5 ∧ (-2 ≤ r ∧ r ≤ 5)) := by
  obtain ⟨d, rfl⟩ : ∃ e, d = e + 1 := ⟨d - 1, by omega⟩
  rw [r102]; unfold b102; rw [aI_e, aZ_e]; unfold c102
  refine rs1 (swI_c) ?_
  refine rs1 (if_neg (eqI_n (hv) (li_37) (by omega))) ?_
  refine rs1 (swI_c) ?_
  refine rs1 (if_neg (eqI_n (hv) (li_42) (by omega))) ?_
  refine rs1 (swI_c) ?_
  by_cases c1 : o0 = 43
  · refine rs1 (if_pos (eqI_p (hv) (li_43) (by omega))) ?_
    exact Rt.okI (z := 4) (li_4) ⟨4, rfl, rfl, by omega, by omega⟩
  refine rs1 (if_neg (eqI_n (hv) (li_43) (by omega))) ?_
  refine rs1 (swI_c) ?_
  by_cases c2 : o0 = 45
  · refine rs1 (if_pos (eqI_p (hv) (li_45) (by omega))) ?_
    exact Rt.okI (z := 4) (li_4) ⟨4, rfl, rfl, by omega, by omega⟩
  refine rs1 (if_neg (eqI_n (hv) (li_45) (by omega))) ?_
  refine rs1 (swI_c) ?_
  refine rs1 (if_neg (eqI_n (hv) (li_47) (by omega))) ?_
  refine rs1 (swI_c) ?_
  by_cases c3 : o0 = 60
  · refine rs1 (if_pos (eqI_p (hv) (li_60) (by omega))) ?_
    exact Rt.okI (z := 3) (li_3) ⟨3, rfl, rfl, by omega, by omega⟩
  refine rs1 (if_neg (eqI_n (hv) (li_60) (by omega))) ?_
  refine rs1 (swI_c) ?_
  by_cases c4 : o0 = 128
  · refine rs1 (if_pos (eqI_p (hv) (li_128) (by omega))) ?_
    exact Rt.okI (z := 3) (li_3) ⟨3, rfl, rfl, by omega, by omega⟩
  refine rs1 (if_neg (eqI_n (hv) (li_128) (by omega))) ?_
  refine rs1 (swI_c) ?_
  by_cases c5 : o0 = 129
  · refine rs1 (if_pos (eqI_p (hv) (li_129) (by omega))) ?_
    exact Rt.okI (z := 3) (li_3) ⟨3, rfl, rfl, by omega, by omega⟩
  refine rs1 (if_neg (eqI_n (hv) (li_129) (by omega))) ?_
  refine rs1 (swI_c) ?_
  by_cases c6 : o0 = 130
  · refine rs1 (if_pos (eqI_p (hv) (li_130) (by omega))) ?_
    exact Rt.okI (z := 3) (li_3) ⟨3, rfl, rfl, by omega, by omega⟩
  refine rs1 (if_neg (eqI_n (hv) (li_130) (by omega))) ?_
  refine rs1 (swI_c) ?_
  by_cases c7 : o0 = 225
  · refine rs1 (if_pos (eqI_p (hv) (li_225) (by omega))) ?_
    exact Rt.okI (z := 1) (li_1) ⟨1, rfl, rfl, by omega, by omega⟩
  refine rs1 (if_neg (eqI_n (hv) (li_225) (by omega))) ?_
  refine rs1 (swI_c) ?_
  by_cases c8 : o0 = 226
  · refine rs1 (if_pos (eqI_p (hv) (li_226) (by omega))) ?_
    exact Rt.okI (z := 0) (li_0) ⟨0, rfl, rfl, by omega, by omega⟩
  refine rs1 (if_neg (eqI_n (hv) (li_226) (by omega))) ?_
  refine rs1 (swI_n) ?_
  exact Rt.okI (z := (-2)) (li_m2) ⟨(-2), rfl, rfl, by omega, by omega⟩
theorem lk_37 {d : Nat} {M : Mem} (hd : 1 ≤ d) {v : Int32} (hv : v = iI 37)  : runX d 102 [.int (v)] M = some (.int (iI 5), M) := by
  obtain ⟨d, rfl⟩ : ∃ e, d = e + 1 := ⟨d - 1, by omega⟩
  refine Rt.e ?_
  rw [r102]; unfold b102; rw [aI_e, aZ_e]; unfold c102
  refine rs1 (swI_c) ?_
  refine rs1 (if_pos (eqI_p (hv) (li_37) (by omega))) ?_
  exact Rt.okI (z := 5) (li_5) ⟨rfl, rfl⟩
theorem ok_37 {d : Nat} {M : Mem} (hd : 1 ≤ d) {v : Int32} (hv : v = iI 37)  : runX d 103 [.int (v)] M = some (.int (iI 14), M) := by
  obtain ⟨d, rfl⟩ : ∃ e, d = e + 1 := ⟨d - 1, by omega⟩
  refine Rt.e ?_
  rw [r103]; unfold b103; rw [aI_e, aZ_e]; unfold c103
  refine rs1 (swI_c) ?_
  refine rs1 (if_neg (eqI_n (hv) (li_42) (by omega))) ?_
  refine rs1 (swI_c) ?_
  refine rs1 (if_neg (eqI_n (hv) (li_43) (by omega))) ?_
  refine rs1 (swI_c) ?_
  refine rs1 (if_neg (eqI_n (hv) (li_45) (by omega))) ?_
  refine rs1 (swI_c) ?_
  refine rs1 (if_neg (eqI_n (hv) (li_47) (by omega))) ?_
  refine rs1 (swI_c) ?_
  refine rs1 (if_neg (eqI_n (hv) (li_60) (by omega))) ?_
  refine rs1 (swI_c) ?_
  refine rs1 (if_neg (eqI_n (hv) (li_128) (by omega))) ?_
  refine rs1 (swI_c) ?_
  refine rs1 (if_neg (eqI_n (hv) (li_129) (by omega))) ?_
  refine rs1 (swI_c) ?_
  refine rs1 (if_neg (eqI_n (hv) (li_130) (by omega))) ?_
  refine rs1 (swI_c) ?_
  refine rs1 (if_neg (eqI_n (hv) (li_225) (by omega))) ?_
  refine rs1 (swI_c) ?_
  refine rs1 (if_neg (eqI_n (hv) (li_226) (by omega))) ?_
  refine rs1 (swI_n) ?_
  exact Rt.okI (z := 14) (li_14) ⟨rfl, rfl⟩
theorem lk_42 {d : Nat} {M : Mem} (hd : 1 ≤ d) {v : Int32} (hv : v = iI 42)  : runX d 102 [.int (v)] M = some (.int (iI 5), M) := by
  obtain ⟨d, rfl⟩ : ∃ e, d = e + 1 := ⟨d - 1, by omega⟩
  refine Rt.e ?_
  rw [r102]; unfold b102; rw [aI_e, aZ_e]; unfold c102
  refine rs1 (swI_c) ?_
  refine rs1 (if_neg (eqI_n (hv) (li_37) (by omega))) ?_
  refine rs1 (swI_c) ?_
  refine rs1 (if_pos (eqI_p (hv) (li_42) (by omega))) ?_
  exact Rt.okI (z := 5) (li_5) ⟨rfl, rfl⟩
theorem ok_42 {d : Nat} {M : Mem} (hd : 1 ≤ d) {v : Int32} (hv : v = iI 42)  : runX d 103 [.int (v)] M = some (.int (iI 12), M) := by
  obtain ⟨d, rfl⟩ : ∃ e, d = e + 1 := ⟨d - 1, by omega⟩
  refine Rt.e ?_
  rw [r103]; unfold b103; rw [aI_e, aZ_e]; unfold c103
  refine rs1 (swI_c) ?_
  refine rs1 (if_pos (eqI_p (hv) (li_42) (by omega))) ?_
  exact Rt.okI (z := 12) (li_12) ⟨rfl, rfl⟩
theorem lk_43 {d : Nat} {M : Mem} (hd : 1 ≤ d) {v : Int32} (hv : v = iI 43)  : runX d 102 [.int (v)] M = some (.int (iI 4), M) := by
  obtain ⟨d, rfl⟩ : ∃ e, d = e + 1 := ⟨d - 1, by omega⟩
  refine Rt.e ?_
  rw [r102]; unfold b102; rw [aI_e, aZ_e]; unfold c102
  refine rs1 (swI_c) ?_
  refine rs1 (if_neg (eqI_n (hv) (li_37) (by omega))) ?_
  refine rs1 (swI_c) ?_
  refine rs1 (if_neg (eqI_n (hv) (li_42) (by omega))) ?_
  refine rs1 (swI_c) ?_
  refine rs1 (if_pos (eqI_p (hv) (li_43) (by omega))) ?_
  exact Rt.okI (z := 4) (li_4) ⟨rfl, rfl⟩
theorem ok_43 {d : Nat} {M : Mem} (hd : 1 ≤ d) {v : Int32} (hv : v = iI 43)  : runX d 103 [.int (v)] M = some (.int (iI 10), M) := by
  obtain ⟨d, rfl⟩ : ∃ e, d = e + 1 := ⟨d - 1, by omega⟩
  refine Rt.e ?_
  rw [r103]; unfold b103; rw [aI_e, aZ_e]; unfold c103
  refine rs1 (swI_c) ?_
  refine rs1 (if_neg (eqI_n (hv) (li_42) (by omega))) ?_
  refine rs1 (swI_c) ?_
  refine rs1 (if_pos (eqI_p (hv) (li_43) (by omega))) ?_
  exact Rt.okI (z := 10) (li_10) ⟨rfl, rfl⟩
theorem lk_45 {d : Nat} {M : Mem} (hd : 1 ≤ d) {v : Int32} (hv : v = iI 45)  : runX d 102 [.int (v)] M = some (.int (iI 4), M) := by
  obtain ⟨d, rfl⟩ : ∃ e, d = e + 1 := ⟨d - 1, by omega⟩
  refine Rt.e ?_
  rw [r102]; unfold b102; rw [aI_e, aZ_e]; unfold c102
  refine rs1 (swI_c) ?_
  refine rs1 (if_neg (eqI_n (hv) (li_37) (by omega))) ?_
  refine rs1 (swI_c) ?_
  refine rs1 (if_neg (eqI_n (hv) (li_42) (by omega))) ?_
  refine rs1 (swI_c) ?_
  refine rs1 (if_neg (eqI_n (hv) (li_43) (by omega))) ?_
  refine rs1 (swI_c) ?_
  refine rs1 (if_pos (eqI_p (hv) (li_45) (by omega))) ?_
  exact Rt.okI (z := 4) (li_4) ⟨rfl, rfl⟩
theorem ok_45 {d : Nat} {M : Mem} (hd : 1 ≤ d) {v : Int32} (hv : v = iI 45)  : runX d 103 [.int (v)] M = some (.int (iI 11), M) := by
  obtain ⟨d, rfl⟩ : ∃ e, d = e + 1 := ⟨d - 1, by omega⟩
  refine Rt.e ?_
  rw [r103]; unfold b103; rw [aI_e, aZ_e]; unfold c103
  refine rs1 (swI_c) ?_
  refine rs1 (if_neg (eqI_n (hv) (li_42) (by omega))) ?_
  refine rs1 (swI_c) ?_
  refine rs1 (if_neg (eqI_n (hv) (li_43) (by omega))) ?_
  refine rs1 (swI_c) ?_
  refine rs1 (if_pos (eqI_p (hv) (li_45) (by omega))) ?_
  exact Rt.okI (z := 11) (li_11) ⟨rfl, rfl⟩
theorem lk_47 {d : Nat} {M : Mem} (hd : 1 ≤ d) {v : Int32} (hv : v = iI 47)  : runX d 102 [.int (v)] M = some (.int (iI 5), M) := by
  obtain ⟨d, rfl⟩ : ∃ e, d = e + 1 := ⟨d - 1, by omega⟩
  refine Rt.e ?_
  rw [r102]; unfold b102; rw [aI_e, aZ_e]; unfold c102
  refine rs1 (swI_c) ?_
  refine rs1 (if_neg (eqI_n (hv) (li_37) (by omega))) ?_
  refine rs1 (swI_c) ?_
  refine rs1 (if_neg (eqI_n (hv) (li_42) (by omega))) ?_
  refine rs1 (swI_c) ?_
  refine rs1 (if_neg (eqI_n (hv) (li_43) (by omega))) ?_
  refine rs1 (swI_c) ?_
  refine rs1 (if_neg (eqI_n (hv) (li_45) (by omega))) ?_
  refine rs1 (swI_c) ?_
  refine rs1 (if_pos (eqI_p (hv) (li_47) (by omega))) ?_
  exact Rt.okI (z := 5) (li_5) ⟨rfl, rfl⟩
theorem ok_47 {d : Nat} {M : Mem} (hd : 1 ≤ d) {v : Int32} (hv : v = iI 47)  : runX d 103 [.int (v)] M = some (.int (iI 13), M) := by
  obtain ⟨d, rfl⟩ : ∃ e, d = e + 1 := ⟨d - 1, by omega⟩
  refine Rt.e ?_
  rw [r103]; unfold b103; rw [aI_e, aZ_e]; unfold c103
  refine rs1 (swI_c) ?_
  refine rs1 (if_neg (eqI_n (hv) (li_42) (by omega))) ?_
  refine rs1 (swI_c) ?_
  refine rs1 (if_neg (eqI_n (hv) (li_43) (by omega))) ?_
  refine rs1 (swI_c) ?_
  refine rs1 (if_neg (eqI_n (hv) (li_45) (by omega))) ?_
  refine rs1 (swI_c) ?_
  refine rs1 (if_pos (eqI_p (hv) (li_47) (by omega))) ?_
  exact Rt.okI (z := 13) (li_13) ⟨rfl, rfl⟩
theorem lk_60 {d : Nat} {M : Mem} (hd : 1 ≤ d) {v : Int32} (hv : v = iI 60)  : runX d 102 [.int (v)] M = some (.int (iI 3), M) := by
  obtain ⟨d, rfl⟩ : ∃ e, d = e + 1 := ⟨d - 1, by omega⟩
  refine Rt.e ?_
  rw [r102]; unfold b102; rw [aI_e, aZ_e]; unfold c102
  refine rs1 (swI_c) ?_
  refine rs1 (if_neg (eqI_n (hv) (li_37) (by omega))) ?_
  refine rs1 (swI_c) ?_
  refine rs1 (if_neg (eqI_n (hv) (li_42) (by omega))) ?_
  refine rs1 (swI_c) ?_
  refine rs1 (if_neg (eqI_n (hv) (li_43) (by omega))) ?_
  refine rs1 (swI_c) ?_
  refine rs1 (if_neg (eqI_n (hv) (li_45) (by omega))) ?_
  refine rs1 (swI_c) ?_
  refine rs1 (if_neg (eqI_n (hv) (li_47) (by omega))) ?_
  refine rs1 (swI_c) ?_
  refine rs1 (if_pos (eqI_p (hv) (li_60) (by omega))) ?_
  exact Rt.okI (z := 3) (li_3) ⟨rfl, rfl⟩
theorem ok_60 {d : Nat} {M : Mem} (hd : 1 ≤ d) {v : Int32} (hv : v = iI 60)  : runX d 103 [.int (v)] M = some (.int (iI 15), M) := by
  obtain ⟨d, rfl⟩ : ∃ e, d = e + 1 := ⟨d - 1, by omega⟩
  refine Rt.e ?_
  rw [r103]; unfold b103; rw [aI_e, aZ_e]; unfold c103
  refine rs1 (swI_c) ?_
  refine rs1 (if_neg (eqI_n (hv) (li_42) (by omega))) ?_
  refine rs1 (swI_c) ?_
  refine rs1 (if_neg (eqI_n (hv) (li_43) (by omega))) ?_
  refine rs1 (swI_c) ?_
  refine rs1 (if_neg (eqI_n (hv) (li_45) (by omega))) ?_
  refine rs1 (swI_c) ?_
  refine rs1 (if_neg (eqI_n (hv) (li_47) (by omega))) ?_
  refine rs1 (swI_c) ?_
  refine rs1 (if_pos (eqI_p (hv) (li_60) (by omega))) ?_
  exact Rt.okI (z := 15) (li_15) ⟨rfl, rfl⟩
theorem lk_128 {d : Nat} {M : Mem} (hd : 1 ≤ d) {v : Int32} (hv : v = iI 128)  : runX d 102 [.int (v)] M = some (.int (iI 3), M) := by
  obtain ⟨d, rfl⟩ : ∃ e, d = e + 1 := ⟨d - 1, by omega⟩
  refine Rt.e ?_
  rw [r102]; unfold b102; rw [aI_e, aZ_e]; unfold c102
  refine rs1 (swI_c) ?_
  refine rs1 (if_neg (eqI_n (hv) (li_37) (by omega))) ?_
  refine rs1 (swI_c) ?_
  refine rs1 (if_neg (eqI_n (hv) (li_42) (by omega))) ?_
  refine rs1 (swI_c) ?_
  refine rs1 (if_neg (eqI_n (hv) (li_43) (by omega))) ?_
  refine rs1 (swI_c) ?_
  refine rs1 (if_neg (eqI_n (hv) (li_45) (by omega))) ?_
  refine rs1 (swI_c) ?_
  refine rs1 (if_neg (eqI_n (hv) (li_47) (by omega))) ?_
  refine rs1 (swI_c) ?_
  refine rs1 (if_neg (eqI_n (hv) (li_60) (by omega))) ?_
  refine rs1 (swI_c) ?_
  refine rs1 (if_pos (eqI_p (hv) (li_128) (by omega))) ?_
  exact Rt.okI (z := 3) (li_3) ⟨rfl, rfl⟩
theorem ok_128 {d : Nat} {M : Mem} (hd : 1 ≤ d) {v : Int32} (hv : v = iI 128)  : runX d 103 [.int (v)] M = some (.int (iI 16), M) := by
  obtain ⟨d, rfl⟩ : ∃ e, d = e + 1 := ⟨d - 1, by omega⟩
  refine Rt.e ?_
  rw [r103]; unfold b103; rw [aI_e, aZ_e]; unfold c103
  refine rs1 (swI_c) ?_
  refine rs1 (if_neg (eqI_n (hv) (li_42) (by omega))) ?_
  refine rs1 (swI_c) ?_
  refine rs1 (if_neg (eqI_n (hv) (li_43) (by omega))) ?_
  refine rs1 (swI_c) ?_
  refine rs1 (if_neg (eqI_n (hv) (li_45) (by omega))) ?_
  refine rs1 (swI_c) ?_
  refine rs1 (if_neg (eqI_n (hv) (li_47) (by omega))) ?_
  refine rs1 (swI_c) ?_
  refine rs1 (if_neg (eqI_n (hv) (li_60) (by omega))) ?_
  refine rs1 (swI_c) ?_
  refine rs1 (if_pos (eqI_p (hv) (li_128) (by omega))) ?_
  exact Rt.okI (z := 16) (li_16) ⟨rfl, rfl⟩
theorem lk_129 {d : Nat} {M : Mem} (hd : 1 ≤ d) {v : Int32} (hv : v = iI 129)  : runX d 102 [.int (v)] M = some (.int (iI 3), M) := by
  obtain ⟨d, rfl⟩ : ∃ e, d = e + 1 := ⟨d - 1, by omega⟩
  refine Rt.e ?_
  rw [r102]; unfold b102; rw [aI_e, aZ_e]; unfold c102
  refine rs1 (swI_c) ?_
  refine rs1 (if_neg (eqI_n (hv) (li_37) (by omega))) ?_
  refine rs1 (swI_c) ?_
  refine rs1 (if_neg (eqI_n (hv) (li_42) (by omega))) ?_
  refine rs1 (swI_c) ?_
  refine rs1 (if_neg (eqI_n (hv) (li_43) (by omega))) ?_
  refine rs1 (swI_c) ?_
  refine rs1 (if_neg (eqI_n (hv) (li_45) (by omega))) ?_
  refine rs1 (swI_c) ?_
  refine rs1 (if_neg (eqI_n (hv) (li_47) (by omega))) ?_
  refine rs1 (swI_c) ?_
  refine rs1 (if_neg (eqI_n (hv) (li_60) (by omega))) ?_
  refine rs1 (swI_c) ?_
  refine rs1 (if_neg (eqI_n (hv) (li_128) (by omega))) ?_
  refine rs1 (swI_c) ?_
  refine rs1 (if_pos (eqI_p (hv) (li_129) (by omega))) ?_
  exact Rt.okI (z := 3) (li_3) ⟨rfl, rfl⟩
theorem ok_129 {d : Nat} {M : Mem} (hd : 1 ≤ d) {v : Int32} (hv : v = iI 129)  : runX d 103 [.int (v)] M = some (.int (iI 17), M) := by
  obtain ⟨d, rfl⟩ : ∃ e, d = e + 1 := ⟨d - 1, by omega⟩
  refine Rt.e ?_
  rw [r103]; unfold b103; rw [aI_e, aZ_e]; unfold c103
  refine rs1 (swI_c) ?_
  refine rs1 (if_neg (eqI_n (hv) (li_42) (by omega))) ?_
  refine rs1 (swI_c) ?_
  refine rs1 (if_neg (eqI_n (hv) (li_43) (by omega))) ?_
  refine rs1 (swI_c) ?_
  refine rs1 (if_neg (eqI_n (hv) (li_45) (by omega))) ?_
  refine rs1 (swI_c) ?_
  refine rs1 (if_neg (eqI_n (hv) (li_47) (by omega))) ?_
  refine rs1 (swI_c) ?_
  refine rs1 (if_neg (eqI_n (hv) (li_60) (by omega))) ?_
  refine rs1 (swI_c) ?_
  refine rs1 (if_neg (eqI_n (hv) (li_128) (by omega))) ?_
  refine rs1 (swI_c) ?_
  refine rs1 (if_pos (eqI_p (hv) (li_129) (by omega))) ?_
  exact Rt.okI (z := 17) (li_17) ⟨rfl, rfl⟩
theorem lk_130 {d : Nat} {M : Mem} (hd : 1 ≤ d) {v : Int32} (hv : v = iI 130)  : runX d 102 [.int (v)] M = some (.int (iI 3), M) := by
  obtain ⟨d, rfl⟩ : ∃ e, d = e + 1 := ⟨d - 1, by omega⟩
  refine Rt.e ?_
  rw [r102]; unfold b102; rw [aI_e, aZ_e]; unfold c102
  refine rs1 (swI_c) ?_
  refine rs1 (if_neg (eqI_n (hv) (li_37) (by omega))) ?_
  refine rs1 (swI_c) ?_
  refine rs1 (if_neg (eqI_n (hv) (li_42) (by omega))) ?_
  refine rs1 (swI_c) ?_
  refine rs1 (if_neg (eqI_n (hv) (li_43) (by omega))) ?_
  refine rs1 (swI_c) ?_
  refine rs1 (if_neg (eqI_n (hv) (li_45) (by omega))) ?_
  refine rs1 (swI_c) ?_
  refine rs1 (if_neg (eqI_n (hv) (li_47) (by omega))) ?_
  refine rs1 (swI_c) ?_
  refine rs1 (if_neg (eqI_n (hv) (li_60) (by omega))) ?_
  refine rs1 (swI_c) ?_
  refine rs1 (if_neg (eqI_n (hv) (li_128) (by omega))) ?_
  refine rs1 (swI_c) ?_
  refine rs1 (if_neg (eqI_n (hv) (li_129) (by omega))) ?_
  refine rs1 (swI_c) ?_
  refine rs1 (if_pos (eqI_p (hv) (li_130) (by omega))) ?_
  exact Rt.okI (z := 3) (li_3) ⟨rfl, rfl⟩
theorem ok_130 {d : Nat} {M : Mem} (hd : 1 ≤ d) {v : Int32} (hv : v = iI 130)  : runX d 103 [.int (v)] M = some (.int (iI 18), M) := by
  obtain ⟨d, rfl⟩ : ∃ e, d = e + 1 := ⟨d - 1, by omega⟩
  refine Rt.e ?_
  rw [r103]; unfold b103; rw [aI_e, aZ_e]; unfold c103
  refine rs1 (swI_c) ?_
  refine rs1 (if_neg (eqI_n (hv) (li_42) (by omega))) ?_
  refine rs1 (swI_c) ?_
  refine rs1 (if_neg (eqI_n (hv) (li_43) (by omega))) ?_
  refine rs1 (swI_c) ?_
  refine rs1 (if_neg (eqI_n (hv) (li_45) (by omega))) ?_
  refine rs1 (swI_c) ?_
  refine rs1 (if_neg (eqI_n (hv) (li_47) (by omega))) ?_
  refine rs1 (swI_c) ?_
  refine rs1 (if_neg (eqI_n (hv) (li_60) (by omega))) ?_
  refine rs1 (swI_c) ?_
  refine rs1 (if_neg (eqI_n (hv) (li_128) (by omega))) ?_
  refine rs1 (swI_c) ?_
  refine rs1 (if_neg (eqI_n (hv) (li_129) (by omega))) ?_
  refine rs1 (swI_c) ?_
  refine rs1 (if_pos (eqI_p (hv) (li_130) (by omega))) ?_
  exact Rt.okI (z := 18) (li_18) ⟨rfl, rfl⟩
theorem lk_225 {d : Nat} {M : Mem} (hd : 1 ≤ d) {v : Int32} (hv : v = iI 225)  : runX d 102 [.int (v)] M = some (.int (iI 1), M) := by
  obtain ⟨d, rfl⟩ : ∃ e, d = e + 1 := ⟨d - 1, by omega⟩
  refine Rt.e ?_
  rw [r102]; unfold b102; rw [aI_e, aZ_e]; unfold c102
  refine rs1 (swI_c) ?_
  refine rs1 (if_neg (eqI_n (hv) (li_37) (by omega))) ?_
  refine rs1 (swI_c) ?_
  refine rs1 (if_neg (eqI_n (hv) (li_42) (by omega))) ?_
  refine rs1 (swI_c) ?_
  refine rs1 (if_neg (eqI_n (hv) (li_43) (by omega))) ?_
  refine rs1 (swI_c) ?_
  refine rs1 (if_neg (eqI_n (hv) (li_45) (by omega))) ?_
  refine rs1 (swI_c) ?_
  refine rs1 (if_neg (eqI_n (hv) (li_47) (by omega))) ?_
  refine rs1 (swI_c) ?_
  refine rs1 (if_neg (eqI_n (hv) (li_60) (by omega))) ?_
  refine rs1 (swI_c) ?_
  refine rs1 (if_neg (eqI_n (hv) (li_128) (by omega))) ?_
  refine rs1 (swI_c) ?_
  refine rs1 (if_neg (eqI_n (hv) (li_129) (by omega))) ?_
  refine rs1 (swI_c) ?_
  refine rs1 (if_neg (eqI_n (hv) (li_130) (by omega))) ?_
  refine rs1 (swI_c) ?_
  refine rs1 (if_pos (eqI_p (hv) (li_225) (by omega))) ?_
  exact Rt.okI (z := 1) (li_1) ⟨rfl, rfl⟩
theorem ok_225 {d : Nat} {M : Mem} (hd : 1 ≤ d) {v : Int32} (hv : v = iI 225)  : runX d 103 [.int (v)] M = some (.int (iI 19), M) := by
  obtain ⟨d, rfl⟩ : ∃ e, d = e + 1 := ⟨d - 1, by omega⟩
  refine Rt.e ?_
  rw [r103]; unfold b103; rw [aI_e, aZ_e]; unfold c103
  refine rs1 (swI_c) ?_
  refine rs1 (if_neg (eqI_n (hv) (li_42) (by omega))) ?_
  refine rs1 (swI_c) ?_
  refine rs1 (if_neg (eqI_n (hv) (li_43) (by omega))) ?_
  refine rs1 (swI_c) ?_
  refine rs1 (if_neg (eqI_n (hv) (li_45) (by omega))) ?_
  refine rs1 (swI_c) ?_
  refine rs1 (if_neg (eqI_n (hv) (li_47) (by omega))) ?_
  refine rs1 (swI_c) ?_
  refine rs1 (if_neg (eqI_n (hv) (li_60) (by omega))) ?_
  refine rs1 (swI_c) ?_
  refine rs1 (if_neg (eqI_n (hv) (li_128) (by omega))) ?_
  refine rs1 (swI_c) ?_
  refine rs1 (if_neg (eqI_n (hv) (li_129) (by omega))) ?_
  refine rs1 (swI_c) ?_
  refine rs1 (if_neg (eqI_n (hv) (li_130) (by omega))) ?_
  refine rs1 (swI_c) ?_
  refine rs1 (if_pos (eqI_p (hv) (li_225) (by omega))) ?_
  exact Rt.okI (z := 19) (li_19) ⟨rfl, rfl⟩
theorem lk_226 {d : Nat} {M : Mem} (hd : 1 ≤ d) {v : Int32} (hv : v = iI 226)  : runX d 102 [.int (v)] M = some (.int (iI 0), M) := by
  obtain ⟨d, rfl⟩ : ∃ e, d = e + 1 := ⟨d - 1, by omega⟩
  refine Rt.e ?_
  rw [r102]; unfold b102; rw [aI_e, aZ_e]; unfold c102
  refine rs1 (swI_c) ?_
  refine rs1 (if_neg (eqI_n (hv) (li_37) (by omega))) ?_
  refine rs1 (swI_c) ?_
  refine rs1 (if_neg (eqI_n (hv) (li_42) (by omega))) ?_
  refine rs1 (swI_c) ?_
  refine rs1 (if_neg (eqI_n (hv) (li_43) (by omega))) ?_
  refine rs1 (swI_c) ?_
  refine rs1 (if_neg (eqI_n (hv) (li_45) (by omega))) ?_
  refine rs1 (swI_c) ?_
  refine rs1 (if_neg (eqI_n (hv) (li_47) (by omega))) ?_
  refine rs1 (swI_c) ?_
  refine rs1 (if_neg (eqI_n (hv) (li_60) (by omega))) ?_
  refine rs1 (swI_c) ?_
  refine rs1 (if_neg (eqI_n (hv) (li_128) (by omega))) ?_
  refine rs1 (swI_c) ?_
  refine rs1 (if_neg (eqI_n (hv) (li_129) (by omega))) ?_
  refine rs1 (swI_c) ?_
  refine rs1 (if_neg (eqI_n (hv) (li_130) (by omega))) ?_
  refine rs1 (swI_c) ?_
  refine rs1 (if_neg (eqI_n (hv) (li_225) (by omega))) ?_
  refine rs1 (swI_c) ?_
  refine rs1 (if_pos (eqI_p (hv) (li_226) (by omega))) ?_
  exact Rt.okI (z := 0) (li_0) ⟨rfl, rfl⟩
theorem ok_226 {d : Nat} {M : Mem} (hd : 1 ≤ d) {v : Int32} (hv : v = iI 226)  : runX d 103 [.int (v)] M = some (.int (iI 20), M) := by
  obtain ⟨d, rfl⟩ : ∃ e, d = e + 1 := ⟨d - 1, by omega⟩
  refine Rt.e ?_
  rw [r103]; unfold b103; rw [aI_e, aZ_e]; unfold c103
  refine rs1 (swI_c) ?_
  refine rs1 (if_neg (eqI_n (hv) (li_42) (by omega))) ?_
  refine rs1 (swI_c) ?_
  refine rs1 (if_neg (eqI_n (hv) (li_43) (by omega))) ?_
  refine rs1 (swI_c) ?_
  refine rs1 (if_neg (eqI_n (hv) (li_45) (by omega))) ?_
  refine rs1 (swI_c) ?_
  refine rs1 (if_neg (eqI_n (hv) (li_47) (by omega))) ?_
  refine rs1 (swI_c) ?_
  refine rs1 (if_neg (eqI_n (hv) (li_60) (by omega))) ?_
  refine rs1 (swI_c) ?_
  refine rs1 (if_neg (eqI_n (hv) (li_128) (by omega))) ?_
  refine rs1 (swI_c) ?_
  refine rs1 (if_neg (eqI_n (hv) (li_129) (by omega))) ?_
  refine rs1 (swI_c) ?_
  refine rs1 (if_neg (eqI_n (hv) (li_130) (by omega))) ?_
  refine rs1 (swI_c) ?_
  refine rs1 (if_neg (eqI_n (hv) (li_225) (by omega))) ?_
  refine rs1 (swI_c) ?_
  refine rs1 (if_pos (eqI_p (hv) (li_226) (by omega))) ?_
  exact Rt.okI (z := 20) (li_20) ⟨rfl, rfl⟩
