/-! the first object's machine beside the small machine -/
/-- cells: 0 parcel of a side, 1 operations, 2 numbers, 3 what is caught, 4 list of members, 5 list of units, 6 a member, 7 a unit, 8 what is counted, 9 its rows, 10 a BUILD, 11 its links -/
abbrev ZK : Type := Nat → Int → Nat
def W_x : List (Nat × Nat) := [(88, 10), (88, 12), (88, 14), (88, 15), (88, 18), (88, 19), (88, 20), (88, 21), (89, 3), (89, 4), (92, 9999), (94, 9999), (95, 9999), (96, 9999), (97, 9999), (98, 9999), (99, 9999), (100, 9999), (101, 9999), (102, 9999), (103, 9999), (104, 9999), (105, 9999), (106, 9999), (107, 9999), (108, 4), (110, 9999), (111, 9999), (112, 4), (114, 9999), (115, 9999), (116, 4), (118, 9999), (119, 9999), (120, 4), (122, 9999), (123, 9999), (124, 4), (126, 9999), (127, 9999), (128, 4), (130, 9999), (131, 9999), (132, 4), (134, 9999), (135, 9999), (136, 4), (138, 9999), (139, 9999), (143, 5), (143, 6), (144, 9999), (145, 9999)]
/-- the stack and the codes on it -/
def W_f : List (Nat × Nat) := [(88, 12), (88, 14), (88, 15), (88, 19), (88, 20), (88, 21), (92, 9999), (94, 9999), (95, 9999), (96, 9999), (97, 9999), (98, 9999), (99, 9999), (100, 9999), (101, 9999), (102, 9999), (103, 9999), (104, 9999), (105, 9999)]
/-- what a machine may change -/
def zFo (κ : ZK) (M M' : Mem) : Prop := M'.2 = M.2 ∧ ∀ a j, inW W_x a j = false → (κ 12 0 = 1 → a ≠ κ 8 0) → (κ 12 0 = 1 → a ≠ κ 8 1) → (κ 12 0 = 1 → a ≠ κ 8 2) → M'.1 a j = M.1 a j
def zTw (d : Int) : Nat := (136 - 4 * d).toNat
/-- a member that is there -/
def zId (e : ZS) (id : Int) : Prop := (0 ≤ id ∧ id < e.1 24 0 0) ∨ (96 ≤ id ∧ id < 96 + e.1 24 1 0)
def zcw (s : ZS) : Int := if s.1 1 0 0 = 6 then -1 else if 0 ≤ s.1 12 0 0 then s.1 12 0 0 else 2147483648 + s.1 12 0 0
/-- what does not hang on the codes that are open -/
def zCG (e : ZS) (κ : ZK) (s : ZS) (M : Mem) : Prop :=
  (∀ id, zId e id → (e.1 4 id 0 = 2 ∨ (e.1 4 id 0 = 1 ∧ s.1 8 (e.1 3 id 0) 0 = 1)) → M.1 106 (e.1 23 id 0).toNat = s.2 2 id 0) ∧
  (∀ id, zId e id → e.1 4 id 0 = 3 → s.1 8 (e.1 3 id 0) 0 = 1 → ∀ i, 0 ≤ i → i < e.1 5 id 0 → M.1 106 (e.1 23 id 0 + i).toNat = s.2 3 id i) ∧
  (∀ k, 0 ≤ k → k < 16 → M.1 107 k.toNat = iI (s.1 8 k 0)) ∧
  (M.1 88 18 = s.2 4 0 0 ∧ M.1 89 3 = iI (s.1 10 0 0) ∧ M.1 89 4 = iI (s.1 11 0 0) ∧ M.1 88 10 = iI (zcw s)) ∧
  (e.1 10 0 0 = 1 → ∀ p, 0 ≤ p → p < e.1 21 0 0 → M.1 (κ 8 0) p.toNat = s.2 7 p 0 ∧ M.1 (κ 8 1) p.toNat = s.2 8 p 0 ∧ M.1 (κ 8 2) p.toNat = iI (s.1 15 p 0 + 1)) ∧
  (∀ q, 0 ≤ q → q < 8 → M.1 (zTw q) 4 = iI (s.1 17 q 0) ∧ (∀ j, 0 ≤ j → j < 50 → M.1 (zTw q + 3) j.toNat = s.2 12 q j) ∧ ∀ j, 0 ≤ j → j < 200 → M.1 (zTw q + 2) j.toNat = s.2 13 q j) ∧
  (e.1 10 2 0 = 1 → (M.1 143 6 = iI (s.1 11 0 0) ∧ M.1 143 5 = iI (s.1 14 0 0) ∧ s.1 11 0 0 ≤ s.1 14 0 0) ∧ ∀ t, 0 ≤ t → t < s.1 14 0 0 → M.1 144 t.toNat = s.2 9 t 0 ∧ M.1 145 t.toNat = s.2 10 t 0)
/-- an open code -/
def zCi (s : ZS) (M : Mem) (i : Int) : Prop := (M.1 (94 + i.toNat) 0 = iI (s.1 2 i 0 - zoff (s.1 2 i 0)) ∧ M.1 (94 + i.toNat) 1 = iI (10 * i + s.1 6 i 0) ∧ M.1 (94 + i.toNat) 2 = iI (if s.1 2 i 0 < 1000 then 0 else 1) ∧ M.1 (94 + i.toNat) 3 = iI (if s.1 5 i 0 < 0 then -2 else s.1 5 i 0)) ∧ (∀ k, 0 ≤ k → k < s.1 16 i 0 → M.1 92 (10 * i + s.1 6 i 0 + k).toNat = s.2 0 i k) ∧ ∀ k, 0 ≤ k → k < s.1 3 i 0 → M.1 92 (10 * i + s.1 6 i 0 + 10 + k).toNat = s.2 1 i k
/-- a code goes on -/
def zCM (e : ZS) (κ : ZK) (s : ZS) (M : Mem) : Prop := CT M ∧ zCG e κ s M ∧ (∀ i, 0 ≤ i → i < s.1 0 0 0 → zCi s M i) ∧ M.1 88 14 = iI (s.1 0 0 0) ∧ M.1 88 12 = iI (ztp s) ∧ M.1 88 15 = iI 0 ∧ M.1 88 19 = iI 0
def zGs (s s' : ZS) : Prop := (∀ k, k = 8 ∨ k = 10 ∨ k = 11 ∨ k = 12 ∨ k = 14 ∨ k = 15 ∨ k = 17 → s'.1 k = s.1 k) ∧ (∀ k, 2 ≤ k → k ≠ 5 → k ≠ 6 → s'.2 k = s.2 k) ∧ (s'.1 1 0 0 = 6 ↔ s.1 1 0 0 = 6)
section S95
variable {e s s' : ZS} {κ : ZK} {M M' M2 : Mem} {a j : Nat} {v : Int32} {c t k i : Int}
theorem zFo.r : zFo κ M M := ⟨rfl, fun _ _ _ _ _ _ => rfl⟩
theorem zFo.tr (h : zFo κ M M') (g : zFo κ M' M2) : zFo κ M M2 := ⟨g.1.trans h.1, fun a j p q r u => (g.2 a j p q r u).trans (h.2 a j p q r u)⟩
theorem zFo.sI (h : inW W_x a j = true) : zFo κ M (sI M a j v) := ⟨rfl, fun b i p _ _ _ => by
  by_cases c : b = a
  · by_cases c2 : i = j
    · subst c; subst c2; rw [h] at p; exact absurd p (by decide)
    · exact sI_nej c2
  · exact sI_ne c⟩
theorem inW_fx {a : Nat} (h : a < 12) (j : Nat) : inW W_x (94 + a) j = true ∧ inW W_f (94 + a) j = true := by
  have c : a = 0 ∨ a = 1 ∨ a = 2 ∨ a = 3 ∨ a = 4 ∨ a = 5 ∨ a = 6 ∨ a = 7 ∨ a = 8 ∨ a = 9 ∨ a = 10 ∨ a = 11 := by omega
  rcases c with c | c | c | c | c | c | c | c | c | c | c | c <;> subst c <;> exact ⟨inW_c (by decide) j, inW_c (by decide) j⟩
/-- writes on the stack and into codes -/
def zFf (M M' : Mem) : Prop := M'.2 = M.2 ∧ ∀ a j, inW W_f a j = false → M'.1 a j = M.1 a j
theorem zFf.r : zFf M M := ⟨rfl, fun _ _ _ => rfl⟩
theorem zFf.sI (g : zFf M M') (h : inW W_f a j = true) : zFf M (sI M' a j v) := ⟨g.1, fun b i p => by
  by_cases c : b = a
  · by_cases c2 : i = j
    · subst c; subst c2; rw [h] at p; exact absurd p (by decide)
    · exact (sI_nej c2).trans (g.2 b i p)
  · exact (sI_ne c).trans (g.2 b i p)⟩
theorem W_fx : ∀ a j, inW W_x a j = false → inW W_f a j = false := fun a j h => inW_m (L := W_f) (L' := W_x) (by decide) h
theorem zFf.fo (h : zFf M M') : zFo κ M M' := ⟨h.1, fun a j p _ _ _ => h.2 a j (W_fx a j p)⟩
theorem zTw_b {q : Int} (h : 0 ≤ q ∧ q < 8) : inW W_f (zTw q) 4 = false ∧ (∀ j, inW W_f (zTw q + 3) j = false) ∧ ∀ j, inW W_f (zTw q + 2) j = false := by
  have c : q = 0 ∨ q = 1 ∨ q = 2 ∨ q = 3 ∨ q = 4 ∨ q = 5 ∨ q = 6 ∨ q = 7 := by omega
  rcases c with c | c | c | c | c | c | c | c <;> subst c <;> exact ⟨by decide, inW_n (by decide), inW_n (by decide)⟩
theorem W_fn (h : 259 ≤ a) (j : Nat) : inW W_f a j = false := inW_n (fun z y => by
  have g : ∀ z, z ∈ W_f → z.1 < 259 := by decide
  have := g z y
  omega) j
theorem zCG.ff (h : zCG e κ s M) (f : zFf M M') (g : zGs s s') (hk : ∀ i, i = 0 ∨ i = 1 ∨ i = 2 → 259 ≤ κ 8 i) : zCG e κ s' M' := by
  obtain ⟨h1, h2, h3, ⟨h4, h5, h6, h7⟩, h8, h9, h10⟩ := h
  obtain ⟨g1, g2, g3⟩ := g
  have f106 : ∀ j, M'.1 106 j = M.1 106 j := fun j => f.2 _ _ (inW_n (by decide) j)
  have f107 : ∀ j, M'.1 107 j = M.1 107 j := fun j => f.2 _ _ (inW_n (by decide) j)
  have e8 := g1 8 (by omega)
  have ecw : zcw s' = zcw s := by
    unfold zcw
    rw [g1 12 (by omega)]
    by_cases y : s.1 1 0 0 = 6
    · rw [if_pos y, if_pos (g3.2 y)]
    · rw [if_neg y, if_neg fun q => y (g3.1 q)]
  refine ⟨fun id p q => ?_, fun id p q r i u w => ?_, fun k p q => ?_, ⟨?_, ?_, ?_, ?_⟩, fun x p u w => ?_, fun q p r => ?_, fun x => ?_⟩
  · rw [f106, g2 2 (by omega) (by omega) (by omega)]
    rw [e8] at q
    exact h1 id p q
  · rw [f106, g2 3 (by omega) (by omega) (by omega)]
    rw [e8] at r
    exact h2 id p q r i u w
  · rw [f107, e8]; exact h3 k p q
  · rw [f.2 _ _ (by decide), g2 4 (by omega) (by omega) (by omega)]; exact h4
  · rw [f.2 _ _ (by decide), g1 10 (by omega)]; exact h5
  · rw [f.2 _ _ (by decide), g1 11 (by omega)]; exact h6
  · rw [f.2 _ _ (by decide), ecw]; exact h7
  · rw [f.2 _ _ (W_fn (hk 0 (by omega)) _), f.2 _ _ (W_fn (hk 1 (by omega)) _), f.2 _ _ (W_fn (hk 2 (by omega)) _), g2 7 (by omega) (by omega) (by omega), g2 8 (by omega) (by omega) (by omega), g1 15 (by omega)]
    exact h8 x p u w
  · obtain ⟨b1, b2, b3⟩ := zTw_b ⟨p, r⟩
    obtain ⟨c1, c2, c3⟩ := h9 q p r
    rw [f.2 _ _ b1, g1 17 (by omega), g2 12 (by omega) (by omega) (by omega), g2 13 (by omega) (by omega) (by omega)]
    exact ⟨c1, fun j x y => by rw [f.2 _ _ (b2 _)]; exact c2 j x y, fun j x y => by rw [f.2 _ _ (b3 _)]; exact c3 j x y⟩
  · rw [f.2 _ _ (by decide), f.2 _ _ (by decide), g1 11 (by omega), g1 14 (by omega), g2 9 (by omega) (by omega) (by omega), g2 10 (by omega) (by omega) (by omega)]
    exact ⟨(h10 x).1, fun t p q => by rw [f.2 _ _ (inW_n (by decide) _), f.2 _ _ (inW_n (by decide) _)]; exact (h10 x).2 t p q⟩
/-- the numbers of an open code below the top -/
theorem zCi.lo (h : zCi s M i) (hi : 0 ≤ i ∧ i < 12) (hf : ∀ j, M'.1 (94 + i.toNat) j = M.1 (94 + i.toNat) j) (hs : ∀ k, 0 ≤ k → k < s.1 16 i 0 → M'.1 92 (10 * i + s.1 6 i 0 + k).toNat = M.1 92 (10 * i + s.1 6 i 0 + k).toNat) (hn : ∀ k, 0 ≤ k → k < s.1 3 i 0 → M'.1 92 (10 * i + s.1 6 i 0 + 10 + k).toNat = M.1 92 (10 * i + s.1 6 i 0 + 10 + k).toNat) (e2 : s'.1 2 i 0 = s.1 2 i 0) (e3 : s'.1 3 i 0 = s.1 3 i 0) (e5 : s'.1 5 i 0 = s.1 5 i 0) (e6 : s'.1 6 i 0 = s.1 6 i 0) (e16 : s'.1 16 i 0 = s.1 16 i 0) (w0 : ∀ k, s'.2 0 i k = s.2 0 i k) (w1 : ∀ k, s'.2 1 i k = s.2 1 i k) : zCi s' M' i := by
  obtain ⟨⟨h1, h2, h3, h4⟩, h5, h6⟩ := h
  unfold zCi
  rw [e2, e3, e5, e6, e16, hf, hf, hf, hf]
  exact ⟨⟨h1, h2, h3, h4⟩, fun k p q => by rw [hs k p q, w0]; exact h5 k p q, fun k p q => by rw [hn k p q, w1]; exact h6 k p q⟩
/-- a number comes onto the stack -/
theorem zCM.push (h : zCM e κ s M) (hl : zLy s) (hh : zh s < 200) (hk : ∀ i, i = 0 ∨ i = 1 ∨ i = 2 → 259 ≤ κ 8 i) : zCM e κ (zpush s v) (sI (sI M 92 (ztp s).toNat v) 88 12 (iI (ztp s + 1))) := by
  obtain ⟨hC, hG, hF, h14, h12, h15, h19⟩ := h
  obtain ⟨l1, l2, l3, l4⟩ := hl
  have lf := l2 (zf s) (by unfold zf; omega) (by unfold zf; omega)
  refine ⟨hC, hG.ff (zFf.sI (zFf.sI zFf.r (inW_c (by decide) _)) (by decide)) ⟨fun k p => ?_, fun k p q r => ?_, Iff.rfl⟩ hk, fun i p q => ?_, ?_, ?_, ?_, ?_⟩
  · rcases p with p | p | p | p | p | p | p <;> subst p <;> rfl
  · funext x y; exact zw_k (by omega)
  · have hi : i ≤ zf s := by unfold zf; have : i < s.1 0 0 0 := q; omega
    have q' : i < s.1 0 0 0 := q
    by_cases y : i = zf s
    · obtain ⟨⟨a1, a2, a3, a4⟩, a5, a6⟩ := hF i p q'
      refine ⟨⟨?_, ?_, ?_, ?_⟩, fun k u w => ?_, fun k u w => ?_⟩
      · exact (sI_ne (by omega)).trans ((sI_ne (by omega)).trans a1)
      · exact (sI_ne (by omega)).trans ((sI_ne (by omega)).trans a2)
      · exact (sI_ne (by omega)).trans ((sI_ne (by omega)).trans a3)
      · exact (sI_ne (by omega)).trans ((sI_ne (by omega)).trans a4)
      · have w' : k < s.1 16 i 0 := w
        refine (sI_ne (by decide)).trans ((sI_nej ?_).trans (a5 k u w'))
        show (10 * i + s.1 6 i 0 + k).toNat ≠ (ztp s).toNat
        unfold ztp; rw [y] at w' ⊢; omega
      · have ei : (zpush s v).1 3 i 0 = zh s + 1 := by rw [y]; exact zi_e
        rw [ei] at w
        by_cases z : k = zh s
        · have e1 : (zpush s v).2 1 i k = v := by rw [y, z]; exact zw_e
          rw [e1]
          refine (sI_ne (by decide)).trans (sI_eqj ?_)
          show (10 * i + s.1 6 i 0 + 10 + k).toNat = (ztp s).toNat
          unfold ztp; rw [y, z]
        · have e1 : (zpush s v).2 1 i k = s.2 1 i k := zw_j z
          rw [e1]
          have a6' := a6 k u (by rw [y]; show k < zh s; omega)
          refine (sI_ne (by decide)).trans ((sI_nej ?_).trans a6')
          show (10 * i + s.1 6 i 0 + 10 + k).toNat ≠ (ztp s).toNat
          unfold ztp; rw [y]; omega
    · have lt : i < zf s := by omega
      have l3' := l3 i p lt
      have l2' := l2 i p q'
      refine (hF i p q').lo ⟨p, by omega⟩ (fun j => (sI_ne (by omega)).trans (sI_ne (by omega))) (fun k u w => (sI_ne (by decide)).trans (sI_nej ?_)) (fun k u w => (sI_ne (by decide)).trans (sI_nej ?_)) rfl (zi_i y) rfl rfl rfl (fun _ => rfl) (fun k => zw_i y)
      · unfold ztp; omega
      · unfold ztp; omega
  · exact (sI_nej (by decide)).trans ((sI_ne (by decide)).trans h14)
  · have e1 : ztp (zpush s v) = ztp s + 1 := by
      show 10 * zf s + s.1 6 (zf s) 0 + 10 + (zpush s v).1 3 (zf s) 0 = _
      rw [show (zpush s v).1 3 (zf s) 0 = zh s + 1 from zi_e]
      unfold ztp; omega
    rw [e1]; exact sI_eq
  · exact (sI_nej (by decide)).trans ((sI_ne (by decide)).trans h15)
  · exact (sI_nej (by decide)).trans ((sI_ne (by decide)).trans h19)
end S95
