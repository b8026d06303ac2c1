/-! the least suite: what both compute -/
/-- a set kills all that is killed -/
def klA (km : Int → Nat) (n s : Nat) : Prop := ∀ k : Int, 0 ≤ k → k < n → km k = 0 ∨ km k &&& s ≠ 0
def lsS (km : Int → Nat) (n m : Nat) : Prop := m < 65536 ∧ m &&& porN km n = m ∧ klA km n m ∧ ∀ t, t < 65536 → t &&& porN km n = t → klA km n t → keyN m ≤ keyN t
def lsR (km : Int → Nat) (n N m : Nat) : Prop := m < 2 ^ N ∧ klA km n m ∧ ∀ t, t < 2 ^ N → klA km n t → keyN m ≤ keyN t
section S9cs
variable {d : Nat} {M : Mem} {w U s t n a b c e k N x ka : Nat} {km : Int → Nat} {v1 v2 : Int32}
theorem porN_in : ∀ (n : Nat) (k : Int), 0 ≤ k → k < n → km k &&& porN km n = km k := by
  intro n
  induction n with
  | zero => intro k a b; omega
  | succ n ih =>
    intro k a b
    show km k &&& (porN km n ||| km n) = km k
    rw [Nat.and_or_distrib_left]
    by_cases y : k = n
    · rw [y, Nat.and_self]
      refine Nat.eq_of_testBit_eq fun i => ?_
      rw [Nat.testBit_or, Nat.testBit_and]
      cases (km (n : Int)).testBit i <;> simp
    · rw [ih k a (by omega)]
      refine Nat.eq_of_testBit_eq fun i => ?_
      rw [Nat.testBit_or, Nat.testBit_and]
      cases (km k).testBit i <;> simp
theorem klA.sub (h : klA km n s) : klA km n (s &&& porN km n) := fun k a b => by
  rcases h k a b with z | z
  · exact Or.inl z
  · right
    rw [Nat.and_comm s, ← Nat.and_assoc, porN_in n k a b]; exact z
theorem klA.all : klA km n (porN km n) := fun k a b => by
  rw [porN_in n k a b]
  by_cases y : km k = 0
  · exact Or.inl y
  · exact Or.inr y
theorem ls_one {m r : Nat} (hN : N ≤ 16) (hk : ∀ k : Int, 0 ≤ k → k < n → km k < 2 ^ N) (h : lsS km n m) (g : lsR km n N r) : m = r := by
  have hp : 2 ^ N ≤ 65536 := Nat.pow_le_pow_right (n := 2) (by decide) hN
  have hu : porN km n < 2 ^ N := porN_b hk
  have hm : m < 2 ^ N := Nat.lt_of_le_of_lt (by rw [← h.2.1]; exact Nat.and_le_right) hu
  have hr := g.1
  have e1 := g.2.2 m hm h.2.2.1
  have e2 := h.2.2.2 (r &&& porN km n) (Nat.lt_of_le_of_lt Nat.and_le_right (by omega)) (by rw [Nat.and_assoc, Nat.and_self]) g.2.1.sub
  have e3 : keyN (r &&& porN km n) ≤ keyN r := by
    have := popN_s 16 r (porN km n) (by omega)
    by_cases y : popN 16 (r &&& porN km n) = popN 16 r
    · rw [this.2 y]; exact Nat.le_refl _
    · have := (key_l (s := r &&& porN km n) (t := r) (Nat.lt_of_le_of_lt Nat.and_le_left (by omega)) (by omega)).2 (Or.inl (by omega))
      omega
  exact key_i h.1 (by omega) (by omega)
theorem iI_p32 {z : Int} : iI (z + 4294967296) = iI z := by
  rw [← iI_add, show iI 4294967296 = 0 by decide +kernel, Int32.add_zero]
theorem and_16 (hx : x < 65536) (y : Nat) : x &&& y = x &&& (y % 65536) := by
  have h := Nat.and_mod_two_pow (a := x) (b := y) (n := 16)
  rw [show (2 : Nat) ^ 16 = 65536 from rfl, Nat.mod_eq_of_lt hx] at h
  have l : x &&& y < 65536 := Nat.lt_of_le_of_lt Nat.and_le_left hx
  rw [Nat.mod_eq_of_lt l] at h
  exact h
/-- the lowest bit -/
theorem low_i (hd : x < 65536) : iI (x : Int) &&& (-iI (x : Int)) = iI (lowN 16 x : Int) := by
  by_cases y : x = 0
  · subst y
    decide +kernel
  · rw [iI_neg, ← iI_p32 (z := -(x : Int)), show (-(x : Int) + 4294967296) = ((4294967296 - x : Nat) : Int) by omega, iI_and, and_16 hd, show (4294967296 - x) % 65536 = 65536 - x by omega]
    rw [show (65536 : Nat) = 2 ^ 16 from rfl, low_and 16 x hd (by omega)]
theorem bz (h : a < 65536) : (iI (a : Int) = 0) ↔ a = 0 := by
  constructor
  · intro z
    rw [li_0] at z
    have := iI_in z (by omega) (by omega)
    omega
  · intro z; subst z; exact li_0.symm
theorem ahd_i (hs : s < 65536) (ht : t < 65536) : (iI (s : Int) &&& iI ((s ^^^ t : Nat) : Int)) &&& (-iI ((s ^^^ t : Nat) : Int)) = iI ((s &&& lowN 16 (s ^^^ t) : Nat) : Int) := by
  have hx : s ^^^ t < 65536 := Nat.xor_lt_two_pow (n := 16) hs ht
  have : (iI (s : Int) &&& iI ((s ^^^ t : Nat) : Int)) &&& (-iI ((s ^^^ t : Nat) : Int)) = iI (s : Int) &&& (iI ((s ^^^ t : Nat) : Int) &&& (-iI ((s ^^^ t : Nat) : Int))) := Int32.and_assoc _ _ _
  rw [this, low_i hx, iI_and]
/-- isBetter() -/
theorem zc58 (hd : 2 ≤ d) (hs : s < 65536) (ht : t < 65536) (h1 : v1 = iI (s : Int)) (h2 : v2 = iI (t : Int)) : runX d 58 [.int v1, .int v2] M = some (.int (iI (if keyN s < keyN t then 1 else 0)), M) := by
  obtain ⟨d, rfl⟩ : ∃ e, d = e + 1 := ⟨d - 1, by omega⟩
  subst h1; subst h2
  have b1 := popN_b 16 s
  have b2 := popN_b 16 t
  have hx : s &&& lowN 16 (s ^^^ t) < 65536 := Nat.lt_of_le_of_lt Nat.and_le_left hs
  have lr := low_rev 16 s t hs ht
  have kl := key_l hs ht
  rw [r58]; unfold b58; rw [aI_e, aI_e, aZ_e]; unfold c58
  rw [cI_e (zr315 (by omega)), cI_e (zr315 (by omega)), bcx_e hs, bcx_e ht, ltI_q (z := (popN 16 t : Int) - popN 16 s) (sbI rfl rfl), iI_xor, lt_e, jn_v, jn_v]
  have one : keyN s < keyN t → (jv (fun (s8 : Unit) => jv (fun (s7 : Int32) => rtZ s7 M) ((1 : Int32))) () : XA) = some (.int (iI (if keyN s < keyN t then 1 else 0)), M) := fun z => by
    rw [if_pos z, jv_e, jv_e, rtZ_e (Or.inr rfl)]; rfl
  have zero : ¬ keyN s < keyN t → (jv (fun (s9 : Unit) => jv (fun (s7 : Int32) => rtZ s7 M) ((0 : Int32))) () : XA) = some (.int (iI (if keyN s < keyN t then 1 else 0)), M) := fun z => by
    rw [if_neg z, jv_e, jv_e, rtZ_e (Or.inl rfl)]; rfl
  by_cases y : popN 16 s < popN 16 t
  · rw [if_pos (lsI_p li_0 rfl (by omega))]
    exact one (kl.2 (Or.inl y))
  · rw [if_neg (lsI_n li_0 rfl (by omega)), jn_v]
    by_cases y2 : popN 16 s = popN 16 t
    · rw [if_pos (show iI ((popN 16 t : Int) - popN 16 s) = 0 by rw [y2, Int.sub_self]; rfl), ahd_i hs ht]
      by_cases y3 : s &&& lowN 16 (s ^^^ t) = 0
      · rw [if_pos ((bz hx).2 y3)]
        exact zero fun z => by
          rcases kl.1 z with z | z
          · omega
          · exact (lr.2 z.2) y3
      · rw [if_neg fun z => y3 ((bz hx).1 z)]
        exact one (kl.2 (Or.inr ⟨y2, lr.1 y3⟩))
    · rw [if_neg (eqI_n rfl li_0 (by omega))]
      exact zero fun z => by
        rcases kl.1 z with z | z <;> omega
/-- isAhead() -/
theorem zr285 (hd : 2 ≤ d) (hs : s < 65536) (ht : t < 65536) (h1 : v1 = iI (s : Int)) (h2 : v2 = iI (t : Int)) : runX d 285 [.int v1, .int v2] M = some (.int (iI (if revN 16 t < revN 16 s then 1 else 0)), M) := by
  obtain ⟨d, rfl⟩ : ∃ e, d = e + 2 := ⟨d - 2, by omega⟩
  subst h1; subst h2
  have hxx : s ^^^ t < 65536 := Nat.xor_lt_two_pow (n := 16) hs ht
  have hx : s &&& lowN 16 (s ^^^ t) < 65536 := Nat.lt_of_le_of_lt Nat.and_le_left hs
  have lr := low_rev 16 s t hs ht
  have e313 : runX (d + 1) 313 [.int (iI ((s ^^^ t : Nat) : Int))] M = some (.int (iI (lowN 16 (s ^^^ t) : Int)), M) := by
    rw [r313]; unfold b313; rw [aI_e, aZ_e]; unfold c313
    rw [low_i hxx]
  rw [r285]; unfold b285; rw [aI_e, aI_e, aZ_e]; unfold c285
  rw [iI_xor, lt_e, jn_v, jn_v]
  by_cases y : s ^^^ t = 0
  · rw [if_pos ((bz hxx).2 y), if_neg (fun z => (lr.2 z) (by rw [y]; exact Nat.and_zero _)), jv_e, jv_e, rtZ_e (Or.inl rfl)]; rfl
  · rw [if_neg fun z => y ((bz hxx).1 z), cI_e e313, iI_and]
    by_cases y3 : s &&& lowN 16 (s ^^^ t) = 0
    · rw [if_pos ((bz hx).2 y3), if_neg (fun z => (lr.2 z) y3), jv_e, jv_e, rtZ_e (Or.inl rfl)]; rfl
    · rw [if_neg fun z => y3 ((bz hx).1 z), if_pos (lr.1 y3), jv_e, rtZ_e (Or.inr rfl)]; rfl
end S9cs
