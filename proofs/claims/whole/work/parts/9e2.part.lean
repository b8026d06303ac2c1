/-! histories: rows of OPS, whole numbers -/
/-- kind, how many; 0 what, 1 FROM, 2 TO; 0 number, 1 answer -/
abbrev HY : Type := (Int × Int) × (Nat → Int → Int) × (Nat → Int → Int32)
def hyK (h : HY) : Int := h.1.1
def hyN (h : HY) : Int := h.1.2
def hyW (h : HY) (k : Int) : Int := h.2.1 0 k
def hyF (h : HY) (k : Int) : Int := h.2.1 1 k
def hyT (h : HY) (k : Int) : Int := h.2.1 2 k
def hyV (h : HY) (k : Int) : Int32 := h.2.2 0 k
def hyA (h : HY) (k : Int) : Int32 := h.2.2 1 k
def hyO (h : HY) : Prop := (0 ≤ hyK h ∧ hyK h ≤ 2) ∧ (0 ≤ hyN h ∧ hyN h ≤ 8) ∧ ∀ k : Int, 0 ≤ k → k < hyN h → (0 ≤ hyW h k ∧ hyW h k ≤ 1) ∧ 0 ≤ hyF h k ∧ hyF h k ≤ hyT h k ∧ hyT h k ≤ 1000
/-- what is, the first one's place, the place behind, what is put, whether all was right -/
abbrev HQ : Type := Int32 × Int × Int × (Int → Int32) × Int
def hst (h : HY) (k : Int) (s : HQ) : HQ :=
  if hyK h = 2 then
    (if hyW h k = 0 then (s.1, s.2.1, s.2.2.1 + 1, (fun j => if j = s.2.2.1 then hyV h k else s.2.2.2.1 j), if hyA h k = 0 then s.2.2.2.2 else 0)
     else if s.2.1 = s.2.2.1 then (s.1, s.2.1, s.2.2.1, s.2.2.2.1, if hyA h k = -1 then s.2.2.2.2 else 0)
     else (s.1, s.2.1 + 1, s.2.2.1, s.2.2.2.1, if hyA h k = s.2.2.2.1 s.2.1 then s.2.2.2.2 else 0))
  else if hyW h k = 1 then (s.1, s.2.1, s.2.2.1, s.2.2.2.1, if hyA h k = s.1 then s.2.2.2.2 else 0)
  else if hyK h = 1 then (s.1 + hyV h k, s.2.1, s.2.2.1, s.2.2.2.1, if hyA h k = s.1 + hyV h k then s.2.2.2.2 else 0)
  else (hyV h k, s.2.1, s.2.2.1, s.2.2.2.1, if hyA h k = 0 then s.2.2.2.2 else 0)
def hf (h : HY) (r : Int → Int) : Nat → HQ
  | 0 => (0, 0, 0, fun _ => 0, 1)
  | i + 1 => hst h (r (i : Int)) (hf h r i)
/-- an OP may come next -/
def hmy (h : HY) (r : Int → Int) (L : Nat) (o : Int) : Prop := (∀ i : Nat, i < L → r (i : Int) ≠ o) ∧ ∀ a : Int, 0 ≤ a → a < hyN h → (∃ i : Nat, i < L ∧ r (i : Int) = a) ∨ a = o ∨ hyF h o ≤ hyT h a
def hok (h : HY) (r : Int → Int) (L : Nat) : Prop := ∀ i : Nat, i < L → (0 ≤ r (i : Int) ∧ r (i : Int) < hyN h) ∧ hmy h r i (r (i : Int)) ∧ (hf h r (i + 1)).2.2.2.2 = 1
def hxt (r r' : Int → Int) (L : Nat) : Prop := ∀ i : Nat, i < L → r' (i : Int) = r (i : Int)
def hlt (n : Nat) (r r' : Int → Int) : Prop := ∃ i : Nat, i < n ∧ (∀ j : Nat, j < i → r (j : Int) = r' (j : Int)) ∧ r (i : Int) < r' (i : Int)
/-- none goes on from it; the least that does -/
def hnn (h : HY) (r : Int → Int) (L : Nat) : Prop := ∀ r' : Int → Int, hxt r r' L → ¬ hok h r' (hyN h).toNat
def hls (h : HY) (r : Int → Int) (L : Nat) (r' : Int → Int) : Prop := hxt r r' L ∧ hok h r' (hyN h).toNat ∧ ∀ r'' : Int → Int, hxt r r'' L → hok h r'' (hyN h).toNat → ¬ hlt (hyN h).toNat r'' r'
def hnb (h : HY) (r : Int → Int) (L : Nat) (o : Int) : Prop := ∀ r' : Int → Int, hxt r r' L → hok h r' (hyN h).toNat → ¬ r' (L : Int) < o
def hup (r : Int → Int) (L : Nat) (o : Int) : Int → Int := fun j => if j = (L : Int) then o else r j
def hmk (r : Int → Int) : Nat → Nat
  | 0 => 0
  | L + 1 => hmk r L + 2 ^ (r (L : Int)).toNat
section S9e2
variable {h : HY} {r r' a b : Int → Int} {L L' n i : Nat} {o : Int}
theorem hup_e : hup r L o (L : Int) = o := if_pos rfl
theorem hup_n {j : Int} (z : j ≠ L) : hup r L o j = r j := if_neg z
theorem hup_x : hxt r (hup r L o) L := fun i a => hup_n (by omega)
theorem hf_c : ∀ L : Nat, hxt r r' L → hf h r' L = hf h r L
  | 0, _ => rfl
  | L + 1, g => by
    show hst h (r' (L : Int)) (hf h r' L) = hst h (r (L : Int)) (hf h r L)
    rw [hf_c L fun i a => g i (by omega), g L (by omega)]
theorem hst_b (s : HQ) (k : Int) (m : Int) (g : 0 ≤ s.2.1 ∧ s.2.1 ≤ s.2.2.1 ∧ s.2.2.1 ≤ m ∧ (s.2.2.2.2 = 0 ∨ s.2.2.2.2 = 1)) : 0 ≤ (hst h k s).2.1 ∧ (hst h k s).2.1 ≤ (hst h k s).2.2.1 ∧ (hst h k s).2.2.1 ≤ m + 1 ∧ ((hst h k s).2.2.2.2 = 0 ∨ (hst h k s).2.2.2.2 = 1) ∧ s.2.2.1 ≤ (hst h k s).2.2.1 ∧ ((hst h k s).2.2.2.2 = 1 → s.2.2.2.2 = 1) := by
  obtain ⟨g1, g2, g3, g4⟩ := g
  unfold hst
  by_cases c1 : hyK h = 2
  · rw [if_pos c1]
    by_cases c2 : hyW h k = 0
    · rw [if_pos c2]
      dsimp only
      refine ⟨g1, by omega, by omega, ?_, by omega, ?_⟩
      · split <;> omega
      · split <;> omega
    · rw [if_neg c2]
      by_cases c3 : s.2.1 = s.2.2.1
      · rw [if_pos c3]
        dsimp only
        refine ⟨g1, by omega, by omega, ?_, by omega, ?_⟩
        · split <;> omega
        · split <;> omega
      · rw [if_neg c3]
        dsimp only
        refine ⟨by omega, by omega, by omega, ?_, by omega, ?_⟩
        · split <;> omega
        · split <;> omega
  · rw [if_neg c1]
    by_cases c2 : hyW h k = 1
    · rw [if_pos c2]
      dsimp only
      refine ⟨g1, by omega, by omega, ?_, by omega, ?_⟩
      · split <;> omega
      · split <;> omega
    · rw [if_neg c2]
      by_cases c3 : hyK h = 1
      · rw [if_pos c3]
        dsimp only
        refine ⟨g1, by omega, by omega, ?_, by omega, ?_⟩
        · split <;> omega
        · split <;> omega
      · rw [if_neg c3]
        dsimp only
        refine ⟨g1, by omega, by omega, ?_, by omega, ?_⟩
        · split <;> omega
        · split <;> omega
theorem hf_b : ∀ L : Nat, 0 ≤ (hf h r L).2.1 ∧ (hf h r L).2.1 ≤ (hf h r L).2.2.1 ∧ (hf h r L).2.2.1 ≤ L ∧ ((hf h r L).2.2.2.2 = 0 ∨ (hf h r L).2.2.2.2 = 1)
  | 0 => ⟨Int.le_refl _, Int.le_refl _, Int.le_refl _, Or.inr rfl⟩
  | L + 1 => by
    obtain ⟨g1, g2, g3, g4, -⟩ := hst_b (h := h) (hf h r L) (r (L : Int)) (L : Int) (hf_b L)
    exact ⟨g1, g2, by have : ((L + 1 : Nat) : Int) = (L : Int) + 1 := by omega
                      rw [this]; exact g3, g4⟩
theorem hmy_c (g : hxt r r' L) (x : hmy h r' L o) : hmy h r L o := ⟨fun i a => by
  rw [← g i a]
  exact x.1 i a, fun c a b => by
  rcases x.2 c a b with ⟨i, y, z⟩ | y
  · exact Or.inl ⟨i, y, by rw [← g i y]; exact z⟩
  · exact Or.inr y⟩
theorem hxt.sy (g : hxt r r' L) : hxt r' r L := fun i a => (g i a).symm
theorem hxt.lo (g : hxt r r' L) (z : L' ≤ L) : hxt r r' L' := fun i a => g i (by omega)
theorem hok.cg (g : hxt r r' L) (x : hok h r L) : hok h r' L := fun i a => by
  obtain ⟨x1, x2, x3⟩ := x i a
  rw [g i a]
  exact ⟨x1, hmy_c (g.lo (by omega)).sy x2, by rw [hf_c (i + 1) (g.lo (by omega))]; exact x3⟩
theorem hok.up (x : hok h r L) (y : 0 ≤ o ∧ o < hyN h) (z : hmy h r L o) (w : (hf h (hup r L o) (L + 1)).2.2.2.2 = 1) : hok h (hup r L o) (L + 1) := fun i a => by
  by_cases c : i = L
  · rw [c, hup_e]
    exact ⟨y, hmy_c hup_x.sy z, w⟩
  · exact (x.cg hup_x) i (by omega)
theorem hls.one (x : hls h r L a) (y : hls h r L b) : ∀ i : Nat, i < (hyN h).toNat → a (i : Int) = b (i : Int) := by
  intro i
  induction i using Nat.strongRecOn with
  | _ i ih =>
    intro z
    have e : ∀ j : Nat, j < i → a (j : Int) = b (j : Int) := fun j w => ih j w (by omega)
    by_cases c1 : a (i : Int) < b (i : Int)
    · exact absurd ⟨i, z, e, c1⟩ (y.2.2 a x.1 x.2.1)
    · by_cases c2 : b (i : Int) < a (i : Int)
      · exact absurd ⟨i, z, fun j w => (e j w).symm, c2⟩ (x.2.2 b y.1 y.2.1)
      · omega
theorem hls.ne (x : hls h r L a) (y : hnn h r L) : False := y a x.1 x.2.1
theorem hnb.z (hL : L < (hyN h).toNat) : hnb h r L 0 := fun r' _ y z => by
  have := (y L hL).1
  omega
theorem hnb.st (x : hnb h r L o) (y : ¬ (hmy h r L o ∧ (hf h (hup r L o) (L + 1)).2.2.2.2 = 1) ∨ hnn h (hup r L o) (L + 1)) (hL : L < (hyN h).toNat) : hnb h r L (o + 1) := fun r' g z w => by
  have n := x r' g z
  have e : r' (L : Int) = o := by omega
  have g2 : hxt (hup r L o) r' (L + 1) := fun i c => by
    by_cases u : i = L
    · rw [u, hup_e]; exact e
    · rw [hup_n (by omega)]; exact g i (by omega)
  rcases y with y | y
  · obtain ⟨z1, z2, z3⟩ := z L hL
    rw [e] at z2
    exact y ⟨hmy_c g z2, by rw [← hf_c (L + 1) g2]; exact z3⟩
  · exact y r' g2 z
theorem hnb.en (x : hnb h r L (hyN h)) (hL : L < (hyN h).toNat) : hnn h r L := fun r' g z => by
  have := (z L hL).1
  exact x r' g z (by omega)
theorem hnb.fd (x : hnb h r L o) (y : hls h (hup r L o) (L + 1) r') : hls h r L r' := by
  obtain ⟨y1, y2, y3⟩ := y
  have e : r' (L : Int) = o := (y1 L (by omega)).trans hup_e
  refine ⟨fun i z => (y1 i (by omega)).trans (hup_n (by omega)), y2, fun r'' g z w => ?_⟩
  obtain ⟨i, w1, w2, w3⟩ := w
  by_cases c1 : i < L
  · have e1 := g i c1
    have e2 : r' (i : Int) = r (i : Int) := (y1 i (by omega)).trans (hup_n (by omega))
    omega
  by_cases c2 : i = L
  · subst c2
    exact x r'' g z (by omega)
  · refine y3 r'' (fun j v => ?_) z ⟨i, w1, w2, w3⟩
    by_cases u : j = L
    · rw [u, hup_e, ← e]; exact w2 L (by omega)
    · rw [hup_n (by omega)]; exact g j (by omega)
theorem hls.z (x : hok h r (hyN h).toNat) : hls h r (hyN h).toNat r := ⟨fun _ _ => rfl, x, fun r'' g _ w => by
  obtain ⟨i, w1, w2, w3⟩ := w
  have := g i w1
  omega⟩
/-- sets of OPS -/
theorem hb_1 : ∀ m : Nat, m < 256 → ∀ i : Nat, i < 8 → m / 2 ^ i % 2 = 0 → m + 2 ^ i < 256 ∧ popN 16 (m + 2 ^ i) = popN 16 m + 1 ∧ ∀ j : Nat, j < 8 → (m + 2 ^ i) / 2 ^ j % 2 = if j = i then 1 else m / 2 ^ j % 2 := by decide +kernel
theorem hb_2 : ∀ m : Nat, m < 256 → ∀ i : Nat, i < 8 → ((iI (m : Int) >>> (iI (i : Int) &&& 31)) &&& ((1 : Int32))) = iI ((m / 2 ^ i % 2 : Nat) : Int) := by decide +kernel
theorem hb_3 : ∀ m : Nat, m < 256 → ∀ i : Nat, i < 8 → m / 2 ^ i % 2 = 0 → (iI (m : Int) ||| (((1 : Int32)) <<< (iI (i : Int) &&& 31))) = iI ((m + 2 ^ i : Nat) : Int) := by decide +kernel
theorem hmk_b : ∀ L : Nat, hok h r L → hyN h ≤ 8 → hmk r L < 256 ∧ popN 16 (hmk r L) = L ∧ ∀ j : Nat, j < 8 → (hmk r L / 2 ^ j % 2 = 1 ↔ ∃ i : Nat, i < L ∧ r (i : Int) = (j : Int))
  | 0, _, _ => ⟨by show 0 < 256; decide, by show popN 16 0 = 0; decide, fun j _ => by
    have e : hmk r 0 = 0 := rfl
    rw [e, Nat.zero_div]
    constructor
    · intro z
      exact absurd z (by decide)
    · intro ⟨i, z, _⟩
      omega⟩
  | L + 1, x, hn => by
    obtain ⟨g1, g2, g3⟩ := hmk_b L (fun i a => x i (by omega)) hn
    obtain ⟨x1, x2, -⟩ := x L (by omega)
    obtain ⟨k, hk⟩ : ∃ k : Nat, r (L : Int) = (k : Int) := ⟨(r (L : Int)).toNat, by omega⟩
    have k8 : k < 8 := by omega
    have c : hmk r L / 2 ^ k % 2 = 0 := by
      by_cases z : hmk r L / 2 ^ k % 2 = 1
      · obtain ⟨i, w1, w2⟩ := (g3 k k8).mp z
        exact absurd (w2.trans hk.symm) (x2.1 i w1)
      · omega
    obtain ⟨b1, b2, b3⟩ := hb_1 _ g1 k k8 c
    have e : hmk r (L + 1) = hmk r L + 2 ^ k := by
      show hmk r L + 2 ^ (r (L : Int)).toNat = _
      rw [hk]
      rfl
    rw [e]
    refine ⟨b1, by rw [b2, g2], fun j hj => ?_⟩
    rw [b3 j hj]
    by_cases z : j = k
    · rw [if_pos z]
      exact ⟨fun _ => ⟨L, by omega, by rw [hk, z]⟩, fun _ => rfl⟩
    · rw [if_neg z, g3 j hj]
      constructor
      · intro ⟨i, w1, w2⟩
        exact ⟨i, by omega, w2⟩
      · intro ⟨i, w1, w2⟩
        refine ⟨i, ?_, w2⟩
        by_cases u : i = L
        · rw [u, hk] at w2
          omega
        · omega
end S9e2
