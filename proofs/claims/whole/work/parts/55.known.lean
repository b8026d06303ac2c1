/-! what has been read: both know the same of it -/
/-- a code that begins at a with s LOCALS set -/
def EnT (G : Nat → Int → Int) (e a s : Int) : Prop := ∃ b, 0 ≤ a ∧ a ≤ b ∧ b + 2 ≤ e ∧ b + 2 - a ≤ 200 ∧ (0 ≤ s ∧ s ≤ 10) ∧ Tyb 0 G a b s s ∧ G 0 b = 0 ∧ G 2 b = -2 ∧ G 0 (b + 1) = 8 ∧ G 2 (b + 1) = -2
/-- where unit j ends: f = 2 among members, 4 among codes -/
def enU (H : HG) (ut : Int) (f : Nat) (tot j : Int) : Int := if j = ut then tot else hEF H 1 f j
def UnW (G : Nat → Int → Int) (H : HG) (R : RG) (e j : Int) (s f g : Nat) : Prop := hEF H 1 f j = R.1 1 f j ∧ 0 ≤ R.1 1 f j ∧ R.1 1 f j ≤ 3 ∧ ∀ i, 0 ≤ i → i < R.1 1 f j → hAV H s j i.toNat = R.1 1 g (3 * j + i) ∧ EnT G e (R.1 1 g (3 * j + i)) 0
def UnK (G : Nat → Int → Int) (H : HG) (R : RG) (ut e j : Int) : Prop := hEX H 1 j = R.2 1 j ∧ ((hEF H 1 5 j = -2 ∧ R.1 1 5 j = -1) ∨ (R.1 1 5 j = hEF H 1 5 j ∧ EnT G e (hEF H 1 5 j) 0)) ∧ UnW G H R e j 0 7 6 ∧ UnW G H R e j 1 9 8 ∧ (0 ≤ hEF H 1 1 j ∧ hEF H 1 1 j ≤ enU H ut 2 (hEN H 2) j ∧ enU H ut 2 (hEN H 2) j ≤ hEN H 2 ∧ 0 ≤ hEF H 1 3 j ∧ hEF H 1 3 j ≤ enU H ut 4 e j ∧ enU H ut 4 e j ≤ e) ∧ (∀ k, 0 ≤ k → k < hEN H 2 → (hEF H 2 1 k = j ↔ hEF H 1 1 j ≤ k ∧ k < enU H ut 2 (hEN H 2) j)) ∧ ∀ k, 0 ≤ k → k < e → (G 4 k = j ↔ hEF H 1 3 j ≤ k ∧ k < enU H ut 4 e j) ∧ (k < hEF H 1 3 j → G 4 k < j)
def MbK (G : Nat → Int → Int) (H : HG) (R : RG) (ut e k : Int) : Prop := hEX H 2 k = R.2 2 k ∧ (∀ f, 1 ≤ f → f ≤ 5 → hEF H 2 f k = R.1 2 f k) ∧ (0 ≤ R.1 2 1 k ∧ R.1 2 1 k ≤ ut) ∧ (0 ≤ R.1 2 2 k ∧ R.1 2 2 k ≤ 4) ∧ (0 ≤ R.1 2 3 k ∧ R.1 2 3 k ≤ 1) ∧ (-999999999 ≤ R.1 2 4 k ∧ R.1 2 4 k ≤ 999999999) ∧ (R.1 2 2 k = 3 → 1 ≤ R.1 2 4 k ∧ R.1 2 4 k ≤ 50) ∧ ((R.1 2 2 k = 4 ∧ R.1 2 4 k ≤ 4 ∧ EnT G e (R.1 2 5 k) (R.1 2 4 k)) ∨ (R.1 2 2 k < 4 ∧ R.1 2 5 k = -2))
def CaK (G : Nat → Int → Int) (H : HG) (R : RG) (ut e k : Int) : Prop := hEX H 3 k = R.2 3 k ∧ (hEF H 3 1 k = R.1 3 1 k ∧ hEF H 3 4 k = R.1 3 4 k ∧ hEF H 3 5 k = R.1 3 5 k ∧ hEF H 3 6 k = R.1 3 6 k ∧ hEF H 3 7 k = R.1 3 7 k) ∧ (0 ≤ R.1 3 1 k ∧ R.1 3 1 k ≤ ut) ∧ (-999999999 ≤ R.1 3 4 k ∧ R.1 3 4 k ≤ 999999999) ∧ (0 ≤ R.1 3 6 k ∧ R.1 3 6 k ≤ 999999999) ∧ (0 ≤ R.1 3 7 k ∧ R.1 3 7 k ≤ 1) ∧ EnT G e (R.1 3 5 k) 1
def PrK (G : Nat → Int → Int) (H : HG) (R : RG) (ut e k : Int) : Prop := hEX H 4 k = R.2 4 k ∧ (hEF H 4 1 k = R.1 4 1 k ∧ hEF H 4 4 k = R.1 4 4 k ∧ hEF H 4 5 k = R.1 4 5 k) ∧ (0 ≤ R.1 4 1 k ∧ R.1 4 1 k ≤ ut) ∧ (1 ≤ R.1 4 4 k ∧ R.1 4 4 k ≤ 4) ∧ EnT G e (R.1 4 5 k) (R.1 4 4 k)
def HRK (G : Nat → Int → Int) (e : Int) (H : HG) (R : RG) (ut cnt : Int) : Prop := (hEN H 1 = ut + 1 ∧ R.1 1 0 0 = ut + 1 ∧ hEN H 2 = R.1 2 0 0 ∧ hEN H 3 = R.1 3 0 0 ∧ hEN H 4 = R.1 4 0 0) ∧ (0 ≤ ut ∧ ut ≤ 7 ∧ 0 ≤ hEN H 2 ∧ hEN H 2 ≤ 12 * ut + cnt ∧ cnt = hEN H 2 - hEF H 1 1 ut ∧ 0 ≤ cnt ∧ cnt ≤ 12 ∧ 0 ≤ hEN H 3 ∧ hEN H 3 ≤ 16 ∧ 0 ≤ hEN H 4 ∧ hEN H 4 ≤ 6 ∧ 0 ≤ e) ∧ (∀ j, 0 ≤ j → j ≤ ut → UnK G H R ut e j) ∧ (∀ k, 0 ≤ k → k < hEN H 2 → MbK G H R ut e k) ∧ (∀ k, 0 ≤ k → k < hEN H 3 → CaK G H R ut e k) ∧ ∀ k, 0 ≤ k → k < hEN H 4 → PrK G H R ut e k
/-- codes and uses of a parcel, all -/
def DGK (G U : Nat → Int → Int) (X : Nat → Int → Int64) (e u : Int) : Prop := (∀ q, 0 ≤ q → q < u → UsK (U 6 q) 0 G U X 0 e q ∧ G 4 (U 2 q) = U 6 q ∧ 0 ≤ U 6 q ∧ U 6 q ≤ 7) ∧ ∀ j, 0 ≤ j → j < e → (0 ≤ G 4 j ∧ G 4 j ≤ 7 ∧ 0 ≤ G 5 j ∧ G 5 j ≤ 1 ∧ 0 ≤ G 0 j ∧ G 0 j ≤ 29 ∧ (8 ≤ G 0 j → (24 ≤ G 0 j ∧ G 0 j ≤ 26) ∨ G 3 j = 0)) ∧ ((G 1 j = G 3 j ∧ (G 0 j < 3 ∨ 7 < G 0 j)) ∨ ∃ q, 0 ≤ q ∧ q < u ∧ U 2 q = j)
def CMK (M : Mem) (G : Nat → Int → Int) (e : Int) : Prop := ∀ j, 0 ≤ j → j < e → M.1 75 j.toNat = iI (G 5 j)
section S55
variable {G G' U U' : Nat → Int → Int} {X X' : Nat → Int → Int64} {H H' : HG} {R R' : RG} {e e' a b s u u' uc ut cnt mu j k : Int} {M M2 : Mem} {W : List (Nat × Nat)} {f : Nat}
theorem EnT.ag (h : EnT G e a s) (hg : Ag G G' e) (he : e ≤ e') : EnT G' e' a s := by
  obtain ⟨b, h1, h2, h3, h4, h5, h6, h7, h8, h9, h10⟩ := h
  exact ⟨b, h1, h2, by omega, h4, h5, h6.ag (fun k t p z => hg k t (by omega)), (hg 0 b (by omega)).trans h7, (hg 2 b (by omega)).trans h8, (hg 0 _ (by omega)).trans h9, (hg 2 _ (by omega)).trans h10⟩
theorem EnT.of (h : Tyb 0 G e (e' - 2) s s) (h0 : 0 ≤ e) (hs : 0 ≤ s ∧ s ≤ 10) (hb : e + 2 ≤ e' ∧ e' - e ≤ 200) (h8 : G 0 (e' - 1) = 8) (h2 : G 2 (e' - 1) = -2) (h3 : G 0 (e' - 2) = 0) (h4 : G 2 (e' - 2) = -2) : EnT G e' e s := by
  have q : e' - 2 + 1 = e' - 1 := by omega
  exact ⟨e' - 2, h0, by omega, by omega, by omega, hs, h, h3, h4, by rw [q]; exact h8, by rw [q]; exact h2⟩
theorem enU_p {tot : Int} : enU H ut f tot ut = tot := if_pos rfl
theorem enU_n {tot : Int} (h : ¬ j = ut) : enU H ut f tot j = hEF H 1 f j := if_neg h
/-- more codes, all of the latest unit -/
theorem UnW.gr {s f g : Nat} (h : UnW G H R e j s f g) (hg : Ag G G' e) (he : e ≤ e') : UnW G' H R e' j s f g := by
  obtain ⟨h1, h2, h3, h4⟩ := h
  exact ⟨h1, h2, h3, fun i p q => ⟨(h4 i p q).1, (h4 i p q).2.ag hg he⟩⟩
theorem UnK.gr (h : UnK G H R ut e j) (hg : Ag G G' e) (he : e ≤ e') (hn : ∀ k, e ≤ k → k < e' → G' 4 k = ut) : UnK G' H R ut e' j := by
  obtain ⟨h1, h2, h3, h4, ⟨c1, c2, c3, c4, c5, c6⟩, h6, h7⟩ := h
  refine ⟨h1, h2.imp id fun z => ⟨z.1, z.2.ag hg he⟩, h3.gr hg he, h4.gr hg he, ⟨c1, c2, c3, c4, ?_, ?_⟩, h6, fun k p q => ?_⟩
  · by_cases y : j = ut
    · subst y; rw [enU_p] at c5 ⊢; omega
    · rw [enU_n y] at c5 ⊢; omega
  · by_cases y : j = ut
    · subst y; rw [enU_p]; omega
    · rw [enU_n y] at c6 ⊢; omega
  · by_cases y : j = ut
    · subst y
      rw [enU_p] at c5 h7 ⊢
      by_cases z : k < e
      · obtain ⟨w1, w2⟩ := h7 k p z
        rw [hg 4 k z]
        exact ⟨by rw [w1]; omega, w2⟩
      · have := hn k (by omega) q
        exact ⟨by omega, fun w => by omega⟩
    · rw [enU_n y] at c5 c6 h7 ⊢
      by_cases z : k < e
      · rw [hg 4 k z]; exact h7 k p z
      · have := hn k (by omega) q
        exact ⟨by omega, fun w => by omega⟩
theorem MbK.gr (h : MbK G H R ut e k) (hg : Ag G G' e) (he : e ≤ e') : MbK G' H R ut e' k := by
  obtain ⟨h1, h2, h3, h4, h5, h6, h7, h8⟩ := h
  exact ⟨h1, h2, h3, h4, h5, h6, h7, h8.imp (fun z => ⟨z.1, z.2.1, z.2.2.ag hg he⟩) id⟩
theorem CaK.gr (h : CaK G H R ut e k) (hg : Ag G G' e) (he : e ≤ e') : CaK G' H R ut e' k := by
  obtain ⟨h1, h2, h3, h4, h5, h6, h7⟩ := h
  exact ⟨h1, h2, h3, h4, h5, h6, h7.ag hg he⟩
theorem PrK.gr (h : PrK G H R ut e k) (hg : Ag G G' e) (he : e ≤ e') : PrK G' H R ut e' k := by
  obtain ⟨h1, h2, h3, h4, h5⟩ := h
  exact ⟨h1, h2, h3, h4, h5.ag hg he⟩
theorem HRK.gr (h : HRK G e H R ut cnt) (hg : Ag G G' e) (he : e ≤ e') (hn : ∀ k, e ≤ k → k < e' → G' 4 k = ut) : HRK G' e' H R ut cnt := by
  obtain ⟨h1, h2, h3, h4, h5, h6⟩ := h
  exact ⟨h1, by omega, fun j p q => (h3 j p q).gr hg he hn, fun k p q => (h4 k p q).gr hg he, fun k p q => (h5 k p q).gr hg he, fun k p q => (h6 k p q).gr hg he⟩
/-- the same numbers: of units, of members, of CASES, of properties -/
theorem UnW.cg {s f g : Nat} (h : UnW G H R e j s f g) (h1 : hEF H' 1 f j = hEF H 1 f j) (h2 : R'.1 1 f j = R.1 1 f j) (h3 : ∀ i, hAV H' s j i = hAV H s j i) (h4 : ∀ i, 0 ≤ i → i < 3 → R'.1 1 g (3 * j + i) = R.1 1 g (3 * j + i)) : UnW G H' R' e j s f g := by
  obtain ⟨q1, q2, q3, q4⟩ := h
  unfold UnW
  rw [h1, h2]
  refine ⟨q1, q2, q3, fun i p q => ?_⟩
  rw [h3, h4 i p (by omega)]
  exact q4 i p q
theorem MbK.cg (h : MbK G H R ut e k) (h1 : ∀ f, 1 ≤ f → f ≤ 5 → hEF H' 2 f k = hEF H 2 f k ∧ R'.1 2 f k = R.1 2 f k) (h2 : hEX H' 2 k = hEX H 2 k ∧ R'.2 2 k = R.2 2 k) : MbK G H' R' ut e k := by
  obtain ⟨q1, q2, q3⟩ := h
  unfold MbK
  rw [h2.1, h2.2, (h1 1 (by omega) (by omega)).2, (h1 2 (by omega) (by omega)).2, (h1 3 (by omega) (by omega)).2, (h1 4 (by omega) (by omega)).2, (h1 5 (by omega) (by omega)).2]
  exact ⟨q1, fun f a b => by rw [(h1 f a b).1, (h1 f a b).2]; exact q2 f a b, q3⟩
theorem CaK.cg (h : CaK G H R ut e k) (h1 : ∀ f, 1 ≤ f → f ≤ 7 → hEF H' 3 f k = hEF H 3 f k ∧ R'.1 3 f k = R.1 3 f k) (h2 : hEX H' 3 k = hEX H 3 k ∧ R'.2 3 k = R.2 3 k) : CaK G H' R' ut e k := by
  unfold CaK at h ⊢
  rw [h2.1, h2.2, (h1 1 (by omega) (by omega)).1, (h1 1 (by omega) (by omega)).2, (h1 4 (by omega) (by omega)).1, (h1 4 (by omega) (by omega)).2, (h1 5 (by omega) (by omega)).1, (h1 5 (by omega) (by omega)).2, (h1 6 (by omega) (by omega)).1, (h1 6 (by omega) (by omega)).2, (h1 7 (by omega) (by omega)).1, (h1 7 (by omega) (by omega)).2]
  exact h
theorem PrK.cg (h : PrK G H R ut e k) (h1 : ∀ f, 1 ≤ f → f ≤ 5 → hEF H' 4 f k = hEF H 4 f k ∧ R'.1 4 f k = R.1 4 f k) (h2 : hEX H' 4 k = hEX H 4 k ∧ R'.2 4 k = R.2 4 k) : PrK G H' R' ut e k := by
  unfold PrK at h ⊢
  rw [h2.1, h2.2, (h1 1 (by omega) (by omega)).1, (h1 1 (by omega) (by omega)).2, (h1 4 (by omega) (by omega)).1, (h1 4 (by omega) (by omega)).2, (h1 5 (by omega) (by omega)).1, (h1 5 (by omega) (by omega)).2]
  exact h
/-- the same units, perhaps a member more of the latest -/
theorem UnK.cg (h : UnK G H R ut e j) (h1 : ∀ f, 1 ≤ f → f ≤ 9 → hEF H' 1 f j = hEF H 1 f j ∧ R'.1 1 f j = R.1 1 f j) (h2 : hEX H' 1 j = hEX H 1 j ∧ R'.2 1 j = R.2 1 j) (h3 : ∀ s i, hAV H' s j i = hAV H s j i) (h4 : ∀ g i, 1 ≤ g → 0 ≤ i → i < 3 → R'.1 1 g (3 * j + i) = R.1 1 g (3 * j + i)) (h5 : hEN H 2 ≤ hEN H' 2) (h6 : ∀ k, 0 ≤ k → k < hEN H 2 → hEF H' 2 1 k = hEF H 2 1 k) (h7 : ∀ k, hEN H 2 ≤ k → k < hEN H' 2 → hEF H' 2 1 k = ut) : UnK G H' R' ut e j := by
  obtain ⟨q1, q2, q3, q4, ⟨c1, c2, c3, c4, c5, c6⟩, q6, q7⟩ := h
  have e4 : enU H' ut 4 e j = enU H ut 4 e j := by unfold enU; rw [(h1 4 (by omega) (by omega)).1]
  unfold UnK
  rw [h2.1, h2.2, (h1 5 (by omega) (by omega)).1, (h1 5 (by omega) (by omega)).2, (h1 1 (by omega) (by omega)).1, (h1 3 (by omega) (by omega)).1, e4]
  refine ⟨q1, q2, q3.cg (h1 7 (by omega) (by omega)).1 (h1 7 (by omega) (by omega)).2 (h3 0) (h4 6 · (by omega)), q4.cg (h1 9 (by omega) (by omega)).1 (h1 9 (by omega) (by omega)).2 (h3 1) (h4 8 · (by omega)), ⟨c1, ?_, ?_, c4, c5, c6⟩, fun k p q => ?_, q7⟩
  · by_cases y : j = ut
    · subst y; rw [enU_p] at c2 ⊢; omega
    · rw [enU_n y] at c2 ⊢; rw [(h1 2 (by omega) (by omega)).1]; exact c2
  · by_cases y : j = ut
    · subst y; rw [enU_p]; omega
    · rw [enU_n y] at c3 ⊢; rw [(h1 2 (by omega) (by omega)).1]; omega
  · by_cases y : j = ut
    · subst y
      rw [enU_p] at c2 q6 ⊢
      by_cases z : k < hEN H 2
      · rw [h6 k p z, q6 k p z]; omega
      · have := h7 k (by omega) q
        omega
    · rw [enU_n y] at c2 c3 q6 ⊢
      rw [(h1 2 (by omega) (by omega)).1]
      by_cases z : k < hEN H 2
      · rw [h6 k p z, q6 k p z]
      · have := h7 k (by omega) q
        omega
/-- a member more -/
theorem HRK.mb (h : HRK G e H R ut cnt) (hc : cnt < 12) (e1 : hEN H' 1 = hEN H 1 ∧ hEN H' 2 = hEN H 2 + 1 ∧ hEN H' 3 = hEN H 3 ∧ hEN H' 4 = hEN H 4) (e2 : ∀ k f j, 1 ≤ k → k ≤ 4 → ¬ (k = 2 ∧ j = hEN H 2) → hEF H' k f j = hEF H k f j) (e3 : ∀ k j, 1 ≤ k → k ≤ 4 → ¬ (k = 2 ∧ j = hEN H 2) → hEX H' k j = hEX H k j) (e4 : ∀ s j i, hAV H' s j i = hAV H s j i) (r1 : R'.1 2 0 0 = R.1 2 0 0 + 1) (r2 : ∀ k f j, ¬ (k = 2 ∧ f = 0) → ¬ (k = 2 ∧ j = hEN H 2) → R'.1 k f j = R.1 k f j) (r3 : ∀ k j, ¬ (k = 2 ∧ j = hEN H 2) → R'.2 k j = R.2 k j) (hu : R'.1 2 1 (hEN H 2) = ut) (hm : MbK G H' R' ut e (hEN H 2)) : HRK G e H' R' ut (cnt + 1) := by
  obtain ⟨⟨a1, a2, a3, a4, a5⟩, b1, h3, h4, h5, h6⟩ := h
  have g1 : hEF H' 1 1 ut = hEF H 1 1 ut := e2 1 1 ut (by omega) (by omega) (by omega)
  refine ⟨⟨by omega, by rw [r2 1 0 0 (by omega) (by omega)]; exact a2, by omega, by rw [r2 3 0 0 (by omega) (by omega)]; omega, by rw [r2 4 0 0 (by omega) (by omega)]; omega⟩, by rw [g1]; omega, fun j p q => ?_, fun k p q => ?_, fun k p q => ?_, fun k p q => ?_⟩
  · refine (h3 j p q).cg (fun f _ _ => ⟨e2 1 f j (by omega) (by omega) (by omega), r2 1 f j (by omega) (by omega)⟩) ⟨e3 1 j (by omega) (by omega) (by omega), r3 1 j (by omega)⟩ (fun s i => e4 s j i) (fun g i _ _ _ => r2 1 g _ (by omega) (by omega)) (by omega) (fun k p q => e2 2 1 k (by omega) (by omega) (by omega)) (fun k p q => ?_)
    have : k = hEN H 2 := by omega
    rw [this, hm.2.1 1 (by omega) (by omega)]
    exact hu
  · by_cases y : k = hEN H 2
    · rw [y]; exact hm
    · exact (h4 k p (by omega)).cg (fun f _ _ => ⟨e2 2 f k (by omega) (by omega) (by omega), r2 2 f k (by omega) (by omega)⟩) ⟨e3 2 k (by omega) (by omega) (by omega), r3 2 k (by omega)⟩
  · exact (h5 k p (by omega)).cg (fun f _ _ => ⟨e2 3 f k (by omega) (by omega) (by omega), r2 3 f k (by omega) (by omega)⟩) ⟨e3 3 k (by omega) (by omega) (by omega), r3 3 k (by omega)⟩
  · exact (h6 k p (by omega)).cg (fun f _ _ => ⟨e2 4 f k (by omega) (by omega) (by omega), r2 4 f k (by omega) (by omega)⟩) ⟨e3 4 k (by omega) (by omega) (by omega), r3 4 k (by omega)⟩
/-- CASES more -/
theorem HRK.ca {n : Int} (h : HRK G e H R ut cnt) (hc : hEN H 3 ≤ n ∧ n ≤ 16) (e1 : hEN H' 1 = hEN H 1 ∧ hEN H' 2 = hEN H 2 ∧ hEN H' 3 = n ∧ hEN H' 4 = hEN H 4) (e2 : ∀ k f j, 1 ≤ k → k ≤ 4 → ¬ (k = 3 ∧ hEN H 3 ≤ j) → hEF H' k f j = hEF H k f j) (e3 : ∀ k j, 1 ≤ k → k ≤ 4 → ¬ (k = 3 ∧ hEN H 3 ≤ j) → hEX H' k j = hEX H k j) (e4 : ∀ s j i, hAV H' s j i = hAV H s j i) (r1 : R'.1 3 0 0 = n) (r2 : ∀ k f j, ¬ (k = 3 ∧ f = 0) → ¬ (k = 3 ∧ hEN H 3 ≤ j) → R'.1 k f j = R.1 k f j) (r3 : ∀ k j, ¬ (k = 3 ∧ hEN H 3 ≤ j) → R'.2 k j = R.2 k j) (hm : ∀ k, hEN H 3 ≤ k → k < n → CaK G H' R' ut e k) : HRK G e H' R' ut cnt := by
  obtain ⟨⟨a1, a2, a3, a4, a5⟩, b1, h3, h4, h5, h6⟩ := h
  have g1 : hEF H' 1 1 ut = hEF H 1 1 ut := e2 1 1 ut (by omega) (by omega) (by omega)
  refine ⟨⟨by omega, by rw [r2 1 0 0 (by omega) (by omega)]; exact a2, by rw [r2 2 0 0 (by omega) (by omega)]; omega, by omega, by rw [r2 4 0 0 (by omega) (by omega)]; omega⟩, by rw [g1]; omega, fun j p q => ?_, fun k p q => ?_, fun k p q => ?_, fun k p q => ?_⟩
  · exact (h3 j p q).cg (fun f _ _ => ⟨e2 1 f j (by omega) (by omega) (by omega), r2 1 f j (by omega) (by omega)⟩) ⟨e3 1 j (by omega) (by omega) (by omega), r3 1 j (by omega)⟩ (fun s i => e4 s j i) (fun g i _ _ _ => r2 1 g _ (by omega) (by omega)) (by omega) (fun k p q => e2 2 1 k (by omega) (by omega) (by omega)) (fun k p q => by omega)
  · exact (h4 k p (by omega)).cg (fun f _ _ => ⟨e2 2 f k (by omega) (by omega) (by omega), r2 2 f k (by omega) (by omega)⟩) ⟨e3 2 k (by omega) (by omega) (by omega), r3 2 k (by omega)⟩
  · by_cases y : hEN H 3 ≤ k
    · exact hm k y (by omega)
    · exact (h5 k p (by omega)).cg (fun f _ _ => ⟨e2 3 f k (by omega) (by omega) (by omega), r2 3 f k (by omega) (by omega)⟩) ⟨e3 3 k (by omega) (by omega) (by omega), r3 3 k (by omega)⟩
  · exact (h6 k p (by omega)).cg (fun f _ _ => ⟨e2 4 f k (by omega) (by omega) (by omega), r2 4 f k (by omega) (by omega)⟩) ⟨e3 4 k (by omega) (by omega) (by omega), r3 4 k (by omega)⟩
/-- a property more -/
theorem HRK.pr (h : HRK G e H R ut cnt) (hc : hEN H 4 < 6) (e1 : hEN H' 1 = hEN H 1 ∧ hEN H' 2 = hEN H 2 ∧ hEN H' 3 = hEN H 3 ∧ hEN H' 4 = hEN H 4 + 1) (e2 : ∀ k f j, 1 ≤ k → k ≤ 4 → ¬ (k = 4 ∧ j = hEN H 4) → hEF H' k f j = hEF H k f j) (e3 : ∀ k j, 1 ≤ k → k ≤ 4 → ¬ (k = 4 ∧ j = hEN H 4) → hEX H' k j = hEX H k j) (e4 : ∀ s j i, hAV H' s j i = hAV H s j i) (r1 : R'.1 4 0 0 = R.1 4 0 0 + 1) (r2 : ∀ k f j, ¬ (k = 4 ∧ f = 0) → ¬ (k = 4 ∧ j = hEN H 4) → R'.1 k f j = R.1 k f j) (r3 : ∀ k j, ¬ (k = 4 ∧ j = hEN H 4) → R'.2 k j = R.2 k j) (hm : PrK G H' R' ut e (hEN H 4)) : HRK G e H' R' ut cnt := by
  obtain ⟨⟨a1, a2, a3, a4, a5⟩, b1, h3, h4, h5, h6⟩ := h
  have g1 : hEF H' 1 1 ut = hEF H 1 1 ut := e2 1 1 ut (by omega) (by omega) (by omega)
  refine ⟨⟨by omega, by rw [r2 1 0 0 (by omega) (by omega)]; exact a2, by rw [r2 2 0 0 (by omega) (by omega)]; omega, by rw [r2 3 0 0 (by omega) (by omega)]; omega, by omega⟩, by rw [g1]; omega, fun j p q => ?_, fun k p q => ?_, fun k p q => ?_, fun k p q => ?_⟩
  · exact (h3 j p q).cg (fun f _ _ => ⟨e2 1 f j (by omega) (by omega) (by omega), r2 1 f j (by omega) (by omega)⟩) ⟨e3 1 j (by omega) (by omega) (by omega), r3 1 j (by omega)⟩ (fun s i => e4 s j i) (fun g i _ _ _ => r2 1 g _ (by omega) (by omega)) (by omega) (fun k p q => e2 2 1 k (by omega) (by omega) (by omega)) (fun k p q => by omega)
  · exact (h4 k p (by omega)).cg (fun f _ _ => ⟨e2 2 f k (by omega) (by omega) (by omega), r2 2 f k (by omega) (by omega)⟩) ⟨e3 2 k (by omega) (by omega) (by omega), r3 2 k (by omega)⟩
  · exact (h5 k p (by omega)).cg (fun f _ _ => ⟨e2 3 f k (by omega) (by omega) (by omega), r2 3 f k (by omega) (by omega)⟩) ⟨e3 3 k (by omega) (by omega) (by omega), r3 3 k (by omega)⟩
  · by_cases y : k = hEN H 4
    · rw [y]; exact hm
    · exact (h6 k p (by omega)).cg (fun f _ _ => ⟨e2 4 f k (by omega) (by omega) (by omega), r2 4 f k (by omega) (by omega)⟩) ⟨e3 4 k (by omega) (by omega) (by omega), r3 4 k (by omega)⟩
/-- what is told already: both find the same -/
theorem TdF.cg {F F' : Int → Int} {Y Y' : Int → Int64} {n u : Int} {y : Int64} {r : Int} (h : TdF F Y n u y r) (h1 : ∀ j, 0 ≤ j → j < n → F' j = F j ∧ Y' j = Y j) : TdF F' Y' n u y r := by
  rcases h with ⟨q, j, a, b, c⟩ | ⟨q, z⟩
  · exact Or.inl ⟨q, j, a, b, by rw [(h1 j a b).1, (h1 j a b).2]; exact c⟩
  · exact Or.inr ⟨q, fun j a b => by rw [(h1 j a b).1, (h1 j a b).2]; exact z j a b⟩
theorem HRK.td {y : Int64} {r : Int} (h : HRK G e H R ut cnt) (g : TdA H (hEN H 1 - 1) y r) : TdR R ut y r := by
  obtain ⟨⟨a1, a2, a3, a4, a5⟩, -, -, h4, h5, h6⟩ := h
  have eu : hEN H 1 - 1 = ut := by omega
  rw [eu] at g
  have one : ∀ k r, 2 ≤ k → k ≤ 4 → TdF (hEF H k 1) (hEX H k) (hEN H k) ut y r → TdF (R.1 k 1) (R.2 k) (R.1 k 0 0) ut y r := fun k r p q t => by
    have : k = 2 ∨ k = 3 ∨ k = 4 := by omega
    rcases this with z | z | z <;> subst z
    · rw [← a3]; exact t.cg fun j a b => ⟨((h4 j a b).2.1 1 (by omega) (by omega)).symm, (h4 j a b).1.symm⟩
    · rw [← a4]; exact t.cg fun j a b => ⟨(h5 j a b).2.1.1.symm, (h5 j a b).1.symm⟩
    · rw [← a5]; exact t.cg fun j a b => ⟨(h6 j a b).2.1.1.symm, (h6 j a b).1.symm⟩
  rcases g with ⟨q, k, a, b, t⟩ | ⟨q, z⟩
  · exact Or.inl ⟨q, k, a, b, one k 1 a b t⟩
  · exact Or.inr ⟨q, fun k a b => one k 0 a b (z k a b)⟩
theorem TdR.one {y : Int64} {u r r2 : Int} (h : TdR R u y r) (g : TdR R u y r2) : r = r2 := by
  rcases h with ⟨q, k, a, b, t⟩ | ⟨q, z⟩
  · rcases g with ⟨q2, -⟩ | ⟨q2, z2⟩
    · omega
    · have := t.one (z2 k a b); omega
  · rcases g with ⟨q2, k, a, b, t⟩ | ⟨q2, z2⟩
    · have := t.one (z k a b); omega
    · omega
/-- a code more: its operations, its uses -/
theorem TyX.ops {Y : Nat → Int → Int} {h td tp h' s' : Int} (k : TyX NoX G Y a b h s td tp h' s') (p : a ≤ j) (q : j < b) : (0 ≤ G 0 j ∧ G 0 j ≤ 29) ∧ (8 ≤ G 0 j → (24 ≤ G 0 j ∧ G 0 j ≤ 26) ∨ G 3 j = 0) := by
  obtain ⟨-, -, o⟩ := k.2 j p q
  rcases o with ⟨H', S', e, -⟩ | ⟨e, -⟩ | ⟨e, -⟩ | ⟨e, -⟩ | ⟨e, -⟩
  · unfold Eff at e; omega
  · omega
  · omega
  · omega
  · omega
theorem UsK.ag2 {c c' : Int} (h : UsK ut c G U X a b j) (hg : Ag G G' e) (hu : ∀ k, U' k j = U k j) (hx : X' 0 j = X 0 j) (hb : b ≤ e) (hc : c' ≤ c) (hab : e' ≤ a ∧ b ≤ k) : UsK ut c' G' U' X' e' k j := by
  unfold UsK at h ⊢
  obtain ⟨h1, h2, h3, h4, h5, h6, h7, h8, h9⟩ := h
  rw [hu, hu, hu, hu, hu, hu, hu, hu, hu, hu, hx, hg 0 _ (by omega), hg 6 _ (by omega)]
  exact ⟨h1, h2, h3, by omega, h5, h6, by omega, h8, h9⟩
theorem DGK.gr (h : DGK G U X e u) (hg : Ag G G' e) (hU : Ag U U' u) (hX : AgL X X' u) (hb : 0 ≤ e ∧ e + 2 ≤ e' ∧ 0 ≤ u ∧ u ≤ u' ∧ 0 ≤ uc) (d : DU ut mu uc G' U' X' e e' u u') (hut : 0 ≤ ut ∧ ut ≤ 7 ∧ 0 ≤ mu ∧ mu ≤ 1) (ty : Tyb 0 G' e (e' - 2) s s) (hs : 0 ≤ s) (h8 : G' 0 (e' - 1) = 8) (h3 : G' 0 (e' - 2) = 0) (h9 : G' 3 (e' - 1) = 0) : DGK G' U' X' e' u' := by
  refine ⟨fun q a b => ?_, fun j a b => ?_⟩
  · by_cases y : q < u
    · obtain ⟨z1, z2, z3⟩ := h.1 q a y
      have w := z1.2.2.2.1
      rw [hU 6 q y, hU 2 q y, hg 4 _ (by omega)]
      exact ⟨z1.ag2 hg (fun k => hU k q y) (hX 0 q y) (Int.le_refl _) (Int.le_refl _) (by omega), z2, z3⟩
    · have z1 := d.2.1 q (by omega) b
      have w := z1.2.2.2.1
      have z2 := d.2.2 (U' 2 q) w.1 w.2
      have z6 : U' 6 q = ut := z1.2.2.2.2.2.2.2.1
      rw [z6]
      exact ⟨z1.ag2 (e := e') Ag.r (fun _ => rfl) rfl (Int.le_refl _) (by omega) (by omega), z2.1.1, hut.1, hut.2.1⟩
  · by_cases y : j < e
    · obtain ⟨z1, z2⟩ := h.2 j a y
      rw [hg 4 j y, hg 5 j y, hg 0 j y, hg 3 j y, hg 1 j y]
      exact ⟨z1, z2.imp id fun ⟨q, q1, q2, q3⟩ => ⟨q, q1, by omega, by rw [hU 2 q q2]; exact q3⟩⟩
    · obtain ⟨⟨z1, z2⟩, z3⟩ := d.2.2 j (by omega) b
      refine ⟨?_, z3.imp id fun ⟨q, q1, q2, q3⟩ => ⟨q, by omega, q2, q3⟩⟩
      by_cases y1 : j < e' - 2
      · obtain ⟨Y, t⟩ := ty 0 (-1) (by omega) (by omega) (by omega) (by omega)
        have := t.ops (by omega) y1
        omega
      · have : j = e' - 2 ∨ j = e' - 1 := by omega
        rcases this with y2 | y2 <;> subst y2 <;> omega
end S55
