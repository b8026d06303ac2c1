/-! the first object's machine: what fails -/
/-- what fails is on its way: the code on top -/
def zCL (e : ZS) (κ : ZK) (u : ZS) (M : Mem) (fl ar : Int) : Prop := CT M ∧ zCG e κ u M ∧ (∀ i, 0 ≤ i → i < u.1 0 0 0 → zCi u M i) ∧ M.1 88 14 = iI (u.1 0 0 0) ∧ M.1 88 15 = iI 0 ∧ M.1 88 19 = iI fl ∧ M.1 88 20 = u.2 5 0 0 ∧ (ar = 0 → M.1 88 21 = iI (u.1 13 0 0)) ∧ (ar = 1 → u.1 13 0 0 = zpc u)
/-- all codes have been left -/
def zCN (e : ZS) (κ : ZK) (t : ZS) (M : Mem) : Prop := CT M ∧ zCG e κ t M ∧ M.1 88 14 = iI 0 ∧ ((t.1 1 0 0 = 2 ∧ M.1 88 19 = iI 0) ∨ (t.1 1 0 0 = 4 ∧ M.1 88 19 = iI 1 ∧ M.1 88 20 = t.2 5 0 0 ∧ M.1 88 21 = iI (t.1 13 0 0)) ∨ (t.1 1 0 0 = 8 ∧ M.1 88 19 = iI 2 ∧ M.1 88 20 = t.2 5 0 0 ∧ M.1 88 21 = iI (t.1 13 0 0)) ∨ (t.1 1 0 0 = 5 ∧ M.1 88 19 = iI 3 ∧ M.1 88 20 = t.2 5 0 0 ∧ M.1 88 21 = iI (t.1 13 0 0)) ∨ (t.1 1 0 0 = 6 ∧ M.1 88 19 = iI 3))
section S98
variable {d : Nat} {e s s' u : ZS} {κ : ZK} {M M' M2 : Mem} {a j : Nat} {v : Int32} {c t k i n p fl ar : Int} {Y : Nat → Int → Int}
theorem zTC.in (h : zTC e Y i c) (p : Int) (h1 : i ≤ p) (h2 : p < c) : zIn e p := by
  unfold zIn
  have := h.1
  omega
theorem zTC.sd (h : zTC e Y i c) (hz : e.1 21 0 0 ≤ 1000) {p q : Int} (h1 : i ≤ p ∧ p < c) (h2 : i ≤ q ∧ q < c) : p < 1000 ↔ q < 1000 := by
  have := h.1
  omega
theorem zIn.sd (h : zIn e p) (hE : zE1 e κ M) : zSd e (zsd p) ∧ 0 ≤ p - zoff p ∧ p - zoff p < e.1 21 (zsd p) 0 ∧ 1000 * zsd p + (p - zoff p) = p := by
  unfold zIn at h
  unfold zSd zsd zoff
  have h1 := hE.1
  have h2 := hE.2.1
  by_cases c : p < 1000
  · rw [if_pos c, if_pos c]
    exact ⟨Or.inl rfl, by omega, by omega, by omega⟩
  · rw [if_neg c, if_neg c]
    exact ⟨Or.inr ⟨rfl, by omega⟩, by omega, by omega, by omega⟩
/-- operation, number and what is caught at a place -/
theorem zE1.at (hE : zE1 e κ M) (h : zIn e p) : M.1 (κ 1 (zsd p)) (p - zoff p).toNat = iI (e.1 0 p 0) ∧ M.1 (κ 2 (zsd p)) (p - zoff p).toNat = iI (e.1 1 p 0) ∧ M.1 (κ 3 (zsd p)) (p - zoff p).toNat = iI (e.1 19 p 0) := by
  obtain ⟨a1, a2, a3, a4⟩ := h.sd hE
  have := ((hE.2.2 _ a1).2.2.2 _ a2 a3)
  rw [a4] at this
  exact this
/-- what is known of an open code while something fails -/
theorem zWT.m3 (h : zWT e u) (hm : u.1 1 0 0 = 3 ∨ u.1 1 0 0 = 7) : 1 ≤ u.1 0 0 0 ∧ ∃ Y a c, zwf e u (zf u) Y a c := by
  obtain ⟨hb, hc⟩ := h
  rcases hc with ⟨z, -⟩ | ⟨-, h1, w⟩ | ⟨z, -⟩ | z | z
  · omega
  · exact ⟨h1, w⟩
  all_goals omega
/-- members and units change, no more -/
theorem zCG.oth (h : zCG e κ s M) (hk : zK8 κ) (f : ∀ a j, a ≠ 106 → a ≠ 107 → M'.1 a j = M.1 a j) (g1 : ∀ k, k = 10 ∨ k = 11 ∨ k = 12 ∨ k = 14 ∨ k = 15 ∨ k = 17 → s'.1 k = s.1 k) (g2 : ∀ k, k = 4 ∨ 7 ≤ k → s'.2 k = s.2 k) (g3 : s'.1 1 0 0 = 6 ↔ s.1 1 0 0 = 6) (n1 : ∀ id, zId e id → (e.1 4 id 0 = 2 ∨ (e.1 4 id 0 = 1 ∧ s'.1 8 (e.1 3 id 0) 0 = 1)) → M'.1 106 (e.1 23 id 0).toNat = s'.2 2 id 0) (n2 : ∀ id, zId e id → e.1 4 id 0 = 3 → s'.1 8 (e.1 3 id 0) 0 = 1 → ∀ i, 0 ≤ i → i < e.1 5 id 0 → M'.1 106 (e.1 23 id 0 + i).toNat = s'.2 3 id i) (n3 : ∀ k, 0 ≤ k → k < 16 → M'.1 107 k.toNat = iI (s'.1 8 k 0)) : zCG e κ s' M' := by
  obtain ⟨h1, h2, h3, ⟨h4, h5, h6, h7⟩, h8, h9, h10⟩ := h
  have ecw : zcw s' = zcw s := by
    unfold zcw
    rw [g1 12 (by omega)]
    by_cases y : s.1 1 0 0 = 6
    · rw [if_pos y, if_pos (g3.2 y)]
    · rw [if_neg y, if_neg fun q => y (g3.1 q)]
  have a0 := hk 0 (by omega)
  have a1 := hk 1 (by omega)
  have a2 := hk 2 (by omega)
  refine ⟨n1, n2, n3, ⟨?_, ?_, ?_, ?_⟩, fun x p u w => ?_, fun q p r => ?_, fun x => ?_⟩
  · rw [f _ _ (by omega) (by omega), g2 4 (by omega)]; exact h4
  · rw [f _ _ (by omega) (by omega), g1 10 (by omega)]; exact h5
  · rw [f _ _ (by omega) (by omega), g1 11 (by omega)]; exact h6
  · rw [f _ _ (by omega) (by omega), ecw]; exact h7
  · rw [f _ _ (by omega) (by omega), f _ _ (by omega) (by omega), f _ _ (by omega) (by omega), g2 7 (by omega), g2 8 (by omega), g1 15 (by omega)]
    exact h8 x p u w
  · obtain ⟨c1, c2, c3⟩ := h9 q p r
    have t1 : 108 ≤ zTw q ∧ zTw q ≤ 136 := by unfold zTw; omega
    rw [f _ _ (by omega) (by omega), g1 17 (by omega), g2 12 (by omega), g2 13 (by omega)]
    exact ⟨c1, fun j x y => by rw [f _ _ (by omega) (by omega)]; exact c2 j x y, fun j x y => by rw [f _ _ (by omega) (by omega)]; exact c3 j x y⟩
  · rw [f _ _ (by omega) (by omega), f _ _ (by omega) (by omega), g1 11 (by omega), g1 14 (by omega), g2 9 (by omega), g2 10 (by omega)]
    exact ⟨(h10 x).1, fun t p q => by rw [f _ _ (by omega) (by omega), f _ _ (by omega) (by omega)]; exact (h10 x).2 t p q⟩
/-- a unit is lost -/
theorem zCG.lost (h : zCG e κ s M) (hk : zK8 κ) (hb : 0 ≤ k ∧ k < 16) (e8 : ∀ x, s'.1 8 x 0 = if x = k then 2 else s.1 8 x 0) (g1 : ∀ k, k = 10 ∨ k = 11 ∨ k = 12 ∨ k = 14 ∨ k = 15 ∨ k = 17 → s'.1 k = s.1 k) (g2 : ∀ k, k = 2 ∨ k = 3 ∨ k = 4 ∨ 7 ≤ k → s'.2 k = s.2 k) (g3 : s'.1 1 0 0 = 6 ↔ s.1 1 0 0 = 6) : zCG e κ s' (sI M 107 k.toNat (iI 2)) := by
  refine h.oth hk (fun a j p q => sI_ne q) g1 (fun k p => g2 k (by omega)) g3 (fun id p q => ?_) (fun id p q r i u w => ?_) (fun x p q => ?_)
  · rw [g2 2 (by omega)]
    refine (sI_ne (by decide)).trans (h.1 id p ?_)
    rw [e8] at q
    by_cases y : e.1 3 id 0 = k
    · rw [if_pos y] at q
      exact Or.inl (q.resolve_right fun z => by omega)
    · rw [if_neg y] at q; exact q
  · rw [g2 3 (by omega)]
    refine (sI_ne (by decide)).trans (h.2.1 id p q ?_ i u w)
    rw [e8] at r
    by_cases y : e.1 3 id 0 = k
    · rw [if_pos y] at r; omega
    · rw [if_neg y] at r; exact r
  · rw [e8]
    by_cases y : x = k
    · rw [if_pos y, y]; exact sI_eq
    · rw [if_neg y]; exact (sI_nej (by omega)).trans (h.2.2.1 x p q)
/-- what goes on behind what was caught -/
def fj104 (d : Nat) : (Option Nat × Int32 × Int32 × Mem) → XA := jv fun (s3 : Option Nat × Int32 × Int32 × Mem) => asI 100 s3.2.2.2 s3.1 ((0 : Int32)) s3.2.1 fun M4 => gtP (4, 22) M4 (some 88) 11 fun x5 => gtI (4, 22) M4 (some 88) 20 fun x6 => asI 100 M4 x5 s3.2.2.1 x6 fun M7 => ptI (4, 22) M7 (some 88) 12 (s3.2.2.1 + ((1 : Int32))) fun M8 => ptI (4, 22) M8 (some 88) 19 ((0 : Int32)) fun M9 => some (.null, M9)
def fj186 : Mem → XA := jv fun (s10 : Mem) => some (.null, s10)
theorem mfj104 {a v c : Int32} {f : Nat} {b : Int} (hC : CT M) (hf : f < 12) (hc : c = iI b) (hb : 0 ≤ b ∧ b < 2520) : fj104 d (some (94 + f), v, c, M) = some (.null, sI (sI (sI (sI M (94 + f) 0 v) 92 b.toNat (M.1 88 20)) 88 12 (iI (b + 1))) 88 19 (iI 0)) := by
  subst hc
  have k := ck_88 hC
  have kf : M.2.2.2[94 + f]? = some (100, 4) := ck94n hC hf
  unfold fj104
  refine (jv_e).trans ?_
  dsimp only
  rw [li_0]
  refine (asI_e kf (by omega) (by omega) (by omega)).trans ?_
  refine (gtP_q (M := sI M (94 + f) 0 v) k (cf_88_11 hC)).trans ?_
  refine (gtI_q (M := sI M (94 + f) 0 v) k (sI_ne (by omega))).trans ?_
  refine (asI_e (M := sI M (94 + f) 0 v) (ck_92 hC) (by omega) (by omega) (by omega)).trans ?_
  refine (ptI_q (M := sI (sI M (94 + f) 0 v) 92 b.toNat (M.1 88 20)) (z := b + 1) k (adI rfl li_1)).trans ?_
  exact ptI_e (M := sI (sI (sI M (94 + f) 0 v) 92 b.toNat (M.1 88 20)) 88 12 (iI (b + 1))) k
end S98
