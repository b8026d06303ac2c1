/-! the reference's machine beside the small machine -/
/-- what it may change -/
def W_r : List (Nat × Nat) := [(160, 73), (160, 76), (160, 79), (160, 80), (160, 81), (160, 82), (160, 83), (160, 85), (160, 86), (160, 87), (160, 88), (160, 89), (160, 98), (210, 9999), (211, 9999), (212, 9999), (213, 9999), (214, 9999), (215, 9999), (216, 9999), (217, 9999), (218, 9999), (219, 9999), (220, 9999), (235, 9999), (236, 9999), (237, 9999)]
/-- the stack, the codes on it, what fails -/
def W_rf : List (Nat × Nat) := [(160, 73), (160, 76), (160, 86), (160, 87), (160, 88), (160, 89), (213, 9999), (214, 9999), (215, 9999)]
/-- rows of a parcel's codes (0) and of its members (1) -/
def zrp (e : ZS) (p : Int) : Int := if p < 1000 then 1000 * e.1 29 0 0 + p else 1000 * (e.1 29 1 0 - 1) + p
def zrm (e : ZS) (id : Int) : Int := if id < 96 then 96 * e.1 29 0 0 + id else 96 * (e.1 29 1 0 - 1) + id
def zRo (e : ZS) (M M' : Mem) : Prop := M'.2 = M.2 ∧ (∀ a j, inW W_r a j = false → M'.1 a j = M.1 a j) ∧ ∀ a j : Nat, a = 216 ∨ a = 217 ∨ a = 218 → ((j : Int) < 1000 * e.1 29 0 0 ∨ 1000 * e.1 29 0 0 + 1000 ≤ j ∨ e.1 10 0 0 ≠ 1) → M'.1 a j = M.1 a j
/-- what does not hang on the codes that are open -/
def zRG (e s : ZS) (M : Mem) : Prop := RT M ∧
  (∀ id, zId e id → (e.1 4 id 0 = 2 ∨ (e.1 4 id 0 = 1 ∧ s.1 8 (e.1 3 id 0) 0 = 1)) → M.1 211 id.toNat = s.2 2 id 0) ∧
  (∀ id, zId e id → e.1 4 id 0 = 3 → s.1 8 (e.1 3 id 0) 0 = 1 → ∀ i, 0 ≤ i → i < e.1 5 id 0 → M.1 212 (50 * id + i).toNat = s.2 3 id i) ∧
  (∀ k, 0 ≤ k → k < 16 → M.1 210 k.toNat = iI (s.1 8 k 0)) ∧
  (M.1 160 79 = s.2 4 0 0 ∧ M.1 160 80 = iI (s.1 9 0 0) ∧ M.1 160 81 = iI (s.1 10 0 0) ∧ M.1 160 82 = iI (s.1 11 0 0) ∧ M.1 160 83 = iI (s.1 12 0 0)) ∧
  (e.1 10 0 0 = 1 → ∀ p, 0 ≤ p → p < e.1 21 0 0 → M.1 216 (zrp e p).toNat = s.2 7 p 0 ∧ M.1 217 (zrp e p).toNat = s.2 8 p 0 ∧ M.1 218 (zrp e p).toNat = iI (s.1 15 p 0)) ∧
  (∀ q, 0 ≤ q → q < 8 → M.1 235 q.toNat = iI (s.1 17 q 0) ∧ (∀ j, 0 ≤ j → j < 50 → M.1 236 (50 * q + j).toNat = s.2 12 q j) ∧ ∀ j, 0 ≤ j → j < 200 → M.1 237 (200 * q + j).toNat = s.2 13 q j) ∧
  (e.1 10 2 0 = 1 → (M.1 160 98 = iI (s.1 14 0 0) ∧ s.1 11 0 0 ≤ s.1 14 0 0) ∧ ∀ t, 0 ≤ t → t < s.1 14 0 0 → M.1 219 t.toNat = s.2 9 t 0 ∧ M.1 220 t.toNat = s.2 10 t 0)
/-- an open code: LOCALS, where its TRYs lead, numbers -/
def zRf (s : ZS) (M : Mem) (i : Int) : Prop := (∀ k, 0 ≤ k → k < s.1 16 i 0 → M.1 214 (10 * i + k).toNat = s.2 0 i k) ∧ (∀ t, 0 ≤ t → t < s.1 4 i 0 → M.1 215 (25 * i + t).toNat = iI (s.1 7 i t)) ∧ ∀ k, 0 ≤ k → k < s.1 3 i 0 → M.1 213 (s.1 6 i 0 + k).toNat = s.2 1 i k
def zsp (s : ZS) : Int := s.1 6 (zf s) 0 + zh s
/-- a code goes on -/
def zRM (e s : ZS) (M : Mem) : Prop := zRG e s M ∧ (∀ i, 0 ≤ i → i < s.1 0 0 0 → zRf s M i) ∧ M.1 160 76 = iI (s.1 0 0 0) ∧ M.1 160 73 = iI (zsp s) ∧ M.1 160 85 = iI 0 ∧ M.1 160 86 = iI 0
/-- what changes of a state when only the open codes do -/
def zGr (s s' : ZS) : Prop := (∀ k, k = 8 ∨ k = 9 ∨ k = 10 ∨ k = 11 ∨ k = 12 ∨ k = 14 ∨ k = 15 ∨ k = 17 → s'.1 k = s.1 k) ∧ ∀ k, 2 ≤ k → k ≠ 5 → k ≠ 6 → s'.2 k = s.2 k
/-- where the codes stand, in the reference -/
def zLr (s : ZS) : Prop := (1 ≤ s.1 0 0 0 ∧ s.1 0 0 0 ≤ 12) ∧ (∀ i, 0 ≤ i → i < s.1 0 0 0 → 0 ≤ s.1 6 i 0 ∧ s.1 6 i 0 ≤ 200 * i ∧ 0 ≤ s.1 16 i 0 ∧ s.1 16 i 0 ≤ 10 ∧ 0 ≤ s.1 4 i 0 ∧ s.1 4 i 0 ≤ 20) ∧ (∀ i, 0 ≤ i → i < zf s → 0 ≤ s.1 3 i 0 ∧ s.1 6 i 0 + s.1 3 i 0 ≤ s.1 6 (zf s) 0) ∧ 0 ≤ zh s ∧ zh s ≤ 200
section S99x
variable {d : Nat} {e s s' t u : ZS} {M M' M1 M2 : Mem} {a b j N x y : Nat} {v v1 v2 w : Int32} {c k i n m p o q id : Int} {Y : Nat → Int → Int}
theorem zRo.r : zRo e M M := ⟨rfl, fun _ _ _ => rfl, fun _ _ _ _ => rfl⟩
theorem zRo.tr (h : zRo e M M1) (g : zRo e M1 M2) : zRo e M M2 := ⟨g.1.trans h.1, fun a j p => (g.2.1 a j p).trans (h.2.1 a j p), fun a j p q => (g.2.2 a j p q).trans (h.2.2 a j p q)⟩
/-- writes on the stack and into codes -/
def zRw (M M' : Mem) : Prop := M'.2 = M.2 ∧ ∀ a j, inW W_rf a j = false → M'.1 a j = M.1 a j
theorem zRw.r : zRw M M := ⟨rfl, fun _ _ _ => rfl⟩
theorem zRw.sI (g : zRw M M') (h : inW W_rf a j = true) : zRw M (sI M' a j v) := ⟨g.1, fun b i p => by
  by_cases c : b = a
  · by_cases c2 : i = j
    · subst c; subst c2; rw [h] at p; exact absurd p (by decide)
    · exact (sI_nej c2).trans (g.2 b i p)
  · exact (sI_ne c).trans (g.2 b i p)⟩
theorem zRw.ro (h : zRw M M') : zRo e M M' := ⟨h.1, fun a j p => h.2 a j (inW_m (L := W_rf) (L' := W_r) (by decide) p), fun a j p q => h.2 a j (by rcases p with p | p | p <;> subst p <;> exact inW_n (by decide) j)⟩
theorem RT.keep (h : RT M) (g : M'.2 = M.2) : RT M' := ⟨fun q y => by rw [congrArg (fun z => z.2.2) g]; exact h.1 q y, fun q y => by rw [congrArg (fun z => z.2.1) g]; exact h.2 q y⟩
theorem zRG.ff (h : zRG e s M) (f : zRw M M') (g : zGr s s') : zRG e s' M' := by
  obtain ⟨h0, h1, h2, h3, ⟨h4, h5, h6, h7, h8⟩, h9, h10, h11⟩ := h
  obtain ⟨g1, g2⟩ := g
  have o : ∀ a j, inW W_rf a j = false → M'.1 a j = M.1 a j := f.2
  refine ⟨h0.keep f.1, fun id p q => ?_, fun id p q r i u w => ?_, fun k p q => ?_, ⟨?_, ?_, ?_, ?_, ?_⟩, fun x p u w => ?_, fun q p r => ?_, fun x => ?_⟩
  · rw [o _ _ (inW_n (by decide) _), g2 2 (by omega) (by omega) (by omega)]
    rw [g1 8 (by omega)] at q
    exact h1 id p q
  · rw [o _ _ (inW_n (by decide) _), g2 3 (by omega) (by omega) (by omega)]
    rw [g1 8 (by omega)] at r
    exact h2 id p q r i u w
  · rw [o _ _ (inW_n (by decide) _), g1 8 (by omega)]; exact h3 k p q
  · rw [o _ _ (by decide), g2 4 (by omega) (by omega) (by omega)]; exact h4
  · rw [o _ _ (by decide), g1 9 (by omega)]; exact h5
  · rw [o _ _ (by decide), g1 10 (by omega)]; exact h6
  · rw [o _ _ (by decide), g1 11 (by omega)]; exact h7
  · rw [o _ _ (by decide), g1 12 (by omega)]; exact h8
  · rw [o _ _ (inW_n (by decide) _), o _ _ (inW_n (by decide) _), o _ _ (inW_n (by decide) _), g2 7 (by omega) (by omega) (by omega), g2 8 (by omega) (by omega) (by omega), g1 15 (by omega)]
    exact h9 x p u w
  · obtain ⟨c1, c2, c3⟩ := h10 q p r
    rw [o _ _ (inW_n (by decide) _), g1 17 (by omega), g2 12 (by omega) (by omega) (by omega), g2 13 (by omega) (by omega) (by omega)]
    exact ⟨c1, fun j x y => by rw [o _ _ (inW_n (by decide) _)]; exact c2 j x y, fun j x y => by rw [o _ _ (inW_n (by decide) _)]; exact c3 j x y⟩
  · rw [o _ _ (by decide), g1 11 (by omega), g1 14 (by omega), g2 9 (by omega) (by omega) (by omega), g2 10 (by omega) (by omega) (by omega)]
    exact ⟨(h11 x).1, fun t p q => by rw [o _ _ (inW_n (by decide) _), o _ _ (inW_n (by decide) _)]; exact (h11 x).2 t p q⟩
/-- a code below the top -/
theorem zRf.lo (h : zRf s M i) (hl : ∀ k, 0 ≤ k → k < s.1 16 i 0 → M'.1 214 (10 * i + k).toNat = M.1 214 (10 * i + k).toNat) (ht : ∀ k, 0 ≤ k → k < s.1 4 i 0 → M'.1 215 (25 * i + k).toNat = M.1 215 (25 * i + k).toNat) (hn : ∀ k, 0 ≤ k → k < s.1 3 i 0 → M'.1 213 (s.1 6 i 0 + k).toNat = M.1 213 (s.1 6 i 0 + k).toNat) (e3 : s'.1 3 i 0 = s.1 3 i 0) (e4 : s'.1 4 i 0 = s.1 4 i 0) (e6 : s'.1 6 i 0 = s.1 6 i 0) (e16 : s'.1 16 i 0 = s.1 16 i 0) (e7 : ∀ t, s'.1 7 i t = s.1 7 i t) (w0 : ∀ k, s'.2 0 i k = s.2 0 i k) (w1 : ∀ k, s'.2 1 i k = s.2 1 i k) : zRf s' M' i := by
  obtain ⟨h1, h2, h3⟩ := h
  unfold zRf
  rw [e3, e4, e6, e16]
  exact ⟨fun k p q => by rw [hl k p q, w0]; exact h1 k p q, fun k p q => by rw [ht k p q, e7]; exact h2 k p q, fun k p q => by rw [hn k p q, w1]; exact h3 k p q⟩
theorem zBs.lr (h : zBs e s) : ∀ j : Nat, (j : Int) < s.1 0 0 0 → ∀ i : Int, 0 ≤ i → i < j → 0 ≤ s.1 3 i 0 ∧ s.1 6 i 0 + s.1 3 i 0 ≤ s.1 6 j 0 := by
  intro j
  induction j with
  | zero => intro _ i p q; omega
  | succ j ih =>
    intro hj i p q
    obtain ⟨a1, a2⟩ := h.2.1 j (by omega) (by omega)
    have a3 := a1.h
    have e1 : ((j + 1 : Nat) : Int) = (j : Int) + 1 := by omega
    rw [e1] at q ⊢
    by_cases y : i = j
    · subst y; omega
    · have := ih (by omega) i p (by omega)
      omega
theorem zwf.tr (w : zwf e s i Y p q) : 0 ≤ s.1 4 i 0 ∧ s.1 4 i 0 ≤ 20 := by
  have := (w.1.2 _ w.2.1.1 w.2.1.2).1
  have := w.2.2.2.2.1
  omega
theorem zWT.lr (h : zWT e s) (hm : s.1 1 0 0 = 0 ∨ s.1 1 0 0 = 1) : zLr s := by
  have ly := h.ly hm
  obtain ⟨hb', hc⟩ := h
  have hb : zBs e s := hb'
  have q : ∃ Y a c, zwf e s (zf s) Y a c := by
    rcases hc with ⟨-, h1, ⟨Y, a, c, w, hh⟩, -⟩ | ⟨z, -⟩ | ⟨z, -⟩ | z | z
    · exact ⟨Y, a, c, w⟩
    all_goals omega
  clear hc
  obtain ⟨Y, a, c, w⟩ := q
  have zfe : zf s = s.1 0 0 0 - 1 := rfl
  have l1 := ly.1
  refine ⟨ly.1, fun i p q => ?_, fun i p q => ?_, ly.2.2.2⟩
  · obtain ⟨x1, x2, x3, x4⟩ := ly.2.1 i p q
    refine ⟨x1, x2, x3, x4, ?_⟩
    by_cases y : i = zf s
    · rw [y]; exact w.tr
    · obtain ⟨⟨Y2, a2, c2, w2, -⟩, -⟩ := hb.2.1 i p (by omega)
      exact w2.tr
  · have := hb.lr (zf s).toNat (by omega) i p (by omega)
    rw [show (((zf s).toNat : Nat) : Int) = zf s by omega] at this
    exact this
theorem zLr.sp (h : zLr s) : 0 ≤ zsp s ∧ zsp s ≤ 2400 ∧ 0 ≤ zf s ∧ zf s < 12 ∧ 0 ≤ s.1 6 (zf s) 0 := by
  obtain ⟨⟨h1, h1'⟩, h2, h3, h4, h5⟩ := h
  have zfe : zf s = s.1 0 0 0 - 1 := rfl
  have := h2 (zf s) (by omega) (by omega)
  unfold zsp
  omega
/-- a number comes onto the stack -/
theorem zRM.push (h : zRM e s M) (hl : zLr s) (hh : zh s < 200) : zRM e (zpush s v) (sI (sI M 213 (zsp s).toNat v) 160 73 (iI (zsp s + 1))) := by
  obtain ⟨hG, hF, h76, h73, h85, h86⟩ := h
  obtain ⟨l1, l2, l3, l4⟩ := hl
  have zfe : zf s = s.1 0 0 0 - 1 := rfl
  have lf := l2 (zf s) (by omega) (by omega)
  have e1 : zsp (zpush s v) = zsp s + 1 := by
    show s.1 6 (zf s) 0 + (zpush s v).1 3 (zf s) 0 = _
    rw [show (zpush s v).1 3 (zf s) 0 = zh s + 1 from zi_e]
    unfold zsp; omega
  refine ⟨hG.ff (zRw.sI (zRw.sI zRw.r (inW_c (by decide) _)) (by decide)) ⟨fun k p => ?_, fun k p q r => ?_⟩, fun i p q => ?_, ?_, ?_, ?_, ?_⟩
  · rcases p with p | p | p | p | p | p | p | p <;> subst p <;> rfl
  · funext x y; exact zw_k (by omega)
  · have q' : i < s.1 0 0 0 := q
    by_cases y : i = zf s
    · obtain ⟨a1, a2, a3⟩ := hF i p q'
      refine ⟨fun k u w => ?_, fun k u w => ?_, fun k u w => ?_⟩
      · exact (sI_ne (by decide)).trans ((sI_ne (by decide)).trans (a1 k u w))
      · exact (sI_ne (by decide)).trans ((sI_ne (by decide)).trans (a2 k u w))
      · have ei : (zpush s v).1 3 i 0 = zh s + 1 := by rw [y]; exact zi_e
        rw [ei] at w
        have e6 : (zpush s v).1 6 i 0 = s.1 6 i 0 := rfl
        rw [e6]
        by_cases z : k = zh s
        · have e2 : (zpush s v).2 1 i k = v := by rw [y, z]; exact zw_e
          rw [e2]
          refine (sI_ne (by decide)).trans (sI_eqj ?_)
          unfold zsp; rw [y, z]
        · have e2 : (zpush s v).2 1 i k = s.2 1 i k := zw_j z
          rw [e2]
          have a3' := a3 k u (by rw [y]; show k < zh s; omega)
          refine (sI_ne (by decide)).trans ((sI_nej ?_).trans a3')
          unfold zsp; rw [y]; omega
    · have lt : i < zf s := by omega
      have l3' := l3 i p lt
      have l2' := l2 i p q'
      refine (hF i p q').lo (fun k u w => (sI_ne (by decide)).trans (sI_ne (by decide))) (fun k u w => (sI_ne (by decide)).trans (sI_ne (by decide))) (fun k u w => (sI_ne (by decide)).trans (sI_nej ?_)) (zi_i y) rfl rfl rfl (fun _ => rfl) (fun _ => rfl) (fun k => zw_i y)
      unfold zsp; omega
  · exact (sI_nej (by decide)).trans ((sI_ne (by decide)).trans h76)
  · rw [e1]; exact sI_eq
  · exact (sI_nej (by decide)).trans ((sI_ne (by decide)).trans h85)
  · exact (sI_nej (by decide)).trans ((sI_ne (by decide)).trans h86)
/-- numbers go -/
theorem zRM.dn (h : zRM e s M) (hl : zLr s) (hc : 0 ≤ c ∧ c ≤ zh s) : zRM e (zdn s c) (sI M 160 73 (iI (zsp s - c))) := by
  obtain ⟨hG, hF, h76, h73, h85, h86⟩ := h
  have e3 : (zdn s c).1 3 (zf s) 0 = zh s - c := zi_e
  have e1 : zsp (zdn s c) = zsp s - c := by
    show s.1 6 (zf s) 0 + (zdn s c).1 3 (zf s) 0 = _
    rw [e3]; unfold zsp; omega
  refine ⟨hG.ff (zRw.sI zRw.r (by decide)) ⟨fun k p => ?_, fun k p q r => rfl⟩, fun i p q => ?_, (sI_nej (by decide)).trans h76, by rw [e1]; exact sI_eq, (sI_nej (by decide)).trans h85, (sI_nej (by decide)).trans h86⟩
  · rcases p with p | p | p | p | p | p | p | p <;> subst p <;> rfl
  · have q' : i < s.1 0 0 0 := q
    by_cases y : i = zf s
    · obtain ⟨a1, a2, a3⟩ := hF i p q'
      refine ⟨fun k u w => (sI_ne (by decide)).trans (a1 k u w), fun k u w => (sI_ne (by decide)).trans (a2 k u w), fun k u w => (sI_ne (by decide)).trans (a3 k u ?_)⟩
      rw [y, e3] at w
      rw [y]; show k < zh s
      omega
    · exact (hF i p q').lo (fun k u w => sI_ne (by decide)) (fun k u w => sI_ne (by decide)) (fun k u w => sI_ne (by decide)) (zi_i y) rfl rfl rfl (fun _ => rfl) (fun _ => rfl) (fun _ => rfl)
end S99x
