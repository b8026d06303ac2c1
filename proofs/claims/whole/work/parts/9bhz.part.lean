/-! what is counted; what a life finds -/
/-- CALLS heard stay -/
def zHw (s t : ZS) : Prop := t.2 12 = s.2 12 ∧ t.2 13 = s.2 13
def zFw (e s t : ZS) : Prop := e.1 10 1 0 ≠ 1 → zHw s t
def zFx (e s t : ZS) : Prop := t.1 12 0 0 - t.1 9 0 0 = s.1 12 0 0 - s.1 9 0 0 ∧ (0 ≤ s.1 12 0 0 → 0 ≤ t.1 12 0 0) ∧ (s.1 12 0 0 < 0 → t.1 12 0 0 < 0) ∧ (e.1 10 1 0 ≠ 1 → t.1 17 = s.1 17) ∧ s.1 14 0 0 ≤ t.1 14 0 0 ∧ t.1 12 0 0 ≤ s.1 12 0 0 ∧ zFw e s t
/-- what a life finds -/
def zCH (e : ZS) (κ : ZK) (s : ZS) (M : Mem) : Prop :=
  (∀ id, zId e id → e.1 4 id 0 = 2 → M.1 106 (e.1 23 id 0).toNat = s.2 2 id 0) ∧ M.1 88 10 = iI (zcw s) ∧
  (e.1 10 0 0 = 1 → ∀ p, 0 ≤ p → p < e.1 21 0 0 → M.1 (κ 8 0) p.toNat = s.2 7 p 0 ∧ M.1 (κ 8 1) p.toNat = s.2 8 p 0 ∧ M.1 (κ 8 2) p.toNat = iI (s.1 15 p 0 + 1)) ∧
  (∀ q, 0 ≤ q → q < 8 → M.1 (zTw q) 4 = iI (s.1 17 q 0) ∧ (∀ j, 0 ≤ j → j < 50 → M.1 (zTw q + 3) j.toNat = s.2 12 q j) ∧ ∀ j, 0 ≤ j → j < 200 → M.1 (zTw q + 2) j.toNat = s.2 13 q j) ∧
  (e.1 10 2 0 = 1 → M.1 143 5 = iI (s.1 14 0 0) ∧ ∀ t, 0 ≤ t → t < s.1 14 0 0 → M.1 144 t.toNat = s.2 9 t 0 ∧ M.1 145 t.toNat = s.2 10 t 0)
def zRH (e s : ZS) (M : Mem) : Prop := RT M ∧
  (∀ id, zId e id → e.1 4 id 0 = 2 → M.1 211 id.toNat = s.2 2 id 0) ∧ M.1 160 83 = iI (s.1 12 0 0) ∧
  (e.1 10 0 0 = 1 → ∀ p, 0 ≤ p → p < e.1 21 0 0 → M.1 216 (zrp e p).toNat = s.2 7 p 0 ∧ M.1 217 (zrp e p).toNat = s.2 8 p 0 ∧ M.1 218 (zrp e p).toNat = iI (s.1 15 p 0)) ∧
  (∀ q, 0 ≤ q → q < 8 → M.1 235 q.toNat = iI (s.1 17 q 0) ∧ (∀ j, 0 ≤ j → j < 50 → M.1 236 (50 * q + j).toNat = s.2 12 q j) ∧ ∀ j, 0 ≤ j → j < 200 → M.1 237 (200 * q + j).toNat = s.2 13 q j) ∧
  (e.1 10 2 0 = 1 → M.1 160 98 = iI (s.1 14 0 0) ∧ ∀ t, 0 ≤ t → t < s.1 14 0 0 → M.1 219 t.toNat = s.2 9 t 0 ∧ M.1 220 t.toNat = s.2 10 t 0)
/-- the same, but for WORK -/
def zCX (e : ZS) (κ : ZK) (s : ZS) (M : Mem) : Prop :=
  (∀ id, zId e id → e.1 4 id 0 = 2 → M.1 106 (e.1 23 id 0).toNat = s.2 2 id 0) ∧
  (e.1 10 0 0 = 1 → ∀ p, 0 ≤ p → p < e.1 21 0 0 → M.1 (κ 8 0) p.toNat = s.2 7 p 0 ∧ M.1 (κ 8 1) p.toNat = s.2 8 p 0 ∧ M.1 (κ 8 2) p.toNat = iI (s.1 15 p 0 + 1)) ∧
  (∀ q, 0 ≤ q → q < 8 → M.1 (zTw q) 4 = iI (s.1 17 q 0) ∧ (∀ j, 0 ≤ j → j < 50 → M.1 (zTw q + 3) j.toNat = s.2 12 q j) ∧ ∀ j, 0 ≤ j → j < 200 → M.1 (zTw q + 2) j.toNat = s.2 13 q j) ∧
  (e.1 10 2 0 = 1 → M.1 143 5 = iI (s.1 14 0 0) ∧ ∀ t, 0 ≤ t → t < s.1 14 0 0 → M.1 144 t.toNat = s.2 9 t 0 ∧ M.1 145 t.toNat = s.2 10 t 0)
section S9bhz
variable {e s s' t u : ZS} {o n i k V m ov en par : Int} {κ : ZK} {M M' : Mem} {q p : Int} {R : Int → RG} {L : Int → Int}
theorem zFx.r : zFx e s s := ⟨rfl, fun z => z, fun z => z, fun _ => rfl, Int.le_refl _, Int.le_refl _, fun _ => ⟨rfl, rfl⟩⟩
theorem zFx.tr (h : zFx e s t) (g : zFx e t u) : zFx e s u := ⟨g.1.trans h.1, fun z => g.2.1 (h.2.1 z), fun z => g.2.2.1 (h.2.2.1 z), fun z => (g.2.2.2.1 z).trans (h.2.2.2.1 z), Int.le_trans h.2.2.2.2.1 g.2.2.2.2.1, Int.le_trans g.2.2.2.2.2.1 h.2.2.2.2.2.1, fun z => ⟨((g.2.2.2.2.2.2 z).1).trans (h.2.2.2.2.2.2 z).1, ((g.2.2.2.2.2.2 z).2).trans (h.2.2.2.2.2.2 z).2⟩⟩
theorem zFx.eq (h9 : t.1 9 = s.1 9) (h12 : t.1 12 = s.1 12) (h14 : t.1 14 0 0 = s.1 14 0 0) (h17 : t.1 17 = s.1 17) (hw : zHw s t) : zFx e s t := ⟨by rw [h9, h12], fun z => by rw [h12]; exact z, fun z => by rw [h12]; exact z, fun _ => h17, by omega, by rw [h12]; exact Int.le_refl _, fun _ => hw⟩
theorem zmem_17 (h : e.1 10 1 0 ≠ 1) : (zmem e s o i).1 17 = s.1 17 := by
  unfold zmem
  split
  · rfl
  split
  · rfl
  split
  · split <;> rfl
  split
  · split <;> rfl
  rw [if_neg fun z => h z.2, zcall_k (by omega)]
theorem zuse_17 (h : e.1 10 1 0 ≠ 1) : (zuse e s o i k).1 17 = s.1 17 := by
  unfold zuse
  split
  · rfl
  split
  · exact zmem_17 h
  split
  · rfl
  split
  · rw [zmem_17 h]; rfl
  split
  · rfl
  · rfl
theorem zex_17 (h : e.1 10 1 0 ≠ 1) : (zex e s o n).1 17 = s.1 17 := zex_by (P := fun t => t.1 17 = s.1 17) rfl rfl rfl (fun _ => (zuse_17 h)) (fun _ => rfl) (fun _ => rfl) rfl rfl (fun _ => rfl) (fun _ => rfl) rfl rfl (fun _ => zdraw_k (by decide)) rfl rfl rfl rfl rfl (fun _ => rfl) (fun _ => rfl) (fun _ => rfl) rfl rfl
theorem zcall_w {d par r : Int} : zHw s (zcall e s i d par r) := by
  unfold zcall
  (repeat' split) <;> exact ⟨rfl, rfl⟩
theorem zdraw_w {v : Int32} : zHw s (zdraw e s v) := by
  unfold zdraw
  (repeat' split) <;> exact ⟨rfl, rfl⟩
theorem zmem_w (h : e.1 10 1 0 ≠ 1) : zHw s (zmem e s o i) := by
  unfold zmem
  split
  · exact ⟨rfl, rfl⟩
  split
  · exact ⟨rfl, rfl⟩
  split
  · split <;> exact ⟨rfl, rfl⟩
  split
  · split <;> exact ⟨rfl, rfl⟩
  rw [if_neg fun z => h z.2]
  exact zcall_w
theorem zuse_w (h : e.1 10 1 0 ≠ 1) : zHw s (zuse e s o i k) := by
  unfold zuse
  split
  · exact ⟨rfl, rfl⟩
  split
  · exact zmem_w h
  split
  · exact ⟨rfl, rfl⟩
  split
  · have := zmem_w (e := e) (s := zinit e (zi s 8 k 0 1) k) (o := o) (i := i) h
    exact this
  split
  · exact ⟨rfl, rfl⟩
  · exact ⟨rfl, rfl⟩
theorem zex_w (h : e.1 10 1 0 ≠ 1) : zHw s (zex e s o n) := zex_by (P := fun t => zHw s t) ⟨rfl, rfl⟩ ⟨rfl, rfl⟩ ⟨rfl, rfl⟩ (fun _ => (zuse_w h)) (fun _ => ⟨rfl, rfl⟩) (fun _ => ⟨rfl, rfl⟩) ⟨rfl, rfl⟩ ⟨rfl, rfl⟩ (fun _ => ⟨rfl, rfl⟩) (fun _ => ⟨rfl, rfl⟩) ⟨rfl, rfl⟩ ⟨rfl, rfl⟩ (fun _ => zdraw_w) ⟨rfl, rfl⟩ ⟨rfl, rfl⟩ ⟨rfl, rfl⟩ ⟨rfl, rfl⟩ ⟨rfl, rfl⟩ (fun _ => ⟨rfl, rfl⟩) (fun _ => ⟨rfl, rfl⟩) (fun _ => ⟨rfl, rfl⟩) ⟨rfl, rfl⟩ ⟨rfl, rfl⟩
theorem zex_fx : zFx e s (zex e s o n) := by
  have e9 : (zex e s o n).1 9 = s.1 9 := zex_k (by omega)
  have e12 : (zex e s o n).1 12 = s.1 12 := zex_k (by omega)
  have d := zex_d (e := e) (s := s) (o := o) (n := n)
  refine ⟨by rw [e9, e12], fun z => by rw [e12]; exact z, fun z => by rw [e12]; exact z, fun z => zex_17 z, by omega, by rw [e12]; exact Int.le_refl _, fun z => zex_w z⟩
theorem zstep_fx : zFx e s (zstep e s) := by
  unfold zstep
  split
  · split
    · exact zFx.eq rfl rfl rfl rfl ⟨rfl, rfl⟩
    split
    · exact zFx.eq rfl rfl rfl rfl ⟨rfl, rfl⟩
    · rename_i h9 h12
      refine zFx.tr (t := ztick e s) ⟨?_, fun z => ?_, fun z => ?_, fun _ => rfl, Int.le_refl _, ?_, fun _ => ⟨rfl, rfl⟩⟩ zex_fx
      · show (s.1 12 0 0 - 1) - (s.1 9 0 0 - 1) = _
        omega
      · show 0 ≤ s.1 12 0 0 - 1
        omega
      · show s.1 12 0 0 - 1 < 0
        omega
      · show s.1 12 0 0 - 1 ≤ s.1 12 0 0
        omega
  split
  · exact zFx.tr (t := zi s 1 0 0 0) (zFx.eq rfl rfl rfl rfl ⟨rfl, rfl⟩) zex_fx
  split
  · unfold zret
    split
    · exact zFx.eq rfl rfl rfl rfl ⟨rfl, rfl⟩
    split
    · exact zFx.r
    · exact zFx.eq rfl rfl rfl rfl ⟨rfl, rfl⟩
  split
  · unfold zthr
    split
    · exact zFx.eq rfl rfl rfl rfl ⟨rfl, rfl⟩
    · exact zFx.eq rfl rfl rfl rfl ⟨rfl, rfl⟩
  split
  · unfold zunw
    split
    · exact zFx.eq rfl rfl rfl rfl ⟨rfl, rfl⟩
    split
    · exact zFx.r
    · exact zFx.eq rfl rfl rfl rfl ⟨rfl, rfl⟩
  · exact zFx.r
theorem zgoes_fx : ∀ (k : Nat) (s : ZS), zFx e s (zgoes e s k)
  | 0, _ => zFx.r
  | k + 1, s => zstep_fx.tr (zgoes_fx k (zstep e s))
theorem zto.fx (h : zto e s t) : zFx e s t := by
  obtain ⟨k, rfl⟩ := h
  exact zgoes_fx k s
theorem zCG.ch (h : zCG e κ s M) : zCH e κ s M := by
  obtain ⟨h1, h2, h3, ⟨h4, h5, h6, h7⟩, h8, h9, h10⟩ := h
  exact ⟨fun id p q => h1 id p (Or.inl q), h7, h8, h9, fun x => ⟨(h10 x).1.2.1, (h10 x).2⟩⟩
theorem zRG.rh (h : zRG e s M) : zRH e s M := by
  obtain ⟨h0, h1, h2, h3, ⟨h4, h5, h6, h7, h8⟩, h9, h10, h11⟩ := h
  exact ⟨h0, fun id p q => h1 id p (Or.inl q), h8, h9, h10, fun x => ⟨(h11 x).1.1, (h11 x).2⟩⟩
theorem zRH.sub (h : zRH e s M) (e2 : M'.2 = M.2) (o : ∀ a j : Nat, ¬ (a = 160 ∧ (j = 101 ∨ j = 102 ∨ j = 103)) → M'.1 a j = M.1 a j) : zRH e s M' := by
  obtain ⟨h0, h1, h8, h9, h10, h11⟩ := h
  refine ⟨h0.keep e2, fun id p q => ?_, ?_, fun x p u w => ?_, fun q p z => ?_, fun x => ?_⟩
  · rw [o _ _ (by omega)]; exact h1 id p q
  · rw [o _ _ (by omega)]; exact h8
  · rw [o _ _ (by omega), o _ _ (by omega), o _ _ (by omega)]; exact h9 x p u w
  · obtain ⟨c1, c2, c3⟩ := h10 q p z
    exact ⟨by rw [o _ _ (by omega)]; exact c1, fun j x y => by rw [o _ _ (by omega)]; exact c2 j x y, fun j x y => by rw [o _ _ (by omega)]; exact c3 j x y⟩
  · obtain ⟨c1, c3⟩ := h11 x
    exact ⟨by rw [o _ _ (by omega)]; exact c1, fun t p q => by rw [o _ _ (by omega), o _ _ (by omega)]; exact c3 t p q⟩
theorem zCG.cx (h : zCG e κ s M) : zCX e κ s M := ⟨h.ch.1, h.ch.2.2⟩
theorem zCH.cx (h : zCH e κ s M) : zCX e κ s M := ⟨h.1, h.2.2⟩
theorem zCX.ch (h : zCX e κ s M) (h10 : M.1 88 10 = iI (zcw s)) : zCH e κ s M := ⟨h.1, h10, h.2⟩
theorem zCX.sub (h : zCX e κ s M) (hk : zK8 κ) (o : ∀ a j : Nat, ¬ (a = 89 ∧ j < 3) → M'.1 a j = M.1 a j) : zCX e κ s M' := by
  obtain ⟨h1, h8, h9, h10⟩ := h
  have n0 := hk 0 (by omega)
  have n1 := hk 1 (by omega)
  have n2 := hk 2 (by omega)
  refine ⟨fun id p q => ?_, fun x p u w => ?_, fun q p r => ?_, fun x => ?_⟩
  · rw [o _ _ (by omega)]; exact h1 id p q
  · rw [o _ _ (by omega), o _ _ (by omega), o _ _ (by omega)]; exact h8 x p u w
  · obtain ⟨c1, c2, c3⟩ := h9 q p r
    have z7 : zTw q ≠ 89 ∧ zTw q + 3 ≠ 89 ∧ zTw q + 2 ≠ 89 := by unfold zTw; omega
    exact ⟨by rw [o _ _ (by omega)]; exact c1, fun j x y => by rw [o _ _ (by omega)]; exact c2 j x y, fun j x y => by rw [o _ _ (by omega)]; exact c3 j x y⟩
  · obtain ⟨c1, c3⟩ := h10 x
    exact ⟨by rw [o _ _ (by decide)]; exact c1, fun t p q => by rw [o _ _ (by omega), o _ _ (by omega)]; exact c3 t p q⟩
/-- no WORK is left only when none is -/
theorem zstep_m6 (h : s.1 1 0 0 = 6 → s.1 12 0 0 = 0) : (zstep e s).1 1 0 0 = 6 → (zstep e s).1 12 0 0 = 0 := by
  unfold zstep
  by_cases m0 : s.1 1 0 0 = 0
  · rw [if_pos m0]
    by_cases h9 : s.1 9 0 0 = 0
    · rw [if_pos h9]
      intro z
      exact absurd z (show ¬ ((5 : Int) = 6) by decide)
    rw [if_neg h9]
    by_cases h12 : s.1 12 0 0 = 0
    · rw [if_pos h12]; exact fun _ => h12
    rw [if_neg h12]
    intro z
    have m := zex_m (e := e) (s := ztick e s) (o := zop e (zpc s)) (n := znum e (zpc s)) m0
    omega
  rw [if_neg m0]
  by_cases m1 : s.1 1 0 0 = 1
  · rw [if_pos m1]
    intro z
    have m := zex_m (e := e) (s := zi s 1 0 0 0) (o := zop e (zpc s)) (n := znum e (zpc s)) rfl
    omega
  rw [if_neg m1]
  by_cases m2 : s.1 1 0 0 = 2
  · rw [if_pos m2]
    unfold zret
    by_cases y : 0 ≤ s.1 5 (s.1 0 0 0) 0
    · rw [if_pos y]
      intro z
      exact absurd z (show ¬ ((1 : Int) = 6) by decide)
    rw [if_neg y]
    by_cases y2 : s.1 0 0 0 = 0
    · rw [if_pos y2]; exact h
    rw [if_neg y2]
    intro z
    exact absurd z (show ¬ ((0 : Int) = 6) by decide)
  rw [if_neg m2]
  by_cases m3 : s.1 1 0 0 = 3 ∨ s.1 1 0 0 = 7
  · rw [if_pos m3]
    unfold zthr
    by_cases y : s.1 1 0 0 = 3 ∧ 0 < s.1 4 (zf s) 0
    · rw [if_pos y]
      intro z
      exact absurd z (show ¬ ((0 : Int) = 6) by decide)
    rw [if_neg y]
    intro z
    have z' : s.1 1 0 0 + 1 = 6 := z
    omega
  rw [if_neg m3]
  by_cases m4 : s.1 1 0 0 = 4 ∨ s.1 1 0 0 = 8
  · rw [if_pos m4]
    unfold zunw
    by_cases y : 0 ≤ s.1 5 (s.1 0 0 0) 0
    · rw [if_pos y]
      intro z
      exact absurd z (show ¬ ((3 : Int) = 6) by decide)
    rw [if_neg y]
    by_cases y2 : s.1 0 0 0 = 0
    · rw [if_pos y2]; exact h
    rw [if_neg y2]
    intro z
    have z' : s.1 1 0 0 - 1 = 6 := z
    omega
  rw [if_neg m4]
  exact h
theorem zgoes_m6 : ∀ (k : Nat) (s : ZS), (s.1 1 0 0 = 6 → s.1 12 0 0 = 0) → (zgoes e s k).1 1 0 0 = 6 → (zgoes e s k).1 12 0 0 = 0
  | 0, _, h => h
  | k + 1, s, h => zgoes_m6 k (zstep e s) (zstep_m6 h)
theorem zto.m6 (h : zto e s t) (h0 : s.1 1 0 0 ≠ 6) (h6 : t.1 1 0 0 = 6) : t.1 12 0 0 = 0 := by
  obtain ⟨k, rfl⟩ := h
  exact zgoes_m6 k s (fun z => absurd z h0) h6
end S9bhz
