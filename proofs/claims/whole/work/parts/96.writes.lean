/-! the first object's machine beside the small machine: what is written -/
section S96
variable {d : Nat} {e s s' : ZS} {κ : ZK} {M M' M2 : Mem} {a j : Nat} {v : Int32} {c t k i n : Int}
def zK8 (κ : ZK) : Prop := ∀ i, i = 0 ∨ i = 1 ∨ i = 2 → 259 ≤ κ 8 i
/-- what is written into the stack and into the code on top, and what it is then -/
theorem zCM.top (h : zCM e κ s M) (hl : zLy s) (hk : zK8 κ) (f : zFf M M') (g : zGs s s') (e0 : s'.1 0 0 0 = s.1 0 0 0) (h14 : M'.1 88 14 = M.1 88 14) (h15 : M'.1 88 15 = M.1 88 15) (h19 : M'.1 88 19 = M.1 88 19) (hfr : ∀ i, 0 ≤ i → i < zf s → ∀ j, M'.1 (94 + i.toNat) j = M.1 (94 + i.toNat) j) (hst : ∀ x : Int, 0 ≤ x → x < 10 * zf s + s.1 6 (zf s) 0 → M'.1 92 x.toNat = M.1 92 x.toNat) (hs : ∀ i, 0 ≤ i → i < zf s → (∀ k, k = 2 ∨ k = 3 ∨ k = 5 ∨ k = 6 ∨ k = 16 → s'.1 k i 0 = s.1 k i 0) ∧ ∀ k, s'.2 0 i k = s.2 0 i k ∧ s'.2 1 i k = s.2 1 i k) (htop : zCi s' M' (zf s)) (h12 : M'.1 88 12 = iI (ztp s')) : zCM e κ s' M' := by
  obtain ⟨hC, hG, hF, x14, x12, x15, x19⟩ := h
  obtain ⟨l1, l2, l3, l4⟩ := hl
  refine ⟨⟨fun q y => by rw [show M'.2.2.2 = M.2.2.2 from congrArg (fun z => z.2.2) f.1]; exact hC.1 q y, fun q y => by rw [show M'.2.2.1 = M.2.2.1 from congrArg (fun z => z.2.1) f.1]; exact hC.2 q y⟩, hG.ff f g hk, fun i p q => ?_, by rw [h14, e0]; exact x14, h12, by rw [h15]; exact x15, by rw [h19]; exact x19⟩
  rw [e0] at q
  by_cases y : i = zf s
  · rw [y]; exact htop
  · have lt : i < zf s := by unfold zf at y ⊢; omega
    obtain ⟨q1, q2⟩ := hs i p lt
    have l3' := l3 i p lt
    have l2' := l2 i p q
    exact (hF i p q).lo ⟨p, by omega⟩ (fun j => hfr i p lt j) (fun k u w => hst _ (by omega) (by omega)) (fun k u w => hst _ (by omega) (by omega)) (q1 2 (by omega)) (q1 3 (by omega)) (q1 5 (by omega)) (q1 6 (by omega)) (q1 16 (by omega)) (fun k => (q2 k).1) (fun k => (q2 k).2)
/-- numbers go -/
theorem zCM.dn (h : zCM e κ s M) (hl : zLy s) (hk : zK8 κ) (hc : 0 ≤ c ∧ c ≤ zh s) : zCM e κ (zdn s c) (sI M 88 12 (iI (ztp s - c))) := by
  have l1 := hl.1
  have hF := h.2.2.1 (zf s) (by unfold zf; omega) (by unfold zf; omega)
  have e3 : (zdn s c).1 3 (zf s) 0 = zh s - c := zi_e
  refine h.top hl hk (zFf.sI zFf.r (by decide)) ⟨fun k p => ?_, fun k p q r => rfl, Iff.rfl⟩ rfl (sI_nej (by decide)) (sI_nej (by decide)) (sI_nej (by decide)) (fun i p q j => sI_ne (by omega)) (fun x p q => sI_ne (by decide)) (fun i p q => ⟨fun k w => ?_, fun k => ⟨rfl, rfl⟩⟩) ⟨⟨?_, ?_, ?_, ?_⟩, fun k p q => ?_, fun k p q => ?_⟩ ?_
  · rcases p with p | p | p | p | p | p | p <;> subst p <;> rfl
  · rcases w with w | w | w | w | w <;> subst w
    · rfl
    · exact zi_i (by omega)
    · rfl
    · rfl
    · rfl
  · exact (sI_ne (by omega)).trans hF.1.1
  · exact (sI_ne (by omega)).trans hF.1.2.1
  · exact (sI_ne (by omega)).trans hF.1.2.2.1
  · exact (sI_ne (by omega)).trans hF.1.2.2.2
  · exact (sI_ne (by decide)).trans (hF.2.1 k p q)
  · rw [e3] at q
    exact (sI_ne (by decide)).trans (hF.2.2 k p (by show k < zh s; omega))
  · rw [sI_eq]
    congr 1
    show ztp s - c = 10 * zf s + s.1 6 (zf s) 0 + 10 + (zdn s c).1 3 (zf s) 0
    rw [e3]; unfold ztp; omega
/-- another place of the same side -/
theorem zCM.go (h : zCM e κ s M) (hl : zLy s) (hk : zK8 κ) (hs : t < 1000 ↔ zpc s < 1000) : zCM e κ (zgo s t) (sI M (94 + (zf s).toNat) 0 (iI (t - zoff t))) := by
  have l1 := hl.1
  have zfb : 0 ≤ zf s ∧ zf s < 12 := by unfold zf; omega
  have hF := h.2.2.1 (zf s) (by omega) (by unfold zf; omega)
  have e2 : (zgo s t).1 2 (zf s) 0 = t := zi_e
  refine h.top hl hk (zFf.sI zFf.r (inW_fx (by omega) _).2) ⟨fun k p => ?_, fun k p q r => rfl, Iff.rfl⟩ rfl (sI_ne (by omega)) (sI_ne (by omega)) (sI_ne (by omega)) (fun i p q j => sI_ne (by omega)) (fun x p q => sI_ne (by omega)) (fun i p q => ⟨fun k w => ?_, fun k => ⟨rfl, rfl⟩⟩) ⟨⟨?_, ?_, ?_, ?_⟩, fun k p q => ?_, fun k p q => ?_⟩ ?_
  · rcases p with p | p | p | p | p | p | p <;> subst p <;> rfl
  · rcases w with w | w | w | w | w <;> subst w
    · exact zi_i (by omega)
    · rfl
    · rfl
    · rfl
    · rfl
  · rw [e2]; exact sI_eq
  · exact (sI_nej (by decide)).trans hF.1.2.1
  · rw [e2]
    refine (sI_nej (by decide)).trans (hF.1.2.2.1.trans (congrArg iI ?_))
    show (if zpc s < 1000 then (0 : Int) else 1) = _
    by_cases c : t < 1000
    · rw [if_pos c, if_pos (hs.1 c)]
    · rw [if_neg c, if_neg fun q => c (hs.2 q)]
  · exact (sI_nej (by decide)).trans hF.1.2.2.2
  · exact (sI_ne (by omega)).trans (hF.2.1 k p q)
  · exact (sI_ne (by omega)).trans (hF.2.2 k p q)
  · exact (sI_ne (by omega)).trans h.2.2.2.2.1
/-- a LOCAL is given a number -/
theorem zCM.loc (h : zCM e κ s M) (hl : zLy s) (hk : zK8 κ) (hn : 0 ≤ n ∧ n ≤ 9 ∧ n ≤ s.1 16 (zf s) 0) : zCM e κ (zi (zw s 0 (zf s) n v) 16 (zf s) 0 (if n < s.1 16 (zf s) 0 then s.1 16 (zf s) 0 else n + 1)) (sI M 92 (10 * zf s + s.1 6 (zf s) 0 + n).toNat v) := by
  have l1 := hl.1
  have zfb : 0 ≤ zf s ∧ zf s < 12 := by unfold zf; omega
  have l2 := hl.2.1 (zf s) (by omega) (by unfold zf; omega)
  have hF := h.2.2.1 (zf s) (by omega) (by unfold zf; omega)
  have e16 : (zi (zw s 0 (zf s) n v) 16 (zf s) 0 (if n < s.1 16 (zf s) 0 then s.1 16 (zf s) 0 else n + 1)).1 16 (zf s) 0 = if n < s.1 16 (zf s) 0 then s.1 16 (zf s) 0 else n + 1 := zi_e
  refine h.top hl hk (zFf.sI zFf.r (inW_c (by decide) _)) ⟨fun k p => ?_, fun k p q r => ?_, Iff.rfl⟩ rfl (sI_ne (by decide)) (sI_ne (by decide)) (sI_ne (by decide)) (fun i p q j => sI_ne (by omega)) (fun x p q => sI_nej (by omega)) (fun i p q => ⟨fun k w => ?_, fun k => ⟨zw_i (by omega), rfl⟩⟩) ⟨⟨?_, ?_, ?_, ?_⟩, fun k p q => ?_, fun k p q => ?_⟩ ?_
  · rcases p with p | p | p | p | p | p | p <;> subst p <;> rfl
  · funext x y; exact zw_k (by omega)
  · rcases w with w | w | w | w | w <;> subst w
    · rfl
    · rfl
    · rfl
    · rfl
    · exact zi_i (by omega)
  · exact (sI_ne (by omega)).trans hF.1.1
  · exact (sI_ne (by omega)).trans hF.1.2.1
  · exact (sI_ne (by omega)).trans hF.1.2.2.1
  · exact (sI_ne (by omega)).trans hF.1.2.2.2
  · rw [e16] at q
    by_cases y : k = n
    · rw [y]
      exact sI_eq.trans zw_e.symm
    · refine ((sI_nej ?_).trans (hF.2.1 k p ?_)).trans (zw_j y).symm
      · show (10 * zf s + s.1 6 (zf s) 0 + k).toNat ≠ _
        omega
      · by_cases z : n < s.1 16 (zf s) 0
        · rw [if_pos z] at q; exact q
        · rw [if_neg z] at q; omega
  · refine ((sI_nej ?_).trans (hF.2.2 k p q))
    show (10 * zf s + s.1 6 (zf s) 0 + 10 + k).toNat ≠ _
    omega
  · exact (sI_ne (by decide)).trans h.2.2.2.2.1
/-- a new code on top -/
theorem zCM.ent (h : zCM e κ s M) (hl : zLy s) (hk : zK8 κ) {par st : Int} (hn : s.1 0 0 0 < 12) (hp : 0 ≤ par ∧ par ≤ zh s ∧ par ≤ 10) (g : zGs s s') (e0 : s'.1 0 0 0 = s.1 0 0 0 + 1) (hs : ∀ i, i ≠ s.1 0 0 0 → (∀ k, k = 2 ∨ k = 5 ∨ k = 6 ∨ k = 16 → s'.1 k i 0 = s.1 k i 0) ∧ (i ≠ zf s → s'.1 3 i 0 = s.1 3 i 0) ∧ ∀ k, s'.2 0 i k = s.2 0 i k ∧ s'.2 1 i k = s.2 1 i k) (e3 : s'.1 3 (zf s) 0 = zh s - par) (n2 : s'.1 2 (s.1 0 0 0) 0 = t) (n3 : s'.1 3 (s.1 0 0 0) 0 = 0) (n5 : s'.1 5 (s.1 0 0 0) 0 = st) (n6 : s'.1 6 (s.1 0 0 0) 0 = s.1 6 (zf s) 0 + (zh s - par)) (n16 : s'.1 16 (s.1 0 0 0) 0 = par) (nl : ∀ k, 0 ≤ k → k < par → s'.2 0 (s.1 0 0 0) k = s.2 1 (zf s) (zh s - par + k)) : zCM e κ s' (sI (sI (sI (sI (sI (sI M (94 + (s.1 0 0 0).toNat) 0 (iI (t - zoff t))) (94 + (s.1 0 0 0).toNat) 1 (iI (ztp s - par))) (94 + (s.1 0 0 0).toNat) 2 (iI (if t < 1000 then 0 else 1))) (94 + (s.1 0 0 0).toNat) 3 (iI (if st < 0 then -2 else st))) 88 14 (iI (s.1 0 0 0 + 1))) 88 12 (iI (ztp s - par + 10))) := by
  obtain ⟨hC, hG, hF, h14, h12, h15, h19⟩ := h
  obtain ⟨l1, l2, l3, l4⟩ := hl
  have zfb : 0 ≤ zf s ∧ zf s < 12 ∧ zf s < s.1 0 0 0 := by unfold zf; omega
  have zfe : zf s = s.1 0 0 0 - 1 := rfl
  have zfe' : zf s' = s.1 0 0 0 := by unfold zf; rw [e0]; omega
  obtain ⟨N, hN⟩ : ∃ N, N = 94 + (s.1 0 0 0).toNat := ⟨_, rfl⟩
  rw [← hN]
  have wf := fun j => inW_fx (a := (s.1 0 0 0).toNat) (by omega) j
  have f : zFf M (sI (sI (sI (sI (sI (sI M N 0 (iI (t - zoff t))) N 1 (iI (ztp s - par))) N 2 (iI (if t < 1000 then 0 else 1))) N 3 (iI (if st < 0 then -2 else st))) 88 14 (iI (s.1 0 0 0 + 1))) 88 12 (iI (ztp s - par + 10))) := by
    rw [hN]
    exact zFf.sI (zFf.sI (zFf.sI (zFf.sI (zFf.sI (zFf.sI zFf.r (wf _).2) (wf _).2) (wf _).2) (wf _).2) (by decide)) (by decide)
  have o : ∀ a j, a ≠ 88 → a ≠ N → (sI (sI (sI (sI (sI (sI M N 0 (iI (t - zoff t))) N 1 (iI (ztp s - par))) N 2 (iI (if t < 1000 then 0 else 1))) N 3 (iI (if st < 0 then -2 else st))) 88 14 (iI (s.1 0 0 0 + 1))) 88 12 (iI (ztp s - par + 10))).1 a j = M.1 a j := fun a j p q => (sI_ne p).trans ((sI_ne p).trans ((sI_ne q).trans ((sI_ne q).trans ((sI_ne q).trans (sI_ne q)))))
  have nN : N ≠ 88 ∧ N ≠ 92 := by omega
  refine ⟨hC, hG.ff f g hk, fun i p q => ?_, ?_, ?_, ?_, ?_⟩
  · rw [e0] at q
    by_cases y : i = s.1 0 0 0
    · subst y
      refine ⟨⟨?_, ?_, ?_, ?_⟩, fun k u w => ?_, fun k u w => ?_⟩
      · rw [n2, ← hN]; exact (sI_ne nN.1).trans ((sI_ne nN.1).trans ((sI_nej (by decide)).trans ((sI_nej (by decide)).trans ((sI_nej (by decide)).trans sI_eq))))
      · rw [n6, ← hN]
        refine (sI_ne nN.1).trans ((sI_ne nN.1).trans ((sI_nej (by decide)).trans ((sI_nej (by decide)).trans (sI_eq.trans (congrArg iI ?_)))))
        unfold ztp; omega
      · rw [n2, ← hN]; exact (sI_ne nN.1).trans ((sI_ne nN.1).trans ((sI_nej (by decide)).trans sI_eq))
      · rw [n5, ← hN]; exact (sI_ne nN.1).trans ((sI_ne nN.1).trans sI_eq)
      · rw [n16] at w
        rw [n6, nl k u w, o 92 _ (by decide) (by omega)]
        have a := (hF (zf s) (by omega) (by omega)).2.2 (zh s - par + k) (by omega) (by show _ < zh s; omega)
        rw [← a]
        exact congrArg (fun z : Int => M.1 92 z.toNat) (by omega)
      · rw [n3] at w; omega
    · obtain ⟨q1, q2, q3⟩ := hs i y
      have l2' := l2 i p (by omega)
      by_cases z : i = zf s
      · obtain ⟨⟨b1, b2, b3, b4⟩, b5, b6⟩ := hF i p (by omega)
        unfold zCi
        rw [q1 2 (by omega), q1 5 (by omega), q1 6 (by omega), q1 16 (by omega), o _ _ (by omega) (by omega), o _ _ (by omega) (by omega), o _ _ (by omega) (by omega), o _ _ (by omega) (by omega)]
        refine ⟨⟨b1, b2, b3, b4⟩, fun k u w => by rw [(q3 k).1, o _ _ (by decide) (by omega)]; exact b5 k u w, fun k u w => ?_⟩
        rw [(q3 k).2, o _ _ (by decide) (by omega)]
        rw [z, e3] at w
        exact b6 k u (by rw [z]; show k < zh s; omega)
      · exact (hF i p (by omega)).lo ⟨p, by omega⟩ (fun j => o _ _ (by omega) (by omega)) (fun k u w => o _ _ (by decide) (by omega)) (fun k u w => o _ _ (by decide) (by omega)) (q1 2 (by omega)) (q2 z) (q1 5 (by omega)) (q1 6 (by omega)) (q1 16 (by omega)) (fun k => (q3 k).1) (fun k => (q3 k).2)
  · rw [e0]; exact (sI_nej (by decide)).trans sI_eq
  · rw [sI_eq]
    congr 1
    unfold ztp zh
    rw [zfe', n6, n3]
    unfold zh
    omega
  · exact (sI_nej (by decide)).trans ((sI_nej (by decide)).trans ((sI_ne (by omega)).trans ((sI_ne (by omega)).trans ((sI_ne (by omega)).trans ((sI_ne (by omega)).trans h15)))))
  · exact (sI_nej (by decide)).trans ((sI_nej (by decide)).trans ((sI_ne (by omega)).trans ((sI_ne (by omega)).trans ((sI_ne (by omega)).trans ((sI_ne (by omega)).trans h19)))))
end S96
