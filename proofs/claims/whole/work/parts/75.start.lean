/-! the start of a reading: the first object's lists, the reference's first token -/
def nL (M : Mem) (k : Nat) : Mem := sP (sP (sI (nw M 0 3) (ln M) 0 (iI 0)) (ln M) 1 (some 2)) 65 k (some (ln M))
def NLs (M : Mem) (j : Nat) (Mj : Mem) : Prop := Fo (fun a => a = 65) j (3 * j) M Mj ∧ ln Mj = ln M + j ∧ (∀ a i, a < ln M → Mj.1 a i = M.1 a i ∧ Mj.2.1 a i = M.2.1 a i) ∧ (∀ a i, a < ln M → ¬ (a = 65 ∧ 1 ≤ i ∧ i ≤ j) → Mj.2.2.1 a i = M.2.2.1 a i) ∧ ∀ k, 1 ≤ k → k ≤ j → Mj.2.2.2[ln M + (k - 1)]? = some (0, 3) ∧ Mj.1 (ln M + (k - 1)) 2 = iI 0 ∧ Mj.2.2.1 (ln M + (k - 1)) 1 = some 2 ∧ Mj.2.2.1 65 k = some (ln M + (k - 1))
/-- nothing yet -/
def H00 (l : Nat) : HG := (fun a => if a = l then 1 else if a = l + 1 then 2 else if a = l + 2 then 3 else if a = l + 3 then 4 else 0, fun k => l + (k - 1), fun _ _ => 0, fun _ => 0, fun _ _ _ => 0, fun _ _ => 0, fun _ _ => 0, fun _ _ _ => 0)
section S75
variable {d : Nat} {T : Int → Int} {n m : Int} {kd pl E : Int → Int} {tx : Int → Int64} {M M' Mj : Mem} {x j k L : Nat} {xs : Nat → Int32} {F : Mem → XA}
theorem l343 (hd : 3 ≤ d) (kx : M.2.2.2[x]? = some (0, 3)) : runX d 343 [va_rf (some x)] M = some (.null, sP (sI M x 0 (iI 0)) x 1 (some 2)) := by
  obtain ⟨d, rfl⟩ : ∃ e, d = e + 3 := ⟨d - 3, by omega⟩
  have e341 : runX (d + 1) 341 [va_rf (some x)] M = some (.null, M) := by
    refine Rt.e ?_
    rw [r341]; unfold b341; rw [aR_e, aZ_e]; unfold c341
    refine rs1 (nn_e) ?_
    exact Rt.ok ⟨rfl, rfl⟩
  have e342 : runX (d + 2) 342 [va_rf (some x)] M = some (.null, sI M x 0 (iI 0)) := by
    refine Rt.e ?_
    rw [r342]; unfold b342; rw [aR_e, aZ_e]; unfold c342
    refine rs1 (vC_e kx) ?_
    refine rs1 (cV_e e341) ?_
    refine rs1 (ptI_q (z := 0) kx li_0) ?_
    exact Rt.ok ⟨rfl, rfl⟩
  refine Rt.e ?_
  rw [r343]; unfold b343; rw [aR_e, aZ_e]; unfold c343
  refine rs1 (vC_e kx) ?_
  refine rs1 (cV_e e342) ?_
  refine rs1 (ptP_e (t := (0, 3)) (by exact kx)) ?_
  exact Rt.ok ⟨rfl, rfl⟩
theorem nlist (hd : 3 ≤ d) (h65 : M.2.2.2[65]? = some (7, 20)) : (nO (0, 3) M fun x1 M2 => vC (0, 3) M2 x1 <| cV (runX d 343 [va_rf x1] M2) fun M3 => ptP (7, 20) M3 (some 65) k x1 fun M4 => F M4) = F (nL M k) := by
  rw [nO_e]
  have kx : (nw M 0 3).2.2.2[ln M]? = some (0, 3) := nw_kd
  have k65 : (nw M 0 3).2.2.2[65]? = some (7, 20) := (Fo.nw (Z := fun _ => False)).kd h65
  refine (vC_e (a := ln M) kx).trans ?_
  refine (cV_e (l343 hd kx)).trans ?_
  exact ptP_e (t := (7, 20)) (by exact k65)
theorem NLs.z : NLs M 0 M := ⟨Fo.z, rfl, fun _ _ _ => ⟨rfl, rfl⟩, fun _ _ _ _ => rfl, fun k a b => by omega⟩
theorem NLs.add (h : NLs M j Mj) (h65 : 65 < ln M) : NLs M (j + 1) (nL Mj (j + 1)) := by
  obtain ⟨h1, h2, h3, h4, h5⟩ := h
  have f0 : Fo (fun _ => False) 1 3 Mj (nw Mj 0 3) := Fo.nw
  have z1 : Fo (fun a => a = 65 ∨ a = ln Mj) 0 0 (nw Mj 0 3) (nL Mj (j + 1)) := ((Fo.sI (Z := fun a => a = 65 ∨ a = ln Mj) (Or.inr rfl)).tr (Fo.sP (Or.inr rfl))).tr (Fo.sP (Or.inl rfl))
  have f1 : Fo (fun a => a = 65) 1 3 Mj (nL Mj (j + 1)) := by
    have := (f0.m (Z' := fun a => a = 65 ∨ a = ln Mj) (fun _ _ z => z.elim) (Nat.le_refl _) (Nat.le_refl _)).tr z1
    exact this.m (fun a p z => by omega) (by omega) (by omega)
  have e1 : ∀ a i, a < ln Mj → (nL Mj (j + 1)).1 a i = Mj.1 a i := fun a i p => by
    show (sI (nw Mj 0 3) (ln Mj) 0 (iI 0)).1 a i = _
    exact (sI_ne (by omega)).trans (f0.i p id i)
  have e2 : ∀ a i, a < ln Mj → (nL Mj (j + 1)).2.1 a i = Mj.2.1 a i := fun a i p => f0.l p id i
  have e3 : ∀ a i, a < ln Mj → ¬ (a = 65 ∧ i = j + 1) → (nL Mj (j + 1)).2.2.1 a i = Mj.2.2.1 a i := fun a i p q => by
    by_cases y : a = 65
    · subst y
      have : i ≠ j + 1 := fun z => q ⟨rfl, z⟩
      exact (sP_nej this).trans ((sP_ne (by omega)).trans (f0.p p id i))
    · exact (sP_ne y).trans ((sP_ne (by omega)).trans (f0.p p id i))
  refine ⟨(h1.tr f1).m (fun _ _ z => z) (by omega) (by omega), ?_, fun a i p => ⟨(e1 a i (by omega)).trans (h3 a i p).1, (e2 a i (by omega)).trans (h3 a i p).2⟩, fun a i p q => (e3 a i (by omega) (by omega)).trans (h4 a i p (by omega)), fun k p q => ?_⟩
  · show ln (nw Mj 0 3) = _
    rw [nw_ln, h2]; omega
  · by_cases y : k = j + 1
    · subst y
      have ex : ln M + (j + 1 - 1) = ln Mj := by omega
      rw [ex]
      refine ⟨z1.kd nw_kd, ?_, ?_, ?_⟩
      · exact (sI_nej (by decide)).trans nw_i
      · exact (sP_ne (by omega)).trans sP_eq
      · exact sP_eq
    · obtain ⟨a1, a2, a3, a4⟩ := h5 k p (by omega)
      exact ⟨f1.kd a1, (e1 _ _ (by omega)).trans a2, (e3 _ _ (by omega) (by omega)).trans a3, (e3 _ _ (by omega) (by omega)).trans a4⟩
theorem NLs.hs (h : NLs M 4 Mj) (h65 : 259 ≤ ln M) (h2 : M.2.2.2[2]? = some (210, 0)) : HS (ln M) (tot M.2.2.2) 0 Mj (H00 (ln M)) := by
  obtain ⟨g1, g2, g3, g4, g5⟩ := h
  have ow : ∀ k, 1 ≤ k → k ≤ 4 → hOw (H00 (ln M)) (ln M + (k - 1)) = k := fun k p q => by
    have c : k = 1 ∨ k = 2 ∨ k = 3 ∨ k = 4 := by omega
    rcases c with c | c | c | c <;> subst c
    · exact if_pos rfl
    · exact (if_neg (by omega)).trans (if_pos rfl)
    · exact (if_neg (by omega)).trans ((if_neg (by omega)).trans (if_pos rfl))
    · exact (if_neg (by omega)).trans ((if_neg (by omega)).trans ((if_neg (by omega)).trans (if_pos rfl)))
  have e0 : ∀ k, hEN (H00 (ln M)) k = 0 := fun _ => rfl
  refine ⟨⟨⟨h65, by omega⟩, fun a p => ?_, fun k p q => (g5 k p q).2.2.2, ?_, ?_⟩, fun k p q => ?_, fun k p q j a b => absurd b (by rw [e0]; omega), fun j a b => absurd b (by rw [e0]; omega)⟩
  · exact (if_neg (by omega)).trans ((if_neg (by omega)).trans ((if_neg (by omega)).trans (if_neg (by omega))))
  · rw [e0, e0, e0, e0, g2]; omega
  · have := g1.1.2.2.1
    rw [e0, e0, e0, e0]; omega
  · obtain ⟨a1, a2, a3, a4⟩ := g5 k p q
    exact ⟨⟨by show 259 ≤ ln M + (k - 1); omega, a1, ow k p q, Int.le_refl _⟩, a2, fun j u w => absurd w (by rw [e0]; omega), 2, 0, a3, Or.inl ⟨rfl, rfl, g1.kd h2⟩, by rw [e0]; omega, fun j u w => absurd w (by rw [e0]; omega)⟩
/-- the reference's first token -/
theorem nx_0 (hd : 4 ≤ d) (hS : TkS T n m kd pl E tx) (hR : RT M) (hT : Tp 160 1 161 T n M) (hW : ∀ i, 0 ≤ i → i < 28 → M.2.1 194 i.toNat = WR i) (hf : M.1 160 41 = iI 0) (hp : M.1 160 38 = iI 0) : Rt (runX d 191 [va_rf (some 160)] M) (fun _ M2 => Fr W_nx M M2 ∧ M2.1 160 36 = iI (kr (kd 0)) ∧ M2.1 160 37 = iI (pl 0) ∧ M2.1 160 38 = iI (E 0) ∧ NmR M2 (kd 0) (tx 0)) := by
  have hm := hS.2.1.1
  have q := hS.1 0 (by omega) (by omega)
  rw [show prv E 0 = 0 from if_pos (Int.le_refl _)] at q
  have hn := hT.2.1
  have hm2 := hT.2.2.1
  refine (z191 hd hR hT hW hf hp ⟨Int.le_refl _, hn, hm2⟩).mono fun v M2 z => ?_
  obtain ⟨tk, f, e, nb, nm, z1, z2, z3, z4, z5, z6, -, z7⟩ := z
  obtain ⟨r1, r2, -, r4, r5, r6⟩ := Tk_one q z7
  subst r1; subst r2; subst r4
  refine ⟨z1, z2, z3, z4, fun c => ?_, fun c => ?_⟩
  · rw [z6, r5 c]
  · obtain ⟨a1, a2, a3, a4⟩ := r6 c
    rw [z5, a1, nmL_i, a2 a3]
end S75
