/-! a parcel of the first object: rows of rows, the members' cells -/
/-- where a member's value stands: behind those ahead of it -/
def clf (S V : Int → Int) : Nat → Int
  | 0 => 0
  | m + 1 => clf S V m + (if S m = 3 then V m else 1)
def sCl (H : HG) (n : Int) : HG := (hOw H, hCL H, hEC H, hEN H, fun k' f j => if k' = 2 ∧ f = 8 ∧ 0 ≤ j ∧ j < n then clf (hEF H 2 2) (hEF H 2 4) j.toNat else hEF H k' f j, hEX H, hUA H, hAV H)
section S89b
variable {d a N n x T ex : Nat} {M M' : Mem} {v : Int32} {H : HG}
theorem nwAA_ln {k : Nat} : ln (nwAA M 113 100 n k) = ln M + 1 + n := by
  show (M.2.2.2 ++ (113, n) :: List.replicate n (100, k)).length = _
  rw [List.length_append, List.length_cons, List.length_replicate]
  unfold ln; omega
theorem nwAA_k0 {k : Nat} : (nwAA M 113 100 n k).2.2.2[ln M]? = some (113, n) := by
  show (M.2.2.2 ++ (113, n) :: List.replicate n (100, k))[M.2.2.2.length]? = _
  rw [List.getElem?_append_right (Nat.le_refl _), Nat.sub_self]
  rfl
theorem nwAA_k1 {k i : Nat} (h : i < n) : (nwAA M 113 100 n k).2.2.2[ln M + 1 + i]? = some (100, k) := by
  show (M.2.2.2 ++ (113, n) :: List.replicate n (100, k))[M.2.2.2.length + 1 + i]? = _
  rw [List.getElem?_append_right (by omega), show M.2.2.2.length + 1 + i - M.2.2.2.length = i + 1 by omega, List.getElem?_cons_succ, List.getElem?_replicate]
  exact if_pos h
theorem nwAA_p {k i : Nat} (h : i < n) : (nwAA M 113 100 n k).2.2.1 (ln M) i = some (ln M + 1 + i) := by
  show (if ln M < M.2.2.2.length then _ else if ln M = M.2.2.2.length then (if i < n then some (M.2.2.2.length + 1 + i) else none) else none) = _
  rw [if_neg (by unfold ln; omega), if_pos (show ln M = M.2.2.2.length from rfl), if_pos h]
  rfl
theorem nwAA_i {k i j : Nat} : (nwAA M 113 100 n k).1 (ln M + 1 + i) j = 0 := if_neg (by unfold ln; omega)
theorem totrep {k : Nat} : ∀ n : Nat, ((List.replicate n ((100 : Nat), k)).map (fun q => q.2)).sum = n * k
  | 0 => by simp
  | n + 1 => by
    rw [List.replicate_succ, List.map_cons, List.sum_cons, totrep n, Nat.succ_mul]
    show k + n * k = n * k + k
    omega
theorem Fo.nAA {k : Nat} : Fo (fun _ => False) (n + 1) (n + n * k) M (nwAA M 113 100 n k) := by
  refine ⟨⟨?_, ?_, ?_, fun b p => List.getElem?_append_left p⟩, fun b p _ j => ⟨if_pos p, if_pos p, if_pos p⟩⟩
  · rw [nwAA_ln]; omega
  · rw [nwAA_ln]; omega
  · show ((M.2.2.2 ++ (113, n) :: List.replicate n (100, k)).map (fun q : Nat × Nat => q.2)).sum ≤ (M.2.2.2.map (fun q : Nat × Nat => q.2)).sum + (n + n * k)
    rw [List.map_append, List.sum_append, List.map_cons, List.sum_cons, totrep]
    exact Nat.le_refl _
theorem nAA_q {u w : Int32} {n k : Nat} {f : Option Nat → Mem → XA} (hu : u = iI n) (hw : w = iI k) (h : n ≤ 5000 ∧ k ≤ 5000) : nAA 113 100 M u w f = f (some (ln M)) (nwAA M 113 100 n k) := by
  rw [hu, hw, nAA_e (by omega) (by omega) (by omega) (by omega)]
  rfl
theorem sCl_0 : sCl H 0 = H := by
  have e : (fun (k' : Nat) (f : Nat) (j : Int) => if k' = 2 ∧ f = 8 ∧ 0 ≤ j ∧ j < 0 then clf (hEF H 2 2) (hEF H 2 4) j.toNat else hEF H k' f j) = hEF H := by
    funext k' f j
    exact if_neg fun q => by omega
  unfold sCl
  rw [e]
  rfl
theorem sCl_s {k : Nat} : sF (sCl H k) 2 8 k (clf (hEF H 2 2) (hEF H 2 4) k) = sCl H ((k + 1 : Nat) : Int) := by
  have e : (fun (k' : Nat) (f' : Nat) (j' : Int) => if k' = 2 ∧ f' = 8 ∧ j' = k then clf (hEF H 2 2) (hEF H 2 4) k else hEF (sCl H k) k' f' j') = hEF (sCl H ((k + 1 : Nat) : Int)) := by
    funext k' f j
    show (if k' = 2 ∧ f = 8 ∧ j = k then clf (hEF H 2 2) (hEF H 2 4) k else if k' = 2 ∧ f = 8 ∧ 0 ≤ j ∧ j < k then clf (hEF H 2 2) (hEF H 2 4) j.toNat else hEF H k' f j) = if k' = 2 ∧ f = 8 ∧ 0 ≤ j ∧ j < ((k + 1 : Nat) : Int) then clf (hEF H 2 2) (hEF H 2 4) j.toNat else hEF H k' f j
    by_cases c : k' = 2 ∧ f = 8
    · by_cases y : j = k
      · rw [if_pos ⟨c.1, c.2, y⟩, if_pos ⟨c.1, c.2, by omega, by omega⟩, y]; rfl
      · rw [if_neg fun q => y q.2.2]
        by_cases z : 0 ≤ j ∧ j < k
        · rw [if_pos ⟨c.1, c.2, z.1, z.2⟩, if_pos ⟨c.1, c.2, by omega, by omega⟩]
        · rw [if_neg fun q => z ⟨q.2.2.1, q.2.2.2⟩, if_neg fun q => z ⟨q.2.2.1, by omega⟩]
    · rw [if_neg fun q => c ⟨q.1, q.2.1⟩, if_neg fun q => c ⟨q.1, q.2.1⟩, if_neg fun q => c ⟨q.1, q.2.1⟩]
  show (hOw H, hCL H, hEC H, hEN H, (fun (k' : Nat) (f' : Nat) (j' : Int) => if k' = 2 ∧ f' = 8 ∧ j' = k then clf (hEF H 2 2) (hEF H 2 4) k else hEF (sCl H k) k' f' j'), hEX H, hUA H, hAV H) = _
  rw [e]
  rfl
theorem sCl_f {n : Int} {f : Nat} {j : Int} (h : f ≠ 8) : hEF (sCl H n) 2 f j = hEF H 2 f j := if_neg fun q => h q.2.1
/-- the members' cells are shared -/
theorem kp52 (hd : 4 ≤ d) (h : HS N T ex M H) (hS : ∀ j, 0 ≤ j → j < hEN H 2 → 0 ≤ hEF H 2 2 j ∧ hEF H 2 2 j ≤ 4) : ∃ M', runX d 52 [va_rf (some (hCL H 2))] M = some (.null, M') ∧ HS N T ex M' (sCl H (hEN H 2)) ∧ Fo (fun b => ∃ j, 0 ≤ j ∧ j < hEN H 2 ∧ b = hEC H 2 j) 0 0 M M' := by
  obtain ⟨d, rfl⟩ : ∃ e, d = e + 1 := ⟨d - 1, by omega⟩
  have hn := h.n109 (k := 2) (by decide) (by decide)
  rw [r52]; unfold b52; rw [aR_e, aZ_e]; unfold c52
  rw [jn_v]
  refine lp_use (body := c52_4 (runX d) (some (hCL H 2)) (jv fun s1 => some (.null, s1))) (R := fun s => some (.null, s.2.2)) (hEN H 2).toNat (fun k s => s.1 = iI (clf (hEF H 2 2) (hEF H 2 4) k) ∧ s.2.1 = iI k ∧ HS N T ex s.2.2 (sCl H k) ∧ Fo (fun b => ∃ j, 0 ≤ j ∧ j < hEN H 2 ∧ b = hEC H 2 j) 0 0 M s.2.2) ((0 : Int32), (0 : Int32), M) 4294967296 (by omega) ⟨li_0, li_0, by rw [show ((0 : Nat) : Int) = 0 from rfl, sCl_0]; exact h, Fo.z⟩ (fun s' h1 h2 => ?_) (fun k s hk hI => ?_) (fun s hI go => ?_)
  · obtain ⟨g1, g2, g3, g4⟩ := h1
    refine ⟨s'.2.2, h2, ?_, g4⟩
    rw [show (hEN H 2) = (((hEN H 2).toNat : Nat) : Int) by omega]
    exact g3
  · obtain ⟨i1, i2, M1⟩ := s
    obtain ⟨g1, g2, g3, g4⟩ := hI
    dsimp only at g1 g2 g3 g4
    subst g1; subst g2
    have hl := g3.2.1 2 (by decide) (by decide)
    have hp := g3.2.2.1 2 (by decide) (by decide) (k : Int) (by omega) (show (k : Int) < hEN H 2 by omega)
    have kx : M1.2.2.2[hEC H 2 k]? = some (8, 9) := hp.1.1
    obtain ⟨s1, f1⟩ := g3.setp (W := []) (v := clf (hEF H 2 2) (hEF H 2 4) k) (k := 2) (j := (k : Int)) (f := 8) (by decide) (by decide) (by omega) (show (k : Int) < hEN H 2 by omega) (by decide)
    have s2 : HS N T ex (sI M1 (hEC H 2 k) 8 (iI (clf (hEF H 2 2) (hEF H 2 4) k))) (sCl H ((k + 1 : Nat) : Int)) := by
      rw [← sCl_s]; exact s1
    have q2 : (sI M1 (hEC H 2 k) 8 (iI (clf (hEF H 2 2) (hEF H 2 4) k))).1 (hEC H 2 k) 2 = iI (hEF H 2 2 k) := (sI_nej (by decide)).trans ((hp.2.1 2 (by decide) (by decide)).trans (congrArg iI (sCl_f (by decide))))
    have q4 : (sI M1 (hEC H 2 k) 8 (iI (clf (hEF H 2 2) (hEF H 2 4) k))).1 (hEC H 2 k) 4 = iI (hEF H 2 4 k) := (sI_nej (by decide)).trans ((hp.2.1 4 (by decide) (by decide)).trans (congrArg iI (sCl_f (by decide))))
    have kx2 : (sI M1 (hEC H 2 k) 8 (iI (clf (hEF H 2 2) (hEF H 2 4) k))).2.2.2[hEC H 2 k]? = some (8, 9) := kx
    obtain ⟨t1, t2⟩ := hS k (by omega) (by omega)
    refine ⟨(iI (clf (hEF H 2 2) (hEF H 2 4) (k + 1)), iI ((k + 1 : Nat) : Int), sI M1 (hEC H 2 k) 8 (iI (clf (hEF H 2 2) (hEF H 2 4) k))), ⟨rfl, rfl, s2, (g4.tr (Fo.sI ⟨k, by omega, by omega, rfl⟩)).m (fun _ _ z => z) (by omega) (by omega)⟩, fun go => ?_⟩
    unfold c52_4
    refine (vC_e hl.1.2.1).trans ?_
    refine (cI_e (ls_size (d := d) (by omega) hl)).trans ?_
    refine (if_neg (leI_n (x := hEN H 2) (y := k) rfl rfl (by omega))).trans ?_
    refine (vC_e hl.1.2.1).trans ?_
    refine (cP_e (ls_get (d := d) (j := (k : Int)) (by omega) hl rfl ⟨by omega, show (k : Int) < hEN H 2 by omega⟩)).trans ?_
    refine (cst_e kx).trans ?_
    refine (ptI_e (t := (8, 9)) kx).trans ?_
    refine (gtI_q kx2 q2).trans ?_
    refine (jn_v).trans ?_
    by_cases c : hEF H 2 2 k = 3
    · have e1 : clf (hEF H 2 2) (hEF H 2 4) (k + 1) = clf (hEF H 2 2) (hEF H 2 4) k + hEF H 2 4 k := by
        show _ + (if hEF H 2 2 k = 3 then hEF H 2 4 k else 1) = _
        rw [if_pos c]
      refine (if_pos (eqI_p (y := 3) rfl rfl c)).trans ?_
      refine (gtI_q kx2 q4).trans ?_
      refine (jv_e).trans ?_
      refine (ltI_q (z := clf (hEF H 2 2) (hEF H 2 4) (k + 1)) (cvI (adI rfl rfl) e1.symm)).trans ?_
      exact (ltI_q (z := ((k + 1 : Nat) : Int)) (cvI (adI rfl li_1) (by omega)))
    · have e1 : clf (hEF H 2 2) (hEF H 2 4) (k + 1) = clf (hEF H 2 2) (hEF H 2 4) k + 1 := by
        show _ + (if hEF H 2 2 k = 3 then hEF H 2 4 k else 1) = _
        rw [if_neg c]
      refine (if_neg (eqI_n (y := 3) rfl rfl (by omega))).trans ?_
      refine (jv_e).trans ?_
      refine (ltI_q (z := clf (hEF H 2 2) (hEF H 2 4) (k + 1)) (cvI (adI rfl li_1) e1.symm)).trans ?_
      exact (ltI_q (z := ((k + 1 : Nat) : Int)) (cvI (adI rfl li_1) (by omega)))
  · obtain ⟨i1, i2, M1⟩ := s
    obtain ⟨g1, g2, g3, g4⟩ := hI
    dsimp only at g1 g2 g3 g4
    subst g2
    have hl := g3.2.1 2 (by decide) (by decide)
    unfold c52_4
    refine (vC_e hl.1.2.1).trans ?_
    refine (cI_e (ls_size (d := d) (by omega) hl)).trans ?_
    refine (if_pos (leI_p (x := hEN H 2) rfl rfl (by omega))).trans ?_
    exact jv_e
end S89b
