/-! the class's lists: one thing more -/
section S50b
variable {Z Z' : Nat → Prop} {c c' t t' a b L D cap cap2 x N : Nat} {M M' M2 : Mem} {q : Nat × Nat} {ow ow' : Nat → Int} {C : Int → Nat} {n r : Int}
theorem ls358 {d : Nat} {a0 a1 a2 : Int32} {h : Int} (hd : 1 ≤ d) (e0 : a0 = iI cap) (e1 : a1 = iI 1) (e2 : a2 = iI h) (hh : 1 < h ∧ h ≤ cap ∧ cap ≤ 200) : runX d 358 [.int a0, .int a1, .int a2] M = some (.int (iI (cap + h)), M) := by
  obtain ⟨d, rfl⟩ : ∃ e, d = e + 1 := ⟨d - 1, by omega⟩
  refine Rt.e ?_
  rw [r358]; unfold b358; rw [aI_e, aI_e, aI_e, aZ_e]; unfold c358
  refine rs1 (ltI_q (z := h) ((if_pos (lsI_p e1 e2 (by omega))).trans e2)) ?_
  refine rs1 (ltI_q (z := cap + h) (adI e0 rfl)) ?_
  refine rs1 (jn_v) ?_
  refine rs1 (if_neg (leI_n (x := cap + h) (y := 0) rfl li_0 (by omega))) ?_
  refine rs1 (if_neg (lsI_n (x := 2147483639) (y := cap + h) rfl rfl (by omega))) ?_
  exact Rt.ok ⟨rfl, rfl⟩
/-- an array half again as long, with what was in the old -/
theorem ls355 {d : Nat} {a1 : Int32} (hd : 1 ≤ d) (e1 : a1 = iI cap2) (hk : M.2.2.2[D]? = some (110, cap)) (hc : cap ≤ cap2 ∧ cap2 ≤ 200) (ho : ∀ j, j < cap → ∃ y q, M.2.2.1 D j = some y ∧ M.2.2.2[y]? = some q ∧ q.1 < 14) : runX d 355 [va_rf (some D), .int a1, va_rf (some 63)] M = some (va_rf (some (ln M)), cpP (nw M 110 cap2) D 0 (ln M) 0 cap) := by
  obtain ⟨d, rfl⟩ : ∃ e, d = e + 1 := ⟨d - 1, by omega⟩
  have f : Fo (fun _ => False) 1 cap2 M (nw M 110 cap2) := Fo.nw
  refine Rt.e ?_
  rw [r355]; unfold b355; rw [aR_e, aI_e, aR_e, aZ_e]; unfold c355
  refine rs1 (if_pos rfl) ?_
  rw [e1]
  refine rs1 (nA_e (by omega) (by omega)) ?_
  refine rs1 (aln_q (f.kd hk) (by omega)) ?_
  refine rs1 (ltI_q (z := cap) (if_neg (lsI_n (x := cap2) (y := cap) rfl rfl (by omega)))) ?_
  refine rs1 (acP_e (m := cap) (b := cap) (cap := cap2) li_0 li_0 rfl (f.kd hk) nw_kd (by omega) (obN_of cap fun j p => ?_)) ?_
  · obtain ⟨y, q, h1, h2, h3⟩ := ho j p
    exact ⟨y, q, (f.p (ln_lt hk) id j).trans h1, f.kd h2, h3⟩
  · exact Rt.ok ⟨rfl, rfl⟩
theorem ls345_c {d : Nat} {h : Nat} (hd : 5 ≤ d) (h2 : M.2.2.2[L]? = some (0, 3)) (h5 : M.1 L 2 = iI cap) (h7 : M.2.2.1 L 1 = some D) (hk : M.2.2.2[D]? = some (110, cap)) (hc : 1 < h ∧ h ≤ cap ∧ cap ≤ 100) (hs : iI cap >>> (((1 : Int32)) &&& 31) = iI h) (ho : ∀ j, j < cap → ∃ y q, M.2.2.1 D j = some y ∧ M.2.2.2[y]? = some q ∧ q.1 < 14) : runX d 345 [va_rf (some L)] M = some (va_rf (some (ln M)), sP (cpP (nw M 110 (cap + h)) D 0 (ln M) 0 cap) L 1 (some (ln M))) := by
  obtain ⟨d, rfl⟩ : ∃ e, d = e + 5 := ⟨d - 5, by omega⟩
  have hL : (cpP (nw M 110 (cap + h)) D 0 (ln M) 0 cap).2.2.2[L]? = some (0, 3) := (Fo.nw (Z := fun _ => False)).kd h2
  refine Rt.e ?_
  rw [r345]; unfold b345; rw [aR_e, aZ_e]; unfold c345
  refine rs1 (gtI_q h2 h5) ?_
  refine rs1 (vC_e h2) ?_
  have e1 : runX (d + 4) 344 [va_rf (some L), .int (iI cap + 1)] M = some (va_rf (some (ln M)), sP (cpP (nw M 110 (cap + h)) D 0 (ln M) 0 cap) L 1 (some (ln M))) := by
    refine Rt.e ?_
    rw [r344]; unfold b344; rw [aR_e, aI_e, aZ_e]; unfold c344
    refine rs1 (gtP_q h2 h7) ?_
    refine rs1 (aln_q hk (by omega)) ?_
    refine rs1 (jn_v) ?_
    refine rs1 (if_pos (lsI_p (x := 0) (y := cap) li_0 rfl (by omega))) ?_
    refine rs1 (jv_e) ?_
    refine rs1 (cI_e (ls358 (h := h) (by omega) rfl (cvI (sbI (adI rfl li_1) rfl) (by omega)) hs (by omega))) ?_
    refine rs1 (gtP_q h2 h7) ?_
    have e2 : runX (d + 3) 354 [va_rf (some D), .int (iI (cap + h))] M = some (va_rf (some (ln M)), cpP (nw M 110 (cap + h)) D 0 (ln M) 0 cap) := by
      refine Rt.e ?_
      rw [r354]; unfold b354; rw [aR_e, aI_e, aZ_e]; unfold c354
      refine rs1 (gcl_e hk) ?_
      refine rs1 (cP_e (ls355 (cap2 := cap + h) (by omega) (congrArg iI (by omega)) hk (by omega) ho)) ?_
      exact Rt.ok ⟨rfl, rfl⟩
    refine rs1 (cP_e e2) ?_
    refine rs1 (ptP_e hL) ?_
    exact Rt.ok ⟨rfl, rfl⟩
  refine rs1 (cP_e e1) ?_
  exact Rt.ok ⟨rfl, rfl⟩
/-- behind the last: an array comes first -/
theorem ls349g {d : Nat} {v : Int32} (hd : 1 ≤ d) (h2 : M.2.2.2[L]? = some (0, 3)) (hk : M.2.2.2[D]? = some (b, cap)) (hb : b = 110 ∨ b = 210) (hn : n = cap ∧ cap ≤ 100) (hv : v = iI n) (e : runX (d - 1) 345 [va_rf (some L)] M = some (va_rf (some N), M2)) (f : M2.2.2.2[L]? = some (0, 3)) (hN : M2.2.2.2[N]? = some (110, cap2)) (hc : cap < cap2 ∧ cap2 ≤ 200) (hx : M2.2.2.2[x]? = some q) (hq : q.1 < 14) : runX d 349 [va_rf (some L), va_rf (some x), va_rf (some D), .int v] M = some (.null, sI (sP M2 N n.toNat (some x)) L 2 (iI (n + 1))) := by
  obtain ⟨d, rfl⟩ : ∃ e, d = e + 1 := ⟨d - 1, by omega⟩
  refine Rt.e ?_
  rw [r349]; unfold b349; rw [aR_e, aR_e, aR_e, aI_e, aZ_e]; unfold c349
  refine rs1 (aln_q hk (by omega)) ?_
  refine rs1 (jn_v) ?_
  refine rs1 (if_pos (eqI_p hv rfl (by omega))) ?_
  refine rs1 (vC_e h2) ?_
  refine rs1 (cP_e e) ?_
  refine rs1 (jv_e) ?_
  refine rs1 (asP_q hN hv (by omega) (asOK_o hx hq)) ?_
  refine rs1 (ptI_q (z := n + 1) f (adI hv li_1)) ?_
  exact Rt.ok ⟨rfl, rfl⟩
/-- what add() does to a list, once its array is there -/
theorem Ls.fin (h : Ls M ow L C n r) (hx : M.2.2.2[x]? = some q) (hq : q.1 < 14) (f : Fo (fun a => ow a = r) 1 120 M M2) (hN : 259 ≤ N) (hk : M2.2.2.2[N]? = some (110, cap)) (ho : owx ow (ln M) r N = r) (hc : n < cap ∧ (cap = 10 ∨ cap = 15 ∨ cap = 22 ∨ cap = 33 ∨ cap = 49 ∨ cap = 73 ∨ cap = 109)) (hp : M2.2.2.1 L 1 = some N) (he : ∀ j, 0 ≤ j → j < n → M2.2.2.1 N j.toNat = some (C j)) : Ls (sI (sP M2 N n.toNat (some x)) L 2 (iI (n + 1))) (owx ow (ln M) r) L (up1 C n x) (n + 1) r ∧ Fo (fun a => ow a = r) 1 120 M (sI (sP M2 N n.toNat (some x)) L 2 (iI (n + 1))) := by
  obtain ⟨⟨h1, h2, h3, h4⟩, h5, h6, -⟩ := h
  have l1 := ln_lt h2
  have hLN : L ≠ N := fun e => by
    have := f.kd h2
    rw [e, hk] at this
    cases this
  refine ⟨⟨⟨h1, f.kd h2, (owx_o l1).trans h3, by omega⟩, sI_eq, fun j p z => ?_, N, cap, ?_, Or.inr ⟨hN, hk, ho, hc.2⟩, by omega, fun j p z => ?_⟩, ?_⟩
  · by_cases y : j = n
    · rw [up1_e y]; exact ⟨q, f.kd hx, hq⟩
    · rw [up1_n y]
      obtain ⟨w, w1, w2⟩ := h6 j p (by omega)
      exact ⟨w, f.kd w1, w2⟩
  · show (sP M2 N n.toNat (some x)).2.2.1 L 1 = some N
    rw [sP_ne hLN]; exact hp
  · show (sP M2 N n.toNat (some x)).2.2.1 N j.toNat = _
    by_cases y : j = n
    · rw [up1_e y, y]; exact sP_eq
    · rw [up1_n y, sP_nej (by omega)]; exact he j p (by omega)
  · refine ⟨⟨f.1.1, f.1.2.1, f.1.2.2.1, f.1.2.2.2⟩, fun a p z j => ?_⟩
    have zL : a ≠ L := fun e => z (e ▸ h3)
    have zN : a ≠ N := fun e => by
      by_cases y : N < ln M
      · exact z (by rw [e]; exact (owx_o y).symm.trans ho)
      · omega
    obtain ⟨e1, e2, e3⟩ := f.2 a p z j
    exact ⟨(sI_ne zL).trans e1, e2, (sP_ne zN : (sP M2 N n.toNat (some x)).2.2.1 a j = _).trans e3⟩
/-- add() -/
theorem Ls.add {d : Nat} (hd : 8 ≤ d) (h : Ls M ow L C n r) (hn : n < 109) (hx : M.2.2.2[x]? = some q) (hq : q.1 < 14) : ∃ M2, runX d 350 [va_rf (some L), va_rf (some x)] M = some (.int (iI 1), M2) ∧ Ls M2 (owx ow (ln M) r) L (up1 C n x) (n + 1) r ∧ Fo (fun a => ow a = r) 1 120 M M2 := by
  obtain ⟨d, rfl⟩ : ∃ e, d = e + 8 := ⟨d - 8, by omega⟩
  have hh := h
  obtain ⟨⟨h1, h2, h3, h4⟩, h5, h6, D, cap, h7, h8, h9, h10⟩ := hh
  have l1 := ln_lt h2
  have f0 : Fo (fun a => ow a = r) 0 0 M (sI M L 0 (M.1 L 0 + 1)) := Fo.sI h3
  have h5' : (sI M L 0 (M.1 L 0 + 1)).1 L 2 = iI n := (sI_nej (by decide)).trans h5
  suffices hs : ∃ M2, runX (d + 7) 349 [va_rf (some L), va_rf (some x), va_rf (some D), .int (iI n)] (sI M L 0 (M.1 L 0 + 1)) = some (.null, M2) ∧ Ls M2 (owx ow (ln M) r) L (up1 C n x) (n + 1) r ∧ Fo (fun a => ow a = r) 1 120 M M2 by
    obtain ⟨M2, e1, e2, e3⟩ := hs
    refine ⟨M2, Rt.e ?_, e2, e3⟩
    rw [r350]; unfold b350; rw [aR_e, aR_e, aZ_e]; unfold c350
    refine rs1 (gtI_q h2 rfl) ?_
    refine rs1 (ptI_e h2) ?_
    refine rs1 (gtP_q (M := sI M L 0 (M.1 L 0 + 1)) h2 h7) ?_
    refine rs1 (gtI_q (M := sI M L 0 (M.1 L 0 + 1)) h2 h5') ?_
    refine rs1 (vC_e (M := sI M L 0 (M.1 L 0 + 1)) h2) ?_
    refine rs1 (cV_e e1) ?_
    refine rs1 (rtZ_q (z := 1) li_1 (by omega)) ?_
    exact Rt.ok ⟨rfl, rfl⟩
  rcases h8 with ⟨g1, g2, g3⟩ | ⟨g1, g2, g3, g4⟩
  · -- the first
    subst g1
    have n0 : n = 0 := by omega
    subst n0
    have e := ls345_0 (d := d + 6) (M := sI M L 0 (M.1 L 0 + 1)) (by omega) h2 h5' h7 g3
    have f1 : Fo (fun a => ow a = r) 1 120 M (sP (nw (sI M L 0 (M.1 L 0 + 1)) 110 10) L 1 (some (ln M))) := (f0.tr (Fo.nw.tr (Fo.sP h3))).m (fun _ _ z => z) (by omega) (by omega)
    refine ⟨_, ls349g (D := 2) (b := 210) (cap := 0) (cap2 := 10) (N := ln M) (by omega) h2 g3 (Or.inr rfl) (by omega) rfl e (f1.kd h2) nw_kd (by omega) (f1.kd hx) hq, Ls.fin h hx hq f1 (by omega) nw_kd (owx_n (Nat.le_refl _)) (by omega) sP_eq (fun j p z => absurd z (by omega))⟩
  · by_cases y : n < cap
    · exact ⟨_, ls349 (by omega) h2 g2 (by omega) hx hq rfl, Ls.fin h hx hq (f0.m (fun _ _ z => z) (by omega) (by omega)) g1 g2 ((owx_o (ln_lt g2)).trans g3) (by omega) h7 h10⟩
    · -- half again as long
      have nc : n = cap := by omega
      have ho : ∀ j, j < cap → ∃ y q, (sI M L 0 (M.1 L 0 + 1)).2.2.1 D j = some y ∧ (sI M L 0 (M.1 L 0 + 1)).2.2.2[y]? = some q ∧ q.1 < 14 := fun j p => by
        obtain ⟨w, w1, w2⟩ := h6 j (by omega) (by omega)
        exact ⟨_, w, h10 j (by omega) (by omega), w1, w2⟩
      obtain ⟨k, hk1, hk2⟩ : ∃ k : Nat, (iI cap >>> (((1 : Int32)) &&& 31) = iI k ∧ 1 < k ∧ k ≤ cap ∧ cap ≤ 100) ∧ (cap + k = 10 ∨ cap + k = 15 ∨ cap + k = 22 ∨ cap + k = 33 ∨ cap + k = 49 ∨ cap + k = 73 ∨ cap + k = 109) := by
        rcases g4 with g | g | g | g | g | g | g <;> subst g
        · exact ⟨5, ⟨by decide, by omega⟩, by omega⟩
        · exact ⟨7, ⟨by decide, by omega⟩, by omega⟩
        · exact ⟨11, ⟨by decide, by omega⟩, by omega⟩
        · exact ⟨16, ⟨by decide, by omega⟩, by omega⟩
        · exact ⟨24, ⟨by decide, by omega⟩, by omega⟩
        · exact ⟨36, ⟨by decide, by omega⟩, by omega⟩
        · omega
      have e := ls345_c (d := d + 6) (M := sI M L 0 (M.1 L 0 + 1)) (by omega) h2 (by rw [h5', nc]) h7 g2 hk1.2 hk1.1 ho
      have f1 : Fo (fun a => ow a = r) 1 120 M (sP (cpP (nw (sI M L 0 (M.1 L 0 + 1)) 110 (cap + k)) D 0 (ln M) 0 cap) L 1 (some (ln M))) := by
        have q1 : Fo (fun a => ow a = r ∨ ln M ≤ a) 1 120 M (sP (cpP (nw (sI M L 0 (M.1 L 0 + 1)) 110 (cap + k)) D 0 (ln M) 0 cap) L 1 (some (ln M))) := ((f0.m (fun _ _ z => Or.inl z) (Nat.le_refl _) (Nat.le_refl _)).tr (Fo.nw.tr ((Fo.cpP (Or.inr (Nat.le_refl _))).tr (Fo.sP (Or.inl h3))))).m (fun _ _ z => z) (by omega) (by omega)
        exact q1.m (fun a p z => z.elim id fun w => absurd w (by omega)) (Nat.le_refl _) (Nat.le_refl _)
      have kN : (sP (cpP (nw (sI M L 0 (M.1 L 0 + 1)) 110 (cap + k)) D 0 (ln M) 0 cap) L 1 (some (ln M))).2.2.2[ln M]? = some (110, cap + k) := nw_kd
      have hLn : ln M ≠ L := by omega
      refine ⟨_, ls349g (D := D) (b := 110) (cap := cap) (cap2 := cap + k) (N := ln M) (by omega) h2 g2 (Or.inl rfl) (by omega) rfl e (f1.kd h2) kN (by omega) (f1.kd hx) hq, Ls.fin h hx hq f1 (by omega) kN (owx_n (Nat.le_refl _)) (by omega) sP_eq (fun j p z => ?_)⟩
      refine (sP_ne hLn).trans ?_
      show (if ln M = ln M then va_cpy _ _ 0 0 cap j.toNat else _) = _
      rw [if_pos rfl]
      unfold va_cpy
      rw [if_pos (by omega), show 0 + (j.toNat - 0) = j.toNat by omega]
      exact ((Fo.nw (Z := fun _ => False)).p (M := sI M L 0 (M.1 L 0 + 1)) (ln_lt g2) id _).trans (h10 j p z)
end S50b
