/-! both machines: a life begins -/
/-- nothing has begun -/
def zrs (e s : ZS) (sd : Int32) : ZS := (fun k i j => if k = 8 then 0 else if k = 9 then e.1 20 0 0 else if k = 10 then 0 else if k = 11 then 0 else s.1 k i j, fun k i j => if k = 4 then sd else s.2 k i j)
/-- between lives -/
def zPs (e s : ZS) : Prop := (s.1 0 0 0 = 0 ∧ s.1 1 0 0 = 0) ∧ s.1 14 0 0 ≤ 1000 ∧ (∀ D, 0 ≤ s.1 17 D 0 ∧ s.1 17 D 0 ≤ e.1 30 0 0) ∧ (∀ p, -1 ≤ s.1 15 p 0 ∧ s.1 15 p 0 ≤ 16) ∧ -1999990000 ≤ s.1 12 0 0 ∧ s.1 12 0 0 ≤ 2147483647
section S9bj
variable {d dl : Nat} {e s s' t u : ZS} {κ : ZK} {M M' M1 M2 Mc Mr : Mem} {a b j N x y LL : Nat} {xs : Nat → Int32} {v v1 v2 v3 w sd : Int32} {c k i n m p o q id par en B D r : Int} {R : Int → RG} {L : Int → Int} {Y : Nat → Int → Int}
theorem kp352 (hd : 1 ≤ d) (hk : M.2.2.2[a]? = some (100, N)) (h : N ≤ 10000) : ∃ M', runX d 352 [va_rf (some a), .int w] M = some (.null, M') ∧ M'.2 = M.2 ∧ (∀ b j, b ≠ a → M'.1 b j = M.1 b j) ∧ ∀ j, j < N → M'.1 a j = w := by
  obtain ⟨d, rfl⟩ : ∃ e, d = e + 1 := ⟨d - 1, by omega⟩
  rw [r352]; unfold b352; rw [aR_e, aI_e, aZ_e]; unfold c352
  rw [aln_q' hk, jn_v]
  refine lp_use (body := c352_5 (runX d) (some a) w (jv fun s2 => some (.null, s2)) (iI (N : Int))) (R := fun s => some (.null, s.2)) N (fun k s => s.1 = iI (k : Int) ∧ s.2.2 = M.2 ∧ (∀ b j, b ≠ a → s.2.1 b j = M.1 b j) ∧ ∀ j, j < k → s.2.1 a j = w) ((0 : Int32), M) 4294967296 (by omega) ⟨li_0, rfl, fun _ _ _ => rfl, fun j p => by omega⟩ (fun s' g1 g2 => ?_) (fun k s hk' hI => ?_) (fun s hI go => ?_)
  · exact ⟨s'.2, g2, g1.2.1, g1.2.2.1, g1.2.2.2⟩
  · obtain ⟨i1, Mk⟩ := s
    obtain ⟨u1, u2, u3, u4⟩ := hI
    dsimp only at u1 u2 u3 u4
    subst u1
    refine ⟨(iI ((k + 1 : Nat) : Int), sI Mk a k w), ⟨rfl, u2, fun b j p => (sI_ne p).trans (u3 b j p), fun j p => ?_⟩, fun go => ?_⟩
    · by_cases y : j = k
      · rw [y]; exact sI_eq
      · exact (sI_nej y).trans (u4 j (by omega))
    · unfold c352_5
      dsimp only
      have kk : Mk.2.2.2[a]? = some (100, N) := by rw [congrArg (fun z => z.2.2) u2]; exact hk
      rw [if_neg (leI_n rfl rfl (by omega)), asI_e kk (by omega) (by omega) (by omega)]
      exact ltI_q (z := ((k + 1 : Nat) : Int)) (cvI (adI rfl li_1) (by omega))
  · obtain ⟨i1, Mk⟩ := s
    obtain ⟨u1, -⟩ := hI
    dsimp only at u1
    subst u1
    unfold c352_5
    dsimp only
    rw [if_pos (leI_p rfl rfl (by omega))]
    rfl
theorem zrs_k {kk : Nat} (h8 : kk ≠ 8) (h9 : kk ≠ 9) (h10 : kk ≠ 10) (h11 : kk ≠ 11) : (zrs e s sd).1 kk = s.1 kk := by
  funext x y
  show (if kk = 8 then _ else if kk = 9 then _ else if kk = 10 then _ else if kk = 11 then _ else _) = _
  rw [if_neg h8, if_neg h9, if_neg h10, if_neg h11]
theorem zrs_w {kk : Nat} (h : kk ≠ 4) : (zrs e s sd).2 kk = s.2 kk := by
  funext x y
  exact if_neg h
theorem zPs.bt (h : zPs e s) (hl : zEl e) : zBt e (zrs e s sd) := by
  obtain ⟨⟨h0, h1⟩, h14, h17, h15, h12⟩ := h
  have l20 := hl.1
  have e1 : (zrs e s sd).1 1 0 0 = 0 := h1
  have k17 : (zrs e s sd).1 17 = s.1 17 := zrs_k (by decide) (by decide) (by decide) (by decide)
  refine ⟨⟨h0, h1⟩, ⟨?_, ?_, h14, fun D => ?_, fun p => h15 p, ?_⟩, fun k => Or.inl rfl, ?_⟩
  · show e.1 20 0 0 + 0 = _ ∧ (0 : Int) ≤ 0
    omega
  · show (0 : Int) ≤ 0 ∧ (0 : Int) ≤ 0
    omega
  · have := h17 D
    rw [e1, if_neg (by decide), k17]
    show 0 ≤ s.1 17 D 0 ∧ s.1 17 D 0 + 0 ≤ 2 * 0 + e.1 30 0 0
    omega
  · show -2000000000 ≤ s.1 12 0 0 - e.1 20 0 0 ∧ s.1 12 0 0 ≤ 2147483647
    omega
  · show 0 ≤ e.1 20 0 0
    omega
/-- the class -/
theorem zc24 (hd : 2 ≤ d) (hC : CT M) (hG : zCH e κ s M) (hk : zK8 κ) (hm : s.1 1 0 0 = 0) (hsd : M.1 88 2 = sd) (hlu : e.1 10 2 0 = 1 → M.1 143 6 = iI 0 ∧ 0 ≤ s.1 14 0 0) : ∃ M', runX d 24 [va_rf (some 88)] M = some (.null, M') ∧ zFo κ M M' ∧ CT M' ∧ zCG e κ (zrs e s sd) M' ∧ M'.1 89 3 = iI 0 ∧ M'.1 89 4 = iI 0 ∧ ∀ a j, a ≠ 107 → ¬ (a = 88 ∧ j = 18) → ¬ (a = 89 ∧ (j = 3 ∨ j = 4)) → M'.1 a j = M.1 a j := by
  obtain ⟨d, rfl⟩ : ∃ e, d = e + 1 := ⟨d - 1, by omega⟩
  obtain ⟨Ma, q1, q2, q3, q4⟩ := kp352 (d := d) (M := M) (a := 107) (N := 16) (w := 0) (by omega) (ck_107 hC) (by omega)
  have Ca : CT Ma := ⟨fun q z => by rw [congrArg (fun z => z.2.2) q2]; exact hC.1 q z, fun q z => by rw [congrArg (fun z => z.2.1) q2]; exact hC.2 q z⟩
  have ka := ck_88 Ca
  have g2 : Ma.1 88 2 = sd := (q3 _ _ (by decide)).trans hsd
  obtain ⟨Mb, hMb⟩ : ∃ z, z = sI (sI (sI Ma 88 18 sd) 89 3 (iI 0)) 89 4 (iI 0) := ⟨_, rfl⟩
  have o : ∀ a j, a ≠ 107 → ¬ (a = 88 ∧ j = 18) → ¬ (a = 89 ∧ (j = 3 ∨ j = 4)) → Mb.1 a j = M.1 a j := fun a j z1 z2 z3 => by
    rw [hMb]
    refine Eq.trans ?_ (q3 a j z1)
    by_cases y : a = 88
    · subst y
      exact (sI_ne (by decide)).trans ((sI_ne (by decide)).trans (sI_nej fun w => z2 ⟨rfl, w⟩))
    · by_cases y2 : a = 89
      · subst y2
        exact (sI_nej fun w => z3 ⟨rfl, Or.inr w⟩).trans ((sI_nej fun w => z3 ⟨rfl, Or.inl w⟩).trans (sI_ne (by decide)))
      · exact (sI_ne y2).trans ((sI_ne y2).trans (sI_ne y))
  have Mb2 : Mb.2 = M.2 := by rw [hMb]; exact q2
  have Cb : CT Mb := ⟨fun q z => by rw [congrArg (fun z => z.2.2) Mb2]; exact hC.1 q z, fun q z => by rw [congrArg (fun z => z.2.1) Mb2]; exact hC.2 q z⟩
  obtain ⟨h1, h7, h8, h9, h10⟩ := hG
  refine ⟨Mb, ?_, ⟨Mb2, fun a j p _ _ _ => o a j (fun z => by rw [z, inW_c (by decide)] at p; cases p) (fun z => by rw [z.1, z.2] at p; exact absurd p (by decide)) (fun z => by rcases z with ⟨z, z2 | z2⟩ <;> rw [z, z2] at p <;> exact absurd p (by decide))⟩, Cb, ⟨fun id p q => ?_, fun id p q r => ?_, fun k p q => ?_, ⟨?_, ?_, ?_, ?_⟩, fun x p u w => ?_, fun q p r => ?_, fun x => ?_⟩, ?_, ?_, o⟩
  · rw [r24]; unfold b24; rw [aR_e, aZ_e]; unfold c24
    rw [gtP_q (ck_88 hC) (cf_88_17 hC), cV_e q1, gtI_q ka g2, ptI_e ka, gtP_q (M := sI Ma 88 18 sd) ka (cf_88_0 Ca), ptI_q (M := sI Ma 88 18 sd) (z := 0) (ck_89 Ca) li_0, gtP_q (M := sI (sI Ma 88 18 sd) 89 3 (iI 0)) ka (cf_88_0 Ca), ptI_q (M := sI (sI Ma 88 18 sd) 89 3 (iI 0)) (z := 0) (ck_89 Ca) li_0, ← hMb]
  · rw [o _ _ (by decide) (by omega) (by omega)]
    refine h1 id p (q.elim (fun z => z) fun z => absurd z.2 ?_)
    show ¬ ((0 : Int) = 1)
    decide
  · exact absurd r (show ¬ ((0 : Int) = 1) by decide)
  · rw [hMb]
    refine (sI_ne (by decide)).trans ((sI_ne (by decide)).trans ((sI_ne (by decide)).trans ((q4 _ (by omega)).trans li_0)))
  · rw [hMb]; exact (sI_ne (by decide)).trans ((sI_ne (by decide)).trans sI_eq)
  · rw [hMb]; exact (sI_nej (by decide)).trans sI_eq
  · rw [hMb]; exact sI_eq
  · rw [o _ _ (by decide) (by decide) (by decide), h7]; rfl
  · have n0 := hk 0 (by omega)
    have n1 := hk 1 (by omega)
    have n2 := hk 2 (by omega)
    rw [o _ _ (by omega) (by omega) (by omega), o _ _ (by omega) (by omega) (by omega), o _ _ (by omega) (by omega) (by omega)]
    exact h8 x p u w
  · obtain ⟨c1, c2, c3⟩ := h9 q p r
    have z7 : zTw q ≠ 88 ∧ zTw q ≠ 89 ∧ zTw q ≠ 107 ∧ zTw q + 3 ≠ 88 ∧ zTw q + 3 ≠ 89 ∧ zTw q + 3 ≠ 107 ∧ zTw q + 2 ≠ 88 ∧ zTw q + 2 ≠ 89 ∧ zTw q + 2 ≠ 107 := by
      unfold zTw; omega
    rw [o _ _ (by omega) (by omega) (by omega)]
    exact ⟨c1, fun j x y => by rw [o _ _ (by omega) (by omega) (by omega)]; exact c2 j x y, fun j x y => by rw [o _ _ (by omega) (by omega) (by omega)]; exact c3 j x y⟩
  · obtain ⟨l1, l2⟩ := hlu x
    obtain ⟨c2, c4⟩ := h10 x
    rw [o _ _ (by decide) (by decide) (by decide), o _ _ (by decide) (by decide) (by decide)]
    exact ⟨⟨l1, c2, l2⟩, fun t p q => by rw [o _ _ (by decide) (by omega) (by omega), o _ _ (by decide) (by omega) (by omega)]; exact c4 t p q⟩
  · rw [hMb]; exact (sI_nej (by decide)).trans sI_eq
  · rw [hMb]; exact sI_eq
/-- the reference -/
theorem zr251 (hd : 1 ≤ d) (hG : zRH e s M) (hsd : M.1 160 78 = sd) (h77 : M.1 160 77 = iI (e.1 20 0 0)) (hlu : e.1 10 2 0 = 1 → 0 ≤ s.1 14 0 0) : ∃ M', runX d 251 [va_rf (some 160)] M = some (.null, M') ∧ zRo e M M' ∧ zRG e (zrs e s sd) M' ∧ M'.1 160 85 = iI 0 ∧ M'.1 160 81 = iI 0 ∧ M'.1 160 82 = iI 0 ∧ ∀ a j, a ≠ 210 → ¬ (a = 160 ∧ (j = 79 ∨ j = 80 ∨ j = 81 ∨ j = 82 ∨ j = 85)) → M'.1 a j = M.1 a j := by
  obtain ⟨M', x1, x2, o, x4, x5, x6, x7, x8, x9⟩ := rr251 (d := d) hd hG.1
  obtain ⟨g0, g1, g8, g9, g10, g11⟩ := hG
  refine ⟨M', x1, ⟨x2, fun a j p => o a j (fun z => by rw [z, inW_c (by decide)] at p; cases p) (fun z => by rcases z with ⟨z, z2 | z2 | z2 | z2 | z2⟩ <;> rw [z, z2] at p <;> exact absurd p (by decide)), fun a j p _ => o a j (by omega) (by omega)⟩, ⟨g0.keep x2, fun id p z => ?_, fun id p z z2 => ?_, fun k p z => ?_, ⟨?_, ?_, ?_, ?_, ?_⟩, fun x p u w => ?_, fun q p z => ?_, fun x => ?_⟩, x9, x7, x8, o⟩
  · rw [o _ _ (by decide) (by omega)]
    refine g1 id p (z.elim (fun z => z) fun z => absurd z.2 ?_)
    show ¬ ((0 : Int) = 1)
    decide
  · exact absurd z2 (show ¬ ((0 : Int) = 1) by decide)
  · exact (x4 k p z).trans li_0
  · rw [x5, hsd]; rfl
  · rw [x6, h77]; rfl
  · exact x7
  · exact x8
  · rw [o _ _ (by decide) (by decide)]; exact g8
  · rw [o _ _ (by decide) (by omega), o _ _ (by decide) (by omega), o _ _ (by decide) (by omega)]
    exact g9 x p u w
  · obtain ⟨c1, c2, c3⟩ := g10 q p z
    rw [o _ _ (by decide) (by omega)]
    exact ⟨c1, fun j x y => by rw [o _ _ (by decide) (by omega)]; exact c2 j x y, fun j x y => by rw [o _ _ (by decide) (by omega)]; exact c3 j x y⟩
  · obtain ⟨c1, c3⟩ := g11 x
    rw [o _ _ (by decide) (by decide)]
    exact ⟨⟨c1, hlu x⟩, fun t p q => by rw [o _ _ (by decide) (by omega), o _ _ (by decide) (by omega)]; exact c3 t p q⟩
end S9bj
