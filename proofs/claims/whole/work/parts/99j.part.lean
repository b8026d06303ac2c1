/-! the first object's machine: a CALL is heard -/
section S99j
variable {d : Nat} {e s s' u : ZS} {κ : ZK} {M M' M1 M2 : Mem} {a b j N x y T : Nat} {v v1 v2 v3 w : Int32} {c t k i n p o q id fl ar st key par r B h : Int} {Y : Nat → Int → Int}
theorem zc125 (hd : 1 ≤ d) (hC : CT M) (hq : 0 ≤ q ∧ q < 8) (h4 : M.1 (zTw q) 4 = iI h) (hh : 0 ≤ h ∧ h ≤ 100000) (h1 : M.1 (zTw q) 1 = iI par) (hp : 0 ≤ par ∧ par ≤ 4) (hB : 0 ≤ B ∧ B + par ≤ 2520) (hv : v1 = iI B) : ∃ M', runX d 125 [va_rf (some (zTw q)), va_rf (some 92), .int v1, .int w] M = some (.null, M') ∧ M'.2 = M.2 ∧ (∀ a j, ¬ (a = zTw q ∧ j = 4) → a ≠ zTw q + 2 → a ≠ zTw q + 3 → M'.1 a j = M.1 a j) ∧ M'.1 (zTw q) 4 = iI (h + 1) ∧ (∀ j : Int, 0 ≤ j → j < 50 → M'.1 (zTw q + 3) j.toNat = if j = h ∧ h < 50 then w else M.1 (zTw q + 3) j.toNat) ∧ ∀ j : Int, 0 ≤ j → j < 200 → M'.1 (zTw q + 2) j.toNat = if h < 50 ∧ 4 * h ≤ j ∧ j < 4 * h + par then M.1 92 (B + (j - 4 * h)).toNat else M.1 (zTw q + 2) j.toNat := by
  obtain ⟨d, rfl⟩ : ∃ e, d = e + 1 := ⟨d - 1, by omega⟩
  subst hv
  obtain ⟨⟨k1, k2, k3, k4⟩, ⟨f3, f5, f6⟩, -⟩ := zTw_k hC hq
  have tb : 108 ≤ zTw q ∧ zTw q ≤ 136 := by unfold zTw; omega
  obtain ⟨T, hT⟩ : ∃ T, T = zTw q := ⟨_, rfl⟩
  rw [← hT] at k1 k2 k3 k4 f3 f5 f6 tb h4 h1 ⊢
  rw [r125]; unfold b125; rw [aR_e, aR_e, aI_e, aI_e, aZ_e]; unfold c125
  rw [gtI_q k1 h4, jn_v]
  have fin : ∀ M1 : Mem, M1.2 = M.2 → M1.1 T 4 = iI h → (jv (fun (s2 : Mem) => gtI (10, 9) s2 (some T) 4 fun x3 => ptI (10, 9) s2 (some T) 4 (x3 + ((1 : Int32))) fun M4 => some (.null, M4)) M1 : XA) = some (.null, sI M1 T 4 (iI (h + 1))) := fun M1 q1 q2 => by
    have kk : M1.2.2.2[T]? = some (10, 9) := by rw [congrArg (fun z => z.2.2) q1]; exact k1
    rw [jv_e, gtI_q kk q2, ptI_q (z := h + 1) kk (adI rfl li_1)]
  by_cases y : 50 ≤ h
  · refine ⟨sI M T 4 (iI (h + 1)), ?_, rfl, fun a j p _ _ => ?_, sI_eq, fun j p q => ?_, fun j p q => ?_⟩
    · rw [if_pos (leI_p li_50 rfl (by omega))]; exact fin M rfl h4
    · by_cases y1 : a = T
      · exact sI_nej fun z => p ⟨y1, z⟩
      · exact sI_ne y1
    · rw [if_neg (by omega)]; exact sI_ne (by omega)
    · rw [if_neg (by omega)]; exact sI_ne (by omega)
  rw [if_neg (leI_n li_50 rfl (by omega)), gtP_q k1 f6, gtI_q k1 h4, asI_e k4 (by omega) (by omega) (by omega)]
  obtain ⟨M1, hM1⟩ : ∃ z, z = sI M (T + 3) h.toNat w := ⟨_, rfl⟩
  rw [← hM1]
  have q2 : M1.2 = M.2 := by rw [hM1]; rfl
  refine lp_use (body := c125_22 (runX d) (some T) (some 92) (iI B) (jv (fun (s2 : Mem) => gtI (10, 9) s2 (some T) 4 fun x3 => ptI (10, 9) s2 (some T) 4 (x3 + ((1 : Int32))) fun M4 => some (.null, M4)))) (R := fun s => jv (fun (s2 : Mem) => gtI (10, 9) s2 (some T) 4 fun x3 => ptI (10, 9) s2 (some T) 4 (x3 + ((1 : Int32))) fun M4 => some (.null, M4)) s.2) par.toNat (fun k s => s.1 = iI (k : Int) ∧ s.2.2 = M.2 ∧ (∀ a j, a ≠ T + 2 → s.2.1 a j = M1.1 a j) ∧ ∀ j : Int, 0 ≤ j → j < 200 → s.2.1 (T + 2) j.toNat = if 4 * h ≤ j ∧ j < 4 * h + k then M.1 92 (B + (j - 4 * h)).toNat else M.1 (T + 2) j.toNat) ((0 : Int32), M1) 4294967296 (by omega) ⟨li_0, q2, fun _ _ _ => rfl, fun j p q => ?_⟩ (fun s' g1 g2 => ?_) (fun k s hk hI => ?_) (fun s hI go => ?_)
  · rw [if_neg (by omega), hM1]; exact sI_ne (by omega)
  · obtain ⟨i1, Mk⟩ := s'
    obtain ⟨u1, u2, u3, u4⟩ := g1
    dsimp only at u1 u2 u3 u4 g2
    have e4 : Mk.1 T 4 = iI h := (u3 T 4 (by omega)).trans (by rw [hM1]; exact (sI_ne (by omega)).trans h4)
    refine ⟨sI Mk T 4 (iI (h + 1)), g2.trans (fin Mk u2 e4), u2, fun a j p r w => ?_, sI_eq, fun j p q => ?_, fun j p q => ?_⟩
    · have o : Mk.1 a j = M.1 a j := (u3 a j r).trans (by rw [hM1]; exact sI_ne w)
      by_cases y1 : a = T
      · exact (sI_nej fun z => p ⟨y1, z⟩).trans o
      · exact (sI_ne y1).trans o
    · refine (sI_ne (by omega)).trans ((u3 _ _ (by omega)).trans ?_)
      rw [hM1]
      by_cases y2 : j = h
      · rw [if_pos ⟨y2, by omega⟩, y2]; exact sI_eq
      · rw [if_neg fun z => y2 z.1]; exact sI_nej (by omega)
    · refine (sI_ne (by omega)).trans ((u4 j p q).trans ?_)
      by_cases y2 : 4 * h ≤ j ∧ j < 4 * h + par
      · rw [if_pos (by omega), if_pos (by omega)]
      · rw [if_neg (by omega), if_neg (by omega)]
  · obtain ⟨i1, Mk⟩ := s
    obtain ⟨u1, u2, u3, u4⟩ := hI
    dsimp only at u1 u2 u3 u4
    subst u1
    have kk : Mk.2.2.2 = M.2.2.2 := congrArg (fun z => z.2.2) u2
    have pp : Mk.2.2.1 = M.2.2.1 := congrArg (fun z => z.2.1) u2
    have a1 : Mk.2.2.2[T]? = some (10, 9) := by rw [kk]; exact k1
    have a3 : Mk.2.2.2[T + 2]? = some (100, 200) := by rw [kk]; exact k3
    have a92 : Mk.2.2.2[92]? = some (100, 2520) := by rw [kk]; exact ck_92 hC
    have p5 : Mk.2.2.1 T 5 = some (T + 2) := by rw [pp]; exact f5
    have e1 : Mk.1 T 1 = iI par := (u3 T 1 (by omega)).trans (by rw [hM1]; exact (sI_ne (by omega)).trans h1)
    have e4 : Mk.1 T 4 = iI h := (u3 T 4 (by omega)).trans (by rw [hM1]; exact (sI_ne (by omega)).trans h4)
    have es : Mk.1 92 (B + (k : Int)).toNat = M.1 92 (B + (k : Int)).toNat := (u3 92 _ (by omega)).trans (by rw [hM1]; exact sI_ne (by omega))
    refine ⟨(iI ((k + 1 : Nat) : Int), sI Mk (T + 2) (4 * h + k).toNat (M.1 92 (B + (k : Int)).toNat)), ⟨rfl, u2, fun a j p => (sI_ne p).trans (u3 a j p), fun j p q => ?_⟩, fun go => ?_⟩
    · by_cases y2 : j = 4 * h + k
      · rw [if_pos (by omega), y2, show B + (4 * h + (k : Int) - 4 * h) = B + (k : Int) by omega]; exact sI_eq
      · refine (sI_nej (by omega)).trans ((u4 j p q).trans ?_)
        by_cases y3 : 4 * h ≤ j ∧ j < 4 * h + k
        · rw [if_pos y3, if_pos (by omega)]
        · rw [if_neg y3, if_neg (by omega)]
    · unfold c125_22
      refine (gtI_q a1 e1).trans ?_
      refine (if_neg (leI_n rfl rfl (by omega))).trans ?_
      refine (if_neg (leI_n (x := 4) rfl rfl (by omega))).trans ?_
      refine (aln_q' a92).trans ?_
      refine (if_neg (leI_n rfl (adI rfl rfl) (by omega))).trans ?_
      refine (gtP_q a1 p5).trans ?_
      refine (gtI_q a1 e4).trans ?_
      refine (alI_q (n := 2520) (z := B + (k : Int)) a92 (adI rfl rfl) (by omega) es).trans ?_
      refine (congrArg (fun z => asI 100 Mk (some (T + 2)) z (M.1 92 (B + (k : Int)).toNat) _) (show iI h * 4 + iI (k : Int) = iI (4 * h + k) from cvI (adI (mlI (y := 4) rfl rfl) rfl) (by omega))).trans ?_
      refine (asI_e a3 (by omega) (by omega) (by omega)).trans ?_
      exact ltI_q (z := ((k + 1 : Nat) : Int)) (cvI (adI rfl li_1) (by omega))
  · obtain ⟨i1, Mk⟩ := s
    obtain ⟨u1, u2, u3, u4⟩ := hI
    dsimp only at u1 u2 u3 u4
    subst u1
    have a1 : Mk.2.2.2[T]? = some (10, 9) := by rw [congrArg (fun z => z.2.2) u2]; exact k1
    have e1 : Mk.1 T 1 = iI par := (u3 T 1 (by omega)).trans (by rw [hM1]; exact (sI_ne (by omega)).trans h1)
    unfold c125_22
    refine (gtI_q a1 e1).trans ?_
    exact if_pos (leI_p rfl rfl (by omega))
theorem zhear_2 {k : Nat} {i j : Int} : (zhear s q par r).2 k i j = if k = 12 ∧ i = q ∧ j = s.1 17 q 0 ∧ s.1 17 q 0 < 50 then iI r else if k = 13 ∧ i = q ∧ s.1 17 q 0 < 50 ∧ 4 * s.1 17 q 0 ≤ j ∧ j < 4 * s.1 17 q 0 + par then s.2 1 (zf s) (zh s - par + (j - 4 * s.1 17 q 0)) else s.2 k i j := rfl
/-- a CALL is heard: what stands -/
theorem zCM.hear (h : zCM e κ s M) (hl : zLy s) (hk : zK8 κ) (hq : 0 ≤ q ∧ q < 8) (hb : 0 ≤ s.1 17 q 0) (h2 : M'.2 = M.2) (f : ∀ a j, ¬ (a = zTw q ∧ j = 4) → a ≠ zTw q + 2 → a ≠ zTw q + 3 → M'.1 a j = M.1 a j) (n4 : M'.1 (zTw q) 4 = iI (s.1 17 q 0 + 1)) (n3 : ∀ j : Int, 0 ≤ j → j < 50 → M'.1 (zTw q + 3) j.toNat = if j = s.1 17 q 0 ∧ s.1 17 q 0 < 50 then iI r else M.1 (zTw q + 3) j.toNat) (n2 : ∀ j : Int, 0 ≤ j → j < 200 → M'.1 (zTw q + 2) j.toNat = if s.1 17 q 0 < 50 ∧ 4 * s.1 17 q 0 ≤ j ∧ j < 4 * s.1 17 q 0 + par then M.1 92 (ztp s - par + (j - 4 * s.1 17 q 0)).toNat else M.1 (zTw q + 2) j.toNat) (hp : 0 ≤ par ∧ par ≤ zh s) : zCM e κ (zhear s q par r) M' := by
  have hG := h.2.1
  have n12 := hl.1.2
  obtain ⟨g1, g2, g3, ⟨g4, g5, g6, g7⟩, g8, g9, g10⟩ := hG
  have tb : 108 ≤ zTw q ∧ zTw q ≤ 136 := by unfold zTw; omega
  have o : ∀ a j, (a < 108 ∨ 140 ≤ a) → M'.1 a j = M.1 a j := fun a j p => f a j (by omega) (by omega) (by omega)
  have a0 := hk 0 (by omega)
  have a1 := hk 1 (by omega)
  have a2 := hk 2 (by omega)
  have S : ∀ x, 0 ≤ x → x < par → M.1 92 (ztp s - par + x).toNat = s.2 1 (zf s) (zh s - par + x) := fun x p q => by
    have tp := hl.tp
    have := (h.2.2.1 (zf s) (by omega) (by unfold zf; omega)).2.2 (zh s - par + x) (by omega) (by show _ < zh s; omega)
    rw [← this]
    exact congrArg (fun z : Int => M.1 92 z.toNat) (by unfold ztp; omega)
  have W : ∀ k, k ≠ 12 → k ≠ 13 → (zhear s q par r).2 k = s.2 k := fun k p1 p2 => by
    funext x y
    show (if k = 12 ∧ _ then _ else if k = 13 ∧ _ then _ else _) = _
    rw [if_neg fun z => p1 z.1, if_neg fun z => p2 z.1]
  have F : ∀ k, k ≠ 17 → (zhear s q par r).1 k = s.1 k := fun k p => by
    funext x y
    show (if k = 17 ∧ _ then _ else _) = _
    rw [if_neg fun z => p z.1]
  refine h.glob ⟨fun id p z => ?_, fun id p z z2 i u w => ?_, fun k p z => ?_, ⟨?_, ?_, ?_, ?_⟩, fun x p u w => ?_, fun q' p z => ?_, fun x => ?_⟩ h2 (fun a j p => o a j (by omega)) (fun k p => F k (by omega)) ⟨W 0 (by decide) (by decide), W 1 (by decide) (by decide)⟩ n12
  · rw [o _ _ (by omega), W 2 (by decide) (by decide)]
    rw [F 8 (by decide)] at z
    exact g1 id p z
  · rw [o _ _ (by omega), W 3 (by decide) (by decide)]
    rw [F 8 (by decide)] at z2
    exact g2 id p z z2 i u w
  · rw [o _ _ (by omega), F 8 (by decide)]; exact g3 k p z
  · rw [o _ _ (by omega), W 4 (by decide) (by decide)]; exact g4
  · rw [o _ _ (by omega), F 10 (by decide)]; exact g5
  · rw [o _ _ (by omega), F 11 (by decide)]; exact g6
  · rw [o _ _ (by omega)]
    have : zcw (zhear s q par r) = zcw s := by unfold zcw; rw [F 12 (by decide), F 1 (by decide)]
    rw [this]; exact g7
  · rw [o _ _ (by omega), o _ _ (by omega), o _ _ (by omega), W 7 (by decide) (by decide), W 8 (by decide) (by decide), F 15 (by decide)]
    exact g8 x p u w
  · obtain ⟨c1, c2, c3⟩ := g9 q' p z
    have tb' : 108 ≤ zTw q' ∧ zTw q' ≤ 136 := by unfold zTw; omega
    by_cases y : q' = q
    · subst y
      have e17 : (zhear s q' par r).1 17 q' 0 = s.1 17 q' 0 + 1 := if_pos ⟨rfl, rfl, rfl⟩
      refine ⟨by rw [e17]; exact n4, fun j u w => ?_, fun j u w => ?_⟩
      · rw [n3 j u w]
        rw [zhear_2]
        by_cases y2 : j = s.1 17 q' 0 ∧ s.1 17 q' 0 < 50
        · rw [if_pos y2, if_pos ⟨rfl, rfl, y2⟩]
        · rw [if_neg y2, if_neg fun z => y2 z.2.2, if_neg fun z => absurd z.1 (by decide)]; exact c2 j u w
      · rw [n2 j u w]
        rw [zhear_2]
        rw [if_neg (fun z : (13 : Nat) = 12 ∧ q' = q' ∧ j = s.1 17 q' 0 ∧ s.1 17 q' 0 < 50 => absurd z.1 (by decide))]
        by_cases y2 : s.1 17 q' 0 < 50 ∧ 4 * s.1 17 q' 0 ≤ j ∧ j < 4 * s.1 17 q' 0 + par
        · rw [if_pos y2, if_pos ⟨rfl, rfl, y2⟩]; exact S _ (by omega) (by omega)
        · rw [if_neg y2, if_neg fun z => y2 z.2.2]; exact c3 j u w
    · have ne : zTw q' ≠ zTw q ∧ zTw q' ≠ zTw q + 2 ∧ zTw q' ≠ zTw q + 3 ∧ zTw q' + 3 ≠ zTw q ∧ zTw q' + 3 ≠ zTw q + 2 ∧ zTw q' + 3 ≠ zTw q + 3 ∧ zTw q' + 2 ≠ zTw q ∧ zTw q' + 2 ≠ zTw q + 2 ∧ zTw q' + 2 ≠ zTw q + 3 := by unfold zTw; omega
      have e17 : (zhear s q par r).1 17 q' 0 = s.1 17 q' 0 := if_neg fun z => y z.2.1
      refine ⟨by rw [e17, f _ _ (by omega) (by omega) (by omega)]; exact c1, fun j u w => ?_, fun j u w => ?_⟩
      · rw [f _ _ (by omega) (by omega) (by omega)]
        rw [zhear_2]
        rw [if_neg fun z => y z.2.1, if_neg fun z => absurd z.1 (by decide)]; exact c2 j u w
      · rw [f _ _ (by omega) (by omega) (by omega)]
        rw [zhear_2]
        rw [if_neg fun z => absurd z.1 (by decide), if_neg fun z => y z.2.1]; exact c3 j u w
  · rw [o _ _ (by omega), o _ _ (by omega), F 11 (by decide), F 14 (by decide), W 9 (by decide) (by decide), W 10 (by decide) (by decide)]
    exact ⟨(g10 x).1, fun t p q => by rw [o _ _ (by omega), o _ _ (by omega)]; exact (g10 x).2 t p q⟩
end S99j
