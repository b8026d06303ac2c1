/-! the reference's machine: a CALL is heard -/
section S9a3
variable {d : Nat} {e s s' t u A : ZS} {M M' M1 M2 : Mem} {a b j N x y : Nat} {v v1 v2 v3 w : Int32} {c k i n m p o q id par B D h r : Int} {Y : Nat → Int → Int}
theorem rr279 (hd : 1 ≤ d) (hR : RT M) (hq : 0 ≤ q ∧ q < 8) (h4 : M.1 235 q.toNat = iI h) (hh : 0 ≤ h ∧ h ≤ 100000) (h73 : M.1 160 73 = iI B) (hp : 0 ≤ par ∧ par ≤ 4) (hB : par ≤ B ∧ B ≤ 2500) (hv : v1 = iI q) (hv2 : v2 = iI par) : ∃ M', runX d 279 [va_rf (some 160), .int v1, .int v2, .int w] M = some (.null, M') ∧ M'.2 = M.2 ∧ (∀ a j, ¬ (a = 235 ∧ j = q.toNat) → (a = 236 → (j : Int) < 50 * q ∨ 50 * q + 50 ≤ j) → (a = 237 → (j : Int) < 200 * q ∨ 200 * q + 200 ≤ j) → M'.1 a j = M.1 a j) ∧ M'.1 235 q.toNat = iI (h + 1) ∧ (∀ j : Int, 0 ≤ j → j < 50 → M'.1 236 (50 * q + j).toNat = if j = h ∧ h < 50 then w else M.1 236 (50 * q + j).toNat) ∧ ∀ j : Int, 0 ≤ j → j < 200 → M'.1 237 (200 * q + j).toNat = if h < 50 ∧ 4 * h ≤ j ∧ j < 4 * h + par then M.1 213 (B - par + (j - 4 * h)).toNat else M.1 237 (200 * q + j).toNat := by
  obtain ⟨d, rfl⟩ : ∃ e, d = e + 1 := ⟨d - 1, by omega⟩
  subst hv; subst hv2
  have k := rk_160 hR
  rw [r279]; unfold b279; rw [aR_e, aI_e, aI_e, aI_e, aZ_e]; unfold c279
  rw [gtP_q k (rf_120 hR), alI_q (n := 8) (z := q) (rk_235 hR) rfl (by omega) h4, jn_v]
  have fin : ∀ M1 : Mem, M1.2 = M.2 → M1.1 235 q.toNat = iI h → (jv (fun (s3 : Mem) => gtP (13, 157) s3 (some 160) 120 fun x4 => alI 100 s3 x4 (iI q) fun x5 => asI 100 s3 x4 (iI q) ((x5 + ((1 : Int32)))) fun M6 => some (.null, M6)) M1 : XA) = some (.null, sI M1 235 q.toNat (iI (h + 1))) := fun M1 q1 q2 => by
    have R1 := hR.keep q1
    rw [jv_e, gtP_q (rk_160 R1) (rf_120 R1), alI_q (n := 8) (z := q) (rk_235 R1) rfl (by omega) q2, asI_q (n := 8) (z := q) (y := h + 1) (rk_235 R1) rfl (by omega) (adI rfl li_1)]
  by_cases y : 50 ≤ h
  · refine ⟨sI M 235 q.toNat (iI (h + 1)), ?_, rfl, fun a j p _ _ => ?_, sI_eq, fun j p r => ?_, fun j p r => ?_⟩
    · rw [if_pos (leI_p li_50 rfl (by omega))]; exact fin M rfl h4
    · by_cases y1 : a = 235
      · exact sI_nej fun z => p ⟨y1, z⟩
      · exact sI_ne y1
    · rw [if_neg (by omega)]; exact sI_ne (by decide)
    · rw [if_neg (by omega)]; exact sI_ne (by decide)
  have e50 : (50 : Int32) * iI q + iI h = iI (50 * q + h) := adI (mlI (x := 50) rfl rfl) rfl
  rw [if_neg (leI_n li_50 rfl (by omega)), gtP_q k (rf_121 hR), e50, asI_e (rk_236 hR) (by omega) (by omega) (by omega)]
  obtain ⟨M1, hM1⟩ : ∃ z, z = sI M 236 (50 * q + h).toNat w := ⟨_, rfl⟩
  rw [← hM1]
  have q2 : M1.2 = M.2 := by rw [hM1]; rfl
  refine lp_use (body := c279_31 (runX d) (some 160) (iI q) (iI par) (jv (fun (s3 : Mem) => gtP (13, 157) s3 (some 160) 120 fun x4 => alI 100 s3 x4 (iI q) fun x5 => asI 100 s3 x4 (iI q) ((x5 + ((1 : Int32)))) fun M6 => some (.null, M6))) (iI h)) (R := fun s => jv (fun (s3 : Mem) => gtP (13, 157) s3 (some 160) 120 fun x4 => alI 100 s3 x4 (iI q) fun x5 => asI 100 s3 x4 (iI q) ((x5 + ((1 : Int32)))) fun M6 => some (.null, M6)) s.2) par.toNat (fun k s => s.1 = iI (k : Int) ∧ s.2.2 = M.2 ∧ (∀ a j : Nat, (a = 237 → (j : Int) < 200 * q ∨ 200 * q + 200 ≤ j) → s.2.1 a j = M1.1 a j) ∧ ∀ j : Int, 0 ≤ j → j < 200 → s.2.1 237 (200 * q + j).toNat = if 4 * h ≤ j ∧ j < 4 * h + k then M.1 213 (B - par + (j - 4 * h)).toNat else M.1 237 (200 * q + j).toNat) ((0 : Int32), M1) 4294967296 (by omega) ⟨li_0, q2, fun _ _ _ => rfl, fun j p r => ?_⟩ (fun s' g1 g2 => ?_) (fun k' s hk hI => ?_) (fun s hI go => ?_)
  · rw [if_neg (by omega), hM1]; exact sI_ne (by decide)
  · obtain ⟨i1, Mk⟩ := s'
    obtain ⟨u1, u2, u3, u4⟩ := g1
    dsimp only at u1 u2 u3 u4 g2
    have e4 : Mk.1 235 q.toNat = iI h := (u3 235 _ (by omega)).trans (by rw [hM1]; exact (sI_ne (by decide)).trans h4)
    refine ⟨sI Mk 235 q.toNat (iI (h + 1)), g2.trans (fin Mk u2 e4), u2, fun a j p r w' => ?_, sI_eq, fun j p r => ?_, fun j p r => ?_⟩
    · have o : Mk.1 a j = M.1 a j := (u3 a j w').trans (by
        rw [hM1]
        by_cases y3 : a = 236
        · exact sI_nej (by have := r y3; omega)
        · exact sI_ne y3)
      by_cases y1 : a = 235
      · exact (sI_nej fun z => p ⟨y1, z⟩).trans o
      · exact (sI_ne y1).trans o
    · refine (sI_ne (by decide)).trans ((u3 _ _ (by omega)).trans ?_)
      rw [hM1]
      by_cases y2 : j = h
      · rw [if_pos ⟨y2, by omega⟩, y2]; exact sI_eq
      · rw [if_neg fun z => y2 z.1]; exact sI_nej (by omega)
    · refine (sI_ne (by decide)).trans ((u4 j p r).trans ?_)
      by_cases y2 : 4 * h ≤ j ∧ j < 4 * h + par
      · rw [if_pos (by omega), if_pos (by omega)]
      · rw [if_neg (by omega), if_neg (by omega)]
  · obtain ⟨i1, Mk⟩ := s
    obtain ⟨u1, u2, u3, u4⟩ := hI
    dsimp only at u1 u2 u3 u4
    subst u1
    have Rk := hR.keep u2
    have kk := rk_160 Rk
    have e73 : Mk.1 160 73 = iI B := (u3 160 _ (by omega)).trans (by rw [hM1]; exact (sI_ne (by decide)).trans h73)
    have es : Mk.1 213 (B - par + (k' : Int)).toNat = M.1 213 (B - par + (k' : Int)).toNat := (u3 213 _ (by omega)).trans (by rw [hM1]; exact sI_ne (by decide))
    have e2 : iI B - iI par + iI (k' : Int) = iI (B - par + (k' : Int)) := adI (sbI rfl rfl) rfl
    have e3 : (200 : Int32) * iI q + 4 * iI h + iI (k' : Int) = iI (200 * q + (4 * h + (k' : Int))) := cvI (adI (adI (mlI (x := 200) rfl rfl) (mlI (x := 4) rfl rfl)) rfl) (by omega)
    refine ⟨(iI ((k' + 1 : Nat) : Int), sI Mk 237 (200 * q + (4 * h + (k' : Int))).toNat (M.1 213 (B - par + (k' : Int)).toNat)), ⟨rfl, u2, fun a j p => ?_, fun j p r => ?_⟩, fun go => ?_⟩
    · by_cases y3 : a = 237
      · exact (sI_nej (by have := p y3; omega)).trans (u3 a j p)
      · exact (sI_ne y3).trans (u3 a j p)
    · by_cases y2 : j = 4 * h + k'
      · rw [if_pos (by omega), y2, show B - par + (4 * h + (k' : Int) - 4 * h) = B - par + (k' : Int) by omega]; exact sI_eq
      · refine (sI_nej (by omega)).trans ((u4 j p r).trans ?_)
        by_cases y3 : 4 * h ≤ j ∧ j < 4 * h + k'
        · rw [if_pos y3, if_pos (by omega)]
        · rw [if_neg y3, if_neg (by omega)]
    · unfold c279_31
      refine (if_neg (leI_n rfl rfl (by omega))).trans ?_
      refine (gtP_q kk (rf_122 Rk)).trans ?_
      refine (gtP_q kk (rf_72 Rk)).trans ?_
      refine (gtI_q kk e73).trans ?_
      refine (alI_q (n := 3000) (z := B - par + (k' : Int)) (rk_213 Rk) e2 (by omega) es).trans ?_
      refine (congrArg (fun z => asI 100 Mk (some 237) z (M.1 213 (B - par + (k' : Int)).toNat) _) e3).trans ?_
      refine (asI_e (rk_237 Rk) (by omega) (by omega) (by omega)).trans ?_
      exact ltI_q (z := ((k' + 1 : Nat) : Int)) (cvI (adI rfl li_1) (by omega))
  · obtain ⟨i1, Mk⟩ := s
    obtain ⟨u1, u2, u3, u4⟩ := hI
    dsimp only at u1 u2 u3 u4
    subst u1
    unfold c279_31
    exact if_pos (leI_p rfl rfl (by omega))
/-- a CALL is heard: what stands -/
theorem zRM.hear (h : zRM e s M) (hl : zLr s) (hq : 0 ≤ q ∧ q < 8) (hb : 0 ≤ s.1 17 q 0) (h2 : M'.2 = M.2) (f : ∀ a j, ¬ (a = 235 ∧ j = q.toNat) → (a = 236 → (j : Int) < 50 * q ∨ 50 * q + 50 ≤ j) → (a = 237 → (j : Int) < 200 * q ∨ 200 * q + 200 ≤ j) → M'.1 a j = M.1 a j) (n4 : M'.1 235 q.toNat = iI (s.1 17 q 0 + 1)) (n3 : ∀ j : Int, 0 ≤ j → j < 50 → M'.1 236 (50 * q + j).toNat = if j = s.1 17 q 0 ∧ s.1 17 q 0 < 50 then iI r else M.1 236 (50 * q + j).toNat) (n2 : ∀ j : Int, 0 ≤ j → j < 200 → M'.1 237 (200 * q + j).toNat = if s.1 17 q 0 < 50 ∧ 4 * s.1 17 q 0 ≤ j ∧ j < 4 * s.1 17 q 0 + par then M.1 213 (zsp s - par + (j - 4 * s.1 17 q 0)).toNat else M.1 237 (200 * q + j).toNat) (hp : 0 ≤ par ∧ par ≤ zh s) : zRM e (zhear s q par r) M' ∧ zRo e M M' := by
  obtain ⟨g0, g1, g2, g3, ⟨g4, g5, g6, g7, g8⟩, g9, g10, g11⟩ := h.1
  have o : ∀ a j, a ≠ 235 → a ≠ 236 → a ≠ 237 → M'.1 a j = M.1 a j := fun a j p1 p2 p3 => f a j (fun z => p1 z.1) (fun z => absurd z p2) (fun z => absurd z p3)
  have S : ∀ x, 0 ≤ x → x < par → M.1 213 (zsp s - par + x).toNat = s.2 1 (zf s) (zh s - par + x) := fun x p q => by
    have sp := hl.sp
    have l1 := hl.1
    have := (h.2.1 (zf s) (by omega) (by unfold zf; omega)).2.2 (zh s - par + x) (by omega) (by show _ < zh s; omega)
    rw [← this]
    exact congrArg (fun z : Int => M.1 213 z.toNat) (by unfold zsp; omega)
  have W : ∀ k, k ≠ 12 → k ≠ 13 → (zhear s q par r).2 k = s.2 k := fun k p1 p2 => by
    funext x y
    rw [zhear_2, if_neg fun z => p1 z.1, if_neg fun z => p2 z.1]
  have F : ∀ k, k ≠ 17 → (zhear s q par r).1 k = s.1 k := fun k p => by
    funext x y
    show (if k = 17 ∧ _ then _ else _) = _
    rw [if_neg fun z => p z.1]
  refine ⟨h.glob ⟨g0.keep h2, fun id p z => ?_, fun id p z z2 i u w => ?_, fun k p z => ?_, ⟨?_, ?_, ?_, ?_, ?_⟩, fun x p u w => ?_, fun q' p z => ?_, fun x => ?_⟩ (fun a j p => o a j (by omega) (by omega) (by omega)) (fun k p => F k (by omega)) ⟨W 0 (by decide) (by decide), W 1 (by decide) (by decide)⟩, ⟨h2, fun a j p => ?_, fun a j p _ => o a j (by omega) (by omega) (by omega)⟩⟩
  · rw [o _ _ (by decide) (by decide) (by decide), W 2 (by decide) (by decide)]
    rw [F 8 (by decide)] at z
    exact g1 id p z
  · rw [o _ _ (by decide) (by decide) (by decide), W 3 (by decide) (by decide)]
    rw [F 8 (by decide)] at z2
    exact g2 id p z z2 i u w
  · rw [o _ _ (by decide) (by decide) (by decide), F 8 (by decide)]; exact g3 k p z
  · rw [o _ _ (by decide) (by decide) (by decide), W 4 (by decide) (by decide)]; exact g4
  · rw [o _ _ (by decide) (by decide) (by decide), F 9 (by decide)]; exact g5
  · rw [o _ _ (by decide) (by decide) (by decide), F 10 (by decide)]; exact g6
  · rw [o _ _ (by decide) (by decide) (by decide), F 11 (by decide)]; exact g7
  · rw [o _ _ (by decide) (by decide) (by decide), F 12 (by decide)]; exact g8
  · rw [o _ _ (by decide) (by decide) (by decide), o _ _ (by decide) (by decide) (by decide), o _ _ (by decide) (by decide) (by decide), W 7 (by decide) (by decide), W 8 (by decide) (by decide), F 15 (by decide)]
    exact g9 x p u w
  · obtain ⟨c1, c2, c3⟩ := g10 q' p z
    by_cases y : q' = q
    · subst y
      have e17 : (zhear s q' par r).1 17 q' 0 = s.1 17 q' 0 + 1 := if_pos ⟨rfl, rfl, rfl⟩
      refine ⟨by rw [e17]; exact n4, fun j u w => ?_, fun j u w => ?_⟩
      · rw [n3 j u w, zhear_2]
        by_cases y2 : j = s.1 17 q' 0 ∧ s.1 17 q' 0 < 50
        · rw [if_pos y2, if_pos ⟨rfl, rfl, y2⟩]
        · rw [if_neg y2, if_neg fun z => y2 z.2.2, if_neg fun z => absurd z.1 (by decide)]; exact c2 j u w
      · rw [n2 j u w, zhear_2]
        rw [if_neg (fun z : (13 : Nat) = 12 ∧ q' = q' ∧ j = s.1 17 q' 0 ∧ s.1 17 q' 0 < 50 => absurd z.1 (by decide))]
        by_cases y2 : s.1 17 q' 0 < 50 ∧ 4 * s.1 17 q' 0 ≤ j ∧ j < 4 * s.1 17 q' 0 + par
        · rw [if_pos y2, if_pos ⟨rfl, rfl, y2⟩]; exact S _ (by omega) (by omega)
        · rw [if_neg y2, if_neg fun z => y2 z.2.2]; exact c3 j u w
    · have e17 : (zhear s q par r).1 17 q' 0 = s.1 17 q' 0 := if_neg fun z => y z.2.1
      refine ⟨by rw [e17, f _ _ (by omega) (by omega) (by omega)]; exact c1, fun j u w => ?_, fun j u w => ?_⟩
      · rw [f _ _ (by omega) (by omega) (by omega), zhear_2, if_neg fun z => y z.2.1, if_neg fun z => absurd z.1 (by decide)]; exact c2 j u w
      · rw [f _ _ (by omega) (by omega) (by omega), zhear_2, if_neg fun z => absurd z.1 (by decide), if_neg fun z => y z.2.1]; exact c3 j u w
  · rw [o _ _ (by decide) (by decide) (by decide), F 11 (by decide), F 14 (by decide), W 9 (by decide) (by decide), W 10 (by decide) (by decide)]
    exact ⟨(g11 x).1, fun t p q => by rw [o _ _ (by decide) (by decide) (by decide), o _ _ (by decide) (by decide) (by decide)]; exact (g11 x).2 t p q⟩
  · exact o a j (fun z => by rw [z, inW_c (by decide)] at p; cases p) (fun z => by rw [z, inW_c (by decide)] at p; cases p) (fun z => by rw [z, inW_c (by decide)] at p; cases p)
end S9a3
