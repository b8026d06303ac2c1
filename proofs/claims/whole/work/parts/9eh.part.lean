/-! feed(), both -/
/-- the number that byte i belongs to -/
def vs5 (v1 v2 v3 v4 v5 : Int32) (i : Int) : Int32 := if i < 4 then v1 else if i < 8 then v2 else if i < 12 then v3 else if i < 16 then v4 else v5
/-- c numbers are on the class's tape -/
def fdA (vs : Int → Int32) (n : Int) (c : Nat) (M0 M : Mem) : Prop := M.2 = M0.2 ∧ (∀ a j : Nat, a ≠ 67 → ¬ (a = 66 ∧ j = 1) → M.1 a j = M0.1 a j) ∧ M.1 66 1 = iI (n + 4 * c) ∧ (∀ i : Int, 0 ≤ i → i < 4 * c → M.1 67 (n + i).toNat = byR (vs i) (iI i)) ∧ ∀ j : Int, 0 ≤ j → j < n → M.1 67 j.toNat = M0.1 67 j.toNat
section S9eh
variable {d dl : Nat} {o : HO} {M M' M0 Mc Mr : Mem} {LL a j b c t x : Nat} {xs : Nat → Int32} {ow : Nat → Int} {p i k sl m n f w q z : Int} {v v1 v2 v3 v4 v5 w1 w2 : Int32} {T : Int → Int} {vs : Int → Int32}
theorem z112 (hd : 1 ≤ d) (cM : CT M0) (h : fdA vs n c M0 M) (hc : c < 5) (hn : 0 ≤ n ∧ n + 20 ≤ 3000) (hv : ∀ i : Int, 4 * (c : Int) ≤ i → i < 4 * (c : Int) + 4 → vs i = v) : ∃ M', runX d 112 [va_rf (some 66), .int v] M = some (.null, M') ∧ fdA vs n (c + 1) M0 M' := by
  obtain ⟨d, rfl⟩ : ∃ e, d = e + 1 := ⟨d - 1, by omega⟩
  obtain ⟨h1, h2, h3, h4, h5⟩ := h
  have l8 : (-8 : Int32) = iI (-8) := rfl
  rw [r112]; unfold b112; rw [aR_e, aI_e, aZ_e]; unfold c112
  rw [jn_v]
  refine lp_use (body := c112_3 (runX d) (some 66) v (jv fun (s1 : Mem) => some (.null, s1))) (R := fun s => some (.null, s.2)) 4 (fun k s => s.1 = iI (24 - 8 * (k : Int)) ∧ s.2.2 = M0.2 ∧ (∀ a j : Nat, a ≠ 67 → ¬ (a = 66 ∧ j = 1) → s.2.1 a j = M0.1 a j) ∧ s.2.1 66 1 = iI (n + 4 * c + k) ∧ (∀ i : Int, 0 ≤ i → i < 4 * c + k → s.2.1 67 (n + i).toNat = byR (vs i) (iI i)) ∧ ∀ j : Int, 0 ≤ j → j < n → s.2.1 67 j.toNat = M0.1 67 j.toNat) ((24 : Int32), M) 4294967296 (by omega) ⟨rfl, h1, h2, h3.trans (congrArg iI (by omega)), fun i a b => h4 i a (by omega), h5⟩ (fun s' g1 g2 => ?_) (fun k s hk hI => ?_) (fun s hI go => ?_)
  · obtain ⟨-, u2, u3, u4, u5, u6⟩ := g1
    exact ⟨s'.2, g2, u2, u3, u4.trans (congrArg iI (by omega)), fun i a b => u5 i a (by omega), u6⟩
  · obtain ⟨i1, A⟩ := s
    obtain ⟨u1, u2, u3, u4, u5, u6⟩ := hI
    dsimp only at u1 u2 u3 u4 u5 u6
    have kA : ∀ X : Mem, X.2 = M0.2 → X.2.2.2[66]? = some (9, 8) ∧ X.2.2.2[67]? = some (101, 3000) ∧ X.2.2.1 66 0 = some 67 := fun X e => by
      rw [e]; exact ⟨ck_66 cM, ck_67 cM, cf_66_0 cM⟩
    obtain ⟨B, hB⟩ : ∃ B, B = sI A 67 (n + 4 * c + k).toNat (byC v (iI (24 - 8 * (k : Int)))) := ⟨_, rfl⟩
    obtain ⟨C, hC⟩ : ∃ C, C = sI B 66 1 (iI (n + 4 * c + k + 1)) := ⟨_, rfl⟩
    have b2 : B.2 = M0.2 := by rw [hB]; exact u2
    have c2 : C.2 = M0.2 := by rw [hC]; exact b2
    refine ⟨(iI (24 - 8 * ((k + 1 : Nat) : Int)), C), ⟨rfl, c2, fun a j x y => ?_, ?_, fun i x y => ?_, fun j x y => ?_⟩, fun go => ?_⟩
    · dsimp only
      have e1 : C.1 a j = B.1 a j := by
        rw [hC]
        by_cases z : a = 66
        · exact sI_nej (by omega)
        · exact sI_ne z
      rw [e1, hB, sI_ne x]
      exact u3 a j x y
    · dsimp only
      rw [hC, sI_eq]
      exact congrArg iI (by omega)
    · dsimp only
      rw [hC, sI_ne (by decide), hB]
      by_cases z : i = 4 * c + k
      · rw [sI_eqj (by omega), hv i (by omega) (by omega), z]
        have e := by_e (v := v) k (4 * c + k) hk (by omega) (by omega)
        rw [e]
        exact congrArg (fun z => byR v (iI z)) (by omega)
      · rw [sI_nej (by omega)]
        exact u5 i x (by omega)
    · dsimp only
      rw [hC, sI_ne (by decide), hB, sI_nej (by omega)]
      exact u6 j x y
    · unfold c112_3
      dsimp only
      have eB : B.1 66 1 = iI (n + 4 * c + k) := by rw [hB, sI_ne (by decide)]; exact u4
      rw [u1, if_neg (show ¬ iI (24 - 8 * (k : Int)) < 0 from lsI_n (y := 0) rfl li_0 (by omega)), gtI_q (kA A u2).1 u4, if_neg (show ¬ (3000 : Int32) ≤ iI (n + 4 * c + k) from leI_n (x := 3000) rfl rfl (by omega)), gtP_q (kA A u2).1 (kA A u2).2.2, gtI_q (kA A u2).1 u4]
      have st : ∀ K : Mem → XA, asI 101 A (some 67) (iI (n + 4 * c + k)) ((((Int32.toUInt32 v >>> (Int32.toUInt32 (iI (24 - 8 * (k : Int))) &&& Int32.toUInt32 31)).toInt32).toInt8.toInt32).toInt8.toInt32) K = K B := fun K => by
        rw [asI_e (kA A u2).2.1 (by omega) (by omega) (by omega), hB]
        rfl
      rw [st, gtI_q (kA B b2).1 eB, ptI_q (kA B b2).1 (adI rfl li_1), ← hC]
      exact ltI_q (z := 24 - 8 * ((k + 1 : Nat) : Int)) (cvI (adI rfl l8) (by omega))
  · obtain ⟨i1, A⟩ := s
    obtain ⟨u1, -⟩ := hI
    dsimp only at u1
    unfold c112_3
    dsimp only
    rw [u1, if_pos (show iI (24 - 8 * ((4 : Nat) : Int)) < 0 by decide)]
    rfl
theorem r185_l (rM : RT M) (h : M.1 160 1 = iI n) (hn : 0 ≤ n ∧ n + 20 ≤ 3000) : ∃ M', (∀ J : Mem → XA, lp (c185_19 (runX d) (some 160) v1 v2 v3 v4 v5 J) 4294967296 ((0 : Int32), M) = J M') ∧ M'.2 = M.2 ∧ (∀ a j : Nat, a ≠ 161 → M'.1 a j = M.1 a j) ∧ (∀ i : Int, 0 ≤ i → i < 20 → M'.1 161 (n + i).toNat = byR (vs5 v1 v2 v3 v4 v5 i) (iI i)) ∧ ∀ j : Int, 0 ≤ j → j < n → M'.1 161 j.toNat = M.1 161 j.toNat := by
  refine lp_usej (b := fun J => c185_19 (runX d) (some 160) v1 v2 v3 v4 v5 J) (R := fun J s => J s.2) 20 (fun k s => s.1 = iI (k : Int) ∧ s.2.2 = M.2 ∧ (∀ a j : Nat, a ≠ 161 → s.2.1 a j = M.1 a j) ∧ (∀ i : Int, 0 ≤ i → i < k → s.2.1 161 (n + i).toNat = byR (vs5 v1 v2 v3 v4 v5 i) (iI i)) ∧ ∀ j : Int, 0 ≤ j → j < n → s.2.1 161 j.toNat = M.1 161 j.toNat) ((0 : Int32), M) 4294967296 (by omega) ⟨li_0, rfl, fun _ _ _ => rfl, fun i a b => by omega, fun _ _ _ => rfl⟩ (fun s' g1 g2 => ?_) (fun k s hk hI => ?_) (fun s hI J go => ?_)
  · obtain ⟨-, u2, u3, u4, u5⟩ := g1
    exact ⟨s'.2, g2, u2, u3, fun i a b => u4 i a (by omega), u5⟩
  · obtain ⟨i1, A⟩ := s
    obtain ⟨u1, u2, u3, u4, u5⟩ := hI
    dsimp only at u1 u2 u3 u4 u5
    subst u1
    have kA : A.2.2.2[160]? = some (13, 157) ∧ A.2.2.2[161]? = some (101, 3000) ∧ A.2.2.1 160 0 = some 161 := by
      rw [u2]; exact ⟨rk_160 rM, rk_161 rM, rf_0 rM⟩
    have eA : A.1 160 1 = iI n := (u3 160 1 (by decide)).trans h
    obtain ⟨B, hB⟩ : ∃ B, B = sI A 161 (n + k).toNat (byR (vs5 v1 v2 v3 v4 v5 k) (iI (k : Int))) := ⟨_, rfl⟩
    refine ⟨(iI ((k + 1 : Nat) : Int), B), ⟨rfl, ?_, fun a j x => ?_, fun i x y => ?_, fun j x y => ?_⟩, fun J go => ?_⟩
    · dsimp only
      rw [hB]; exact u2
    · dsimp only
      rw [hB, sI_ne x]; exact u3 a j x
    · dsimp only
      rw [hB]
      by_cases z : i = k
      · rw [sI_eqj (by omega), z]
      · rw [sI_nej (by omega)]
        exact u4 i x (by omega)
    · dsimp only
      rw [hB, sI_nej (by omega)]
      exact u5 j x y
    · unfold c185_19
      dsimp only
      rw [if_neg (show ¬ (20 : Int32) ≤ iI (k : Int) from leI_n (x := 20) rfl rfl (by omega)), jn_v]
      have st : (jv (fun (s7 : Int32) => gtP (13, 157) A (some 160) 0 fun x8 => gtI (13, 157) A (some 160) 1 fun x9 => if ((4 : Int32)) = 0 then none else asI 101 A x8 (x9 + iI (k : Int)) (((s7 >>> ((((24 : Int32)) - (((8 : Int32)) * (xrem (iI (k : Int)) ((4 : Int32))))) &&& 31)).toInt8.toInt32).toInt8.toInt32) fun M10 => lt (iI (k : Int) + (1 : Int32)) fun (x11 : Int32) => go (x11, M10)) (vs5 v1 v2 v3 v4 v5 k) : XA) = go (iI ((k + 1 : Nat) : Int), B) := by
        rw [jv_e, gtP_q kA.1 kA.2.2, gtI_q kA.1 eA, if_neg (show ¬ (4 : Int32) = 0 by decide), show iI n + iI (k : Int) = iI (n + k) from adI rfl rfl, asI_e kA.2.1 (by omega) (by omega) (by omega), hB]
        exact ltI_q (z := ((k + 1 : Nat) : Int)) (cvI (adI rfl li_1) (by omega))
      rw [← st]
      unfold vs5
      by_cases c4 : (4 : Int) ≤ k
      · rw [if_pos (show (4 : Int32) ≤ iI (k : Int) from leI_p (x := 4) rfl rfl (by omega)), if_neg (show ¬ (k : Int) < 4 by omega)]
        by_cases c8 : (8 : Int) ≤ k
        · rw [if_pos (show (8 : Int32) ≤ iI (k : Int) from leI_p (x := 8) rfl rfl (by omega)), if_neg (show ¬ (k : Int) < 8 by omega)]
          by_cases c12 : (12 : Int) ≤ k
          · rw [if_pos (show (12 : Int32) ≤ iI (k : Int) from leI_p (x := 12) rfl rfl (by omega)), if_neg (show ¬ (k : Int) < 12 by omega)]
            by_cases c16 : (16 : Int) ≤ k
            · rw [if_pos (show (16 : Int32) ≤ iI (k : Int) from leI_p (x := 16) rfl rfl (by omega)), if_neg (show ¬ (k : Int) < 16 by omega)]
            · rw [if_neg (show ¬ (16 : Int32) ≤ iI (k : Int) from leI_n (x := 16) rfl rfl (by omega)), if_pos (show (k : Int) < 16 by omega)]
          · rw [if_neg (show ¬ (12 : Int32) ≤ iI (k : Int) from leI_n (x := 12) rfl rfl (by omega)), if_pos (show (k : Int) < 12 by omega)]
        · rw [if_neg (show ¬ (8 : Int32) ≤ iI (k : Int) from leI_n (x := 8) rfl rfl (by omega)), if_pos (show (k : Int) < 8 by omega)]
      · rw [if_neg (show ¬ (4 : Int32) ≤ iI (k : Int) from leI_n (x := 4) rfl rfl (by omega)), if_pos (show (k : Int) < 4 by omega)]
  · obtain ⟨i1, A⟩ := s
    obtain ⟨u1, -⟩ := hI
    dsimp only at u1
    subst u1
    unfold c185_19
    dsimp only
    rw [if_pos (show (20 : Int32) ≤ iI ((20 : Nat) : Int) from leI_p (x := 20) rfl rfl (by omega))]
theorem feed_pair (hdl : 2 ≤ dl) (hd : 1 ≤ d) (cM : CT Mc) (rM : RT Mr) (hT : Tp 66 1 67 T n Mc) (hT2 : Tp 160 1 161 T n Mr) : ∃ r Mc' Mr', runX dl 128 [va_rf (some 64), .int v1, .int v2, .int v3, .int v4, .int v5] Mc = some (.int r, Mc') ∧ runX d 185 [va_rf (some 160), .int v1, .int v2, .int v3, .int v4, .int v5] Mr = some (.int r, Mr') ∧ ((Mc' = Mc ∧ Mr' = Mr) ∨ ∃ T', Tp 66 1 67 T' (n + 20) Mc' ∧ Tp 160 1 161 T' (n + 20) Mr' ∧ (Mc'.2 = Mc.2 ∧ ∀ a j : Nat, a ≠ 67 → ¬ (a = 66 ∧ j = 1) → Mc'.1 a j = Mc.1 a j) ∧ Mr'.2 = Mr.2 ∧ ∀ a j : Nat, a ≠ 161 → ¬ (a = 160 ∧ j = 1) → Mr'.1 a j = Mr.1 a j) := by
  obtain ⟨dl, rfl⟩ : ∃ e, dl = e + 1 := ⟨dl - 1, by omega⟩
  obtain ⟨d, rfl⟩ : ∃ e, d = e + 1 := ⟨d - 1, by omega⟩
  obtain ⟨t1, t2, t3, t4, t5, t6⟩ := hT
  obtain ⟨s1, -, -, s4, -⟩ := hT2
  have l20 : (20 : Int32) = iI 20 := rfl
  have eC : runX (dl + 1) 128 [va_rf (some 64), .int v1, .int v2, .int v3, .int v4, .int v5] Mc = c128 (runX dl) (some 64) v1 v2 v3 v4 v5 Mc := by
    rw [r128]; unfold b128; rw [aR_e, aI_e, aI_e, aI_e, aI_e, aI_e, aZ_e]
  have eR : runX (d + 1) 185 [va_rf (some 160), .int v1, .int v2, .int v3, .int v4, .int v5] Mr = c185 (runX d) (some 160) v1 v2 v3 v4 v5 Mr := by
    rw [r185]; unfold b185; rw [aR_e, aI_e, aI_e, aI_e, aI_e, aI_e, aZ_e]
  by_cases h20 : n + 20 ≤ 3000
  · have hn : 0 ≤ n ∧ n + 20 ≤ 3000 := ⟨t2, h20⟩
    have a0 : fdA (vs5 v1 v2 v3 v4 v5) n 0 Mc Mc := ⟨rfl, fun _ _ _ _ => rfl, t1.trans (congrArg iI (by omega)), fun i a b => by omega, fun _ _ _ => rfl⟩
    obtain ⟨M1, e1, a1⟩ := z112 (d := dl) (v := v1) (by omega) cM a0 (by decide) hn (fun i a b => by unfold vs5; rw [if_pos (by omega)])
    obtain ⟨M2, e2, a2⟩ := z112 (d := dl) (v := v2) (by omega) cM a1 (by decide) hn (fun i a b => by unfold vs5; rw [if_neg (by omega), if_pos (by omega)])
    obtain ⟨M3, e3, a3⟩ := z112 (d := dl) (v := v3) (by omega) cM a2 (by decide) hn (fun i a b => by unfold vs5; rw [if_neg (by omega), if_neg (by omega), if_pos (by omega)])
    obtain ⟨M4, e4, a4⟩ := z112 (d := dl) (v := v4) (by omega) cM a3 (by decide) hn (fun i a b => by unfold vs5; rw [if_neg (by omega), if_neg (by omega), if_neg (by omega), if_pos (by omega)])
    obtain ⟨M5, e5, a5⟩ := z112 (d := dl) (v := v5) (by omega) cM a4 (by decide) hn (fun i a b => by unfold vs5; rw [if_neg (by omega), if_neg (by omega), if_neg (by omega), if_neg (by omega)])
    have k66 : ∀ X : Mem, X.2 = Mc.2 → X.2.2.2[66]? = some (9, 8) := fun X e => by rw [e]; exact ck_66 cM
    obtain ⟨R1, f1, f2, f3, f4, f5⟩ := r185_l (d := d) (v1 := v1) (v2 := v2) (v3 := v3) (v4 := v4) (v5 := v5) rM s1 hn
    obtain ⟨R2, hR2⟩ : ∃ R2, R2 = sI R1 160 1 (iI (n + 20)) := ⟨_, rfl⟩
    have k160 : ∀ X : Mem, X.2 = Mr.2 → X.2.2.2[160]? = some (13, 157) := fun X e => by rw [e]; exact rk_160 rM
    have r22 : R2.2 = Mr.2 := by rw [hR2]; exact f2
    obtain ⟨T', hT'⟩ : ∃ T' : Int → Int, T' = fun i => if i < n then T i else if i < n + 20 then (byR (vs5 v1 v2 v3 v4 v5 (i - n)) (iI (i - n))).toInt else 0 := ⟨_, rfl⟩
    have z1 : ∀ i, n + 20 ≤ i → T' i = 0 := fun i a => by
      rw [hT']; dsimp only; rw [if_neg (by omega), if_neg (by omega)]
    have z2 : ∀ i, -128 ≤ T' i ∧ T' i ≤ 127 := fun i => by
      rw [hT']; dsimp only
      by_cases y : i < n
      · rw [if_pos y]; exact t6 i
      · rw [if_neg y]
        by_cases y2 : i < n + 20
        · rw [if_pos y2]; exact byR_b.2
        · rw [if_neg y2]; omega
    have z3 : ∀ i, 0 ≤ i → i < n → T' i = T i := fun i a b => by
      rw [hT']; dsimp only; rw [if_pos b]
    have z4 : ∀ i, n ≤ i → i < n + 20 → iI (T' i) = byR (vs5 v1 v2 v3 v4 v5 (i - n)) (iI (i - n)) := fun i a b => by
      rw [hT']; dsimp only; rw [if_neg (by omega), if_pos b]; exact byR_b.1.symm
    refine ⟨iI (n + 20), M5, R2, ?_, ?_, Or.inr ⟨T', ⟨a5.2.2.1.trans (congrArg iI (by omega)), by omega, h20, fun i a b => ?_, z1, z2⟩, ⟨?_, by omega, h20, fun i a b => ?_, z1, z2⟩, ⟨a5.1, a5.2.1⟩, r22, fun a j x y => ?_⟩⟩
    · rw [eC]
      unfold c128
      rw [gtP_q (ck_64 cM) (cf_64_0 cM), gtP_q (ck_65 cM) (cf_65_0 cM), gtI_q (ck_66 cM) t1, if_pos (show iI n + (20 : Int32) ≤ (3000 : Int32) from leI_p (x := n + 20) (y := 3000) (adI rfl l20) rfl (by omega)), vC_e (ck_66 cM), cV_e e1, vC_e (k66 _ a1.1), cV_e e2, vC_e (k66 _ a2.1), cV_e e3, vC_e (k66 _ a3.1), cV_e e4, vC_e (k66 _ a4.1), cV_e e5, gtI_q (k66 _ a5.1) (a5.2.2.1.trans (congrArg iI (show n + 4 * ((4 + 1 : Nat) : Int) = n + 20 by omega)))]
    · rw [eR]
      unfold c185
      rw [gtI_q (rk_160 rM) s1, if_pos (show iI n + (20 : Int32) ≤ (3000 : Int32) from leI_p (x := n + 20) (y := 3000) (adI rfl l20) rfl (by omega)), jn_v, f1, jv_e, gtI_q (k160 _ f2) ((f3 160 1 (by decide)).trans s1), ptI_q (k160 _ f2) (adI rfl l20), ← hR2, gtI_q (k160 _ r22) (by rw [hR2, sI_eq])]
    · by_cases y : i < n
      · rw [z3 i a y, a5.2.2.2.2 i a y]; exact t4 i a y
      · rw [z4 i (by omega) b]
        have e := a5.2.2.2.1 (i - n) (by omega) (by omega)
        rw [show n + (i - n) = i by omega] at e
        exact e
    · rw [hR2, sI_eq]
    · rw [hR2, sI_ne (by decide)]
      by_cases y : i < n
      · rw [z3 i a y, f5 i a y]; exact s4 i a y
      · rw [z4 i (by omega) b]
        have e := f4 (i - n) (by omega) (by omega)
        rw [show n + (i - n) = i by omega] at e
        exact e
    · have e1 : R2.1 a j = R1.1 a j := by
        rw [hR2]
        by_cases z : a = 160
        · exact sI_nej (by omega)
        · exact sI_ne z
      rw [e1]; exact f3 a j x
  · refine ⟨-3, Mc, Mr, ?_, ?_, Or.inl ⟨rfl, rfl⟩⟩
    · rw [eC]
      unfold c128
      rw [gtP_q (ck_64 cM) (cf_64_0 cM), gtP_q (ck_65 cM) (cf_65_0 cM), gtI_q (ck_66 cM) t1, if_neg (show ¬ iI n + (20 : Int32) ≤ (3000 : Int32) from leI_n (x := n + 20) (y := 3000) (adI rfl l20) rfl (by omega))]
    · rw [eR]
      unfold c185
      rw [gtI_q (rk_160 rM) s1, if_neg (show ¬ iI n + (20 : Int32) ≤ (3000 : Int32) from leI_n (x := n + 20) (y := 3000) (adI rfl l20) rfl (by omega))]
end S9eh
