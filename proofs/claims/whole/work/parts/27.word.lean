/-- the value of digits, as the class counts it -/
def nmL (T : Int → Int) (f : Int) : Nat → Int64
  | 0 => 0
  | k + 1 => (nmL T f k * (10 : Int64)) + (iI (T (f + k) - 48)).toInt64
theorem nmL_z {T : Int → Int} {f p : Int} (h : p = f) : (0 : Int64) = nmL T f (p - f).toNat := by
  rw [h, Int.sub_self]
  rfl
theorem nmL_s {T : Int → Int} {f p q : Int} {x : Int64} (h : f ≤ p) (e : x = nmL T f (p - f).toNat) (hq : q = p + 1) : ((x * (10 : Int64)) + (iI (T p - 48)).toInt64) = nmL T f (q - f).toNat := by
  obtain ⟨k, hk⟩ : ∃ k : Nat, p = f + k := ⟨(p - f).toNat, by omega⟩
  have h1 : (q - f).toNat = k + 1 := by omega
  have h2 : (p - f).toNat = k := by omega
  rw [h1, e, h2, hk]
  rfl
theorem z117 {d : Nat} {M : Mem} (hd : 2 ≤ d) {T : Int → Int} {n : Int} (hR : CT M) (hT : Tp 66 1 67 T n M) {W : Int → Int64} {f k : Int} (hW : ∀ i, 0 ≤ i → i < 28 → M.2.1 71 i.toNat = W i) (hp : M.1 66 7 = iI f) (hk : M.1 66 6 = iI k)  (h : 0 ≤ f ∧ f < n ∧ 97 ≤ T f ∧ T f ≤ 122 ∧ 0 ≤ k ∧ k ≤ 3000) : Rt (runX d 117 [va_rf (some 66)] M) (fun v M2 => ∃ (kd : Int) (e : Int) (nm : Int64), v = .int (iI kd) ∧ Fr W_wd M M2 ∧ M2.1 66 7 = iI e ∧ M2.2.1 70 k.toNat = nm ∧ (∀ j, j ≠ k.toNat → M2.2.1 70 j = M.2.1 70 j) ∧ (0 ≤ kd ∧ kd ≤ 300) ∧ (f ≤ e ∧ e ≤ n) ∧ (Al an8 T f e) ∧ (¬ ((97 ≤ T e ∧ T e ≤ 122) ∨ (48 ≤ T e ∧ T e ≤ 57))) ∧ (Wk 1 3 200 T W f e nm 28 kd)) := by
  obtain ⟨d, rfl⟩ : ∃ e, d = e + 1 := ⟨d - 1, by omega⟩
  rw [r117]; unfold b117; rw [aR_e, aZ_e]; unfold c117
  have hn := hT.2.1
  have hm := hT.2.2.1
  refine rs1 (gtI_q (w := iI f) (ck_66 hR) (hp)) ?_
  refine Rt.jn (fun s => ∃ (nm : Int64) (e : Int), s.1 = nm ∧ Fr W_sb M s.2 ∧ s.2.1 66 7 = iI e ∧ (f ≤ e) ∧ (e ≤ n) ∧ (Al an8 T f e) ∧ (¬ ((97 ≤ T e ∧ T e ≤ 122) ∨ (48 ≤ T e ∧ T e ≤ 57))) ∧ (nm = pk8 T f (e - f).toNat)) (fun s hs => ?_) (fun j69 hj69 => ?_)
  ·
    obtain ⟨t1, Mm2⟩ := s
    dsimp only at hs
    try dsimp only
    obtain ⟨nm, e, e3_nm, f3, e3_e, p3_0, p3_1, p3_2, p3_3, p3_4⟩ := hs
    refine rs1 (gtI_q (w := iI e) (ck_66 (hR.fr f3)) (e3_e)) ?_
    by_cases c4 : (e - f) ≤ 8
    · refine rs1 (if_pos (leI_p (sbI (rfl) (rfl)) (li_8) (by omega))) ?_
      refine rs1 (gtP_q (w := some 70) (ck_66 (hR.fr f3)) (cf_66_4 (hR.fr f3))) ?_
      refine rs1 (gtI_q (w := iI k) (ck_66 (hR.fr f3)) ((f3.i _ _ (by decide)).trans (hk))) ?_
      refine rs1 (asL_q (n := 3001) (z := k) (w := nm) (ck_70 (hR.fr f3)) (rfl) (by omega) (e3_nm)) ?_
      refine rs1 (jn_v) ?_
      refine rs1 (jn_v) ?_
      refine Rt.lp (fun m s => ∃ (w : Int), s = iI w ∧ (0 ≤ w) ∧ (w ≤ 28) ∧ (Wd 3 200 W nm w 3) ∧ ((m : Int) = 28 - w)) (fun m s go hs hgo => ?_) (28 : Int).toNat _ _ (by omega) ⟨0, li_0, by omega, by omega, by first | exact Wd.z rfl | exact Wd.n (by assumption) rfl (by omega) (by omega) rfl rfl (by assumption), by omega⟩
      obtain ⟨w, e5_w, p5_0, p5_1, p5_2, p5_3⟩ := hs
      unfold c117_95
      by_cases c6 : 28 ≤ w
      · refine rs1 (if_pos (leI_p (li_28) (e5_w) (by omega))) ?_
        refine rs1 (jv_e) ?_
        exact Rt.okI (z := 3) (li_3) ⟨3, e, nm, rfl, (Fr.sL (inW_c (by decide) _) (Fr.m f3 (by decide))), (sL_i).trans (e3_e), sL_eq, fun j hj => (sL_nej hj).trans ((f3.lc _ (by decide) _)), by omega, by omega, by assumption, by omega, by first | exact Or.inl ⟨by omega, by omega⟩ | exact Or.inr ⟨by omega, by assumption, Wd.e8 (by assumption) (by omega) (by omega)⟩ | exact Or.inr ⟨by omega, by assumption, Or.inr ⟨w, by omega, by omega, by omega, by assumption⟩⟩⟩
      · refine rs1 (if_neg (leI_n (li_28) (e5_w) (by omega))) ?_
        refine rs1 (gtP_q (w := some 71) (ck_66 (hR.fr f3).sL) (cf_66_5 (hR.fr f3).sL)) ?_
        refine rs1 (alL_q (n := 28) (z := w) (w := (W w)) (ck_71 (hR.fr f3).sL) (e5_w) (by omega) (((sL_ne (by decide)).trans ((f3.lc _ (by decide) _))).trans (hW w (by omega) (by omega)))) ?_
        by_cases c7 : (W w) = nm
        ·
          refine rs1 (if_pos (lgc_p (rfl) (e3_nm) c7)) ?_
          refine rs1 (jv_e) ?_
          exact Rt.okI (z := (w + 200)) (cvI (adI (li_200) (e5_w)) (by omega)) ⟨(w + 200), e, nm, rfl, (Fr.sL (inW_c (by decide) _) (Fr.m f3 (by decide))), (sL_i).trans (e3_e), sL_eq, fun j hj => (sL_nej hj).trans ((f3.lc _ (by decide) _)), by omega, by omega, by assumption, by omega, by first | exact Or.inl ⟨by omega, by omega⟩ | exact Or.inr ⟨by omega, by assumption, Wd.e8 (by assumption) (by omega) (by omega)⟩ | exact Or.inr ⟨by omega, by assumption, Or.inr ⟨w, by omega, by omega, by omega, by assumption⟩⟩⟩
        ·
          refine rs1 (if_neg (lgc_n (rfl) (e3_nm) c7)) ?_
          refine rs1 (ltI_q (z := (w + 1)) (adI (e5_w) (li_1))) ?_
          exact hgo (-w + 27).toNat _ (by omega) ⟨(w + 1), rfl, by omega, by omega, by first | exact Wd.z rfl | exact Wd.n (by assumption) rfl (by omega) (by omega) rfl rfl (by assumption), by omega⟩
    · refine rs1 (if_neg (leI_n (sbI (rfl) (rfl)) (li_8) (by omega))) ?_
      exact Rt.okI (z := 1) (li_1) ⟨1, e, (M.2.1 70 k.toNat), rfl, (Fr.m f3 (by decide)), e3_e, (f3.lc _ (by decide) _), fun j hj => (f3.lc _ (by decide) _), by omega, by omega, by assumption, by omega, by first | exact Or.inl ⟨by omega, by omega⟩ | exact Or.inr ⟨by omega, by assumption, Wd.e8 (by assumption) (by omega) (by omega)⟩ | exact Or.inr ⟨by omega, by assumption, Or.inr ⟨w, by omega, by omega, by omega, by assumption⟩⟩⟩
  ·
    refine Rt.lp (fun m s => ∃ (nm : Int64) (p : Int), s.1 = nm ∧ Fr W_sb M s.2 ∧ s.2.1 66 7 = iI p ∧ (f ≤ p) ∧ (p ≤ n) ∧ (Al an8 T f p) ∧ (nm = pk8 T f (p - f).toNat) ∧ ((m : Int) = n - p)) (fun m s go hs hgo => ?_) (n - f).toNat _ _ (by omega) ⟨(0 : Int64), f, rfl, Fr.r, hp, by omega, by omega, by first | exact Al.z (by omega) | exact Al.s (by assumption) (by omega) (by unfold an8 lt8 dg8; omega), by first | exact pk8_z rfl | exact pk8_s (by omega) (by assumption) rfl, by omega⟩
    obtain ⟨t8, Mm9⟩ := s
    dsimp only at hs
    try dsimp only
    obtain ⟨nm, p, e10_nm, f10, e10_p, p10_0, p10_1, p10_2, p10_3, p10_4⟩ := hs
    unfold c117_7
    refine rs1 (gtI_q (w := iI p) (ck_66 (hR.fr f10)) (e10_p)) ?_
    refine rs1 (gtI_q (w := iI n) (ck_66 (hR.fr f10)) ((f10.i _ _ (by decide)).trans (hT.1))) ?_
    by_cases c11 : n ≤ p
    · refine rs1 (if_pos (leI_p (rfl) (rfl) (by omega))) ?_
      exact hj69 _ ⟨nm, p, e10_nm, f10, e10_p, by omega, by omega, by assumption, by first | omega | (have hz := hT.z p (by omega); omega), by assumption⟩
    · refine rs1 (if_neg (leI_n (rfl) (rfl) (by omega))) ?_
      refine rs1 (gtI_q (w := iI p) (ck_66 (hR.fr f10)) (e10_p)) ?_
      refine rs1 (vC_e (ck_66 (hR.fr f10))) ?_
      have b12 := hT.b p
      by_cases c13 : 97 ≤ (T p) ∧ (T p) ≤ 122
      ·
        refine rs1 (cI_e (z115_1 (by omega) (hR.fr f10) (hT.fr f10 (by decide) (by decide)) (rfl) (by omega))) ?_
        refine rs1 (jn_v) ?_
        refine rs1 (if_neg (eqI_n (rfl) (li_0) (by omega))) ?_
        refine rs1 (jv_e) ?_
        refine rs1 (gtP_q (w := some 67) (ck_66 (hR.fr f10)) (cf_66_0 (hR.fr f10))) ?_
        refine rs1 (gtI_q (w := iI p) (ck_66 (hR.fr f10)) (e10_p)) ?_
        refine rs1 (alI_q (n := 3000) (z := p) (w := iI ((T p))) (ck_67 (hR.fr f10)) (rfl) (by omega) ((f10.c _ (by decide) _).trans (hT.2.2.2.1 p (by omega) (by omega)))) ?_
        refine rs1 (ltL_q (w := ((nm <<< (Int32.toInt64 ((8 : Int32)) &&& 63)) ||| (iI ((T p))).toInt64)) (congr (congrArg HOr.hOr (congr (congrArg HShiftLeft.hShiftLeft (e10_nm)) (rfl))) (rfl))) ?_
        refine rs1 (gtI_q (w := iI p) (ck_66 (hR.fr f10)) (e10_p)) ?_
        refine rs1 (ptI_q (z := (p + 1)) (ck_66 (hR.fr f10)) (adI (rfl) (li_1))) ?_
        exact hgo (n - p - 1).toNat _ (by omega) ⟨((nm <<< (Int32.toInt64 ((8 : Int32)) &&& 63)) ||| (iI ((T p))).toInt64), (p + 1), rfl, (Fr.sI (by decide) f10), sI_eq, by omega, by omega, by first | exact Al.z (by omega) | exact Al.s (by assumption) (by omega) (by unfold an8 lt8 dg8; omega), by first | exact pk8_z rfl | exact pk8_s (by omega) (by assumption) rfl, by omega⟩
      ·
        refine rs1 (cI_e (z115_0 (by omega) (hR.fr f10) (hT.fr f10 (by decide) (by decide)) (rfl) (by omega))) ?_
        refine rs1 (jn_v) ?_
        refine rs1 (if_pos (eqI_p (rfl) (li_0) (by omega))) ?_
        refine rs1 (gtI_q (w := iI p) (ck_66 (hR.fr f10)) (e10_p)) ?_
        refine rs1 (vC_e (ck_66 (hR.fr f10))) ?_
        by_cases c14 : 48 ≤ (T p) ∧ (T p) ≤ 57
        ·
          refine rs1 (cI_e (z116_1 (by omega) (hR.fr f10) (hT.fr f10 (by decide) (by decide)) (rfl) (by omega))) ?_
          refine rs1 (if_neg (eqI_n (rfl) (li_0) (by omega))) ?_
          refine rs1 (jv_e) ?_
          refine rs1 (gtP_q (w := some 67) (ck_66 (hR.fr f10)) (cf_66_0 (hR.fr f10))) ?_
          refine rs1 (gtI_q (w := iI p) (ck_66 (hR.fr f10)) (e10_p)) ?_
          refine rs1 (alI_q (n := 3000) (z := p) (w := iI ((T p))) (ck_67 (hR.fr f10)) (rfl) (by omega) ((f10.c _ (by decide) _).trans (hT.2.2.2.1 p (by omega) (by omega)))) ?_
          refine rs1 (ltL_q (w := ((nm <<< (Int32.toInt64 ((8 : Int32)) &&& 63)) ||| (iI ((T p))).toInt64)) (congr (congrArg HOr.hOr (congr (congrArg HShiftLeft.hShiftLeft (e10_nm)) (rfl))) (rfl))) ?_
          refine rs1 (gtI_q (w := iI p) (ck_66 (hR.fr f10)) (e10_p)) ?_
          refine rs1 (ptI_q (z := (p + 1)) (ck_66 (hR.fr f10)) (adI (rfl) (li_1))) ?_
          exact hgo (n - p - 1).toNat _ (by omega) ⟨((nm <<< (Int32.toInt64 ((8 : Int32)) &&& 63)) ||| (iI ((T p))).toInt64), (p + 1), rfl, (Fr.sI (by decide) f10), sI_eq, by omega, by omega, by first | exact Al.z (by omega) | exact Al.s (by assumption) (by omega) (by unfold an8 lt8 dg8; omega), by first | exact pk8_z rfl | exact pk8_s (by omega) (by assumption) rfl, by omega⟩
        ·
          refine rs1 (cI_e (z116_0 (by omega) (hR.fr f10) (hT.fr f10 (by decide) (by decide)) (rfl) (by omega))) ?_
          refine rs1 (if_pos (eqI_p (rfl) (li_0) (by omega))) ?_
          exact hj69 _ ⟨nm, p, e10_nm, f10, e10_p, by omega, by omega, by assumption, by first | omega | (have hz := hT.z p (by omega); omega), by assumption⟩
theorem z118 {d : Nat} {M : Mem} (hd : 2 ≤ d) {T : Int → Int} {n : Int} (hR : CT M) (hT : Tp 66 1 67 T n M) {f k : Int} (hp : M.1 66 7 = iI f) (hk : M.1 66 6 = iI k)  (h : 0 ≤ f ∧ f < n ∧ 48 ≤ T f ∧ T f ≤ 57 ∧ 0 ≤ k ∧ k ≤ 3000) : Rt (runX d 118 [va_rf (some 66)] M) (fun v M2 => ∃ (kd : Int) (e : Int) (nm : Int64), v = .int (iI kd) ∧ Fr W_wd M M2 ∧ M2.1 66 7 = iI e ∧ M2.2.1 70 k.toNat = nm ∧ (∀ j, j ≠ k.toNat → M2.2.1 70 j = M.2.1 70 j) ∧ (0 ≤ kd ∧ kd ≤ 300) ∧ (f ≤ e ∧ e ≤ n) ∧ (Al dg8 T f e) ∧ (¬ (48 ≤ T e ∧ T e ≤ 57)) ∧ ((e - f ≤ 9 ∧ ¬ (97 ≤ T e ∧ T e ≤ 122) ∧ kd = 4 ∧ nm = nmL T f (e - f).toNat) ∨ ((9 < e - f ∨ (97 ≤ T e ∧ T e ≤ 122)) ∧ kd = 1))) := by
  obtain ⟨d, rfl⟩ : ∃ e, d = e + 1 := ⟨d - 1, by omega⟩
  rw [r118]; unfold b118; rw [aR_e, aZ_e]; unfold c118
  have hn := hT.2.1
  have hm := hT.2.2.1
  refine rs1 (gtI_q (w := iI f) (ck_66 hR) (hp)) ?_
  refine Rt.jn (fun s => ∃ (nb : Int64) (e : Int), s.1 = nb ∧ Fr W_sb M s.2 ∧ s.2.1 66 7 = iI e ∧ (f ≤ e) ∧ (e ≤ n) ∧ (Al dg8 T f e) ∧ (¬ (48 ≤ T e ∧ T e ≤ 57)) ∧ (nb = nmL T f (e - f).toNat)) (fun s hs => ?_) (fun j62 hj62 => ?_)
  ·
    obtain ⟨t1, Mm2⟩ := s
    dsimp only at hs
    try dsimp only
    obtain ⟨nb, e, e3_nb, f3, e3_e, p3_0, p3_1, p3_2, p3_3, p3_4⟩ := hs
    refine rs1 (gtI_q (w := iI e) (ck_66 (hR.fr f3)) (e3_e)) ?_
    refine rs1 (jn_v) ?_
    by_cases c4 : 9 < (e - f)
    · refine rs1 (if_pos (lsI_p (li_9) (sbI (rfl) (rfl)) (by omega))) ?_
      refine rs1 (jv_e) ?_
      exact Rt.okI (z := 1) (li_1) ⟨1, e, (M.2.1 70 k.toNat), rfl, (Fr.m f3 (by decide)), e3_e, (f3.lc _ (by decide) _), fun j hj => (f3.lc _ (by decide) _), by omega, by omega, by assumption, by omega, by first | exact Or.inr ⟨by omega, by omega⟩ | exact Or.inl ⟨by omega, by omega, by omega, by assumption⟩⟩
    · refine rs1 (if_neg (lsI_n (li_9) (sbI (rfl) (rfl)) (by omega))) ?_
      refine rs1 (gtI_q (w := iI e) (ck_66 (hR.fr f3)) (e3_e)) ?_
      refine rs1 (vC_e (ck_66 (hR.fr f3))) ?_
      have b5 := hT.b e
      by_cases c6 : 97 ≤ (T e) ∧ (T e) ≤ 122
      ·
        refine rs1 (cI_e (z115_1 (by omega) (hR.fr f3) (hT.fr f3 (by decide) (by decide)) (rfl) (by omega))) ?_
        refine rs1 (if_neg (eqI_n (rfl) (li_0) (by omega))) ?_
        refine rs1 (jv_e) ?_
        exact Rt.okI (z := 1) (li_1) ⟨1, e, (M.2.1 70 k.toNat), rfl, (Fr.m f3 (by decide)), e3_e, (f3.lc _ (by decide) _), fun j hj => (f3.lc _ (by decide) _), by omega, by omega, by assumption, by omega, by first | exact Or.inr ⟨by omega, by omega⟩ | exact Or.inl ⟨by omega, by omega, by omega, by assumption⟩⟩
      ·
        refine rs1 (cI_e (z115_0 (by omega) (hR.fr f3) (hT.fr f3 (by decide) (by decide)) (rfl) (by omega))) ?_
        refine rs1 (if_pos (eqI_p (rfl) (li_0) (by omega))) ?_
        refine rs1 (gtP_q (w := some 70) (ck_66 (hR.fr f3)) (cf_66_4 (hR.fr f3))) ?_
        refine rs1 (gtI_q (w := iI k) (ck_66 (hR.fr f3)) ((f3.i _ _ (by decide)).trans (hk))) ?_
        refine rs1 (asL_q (n := 3001) (z := k) (w := nb) (ck_70 (hR.fr f3)) (rfl) (by omega) (e3_nb)) ?_
        exact Rt.okI (z := 4) (li_4) ⟨4, e, nb, rfl, (Fr.sL (inW_c (by decide) _) (Fr.m f3 (by decide))), (sL_i).trans (e3_e), sL_eq, fun j hj => (sL_nej hj).trans ((f3.lc _ (by decide) _)), by omega, by omega, by assumption, by omega, by first | exact Or.inr ⟨by omega, by omega⟩ | exact Or.inl ⟨by omega, by omega, by omega, by assumption⟩⟩
  ·
    refine Rt.lp (fun m s => ∃ (nb : Int64) (p : Int), s.1 = nb ∧ Fr W_sb M s.2 ∧ s.2.1 66 7 = iI p ∧ (f ≤ p) ∧ (p ≤ n) ∧ (Al dg8 T f p) ∧ (nb = nmL T f (p - f).toNat) ∧ ((m : Int) = n - p)) (fun m s go hs hgo => ?_) (n - f).toNat _ _ (by omega) ⟨(0 : Int64), f, rfl, Fr.r, hp, by omega, by omega, by first | exact Al.z (by omega) | exact Al.s (by assumption) (by omega) (by unfold dg8; omega), by first | exact nmL_z rfl | exact nmL_s (by omega) (by assumption) rfl, by omega⟩
    obtain ⟨t7, Mm8⟩ := s
    dsimp only at hs
    try dsimp only
    obtain ⟨nb, p, e9_nb, f9, e9_p, p9_0, p9_1, p9_2, p9_3, p9_4⟩ := hs
    unfold c118_7
    refine rs1 (gtI_q (w := iI p) (ck_66 (hR.fr f9)) (e9_p)) ?_
    refine rs1 (gtI_q (w := iI n) (ck_66 (hR.fr f9)) ((f9.i _ _ (by decide)).trans (hT.1))) ?_
    by_cases c10 : n ≤ p
    · refine rs1 (if_pos (leI_p (rfl) (rfl) (by omega))) ?_
      exact hj62 _ ⟨nb, p, e9_nb, f9, e9_p, by omega, by omega, by assumption, by first | omega | (have hz := hT.z p (by omega); omega), by assumption⟩
    · refine rs1 (if_neg (leI_n (rfl) (rfl) (by omega))) ?_
      refine rs1 (gtI_q (w := iI p) (ck_66 (hR.fr f9)) (e9_p)) ?_
      refine rs1 (vC_e (ck_66 (hR.fr f9))) ?_
      have b11 := hT.b p
      by_cases c12 : 48 ≤ (T p) ∧ (T p) ≤ 57
      ·
        refine rs1 (cI_e (z116_1 (by omega) (hR.fr f9) (hT.fr f9 (by decide) (by decide)) (rfl) (by omega))) ?_
        refine rs1 (if_neg (eqI_n (rfl) (li_0) (by omega))) ?_
        refine rs1 (gtP_q (w := some 67) (ck_66 (hR.fr f9)) (cf_66_0 (hR.fr f9))) ?_
        refine rs1 (gtI_q (w := iI p) (ck_66 (hR.fr f9)) (e9_p)) ?_
        refine rs1 (alI_q (n := 3000) (z := p) (w := iI ((T p))) (ck_67 (hR.fr f9)) (rfl) (by omega) ((f9.c _ (by decide) _).trans (hT.2.2.2.1 p (by omega) (by omega)))) ?_
        refine rs1 (ltL_q (w := ((nb * (10 : Int64)) + (iI ((T p) - 48)).toInt64)) (congr (congrArg HAdd.hAdd (congr (congrArg HMul.hMul (e9_nb)) (rfl))) (congrArg Int32.toInt64 (cvI (sbI (rfl) (li_48)) (by omega))))) ?_
        refine rs1 (gtI_q (w := iI p) (ck_66 (hR.fr f9)) (e9_p)) ?_
        refine rs1 (ptI_q (z := (p + 1)) (ck_66 (hR.fr f9)) (adI (rfl) (li_1))) ?_
        exact hgo (n - p - 1).toNat _ (by omega) ⟨((nb * (10 : Int64)) + (iI ((T p) - 48)).toInt64), (p + 1), rfl, (Fr.sI (by decide) f9), sI_eq, by omega, by omega, by first | exact Al.z (by omega) | exact Al.s (by assumption) (by omega) (by unfold dg8; omega), by first | exact nmL_z rfl | exact nmL_s (by omega) (by assumption) rfl, by omega⟩
      ·
        refine rs1 (cI_e (z116_0 (by omega) (hR.fr f9) (hT.fr f9 (by decide) (by decide)) (rfl) (by omega))) ?_
        refine rs1 (if_pos (eqI_p (rfl) (li_0) (by omega))) ?_
        exact hj62 _ ⟨nb, p, e9_nb, f9, e9_p, by omega, by omega, by assumption, by first | omega | (have hz := hT.z p (by omega); omega), by assumption⟩
theorem sby1_ok : (sby 1).length = 16 ∧ (sby 1).getD 0 0 = iI 123 ∧ (sby 1).getD 1 0 = iI 125 ∧ (sby 1).getD 2 0 = iI 40 ∧ (sby 1).getD 3 0 = iI 41 ∧ (sby 1).getD 4 0 = iI 91 ∧ (sby 1).getD 5 0 = iI 93 ∧ (sby 1).getD 6 0 = iI 44 ∧ (sby 1).getD 7 0 = iI 59 ∧ (sby 1).getD 8 0 = iI 46 ∧ (sby 1).getD 9 0 = iI 61 ∧ (sby 1).getD 10 0 = iI 43 ∧ (sby 1).getD 11 0 = iI 45 ∧ (sby 1).getD 12 0 = iI 42 ∧ (sby 1).getD 13 0 = iI 47 ∧ (sby 1).getD 14 0 = iI 37 ∧ (sby 1).getD 15 0 = iI 60 := by decide +kernel
theorem z331 {L : Nat} {xs : Nat → Int32} {d : Nat} {M : Mem} (hO : OldOK L xs M) (hd : 1 ≤ d) {v : Int32} {c : Int} (hv : v = iI c) (h : 0 ≤ c ∧ c ≤ 127) : Rt (runX d 331 [va_rf (some 34), .int v, .int (iI 0), .int (iI 16)] M) (fun v M2 => ∃ r, v = .int (iI r) ∧ M2 = M ∧ -1 ≤ r ∧ r ≤ 15 ∧ ((sgk c ∧ 0 ≤ r) ∨ (¬ sgk c ∧ r = -1))) := by
  obtain ⟨d, rfl⟩ : ∃ e, d = e + 1 := ⟨d - 1, by omega⟩
  rw [r331]; unfold b331; rw [aR_e, aI_e, aI_e, aI_e, aZ_e]; unfold c331
  obtain ⟨h16, y0, y1, y2, y3, y4, y5, y6, y7, y8, y9, y10, y11, y12, y13, y14, y15⟩ := sby1_ok
  have hk := old_str hO (i := 1) (by decide)
  rw [h16] at hk
  have hb := b8_e hv (by omega)
  refine rs1 jn_v ?_
  refine rs1 jn_v ?_
  refine rs1 lp_e ?_
  unfold c331_7
  refine rs1 (if_neg (leI_n (y := 0) rfl (rfl) (by omega))) ?_
  refine rs1 (alO_q (u := 101) (n := 16) (z := 0) (w := iI 123) hk rfl (by omega) ((old_byte hO (i := 1) (by decide) 0).trans y0)) ?_
  by_cases q0 : c = 123
  · refine rs1 (if_pos (eqI_p (y := c) rfl hb (by omega))) ?_
    refine rs1 jv_e ?_
    exact Rt.ok ⟨0, rfl, rfl, by omega, by omega, Or.inl ⟨by unfold sgk; omega, by omega⟩⟩
  refine rs1 (if_neg (eqI_n (y := c) rfl hb (by omega))) ?_
  refine rs1 (ltI_q (z := 1) (cvI (adI (x := 0) rfl li_1) (by omega))) ?_
  refine rs1 lp_e ?_
  refine rs1 (if_neg (leI_n (y := 1) rfl (rfl) (by omega))) ?_
  refine rs1 (alO_q (u := 101) (n := 16) (z := 1) (w := iI 125) hk rfl (by omega) ((old_byte hO (i := 1) (by decide) 1).trans y1)) ?_
  by_cases q1 : c = 125
  · refine rs1 (if_pos (eqI_p (y := c) rfl hb (by omega))) ?_
    refine rs1 jv_e ?_
    exact Rt.ok ⟨1, rfl, rfl, by omega, by omega, Or.inl ⟨by unfold sgk; omega, by omega⟩⟩
  refine rs1 (if_neg (eqI_n (y := c) rfl hb (by omega))) ?_
  refine rs1 (ltI_q (z := 2) (cvI (adI (x := 1) rfl li_1) (by omega))) ?_
  refine rs1 lp_e ?_
  refine rs1 (if_neg (leI_n (y := 2) rfl (rfl) (by omega))) ?_
  refine rs1 (alO_q (u := 101) (n := 16) (z := 2) (w := iI 40) hk rfl (by omega) ((old_byte hO (i := 1) (by decide) 2).trans y2)) ?_
  by_cases q2 : c = 40
  · refine rs1 (if_pos (eqI_p (y := c) rfl hb (by omega))) ?_
    refine rs1 jv_e ?_
    exact Rt.ok ⟨2, rfl, rfl, by omega, by omega, Or.inl ⟨by unfold sgk; omega, by omega⟩⟩
  refine rs1 (if_neg (eqI_n (y := c) rfl hb (by omega))) ?_
  refine rs1 (ltI_q (z := 3) (cvI (adI (x := 2) rfl li_1) (by omega))) ?_
  refine rs1 lp_e ?_
  refine rs1 (if_neg (leI_n (y := 3) rfl (rfl) (by omega))) ?_
  refine rs1 (alO_q (u := 101) (n := 16) (z := 3) (w := iI 41) hk rfl (by omega) ((old_byte hO (i := 1) (by decide) 3).trans y3)) ?_
  by_cases q3 : c = 41
  · refine rs1 (if_pos (eqI_p (y := c) rfl hb (by omega))) ?_
    refine rs1 jv_e ?_
    exact Rt.ok ⟨3, rfl, rfl, by omega, by omega, Or.inl ⟨by unfold sgk; omega, by omega⟩⟩
  refine rs1 (if_neg (eqI_n (y := c) rfl hb (by omega))) ?_
  refine rs1 (ltI_q (z := 4) (cvI (adI (x := 3) rfl li_1) (by omega))) ?_
  refine rs1 lp_e ?_
  refine rs1 (if_neg (leI_n (y := 4) rfl (rfl) (by omega))) ?_
  refine rs1 (alO_q (u := 101) (n := 16) (z := 4) (w := iI 91) hk rfl (by omega) ((old_byte hO (i := 1) (by decide) 4).trans y4)) ?_
  by_cases q4 : c = 91
  · refine rs1 (if_pos (eqI_p (y := c) rfl hb (by omega))) ?_
    refine rs1 jv_e ?_
    exact Rt.ok ⟨4, rfl, rfl, by omega, by omega, Or.inl ⟨by unfold sgk; omega, by omega⟩⟩
  refine rs1 (if_neg (eqI_n (y := c) rfl hb (by omega))) ?_
  refine rs1 (ltI_q (z := 5) (cvI (adI (x := 4) rfl li_1) (by omega))) ?_
  refine rs1 lp_e ?_
  refine rs1 (if_neg (leI_n (y := 5) rfl (rfl) (by omega))) ?_
  refine rs1 (alO_q (u := 101) (n := 16) (z := 5) (w := iI 93) hk rfl (by omega) ((old_byte hO (i := 1) (by decide) 5).trans y5)) ?_
  by_cases q5 : c = 93
  · refine rs1 (if_pos (eqI_p (y := c) rfl hb (by omega))) ?_
    refine rs1 jv_e ?_
    exact Rt.ok ⟨5, rfl, rfl, by omega, by omega, Or.inl ⟨by unfold sgk; omega, by omega⟩⟩
  refine rs1 (if_neg (eqI_n (y := c) rfl hb (by omega))) ?_
  refine rs1 (ltI_q (z := 6) (cvI (adI (x := 5) rfl li_1) (by omega))) ?_
  refine rs1 lp_e ?_
  refine rs1 (if_neg (leI_n (y := 6) rfl (rfl) (by omega))) ?_
  refine rs1 (alO_q (u := 101) (n := 16) (z := 6) (w := iI 44) hk rfl (by omega) ((old_byte hO (i := 1) (by decide) 6).trans y6)) ?_
  by_cases q6 : c = 44
  · refine rs1 (if_pos (eqI_p (y := c) rfl hb (by omega))) ?_
    refine rs1 jv_e ?_
    exact Rt.ok ⟨6, rfl, rfl, by omega, by omega, Or.inl ⟨by unfold sgk; omega, by omega⟩⟩
  refine rs1 (if_neg (eqI_n (y := c) rfl hb (by omega))) ?_
  refine rs1 (ltI_q (z := 7) (cvI (adI (x := 6) rfl li_1) (by omega))) ?_
  refine rs1 lp_e ?_
  refine rs1 (if_neg (leI_n (y := 7) rfl (rfl) (by omega))) ?_
  refine rs1 (alO_q (u := 101) (n := 16) (z := 7) (w := iI 59) hk rfl (by omega) ((old_byte hO (i := 1) (by decide) 7).trans y7)) ?_
  by_cases q7 : c = 59
  · refine rs1 (if_pos (eqI_p (y := c) rfl hb (by omega))) ?_
    refine rs1 jv_e ?_
    exact Rt.ok ⟨7, rfl, rfl, by omega, by omega, Or.inl ⟨by unfold sgk; omega, by omega⟩⟩
  refine rs1 (if_neg (eqI_n (y := c) rfl hb (by omega))) ?_
  refine rs1 (ltI_q (z := 8) (cvI (adI (x := 7) rfl li_1) (by omega))) ?_
  refine rs1 lp_e ?_
  refine rs1 (if_neg (leI_n (y := 8) rfl (rfl) (by omega))) ?_
  refine rs1 (alO_q (u := 101) (n := 16) (z := 8) (w := iI 46) hk rfl (by omega) ((old_byte hO (i := 1) (by decide) 8).trans y8)) ?_
  by_cases q8 : c = 46
  · refine rs1 (if_pos (eqI_p (y := c) rfl hb (by omega))) ?_
    refine rs1 jv_e ?_
    exact Rt.ok ⟨8, rfl, rfl, by omega, by omega, Or.inl ⟨by unfold sgk; omega, by omega⟩⟩
  refine rs1 (if_neg (eqI_n (y := c) rfl hb (by omega))) ?_
  refine rs1 (ltI_q (z := 9) (cvI (adI (x := 8) rfl li_1) (by omega))) ?_
  refine rs1 lp_e ?_
  refine rs1 (if_neg (leI_n (y := 9) rfl (rfl) (by omega))) ?_
  refine rs1 (alO_q (u := 101) (n := 16) (z := 9) (w := iI 61) hk rfl (by omega) ((old_byte hO (i := 1) (by decide) 9).trans y9)) ?_
  by_cases q9 : c = 61
  · refine rs1 (if_pos (eqI_p (y := c) rfl hb (by omega))) ?_
    refine rs1 jv_e ?_
    exact Rt.ok ⟨9, rfl, rfl, by omega, by omega, Or.inl ⟨by unfold sgk; omega, by omega⟩⟩
  refine rs1 (if_neg (eqI_n (y := c) rfl hb (by omega))) ?_
  refine rs1 (ltI_q (z := 10) (cvI (adI (x := 9) rfl li_1) (by omega))) ?_
  refine rs1 lp_e ?_
  refine rs1 (if_neg (leI_n (y := 10) rfl (rfl) (by omega))) ?_
  refine rs1 (alO_q (u := 101) (n := 16) (z := 10) (w := iI 43) hk rfl (by omega) ((old_byte hO (i := 1) (by decide) 10).trans y10)) ?_
  by_cases q10 : c = 43
  · refine rs1 (if_pos (eqI_p (y := c) rfl hb (by omega))) ?_
    refine rs1 jv_e ?_
    exact Rt.ok ⟨10, rfl, rfl, by omega, by omega, Or.inl ⟨by unfold sgk; omega, by omega⟩⟩
  refine rs1 (if_neg (eqI_n (y := c) rfl hb (by omega))) ?_
  refine rs1 (ltI_q (z := 11) (cvI (adI (x := 10) rfl li_1) (by omega))) ?_
  refine rs1 lp_e ?_
  refine rs1 (if_neg (leI_n (y := 11) rfl (rfl) (by omega))) ?_
  refine rs1 (alO_q (u := 101) (n := 16) (z := 11) (w := iI 45) hk rfl (by omega) ((old_byte hO (i := 1) (by decide) 11).trans y11)) ?_
  by_cases q11 : c = 45
  · refine rs1 (if_pos (eqI_p (y := c) rfl hb (by omega))) ?_
    refine rs1 jv_e ?_
    exact Rt.ok ⟨11, rfl, rfl, by omega, by omega, Or.inl ⟨by unfold sgk; omega, by omega⟩⟩
  refine rs1 (if_neg (eqI_n (y := c) rfl hb (by omega))) ?_
  refine rs1 (ltI_q (z := 12) (cvI (adI (x := 11) rfl li_1) (by omega))) ?_
  refine rs1 lp_e ?_
  refine rs1 (if_neg (leI_n (y := 12) rfl (rfl) (by omega))) ?_
  refine rs1 (alO_q (u := 101) (n := 16) (z := 12) (w := iI 42) hk rfl (by omega) ((old_byte hO (i := 1) (by decide) 12).trans y12)) ?_
  by_cases q12 : c = 42
  · refine rs1 (if_pos (eqI_p (y := c) rfl hb (by omega))) ?_
    refine rs1 jv_e ?_
    exact Rt.ok ⟨12, rfl, rfl, by omega, by omega, Or.inl ⟨by unfold sgk; omega, by omega⟩⟩
  refine rs1 (if_neg (eqI_n (y := c) rfl hb (by omega))) ?_
  refine rs1 (ltI_q (z := 13) (cvI (adI (x := 12) rfl li_1) (by omega))) ?_
  refine rs1 lp_e ?_
  refine rs1 (if_neg (leI_n (y := 13) rfl (rfl) (by omega))) ?_
  refine rs1 (alO_q (u := 101) (n := 16) (z := 13) (w := iI 47) hk rfl (by omega) ((old_byte hO (i := 1) (by decide) 13).trans y13)) ?_
  by_cases q13 : c = 47
  · refine rs1 (if_pos (eqI_p (y := c) rfl hb (by omega))) ?_
    refine rs1 jv_e ?_
    exact Rt.ok ⟨13, rfl, rfl, by omega, by omega, Or.inl ⟨by unfold sgk; omega, by omega⟩⟩
  refine rs1 (if_neg (eqI_n (y := c) rfl hb (by omega))) ?_
  refine rs1 (ltI_q (z := 14) (cvI (adI (x := 13) rfl li_1) (by omega))) ?_
  refine rs1 lp_e ?_
  refine rs1 (if_neg (leI_n (y := 14) rfl (rfl) (by omega))) ?_
  refine rs1 (alO_q (u := 101) (n := 16) (z := 14) (w := iI 37) hk rfl (by omega) ((old_byte hO (i := 1) (by decide) 14).trans y14)) ?_
  by_cases q14 : c = 37
  · refine rs1 (if_pos (eqI_p (y := c) rfl hb (by omega))) ?_
    refine rs1 jv_e ?_
    exact Rt.ok ⟨14, rfl, rfl, by omega, by omega, Or.inl ⟨by unfold sgk; omega, by omega⟩⟩
  refine rs1 (if_neg (eqI_n (y := c) rfl hb (by omega))) ?_
  refine rs1 (ltI_q (z := 15) (cvI (adI (x := 14) rfl li_1) (by omega))) ?_
  refine rs1 lp_e ?_
  refine rs1 (if_neg (leI_n (y := 15) rfl (rfl) (by omega))) ?_
  refine rs1 (alO_q (u := 101) (n := 16) (z := 15) (w := iI 60) hk rfl (by omega) ((old_byte hO (i := 1) (by decide) 15).trans y15)) ?_
  by_cases q15 : c = 60
  · refine rs1 (if_pos (eqI_p (y := c) rfl hb (by omega))) ?_
    refine rs1 jv_e ?_
    exact Rt.ok ⟨15, rfl, rfl, by omega, by omega, Or.inl ⟨by unfold sgk; omega, by omega⟩⟩
  refine rs1 (if_neg (eqI_n (y := c) rfl hb (by omega))) ?_
  refine rs1 (ltI_q (z := 16) (cvI (adI (x := 15) rfl li_1) (by omega))) ?_
  refine rs1 lp_e ?_
  refine rs1 (if_pos (leI_p (y := 16) rfl rfl (by omega))) ?_
  refine rs1 jv_e ?_
  exact Rt.okI (z := -1) li_m1 ⟨-1, rfl, rfl, by omega, by omega, Or.inr ⟨by unfold sgk; omega, by omega⟩⟩
theorem z329 {d : Nat} {M : Mem} (hd : 1 ≤ d) {v : Int32} {c : Int} (hv : v = iI c) (h : 0 ≤ c ∧ c ≤ 127) : runX d 329 [.int v] M = some (.int (iI 1), M) := by
  obtain ⟨d, rfl⟩ : ∃ e, d = e + 1 := ⟨d - 1, by omega⟩
  rw [r329]; unfold b329; rw [aI_e, aZ_e]; unfold c329
  rw [jn_e, jn_e, if_neg (lsI_n hv li_0 (by omega)), if_neg (lsI_n li_255 hv (by omega))]
  exact rtZ_q li_1 (by omega)
theorem z330 {L : Nat} {xs : Nat → Int32} {d : Nat} {M : Mem} (hO : OldOK L xs M) (hd : 2 ≤ d) {v : Int32} {c : Int} (hv : v = iI c) (h : 0 ≤ c ∧ c ≤ 127) : Rt (runX d 330 [va_rf (some 34), .int v, .int (0 : Int32), .int (iI 16)] M) (fun v M2 => ∃ r, v = .int (iI r) ∧ M2 = M ∧ -1 ≤ r ∧ r ≤ 15 ∧ ((sgk c ∧ 0 ≤ r) ∨ (¬ sgk c ∧ r = -1))) := by
  obtain ⟨d, rfl⟩ : ∃ e, d = e + 1 := ⟨d - 1, by omega⟩
  rw [r330]; unfold b330; rw [aR_e, aI_e, aI_e, aI_e, aZ_e]; unfold c330
  have hk := old_str hO (i := 1) (by decide)
  rw [sby1_ok.1] at hk
  refine rs1 (cI_e (z329 (by omega) hv h)) ?_
  refine rs1 (if_neg (eqI_n (x := 1) rfl li_0 (by omega))) ?_
  refine rs1 (ltI_q (z := 0) ((if_neg (lsI_n li_0 li_0 (by omega))).trans li_0)) ?_
  refine rs1 (aln_q (n := 16) hk (by decide)) ?_
  refine rs1 (ltI_q (z := 16) (if_neg (lsI_n (x := ((16 : Nat) : Int)) rfl rfl (by omega)))) ?_
  refine rs1 (if_pos (lsI_p (x := 0) (y := 16) rfl rfl (by omega))) ?_
  refine Rt.cI (z331 hO (by omega) hv h |>.mono fun v M2 q => q) fun z M2 q => ?_
  exact Rt.ok ⟨z, rfl, q⟩
theorem z322 {L : Nat} {xs : Nat → Int32} {d : Nat} {M : Mem} (hO : OldOK L xs M) (hd : 4 ≤ d) {v : Int32} {c : Int} (hv : v = iI c) (h : 0 ≤ c ∧ c ≤ 127) : Rt (runX d 322 [va_rf (some 4), .int v] M) (fun v M2 => ∃ r, v = .int (iI r) ∧ M2 = M ∧ -1 ≤ r ∧ r ≤ 15 ∧ ((sgk c ∧ 0 ≤ r) ∨ (¬ sgk c ∧ r = -1))) := by
  obtain ⟨d, rfl⟩ : ∃ e, d = e + 4 := ⟨d - 4, by omega⟩
  rw [r322]; unfold b322; rw [aR_e, aI_e, aZ_e]; unfold c322
  refine rs1 (vS_e (by omega)) ?_
  refine Rt.cI (P := fun r M2 => M2 = M ∧ -1 ≤ r ∧ r ≤ 15 ∧ ((sgk c ∧ 0 ≤ r) ∨ (¬ sgk c ∧ r = -1))) ?_ fun z M2 q => Rt.ok ⟨z, rfl, q⟩
  rw [r323]; unfold b323; rw [aR_e, aI_e, aI_e, aZ_e]; unfold c323
  refine rs1 (vS_e (by omega)) ?_
  refine rs1 (cI_e (e325 (by omega))) ?_
  refine rs1 jn_v ?_
  refine rs1 (if_neg (by decide)) ?_
  refine rs1 (gsV_e (by omega)) ?_
  refine rs1 (vS_e (by omega)) ?_
  refine rs1 (cI_e ((e320 hO (i := 1) (by decide)).trans (by rw [sby1_ok.1]; rfl : _ = some (Value.int (iI 16), M)))) ?_
  refine Rt.cI (z330 hO (by omega) hv h) fun z M2 q => ?_
  refine rs1 jv_e ?_
  exact Rt.ok ⟨z, rfl, q⟩
theorem OldOK.fr {L : Nat} {xs : Nat → Int32} {W : List (Nat × Nat)} {M M2 : Mem} (h : OldOK L xs M) (f : Fr W M M2) (hw : ∀ q, q ∈ W → 64 ≤ q.1) : OldOK L xs M2 := ⟨fun a ha => by rw [f.k]; exact h.1 a ha, fun a j ha => by rw [f.i a j (inW_n (fun q hq e => by have := hw q hq; omega) j)]; exact h.2 a j ha⟩
theorem z119 {d : Nat} {M : Mem} (hd : 5 ≤ d) {L : Nat} {xs : Nat → Int32} (hO : OldOK L xs M) {T : Int → Int} {n : Int} (hR : CT M) (hT : Tp 66 1 67 T n M) {f : Int} (hp : M.1 66 7 = iI f) (h : 0 ≤ f ∧ f < n ∧ -128 ≤ T f ∧ T f ≤ 127) : Rt (runX d 119 [va_rf (some 66)] M) (fun v M2 => ∃ (kd : Int) (e : Int), v = .int (iI kd) ∧ Fr W_sb M M2 ∧ M2.1 66 7 = iI e ∧ (0 ≤ kd ∧ kd ≤ 300) ∧ (f < e ∧ e ≤ n) ∧ (Sg 1 128 T f e kd)) := by
  obtain ⟨d, rfl⟩ : ∃ e, d = e + 1 := ⟨d - 1, by omega⟩
  rw [r119]; unfold b119; rw [aR_e, aZ_e]; unfold c119
  have hn := hT.2.1
  have hm := hT.2.2.1
  refine rs1 (gtP_q (w := some 67) (ck_66 hR) (cf_66_0 hR)) ?_
  refine rs1 (gtI_q (w := iI f) (ck_66 hR) (hp)) ?_
  refine rs1 (alI_q (n := 3000) (z := f) (w := iI ((T f))) (ck_67 hR) (rfl) (by omega) (hT.2.2.2.1 f (by omega) (by omega))) ?_
  refine rs1 (gtI_q (w := iI f) (ck_66 hR) (hp)) ?_
  refine rs1 (gtI_q (w := iI n) (ck_66 hR) (hT.1)) ?_
  refine rs1 (jn_v) ?_
  refine rs1 (jn_v) ?_
  by_cases c1 : n ≤ (f + 1)
  · refine rs1 (if_pos (leI_p (rfl) (adI (rfl) (li_1)) (by omega))) ?_
    refine rs1 (jv_e) ?_
    refine rs1 (jv_e) ?_
    refine rs1 (gtI_q (w := iI f) (ck_66 hR) (hp)) ?_
    refine rs1 (ptI_q (z := (f + 1)) (ck_66 hR) (adI (rfl) (li_1))) ?_
    refine rs1 (jn_v) ?_
    refine rs1 (if_pos (eqI_p (li_0) (li_0) (by omega))) ?_
    refine rs1 (jv_e) ?_
    refine rs1 (jn_v) ?_
    refine rs1 (jn_v) ?_
    by_cases c2 : ((T f)) ≤ 0
    · refine rs1 (if_pos (leI_p (rfl) (li_0) (by omega))) ?_
      refine rs1 (jv_e) ?_
      refine rs1 (jv_e) ?_
      try dsimp only
      exact Rt.okI (z := 1) (li_1) ⟨1, (f + 1), rfl, (Fr.sI (by decide) Fr.r), sI_eq, by omega, by first | omega | (have hz := hT.z (f + 1); omega), by unfold Sg sgk at *; first | omega | (have hz := hT.z (f + 1) (by omega); omega)⟩
    · refine rs1 (if_neg (leI_n (rfl) (li_0) (by omega))) ?_
      refine rs1 (vS_e (by decide)) ?_
      refine Rt.cI (z322 (hO.fr (W := W_sb) (Fr.sI (by decide) Fr.r) (by decide)) (by omega) (u16_e (rfl) (by omega)) (by omega)) fun r3 M2 hr3 => ?_
      obtain ⟨rfl, lr3, ur3, sr3⟩ := hr3
      by_cases c4 : r3 < 0
      · refine rs1 (if_pos (lsI_p (rfl) (li_0) (by omega))) ?_
        refine rs1 (jv_e) ?_
        refine rs1 (jv_e) ?_
        try dsimp only
        exact Rt.okI (z := 1) (li_1) ⟨1, (f + 1), rfl, (Fr.sI (by decide) Fr.r), sI_eq, by omega, by first | omega | (have hz := hT.z (f + 1); omega), by unfold Sg sgk at *; first | omega | (have hz := hT.z (f + 1) (by omega); omega)⟩
      · refine rs1 (if_neg (lsI_n (rfl) (li_0) (by omega))) ?_
        refine rs1 (jv_e) ?_
        try dsimp only
        exact Rt.okI (z := ((T f))) (rfl) ⟨((T f)), (f + 1), rfl, (Fr.sI (by decide) Fr.r), sI_eq, by omega, by first | omega | (have hz := hT.z (f + 1); omega), by unfold Sg sgk at *; first | omega | (have hz := hT.z (f + 1) (by omega); omega)⟩
  · refine rs1 (if_neg (leI_n (rfl) (adI (rfl) (li_1)) (by omega))) ?_
    refine rs1 (gtP_q (w := some 67) (ck_66 hR) (cf_66_0 hR)) ?_
    refine rs1 (gtI_q (w := iI f) (ck_66 hR) (hp)) ?_
    have b5 := hT.b (f + 1)
    refine rs1 (alI_q (n := 3000) (z := (f + 1)) (w := iI ((T (f + 1)))) (ck_67 hR) (adI (rfl) (li_1)) (by omega) (hT.2.2.2.1 (f + 1) (by omega) (by omega))) ?_
    by_cases c6 : ((T (f + 1))) = 61
    · refine rs1 (if_pos (eqI_p (rfl) (li_61) (by omega))) ?_
      refine rs1 (jv_e) ?_
      refine rs1 (gtI_q (w := iI f) (ck_66 hR) (hp)) ?_
      refine rs1 (ptI_q (z := (f + 1)) (ck_66 hR) (adI (rfl) (li_1))) ?_
      refine rs1 (jn_v) ?_
      refine rs1 (if_neg (eqI_n (li_1) (li_0) (by omega))) ?_
      refine rs1 (jn_v) ?_
      by_cases c7 : ((T f)) = 60
      · refine rs1 (if_pos (eqI_p (rfl) (li_60) (by omega))) ?_
        refine rs1 (jv_e) ?_
        refine rs1 (gtI_q (w := iI (f + 1)) (ck_66 hR.sI) (sI_eq)) ?_
        refine rs1 (ptI_q (z := (f + 2)) (ck_66 hR.sI) (cvI (adI (rfl) (li_1)) (by omega))) ?_
        refine rs1 (jn_v) ?_
        refine rs1 (if_pos (eqI_p (rfl) (li_60) (by omega))) ?_
        refine rs1 (jv_e) ?_
        exact Rt.okI (z := 128) (li_128) ⟨128, (f + 2), rfl, (Fr.sI (by decide) (Fr.sI (by decide) Fr.r)), sI_eq, by omega, by first | omega | (have hz := hT.z (f + 1); omega), by unfold Sg sgk at *; first | omega | (have hz := hT.z (f + 1) (by omega); omega)⟩
      · refine rs1 (if_neg (eqI_n (rfl) (li_60) (by omega))) ?_
        by_cases c8 : ((T f)) = 61
        · refine rs1 (if_pos (eqI_p (rfl) (li_61) (by omega))) ?_
          refine rs1 (jv_e) ?_
          refine rs1 (gtI_q (w := iI (f + 1)) (ck_66 hR.sI) (sI_eq)) ?_
          refine rs1 (ptI_q (z := (f + 2)) (ck_66 hR.sI) (cvI (adI (rfl) (li_1)) (by omega))) ?_
          refine rs1 (jn_v) ?_
          refine rs1 (if_neg (eqI_n (rfl) (li_60) (by omega))) ?_
          refine rs1 (if_pos (eqI_p (rfl) (li_61) (by omega))) ?_
          refine rs1 (jv_e) ?_
          exact Rt.okI (z := 129) (li_129) ⟨129, (f + 2), rfl, (Fr.sI (by decide) (Fr.sI (by decide) Fr.r)), sI_eq, by omega, by first | omega | (have hz := hT.z (f + 1); omega), by unfold Sg sgk at *; first | omega | (have hz := hT.z (f + 1) (by omega); omega)⟩
        · refine rs1 (if_neg (eqI_n (rfl) (li_61) (by omega))) ?_
          by_cases c9 : ((T f)) = 33
          · refine rs1 (if_pos (eqI_p (rfl) (li_33) (by omega))) ?_
            refine rs1 (jv_e) ?_
            refine rs1 (gtI_q (w := iI (f + 1)) (ck_66 hR.sI) (sI_eq)) ?_
            refine rs1 (ptI_q (z := (f + 2)) (ck_66 hR.sI) (cvI (adI (rfl) (li_1)) (by omega))) ?_
            refine rs1 (jn_v) ?_
            refine rs1 (if_neg (eqI_n (rfl) (li_60) (by omega))) ?_
            refine rs1 (if_neg (eqI_n (rfl) (li_61) (by omega))) ?_
            refine rs1 (jv_e) ?_
            exact Rt.okI (z := 130) (li_130) ⟨130, (f + 2), rfl, (Fr.sI (by decide) (Fr.sI (by decide) Fr.r)), sI_eq, by omega, by first | omega | (have hz := hT.z (f + 1); omega), by unfold Sg sgk at *; first | omega | (have hz := hT.z (f + 1) (by omega); omega)⟩
          · refine rs1 (if_neg (eqI_n (rfl) (li_33) (by omega))) ?_
            refine rs1 (jv_e) ?_
            refine rs1 (jn_v) ?_
            refine rs1 (jn_v) ?_
            by_cases c10 : ((T f)) ≤ 0
            · refine rs1 (if_pos (leI_p (rfl) (li_0) (by omega))) ?_
              refine rs1 (jv_e) ?_
              refine rs1 (jv_e) ?_
              try dsimp only
              exact Rt.okI (z := 1) (li_1) ⟨1, (f + 1), rfl, (Fr.sI (by decide) Fr.r), sI_eq, by omega, by first | omega | (have hz := hT.z (f + 1); omega), by unfold Sg sgk at *; first | omega | (have hz := hT.z (f + 1) (by omega); omega)⟩
            · refine rs1 (if_neg (leI_n (rfl) (li_0) (by omega))) ?_
              refine rs1 (vS_e (by decide)) ?_
              refine Rt.cI (z322 (hO.fr (W := W_sb) (Fr.sI (by decide) Fr.r) (by decide)) (by omega) (u16_e (rfl) (by omega)) (by omega)) fun r11 M2 hr11 => ?_
              obtain ⟨rfl, lr11, ur11, sr11⟩ := hr11
              by_cases c12 : r11 < 0
              · refine rs1 (if_pos (lsI_p (rfl) (li_0) (by omega))) ?_
                refine rs1 (jv_e) ?_
                refine rs1 (jv_e) ?_
                try dsimp only
                exact Rt.okI (z := 1) (li_1) ⟨1, (f + 1), rfl, (Fr.sI (by decide) Fr.r), sI_eq, by omega, by first | omega | (have hz := hT.z (f + 1); omega), by unfold Sg sgk at *; first | omega | (have hz := hT.z (f + 1) (by omega); omega)⟩
              · refine rs1 (if_neg (lsI_n (rfl) (li_0) (by omega))) ?_
                refine rs1 (jv_e) ?_
                try dsimp only
                exact Rt.okI (z := ((T f))) (rfl) ⟨((T f)), (f + 1), rfl, (Fr.sI (by decide) Fr.r), sI_eq, by omega, by first | omega | (have hz := hT.z (f + 1); omega), by unfold Sg sgk at *; first | omega | (have hz := hT.z (f + 1) (by omega); omega)⟩
    · refine rs1 (if_neg (eqI_n (rfl) (li_61) (by omega))) ?_
      refine rs1 (jv_e) ?_
      refine rs1 (jv_e) ?_
      refine rs1 (gtI_q (w := iI f) (ck_66 hR) (hp)) ?_
      refine rs1 (ptI_q (z := (f + 1)) (ck_66 hR) (adI (rfl) (li_1))) ?_
      refine rs1 (jn_v) ?_
      refine rs1 (if_pos (eqI_p (li_0) (li_0) (by omega))) ?_
      refine rs1 (jv_e) ?_
      refine rs1 (jn_v) ?_
      refine rs1 (jn_v) ?_
      by_cases c13 : ((T f)) ≤ 0
      · refine rs1 (if_pos (leI_p (rfl) (li_0) (by omega))) ?_
        refine rs1 (jv_e) ?_
        refine rs1 (jv_e) ?_
        try dsimp only
        exact Rt.okI (z := 1) (li_1) ⟨1, (f + 1), rfl, (Fr.sI (by decide) Fr.r), sI_eq, by omega, by first | omega | (have hz := hT.z (f + 1); omega), by unfold Sg sgk at *; first | omega | (have hz := hT.z (f + 1) (by omega); omega)⟩
      · refine rs1 (if_neg (leI_n (rfl) (li_0) (by omega))) ?_
        refine rs1 (vS_e (by decide)) ?_
        refine Rt.cI (z322 (hO.fr (W := W_sb) (Fr.sI (by decide) Fr.r) (by decide)) (by omega) (u16_e (rfl) (by omega)) (by omega)) fun r14 M2 hr14 => ?_
        obtain ⟨rfl, lr14, ur14, sr14⟩ := hr14
        by_cases c15 : r14 < 0
        · refine rs1 (if_pos (lsI_p (rfl) (li_0) (by omega))) ?_
          refine rs1 (jv_e) ?_
          refine rs1 (jv_e) ?_
          try dsimp only
          exact Rt.okI (z := 1) (li_1) ⟨1, (f + 1), rfl, (Fr.sI (by decide) Fr.r), sI_eq, by omega, by first | omega | (have hz := hT.z (f + 1); omega), by unfold Sg sgk at *; first | omega | (have hz := hT.z (f + 1) (by omega); omega)⟩
        · refine rs1 (if_neg (lsI_n (rfl) (li_0) (by omega))) ?_
          refine rs1 (jv_e) ?_
          try dsimp only
          exact Rt.okI (z := ((T f))) (rfl) ⟨((T f)), (f + 1), rfl, (Fr.sI (by decide) Fr.r), sI_eq, by omega, by first | omega | (have hz := hT.z (f + 1); omega), by unfold Sg sgk at *; first | omega | (have hz := hT.z (f + 1) (by omega); omega)⟩
