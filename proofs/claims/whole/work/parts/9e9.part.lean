/-! verdict(), cover(), told(), mutant(): both -/
/-- what is told of the latest run() of a parcel -/
def rsB (o : HO) (p : Int) (Mc Mr : Mem) : Prop := (Mc.1 (gX (oP o p)) 13 = iI 0 ∧ Mr.1 221 p.toNat = iI 0) ∨ ((Mc.1 (gX (oP o p)) 13 = iI 1 ∧ Mr.1 221 p.toNat = iI 1) ∧ (∃ T, ∀ c, 0 ≤ c → c < (gR (oP o p)).1 3 0 0 → tlB o p T c Mc Mr) ∧ ∃ s, cvB o p s Mc Mr)
section S9e9
variable {d dl : Nat} {o : HO} {M M' Mc Mr : Mem} {LL a j b c t x n sw : Nat} {xs : Nat → Int32} {ow : Nat → Int} {p i k sl m f w wk : Int} {v v1 v2 v3 v4 : Int32} {km : Int → Nat}
theorem verdict_pair (hdl : 7 ≤ dl) (hd : 5 ≤ d) (hP : hoP o) (hC : HC LL xs o ow sl Mc) (hR : HR o sl Mr) (hB : 0 ≤ p → p < oN o → rsB o p Mc Mr) (hv1 : v1 = iI p) (hv2 : v2 = iI m) (hv3 : v3 = iI k) (bp : -2147483648 ≤ p ∧ p ≤ 2147483647) (bm : -2147483648 ≤ m ∧ m ≤ 2147483647) (bk : -2147483648 ≤ k ∧ k ≤ 2147483647) : ∃ r, runX dl 141 [va_rf (some 64), .int v1, .int v2, .int v3] Mc = some (.int r, Mc) ∧ runX d 258 [va_rf (some 160), .int v1, .int v2, .int v3] Mr = some (.int r, Mr) := by
  obtain ⟨dl, rfl⟩ : ∃ e, dl = e + 1 := ⟨dl - 1, by omega⟩
  obtain ⟨d, rfl⟩ : ∃ e, d = e + 1 := ⟨d - 1, by omega⟩
  subst hv1; subst hv2; subst hv3
  have cM := hC.1.1.1
  have rM := hR.1.1.1
  have l16 : (16 : Int32) = iI 16 := rfl
  have n10 : ¬ iI 1 = (0 : Int32) := by decide
  obtain ⟨e1, -⟩ := pk_two (dl := dl) (d := d) (p := p) (by omega) (by omega) hP hC hR bp
  obtain ⟨e2, e3⟩ := ck_two (dl := dl) (d := d) (p := p) (k := m) (by omega) (by omega) hP hC hR bp bm
  have q := r_in (d := d) (M := Mr) (i := k) (k := 0) (m := 3) (by omega) bk (by omega) (by omega)
  rw [← li_0, show iI 3 = (3 : Int32) from rfl] at q
  have eC : runX (dl + 1) 141 [va_rf (some 64), .int (iI p), .int (iI m), .int (iI k)] Mc = c141 (runX dl) (some 64) (iI p) (iI m) (iI k) Mc := by
    rw [r141]; unfold b141; rw [aR_e, aI_e, aI_e, aI_e, aZ_e]
  have eR : runX (d + 1) 258 [va_rf (some 160), .int (iI p), .int (iI m), .int (iI k)] Mr = c258 (runX d) (some 160) (iI p) (iI m) (iI k) Mr := by
    rw [r258]; unfold b258; rw [aR_e, aI_e, aI_e, aI_e, aZ_e]
  rw [eC, eR]
  by_cases hc : (0 ≤ p ∧ p < oN o) ∧ 0 ≤ m ∧ m < (gR (oP o p)).1 3 0 0
  · obtain ⟨hp, hm⟩ := id hc
    rw [if_pos hp] at e1 e2
    rw [if_pos hc] at e2 e3
    obtain ⟨⟨⟨o1, o2, o3⟩, o4, o6, o9, o10, o11, o12⟩, hPA, -, hLs, hTT, -⟩ := hC.1.2.1 p hp.1 hp.2
    have hg := hP.2.2.1 p hp.1 hp.2
    have nb := hg.1.n3
    have p8 := hP.1
    by_cases hk : 0 ≤ k ∧ k ≤ 3
    · rw [if_pos hk] at q
      rcases hB hp.1 hp.2 with ⟨b1, b2⟩ | ⟨⟨b1, b2⟩, ⟨T, b3⟩, -⟩
      · refine ⟨-2, ?_, ?_⟩
        · unfold c141
          rw [vC_e (ck_64 cM), cP_e e1, cP_e e2, jn_v, if_neg (show ¬ some (hEC (gH (oP o p)) 3 m) = none by simp), if_neg (show ¬ iI k < 0 from lsI_n (y := 0) rfl li_0 (by omega)), if_pos (show iI k < (4 : Int32) from lsI_p (y := 4) rfl rfl (by omega)), gtI_q o1 b1, jn_v, if_pos (show iI 0 = 0 from rfl), jv_e]
        · unfold c258
          rw [vC_e (rk_160 rM), cI_e e3, jn_v, if_neg n10, cI_e q, if_neg n10, gtP_q (rk_160 rM) (rf_104 rM), alX_q (n := 8) (z := p) (rk_221 rM) rfl (by omega) b2, if_pos (show iI 0 = 0 from rfl)]
      · have tl := b3 m hm.1 hm.2
        have hk2 : k = 0 ∨ k = 1 ∨ k = 2 ∨ k = 3 := by omega
        have m16 : m < 16 := by omega
        refine ⟨T k.toNat m, ?_, ?_⟩
        · unfold c141
          rw [vC_e (ck_64 cM), cP_e e1, cP_e e2, jn_v, if_neg (show ¬ some (hEC (gH (oP o p)) 3 m) = none by simp), if_neg (show ¬ iI k < 0 from lsI_n (y := 0) rfl li_0 (by omega)), if_pos (show iI k < (4 : Int32) from lsI_p (y := 4) rfl rfl (by omega)), gtI_q o1 b1, jn_v, if_neg n10, gtP_q o1 o11, alP_q (z := k) hPA.2.2.2.2.1.1 rfl (by omega) (hPA.2.2.2.2.1.2 k.toNat (by omega)).1, alI_q (z := m) (hPA.2.2.2.2.1.2 k.toNat (by omega)).2 rfl (by omega) (tl k.toNat (by omega)).1, jv_e]
        · unfold c258
          rw [vC_e (rk_160 rM), cI_e e3, jn_v, if_neg n10, cI_e q, if_neg n10, gtP_q (rk_160 rM) (rf_104 rM), alX_q (n := 8) (z := p) (rk_221 rM) rfl (by omega) b2, if_neg n10, ltI_q (z := 16 * p + m) (adI (mlI l16 rfl) rfl), jn_v]
          rcases hk2 with rfl | rfl | rfl | rfl
          · rw [if_pos (show iI 0 = (0 : Int32) from rfl), gtP_q (rk_160 rM) (rf_105 rM), alI_q (n := 128) (z := 16 * p + m) (rk_222 rM) rfl (by omega) (tl 0 (by decide)).2, jv_e]
            rfl
          · rw [if_neg (show ¬ iI 1 = (0 : Int32) by decide), if_pos (show iI 1 = (1 : Int32) from rfl), gtP_q (rk_160 rM) (rf_106 rM), alI_q (n := 128) (z := 16 * p + m) (rk_223 rM) rfl (by omega) (tl 1 (by decide)).2, jv_e]
            rfl
          · rw [if_neg (show ¬ iI 2 = (0 : Int32) by decide), if_neg (show ¬ iI 2 = (1 : Int32) by decide), if_pos (show iI 2 = (2 : Int32) from rfl), gtP_q (rk_160 rM) (rf_107 rM), alI_q (n := 128) (z := 16 * p + m) (rk_224 rM) rfl (by omega) (tl 2 (by decide)).2, jv_e]
            rfl
          · rw [if_neg (show ¬ iI 3 = (0 : Int32) by decide), if_neg (show ¬ iI 3 = (1 : Int32) by decide), if_neg (show ¬ iI 3 = (2 : Int32) by decide), gtP_q (rk_160 rM) (rf_108 rM), alI_q (n := 128) (z := 16 * p + m) (rk_225 rM) rfl (by omega) (tl 3 (by decide)).2, jv_e]
            rfl
    · refine ⟨-1, ?_, ?_⟩
      · unfold c141
        rw [vC_e (ck_64 cM), cP_e e1, cP_e e2, jn_v, if_neg (show ¬ some (hEC (gH (oP o p)) 3 m) = none by simp)]
        by_cases k0 : k < 0
        · rw [if_pos (show iI k < 0 from lsI_p (y := 0) rfl li_0 (by omega)), jv_e]
        · rw [if_neg (show ¬ iI k < 0 from lsI_n (y := 0) rfl li_0 (by omega)), if_neg (show ¬ iI k < (4 : Int32) from lsI_n (y := 4) rfl rfl (by omega)), jv_e]
      · unfold c258
        rw [vC_e (rk_160 rM), cI_e e3, jn_v, if_neg n10, cI_e q, if_neg hk, if_pos (show iI 0 = 0 from rfl), jv_e]
  · rw [if_neg hc] at e2 e3
    refine ⟨-1, ?_, ?_⟩
    · unfold c141
      rw [vC_e (ck_64 cM), cP_e e1, cP_e e2, jn_v, if_pos rfl, jv_e]
    · unfold c258
      rw [vC_e (rk_160 rM), cI_e e3, jn_v, if_pos (show iI 0 = 0 from rfl), jv_e]
theorem cover_pair (hdl : 6 ≤ dl) (hd : 4 ≤ d) (hP : hoP o) (hC : HC LL xs o ow sl Mc) (hR : HR o sl Mr) (hB : 0 ≤ p → p < oN o → rsB o p Mc Mr) (hv1 : v1 = iI p) (hv2 : v2 = iI m) (hv3 : v3 = iI k) (bp : -2147483648 ≤ p ∧ p ≤ 2147483647) (bm : -2147483648 ≤ m ∧ m ≤ 2147483647) (bk : -2147483648 ≤ k ∧ k ≤ 2147483647) : ∃ r, runX dl 142 [va_rf (some 64), .int v1, .int v2, .int v3] Mc = some (.int r, Mc) ∧ runX d 259 [va_rf (some 160), .int v1, .int v2, .int v3] Mr = some (.int r, Mr) := by
  obtain ⟨dl, rfl⟩ : ∃ e, dl = e + 1 := ⟨dl - 1, by omega⟩
  obtain ⟨d, rfl⟩ : ∃ e, d = e + 1 := ⟨d - 1, by omega⟩
  subst hv1; subst hv2; subst hv3
  have cM := hC.1.1.1
  have rM := hR.1.1.1
  have l1000 : (1000 : Int32) = iI 1000 := rfl
  have n10 : ¬ iI 1 = (0 : Int32) := by decide
  obtain ⟨e1, e2⟩ := pk_two (dl := dl) (d := d) (p := p) (by omega) (by omega) hP hC hR bp
  have q := r_in (d := d) (M := Mr) (i := k) (k := 0) (m := 1) (by omega) bk (by omega) (by omega)
  rw [← li_0, ← li_1] at q
  have eC : runX (dl + 1) 142 [va_rf (some 64), .int (iI p), .int (iI m), .int (iI k)] Mc = c142 (runX dl) (some 64) (iI p) (iI m) (iI k) Mc := by
    rw [r142]; unfold b142; rw [aR_e, aI_e, aI_e, aI_e, aZ_e]
  have eR : runX (d + 1) 259 [va_rf (some 160), .int (iI p), .int (iI m), .int (iI k)] Mr = c259 (runX d) (some 160) (iI p) (iI m) (iI k) Mr := by
    rw [r259]; unfold b259; rw [aR_e, aI_e, aI_e, aI_e, aZ_e]
  rw [eC, eR]
  by_cases hp : 0 ≤ p ∧ p < oN o
  · rw [if_pos hp] at e1 e2
    obtain ⟨⟨⟨o1, o2, o3⟩, o4, o6, o9, o10, o11, o12⟩, hPA, -, hLs, hTT, -⟩ := hC.1.2.1 p hp.1 hp.2
    have hg := hP.2.2.1 p hp.1 hp.2
    have nE := hg.1.2.1
    obtain ⟨rr, rk⟩ := hR.1.2.1 p hp.1 hp.2
    have p8 := hP.1
    have q2 := r_in (d := d) (M := Mr) (i := m) (k := 0) (m := gE (oP o p) - 1) (by omega) bm (by omega) (by omega)
    rw [← li_0] at q2
    have e188 := rk.1.1
    by_cases hv : (0 ≤ m ∧ m < gE (oP o p)) ∧ 0 ≤ k ∧ k ≤ 1
    · obtain ⟨hm, hk⟩ := hv
      rw [if_pos hk] at q
      rw [if_pos (show 0 ≤ m ∧ m ≤ gE (oP o p) - 1 by omega)] at q2
      have k2 : k = 0 ∨ k = 1 := by omega
      have pre : ∀ (X : XA), (gtI (6, 18) Mc (some (gX (oP o p))) 13 fun x5 => jn (fun (s6 : Int32) => some (.int s6, Mc)) fun j66 => if x5 = 0 then ( j66 ((-2 : Int32))) else ( gtP (6, 18) Mc (some (gX (oP o p))) 12 fun x7 => jn (fun (s8 : Int32) => alP 113 Mc x7 s8 fun x9 => alI 100 Mc x9 (iI m) fun x10 => j66 x10) fun j58 => if iI k = 0 then ( j58 ((0 : Int32))) else ( j58 ((1 : Int32))))) = X → c142 (runX dl) (some 64) (iI p) (iI m) (iI k) Mc = X := fun X e => by
        rw [← e]
        unfold c142
        rw [vC_e (ck_64 cM), cP_e e1, jn_v, if_neg (show ¬ some (gX (oP o p)) = none by simp), if_neg (show ¬ iI m < 0 from lsI_n (y := 0) rfl li_0 (by omega)), gtI_q o1 o3, if_neg (show ¬ iI (gE (oP o p)) ≤ iI m from leI_n rfl rfl (by omega)), if_neg (show ¬ iI k < 0 from lsI_n (y := 0) rfl li_0 (by omega)), if_pos (show iI k ≤ (1 : Int32) from leI_p (y := 1) rfl li_1 (by omega))]
      have preR : ∀ (X : XA), (gtP (13, 157) Mr (some 160) 104 fun x10 => alX 102 Mr x10 (iI p) fun x11 => jn (fun (s12 : Int32) => some (.int s12, Mr)) fun j80 => if x11 = 0 then ( j80 ((-2 : Int32))) else ( if iI k = 0 then ( gtP (13, 157) Mr (some 160) 94 fun x13 => alI 100 Mr x13 ((((1000 : Int32)) * iI p) + iI m) fun x14 => j80 x14) else ( gtP (13, 157) Mr (some 160) 95 fun x15 => alI 100 Mr x15 ((((1000 : Int32)) * iI p) + iI m) fun x16 => j80 x16))) = X → c259 (runX d) (some 160) (iI p) (iI m) (iI k) Mr = X := fun X e => by
        rw [← e]
        unfold c259
        rw [vC_e (rk_160 rM), cI_e e2, jn_v, if_neg n10, gtP_q (rk_160 rM) (rf_29 rM), alI_q (n := 8) (z := p) (rk_188 rM) rfl (by omega) e188, show iI (gE (oP o p)) - (1 : Int32) = iI (gE (oP o p) - 1) from sbI rfl li_1, cI_e q2, if_neg n10, cI_e q, if_neg n10]
      rcases hB hp.1 hp.2 with ⟨b1, b2⟩ | ⟨⟨b1, b2⟩, -, s, b4⟩
      · refine ⟨-2, pre _ ?_, preR _ ?_⟩
        · rw [gtI_q o1 b1, jn_v, if_pos (show iI 0 = 0 from rfl), jv_e]
        · rw [gtP_q (rk_160 rM) (rf_104 rM), alX_q (n := 8) (z := p) (rk_221 rM) rfl (by omega) b2, jn_v, if_pos (show iI 0 = 0 from rfl), jv_e]
      · obtain ⟨⟨c1, c2⟩, c3, c4⟩ := b4 m hm.1 hm.2
        refine ⟨if k = 0 then s.2 7 m 0 else s.2 8 m 0, pre _ ?_, preR _ ?_⟩
        · rw [gtI_q o1 b1, jn_v, if_neg n10, gtP_q o1 o12, jn_v]
          rcases k2 with z | z
          · rw [if_pos z, if_pos (show iI k = 0 by rw [z]; rfl), jv_e, alP_q (c := (0 : Int32)) (z := 0) hPA.2.2.2.2.2.1 rfl (by decide) (hPA.2.2.2.2.2.2 0 (by decide)).1, alI_q (z := m) (hPA.2.2.2.2.2.2 0 (by decide)).2 rfl (by omega) c1, jv_e]
          · rw [if_neg (show ¬ k = 0 by omega), if_neg (show ¬ iI k = 0 by rw [z]; decide), jv_e, alP_q (c := (1 : Int32)) (z := 1) hPA.2.2.2.2.2.1 rfl (by decide) (hPA.2.2.2.2.2.2 1 (by decide)).1, alI_q (z := m) (hPA.2.2.2.2.2.2 1 (by decide)).2 rfl (by omega) c2, jv_e]
        · rw [gtP_q (rk_160 rM) (rf_104 rM), alX_q (n := 8) (z := p) (rk_221 rM) rfl (by omega) b2, jn_v, if_neg n10]
          rcases k2 with z | z
          · rw [if_pos z, if_pos (show iI k = 0 by rw [z]; rfl), gtP_q (rk_160 rM) (rf_94 rM), alI_q (n := 8000) (z := 1000 * p + m) (rk_216 rM) (adI (mlI l1000 rfl) rfl) (by omega) c3, jv_e]
          · rw [if_neg (show ¬ k = 0 by omega), if_neg (show ¬ iI k = 0 by rw [z]; decide), gtP_q (rk_160 rM) (rf_95 rM), alI_q (n := 8000) (z := 1000 * p + m) (rk_217 rM) (adI (mlI l1000 rfl) rfl) (by omega) c4, jv_e]
    · refine ⟨-1, ?_, ?_⟩
      · unfold c142
        rw [vC_e (ck_64 cM), cP_e e1, jn_v, if_neg (show ¬ some (gX (oP o p)) = none by simp)]
        by_cases m0 : m < 0
        · rw [if_pos (show iI m < 0 from lsI_p (y := 0) rfl li_0 (by omega)), jv_e]
        rw [if_neg (show ¬ iI m < 0 from lsI_n (y := 0) rfl li_0 (by omega)), gtI_q o1 o3]
        by_cases m1 : gE (oP o p) ≤ m
        · rw [if_pos (show iI (gE (oP o p)) ≤ iI m from leI_p rfl rfl (by omega)), jv_e]
        rw [if_neg (show ¬ iI (gE (oP o p)) ≤ iI m from leI_n rfl rfl (by omega))]
        by_cases k0 : k < 0
        · rw [if_pos (show iI k < 0 from lsI_p (y := 0) rfl li_0 (by omega)), jv_e]
        rw [if_neg (show ¬ iI k < 0 from lsI_n (y := 0) rfl li_0 (by omega)), if_neg (show ¬ iI k ≤ (1 : Int32) from leI_n (y := 1) rfl li_1 (by omega)), jv_e]
      · unfold c259
        rw [vC_e (rk_160 rM), cI_e e2, jn_v, if_neg n10, gtP_q (rk_160 rM) (rf_29 rM), alI_q (n := 8) (z := p) (rk_188 rM) rfl (by omega) e188, show iI (gE (oP o p)) - (1 : Int32) = iI (gE (oP o p) - 1) from sbI rfl li_1, cI_e q2]
        by_cases m0 : 0 ≤ m ∧ m ≤ gE (oP o p) - 1
        · rw [if_pos m0, if_neg n10, cI_e q, if_neg (show ¬ (0 ≤ k ∧ k ≤ 1) by omega), if_pos (show iI 0 = 0 from rfl), jv_e]
        · rw [if_neg m0, if_pos (show iI 0 = 0 from rfl), jv_e]
  · rw [if_neg hp] at e1 e2
    refine ⟨-1, ?_, ?_⟩
    · unfold c142
      rw [vC_e (ck_64 cM), cP_e e1, jn_v, if_pos rfl, jv_e]
    · unfold c259
      rw [vC_e (rk_160 rM), cI_e e2, jn_v, if_pos (show iI 0 = 0 from rfl), jv_e]
theorem told_pair (hdl : 1 ≤ dl) (hd : 2 ≤ d) (cM : CT Mc) (rM : RT Mr) (hB : tdB Mc Mr) (hv1 : v1 = iI k) (bk : -2147483648 ≤ k ∧ k ≤ 2147483647) : ∃ r, runX dl 144 [va_rf (some 64), .int v1] Mc = some (.int r, Mc) ∧ runX d 262 [va_rf (some 160), .int v1] Mr = some (.int r, Mr) := by
  obtain ⟨dl, rfl⟩ : ∃ e, dl = e + 1 := ⟨dl - 1, by omega⟩
  obtain ⟨d, rfl⟩ : ∃ e, d = e + 1 := ⟨d - 1, by omega⟩
  subst hv1
  have n10 : ¬ iI 1 = (0 : Int32) := by decide
  have q := r_in (d := d) (M := Mr) (i := k) (k := 0) (m := 3) (by omega) bk (by omega) (by omega)
  rw [← li_0, show iI 3 = (3 : Int32) from rfl] at q
  have eC : runX (dl + 1) 144 [va_rf (some 64), .int (iI k)] Mc = c144 (runX dl) (some 64) (iI k) Mc := by
    rw [r144]; unfold b144; rw [aR_e, aI_e, aZ_e]
  have eR : runX (d + 1) 262 [va_rf (some 160), .int (iI k)] Mr = c262 (runX d) (some 160) (iI k) Mr := by
    rw [r262]; unfold b262; rw [aR_e, aI_e, aZ_e]
  rw [eC, eR]
  obtain ⟨b1, b2, b3⟩ := hB
  rcases b2 with z | z
  · refine ⟨-1, ?_, ?_⟩
    · unfold c144
      rw [gtI_q (ck_64 cM) z, jn_v, if_pos (show iI 0 = 0 from rfl), jv_e]
    · unfold c262
      rw [gtI_q (rk_160 rM) (b1.symm.trans z), jn_v, jn_v, if_pos (show iI 0 = 0 from rfl), jv_e, jv_e]
  · obtain ⟨t1, t2, t3, t4⟩ := b3 z
    by_cases hk : 0 ≤ k ∧ k ≤ 3
    · rw [if_pos hk] at q
      have hk2 : k = 0 ∨ k = 1 ∨ k = 2 ∨ k = 3 := by omega
      refine ⟨Mr.1 226 k.toNat, ?_, ?_⟩
      · unfold c144
        rw [gtI_q (ck_64 cM) z, jn_v, if_neg n10, if_neg (show ¬ iI k < 0 from lsI_n (y := 0) rfl li_0 (by omega)), if_pos (show iI k ≤ (3 : Int32) from leI_p (y := 3) rfl rfl (by omega))]
        rcases hk2 with rfl | rfl | rfl | rfl
        · rw [swI_p (show iI 0 = (0 : Int32) from rfl), gtP_q (ck_64 cM) (cf_64_6 cM), gtI_q (ck_142 cM) t1]
          rfl
        · rw [swI_q (show ¬ iI 1 = (0 : Int32) by decide), swI_p (show iI 1 = (1 : Int32) from rfl), gtP_q (ck_64 cM) (cf_64_6 cM), gtI_q (ck_142 cM) t2]
          rfl
        · rw [swI_q (show ¬ iI 2 = (0 : Int32) by decide), swI_q (show ¬ iI 2 = (1 : Int32) by decide), swI_p (show iI 2 = (2 : Int32) from rfl), gtP_q (ck_64 cM) (cf_64_6 cM), gtI_q (ck_142 cM) t3]
          rfl
        · rw [swI_q (show ¬ iI 3 = (0 : Int32) by decide), swI_q (show ¬ iI 3 = (1 : Int32) by decide), swI_q (show ¬ iI 3 = (2 : Int32) by decide), swI_n, gtP_q (ck_64 cM) (cf_64_6 cM), gtI_q (ck_142 cM) t4]
          rfl
      · unfold c262
        rw [gtI_q (rk_160 rM) (b1.symm.trans z), jn_v, jn_v, if_neg n10, cI_e q, if_neg n10, gtP_q (rk_160 rM) (rf_110 rM), alI_q (n := 4) (z := k) (rk_226 rM) rfl (by omega) rfl, jv_e]
    · rw [if_neg hk] at q
      refine ⟨-1, ?_, ?_⟩
      · unfold c144
        rw [gtI_q (ck_64 cM) z, jn_v, if_neg n10]
        by_cases k0 : k < 0
        · rw [if_pos (show iI k < 0 from lsI_p (y := 0) rfl li_0 (by omega)), jv_e]
        · rw [if_neg (show ¬ iI k < 0 from lsI_n (y := 0) rfl li_0 (by omega)), if_neg (show ¬ iI k ≤ (3 : Int32) from leI_n (y := 3) rfl rfl (by omega)), jv_e]
      · unfold c262
        rw [gtI_q (rk_160 rM) (b1.symm.trans z), jn_v, jn_v, if_neg n10, cI_e q, if_pos (show iI 0 = 0 from rfl), jv_e, jv_e]
theorem mutant_pair (hdl : 6 ≤ dl) (hd : 4 ≤ d) (hP : hoP o) (hC : HC LL xs o ow sl Mc) (hR : HR o sl Mr) (hkb : 0 ≤ p → p < oN o → klC o p wk sw km Mc ∧ klR o p wk km Mr) (hv1 : v1 = iI p) (hv2 : v2 = iI m) (hv3 : v3 = iI k) (bp : -2147483648 ≤ p ∧ p ≤ 2147483647) (bm : -2147483648 ≤ m ∧ m ≤ 2147483647) (bk : -2147483648 ≤ k ∧ k ≤ 2147483647) : ∃ r, runX dl 149 [va_rf (some 64), .int v1, .int v2, .int v3] Mc = some (.int r, Mc) ∧ runX d 281 [va_rf (some 160), .int v1, .int v2, .int v3] Mr = some (.int r, Mr) := by
  obtain ⟨dl, rfl⟩ : ∃ e, dl = e + 1 := ⟨dl - 1, by omega⟩
  obtain ⟨d, rfl⟩ : ∃ e, d = e + 1 := ⟨d - 1, by omega⟩
  subst hv1; subst hv2; subst hv3
  have cM := hC.1.1.1
  have rM := hR.1.1.1
  have l1000 : (1000 : Int32) = iI 1000 := rfl
  have n10 : ¬ iI 1 = (0 : Int32) := by decide
  obtain ⟨e1, e2⟩ := pk_two (dl := dl) (d := d) (p := p) (by omega) (by omega) hP hC hR bp
  have q := r_in (d := d) (M := Mr) (i := k) (k := 0) (m := 2) (by omega) bk (by omega) (by omega)
  rw [← li_0, show iI 2 = (2 : Int32) from rfl] at q
  have eC : runX (dl + 1) 149 [va_rf (some 64), .int (iI p), .int (iI m), .int (iI k)] Mc = c149 (runX dl) (some 64) (iI p) (iI m) (iI k) Mc := by
    rw [r149]; unfold b149; rw [aR_e, aI_e, aI_e, aI_e, aZ_e]
  have eR : runX (d + 1) 281 [va_rf (some 160), .int (iI p), .int (iI m), .int (iI k)] Mr = c281 (runX d) (some 160) (iI p) (iI m) (iI k) Mr := by
    rw [r281]; unfold b281; rw [aR_e, aI_e, aI_e, aI_e, aZ_e]
  rw [eC, eR]
  by_cases hp : 0 ≤ p ∧ p < oN o
  · rw [if_pos hp] at e1 e2
    obtain ⟨⟨⟨o1, o2, o3⟩, o4, ⟨o6, -⟩, o9, o10, o11, o12⟩, hPA, ⟨k6, k16, k17⟩, hLs, hTT, -⟩ := hC.1.2.1 p hp.1 hp.2
    have hg := hP.2.2.1 p hp.1 hp.2
    have nE := hg.1.2.1
    obtain ⟨rr, rk⟩ := hR.1.2.1 p hp.1 hp.2
    have p8 := hP.1
    have g0 := gmc_0 (oP o p)
    have g1 := (mcn_b (gG (oP o p)) (gE (oP o p)).toNat).2
    have egm : gmc (oP o p) = mcn (gG (oP o p)) (gE (oP o p)).toNat := rfl
    have tn : (((gmc (oP o p)).toNat : Nat) : Int) = gmc (oP o p) := Int.toNat_of_nonneg g0
    have q2 := r_in (d := d) (M := Mr) (i := m) (k := 0) (m := gmc (oP o p) - 1) (by omega) bm (by omega) (by omega)
    rw [← li_0] at q2
    have e192 := rk.1.2
    obtain ⟨⟨⟨kc1, kc2, kc3, kc4, kc5⟩, kc6⟩, kr1, kr2⟩ := hkb hp.1 hp.2
    by_cases hv : (0 ≤ m ∧ m < gmc (oP o p)) ∧ 0 ≤ k ∧ k ≤ 2
    · obtain ⟨hm, hk⟩ := hv
      rw [if_pos hk] at q
      rw [if_pos (show 0 ≤ m ∧ m ≤ gmc (oP o p) - 1 by omega)] at q2
      obtain ⟨mt, hmt⟩ : ∃ mt, mt = gmt (oP o p) m := ⟨_, rfl⟩
      obtain ⟨m1, m2, m3, m4⟩ := mtf_b (gG (oP o p)) (gE (oP o p)).toNat m hm.1 (by omega)
      rw [show mtf (gG (oP o p)) (gE (oP o p)).toNat m = mt from hmt.symm] at m1 m2 m3 m4
      have c5 : Mc.1 (gX (oP o p) + 5) m.toNat = iI mt := (hPA.2.2.2.1.2 m.toNat (by omega)).trans (by dsimp only; rw [show ((m.toNat : Nat) : Int) = m by omega, hmt])
      have r5 : Mr.1 193 (1000 * p + m).toNat = iI mt := by rw [hmt]; exact rk.2.2 m hm.1 hm.2
      obtain ⟨⟨g1, g1'⟩, -⟩ := hg.1.2.2.1 mt m1 (by omega)
      have c1 : Mc.1 (gX (oP o p) + 1) mt.toNat = iI ((gG (oP o p)) 0 mt) := (hPA.1.2 mt.toNat (by omega)).trans (by dsimp only; rw [show ((mt.toNat : Nat) : Int) = mt by omega])
      obtain ⟨r1, -, -⟩ := rk.2.1 mt m1 (by omega)
      have i1 := ins1 hC.1.1.2.1 (z := (gG (oP o p)) 0 mt) ⟨g1, g1'⟩
      rw [if_neg m4] at i1
      have a1 := a233 (d := d) (M := Mr) (v := iI ((gG (oP o p)) 0 mt)) (z := (gG (oP o p)) 0 mt) (by omega) rfl ⟨g1, g1'⟩
      have k2 : k = 0 ∨ k = 1 ∨ k = 2 := by omega
      have pre : ∀ (X : XA), (if iI k = ((2 : Int32)) then ( gtI (6, 18) Mc (some (gX (oP o p))) 16 fun x6 => jn (fun (s7 : Int32 × Mem) => some (.int s7.1, s7.2)) fun j65 => if x6 = 0 then ( j65 ((-2 : Int32), Mc)) else ( gtP (6, 18) Mc (some (gX (oP o p))) 14 fun x8 => alI 100 Mc x8 (iI m) fun x9 => cI (runX dl 315 [.int x9] Mc) fun x11 M10 => j65 (x11, M10))) else ( gtP (6, 18) Mc (some (gX (oP o p))) 9 fun x12 => alI 100 Mc x12 (iI m) fun x13 => jn (fun (s14 : Int32) => some (.int s14, Mc)) fun j96 => if iI k = 0 then ( j96 x13) else ( gtP (6, 18) Mc (some (gX (oP o p))) 6 fun x15 => alI 100 Mc x15 x13 fun x16 => alI 100 Mc ((some 1)) x16 fun x17 => j96 x17))) = X → c149 (runX dl) (some 64) (iI p) (iI m) (iI k) Mc = X := fun X e => by
        rw [← e]
        unfold c149
        rw [vC_e (ck_64 cM), cP_e e1, jn_v, if_neg (show ¬ some (gX (oP o p)) = none by simp), if_neg (show ¬ iI m < 0 from lsI_n (y := 0) rfl li_0 (by omega)), gtP_q o1 o9, aln_q' hPA.2.2.2.1.1, tn, if_neg (show ¬ iI (gmc (oP o p)) ≤ iI m from leI_n rfl rfl (by omega)), if_neg (show ¬ iI k < 0 from lsI_n (y := 0) rfl li_0 (by omega)), if_pos (show iI k ≤ (2 : Int32) from leI_p (y := 2) rfl rfl (by omega))]
      have preR : ∀ (X : XA), (jn (fun (s12 : Int32 × Mem) => some (.int s12.1, s12.2)) fun j111 => if iI k = 0 then ( j111 (iI mt, Mr)) else ( if iI k = ((1 : Int32)) then ( gtP (13, 157) Mr (some 160) 30 fun x13 => alI 101 Mr x13 ((((1000 : Int32)) * iI p) + iI mt) fun x14 => cI (runX d 233 [.int x14] Mr) fun x16 M15 => j111 (x16, M15)) else ( gtP (13, 157) Mr (some 160) 123 fun x17 => alX 102 Mr x17 (iI p) fun x18 => if x18 = 0 then ( j111 ((-2 : Int32), Mr)) else ( gtP (13, 157) Mr (some 160) 124 fun x19 => alI 100 Mr x19 ((((1000 : Int32)) * iI p) + iI m) fun x20 => cI (runX d 315 [.int x20] Mr) fun x22 M21 => j111 (x22, M21))))) = X → c281 (runX d) (some 160) (iI p) (iI m) (iI k) Mr = X := fun X e => by
        rw [← e]
        unfold c281
        rw [vC_e (rk_160 rM), cI_e e2, jn_v, if_neg n10, gtP_q (rk_160 rM) (rf_33 rM), alI_q (n := 8) (z := p) (rk_192 rM) rfl (by omega) e192, show iI (gmc (oP o p)) - (1 : Int32) = iI (gmc (oP o p) - 1) from sbI rfl li_1, cI_e q2, if_neg n10, cI_e q, if_neg n10, gtP_q (rk_160 rM) (rf_34 rM), alX_q (n := 8000) (z := 1000 * p + m) (rk_193 rM) (adI (mlI l1000 rfl) rfl) (by omega) r5]
      rcases k2 with z | z | z
      · refine ⟨iI mt, pre _ ?_, preR _ ?_⟩
        · rw [if_neg (show ¬ iI k = (2 : Int32) by rw [z]; decide), gtP_q o1 o9, alI_q (z := m) hPA.2.2.2.1.1 rfl (by omega) c5, jn_v, if_pos (show iI k = 0 by rw [z]; rfl), jv_e]
        · rw [jn_v, if_pos (show iI k = 0 by rw [z]; rfl), jv_e]
      · refine ⟨iI (iw ((gG (oP o p)) 0 mt)), pre _ ?_, preR _ ?_⟩
        · rw [if_neg (show ¬ iI k = (2 : Int32) by rw [z]; decide), gtP_q o1 o9, alI_q (z := m) hPA.2.2.2.1.1 rfl (by omega) c5, jn_v, if_neg (show ¬ iI k = 0 by rw [z]; decide), gtP_q o1 o6, alI_q (z := mt) hPA.1.1 rfl (by omega) c1, alO_q (n := 30) (z := (gG (oP o p)) 0 mt) (hC.1.1.2.1.1 1 (by decide)) rfl (by omega) i1, jv_e]
        · rw [jn_v, if_neg (show ¬ iI k = 0 by rw [z]; decide), if_pos (show iI k = (1 : Int32) by rw [z]; rfl), gtP_q (rk_160 rM) (rf_30 rM), alI_q (n := 8000) (z := 1000 * p + mt) (rk_189 rM) (adI (mlI l1000 rfl) rfl) (by omega) r1, cI_e a1, jv_e]
      · have nk0 : ¬ iI k = 0 := by rw [z]; decide
        have nk1 : ¬ iI k = (1 : Int32) := by rw [z]; decide
        rcases kc2 with w0 | w1
        · refine ⟨-2, pre _ ?_, preR _ ?_⟩
          · rw [if_pos (show iI k = (2 : Int32) by rw [z]; rfl), gtI_q o1 kc1, jn_v, if_pos (show iI wk = 0 by rw [w0]; rfl), jv_e]
          · rw [jn_v, if_neg nk0, if_neg nk1, gtP_q (rk_160 rM) (rf_123 rM), alX_q (n := 8) (z := p) (rk_238 rM) rfl (by omega) kr1, if_pos (show iI wk = 0 by rw [w0]; rfl), jv_e]
        · obtain ⟨y1, y2⟩ := (kc6 w1).1 m hm.1 hm.2
          obtain ⟨y3, -⟩ := (kr2 w1).1 m hm.1 hm.2
          have nw : ¬ iI wk = 0 := by rw [w1]; decide
          have kk : Mc.2.2.2[gX (oP o p) + 16 + sw]? = some (100, (gmc (oP o p)).toNat) := by
            have s2 : sw = 0 ∨ sw = 1 := by omega
            rcases s2 with s | s <;> rw [s]
            · exact k16
            · exact k17
          refine ⟨bcx (iI (km m : Int)), pre _ ?_, preR _ ?_⟩
          · rw [if_pos (show iI k = (2 : Int32) by rw [z]; rfl), gtI_q o1 kc1, jn_v, if_neg nw, gtP_q o1 kc4, alI_q (z := m) kk rfl (by omega) y1, cI_e (zr315 (by omega)), jv_e]
          · rw [jn_v, if_neg nk0, if_neg nk1, gtP_q (rk_160 rM) (rf_123 rM), alX_q (n := 8) (z := p) (rk_238 rM) rfl (by omega) kr1, if_neg nw, gtP_q (rk_160 rM) (rf_124 rM), alI_q (n := 8000) (z := 1000 * p + m) (rk_239 rM) (adI (mlI l1000 rfl) rfl) (by omega) y3, cI_e (zr315 (by omega)), jv_e]
    · refine ⟨-1, ?_, ?_⟩
      · unfold c149
        rw [vC_e (ck_64 cM), cP_e e1, jn_v, if_neg (show ¬ some (gX (oP o p)) = none by simp)]
        by_cases m0 : m < 0
        · rw [if_pos (show iI m < 0 from lsI_p (y := 0) rfl li_0 (by omega)), jv_e]
        rw [if_neg (show ¬ iI m < 0 from lsI_n (y := 0) rfl li_0 (by omega)), gtP_q o1 o9, aln_q' hPA.2.2.2.1.1, tn]
        by_cases m1 : gmc (oP o p) ≤ m
        · rw [if_pos (show iI (gmc (oP o p)) ≤ iI m from leI_p rfl rfl (by omega)), jv_e]
        rw [if_neg (show ¬ iI (gmc (oP o p)) ≤ iI m from leI_n rfl rfl (by omega))]
        by_cases k0 : k < 0
        · rw [if_pos (show iI k < 0 from lsI_p (y := 0) rfl li_0 (by omega)), jv_e]
        rw [if_neg (show ¬ iI k < 0 from lsI_n (y := 0) rfl li_0 (by omega)), if_neg (show ¬ iI k ≤ (2 : Int32) from leI_n (y := 2) rfl rfl (by omega)), jv_e]
      · unfold c281
        rw [vC_e (rk_160 rM), cI_e e2, jn_v, if_neg n10, gtP_q (rk_160 rM) (rf_33 rM), alI_q (n := 8) (z := p) (rk_192 rM) rfl (by omega) e192, show iI (gmc (oP o p)) - (1 : Int32) = iI (gmc (oP o p) - 1) from sbI rfl li_1, cI_e q2]
        by_cases m0 : 0 ≤ m ∧ m ≤ gmc (oP o p) - 1
        · rw [if_pos m0, if_neg n10, cI_e q, if_neg (show ¬ (0 ≤ k ∧ k ≤ 2) by omega), if_pos (show iI 0 = 0 from rfl), jv_e]
        · rw [if_neg m0, if_pos (show iI 0 = 0 from rfl), jv_e]
  · rw [if_neg hp] at e1 e2
    refine ⟨-1, ?_, ?_⟩
    · unfold c149
      rw [vC_e (ck_64 cM), cP_e e1, jn_v, if_pos rfl, jv_e]
    · unfold c281
      rw [vC_e (rk_160 rM), cI_e e2, jn_v, if_pos (show iI 0 = 0 from rfl), jv_e]
end S9e9
