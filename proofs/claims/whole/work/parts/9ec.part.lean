/-! DOUBLES: calls(), rule(), both -/
/-- one more RULE -/
def dbA (D : Nat → Int → Int → Int) (q m f : Int) : Nat → Int → Int → Int := fun k a b => if a = q ∧ k = 12 ∧ b = 0 then D 12 q 0 + 1 else if a = q ∧ k = 13 ∧ b = D 12 q 0 then m else if a = q ∧ k = 14 ∧ b = D 12 q 0 then f else D k a b
def dbW (W : Nat → Int → Int → Int32) (q n : Int) (x y : Int32) : Nat → Int → Int → Int32 := fun k a b => if a = q ∧ k = 1 ∧ b = n then x else if a = q ∧ k = 2 ∧ b = n then y else W k a b
section S9ec
variable {d dl : Nat} {o : HO} {M M' Mc Mr : Mem} {LL a j b c t x : Nat} {xs : Nat → Int32} {ow : Nat → Int} {p i k sl m n f w q np tm : Int} {v v1 v2 v3 v4 v5 w1 w2 : Int32} {D : Nat → Int → Int → Int} {W : Nat → Int → Int → Int32} {g : PG} {u : ZS}
theorem PkP.a4 (h : PkP g) {j : Int} (a : 0 ≤ j) (b : j < (gR g).1 2 0 0) (z : (gR g).1 2 2 j = 4) : 0 ≤ (gR g).1 2 4 j ∧ (gR g).1 2 4 j ≤ 4 := by
  have n := h.1.n2
  obtain ⟨-, -, y1, y2, y3, y4, y5, y6⟩ := h.1.1.2.2.2.1 j a (by omega)
  rcases y6 with ⟨z1, z2, b', q1, q2, q3, q4, q5, -⟩ | ⟨z1, z2⟩ <;> omega
theorem hoP.d3 (hP : hoP o) (hq : 0 ≤ q ∧ q < 8) (h0 : 0 ≤ oD o 0 q 0) : (0 ≤ oD o 1 q 0 ∧ oD o 1 q 0 < oN o) ∧ (0 ≤ oD o 2 q 0 ∧ oD o 2 q 0 < (gR (oP o (oD o 1 q 0))).1 2 0 0 ∧ oD o 2 q 0 < 96) ∧ oD o 3 q 0 = (gR (oP o (oD o 1 q 0))).1 2 4 (oD o 2 q 0) ∧ 0 ≤ oD o 3 q 0 ∧ oD o 3 q 0 ≤ 4 := by
  obtain ⟨h1, h2, h3, h4, h5, h6, -⟩ := hP.2.1 q hq.1 hq.2
  obtain ⟨t1, t2, t3, t4, -⟩ := h6 h0
  have := (hP.2.2.1 (oD o 1 q 0) (by omega) t1).a4 (j := oD o 2 q 0) (by omega) t2 t3
  rw [t4]
  exact ⟨by omega, by omega, rfl, this.1, this.2⟩
theorem rr274 (hd : 1 ≤ d) (hP : hoP o) (hR : hoR o M) (hq : 0 ≤ q ∧ q < 8) (h0 : 0 ≤ oD o 0 q 0) : runX d 274 [va_rf (some 160), .int (iI q)] M = some (.int (iI (oD o 3 q 0)), M) := by
  obtain ⟨d, rfl⟩ : ∃ e, d = e + 1 := ⟨d - 1, by omega⟩
  have rM := hR.1.1
  have l96 : (96 : Int32) = iI 96 := rfl
  obtain ⟨t1, t2, t3, t4⟩ := hP.d3 hq h0
  have p8 := hP.1
  obtain ⟨rr, -⟩ := hR.2.1 (oD o 1 q 0) t1.1 t1.2
  obtain ⟨⟨-, e1, e2, -⟩, -⟩ := hR.2.2 q hq.1 hq.2
  rw [r274]; unfold b274; rw [aR_e, aI_e, aZ_e]; unfold c274
  rw [gtP_q (rk_160 rM) (rf_15 rM), gtP_q (rk_160 rM) (rf_113 rM), alI_q (n := 8) (z := q) (rk_228 rM) rfl (by omega) e1, gtP_q (rk_160 rM) (rf_114 rM), alI_q (n := 8) (z := q) (rk_229 rM) rfl (by omega) e2, alI_q (n := 768) (z := 96 * oD o 1 q 0 + oD o 2 q 0) (rk_174 rM) (adI (mlI l96 rfl) rfl) (by omega) (rr.at (q := (174, 96, 2, 4)) (j := oD o 2 q 0) (by decide) t2.1 t2.2.2 rfl), t3]
theorem calls_pair (hdl : 2 ≤ dl) (hd : 2 ≤ d) (hP : hoP o) (hC : HC LL xs o ow sl Mc) (hR : HR o sl Mr) (hI : dbI (oD o) tm) (uC : hdC u Mc) (uR : hdR u Mr) (ub : ∀ q, 0 ≤ u.1 17 q 0 ∧ u.1 17 q 0 ≤ 100000) (hv1 : v1 = iI i) (hv2 : v2 = iI k) (hv3 : v3 = iI m) (bi : -2147483648 ≤ i ∧ i ≤ 2147483647) (bk : -2147483648 ≤ k ∧ k ≤ 2147483647) (bm : -2147483648 ≤ m ∧ m ≤ 2147483647) : ∃ r, runX dl 148 [va_rf (some 64), .int v1, .int v2, .int v3] Mc = some (.int r, Mc) ∧ runX d 280 [va_rf (some 160), .int v1, .int v2, .int v3] Mr = some (.int r, Mr) := by
  obtain ⟨dl, rfl⟩ : ∃ e, dl = e + 1 := ⟨dl - 1, by omega⟩
  obtain ⟨d, rfl⟩ : ∃ e, d = e + 1 := ⟨d - 1, by omega⟩
  subst hv1; subst hv2; subst hv3
  have cM := hC.1.1.1
  have rM := hR.1.1.1
  have l4 : (4 : Int32) = iI 4 := rfl
  have l50 : (50 : Int32) = iI 50 := rfl
  have l200 : (200 : Int32) = iI 200 := rfl
  have lm : (-1 : Int32) = iI (-1) := rfl
  have n10 : ¬ iI 1 = (0 : Int32) := by decide
  have eC : runX (dl + 1) 148 [va_rf (some 64), .int (iI i), .int (iI k), .int (iI m)] Mc = c148 (runX dl) (some 64) (iI i) (iI k) (iI m) Mc := by
    rw [r148]; unfold b148; rw [aR_e, aI_e, aI_e, aI_e, aZ_e]
  have eR : runX (d + 1) 280 [va_rf (some 160), .int (iI i), .int (iI k), .int (iI m)] Mr = c280 (runX d) (some 160) (iI i) (iI k) (iI m) Mr := by
    rw [r280]; unfold b280; rw [aR_e, aI_e, aI_e, aI_e, aZ_e]
  rcases dbl_two (dl := dl) (d := d) (by omega) (by omega) cM rM hP.2.1 hI hC.1.2.2 hR.1.2.2 bi with ⟨q, hq, hi, e1, e2⟩ | ⟨hn, e1, e2⟩
  · have k1 := (zTw_k cM hq).1
    have f1 := (zTw_k cM hq).2.1
    obtain ⟨c4, c5, c6⟩ := uC q hq.1 hq.2
    obtain ⟨r4, r5, r6⟩ := uR q hq.1 hq.2
    obtain ⟨d1, d2, d3, d4⟩ := hP.d3 hq (by omega)
    have e3 := (hC.1.2.2 q hq.1 hq.2).1.2.2.2.2 (by omega)
    have e4 := rr274 (d := d) (by omega) hP hR.1 hq (by omega)
    have q5 := r_in (d := d) (M := Mr) (i := m) (k := -1) (m := oD o 3 q 0 - 1) (by omega) bm (by omega) (by omega)
    have hb := ub q
    have preR : ∀ (X : XA), (if ((-1 : Int32)) ≤ iI k then ( if iI k = ((-1 : Int32)) then ( gtP (13, 157) Mr (some 160) 120 fun x4 => alI 100 Mr x4 (iI q) fun x5 => some (.int x5, Mr)) else ( gtP (13, 157) Mr (some 160) 120 fun x6 => alI 100 Mr x6 (iI q) fun x7 => jn (fun (s8 : Mem) => some (.int ((-1 : Int32)), s8)) fun j65 => if x7 ≤ iI k then ( j65 Mr) else ( if ((50 : Int32)) ≤ iI k then ( j65 Mr) else ( vC (13, 157) Mr (some 160) <| cI (runX d 274 [va_rf (some 160), .int (iI q)] Mr) fun x10 M9 => cI (runX d 184 [.int (iI m), .int ((-1 : Int32)), .int (x10 - ((1 : Int32)))] M9) fun x12 M11 => if x12 = 0 then ( j65 M11) else ( jn (fun (s13 : Int32) => some (.int s13, M11)) fun j103 => if 0 ≤ iI m then ( gtP (13, 157) M11 (some 160) 122 fun x14 => alI 100 M11 x14 (((((200 : Int32)) * iI q) + (((4 : Int32)) * iI k)) + iI m) fun x15 => j103 x15) else ( gtP (13, 157) M11 (some 160) 121 fun x16 => alI 100 M11 x16 ((((50 : Int32)) * iI q) + iI k) fun x17 => j103 x17)))))) else some (.int ((-1 : Int32)), Mr)) = X → runX (d + 1) 280 [va_rf (some 160), .int (iI i), .int (iI k), .int (iI m)] Mr = X := fun X e => by
      rw [← e, eR]
      unfold c280
      rw [vC_e (rk_160 rM), cI_e e2, jn_v, if_neg (show ¬ iI q < 0 from lsI_n (y := 0) rfl li_0 (by omega)), jv_e]
    have preC : ∀ (X : XA), (if iI k = ((-1 : Int32)) then ( gtI (10, 9) Mc (some (zTw q)) 4 fun x3 => some (.int x3, Mc)) else ( jn (fun (s4 : Unit) => some (.int ((-1 : Int32)), Mc)) fun j58 => if iI k < 0 then ( j58 ()) else ( if ((50 : Int32)) ≤ iI k then ( j58 ()) else ( gtI (10, 9) Mc (some (zTw q)) 4 fun x5 => if x5 ≤ iI k then ( j58 ()) else ( if iI m < ((-1 : Int32)) then ( j58 ()) else ( gtI (10, 9) Mc (some (zTw q)) 1 fun x6 => if iI m < x6 then ( jn (fun (s7 : Int32) => some (.int s7, Mc)) fun j86 => if iI m = ((-1 : Int32)) then ( gtP (10, 9) Mc (some (zTw q)) 6 fun x8 => alI 100 Mc x8 (iI k) fun x9 => j86 x9) else ( gtP (10, 9) Mc (some (zTw q)) 5 fun x10 => alI 100 Mc x10 ((iI k * ((4 : Int32))) + iI m) fun x11 => j86 x11)) else ( j58 ()))))))) = X → runX (dl + 1) 148 [va_rf (some 64), .int (iI i), .int (iI k), .int (iI m)] Mc = X := fun X e => by
      rw [← e, eC]
      unfold c148
      rw [vC_e (ck_64 cM), cP_e e1, if_neg (show ¬ some (zTw q) = none by simp)]
    by_cases hk : k = -1
    · refine ⟨iI (u.1 17 q 0), preC _ ?_, preR _ ?_⟩
      · rw [if_pos (show iI k = (-1 : Int32) by rw [hk]; rfl), gtI_q k1.1 c4]
      · rw [if_pos (show (-1 : Int32) ≤ iI k from leI_p (x := -1) rfl rfl (by omega)), if_pos (show iI k = (-1 : Int32) by rw [hk]; rfl), gtP_q (rk_160 rM) (rf_120 rM), alI_q (n := 8) (z := q) (rk_235 rM) rfl (by omega) r4]
    have nk : ¬ iI k = (-1 : Int32) := eqI_n (y := -1) rfl rfl (by omega)
    by_cases hv : (0 ≤ k ∧ k < 50 ∧ k < u.1 17 q 0) ∧ -1 ≤ m ∧ m < oD o 3 q 0
    · obtain ⟨⟨k0, k5, kh⟩, m0, m1⟩ := hv
      rw [if_pos (by omega), ← lm, show iI (oD o 3 q 0 - 1) = iI (oD o 3 q 0) - (1 : Int32) from (sbI rfl li_1).symm] at q5
      by_cases hm : m = -1
      · refine ⟨u.2 12 q k, preC _ ?_, preR _ ?_⟩
        · rw [if_neg nk, jn_v, if_neg (show ¬ iI k < 0 from lsI_n (y := 0) rfl li_0 (by omega)), if_neg (show ¬ (50 : Int32) ≤ iI k from leI_n (x := 50) rfl rfl (by omega)), gtI_q k1.1 c4, if_neg (show ¬ iI (u.1 17 q 0) ≤ iI k from leI_n rfl rfl (by omega)), if_neg (show ¬ iI m < (-1 : Int32) from lsI_n (y := -1) rfl rfl (by omega)), gtI_q k1.1 e3, if_pos (show iI m < iI (oD o 3 q 0) from lsI_p rfl rfl (by omega)), jn_v, if_pos (show iI m = (-1 : Int32) by rw [hm]; rfl), gtP_q k1.1 f1.2.2, alI_q (z := k) k1.2.2.2 rfl (by omega) (c5 k k0 k5), jv_e]
        · rw [if_pos (show (-1 : Int32) ≤ iI k from leI_p (x := -1) rfl rfl (by omega)), if_neg nk, gtP_q (rk_160 rM) (rf_120 rM), alI_q (n := 8) (z := q) (rk_235 rM) rfl (by omega) r4, jn_v, if_neg (show ¬ iI (u.1 17 q 0) ≤ iI k from leI_n rfl rfl (by omega)), if_neg (show ¬ (50 : Int32) ≤ iI k from leI_n (x := 50) rfl rfl (by omega)), vC_e (rk_160 rM), cI_e e4, cI_e q5, if_neg n10, jn_v, if_neg (show ¬ 0 ≤ iI m from leI_n (x := 0) li_0 rfl (by omega)), gtP_q (rk_160 rM) (rf_121 rM), alI_q (n := 400) (z := 50 * q + k) (rk_236 rM) (adI (mlI l50 rfl) rfl) (by omega) (r5 k k0 k5), jv_e]
      · refine ⟨u.2 13 q (4 * k + m), preC _ ?_, preR _ ?_⟩
        · rw [if_neg nk, jn_v, if_neg (show ¬ iI k < 0 from lsI_n (y := 0) rfl li_0 (by omega)), if_neg (show ¬ (50 : Int32) ≤ iI k from leI_n (x := 50) rfl rfl (by omega)), gtI_q k1.1 c4, if_neg (show ¬ iI (u.1 17 q 0) ≤ iI k from leI_n rfl rfl (by omega)), if_neg (show ¬ iI m < (-1 : Int32) from lsI_n (y := -1) rfl rfl (by omega)), gtI_q k1.1 e3, if_pos (show iI m < iI (oD o 3 q 0) from lsI_p rfl rfl (by omega)), jn_v, if_neg (show ¬ iI m = (-1 : Int32) from eqI_n (y := -1) rfl rfl (by omega)), gtP_q k1.1 f1.2.1, alI_q (z := 4 * k + m) k1.2.2.1 (cvI (adI (mlI rfl l4) rfl) (by omega)) (by omega) (c6 (4 * k + m) (by omega) (by omega)), jv_e]
        · rw [if_pos (show (-1 : Int32) ≤ iI k from leI_p (x := -1) rfl rfl (by omega)), if_neg nk, gtP_q (rk_160 rM) (rf_120 rM), alI_q (n := 8) (z := q) (rk_235 rM) rfl (by omega) r4, jn_v, if_neg (show ¬ iI (u.1 17 q 0) ≤ iI k from leI_n rfl rfl (by omega)), if_neg (show ¬ (50 : Int32) ≤ iI k from leI_n (x := 50) rfl rfl (by omega)), vC_e (rk_160 rM), cI_e e4, cI_e q5, if_neg n10, jn_v, if_pos (show 0 ≤ iI m from leI_p (x := 0) li_0 rfl (by omega)), gtP_q (rk_160 rM) (rf_122 rM), alI_q (n := 1600) (z := 200 * q + (4 * k + m)) (rk_237 rM) (cvI (adI (adI (mlI l200 rfl) (mlI l4 rfl)) rfl) (by omega)) (by omega) (r6 (4 * k + m) (by omega) (by omega)), jv_e]
    · refine ⟨-1, preC _ ?_, preR _ ?_⟩
      · rw [if_neg nk, jn_v]
        by_cases k0 : k < 0
        · rw [if_pos (show iI k < 0 from lsI_p (y := 0) rfl li_0 (by omega)), jv_e]
        rw [if_neg (show ¬ iI k < 0 from lsI_n (y := 0) rfl li_0 (by omega))]
        by_cases k5 : 50 ≤ k
        · rw [if_pos (show (50 : Int32) ≤ iI k from leI_p (x := 50) rfl rfl (by omega)), jv_e]
        rw [if_neg (show ¬ (50 : Int32) ≤ iI k from leI_n (x := 50) rfl rfl (by omega)), gtI_q k1.1 c4]
        by_cases kh : u.1 17 q 0 ≤ k
        · rw [if_pos (show iI (u.1 17 q 0) ≤ iI k from leI_p rfl rfl (by omega)), jv_e]
        rw [if_neg (show ¬ iI (u.1 17 q 0) ≤ iI k from leI_n rfl rfl (by omega))]
        by_cases m0 : m < -1
        · rw [if_pos (show iI m < (-1 : Int32) from lsI_p (y := -1) rfl rfl (by omega)), jv_e]
        rw [if_neg (show ¬ iI m < (-1 : Int32) from lsI_n (y := -1) rfl rfl (by omega)), gtI_q k1.1 e3, if_neg (show ¬ iI m < iI (oD o 3 q 0) from lsI_n rfl rfl (by omega)), jv_e]
      · by_cases k0 : k < 0
        · rw [if_neg (show ¬ (-1 : Int32) ≤ iI k from leI_n (x := -1) rfl rfl (by omega))]
        rw [if_pos (show (-1 : Int32) ≤ iI k from leI_p (x := -1) rfl rfl (by omega)), if_neg nk, gtP_q (rk_160 rM) (rf_120 rM), alI_q (n := 8) (z := q) (rk_235 rM) rfl (by omega) r4, jn_v]
        by_cases kh : u.1 17 q 0 ≤ k
        · rw [if_pos (show iI (u.1 17 q 0) ≤ iI k from leI_p rfl rfl (by omega)), jv_e]
        rw [if_neg (show ¬ iI (u.1 17 q 0) ≤ iI k from leI_n rfl rfl (by omega))]
        by_cases k5 : 50 ≤ k
        · rw [if_pos (show (50 : Int32) ≤ iI k from leI_p (x := 50) rfl rfl (by omega)), jv_e]
        rw [if_neg (by omega), ← lm, show iI (oD o 3 q 0 - 1) = iI (oD o 3 q 0) - (1 : Int32) from (sbI rfl li_1).symm] at q5
        rw [if_neg (show ¬ (50 : Int32) ≤ iI k from leI_n (x := 50) rfl rfl (by omega)), vC_e (rk_160 rM), cI_e e4, cI_e q5, if_pos (show iI 0 = 0 from rfl), jv_e]
  · refine ⟨-1, ?_, ?_⟩
    · rw [eC]
      unfold c148
      rw [vC_e (ck_64 cM), cP_e e1, if_pos rfl]
    · rw [eR]
      unfold c280
      rw [vC_e (rk_160 rM), cI_e e2, jn_v, if_pos (show iI (-1) < 0 by decide), jv_e]
end S9ec
