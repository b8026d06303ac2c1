/-! use() of the reference -/
def W_us : List (Nat × Nat) := [(160, 36), (160, 37), (160, 38), (160, 39), (160, 40), (160, 41), (160, 42), (160, 53), (202, 9999), (203, 9999), (204, 9999), (205, 9999), (207, 9999)]
def W_us2 : List (Nat × Nat) := [(160, 53), (202, 9999), (203, 9999), (204, 9999), (205, 9999), (207, 9999)]
theorem nx_q {T : Int → Int} {n m : Int} {kd pl E : Int → Int} {tx : Int → Int64} {d : Nat} {M : Mem} (hd : 4 ≤ d) (hS : TkS T n m kd pl E tx) (hR : RT M) (hT : Tp 160 1 161 T n M) (hW : ∀ i, 0 ≤ i → i < 28 → M.2.1 194 i.toNat = WR i) {i i2 : Int} (hf : M.1 160 41 = iI 0) (hp : M.1 160 38 = iI (E i)) (h2 : i2 = i + 1) (h : 0 ≤ i ∧ i < m) (h3 : kd i ≠ 0 ∧ kd i ≠ 1) : Rt (runX d 191 [va_rf (some 160)] M) (fun _ M2 => Fr W_nx M M2 ∧ M2.1 160 36 = iI (kr (kd i2)) ∧ M2.1 160 37 = iI (pl i2) ∧ M2.1 160 38 = iI (E i2) ∧ NmR M2 (kd i2) (tx i2)) := by subst h2; exact nx_ok hd hS hR hT hW hf hp h h3
theorem a201_u {d : Nat} {M : Mem} (hd : 5 ≤ d) {T : Int → Int} {n m : Int} {kd pl E : Int → Int} {tx : Int → Int64} (hS : TkS T n m kd pl E tx) (hR : RT M) (hT : Tp 160 1 161 T n M) (hW : ∀ i, 0 ≤ i → i < 28 → M.2.1 194 i.toNat = WR i) {i u ut : Int} (h36 : M.1 160 36 = iI (kr (kd i))) (h37 : M.1 160 37 = iI (pl i)) (h38 : M.1 160 38 = iI (E i)) (h41 : M.1 160 41 = iI 0) (h49 : M.1 160 49 = iI ut) (h53 : M.1 160 53 = iI u) (hn : NmR M (kd i) (tx i)) (h : 0 ≤ i ∧ i + 1 < m ∧ kd i = 3 ∧ 0 ≤ u ∧ u ≤ 1999 ∧ 0 ≤ ut ∧ ut ≤ 7 ∧ kd (i + 1) ≠ 46) : Rt (runX d 201 [va_rf (some 160)] M) (fun v M2 => ∃ (r : Int), v = .int (iI r) ∧ Fr W_us M M2 ∧ M2.1 160 53 = iI (u + 1) ∧ M2.1 160 36 = iI ((kr (kd (i + 1)))) ∧ M2.1 160 37 = iI ((pl (i + 1))) ∧ M2.1 160 38 = iI ((E (i + 1))) ∧ M2.1 160 41 = iI 0 ∧ (r = u) ∧ (UsR M M2 u (V M 201 u.toNat) (V M 200 u.toNat) (V M 203 u.toNat) (pl i) (V M 206 u.toNat) ut 0 (tx i)) ∧ (NmR M2 (kd (i + 1)) (tx (i + 1)))) := by
  obtain ⟨d, rfl⟩ : ∃ e, d = e + 1 := ⟨d - 1, by omega⟩
  rw [r201]; unfold b201; rw [aR_e, aZ_e]; unfold c201
  have hk0 := (hS.ok i (by omega) (by omega)).r
  have hm := hS.2.2.1
  have hk1 := (hS.ok (i + 1) (by omega) (by omega)).r
  refine rs1 (gtI_q (w := iI u) (rk_160 hR) (h53)) ?_
  refine rs1 (gtI_q (w := iI u) (rk_160 hR) (h53)) ?_
  refine rs1 (ptI_q (z := (u + 1)) (rk_160 hR) (adI (rfl) (li_1))) ?_
  refine rs1 (gtP_q (w := some 202) (rk_160 hR.sI) (rf_56 hR.sI)) ?_
  refine rs1 (asL_q (n := 2000) (z := u) (w := (0 : Int64)) (rk_202 hR.sI) (rfl) (by omega) (rfl)) ?_
  refine rs1 (gtP_q (w := some 204) (rk_160 hR.sI.sL) (rf_58 hR.sI.sL)) ?_
  refine rs1 (gtL_q (w := (tx i)) (rk_160 hR.sI.sL) ((sL_ne (by decide)).trans ((sI_l).trans (hn.1 (by omega))))) ?_
  refine rs1 (asL_q (n := 2000) (z := u) (w := (tx i)) (rk_204 hR.sI.sL) (rfl) (by omega) (rfl)) ?_
  refine rs1 (gtP_q (w := some 205) (rk_160 hR.sI.sL.sL) (rf_59 hR.sI.sL.sL)) ?_
  refine rs1 (gtI_q (w := iI ((pl i))) (rk_160 hR.sI.sL.sL) ((sL_i).trans ((sL_i).trans ((sI_nej (by decide)).trans (h37))))) ?_
  refine rs1 (asI_q (n := 2000) (z := u) (y := ((pl i))) (rk_205 hR.sI.sL.sL) (rfl) (by omega) (rfl)) ?_
  refine rs1 (gtP_q (w := some 207) (rk_160 hR.sI.sL.sL.sI) (rf_61 hR.sI.sL.sL.sI)) ?_
  refine rs1 (gtI_q (w := iI ut) (rk_160 hR.sI.sL.sL.sI) ((sI_ne (by decide)).trans ((sL_i).trans ((sL_i).trans ((sI_nej (by decide)).trans (h49)))))) ?_
  refine rs1 (asI_q (n := 2000) (z := u) (y := ut) (rk_207 hR.sI.sL.sL.sI) (rfl) (by omega) (rfl)) ?_
  refine rs1 (vC_e (rk_160 hR.sI.sL.sL.sI.sI)) ?_
  refine Rc_V (nx_q (by omega) hS hR.sI.sL.sL.sI.sI (hT.fr (W := W_us) (Fr.sI (inW_c (by decide) _) (Fr.sI (inW_c (by decide) _) (Fr.sL (inW_c (by decide) _) (Fr.sL (inW_c (by decide) _) (Fr.sI (by decide) Fr.r))))) (by decide) (by decide)) (fun i a b => (Fr.lc (W := W_us) (Fr.sI (inW_c (by decide) _) (Fr.sI (inW_c (by decide) _) (Fr.sL (inW_c (by decide) _) (Fr.sL (inW_c (by decide) _) (Fr.sI (by decide) Fr.r))))) _ (by decide) _).trans (hW i a b)) (i := i) (i2 := (i + 1)) ((sI_ne (by decide)).trans ((sI_ne (by decide)).trans ((sL_i).trans ((sL_i).trans ((sI_nej (by decide)).trans (h41)))))) ((sI_ne (by decide)).trans ((sI_ne (by decide)).trans ((sL_i).trans ((sL_i).trans ((sI_nej (by decide)).trans (h38)))))) (by omega) (by omega) (by omega)) fun v Ma2 h2 => ?_
  obtain ⟨g2, e2_k0, e2_k1, e2_k2, p2_0⟩ := h2
  have f2 : Fr W_us M Ma2 := Fr.t (Fr.sI (inW_c (by decide) _) (Fr.sI (inW_c (by decide) _) (Fr.sL (inW_c (by decide) _) (Fr.sL (inW_c (by decide) _) (Fr.sI (by decide) Fr.r))))) (Fr.m g2 (by decide))
  refine rs1 (cV_e rfl) ?_
  refine rs1 (gtI_q (w := iI 0) (rk_160 (hR.fr f2)) ((g2.i _ _ (by decide)).trans ((sI_ne (by decide)).trans ((sI_ne (by decide)).trans ((sL_i).trans ((sL_i).trans ((sI_nej (by decide)).trans (h41)))))))) ?_
  refine rs1 (jn_v) ?_
  refine rs1 (if_pos (eqI_p (rfl) (li_0) (by omega))) ?_
  refine rs1 (gtI_q (w := iI ((kr (kd (i + 1))))) (rk_160 (hR.fr f2)) (e2_k0)) ?_
  refine rs1 (if_neg (krI_n (k := 46) (rfl) (li_46) (hS.ok (i + 1) (by omega) (by omega)) (by unfold KdOK sgk; omega) (by decide +kernel) (by omega) (by omega))) ?_
  refine rs1 (jv_e) ?_
  exact Rt.okI (z := u) (rfl) ⟨u, rfl, f2, (g2.i _ _ (by decide)).trans ((sI_ne (by decide)).trans ((sI_ne (by decide)).trans ((sL_i).trans ((sL_i).trans (sI_eq))))), e2_k0, e2_k1, e2_k2, (g2.i _ _ (by decide)).trans ((sI_ne (by decide)).trans ((sI_ne (by decide)).trans ((sL_i).trans ((sL_i).trans ((sI_nej (by decide)).trans (h41)))))), rfl, ⟨fun j hj => ⟨(g2.c _ (by decide) _).trans ((sI_ne (by decide)).trans ((sI_ne (by decide)).trans ((sL_i).trans ((sL_i).trans ((sI_ne (by decide))))))), (g2.c _ (by decide) _).trans ((sI_ne (by decide)).trans ((sI_ne (by decide)).trans ((sL_i).trans ((sL_i).trans ((sI_ne (by decide))))))), (g2.c _ (by decide) _).trans ((sI_ne (by decide)).trans ((sI_ne (by decide)).trans ((sL_i).trans ((sL_i).trans ((sI_ne (by decide))))))), (g2.c _ (by decide) _).trans ((sI_ne (by decide)).trans ((sI_nej hj).trans ((sL_i).trans ((sL_i).trans ((sI_ne (by decide))))))), (g2.c _ (by decide) _).trans ((sI_ne (by decide)).trans ((sI_ne (by decide)).trans ((sL_i).trans ((sL_i).trans ((sI_ne (by decide))))))), (g2.c _ (by decide) _).trans ((sI_nej hj).trans ((sI_ne (by decide)).trans ((sL_i).trans ((sL_i).trans ((sI_ne (by decide))))))), (g2.lc _ (by decide) _).trans ((sI_l).trans ((sI_l).trans ((sL_ne (by decide)).trans ((sL_nej hj).trans (sI_l))))), (g2.lc _ (by decide) _).trans ((sI_l).trans ((sI_l).trans ((sL_nej hj).trans ((sL_ne (by decide)).trans (sI_l)))))⟩, (g2.c _ (by decide) _).trans ((sI_ne (by decide)).trans ((sI_ne (by decide)).trans ((sL_i).trans ((sL_i).trans ((sI_ne (by decide)).trans (eV)))))), (g2.c _ (by decide) _).trans ((sI_ne (by decide)).trans ((sI_ne (by decide)).trans ((sL_i).trans ((sL_i).trans ((sI_ne (by decide)).trans (eV)))))), (g2.lc _ (by decide) _).trans ((sI_l).trans ((sI_l).trans ((sL_ne (by decide)).trans (sL_eq)))), (g2.c _ (by decide) _).trans ((sI_ne (by decide)).trans ((sI_ne (by decide)).trans ((sL_i).trans ((sL_i).trans ((sI_ne (by decide)).trans (eV)))))), (g2.lc _ (by decide) _).trans ((sI_l).trans ((sI_l).trans (sL_eq))), (g2.c _ (by decide) _).trans ((sI_ne (by decide)).trans (sI_eq)), (g2.c _ (by decide) _).trans ((sI_ne (by decide)).trans ((sI_ne (by decide)).trans ((sL_i).trans ((sL_i).trans ((sI_ne (by decide)).trans (eV)))))), (g2.c _ (by decide) _).trans (sI_eq)⟩, (p2_0.fr (W := W_us2) Fr.r (by decide) (by decide))⟩
theorem a201_d {d : Nat} {M : Mem} (hd : 5 ≤ d) {T : Int → Int} {n m : Int} {kd pl E : Int → Int} {tx : Int → Int64} (hS : TkS T n m kd pl E tx) (hR : RT M) (hT : Tp 160 1 161 T n M) (hW : ∀ i, 0 ≤ i → i < 28 → M.2.1 194 i.toNat = WR i) {i u ut : Int} (h36 : M.1 160 36 = iI (kr (kd i))) (h37 : M.1 160 37 = iI (pl i)) (h38 : M.1 160 38 = iI (E i)) (h41 : M.1 160 41 = iI 0) (h49 : M.1 160 49 = iI ut) (h53 : M.1 160 53 = iI u) (hn : NmR M (kd i) (tx i)) (h : 0 ≤ i ∧ i + 1 < m ∧ kd i = 3 ∧ 0 ≤ u ∧ u ≤ 1999 ∧ 0 ≤ ut ∧ ut ≤ 7 ∧ i + 2 < m ∧ kd (i + 1) = 46 ∧ kd (i + 2) = 3 ∧ i + 3 < m) : Rt (runX d 201 [va_rf (some 160)] M) (fun v M2 => ∃ (r : Int), v = .int (iI r) ∧ Fr W_us M M2 ∧ M2.1 160 53 = iI (u + 1) ∧ M2.1 160 36 = iI ((kr (kd (i + 3)))) ∧ M2.1 160 37 = iI ((pl (i + 3))) ∧ M2.1 160 38 = iI ((E (i + 3))) ∧ M2.1 160 41 = iI 0 ∧ (r = u) ∧ (UsR M M2 u (V M 201 u.toNat) (V M 200 u.toNat) (pl i) (pl (i + 2)) (V M 206 u.toNat) ut (tx i) (tx (i + 2))) ∧ (NmR M2 (kd (i + 3)) (tx (i + 3)))) := by
  obtain ⟨d, rfl⟩ : ∃ e, d = e + 1 := ⟨d - 1, by omega⟩
  rw [r201]; unfold b201; rw [aR_e, aZ_e]; unfold c201
  have hk0 := (hS.ok i (by omega) (by omega)).r
  have hm := hS.2.2.1
  have hk1 := (hS.ok (i + 1) (by omega) (by omega)).r
  have hk2 := (hS.ok (i + 2) (by omega) (by omega)).r
  refine rs1 (gtI_q (w := iI u) (rk_160 hR) (h53)) ?_
  refine rs1 (gtI_q (w := iI u) (rk_160 hR) (h53)) ?_
  refine rs1 (ptI_q (z := (u + 1)) (rk_160 hR) (adI (rfl) (li_1))) ?_
  refine rs1 (gtP_q (w := some 202) (rk_160 hR.sI) (rf_56 hR.sI)) ?_
  refine rs1 (asL_q (n := 2000) (z := u) (w := (0 : Int64)) (rk_202 hR.sI) (rfl) (by omega) (rfl)) ?_
  refine rs1 (gtP_q (w := some 204) (rk_160 hR.sI.sL) (rf_58 hR.sI.sL)) ?_
  refine rs1 (gtL_q (w := (tx i)) (rk_160 hR.sI.sL) ((sL_ne (by decide)).trans ((sI_l).trans (hn.1 (by omega))))) ?_
  refine rs1 (asL_q (n := 2000) (z := u) (w := (tx i)) (rk_204 hR.sI.sL) (rfl) (by omega) (rfl)) ?_
  refine rs1 (gtP_q (w := some 205) (rk_160 hR.sI.sL.sL) (rf_59 hR.sI.sL.sL)) ?_
  refine rs1 (gtI_q (w := iI ((pl i))) (rk_160 hR.sI.sL.sL) ((sL_i).trans ((sL_i).trans ((sI_nej (by decide)).trans (h37))))) ?_
  refine rs1 (asI_q (n := 2000) (z := u) (y := ((pl i))) (rk_205 hR.sI.sL.sL) (rfl) (by omega) (rfl)) ?_
  refine rs1 (gtP_q (w := some 207) (rk_160 hR.sI.sL.sL.sI) (rf_61 hR.sI.sL.sL.sI)) ?_
  refine rs1 (gtI_q (w := iI ut) (rk_160 hR.sI.sL.sL.sI) ((sI_ne (by decide)).trans ((sL_i).trans ((sL_i).trans ((sI_nej (by decide)).trans (h49)))))) ?_
  refine rs1 (asI_q (n := 2000) (z := u) (y := ut) (rk_207 hR.sI.sL.sL.sI) (rfl) (by omega) (rfl)) ?_
  refine rs1 (vC_e (rk_160 hR.sI.sL.sL.sI.sI)) ?_
  refine Rc_V (nx_q (by omega) hS hR.sI.sL.sL.sI.sI (hT.fr (W := W_us) (Fr.sI (inW_c (by decide) _) (Fr.sI (inW_c (by decide) _) (Fr.sL (inW_c (by decide) _) (Fr.sL (inW_c (by decide) _) (Fr.sI (by decide) Fr.r))))) (by decide) (by decide)) (fun i a b => (Fr.lc (W := W_us) (Fr.sI (inW_c (by decide) _) (Fr.sI (inW_c (by decide) _) (Fr.sL (inW_c (by decide) _) (Fr.sL (inW_c (by decide) _) (Fr.sI (by decide) Fr.r))))) _ (by decide) _).trans (hW i a b)) (i := i) (i2 := (i + 1)) ((sI_ne (by decide)).trans ((sI_ne (by decide)).trans ((sL_i).trans ((sL_i).trans ((sI_nej (by decide)).trans (h41)))))) ((sI_ne (by decide)).trans ((sI_ne (by decide)).trans ((sL_i).trans ((sL_i).trans ((sI_nej (by decide)).trans (h38)))))) (by omega) (by omega) (by omega)) fun v Ma2 h2 => ?_
  obtain ⟨g2, e2_k0, e2_k1, e2_k2, p2_0⟩ := h2
  have f2 : Fr W_us M Ma2 := Fr.t (Fr.sI (inW_c (by decide) _) (Fr.sI (inW_c (by decide) _) (Fr.sL (inW_c (by decide) _) (Fr.sL (inW_c (by decide) _) (Fr.sI (by decide) Fr.r))))) (Fr.m g2 (by decide))
  refine rs1 (cV_e rfl) ?_
  refine rs1 (gtI_q (w := iI 0) (rk_160 (hR.fr f2)) ((g2.i _ _ (by decide)).trans ((sI_ne (by decide)).trans ((sI_ne (by decide)).trans ((sL_i).trans ((sL_i).trans ((sI_nej (by decide)).trans (h41)))))))) ?_
  refine rs1 (jn_v) ?_
  refine rs1 (if_pos (eqI_p (rfl) (li_0) (by omega))) ?_
  refine rs1 (gtI_q (w := iI ((kr (kd (i + 1))))) (rk_160 (hR.fr f2)) (e2_k0)) ?_
  refine rs1 (if_pos (krI_p (k := 46) (rfl) (li_46) (by omega) (by decide +kernel))) ?_
  refine rs1 (vC_e (rk_160 (hR.fr f2))) ?_
  refine Rc_V (nx_q (by omega) hS (hR.fr f2) (hT.fr (W := W_us) f2 (by decide) (by decide)) (fun i a b => (Fr.lc (W := W_us) f2 _ (by decide) _).trans (hW i a b)) (i := (i + 1)) (i2 := (i + 2)) ((g2.i _ _ (by decide)).trans ((sI_ne (by decide)).trans ((sI_ne (by decide)).trans ((sL_i).trans ((sL_i).trans ((sI_nej (by decide)).trans (h41))))))) (e2_k2) (by omega) (by omega) (by omega)) fun v Ma4 h4 => ?_
  obtain ⟨g4, e4_k0, e4_k1, e4_k2, p4_0⟩ := h4
  have f4 : Fr W_us M Ma4 := Fr.t f2 (Fr.m g4 (by decide))
  refine rs1 (cV_e rfl) ?_
  refine rs1 (gtI_q (w := iI ((kr (kd (i + 2))))) (rk_160 (hR.fr f4)) (e4_k0)) ?_
  refine rs1 (jn_v) ?_
  refine rs1 (if_pos (krI_p (k := 3) (rfl) (li_1) (by omega) (by decide +kernel))) ?_
  refine rs1 (jv_e) ?_
  refine rs1 (vC_e (rk_160 (hR.fr f4))) ?_
  refine rs1 (cI_e (ar193_p (by omega) hS (hR.fr f4) (e4_k0) (e4_k1) ((g4.i _ _ (by decide)).trans ((g2.i _ _ (by decide)).trans ((sI_ne (by decide)).trans ((sI_ne (by decide)).trans ((sL_i).trans ((sL_i).trans ((sI_nej (by decide)).trans (h41)))))))) (li_1) (by omega))) ?_
  refine rs1 (if_neg (eqI_n (rfl) (li_0) (by omega))) ?_
  refine rs1 (gtP_q (w := some 202) (rk_160 (hR.fr f4)) (rf_56 (hR.fr f4))) ?_
  refine rs1 (gtP_q (w := some 204) (rk_160 (hR.fr f4)) (rf_58 (hR.fr f4))) ?_
  refine rs1 (alL_q (n := 2000) (z := u) (w := (tx i)) (rk_204 (hR.fr f4)) (rfl) (by omega) ((g4.lc _ (by decide) _).trans ((g2.lc _ (by decide) _).trans ((sI_l).trans ((sI_l).trans (sL_eq)))))) ?_
  refine rs1 (asL_q (n := 2000) (z := u) (w := (tx i)) (rk_202 (hR.fr f4)) (rfl) (by omega) (rfl)) ?_
  refine rs1 (gtP_q (w := some 203) (rk_160 (hR.fr f4).sL) (rf_57 (hR.fr f4).sL)) ?_
  refine rs1 (gtP_q (w := some 205) (rk_160 (hR.fr f4).sL) (rf_59 (hR.fr f4).sL)) ?_
  refine rs1 (alI_q (n := 2000) (z := u) (w := iI ((pl i))) (rk_205 (hR.fr f4).sL) (rfl) (by omega) ((sL_i).trans ((g4.c _ (by decide) _).trans ((g2.c _ (by decide) _).trans ((sI_ne (by decide)).trans (sI_eq)))))) ?_
  refine rs1 (asI_q (n := 2000) (z := u) (y := ((pl i))) (rk_203 (hR.fr f4).sL) (rfl) (by omega) (rfl)) ?_
  refine rs1 (gtP_q (w := some 204) (rk_160 (hR.fr f4).sL.sI) (rf_58 (hR.fr f4).sL.sI)) ?_
  refine rs1 (gtL_q (w := (tx (i + 2))) (rk_160 (hR.fr f4).sL.sI) ((sI_l).trans ((sL_ne (by decide)).trans ((p4_0.1 (by omega)))))) ?_
  refine rs1 (asL_q (n := 2000) (z := u) (w := (tx (i + 2))) (rk_204 (hR.fr f4).sL.sI) (rfl) (by omega) (rfl)) ?_
  refine rs1 (gtP_q (w := some 205) (rk_160 (hR.fr f4).sL.sI.sL) (rf_59 (hR.fr f4).sL.sI.sL)) ?_
  refine rs1 (gtI_q (w := iI ((pl (i + 2)))) (rk_160 (hR.fr f4).sL.sI.sL) ((sL_i).trans ((sI_ne (by decide)).trans ((sL_i).trans (e4_k1))))) ?_
  refine rs1 (asI_q (n := 2000) (z := u) (y := ((pl (i + 2)))) (rk_205 (hR.fr f4).sL.sI.sL) (rfl) (by omega) (rfl)) ?_
  refine rs1 (vC_e (rk_160 (hR.fr f4).sL.sI.sL.sI)) ?_
  refine Rc_V (nx_q (by omega) hS (hR.fr f4).sL.sI.sL.sI (hT.fr (W := W_us) (Fr.sI (inW_c (by decide) _) (Fr.sL (inW_c (by decide) _) (Fr.sI (inW_c (by decide) _) (Fr.sL (inW_c (by decide) _) f4)))) (by decide) (by decide)) (fun i a b => (Fr.lc (W := W_us) (Fr.sI (inW_c (by decide) _) (Fr.sL (inW_c (by decide) _) (Fr.sI (inW_c (by decide) _) (Fr.sL (inW_c (by decide) _) f4)))) _ (by decide) _).trans (hW i a b)) (i := (i + 2)) (i2 := (i + 3)) ((sI_ne (by decide)).trans ((sL_i).trans ((sI_ne (by decide)).trans ((sL_i).trans ((g4.i _ _ (by decide)).trans ((g2.i _ _ (by decide)).trans ((sI_ne (by decide)).trans ((sI_ne (by decide)).trans ((sL_i).trans ((sL_i).trans ((sI_nej (by decide)).trans (h41)))))))))))) ((sI_ne (by decide)).trans ((sL_i).trans ((sI_ne (by decide)).trans ((sL_i).trans (e4_k2))))) (by omega) (by omega) (by omega)) fun v Ma6 h6 => ?_
  obtain ⟨g6, e6_k0, e6_k1, e6_k2, p6_0⟩ := h6
  have f6 : Fr W_us M Ma6 := Fr.t (Fr.sI (inW_c (by decide) _) (Fr.sL (inW_c (by decide) _) (Fr.sI (inW_c (by decide) _) (Fr.sL (inW_c (by decide) _) f4)))) (Fr.m g6 (by decide))
  refine rs1 (cV_e rfl) ?_
  refine rs1 (jv_e) ?_
  exact Rt.okI (z := u) (rfl) ⟨u, rfl, f6, (g6.i _ _ (by decide)).trans ((sI_ne (by decide)).trans ((sL_i).trans ((sI_ne (by decide)).trans ((sL_i).trans ((g4.i _ _ (by decide)).trans ((g2.i _ _ (by decide)).trans ((sI_ne (by decide)).trans ((sI_ne (by decide)).trans ((sL_i).trans ((sL_i).trans (sI_eq))))))))))), e6_k0, e6_k1, e6_k2, (g6.i _ _ (by decide)).trans ((sI_ne (by decide)).trans ((sL_i).trans ((sI_ne (by decide)).trans ((sL_i).trans ((g4.i _ _ (by decide)).trans ((g2.i _ _ (by decide)).trans ((sI_ne (by decide)).trans ((sI_ne (by decide)).trans ((sL_i).trans ((sL_i).trans ((sI_nej (by decide)).trans (h41)))))))))))), rfl, ⟨fun j hj => ⟨(g6.c _ (by decide) _).trans ((sI_ne (by decide)).trans ((sL_i).trans ((sI_ne (by decide)).trans ((sL_i).trans ((g4.c _ (by decide) _).trans ((g2.c _ (by decide) _).trans ((sI_ne (by decide)).trans ((sI_ne (by decide)).trans ((sL_i).trans ((sL_i).trans ((sI_ne (by decide))))))))))))), (g6.c _ (by decide) _).trans ((sI_ne (by decide)).trans ((sL_i).trans ((sI_ne (by decide)).trans ((sL_i).trans ((g4.c _ (by decide) _).trans ((g2.c _ (by decide) _).trans ((sI_ne (by decide)).trans ((sI_ne (by decide)).trans ((sL_i).trans ((sL_i).trans ((sI_ne (by decide))))))))))))), (g6.c _ (by decide) _).trans ((sI_ne (by decide)).trans ((sL_i).trans ((sI_nej hj).trans ((sL_i).trans ((g4.c _ (by decide) _).trans ((g2.c _ (by decide) _).trans ((sI_ne (by decide)).trans ((sI_ne (by decide)).trans ((sL_i).trans ((sL_i).trans ((sI_ne (by decide))))))))))))), (g6.c _ (by decide) _).trans ((sI_nej hj).trans ((sL_i).trans ((sI_ne (by decide)).trans ((sL_i).trans ((g4.c _ (by decide) _).trans ((g2.c _ (by decide) _).trans ((sI_ne (by decide)).trans ((sI_nej hj).trans ((sL_i).trans ((sL_i).trans ((sI_ne (by decide))))))))))))), (g6.c _ (by decide) _).trans ((sI_ne (by decide)).trans ((sL_i).trans ((sI_ne (by decide)).trans ((sL_i).trans ((g4.c _ (by decide) _).trans ((g2.c _ (by decide) _).trans ((sI_ne (by decide)).trans ((sI_ne (by decide)).trans ((sL_i).trans ((sL_i).trans ((sI_ne (by decide))))))))))))), (g6.c _ (by decide) _).trans ((sI_ne (by decide)).trans ((sL_i).trans ((sI_ne (by decide)).trans ((sL_i).trans ((g4.c _ (by decide) _).trans ((g2.c _ (by decide) _).trans ((sI_nej hj).trans ((sI_ne (by decide)).trans ((sL_i).trans ((sL_i).trans ((sI_ne (by decide))))))))))))), (g6.lc _ (by decide) _).trans ((sI_l).trans ((sL_ne (by decide)).trans ((sI_l).trans ((sL_nej hj).trans ((g4.lc _ (by decide) _).trans ((g2.lc _ (by decide) _).trans ((sI_l).trans ((sI_l).trans ((sL_ne (by decide)).trans ((sL_nej hj).trans (sI_l))))))))))), (g6.lc _ (by decide) _).trans ((sI_l).trans ((sL_nej hj).trans ((sI_l).trans ((sL_ne (by decide)).trans ((g4.lc _ (by decide) _).trans ((g2.lc _ (by decide) _).trans ((sI_l).trans ((sI_l).trans ((sL_nej hj).trans ((sL_ne (by decide)).trans (sI_l)))))))))))⟩, (g6.c _ (by decide) _).trans ((sI_ne (by decide)).trans ((sL_i).trans ((sI_ne (by decide)).trans ((sL_i).trans ((g4.c _ (by decide) _).trans ((g2.c _ (by decide) _).trans ((sI_ne (by decide)).trans ((sI_ne (by decide)).trans ((sL_i).trans ((sL_i).trans ((sI_ne (by decide)).trans (eV)))))))))))), (g6.c _ (by decide) _).trans ((sI_ne (by decide)).trans ((sL_i).trans ((sI_ne (by decide)).trans ((sL_i).trans ((g4.c _ (by decide) _).trans ((g2.c _ (by decide) _).trans ((sI_ne (by decide)).trans ((sI_ne (by decide)).trans ((sL_i).trans ((sL_i).trans ((sI_ne (by decide)).trans (eV)))))))))))), (g6.lc _ (by decide) _).trans ((sI_l).trans ((sL_ne (by decide)).trans ((sI_l).trans (sL_eq)))), (g6.c _ (by decide) _).trans ((sI_ne (by decide)).trans ((sL_i).trans (sI_eq))), (g6.lc _ (by decide) _).trans ((sI_l).trans (sL_eq)), (g6.c _ (by decide) _).trans (sI_eq), (g6.c _ (by decide) _).trans ((sI_ne (by decide)).trans ((sL_i).trans ((sI_ne (by decide)).trans ((sL_i).trans ((g4.c _ (by decide) _).trans ((g2.c _ (by decide) _).trans ((sI_ne (by decide)).trans ((sI_ne (by decide)).trans ((sL_i).trans ((sL_i).trans ((sI_ne (by decide)).trans (eV)))))))))))), (g6.c _ (by decide) _).trans ((sI_ne (by decide)).trans ((sL_i).trans ((sI_ne (by decide)).trans ((sL_i).trans ((g4.c _ (by decide) _).trans ((g2.c _ (by decide) _).trans (sI_eq)))))))⟩, (p6_0.fr (W := W_us2) Fr.r (by decide) (by decide))⟩
theorem a201_1 {d : Nat} {M : Mem} (hd : 5 ≤ d) {T : Int → Int} {n m : Int} {kd pl E : Int → Int} {tx : Int → Int64} (hS : TkS T n m kd pl E tx) (hR : RT M) (hT : Tp 160 1 161 T n M) (hW : ∀ i, 0 ≤ i → i < 28 → M.2.1 194 i.toNat = WR i) {i u ut : Int} (h36 : M.1 160 36 = iI (kr (kd i))) (h37 : M.1 160 37 = iI (pl i)) (h38 : M.1 160 38 = iI (E i)) (h41 : M.1 160 41 = iI 0) (h49 : M.1 160 49 = iI ut) (h53 : M.1 160 53 = iI u) (hn : NmR M (kd i) (tx i)) (h : 0 ≤ i ∧ i + 1 < m ∧ kd i = 3 ∧ 0 ≤ u ∧ u ≤ 1999 ∧ 0 ≤ ut ∧ ut ≤ 7 ∧ i + 2 < m ∧ kd (i + 1) = 46 ∧ kd (i + 2) = 1) : Rt (runX d 201 [va_rf (some 160)] M) (fun v M2 => ∃ (r : Int), v = .int (iI r) ∧ Fr W_us M M2 ∧ M2.1 160 53 = iI (u + 1) ∧ M2.1 160 36 = iI ((kr (kd (i + 2)))) ∧ M2.1 160 37 = iI ((pl (i + 2))) ∧ M2.1 160 38 = iI ((E (i + 2))) ∧ M2.1 160 41 = iI 1 ∧ M2.1 160 42 = iI ((pl (i + 2))) ∧ (r = u)) := by
  obtain ⟨d, rfl⟩ : ∃ e, d = e + 1 := ⟨d - 1, by omega⟩
  rw [r201]; unfold b201; rw [aR_e, aZ_e]; unfold c201
  have hk0 := (hS.ok i (by omega) (by omega)).r
  have hm := hS.2.2.1
  have hk1 := (hS.ok (i + 1) (by omega) (by omega)).r
  have hk2 := (hS.ok (i + 2) (by omega) (by omega)).r
  refine rs1 (gtI_q (w := iI u) (rk_160 hR) (h53)) ?_
  refine rs1 (gtI_q (w := iI u) (rk_160 hR) (h53)) ?_
  refine rs1 (ptI_q (z := (u + 1)) (rk_160 hR) (adI (rfl) (li_1))) ?_
  refine rs1 (gtP_q (w := some 202) (rk_160 hR.sI) (rf_56 hR.sI)) ?_
  refine rs1 (asL_q (n := 2000) (z := u) (w := (0 : Int64)) (rk_202 hR.sI) (rfl) (by omega) (rfl)) ?_
  refine rs1 (gtP_q (w := some 204) (rk_160 hR.sI.sL) (rf_58 hR.sI.sL)) ?_
  refine rs1 (gtL_q (w := (tx i)) (rk_160 hR.sI.sL) ((sL_ne (by decide)).trans ((sI_l).trans (hn.1 (by omega))))) ?_
  refine rs1 (asL_q (n := 2000) (z := u) (w := (tx i)) (rk_204 hR.sI.sL) (rfl) (by omega) (rfl)) ?_
  refine rs1 (gtP_q (w := some 205) (rk_160 hR.sI.sL.sL) (rf_59 hR.sI.sL.sL)) ?_
  refine rs1 (gtI_q (w := iI ((pl i))) (rk_160 hR.sI.sL.sL) ((sL_i).trans ((sL_i).trans ((sI_nej (by decide)).trans (h37))))) ?_
  refine rs1 (asI_q (n := 2000) (z := u) (y := ((pl i))) (rk_205 hR.sI.sL.sL) (rfl) (by omega) (rfl)) ?_
  refine rs1 (gtP_q (w := some 207) (rk_160 hR.sI.sL.sL.sI) (rf_61 hR.sI.sL.sL.sI)) ?_
  refine rs1 (gtI_q (w := iI ut) (rk_160 hR.sI.sL.sL.sI) ((sI_ne (by decide)).trans ((sL_i).trans ((sL_i).trans ((sI_nej (by decide)).trans (h49)))))) ?_
  refine rs1 (asI_q (n := 2000) (z := u) (y := ut) (rk_207 hR.sI.sL.sL.sI) (rfl) (by omega) (rfl)) ?_
  refine rs1 (vC_e (rk_160 hR.sI.sL.sL.sI.sI)) ?_
  refine Rc_V (nx_q (by omega) hS hR.sI.sL.sL.sI.sI (hT.fr (W := W_us) (Fr.sI (inW_c (by decide) _) (Fr.sI (inW_c (by decide) _) (Fr.sL (inW_c (by decide) _) (Fr.sL (inW_c (by decide) _) (Fr.sI (by decide) Fr.r))))) (by decide) (by decide)) (fun i a b => (Fr.lc (W := W_us) (Fr.sI (inW_c (by decide) _) (Fr.sI (inW_c (by decide) _) (Fr.sL (inW_c (by decide) _) (Fr.sL (inW_c (by decide) _) (Fr.sI (by decide) Fr.r))))) _ (by decide) _).trans (hW i a b)) (i := i) (i2 := (i + 1)) ((sI_ne (by decide)).trans ((sI_ne (by decide)).trans ((sL_i).trans ((sL_i).trans ((sI_nej (by decide)).trans (h41)))))) ((sI_ne (by decide)).trans ((sI_ne (by decide)).trans ((sL_i).trans ((sL_i).trans ((sI_nej (by decide)).trans (h38)))))) (by omega) (by omega) (by omega)) fun v Ma2 h2 => ?_
  obtain ⟨g2, e2_k0, e2_k1, e2_k2, p2_0⟩ := h2
  have f2 : Fr W_us M Ma2 := Fr.t (Fr.sI (inW_c (by decide) _) (Fr.sI (inW_c (by decide) _) (Fr.sL (inW_c (by decide) _) (Fr.sL (inW_c (by decide) _) (Fr.sI (by decide) Fr.r))))) (Fr.m g2 (by decide))
  refine rs1 (cV_e rfl) ?_
  refine rs1 (gtI_q (w := iI 0) (rk_160 (hR.fr f2)) ((g2.i _ _ (by decide)).trans ((sI_ne (by decide)).trans ((sI_ne (by decide)).trans ((sL_i).trans ((sL_i).trans ((sI_nej (by decide)).trans (h41)))))))) ?_
  refine rs1 (jn_v) ?_
  refine rs1 (if_pos (eqI_p (rfl) (li_0) (by omega))) ?_
  refine rs1 (gtI_q (w := iI ((kr (kd (i + 1))))) (rk_160 (hR.fr f2)) (e2_k0)) ?_
  refine rs1 (if_pos (krI_p (k := 46) (rfl) (li_46) (by omega) (by decide +kernel))) ?_
  refine rs1 (vC_e (rk_160 (hR.fr f2))) ?_
  refine Rc_V (nx_q (by omega) hS (hR.fr f2) (hT.fr (W := W_us) f2 (by decide) (by decide)) (fun i a b => (Fr.lc (W := W_us) f2 _ (by decide) _).trans (hW i a b)) (i := (i + 1)) (i2 := (i + 2)) ((g2.i _ _ (by decide)).trans ((sI_ne (by decide)).trans ((sI_ne (by decide)).trans ((sL_i).trans ((sL_i).trans ((sI_nej (by decide)).trans (h41))))))) (e2_k2) (by omega) (by omega) (by omega)) fun v Ma4 h4 => ?_
  obtain ⟨g4, e4_k0, e4_k1, e4_k2, p4_0⟩ := h4
  have f4 : Fr W_us M Ma4 := Fr.t f2 (Fr.m g4 (by decide))
  refine rs1 (cV_e rfl) ?_
  refine rs1 (gtI_q (w := iI ((kr (kd (i + 2))))) (rk_160 (hR.fr f4)) (e4_k0)) ?_
  refine rs1 (jn_v) ?_
  refine rs1 (if_neg (krI_n (k := 3) (rfl) (li_1) (hS.ok (i + 2) (by omega) (by omega)) (by unfold KdOK sgk; omega) (by decide +kernel) (by omega) (by omega))) ?_
  refine rs1 (jv_e) ?_
  refine rs1 (vC_e (rk_160 (hR.fr f4))) ?_
  refine rs1 (cI_e (ar193_1 (by omega) hS (hR.fr f4) (e4_k0) (e4_k1) ((g4.i _ _ (by decide)).trans ((g2.i _ _ (by decide)).trans ((sI_ne (by decide)).trans ((sI_ne (by decide)).trans ((sL_i).trans ((sL_i).trans ((sI_nej (by decide)).trans (h41)))))))) (li_0) (by omega))) ?_
  refine rs1 (if_pos (eqI_p (rfl) (li_0) (by omega))) ?_
  refine rs1 (jv_e) ?_
  exact Rt.okI (z := u) (rfl) ⟨u, rfl, (Fr.sI (by decide) (Fr.sI (by decide) f4)), (sI_nej (by decide)).trans ((sI_nej (by decide)).trans ((g4.i _ _ (by decide)).trans ((g2.i _ _ (by decide)).trans ((sI_ne (by decide)).trans ((sI_ne (by decide)).trans ((sL_i).trans ((sL_i).trans (sI_eq)))))))), (sI_nej (by decide)).trans ((sI_nej (by decide)).trans (e4_k0)), (sI_nej (by decide)).trans ((sI_nej (by decide)).trans (e4_k1)), (sI_nej (by decide)).trans ((sI_nej (by decide)).trans (e4_k2)), (sI_nej (by decide)).trans (sI_eq), sI_eq, rfl⟩
theorem a201_2 {d : Nat} {M : Mem} (hd : 5 ≤ d) {T : Int → Int} {n m : Int} {kd pl E : Int → Int} {tx : Int → Int64} (hS : TkS T n m kd pl E tx) (hR : RT M) (hT : Tp 160 1 161 T n M) (hW : ∀ i, 0 ≤ i → i < 28 → M.2.1 194 i.toNat = WR i) {i u ut : Int} (h36 : M.1 160 36 = iI (kr (kd i))) (h37 : M.1 160 37 = iI (pl i)) (h38 : M.1 160 38 = iI (E i)) (h41 : M.1 160 41 = iI 0) (h49 : M.1 160 49 = iI ut) (h53 : M.1 160 53 = iI u) (hn : NmR M (kd i) (tx i)) (h : 0 ≤ i ∧ i + 1 < m ∧ kd i = 3 ∧ 0 ≤ u ∧ u ≤ 1999 ∧ 0 ≤ ut ∧ ut ≤ 7 ∧ i + 2 < m ∧ kd (i + 1) = 46 ∧ kd (i + 2) ≠ 1 ∧ kd (i + 2) ≠ 3) : Rt (runX d 201 [va_rf (some 160)] M) (fun v M2 => ∃ (r : Int), v = .int (iI r) ∧ Fr W_us M M2 ∧ M2.1 160 53 = iI (u + 1) ∧ M2.1 160 36 = iI ((kr (kd (i + 2)))) ∧ M2.1 160 37 = iI ((pl (i + 2))) ∧ M2.1 160 38 = iI ((E (i + 2))) ∧ M2.1 160 41 = iI 2 ∧ M2.1 160 42 = iI ((pl (i + 2))) ∧ (r = u)) := by
  obtain ⟨d, rfl⟩ : ∃ e, d = e + 1 := ⟨d - 1, by omega⟩
  rw [r201]; unfold b201; rw [aR_e, aZ_e]; unfold c201
  have hk0 := (hS.ok i (by omega) (by omega)).r
  have hm := hS.2.2.1
  have hk1 := (hS.ok (i + 1) (by omega) (by omega)).r
  have hk2 := (hS.ok (i + 2) (by omega) (by omega)).r
  refine rs1 (gtI_q (w := iI u) (rk_160 hR) (h53)) ?_
  refine rs1 (gtI_q (w := iI u) (rk_160 hR) (h53)) ?_
  refine rs1 (ptI_q (z := (u + 1)) (rk_160 hR) (adI (rfl) (li_1))) ?_
  refine rs1 (gtP_q (w := some 202) (rk_160 hR.sI) (rf_56 hR.sI)) ?_
  refine rs1 (asL_q (n := 2000) (z := u) (w := (0 : Int64)) (rk_202 hR.sI) (rfl) (by omega) (rfl)) ?_
  refine rs1 (gtP_q (w := some 204) (rk_160 hR.sI.sL) (rf_58 hR.sI.sL)) ?_
  refine rs1 (gtL_q (w := (tx i)) (rk_160 hR.sI.sL) ((sL_ne (by decide)).trans ((sI_l).trans (hn.1 (by omega))))) ?_
  refine rs1 (asL_q (n := 2000) (z := u) (w := (tx i)) (rk_204 hR.sI.sL) (rfl) (by omega) (rfl)) ?_
  refine rs1 (gtP_q (w := some 205) (rk_160 hR.sI.sL.sL) (rf_59 hR.sI.sL.sL)) ?_
  refine rs1 (gtI_q (w := iI ((pl i))) (rk_160 hR.sI.sL.sL) ((sL_i).trans ((sL_i).trans ((sI_nej (by decide)).trans (h37))))) ?_
  refine rs1 (asI_q (n := 2000) (z := u) (y := ((pl i))) (rk_205 hR.sI.sL.sL) (rfl) (by omega) (rfl)) ?_
  refine rs1 (gtP_q (w := some 207) (rk_160 hR.sI.sL.sL.sI) (rf_61 hR.sI.sL.sL.sI)) ?_
  refine rs1 (gtI_q (w := iI ut) (rk_160 hR.sI.sL.sL.sI) ((sI_ne (by decide)).trans ((sL_i).trans ((sL_i).trans ((sI_nej (by decide)).trans (h49)))))) ?_
  refine rs1 (asI_q (n := 2000) (z := u) (y := ut) (rk_207 hR.sI.sL.sL.sI) (rfl) (by omega) (rfl)) ?_
  refine rs1 (vC_e (rk_160 hR.sI.sL.sL.sI.sI)) ?_
  refine Rc_V (nx_q (by omega) hS hR.sI.sL.sL.sI.sI (hT.fr (W := W_us) (Fr.sI (inW_c (by decide) _) (Fr.sI (inW_c (by decide) _) (Fr.sL (inW_c (by decide) _) (Fr.sL (inW_c (by decide) _) (Fr.sI (by decide) Fr.r))))) (by decide) (by decide)) (fun i a b => (Fr.lc (W := W_us) (Fr.sI (inW_c (by decide) _) (Fr.sI (inW_c (by decide) _) (Fr.sL (inW_c (by decide) _) (Fr.sL (inW_c (by decide) _) (Fr.sI (by decide) Fr.r))))) _ (by decide) _).trans (hW i a b)) (i := i) (i2 := (i + 1)) ((sI_ne (by decide)).trans ((sI_ne (by decide)).trans ((sL_i).trans ((sL_i).trans ((sI_nej (by decide)).trans (h41)))))) ((sI_ne (by decide)).trans ((sI_ne (by decide)).trans ((sL_i).trans ((sL_i).trans ((sI_nej (by decide)).trans (h38)))))) (by omega) (by omega) (by omega)) fun v Ma2 h2 => ?_
  obtain ⟨g2, e2_k0, e2_k1, e2_k2, p2_0⟩ := h2
  have f2 : Fr W_us M Ma2 := Fr.t (Fr.sI (inW_c (by decide) _) (Fr.sI (inW_c (by decide) _) (Fr.sL (inW_c (by decide) _) (Fr.sL (inW_c (by decide) _) (Fr.sI (by decide) Fr.r))))) (Fr.m g2 (by decide))
  refine rs1 (cV_e rfl) ?_
  refine rs1 (gtI_q (w := iI 0) (rk_160 (hR.fr f2)) ((g2.i _ _ (by decide)).trans ((sI_ne (by decide)).trans ((sI_ne (by decide)).trans ((sL_i).trans ((sL_i).trans ((sI_nej (by decide)).trans (h41)))))))) ?_
  refine rs1 (jn_v) ?_
  refine rs1 (if_pos (eqI_p (rfl) (li_0) (by omega))) ?_
  refine rs1 (gtI_q (w := iI ((kr (kd (i + 1))))) (rk_160 (hR.fr f2)) (e2_k0)) ?_
  refine rs1 (if_pos (krI_p (k := 46) (rfl) (li_46) (by omega) (by decide +kernel))) ?_
  refine rs1 (vC_e (rk_160 (hR.fr f2))) ?_
  refine Rc_V (nx_q (by omega) hS (hR.fr f2) (hT.fr (W := W_us) f2 (by decide) (by decide)) (fun i a b => (Fr.lc (W := W_us) f2 _ (by decide) _).trans (hW i a b)) (i := (i + 1)) (i2 := (i + 2)) ((g2.i _ _ (by decide)).trans ((sI_ne (by decide)).trans ((sI_ne (by decide)).trans ((sL_i).trans ((sL_i).trans ((sI_nej (by decide)).trans (h41))))))) (e2_k2) (by omega) (by omega) (by omega)) fun v Ma4 h4 => ?_
  obtain ⟨g4, e4_k0, e4_k1, e4_k2, p4_0⟩ := h4
  have f4 : Fr W_us M Ma4 := Fr.t f2 (Fr.m g4 (by decide))
  refine rs1 (cV_e rfl) ?_
  refine rs1 (gtI_q (w := iI ((kr (kd (i + 2))))) (rk_160 (hR.fr f4)) (e4_k0)) ?_
  refine rs1 (jn_v) ?_
  refine rs1 (if_neg (krI_n (k := 3) (rfl) (li_1) (hS.ok (i + 2) (by omega) (by omega)) (by unfold KdOK sgk; omega) (by decide +kernel) (by omega) (by omega))) ?_
  refine rs1 (jv_e) ?_
  refine rs1 (vC_e (rk_160 (hR.fr f4))) ?_
  refine rs1 (cI_e (ar193_2 (by omega) hS (hR.fr f4) (e4_k0) (e4_k1) ((g4.i _ _ (by decide)).trans ((g2.i _ _ (by decide)).trans ((sI_ne (by decide)).trans ((sI_ne (by decide)).trans ((sL_i).trans ((sL_i).trans ((sI_nej (by decide)).trans (h41)))))))) (li_0) (by omega))) ?_
  refine rs1 (if_pos (eqI_p (rfl) (li_0) (by omega))) ?_
  refine rs1 (jv_e) ?_
  exact Rt.okI (z := u) (rfl) ⟨u, rfl, (Fr.sI (by decide) (Fr.sI (by decide) f4)), (sI_nej (by decide)).trans ((sI_nej (by decide)).trans ((g4.i _ _ (by decide)).trans ((g2.i _ _ (by decide)).trans ((sI_ne (by decide)).trans ((sI_ne (by decide)).trans ((sL_i).trans ((sL_i).trans (sI_eq)))))))), (sI_nej (by decide)).trans ((sI_nej (by decide)).trans (e4_k0)), (sI_nej (by decide)).trans ((sI_nej (by decide)).trans (e4_k1)), (sI_nej (by decide)).trans ((sI_nej (by decide)).trans (e4_k2)), (sI_nej (by decide)).trans (sI_eq), sI_eq, rfl⟩
