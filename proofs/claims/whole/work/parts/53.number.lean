/-! numbers, with and without a sign -/
def W_219 : List (Nat × Nat) := [(160, 36), (160, 37), (160, 38), (160, 39), (160, 40), (160, 41), (160, 42), (160, 62)]
theorem a68_a {d : Nat} {M : Mem} (hd : 3 ≤ d) {T : Int → Int} {n m : Int} {kd pl E : Int → Int} {tx : Int → Int64} (hS : TkS T n m kd pl E tx) (hR : CT M) (hTk : TkA M m kd pl tx) {i : Int} (h12 : M.1 65 12 = iI i) (h13 : M.1 65 13 = iI (kd i)) (h10 : M.1 65 10 = iI 0) {z : Int} (hz : (tx i).toInt32 = iI z) (h : 0 ≤ i ∧ i < m ∧ m ≤ 1400 ∧ kd i = 4 ∧ 0 ≤ z ∧ z ≤ 999999999) : Rt (runX d 68 [va_rf (some 65)] M) (fun v M2 => v = .int (iI z) ∧ Fr W_66 M M2 ∧ M2.1 65 12 = iI (i + 1) ∧ M2.1 65 13 = iI ((kd (i + 1))) ∧ M2.1 65 10 = iI 0) := by
  obtain ⟨d, rfl⟩ : ∃ e, d = e + 1 := ⟨d - 1, by omega⟩
  have hC := hR
  have hk0 := (hS.ok i (by omega) (by omega)).r
  have hm := hS.2.2.1
  rw [r68]; unfold b68; rw [aR_e, aZ_e]; unfold c68
  refine rs1 (gtI_q (w := iI ((kd i))) (ck_65 hR) (h13)) ?_
  refine rs1 (jn_v) ?_
  refine rs1 (if_neg (eqI_n (rfl) (li_45) (by omega))) ?_
  refine rs1 (jv_e) ?_
  refine rs1 (jn_v) ?_
  refine rs1 (if_pos (eqI_p (li_0) (li_0) (by omega))) ?_
  refine rs1 (jv_e) ?_
  refine rs1 (vC_e (ck_65 hR)) ?_
  refine rs1 (cL_e (a65 (by omega) hS hR (hTk.fr (WL := W_66) Fr.r (by decide)) (h12) (h13) (h10) (by omega))) ?_
  refine rs1 (vC_e (ck_65 hR)) ?_
  have hm1 : i + 1 < m := hS.more i (by omega) (by omega) (by omega)
  refine rs1 (cV_e (a64q (by omega) hS hR (hTk.fr (WL := W_66) Fr.r (by decide)) (h12) (h13) (h10) (li_4) (i2 := (i + 1)) (by omega) (by omega))) ?_
  have hk2 := (hS.ok (i + 1) (by omega) (by omega)).r
  refine rs1 (jn_v) ?_
  refine rs1 (if_pos (eqI_p (li_0) (li_0) (by omega))) ?_
  refine rs1 (jv_e) ?_
  exact Rt.okI (z := z) (cvI (hz) (by omega)) ⟨rfl, (Fr.sI (by decide) (Fr.sI (by decide) Fr.r)), (sI_nej (by decide)).trans (sI_eq), sI_eq, (sI_nej (by decide)).trans ((sI_nej (by decide)).trans (h10))⟩
theorem a219_a {d : Nat} {M : Mem} (hd : 6 ≤ d) {T : Int → Int} {n m : Int} {kd pl E : Int → Int} {tx : Int → Int64} (hS : TkS T n m kd pl E tx) (hR : RT M) (hT : Tp 160 1 161 T n M) (hW : ∀ i, 0 ≤ i → i < 28 → M.2.1 194 i.toNat = WR i) {i : Int} (h36 : M.1 160 36 = iI (kr (kd i))) (h37 : M.1 160 37 = iI (pl i)) (h38 : M.1 160 38 = iI (E i)) (h41 : M.1 160 41 = iI 0) (hn : NmR M (kd i) (tx i)) {z : Int} (hz : (tx i).toInt32 = iI z) (h : 0 ≤ i ∧ i < m ∧ m ≤ 1400 ∧ kd i = 4 ∧ 0 ≤ z ∧ z ≤ 999999999) : Rt (runX d 219 [va_rf (some 160)] M) (fun v M2 => Fr W_219 M M2 ∧ M2.1 160 36 = iI ((kr (kd (i + 1)))) ∧ M2.1 160 37 = iI ((pl (i + 1))) ∧ M2.1 160 38 = iI ((E (i + 1))) ∧ M2.1 160 41 = iI 0 ∧ M2.1 160 62 = iI z ∧ (NmR M2 (kd (i + 1)) (tx (i + 1)))) := by
  obtain ⟨d, rfl⟩ : ∃ e, d = e + 1 := ⟨d - 1, by omega⟩
  have hk0 := (hS.ok i (by omega) (by omega)).r
  have hm := hS.2.2.1
  rw [r219]; unfold b219; rw [aR_e, aZ_e]; unfold c219
  refine rs1 (gtI_q (w := iI ((kr (kd i)))) (rk_160 hR) (h36)) ?_
  refine rs1 (jn_v) ?_
  refine rs1 (if_neg (krI_n (k := 45) (rfl) (li_45) (hS.ok i (by omega) (by omega)) (by unfold KdOK sgk; omega) (by decide +kernel) (by omega) (by omega))) ?_
  refine rs1 (jv_e) ?_
  refine rs1 (jn_v) ?_
  refine rs1 (if_pos (eqI_p (li_0) (li_0) (by omega))) ?_
  refine rs1 (jv_e) ?_
  refine rs1 (gtI_q (w := iI 0) (rk_160 hR) (h41)) ?_
  refine rs1 (jn_v) ?_
  refine rs1 (if_pos (eqI_p (rfl) (li_0) (by omega))) ?_
  refine rs1 (gtI_q (w := iI ((kr (kd i)))) (rk_160 hR) (h36)) ?_
  refine rs1 (jn_v) ?_
  refine rs1 (if_pos (krI_p (k := 4) (rfl) (li_2) (by omega) (by decide +kernel))) ?_
  refine rs1 (jv_e) ?_
  refine rs1 (vC_e (rk_160 hR)) ?_
  refine rs1 (cI_e (ar193_p (by omega) hS hR (h36) (h37) (h41) (li_1) (by omega))) ?_
  refine rs1 (if_neg (eqI_n (rfl) (li_0) (by omega))) ?_
  refine rs1 (jn_v) ?_
  refine rs1 (if_pos (eqI_p (li_0) (li_0) (by omega))) ?_
  refine rs1 (gtI_q (w := iI z) (rk_160 hR) (((hn).2 (by omega)).trans hz)) ?_
  refine rs1 (jv_e) ?_
  refine rs1 (ptI_q (z := z) (rk_160 hR) (rfl)) ?_
  refine rs1 (vC_e (rk_160 hR.sI)) ?_
  have hm1 : i + 1 < m := hS.more i (by omega) (by omega) (by omega)
  have hk2 := (hS.ok (i + 1) (by omega) (by omega)).r
  refine Rc_V (nx_q (by omega) hS hR.sI (hT.fr (W := W_219) (Fr.sI (by decide) Fr.r) (by decide) (by decide)) (fun i a b => (Fr.lc (W := W_219) (Fr.sI (by decide) Fr.r) _ (by decide) _).trans (hW i a b)) (i := i) (i2 := (i + 1)) ((sI_nej (by decide)).trans (h41)) ((sI_nej (by decide)).trans (h38)) (by omega) (by omega) (by omega)) fun v Ma3 h3 => ?_
  obtain ⟨g3, e3_k0, e3_k1, e3_k2, p3_0⟩ := h3
  have f3 : Fr W_219 M Ma3 := Fr.t (Fr.sI (by decide) Fr.r) (Fr.m g3 (by decide))
  refine rs1 (cV_e rfl) ?_
  refine rs1 (jv_e) ?_
  exact Rt.ok ⟨f3, e3_k0, e3_k1, e3_k2, (g3.i _ _ (by decide)).trans ((sI_nej (by decide)).trans (h41)), (g3.i _ _ (by decide)).trans (sI_eq), p3_0⟩
theorem a68_b {d : Nat} {M : Mem} (hd : 3 ≤ d) {T : Int → Int} {n m : Int} {kd pl E : Int → Int} {tx : Int → Int64} (hS : TkS T n m kd pl E tx) (hR : CT M) (hTk : TkA M m kd pl tx) {i : Int} (h12 : M.1 65 12 = iI i) (h13 : M.1 65 13 = iI (kd i)) (h10 : M.1 65 10 = iI 0) {z : Int} (hz : (tx (i + 1)).toInt32 = iI z) (h : 0 ≤ i ∧ i < m ∧ m ≤ 1400 ∧ kd i = 45 ∧ kd (i + 1) = 4 ∧ 0 ≤ z ∧ z ≤ 999999999) : Rt (runX d 68 [va_rf (some 65)] M) (fun v M2 => v = .int (iI (-z)) ∧ Fr W_66 M M2 ∧ M2.1 65 12 = iI (i + 2) ∧ M2.1 65 13 = iI ((kd (i + 2))) ∧ M2.1 65 10 = iI 0) := by
  obtain ⟨d, rfl⟩ : ∃ e, d = e + 1 := ⟨d - 1, by omega⟩
  have hC := hR
  have hk0 := (hS.ok i (by omega) (by omega)).r
  have hm := hS.2.2.1
  rw [r68]; unfold b68; rw [aR_e, aZ_e]; unfold c68
  refine rs1 (gtI_q (w := iI ((kd i))) (ck_65 hR) (h13)) ?_
  refine rs1 (jn_v) ?_
  refine rs1 (if_pos (eqI_p (rfl) (li_45) (by omega))) ?_
  refine rs1 (jv_e) ?_
  refine rs1 (jn_v) ?_
  refine rs1 (if_neg (eqI_n (li_1) (li_0) (by omega))) ?_
  refine rs1 (vC_e (ck_65 hR)) ?_
  have hm1 : i + 1 < m := hS.more i (by omega) (by omega) (by omega)
  refine rs1 (cV_e (a63q (by omega) hS hR (hTk.fr (WL := W_66) Fr.r (by decide)) (h12) (h13) (h10) (i2 := (i + 1)) (by omega) (by omega))) ?_
  have hk2 := (hS.ok (i + 1) (by omega) (by omega)).r
  refine rs1 (jv_e) ?_
  refine rs1 (vC_e (ck_65 hR.sI.sI)) ?_
  refine rs1 (cL_e (a65 (by omega) hS hR.sI.sI (hTk.fr (WL := W_66) (Fr.sI (by decide) (Fr.sI (by decide) Fr.r)) (by decide)) ((sI_nej (by decide)).trans (sI_eq)) (sI_eq) ((sI_nej (by decide)).trans ((sI_nej (by decide)).trans (h10))) (by omega))) ?_
  refine rs1 (vC_e (ck_65 hR.sI.sI)) ?_
  have hm3 : (i + 1) + 1 < m := hS.more (i + 1) (by omega) (by omega) (by omega)
  refine rs1 (cV_e (a64q (by omega) hS hR.sI.sI (hTk.fr (WL := W_66) (Fr.sI (by decide) (Fr.sI (by decide) Fr.r)) (by decide)) ((sI_nej (by decide)).trans (sI_eq)) (sI_eq) ((sI_nej (by decide)).trans ((sI_nej (by decide)).trans (h10))) (li_4) (i2 := (i + 2)) (by omega) (by omega))) ?_
  have hk4 := (hS.ok (i + 2) (by omega) (by omega)).r
  refine rs1 (jn_v) ?_
  refine rs1 (if_neg (eqI_n (li_1) (li_0) (by omega))) ?_
  refine rs1 (jv_e) ?_
  exact Rt.okI (z := (-z)) (cvI (ngI (hz)) (by omega)) ⟨rfl, (Fr.sI (by decide) (Fr.sI (by decide) (Fr.sI (by decide) (Fr.sI (by decide) Fr.r)))), (sI_nej (by decide)).trans (sI_eq), sI_eq, (sI_nej (by decide)).trans ((sI_nej (by decide)).trans ((sI_nej (by decide)).trans ((sI_nej (by decide)).trans (h10))))⟩
theorem a219_b {d : Nat} {M : Mem} (hd : 6 ≤ d) {T : Int → Int} {n m : Int} {kd pl E : Int → Int} {tx : Int → Int64} (hS : TkS T n m kd pl E tx) (hR : RT M) (hT : Tp 160 1 161 T n M) (hW : ∀ i, 0 ≤ i → i < 28 → M.2.1 194 i.toNat = WR i) {i : Int} (h36 : M.1 160 36 = iI (kr (kd i))) (h37 : M.1 160 37 = iI (pl i)) (h38 : M.1 160 38 = iI (E i)) (h41 : M.1 160 41 = iI 0) (hn : NmR M (kd i) (tx i)) {z : Int} (hz : (tx (i + 1)).toInt32 = iI z) (h : 0 ≤ i ∧ i < m ∧ m ≤ 1400 ∧ kd i = 45 ∧ kd (i + 1) = 4 ∧ 0 ≤ z ∧ z ≤ 999999999) : Rt (runX d 219 [va_rf (some 160)] M) (fun v M2 => Fr W_219 M M2 ∧ M2.1 160 36 = iI ((kr (kd (i + 2)))) ∧ M2.1 160 37 = iI ((pl (i + 2))) ∧ M2.1 160 38 = iI ((E (i + 2))) ∧ M2.1 160 41 = iI 0 ∧ M2.1 160 62 = iI (-z) ∧ (NmR M2 (kd (i + 2)) (tx (i + 2)))) := by
  obtain ⟨d, rfl⟩ : ∃ e, d = e + 1 := ⟨d - 1, by omega⟩
  have hk0 := (hS.ok i (by omega) (by omega)).r
  have hm := hS.2.2.1
  rw [r219]; unfold b219; rw [aR_e, aZ_e]; unfold c219
  refine rs1 (gtI_q (w := iI ((kr (kd i)))) (rk_160 hR) (h36)) ?_
  refine rs1 (jn_v) ?_
  refine rs1 (if_pos (krI_p (k := 45) (rfl) (li_45) (by omega) (by decide +kernel))) ?_
  refine rs1 (jv_e) ?_
  refine rs1 (jn_v) ?_
  refine rs1 (if_neg (eqI_n (li_1) (li_0) (by omega))) ?_
  refine rs1 (vC_e (rk_160 hR)) ?_
  have hm1 : i + 1 < m := hS.more i (by omega) (by omega) (by omega)
  have hk2 := (hS.ok (i + 1) (by omega) (by omega)).r
  refine Rc_V (nx_q (by omega) hS hR (hT.fr (W := W_219) Fr.r (by decide) (by decide)) (fun i a b => (Fr.lc (W := W_219) Fr.r _ (by decide) _).trans (hW i a b)) (i := i) (i2 := (i + 1)) (h41) (h38) (by omega) (by omega) (by omega)) fun v Ma3 h3 => ?_
  obtain ⟨g3, e3_k0, e3_k1, e3_k2, p3_0⟩ := h3
  have f3 : Fr W_219 M Ma3 := Fr.t Fr.r (Fr.m g3 (by decide))
  refine rs1 (cV_e rfl) ?_
  refine rs1 (jv_e) ?_
  refine rs1 (gtI_q (w := iI 0) (rk_160 (hR.fr f3)) ((g3.i _ _ (by decide)).trans (h41))) ?_
  refine rs1 (jn_v) ?_
  refine rs1 (if_pos (eqI_p (rfl) (li_0) (by omega))) ?_
  refine rs1 (gtI_q (w := iI ((kr (kd (i + 1))))) (rk_160 (hR.fr f3)) (e3_k0)) ?_
  refine rs1 (jn_v) ?_
  refine rs1 (if_pos (krI_p (k := 4) (rfl) (li_2) (by omega) (by decide +kernel))) ?_
  refine rs1 (jv_e) ?_
  refine rs1 (vC_e (rk_160 (hR.fr f3))) ?_
  refine rs1 (cI_e (ar193_p (by omega) hS (hR.fr f3) (e3_k0) (e3_k1) ((g3.i _ _ (by decide)).trans (h41)) (li_1) (by omega))) ?_
  refine rs1 (if_neg (eqI_n (rfl) (li_0) (by omega))) ?_
  refine rs1 (jn_v) ?_
  refine rs1 (if_neg (eqI_n (li_1) (li_0) (by omega))) ?_
  refine rs1 (gtI_q (w := iI z) (rk_160 (hR.fr f3)) (((p3_0).2 (by omega)).trans hz)) ?_
  refine rs1 (jv_e) ?_
  refine rs1 (ptI_q (z := (-z)) (rk_160 (hR.fr f3)) (ngI (rfl))) ?_
  refine rs1 (vC_e (rk_160 (hR.fr f3).sI)) ?_
  have hm4 : (i + 1) + 1 < m := hS.more (i + 1) (by omega) (by omega) (by omega)
  have hk5 := (hS.ok (i + 2) (by omega) (by omega)).r
  refine Rc_V (nx_q (by omega) hS (hR.fr f3).sI (hT.fr (W := W_219) (Fr.sI (by decide) f3) (by decide) (by decide)) (fun i a b => (Fr.lc (W := W_219) (Fr.sI (by decide) f3) _ (by decide) _).trans (hW i a b)) (i := (i + 1)) (i2 := (i + 2)) ((sI_nej (by decide)).trans ((g3.i _ _ (by decide)).trans (h41))) ((sI_nej (by decide)).trans (e3_k2)) (by omega) (by omega) (by omega)) fun v Ma6 h6 => ?_
  obtain ⟨g6, e6_k0, e6_k1, e6_k2, p6_0⟩ := h6
  have f6 : Fr W_219 M Ma6 := Fr.t (Fr.sI (by decide) f3) (Fr.m g6 (by decide))
  refine rs1 (cV_e rfl) ?_
  refine rs1 (jv_e) ?_
  exact Rt.ok ⟨f6, e6_k0, e6_k1, e6_k2, (g6.i _ _ (by decide)).trans ((sI_nej (by decide)).trans ((g3.i _ _ (by decide)).trans (h41))), (g6.i _ _ (by decide)).trans (sI_eq), p6_0⟩
theorem a68_1 {d : Nat} {M : Mem} (hd : 3 ≤ d) {T : Int → Int} {n m : Int} {kd pl E : Int → Int} {tx : Int → Int64} (hS : TkS T n m kd pl E tx) (hR : CT M) (hTk : TkA M m kd pl tx) {i : Int} (h12 : M.1 65 12 = iI i) (h13 : M.1 65 13 = iI (kd i)) (h10 : M.1 65 10 = iI 0) (h : 0 ≤ i ∧ i < m ∧ m ≤ 1400 ∧ kd i = 1) : Rt (runX d 68 [va_rf (some 65)] M) (fun v M2 => ∃ (r : Int), v = .int (iI r) ∧ Fr W_66 M M2 ∧ M2.1 65 12 = iI i ∧ M2.1 65 13 = iI 2 ∧ M2.1 65 10 = iI 1 ∧ M2.1 65 11 = iI ((pl i))) := by
  obtain ⟨d, rfl⟩ : ∃ e, d = e + 1 := ⟨d - 1, by omega⟩
  have hC := hR
  have hk0 := (hS.ok i (by omega) (by omega)).r
  have hm := hS.2.2.1
  rw [r68]; unfold b68; rw [aR_e, aZ_e]; unfold c68
  refine rs1 (gtI_q (w := iI ((kd i))) (ck_65 hR) (h13)) ?_
  refine rs1 (jn_v) ?_
  refine rs1 (if_neg (eqI_n (rfl) (li_45) (by omega))) ?_
  refine rs1 (jv_e) ?_
  refine rs1 (jn_v) ?_
  refine rs1 (if_pos (eqI_p (li_0) (li_0) (by omega))) ?_
  refine rs1 (jv_e) ?_
  refine rs1 (vC_e (ck_65 hR)) ?_
  refine rs1 (cL_e (a65 (by omega) hS hR (hTk.fr (WL := W_66) Fr.r (by decide)) (h12) (h13) (h10) (by omega))) ?_
  refine rs1 (vC_e (ck_65 hR)) ?_
  refine rs1 (cV_e (a64_1 (by omega) hS hR (hTk.fr (WL := W_66) Fr.r (by decide)) (h12) (h13) (h10) (li_4) (by omega))) ?_
  refine rs1 (jn_v) ?_
  refine rs1 (if_pos (eqI_p (li_0) (li_0) (by omega))) ?_
  refine rs1 (jv_e) ?_
  exact Rt.okI (z := (((tx i).toInt32.toInt))) ((iI_eta _).symm) ⟨(((tx i).toInt32.toInt)), rfl, (Fr.sI (by decide) (Fr.sI (by decide) (Fr.sI (by decide) Fr.r))), (sI_nej (by decide)).trans ((sI_nej (by decide)).trans ((sI_nej (by decide)).trans (h12))), sI_eq, (sI_nej (by decide)).trans ((sI_nej (by decide)).trans (sI_eq)), (sI_nej (by decide)).trans (sI_eq)⟩
theorem a219_1 {d : Nat} {M : Mem} (hd : 6 ≤ d) {T : Int → Int} {n m : Int} {kd pl E : Int → Int} {tx : Int → Int64} (hS : TkS T n m kd pl E tx) (hR : RT M) (hT : Tp 160 1 161 T n M) (hW : ∀ i, 0 ≤ i → i < 28 → M.2.1 194 i.toNat = WR i) {i : Int} (h36 : M.1 160 36 = iI (kr (kd i))) (h37 : M.1 160 37 = iI (pl i)) (h38 : M.1 160 38 = iI (E i)) (h41 : M.1 160 41 = iI 0) (hn : NmR M (kd i) (tx i)) (h : 0 ≤ i ∧ i < m ∧ m ≤ 1400 ∧ kd i = 1) : Rt (runX d 219 [va_rf (some 160)] M) (fun v M2 => Fr W_219 M M2 ∧ M2.1 160 36 = iI ((kr (kd i))) ∧ M2.1 160 37 = iI ((pl i)) ∧ M2.1 160 38 = iI ((E i)) ∧ M2.1 160 41 = iI 1 ∧ M2.1 160 42 = iI ((pl i))) := by
  obtain ⟨d, rfl⟩ : ∃ e, d = e + 1 := ⟨d - 1, by omega⟩
  have hk0 := (hS.ok i (by omega) (by omega)).r
  have hm := hS.2.2.1
  rw [r219]; unfold b219; rw [aR_e, aZ_e]; unfold c219
  refine rs1 (gtI_q (w := iI ((kr (kd i)))) (rk_160 hR) (h36)) ?_
  refine rs1 (jn_v) ?_
  refine rs1 (if_neg (krI_n (k := 45) (rfl) (li_45) (hS.ok i (by omega) (by omega)) (by unfold KdOK sgk; omega) (by decide +kernel) (by omega) (by omega))) ?_
  refine rs1 (jv_e) ?_
  refine rs1 (jn_v) ?_
  refine rs1 (if_pos (eqI_p (li_0) (li_0) (by omega))) ?_
  refine rs1 (jv_e) ?_
  refine rs1 (gtI_q (w := iI 0) (rk_160 hR) (h41)) ?_
  refine rs1 (jn_v) ?_
  refine rs1 (if_pos (eqI_p (rfl) (li_0) (by omega))) ?_
  refine rs1 (gtI_q (w := iI ((kr (kd i)))) (rk_160 hR) (h36)) ?_
  refine rs1 (jn_v) ?_
  refine rs1 (if_neg (krI_n (k := 4) (rfl) (li_2) (hS.ok i (by omega) (by omega)) (by unfold KdOK sgk; omega) (by decide +kernel) (by omega) (by omega))) ?_
  refine rs1 (jv_e) ?_
  refine rs1 (vC_e (rk_160 hR)) ?_
  refine rs1 (cI_e (ar193_1 (by omega) hS hR (h36) (h37) (h41) (li_0) (by omega))) ?_
  refine rs1 (if_pos (eqI_p (rfl) (li_0) (by omega))) ?_
  refine rs1 (jv_e) ?_
  exact Rt.ok ⟨(Fr.sI (by decide) (Fr.sI (by decide) Fr.r)), (sI_nej (by decide)).trans ((sI_nej (by decide)).trans (h36)), (sI_nej (by decide)).trans ((sI_nej (by decide)).trans (h37)), (sI_nej (by decide)).trans ((sI_nej (by decide)).trans (h38)), (sI_nej (by decide)).trans (sI_eq), sI_eq⟩
theorem a68_2 {d : Nat} {M : Mem} (hd : 3 ≤ d) {T : Int → Int} {n m : Int} {kd pl E : Int → Int} {tx : Int → Int64} (hS : TkS T n m kd pl E tx) (hR : CT M) (hTk : TkA M m kd pl tx) {i : Int} (h12 : M.1 65 12 = iI i) (h13 : M.1 65 13 = iI (kd i)) (h10 : M.1 65 10 = iI 0) (h : 0 ≤ i ∧ i < m ∧ m ≤ 1400 ∧ kd i ≠ 4 ∧ kd i ≠ 45 ∧ kd i ≠ 1) : Rt (runX d 68 [va_rf (some 65)] M) (fun v M2 => ∃ (r : Int), v = .int (iI r) ∧ Fr W_66 M M2 ∧ M2.1 65 12 = iI i ∧ M2.1 65 13 = iI 2 ∧ M2.1 65 10 = iI 2 ∧ M2.1 65 11 = iI ((pl i))) := by
  obtain ⟨d, rfl⟩ : ∃ e, d = e + 1 := ⟨d - 1, by omega⟩
  have hC := hR
  have hk0 := (hS.ok i (by omega) (by omega)).r
  have hm := hS.2.2.1
  rw [r68]; unfold b68; rw [aR_e, aZ_e]; unfold c68
  refine rs1 (gtI_q (w := iI ((kd i))) (ck_65 hR) (h13)) ?_
  refine rs1 (jn_v) ?_
  refine rs1 (if_neg (eqI_n (rfl) (li_45) (by omega))) ?_
  refine rs1 (jv_e) ?_
  refine rs1 (jn_v) ?_
  refine rs1 (if_pos (eqI_p (li_0) (li_0) (by omega))) ?_
  refine rs1 (jv_e) ?_
  refine rs1 (vC_e (ck_65 hR)) ?_
  refine rs1 (cL_e (a65 (by omega) hS hR (hTk.fr (WL := W_66) Fr.r (by decide)) (h12) (h13) (h10) (by omega))) ?_
  refine rs1 (vC_e (ck_65 hR)) ?_
  refine rs1 (cV_e (a64_2 (by omega) hS hR (hTk.fr (WL := W_66) Fr.r (by decide)) (h12) (h13) (h10) (li_4) (by omega))) ?_
  refine rs1 (jn_v) ?_
  refine rs1 (if_pos (eqI_p (li_0) (li_0) (by omega))) ?_
  refine rs1 (jv_e) ?_
  exact Rt.okI (z := (((tx i).toInt32.toInt))) ((iI_eta _).symm) ⟨(((tx i).toInt32.toInt)), rfl, (Fr.sI (by decide) (Fr.sI (by decide) (Fr.sI (by decide) Fr.r))), (sI_nej (by decide)).trans ((sI_nej (by decide)).trans ((sI_nej (by decide)).trans (h12))), sI_eq, (sI_nej (by decide)).trans ((sI_nej (by decide)).trans (sI_eq)), (sI_nej (by decide)).trans (sI_eq)⟩
theorem a219_2 {d : Nat} {M : Mem} (hd : 6 ≤ d) {T : Int → Int} {n m : Int} {kd pl E : Int → Int} {tx : Int → Int64} (hS : TkS T n m kd pl E tx) (hR : RT M) (hT : Tp 160 1 161 T n M) (hW : ∀ i, 0 ≤ i → i < 28 → M.2.1 194 i.toNat = WR i) {i : Int} (h36 : M.1 160 36 = iI (kr (kd i))) (h37 : M.1 160 37 = iI (pl i)) (h38 : M.1 160 38 = iI (E i)) (h41 : M.1 160 41 = iI 0) (hn : NmR M (kd i) (tx i)) (h : 0 ≤ i ∧ i < m ∧ m ≤ 1400 ∧ kd i ≠ 4 ∧ kd i ≠ 45 ∧ kd i ≠ 1) : Rt (runX d 219 [va_rf (some 160)] M) (fun v M2 => Fr W_219 M M2 ∧ M2.1 160 36 = iI ((kr (kd i))) ∧ M2.1 160 37 = iI ((pl i)) ∧ M2.1 160 38 = iI ((E i)) ∧ M2.1 160 41 = iI 2 ∧ M2.1 160 42 = iI ((pl i))) := by
  obtain ⟨d, rfl⟩ : ∃ e, d = e + 1 := ⟨d - 1, by omega⟩
  have hk0 := (hS.ok i (by omega) (by omega)).r
  have hm := hS.2.2.1
  rw [r219]; unfold b219; rw [aR_e, aZ_e]; unfold c219
  refine rs1 (gtI_q (w := iI ((kr (kd i)))) (rk_160 hR) (h36)) ?_
  refine rs1 (jn_v) ?_
  refine rs1 (if_neg (krI_n (k := 45) (rfl) (li_45) (hS.ok i (by omega) (by omega)) (by unfold KdOK sgk; omega) (by decide +kernel) (by omega) (by omega))) ?_
  refine rs1 (jv_e) ?_
  refine rs1 (jn_v) ?_
  refine rs1 (if_pos (eqI_p (li_0) (li_0) (by omega))) ?_
  refine rs1 (jv_e) ?_
  refine rs1 (gtI_q (w := iI 0) (rk_160 hR) (h41)) ?_
  refine rs1 (jn_v) ?_
  refine rs1 (if_pos (eqI_p (rfl) (li_0) (by omega))) ?_
  refine rs1 (gtI_q (w := iI ((kr (kd i)))) (rk_160 hR) (h36)) ?_
  refine rs1 (jn_v) ?_
  refine rs1 (if_neg (krI_n (k := 4) (rfl) (li_2) (hS.ok i (by omega) (by omega)) (by unfold KdOK sgk; omega) (by decide +kernel) (by omega) (by omega))) ?_
  refine rs1 (jv_e) ?_
  refine rs1 (vC_e (rk_160 hR)) ?_
  refine rs1 (cI_e (ar193_2 (by omega) hS hR (h36) (h37) (h41) (li_0) (by omega))) ?_
  refine rs1 (if_pos (eqI_p (rfl) (li_0) (by omega))) ?_
  refine rs1 (jv_e) ?_
  exact Rt.ok ⟨(Fr.sI (by decide) (Fr.sI (by decide) Fr.r)), (sI_nej (by decide)).trans ((sI_nej (by decide)).trans (h36)), (sI_nej (by decide)).trans ((sI_nej (by decide)).trans (h37)), (sI_nej (by decide)).trans ((sI_nej (by decide)).trans (h38)), (sI_nej (by decide)).trans (sI_eq), sI_eq⟩
theorem a68_d1 {d : Nat} {M : Mem} (hd : 3 ≤ d) {T : Int → Int} {n m : Int} {kd pl E : Int → Int} {tx : Int → Int64} (hS : TkS T n m kd pl E tx) (hR : CT M) (hTk : TkA M m kd pl tx) {i : Int} (h12 : M.1 65 12 = iI i) (h13 : M.1 65 13 = iI (kd i)) (h10 : M.1 65 10 = iI 0) (h : 0 ≤ i ∧ i < m ∧ m ≤ 1400 ∧ kd i = 45 ∧ kd (i + 1) = 1) : Rt (runX d 68 [va_rf (some 65)] M) (fun v M2 => ∃ (r : Int), v = .int (iI r) ∧ Fr W_66 M M2 ∧ M2.1 65 12 = iI (i + 1) ∧ M2.1 65 13 = iI 2 ∧ M2.1 65 10 = iI 1 ∧ M2.1 65 11 = iI ((pl (i + 1)))) := by
  obtain ⟨d, rfl⟩ : ∃ e, d = e + 1 := ⟨d - 1, by omega⟩
  have hC := hR
  have hk0 := (hS.ok i (by omega) (by omega)).r
  have hm := hS.2.2.1
  rw [r68]; unfold b68; rw [aR_e, aZ_e]; unfold c68
  refine rs1 (gtI_q (w := iI ((kd i))) (ck_65 hR) (h13)) ?_
  refine rs1 (jn_v) ?_
  refine rs1 (if_pos (eqI_p (rfl) (li_45) (by omega))) ?_
  refine rs1 (jv_e) ?_
  refine rs1 (jn_v) ?_
  refine rs1 (if_neg (eqI_n (li_1) (li_0) (by omega))) ?_
  refine rs1 (vC_e (ck_65 hR)) ?_
  have hm1 : i + 1 < m := hS.more i (by omega) (by omega) (by omega)
  refine rs1 (cV_e (a63q (by omega) hS hR (hTk.fr (WL := W_66) Fr.r (by decide)) (h12) (h13) (h10) (i2 := (i + 1)) (by omega) (by omega))) ?_
  have hk2 := (hS.ok (i + 1) (by omega) (by omega)).r
  refine rs1 (jv_e) ?_
  refine rs1 (vC_e (ck_65 hR.sI.sI)) ?_
  refine rs1 (cL_e (a65 (by omega) hS hR.sI.sI (hTk.fr (WL := W_66) (Fr.sI (by decide) (Fr.sI (by decide) Fr.r)) (by decide)) ((sI_nej (by decide)).trans (sI_eq)) (sI_eq) ((sI_nej (by decide)).trans ((sI_nej (by decide)).trans (h10))) (by omega))) ?_
  refine rs1 (vC_e (ck_65 hR.sI.sI)) ?_
  refine rs1 (cV_e (a64_1 (by omega) hS hR.sI.sI (hTk.fr (WL := W_66) (Fr.sI (by decide) (Fr.sI (by decide) Fr.r)) (by decide)) ((sI_nej (by decide)).trans (sI_eq)) (sI_eq) ((sI_nej (by decide)).trans ((sI_nej (by decide)).trans (h10))) (li_4) (by omega))) ?_
  refine rs1 (jn_v) ?_
  refine rs1 (if_neg (eqI_n (li_1) (li_0) (by omega))) ?_
  refine rs1 (jv_e) ?_
  exact Rt.okI (z := (-((tx (i + 1)).toInt32.toInt))) (cvI (ngI ((iI_eta _).symm)) (by omega)) ⟨(-((tx (i + 1)).toInt32.toInt)), rfl, (Fr.sI (by decide) (Fr.sI (by decide) (Fr.sI (by decide) (Fr.sI (by decide) (Fr.sI (by decide) Fr.r))))), (sI_nej (by decide)).trans ((sI_nej (by decide)).trans ((sI_nej (by decide)).trans ((sI_nej (by decide)).trans (sI_eq)))), sI_eq, (sI_nej (by decide)).trans ((sI_nej (by decide)).trans (sI_eq)), (sI_nej (by decide)).trans (sI_eq)⟩
theorem a219_d1 {d : Nat} {M : Mem} (hd : 6 ≤ d) {T : Int → Int} {n m : Int} {kd pl E : Int → Int} {tx : Int → Int64} (hS : TkS T n m kd pl E tx) (hR : RT M) (hT : Tp 160 1 161 T n M) (hW : ∀ i, 0 ≤ i → i < 28 → M.2.1 194 i.toNat = WR i) {i : Int} (h36 : M.1 160 36 = iI (kr (kd i))) (h37 : M.1 160 37 = iI (pl i)) (h38 : M.1 160 38 = iI (E i)) (h41 : M.1 160 41 = iI 0) (hn : NmR M (kd i) (tx i)) (h : 0 ≤ i ∧ i < m ∧ m ≤ 1400 ∧ kd i = 45 ∧ kd (i + 1) = 1) : Rt (runX d 219 [va_rf (some 160)] M) (fun v M2 => Fr W_219 M M2 ∧ M2.1 160 36 = iI ((kr (kd (i + 1)))) ∧ M2.1 160 37 = iI ((pl (i + 1))) ∧ M2.1 160 38 = iI ((E (i + 1))) ∧ M2.1 160 41 = iI 1 ∧ M2.1 160 42 = iI ((pl (i + 1)))) := by
  obtain ⟨d, rfl⟩ : ∃ e, d = e + 1 := ⟨d - 1, by omega⟩
  have hk0 := (hS.ok i (by omega) (by omega)).r
  have hm := hS.2.2.1
  rw [r219]; unfold b219; rw [aR_e, aZ_e]; unfold c219
  refine rs1 (gtI_q (w := iI ((kr (kd i)))) (rk_160 hR) (h36)) ?_
  refine rs1 (jn_v) ?_
  refine rs1 (if_pos (krI_p (k := 45) (rfl) (li_45) (by omega) (by decide +kernel))) ?_
  refine rs1 (jv_e) ?_
  refine rs1 (jn_v) ?_
  refine rs1 (if_neg (eqI_n (li_1) (li_0) (by omega))) ?_
  refine rs1 (vC_e (rk_160 hR)) ?_
  have hm1 : i + 1 < m := hS.more i (by omega) (by omega) (by omega)
  have hk2 := (hS.ok (i + 1) (by omega) (by omega)).r
  refine Rc_V (nx_q (by omega) hS hR (hT.fr (W := W_219) Fr.r (by decide) (by decide)) (fun i a b => (Fr.lc (W := W_219) Fr.r _ (by decide) _).trans (hW i a b)) (i := i) (i2 := (i + 1)) (h41) (h38) (by omega) (by omega) (by omega)) fun v Ma3 h3 => ?_
  obtain ⟨g3, e3_k0, e3_k1, e3_k2, p3_0⟩ := h3
  have f3 : Fr W_219 M Ma3 := Fr.t Fr.r (Fr.m g3 (by decide))
  refine rs1 (cV_e rfl) ?_
  refine rs1 (jv_e) ?_
  refine rs1 (gtI_q (w := iI 0) (rk_160 (hR.fr f3)) ((g3.i _ _ (by decide)).trans (h41))) ?_
  refine rs1 (jn_v) ?_
  refine rs1 (if_pos (eqI_p (rfl) (li_0) (by omega))) ?_
  refine rs1 (gtI_q (w := iI ((kr (kd (i + 1))))) (rk_160 (hR.fr f3)) (e3_k0)) ?_
  refine rs1 (jn_v) ?_
  refine rs1 (if_neg (krI_n (k := 4) (rfl) (li_2) (hS.ok (i + 1) (by omega) (by omega)) (by unfold KdOK sgk; omega) (by decide +kernel) (by omega) (by omega))) ?_
  refine rs1 (jv_e) ?_
  refine rs1 (vC_e (rk_160 (hR.fr f3))) ?_
  refine rs1 (cI_e (ar193_1 (by omega) hS (hR.fr f3) (e3_k0) (e3_k1) ((g3.i _ _ (by decide)).trans (h41)) (li_0) (by omega))) ?_
  refine rs1 (if_pos (eqI_p (rfl) (li_0) (by omega))) ?_
  refine rs1 (jv_e) ?_
  exact Rt.ok ⟨(Fr.sI (by decide) (Fr.sI (by decide) f3)), (sI_nej (by decide)).trans ((sI_nej (by decide)).trans (e3_k0)), (sI_nej (by decide)).trans ((sI_nej (by decide)).trans (e3_k1)), (sI_nej (by decide)).trans ((sI_nej (by decide)).trans (e3_k2)), (sI_nej (by decide)).trans (sI_eq), sI_eq⟩
theorem a68_d2 {d : Nat} {M : Mem} (hd : 3 ≤ d) {T : Int → Int} {n m : Int} {kd pl E : Int → Int} {tx : Int → Int64} (hS : TkS T n m kd pl E tx) (hR : CT M) (hTk : TkA M m kd pl tx) {i : Int} (h12 : M.1 65 12 = iI i) (h13 : M.1 65 13 = iI (kd i)) (h10 : M.1 65 10 = iI 0) (h : 0 ≤ i ∧ i < m ∧ m ≤ 1400 ∧ kd i = 45 ∧ kd (i + 1) ≠ 4 ∧ kd (i + 1) ≠ 1) : Rt (runX d 68 [va_rf (some 65)] M) (fun v M2 => ∃ (r : Int), v = .int (iI r) ∧ Fr W_66 M M2 ∧ M2.1 65 12 = iI (i + 1) ∧ M2.1 65 13 = iI 2 ∧ M2.1 65 10 = iI 2 ∧ M2.1 65 11 = iI ((pl (i + 1)))) := by
  obtain ⟨d, rfl⟩ : ∃ e, d = e + 1 := ⟨d - 1, by omega⟩
  have hC := hR
  have hk0 := (hS.ok i (by omega) (by omega)).r
  have hm := hS.2.2.1
  rw [r68]; unfold b68; rw [aR_e, aZ_e]; unfold c68
  refine rs1 (gtI_q (w := iI ((kd i))) (ck_65 hR) (h13)) ?_
  refine rs1 (jn_v) ?_
  refine rs1 (if_pos (eqI_p (rfl) (li_45) (by omega))) ?_
  refine rs1 (jv_e) ?_
  refine rs1 (jn_v) ?_
  refine rs1 (if_neg (eqI_n (li_1) (li_0) (by omega))) ?_
  refine rs1 (vC_e (ck_65 hR)) ?_
  have hm1 : i + 1 < m := hS.more i (by omega) (by omega) (by omega)
  refine rs1 (cV_e (a63q (by omega) hS hR (hTk.fr (WL := W_66) Fr.r (by decide)) (h12) (h13) (h10) (i2 := (i + 1)) (by omega) (by omega))) ?_
  have hk2 := (hS.ok (i + 1) (by omega) (by omega)).r
  refine rs1 (jv_e) ?_
  refine rs1 (vC_e (ck_65 hR.sI.sI)) ?_
  refine rs1 (cL_e (a65 (by omega) hS hR.sI.sI (hTk.fr (WL := W_66) (Fr.sI (by decide) (Fr.sI (by decide) Fr.r)) (by decide)) ((sI_nej (by decide)).trans (sI_eq)) (sI_eq) ((sI_nej (by decide)).trans ((sI_nej (by decide)).trans (h10))) (by omega))) ?_
  refine rs1 (vC_e (ck_65 hR.sI.sI)) ?_
  refine rs1 (cV_e (a64_2 (by omega) hS hR.sI.sI (hTk.fr (WL := W_66) (Fr.sI (by decide) (Fr.sI (by decide) Fr.r)) (by decide)) ((sI_nej (by decide)).trans (sI_eq)) (sI_eq) ((sI_nej (by decide)).trans ((sI_nej (by decide)).trans (h10))) (li_4) (by omega))) ?_
  refine rs1 (jn_v) ?_
  refine rs1 (if_neg (eqI_n (li_1) (li_0) (by omega))) ?_
  refine rs1 (jv_e) ?_
  exact Rt.okI (z := (-((tx (i + 1)).toInt32.toInt))) (cvI (ngI ((iI_eta _).symm)) (by omega)) ⟨(-((tx (i + 1)).toInt32.toInt)), rfl, (Fr.sI (by decide) (Fr.sI (by decide) (Fr.sI (by decide) (Fr.sI (by decide) (Fr.sI (by decide) Fr.r))))), (sI_nej (by decide)).trans ((sI_nej (by decide)).trans ((sI_nej (by decide)).trans ((sI_nej (by decide)).trans (sI_eq)))), sI_eq, (sI_nej (by decide)).trans ((sI_nej (by decide)).trans (sI_eq)), (sI_nej (by decide)).trans (sI_eq)⟩
theorem a219_d2 {d : Nat} {M : Mem} (hd : 6 ≤ d) {T : Int → Int} {n m : Int} {kd pl E : Int → Int} {tx : Int → Int64} (hS : TkS T n m kd pl E tx) (hR : RT M) (hT : Tp 160 1 161 T n M) (hW : ∀ i, 0 ≤ i → i < 28 → M.2.1 194 i.toNat = WR i) {i : Int} (h36 : M.1 160 36 = iI (kr (kd i))) (h37 : M.1 160 37 = iI (pl i)) (h38 : M.1 160 38 = iI (E i)) (h41 : M.1 160 41 = iI 0) (hn : NmR M (kd i) (tx i)) (h : 0 ≤ i ∧ i < m ∧ m ≤ 1400 ∧ kd i = 45 ∧ kd (i + 1) ≠ 4 ∧ kd (i + 1) ≠ 1) : Rt (runX d 219 [va_rf (some 160)] M) (fun v M2 => Fr W_219 M M2 ∧ M2.1 160 36 = iI ((kr (kd (i + 1)))) ∧ M2.1 160 37 = iI ((pl (i + 1))) ∧ M2.1 160 38 = iI ((E (i + 1))) ∧ M2.1 160 41 = iI 2 ∧ M2.1 160 42 = iI ((pl (i + 1)))) := by
  obtain ⟨d, rfl⟩ : ∃ e, d = e + 1 := ⟨d - 1, by omega⟩
  have hk0 := (hS.ok i (by omega) (by omega)).r
  have hm := hS.2.2.1
  rw [r219]; unfold b219; rw [aR_e, aZ_e]; unfold c219
  refine rs1 (gtI_q (w := iI ((kr (kd i)))) (rk_160 hR) (h36)) ?_
  refine rs1 (jn_v) ?_
  refine rs1 (if_pos (krI_p (k := 45) (rfl) (li_45) (by omega) (by decide +kernel))) ?_
  refine rs1 (jv_e) ?_
  refine rs1 (jn_v) ?_
  refine rs1 (if_neg (eqI_n (li_1) (li_0) (by omega))) ?_
  refine rs1 (vC_e (rk_160 hR)) ?_
  have hm1 : i + 1 < m := hS.more i (by omega) (by omega) (by omega)
  have hk2 := (hS.ok (i + 1) (by omega) (by omega)).r
  refine Rc_V (nx_q (by omega) hS hR (hT.fr (W := W_219) Fr.r (by decide) (by decide)) (fun i a b => (Fr.lc (W := W_219) Fr.r _ (by decide) _).trans (hW i a b)) (i := i) (i2 := (i + 1)) (h41) (h38) (by omega) (by omega) (by omega)) fun v Ma3 h3 => ?_
  obtain ⟨g3, e3_k0, e3_k1, e3_k2, p3_0⟩ := h3
  have f3 : Fr W_219 M Ma3 := Fr.t Fr.r (Fr.m g3 (by decide))
  refine rs1 (cV_e rfl) ?_
  refine rs1 (jv_e) ?_
  refine rs1 (gtI_q (w := iI 0) (rk_160 (hR.fr f3)) ((g3.i _ _ (by decide)).trans (h41))) ?_
  refine rs1 (jn_v) ?_
  refine rs1 (if_pos (eqI_p (rfl) (li_0) (by omega))) ?_
  refine rs1 (gtI_q (w := iI ((kr (kd (i + 1))))) (rk_160 (hR.fr f3)) (e3_k0)) ?_
  refine rs1 (jn_v) ?_
  refine rs1 (if_neg (krI_n (k := 4) (rfl) (li_2) (hS.ok (i + 1) (by omega) (by omega)) (by unfold KdOK sgk; omega) (by decide +kernel) (by omega) (by omega))) ?_
  refine rs1 (jv_e) ?_
  refine rs1 (vC_e (rk_160 (hR.fr f3))) ?_
  refine rs1 (cI_e (ar193_2 (by omega) hS (hR.fr f3) (e3_k0) (e3_k1) ((g3.i _ _ (by decide)).trans (h41)) (li_0) (by omega))) ?_
  refine rs1 (if_pos (eqI_p (rfl) (li_0) (by omega))) ?_
  refine rs1 (jv_e) ?_
  exact Rt.ok ⟨(Fr.sI (by decide) (Fr.sI (by decide) f3)), (sI_nej (by decide)).trans ((sI_nej (by decide)).trans (e3_k0)), (sI_nej (by decide)).trans ((sI_nej (by decide)).trans (e3_k1)), (sI_nej (by decide)).trans ((sI_nej (by decide)).trans (e3_k2)), (sI_nej (by decide)).trans (sI_eq), sI_eq⟩
theorem a67_p {d : Nat} {M : Mem} (hd : 3 ≤ d) {T : Int → Int} {n m : Int} {kd pl E : Int → Int} {tx : Int → Int64} (hS : TkS T n m kd pl E tx) (hR : CT M) (hTk : TkA M m kd pl tx) {i : Int} (h12 : M.1 65 12 = iI i) (h13 : M.1 65 13 = iI (kd i)) (h10 : M.1 65 10 = iI 0) {z : Int} (hz : (tx i).toInt32 = iI z) {v0 v1 : Int32} {lo hi : Int} (hv0 : v0 = iI lo) (hv1 : v1 = iI hi) (h : 0 ≤ i ∧ i < m ∧ m ≤ 1400 ∧ kd i = 4 ∧ lo ≤ z ∧ z ≤ hi ∧ 0 ≤ z ∧ z ≤ 999999999 ∧ -1000 ≤ lo ∧ lo ≤ 1000 ∧ 0 ≤ hi ∧ hi ≤ 999999999) : Rt (runX d 67 [va_rf (some 65), .int v0, .int v1] M) (fun v M2 => v = .int (iI z) ∧ Fr W_66 M M2 ∧ M2.1 65 12 = iI (i + 1) ∧ M2.1 65 13 = iI ((kd (i + 1))) ∧ M2.1 65 10 = iI 0) := by
  obtain ⟨d, rfl⟩ : ∃ e, d = e + 1 := ⟨d - 1, by omega⟩
  have hC := hR
  have hk0 := (hS.ok i (by omega) (by omega)).r
  have hm := hS.2.2.1
  rw [r67]; unfold b67; rw [aR_e, aI_e, aI_e, aZ_e]; unfold c67
  refine rs1 (vC_e (ck_65 hR)) ?_
  refine rs1 (cL_e (a65 (by omega) hS hR (hTk.fr (WL := W_66) Fr.r (by decide)) (h12) (h13) (h10) (by omega))) ?_
  refine rs1 (gtI_q (w := iI ((kd i))) (ck_65 hR) (h13)) ?_
  refine rs1 (jn_v) ?_
  refine rs1 (if_pos (eqI_p (rfl) (li_4) (by omega))) ?_
  refine rs1 (jn_v) ?_
  refine rs1 (if_neg (lsI_n (hz) (hv0) (by omega))) ?_
  refine rs1 (if_pos (leI_p (hz) (hv1) (by omega))) ?_
  refine rs1 (jv_e) ?_
  refine rs1 (vC_e (ck_65 hR)) ?_
  have hm1 : i + 1 < m := hS.more i (by omega) (by omega) (by omega)
  refine rs1 (cV_e (a64q (by omega) hS hR (hTk.fr (WL := W_66) Fr.r (by decide)) (h12) (h13) (h10) (li_4) (i2 := (i + 1)) (by omega) (by omega))) ?_
  have hk2 := (hS.ok (i + 1) (by omega) (by omega)).r
  exact Rt.okI (z := z) (cvI (hz) (by omega)) ⟨rfl, (Fr.sI (by decide) (Fr.sI (by decide) Fr.r)), (sI_nej (by decide)).trans (sI_eq), sI_eq, (sI_nej (by decide)).trans ((sI_nej (by decide)).trans (h10))⟩
theorem a67_5l {d : Nat} {M : Mem} (hd : 3 ≤ d) {T : Int → Int} {n m : Int} {kd pl E : Int → Int} {tx : Int → Int64} (hS : TkS T n m kd pl E tx) (hR : CT M) (hTk : TkA M m kd pl tx) {i : Int} (h12 : M.1 65 12 = iI i) (h13 : M.1 65 13 = iI (kd i)) (h10 : M.1 65 10 = iI 0) {z : Int} (hz : (tx i).toInt32 = iI z) {v0 v1 : Int32} {lo hi : Int} (hv0 : v0 = iI lo) (hv1 : v1 = iI hi) {e0 sn uc : Int} (h9 : M.1 65 9 = iI e0) (h16 : M.1 65 16 = iI sn) (h19 : M.1 65 19 = iI uc) (h : 0 ≤ i ∧ i < m ∧ m ≤ 1400 ∧ kd i = 4 ∧ z < lo ∧ 0 ≤ z ∧ z ≤ 999999999 ∧ -1000 ≤ lo ∧ lo ≤ 1000 ∧ 0 ≤ hi ∧ hi ≤ 999999999 ∧ 0 ≤ e0 ∧ e0 ≤ 4096 ∧ 0 ≤ sn ∧ sn ≤ 10 ∧ 0 ≤ uc ∧ uc ≤ 1500) : Rt (runX d 67 [va_rf (some 65), .int v0, .int v1] M) (fun v M2 => v = .int (iI z) ∧ Fr W_cp M M2 ∧ FTc m 5 (pl i) M2) := by
  obtain ⟨d, rfl⟩ : ∃ e, d = e + 1 := ⟨d - 1, by omega⟩
  have hC := hR
  have hk0 := (hS.ok i (by omega) (by omega)).r
  have hm := hS.2.2.1
  rw [r67]; unfold b67; rw [aR_e, aI_e, aI_e, aZ_e]; unfold c67
  refine rs1 (vC_e (ck_65 hR)) ?_
  refine rs1 (cL_e (a65 (by omega) hS hR (hTk.fr (WL := W_cp) Fr.r (by decide)) (h12) (h13) (h10) (by omega))) ?_
  refine rs1 (gtI_q (w := iI ((kd i))) (ck_65 hR) (h13)) ?_
  refine rs1 (jn_v) ?_
  refine rs1 (if_pos (eqI_p (rfl) (li_4) (by omega))) ?_
  refine rs1 (jn_v) ?_
  refine rs1 (if_pos (lsI_p (hz) (hv0) (by omega))) ?_
  refine rs1 (jv_e) ?_
  refine rs1 (vC_e (ck_65 hR)) ?_
  refine rs1 (cV_e (a62_2 (by omega) hS hR (hTk.fr (WL := W_cp) Fr.r (by decide)) (h12) (h13) (h10) (li_5) (by omega))) ?_
  refine rs1 (jv_e) ?_
  refine rs1 (vC_e (ck_65 hR.sI.sI.sI)) ?_
  refine Rc_V (y64 (by omega) hR.sI.sI.sI (hTk.fr (WL := W_cp) (Fr.sI (by decide) (Fr.sI (by decide) (Fr.sI (by decide) Fr.r))) (by decide)) ((sI_nej (by decide)).trans ((sI_nej (by decide)).trans ((sI_nej (by decide)).trans (h12)))) (sI_eq) ((sI_nej (by decide)).trans ((sI_nej (by decide)).trans (sI_eq))) ((sI_nej (by decide)).trans (sI_eq)) ((sI_nej (by decide)).trans ((sI_nej (by decide)).trans ((sI_nej (by decide)).trans (h9)))) ((sI_nej (by decide)).trans ((sI_nej (by decide)).trans ((sI_nej (by decide)).trans (h16)))) ((sI_nej (by decide)).trans ((sI_nej (by decide)).trans ((sI_nej (by decide)).trans (h19)))) (li_4) (by omega)) fun v Ma2 h2 => ?_
  obtain ⟨sz1, sn1, uc1, g2, e2_sz1, e2_sn1, e2_uc1, e2_k0, e2_k1, e2_k2, e2_k3, p2_0, p2_1, p2_2⟩ := h2
  have f2 : Fr W_cp M Ma2 := Fr.t (Fr.sI (by decide) (Fr.sI (by decide) (Fr.sI (by decide) Fr.r))) (Fr.m g2 (by decide))
  refine rs1 (cV_e rfl) ?_
  exact Rt.okI (z := z) (cvI (hz) (by omega)) ⟨rfl, f2, ⟨i, sz1, sn1, uc1, e2_k0, e2_k1, e2_k2, e2_k3, e2_sz1, e2_sn1, e2_uc1, by omega⟩⟩
theorem a67_5h {d : Nat} {M : Mem} (hd : 3 ≤ d) {T : Int → Int} {n m : Int} {kd pl E : Int → Int} {tx : Int → Int64} (hS : TkS T n m kd pl E tx) (hR : CT M) (hTk : TkA M m kd pl tx) {i : Int} (h12 : M.1 65 12 = iI i) (h13 : M.1 65 13 = iI (kd i)) (h10 : M.1 65 10 = iI 0) {z : Int} (hz : (tx i).toInt32 = iI z) {v0 v1 : Int32} {lo hi : Int} (hv0 : v0 = iI lo) (hv1 : v1 = iI hi) {e0 sn uc : Int} (h9 : M.1 65 9 = iI e0) (h16 : M.1 65 16 = iI sn) (h19 : M.1 65 19 = iI uc) (h : 0 ≤ i ∧ i < m ∧ m ≤ 1400 ∧ kd i = 4 ∧ lo ≤ z ∧ hi < z ∧ 0 ≤ z ∧ z ≤ 999999999 ∧ -1000 ≤ lo ∧ lo ≤ 1000 ∧ 0 ≤ hi ∧ hi ≤ 999999999 ∧ 0 ≤ e0 ∧ e0 ≤ 4096 ∧ 0 ≤ sn ∧ sn ≤ 10 ∧ 0 ≤ uc ∧ uc ≤ 1500) : Rt (runX d 67 [va_rf (some 65), .int v0, .int v1] M) (fun v M2 => v = .int (iI z) ∧ Fr W_cp M M2 ∧ FTc m 5 (pl i) M2) := by
  obtain ⟨d, rfl⟩ : ∃ e, d = e + 1 := ⟨d - 1, by omega⟩
  have hC := hR
  have hk0 := (hS.ok i (by omega) (by omega)).r
  have hm := hS.2.2.1
  rw [r67]; unfold b67; rw [aR_e, aI_e, aI_e, aZ_e]; unfold c67
  refine rs1 (vC_e (ck_65 hR)) ?_
  refine rs1 (cL_e (a65 (by omega) hS hR (hTk.fr (WL := W_cp) Fr.r (by decide)) (h12) (h13) (h10) (by omega))) ?_
  refine rs1 (gtI_q (w := iI ((kd i))) (ck_65 hR) (h13)) ?_
  refine rs1 (jn_v) ?_
  refine rs1 (if_pos (eqI_p (rfl) (li_4) (by omega))) ?_
  refine rs1 (jn_v) ?_
  refine rs1 (if_neg (lsI_n (hz) (hv0) (by omega))) ?_
  refine rs1 (if_neg (leI_n (hz) (hv1) (by omega))) ?_
  refine rs1 (jv_e) ?_
  refine rs1 (vC_e (ck_65 hR)) ?_
  refine rs1 (cV_e (a62_2 (by omega) hS hR (hTk.fr (WL := W_cp) Fr.r (by decide)) (h12) (h13) (h10) (li_5) (by omega))) ?_
  refine rs1 (jv_e) ?_
  refine rs1 (vC_e (ck_65 hR.sI.sI.sI)) ?_
  refine Rc_V (y64 (by omega) hR.sI.sI.sI (hTk.fr (WL := W_cp) (Fr.sI (by decide) (Fr.sI (by decide) (Fr.sI (by decide) Fr.r))) (by decide)) ((sI_nej (by decide)).trans ((sI_nej (by decide)).trans ((sI_nej (by decide)).trans (h12)))) (sI_eq) ((sI_nej (by decide)).trans ((sI_nej (by decide)).trans (sI_eq))) ((sI_nej (by decide)).trans (sI_eq)) ((sI_nej (by decide)).trans ((sI_nej (by decide)).trans ((sI_nej (by decide)).trans (h9)))) ((sI_nej (by decide)).trans ((sI_nej (by decide)).trans ((sI_nej (by decide)).trans (h16)))) ((sI_nej (by decide)).trans ((sI_nej (by decide)).trans ((sI_nej (by decide)).trans (h19)))) (li_4) (by omega)) fun v Ma2 h2 => ?_
  obtain ⟨sz1, sn1, uc1, g2, e2_sz1, e2_sn1, e2_uc1, e2_k0, e2_k1, e2_k2, e2_k3, p2_0, p2_1, p2_2⟩ := h2
  have f2 : Fr W_cp M Ma2 := Fr.t (Fr.sI (by decide) (Fr.sI (by decide) (Fr.sI (by decide) Fr.r))) (Fr.m g2 (by decide))
  refine rs1 (cV_e rfl) ?_
  exact Rt.okI (z := z) (cvI (hz) (by omega)) ⟨rfl, f2, ⟨i, sz1, sn1, uc1, e2_k0, e2_k1, e2_k2, e2_k3, e2_sz1, e2_sn1, e2_uc1, by omega⟩⟩
theorem a67_1 {d : Nat} {M : Mem} (hd : 3 ≤ d) {T : Int → Int} {n m : Int} {kd pl E : Int → Int} {tx : Int → Int64} (hS : TkS T n m kd pl E tx) (hR : CT M) (hTk : TkA M m kd pl tx) {i : Int} (h12 : M.1 65 12 = iI i) (h13 : M.1 65 13 = iI (kd i)) (h10 : M.1 65 10 = iI 0) {v0 v1 : Int32} {lo hi : Int} (hv0 : v0 = iI lo) (hv1 : v1 = iI hi) (h : 0 ≤ i ∧ i < m ∧ m ≤ 1400 ∧ kd i = 1 ∧ -1000 ≤ lo ∧ lo ≤ 1000 ∧ 0 ≤ hi ∧ hi ≤ 999999999) : Rt (runX d 67 [va_rf (some 65), .int v0, .int v1] M) (fun v M2 => ∃ (r : Int), v = .int (iI r) ∧ Fr W_66 M M2 ∧ M2.1 65 12 = iI i ∧ M2.1 65 13 = iI 2 ∧ M2.1 65 10 = iI 1 ∧ M2.1 65 11 = iI ((pl i))) := by
  obtain ⟨d, rfl⟩ : ∃ e, d = e + 1 := ⟨d - 1, by omega⟩
  have hC := hR
  have hk0 := (hS.ok i (by omega) (by omega)).r
  have hm := hS.2.2.1
  rw [r67]; unfold b67; rw [aR_e, aI_e, aI_e, aZ_e]; unfold c67
  refine rs1 (vC_e (ck_65 hR)) ?_
  refine rs1 (cL_e (a65 (by omega) hS hR (hTk.fr (WL := W_66) Fr.r (by decide)) (h12) (h13) (h10) (by omega))) ?_
  refine rs1 (gtI_q (w := iI ((kd i))) (ck_65 hR) (h13)) ?_
  refine rs1 (jn_v) ?_
  refine rs1 (if_neg (eqI_n (rfl) (li_4) (by omega))) ?_
  refine rs1 (jv_e) ?_
  refine rs1 (vC_e (ck_65 hR)) ?_
  refine rs1 (cV_e (a64_1 (by omega) hS hR (hTk.fr (WL := W_66) Fr.r (by decide)) (h12) (h13) (h10) (li_4) (by omega))) ?_
  exact Rt.okI (z := (((tx i).toInt32.toInt))) ((iI_eta _).symm) ⟨(((tx i).toInt32.toInt)), rfl, (Fr.sI (by decide) (Fr.sI (by decide) (Fr.sI (by decide) Fr.r))), (sI_nej (by decide)).trans ((sI_nej (by decide)).trans ((sI_nej (by decide)).trans (h12))), sI_eq, (sI_nej (by decide)).trans ((sI_nej (by decide)).trans (sI_eq)), (sI_nej (by decide)).trans (sI_eq)⟩
theorem a67_2 {d : Nat} {M : Mem} (hd : 3 ≤ d) {T : Int → Int} {n m : Int} {kd pl E : Int → Int} {tx : Int → Int64} (hS : TkS T n m kd pl E tx) (hR : CT M) (hTk : TkA M m kd pl tx) {i : Int} (h12 : M.1 65 12 = iI i) (h13 : M.1 65 13 = iI (kd i)) (h10 : M.1 65 10 = iI 0) {v0 v1 : Int32} {lo hi : Int} (hv0 : v0 = iI lo) (hv1 : v1 = iI hi) (h : 0 ≤ i ∧ i < m ∧ m ≤ 1400 ∧ kd i ≠ 4 ∧ kd i ≠ 1 ∧ -1000 ≤ lo ∧ lo ≤ 1000 ∧ 0 ≤ hi ∧ hi ≤ 999999999) : Rt (runX d 67 [va_rf (some 65), .int v0, .int v1] M) (fun v M2 => ∃ (r : Int), v = .int (iI r) ∧ Fr W_66 M M2 ∧ M2.1 65 12 = iI i ∧ M2.1 65 13 = iI 2 ∧ M2.1 65 10 = iI 2 ∧ M2.1 65 11 = iI ((pl i))) := by
  obtain ⟨d, rfl⟩ : ∃ e, d = e + 1 := ⟨d - 1, by omega⟩
  have hC := hR
  have hk0 := (hS.ok i (by omega) (by omega)).r
  have hm := hS.2.2.1
  rw [r67]; unfold b67; rw [aR_e, aI_e, aI_e, aZ_e]; unfold c67
  refine rs1 (vC_e (ck_65 hR)) ?_
  refine rs1 (cL_e (a65 (by omega) hS hR (hTk.fr (WL := W_66) Fr.r (by decide)) (h12) (h13) (h10) (by omega))) ?_
  refine rs1 (gtI_q (w := iI ((kd i))) (ck_65 hR) (h13)) ?_
  refine rs1 (jn_v) ?_
  refine rs1 (if_neg (eqI_n (rfl) (li_4) (by omega))) ?_
  refine rs1 (jv_e) ?_
  refine rs1 (vC_e (ck_65 hR)) ?_
  refine rs1 (cV_e (a64_2 (by omega) hS hR (hTk.fr (WL := W_66) Fr.r (by decide)) (h12) (h13) (h10) (li_4) (by omega))) ?_
  exact Rt.okI (z := (((tx i).toInt32.toInt))) ((iI_eta _).symm) ⟨(((tx i).toInt32.toInt)), rfl, (Fr.sI (by decide) (Fr.sI (by decide) (Fr.sI (by decide) Fr.r))), (sI_nej (by decide)).trans ((sI_nej (by decide)).trans ((sI_nej (by decide)).trans (h12))), sI_eq, (sI_nej (by decide)).trans ((sI_nej (by decide)).trans (sI_eq)), (sI_nej (by decide)).trans (sI_eq)⟩
