/-! the reference: what is expected, and the name of a new LOCAL, ahead of a FAULT -/
theorem a195_61 {d : Nat} {M : Mem} (hd : 5 ≤ d) {T : Int → Int} {n m : Int} {kd pl E : Int → Int} {tx : Int → Int64} (hS : TkS T n m kd pl E tx) (hR : RT M) (hT : Tp 160 1 161 T n M) (hW : ∀ i, 0 ≤ i → i < 28 → M.2.1 194 i.toNat = WR i) {i : Int} (h36 : M.1 160 36 = iI (kr (kd i))) (h37 : M.1 160 37 = iI (pl i)) (h38 : M.1 160 38 = iI (E i)) (h41 : M.1 160 41 = iI 0) {v0 : Int32} (hv0 : v0 = iI 61) {i2 : Int} (h2 : i2 = i + 1) (h : 0 ≤ i ∧ i + 1 < m ∧ m ≤ 1400 ∧ kd i = 61) : Rt (runX d 195 [va_rf (some 160), .int (v0)] M) (fun v M2 => ∃ (r : Int), v = .int (iI r) ∧ Fr W_nx M M2 ∧ M2.1 160 36 = iI ((kr (kd i2))) ∧ M2.1 160 37 = iI ((pl i2)) ∧ M2.1 160 38 = iI ((E i2)) ∧ (r = 1) ∧ (NmR M2 (kd i2) (tx i2))) := by
  obtain ⟨d, rfl⟩ : ∃ e, d = e + 1 := ⟨d - 1, by omega⟩
  rw [r195]; unfold b195; rw [aR_e, aI_e, aZ_e]; unfold c195
  have hk0 := (hS.ok i (by omega) (by omega)).r
  have hm := hS.2.2.1
  refine rs1 (gtI_q (w := iI 0) (rk_160 hR) (h41)) ?_
  refine rs1 (jn_v) ?_
  refine rs1 (if_pos (eqI_p (rfl) (li_0) (by omega))) ?_
  refine rs1 (gtI_q (w := iI ((kr (kd i)))) (rk_160 hR) (h36)) ?_
  refine rs1 (jn_v) ?_
  refine rs1 (if_pos (krI_p (k := 61) (rfl) (hv0) (by omega) (by decide +kernel))) ?_
  refine rs1 (jv_e) ?_
  refine rs1 (vC_e (rk_160 hR)) ?_
  refine rs1 (cI_e (ar193_p (by omega) hS hR (h36) (h37) (h41) (li_1) (by omega))) ?_
  refine rs1 (if_neg (eqI_n (rfl) (li_0) (by omega))) ?_
  refine rs1 (vC_e (rk_160 hR)) ?_
  refine Rc_V (nx_q (by omega) hS hR hT hW (i := i) (i2 := (i + 1)) (h41) (h38) (by omega) (by omega) (by omega)) fun v Ma1 h1 => ?_
  obtain ⟨g1, e1_k0, e1_k1, e1_k2, p1_0⟩ := h1
  have f1 : Fr W_nx M Ma1 := Fr.t Fr.r (Fr.m g1 (by decide))
  refine rs1 (cV_e rfl) ?_
  refine rs1 (jv_e) ?_
  refine rs1 (gtI_q (w := iI 0) (rk_160 (hR.fr f1)) ((g1.i _ _ (by decide)).trans (h41))) ?_
  refine rs1 (jn_v) ?_
  refine rs1 (if_pos (eqI_p (rfl) (li_0) (by omega))) ?_
  refine rs1 (jv_e) ?_
  refine rs1 (rtZ_q (z := 1) (li_1) (by omega)) ?_
  subst h2; exact Rt.okI (z := 1) (rfl) ⟨1, rfl, f1, e1_k0, e1_k1, e1_k2, rfl, p1_0⟩
theorem a195_61_1 {d : Nat} {M : Mem} (hd : 5 ≤ d) {T : Int → Int} {n m : Int} {kd pl E : Int → Int} {tx : Int → Int64} (hS : TkS T n m kd pl E tx) (hR : RT M) {i : Int} (h36 : M.1 160 36 = iI (kr (kd i))) (h37 : M.1 160 37 = iI (pl i)) (h41 : M.1 160 41 = iI 0) {v0 : Int32} (hv0 : v0 = iI 61) (h : 0 ≤ i ∧ i < m ∧ m ≤ 1400 ∧ kd i = 1) : runX d 195 [va_rf (some 160), .int (v0)] M = some (.int (iI 0), sI (sI M 160 41 (iI 1)) 160 42 (iI (pl i))) := by
  obtain ⟨d, rfl⟩ : ∃ e, d = e + 1 := ⟨d - 1, by omega⟩
  refine Rt.e ?_
  rw [r195]; unfold b195; rw [aR_e, aI_e, aZ_e]; unfold c195
  have hk0 := (hS.ok i (by omega) (by omega)).r
  have hm := hS.2.2.1
  refine rs1 (gtI_q (w := iI 0) (rk_160 hR) (h41)) ?_
  refine rs1 (jn_v) ?_
  refine rs1 (if_pos (eqI_p (rfl) (li_0) (by omega))) ?_
  refine rs1 (gtI_q (w := iI ((kr (kd i)))) (rk_160 hR) (h36)) ?_
  refine rs1 (jn_v) ?_
  refine rs1 (if_neg (krI_n (k := 61) (rfl) (hv0) (hS.ok i (by omega) (by omega)) (by unfold KdOK sgk; omega) (by decide +kernel) (by omega) (by omega))) ?_
  refine rs1 (jv_e) ?_
  refine rs1 (vC_e (rk_160 hR)) ?_
  refine rs1 (cI_e (ar193_1 (by omega) hS hR (h36) (h37) (h41) (li_0) (by omega))) ?_
  refine rs1 (if_pos (eqI_p (rfl) (li_0) (by omega))) ?_
  refine rs1 (jv_e) ?_
  refine rs1 (gtI_q (w := iI 1) (rk_160 hR.sI.sI) ((sI_nej (by decide)).trans (sI_eq))) ?_
  refine rs1 (jn_v) ?_
  refine rs1 (if_neg (eqI_n (rfl) (li_0) (by omega))) ?_
  refine rs1 (jv_e) ?_
  refine rs1 (rtZ_q (z := 0) (li_0) (by omega)) ?_
  exact Rt.okI (z := 0) (rfl) ⟨rfl, rfl⟩
theorem a195_61_2 {d : Nat} {M : Mem} (hd : 5 ≤ d) {T : Int → Int} {n m : Int} {kd pl E : Int → Int} {tx : Int → Int64} (hS : TkS T n m kd pl E tx) (hR : RT M) {i : Int} (h36 : M.1 160 36 = iI (kr (kd i))) (h37 : M.1 160 37 = iI (pl i)) (h41 : M.1 160 41 = iI 0) {v0 : Int32} (hv0 : v0 = iI 61) (h : 0 ≤ i ∧ i < m ∧ m ≤ 1400 ∧ kd i ≠ 61 ∧ kd i ≠ 1) : runX d 195 [va_rf (some 160), .int (v0)] M = some (.int (iI 0), sI (sI M 160 41 (iI 2)) 160 42 (iI (pl i))) := by
  obtain ⟨d, rfl⟩ : ∃ e, d = e + 1 := ⟨d - 1, by omega⟩
  refine Rt.e ?_
  rw [r195]; unfold b195; rw [aR_e, aI_e, aZ_e]; unfold c195
  have hk0 := (hS.ok i (by omega) (by omega)).r
  have hm := hS.2.2.1
  refine rs1 (gtI_q (w := iI 0) (rk_160 hR) (h41)) ?_
  refine rs1 (jn_v) ?_
  refine rs1 (if_pos (eqI_p (rfl) (li_0) (by omega))) ?_
  refine rs1 (gtI_q (w := iI ((kr (kd i)))) (rk_160 hR) (h36)) ?_
  refine rs1 (jn_v) ?_
  refine rs1 (if_neg (krI_n (k := 61) (rfl) (hv0) (hS.ok i (by omega) (by omega)) (by unfold KdOK sgk; omega) (by decide +kernel) (by omega) (by omega))) ?_
  refine rs1 (jv_e) ?_
  refine rs1 (vC_e (rk_160 hR)) ?_
  refine rs1 (cI_e (ar193_2 (by omega) hS hR (h36) (h37) (h41) (li_0) (by omega))) ?_
  refine rs1 (if_pos (eqI_p (rfl) (li_0) (by omega))) ?_
  refine rs1 (jv_e) ?_
  refine rs1 (gtI_q (w := iI 2) (rk_160 hR.sI.sI) ((sI_nej (by decide)).trans (sI_eq))) ?_
  refine rs1 (jn_v) ?_
  refine rs1 (if_neg (eqI_n (rfl) (li_0) (by omega))) ?_
  refine rs1 (jv_e) ?_
  refine rs1 (rtZ_q (z := 0) (li_0) (by omega)) ?_
  exact Rt.okI (z := 0) (rfl) ⟨rfl, rfl⟩
theorem a195_59 {d : Nat} {M : Mem} (hd : 5 ≤ d) {T : Int → Int} {n m : Int} {kd pl E : Int → Int} {tx : Int → Int64} (hS : TkS T n m kd pl E tx) (hR : RT M) (hT : Tp 160 1 161 T n M) (hW : ∀ i, 0 ≤ i → i < 28 → M.2.1 194 i.toNat = WR i) {i : Int} (h36 : M.1 160 36 = iI (kr (kd i))) (h37 : M.1 160 37 = iI (pl i)) (h38 : M.1 160 38 = iI (E i)) (h41 : M.1 160 41 = iI 0) {v0 : Int32} (hv0 : v0 = iI 59) {i2 : Int} (h2 : i2 = i + 1) (h : 0 ≤ i ∧ i + 1 < m ∧ m ≤ 1400 ∧ kd i = 59) : Rt (runX d 195 [va_rf (some 160), .int (v0)] M) (fun v M2 => ∃ (r : Int), v = .int (iI r) ∧ Fr W_nx M M2 ∧ M2.1 160 36 = iI ((kr (kd i2))) ∧ M2.1 160 37 = iI ((pl i2)) ∧ M2.1 160 38 = iI ((E i2)) ∧ (r = 1) ∧ (NmR M2 (kd i2) (tx i2))) := by
  obtain ⟨d, rfl⟩ : ∃ e, d = e + 1 := ⟨d - 1, by omega⟩
  rw [r195]; unfold b195; rw [aR_e, aI_e, aZ_e]; unfold c195
  have hk0 := (hS.ok i (by omega) (by omega)).r
  have hm := hS.2.2.1
  refine rs1 (gtI_q (w := iI 0) (rk_160 hR) (h41)) ?_
  refine rs1 (jn_v) ?_
  refine rs1 (if_pos (eqI_p (rfl) (li_0) (by omega))) ?_
  refine rs1 (gtI_q (w := iI ((kr (kd i)))) (rk_160 hR) (h36)) ?_
  refine rs1 (jn_v) ?_
  refine rs1 (if_pos (krI_p (k := 59) (rfl) (hv0) (by omega) (by decide +kernel))) ?_
  refine rs1 (jv_e) ?_
  refine rs1 (vC_e (rk_160 hR)) ?_
  refine rs1 (cI_e (ar193_p (by omega) hS hR (h36) (h37) (h41) (li_1) (by omega))) ?_
  refine rs1 (if_neg (eqI_n (rfl) (li_0) (by omega))) ?_
  refine rs1 (vC_e (rk_160 hR)) ?_
  refine Rc_V (nx_q (by omega) hS hR hT hW (i := i) (i2 := (i + 1)) (h41) (h38) (by omega) (by omega) (by omega)) fun v Ma1 h1 => ?_
  obtain ⟨g1, e1_k0, e1_k1, e1_k2, p1_0⟩ := h1
  have f1 : Fr W_nx M Ma1 := Fr.t Fr.r (Fr.m g1 (by decide))
  refine rs1 (cV_e rfl) ?_
  refine rs1 (jv_e) ?_
  refine rs1 (gtI_q (w := iI 0) (rk_160 (hR.fr f1)) ((g1.i _ _ (by decide)).trans (h41))) ?_
  refine rs1 (jn_v) ?_
  refine rs1 (if_pos (eqI_p (rfl) (li_0) (by omega))) ?_
  refine rs1 (jv_e) ?_
  refine rs1 (rtZ_q (z := 1) (li_1) (by omega)) ?_
  subst h2; exact Rt.okI (z := 1) (rfl) ⟨1, rfl, f1, e1_k0, e1_k1, e1_k2, rfl, p1_0⟩
theorem a195_59_1 {d : Nat} {M : Mem} (hd : 5 ≤ d) {T : Int → Int} {n m : Int} {kd pl E : Int → Int} {tx : Int → Int64} (hS : TkS T n m kd pl E tx) (hR : RT M) {i : Int} (h36 : M.1 160 36 = iI (kr (kd i))) (h37 : M.1 160 37 = iI (pl i)) (h41 : M.1 160 41 = iI 0) {v0 : Int32} (hv0 : v0 = iI 59) (h : 0 ≤ i ∧ i < m ∧ m ≤ 1400 ∧ kd i = 1) : runX d 195 [va_rf (some 160), .int (v0)] M = some (.int (iI 0), sI (sI M 160 41 (iI 1)) 160 42 (iI (pl i))) := by
  obtain ⟨d, rfl⟩ : ∃ e, d = e + 1 := ⟨d - 1, by omega⟩
  refine Rt.e ?_
  rw [r195]; unfold b195; rw [aR_e, aI_e, aZ_e]; unfold c195
  have hk0 := (hS.ok i (by omega) (by omega)).r
  have hm := hS.2.2.1
  refine rs1 (gtI_q (w := iI 0) (rk_160 hR) (h41)) ?_
  refine rs1 (jn_v) ?_
  refine rs1 (if_pos (eqI_p (rfl) (li_0) (by omega))) ?_
  refine rs1 (gtI_q (w := iI ((kr (kd i)))) (rk_160 hR) (h36)) ?_
  refine rs1 (jn_v) ?_
  refine rs1 (if_neg (krI_n (k := 59) (rfl) (hv0) (hS.ok i (by omega) (by omega)) (by unfold KdOK sgk; omega) (by decide +kernel) (by omega) (by omega))) ?_
  refine rs1 (jv_e) ?_
  refine rs1 (vC_e (rk_160 hR)) ?_
  refine rs1 (cI_e (ar193_1 (by omega) hS hR (h36) (h37) (h41) (li_0) (by omega))) ?_
  refine rs1 (if_pos (eqI_p (rfl) (li_0) (by omega))) ?_
  refine rs1 (jv_e) ?_
  refine rs1 (gtI_q (w := iI 1) (rk_160 hR.sI.sI) ((sI_nej (by decide)).trans (sI_eq))) ?_
  refine rs1 (jn_v) ?_
  refine rs1 (if_neg (eqI_n (rfl) (li_0) (by omega))) ?_
  refine rs1 (jv_e) ?_
  refine rs1 (rtZ_q (z := 0) (li_0) (by omega)) ?_
  exact Rt.okI (z := 0) (rfl) ⟨rfl, rfl⟩
theorem a195_59_2 {d : Nat} {M : Mem} (hd : 5 ≤ d) {T : Int → Int} {n m : Int} {kd pl E : Int → Int} {tx : Int → Int64} (hS : TkS T n m kd pl E tx) (hR : RT M) {i : Int} (h36 : M.1 160 36 = iI (kr (kd i))) (h37 : M.1 160 37 = iI (pl i)) (h41 : M.1 160 41 = iI 0) {v0 : Int32} (hv0 : v0 = iI 59) (h : 0 ≤ i ∧ i < m ∧ m ≤ 1400 ∧ kd i ≠ 59 ∧ kd i ≠ 1) : runX d 195 [va_rf (some 160), .int (v0)] M = some (.int (iI 0), sI (sI M 160 41 (iI 2)) 160 42 (iI (pl i))) := by
  obtain ⟨d, rfl⟩ : ∃ e, d = e + 1 := ⟨d - 1, by omega⟩
  refine Rt.e ?_
  rw [r195]; unfold b195; rw [aR_e, aI_e, aZ_e]; unfold c195
  have hk0 := (hS.ok i (by omega) (by omega)).r
  have hm := hS.2.2.1
  refine rs1 (gtI_q (w := iI 0) (rk_160 hR) (h41)) ?_
  refine rs1 (jn_v) ?_
  refine rs1 (if_pos (eqI_p (rfl) (li_0) (by omega))) ?_
  refine rs1 (gtI_q (w := iI ((kr (kd i)))) (rk_160 hR) (h36)) ?_
  refine rs1 (jn_v) ?_
  refine rs1 (if_neg (krI_n (k := 59) (rfl) (hv0) (hS.ok i (by omega) (by omega)) (by unfold KdOK sgk; omega) (by decide +kernel) (by omega) (by omega))) ?_
  refine rs1 (jv_e) ?_
  refine rs1 (vC_e (rk_160 hR)) ?_
  refine rs1 (cI_e (ar193_2 (by omega) hS hR (h36) (h37) (h41) (li_0) (by omega))) ?_
  refine rs1 (if_pos (eqI_p (rfl) (li_0) (by omega))) ?_
  refine rs1 (jv_e) ?_
  refine rs1 (gtI_q (w := iI 2) (rk_160 hR.sI.sI) ((sI_nej (by decide)).trans (sI_eq))) ?_
  refine rs1 (jn_v) ?_
  refine rs1 (if_neg (eqI_n (rfl) (li_0) (by omega))) ?_
  refine rs1 (jv_e) ?_
  refine rs1 (rtZ_q (z := 0) (li_0) (by omega)) ?_
  exact Rt.okI (z := 0) (rfl) ⟨rfl, rfl⟩
theorem a195_424 {d : Nat} {M : Mem} (hd : 5 ≤ d) {T : Int → Int} {n m : Int} {kd pl E : Int → Int} {tx : Int → Int64} (hS : TkS T n m kd pl E tx) (hR : RT M) (hT : Tp 160 1 161 T n M) (hW : ∀ i, 0 ≤ i → i < 28 → M.2.1 194 i.toNat = WR i) {i : Int} (h36 : M.1 160 36 = iI (kr (kd i))) (h37 : M.1 160 37 = iI (pl i)) (h38 : M.1 160 38 = iI (E i)) (h41 : M.1 160 41 = iI 0) {v0 : Int32} (hv0 : v0 = iI 424) {i2 : Int} (h2 : i2 = i + 1) (h : 0 ≤ i ∧ i + 1 < m ∧ m ≤ 1400 ∧ kd i = 223) : Rt (runX d 195 [va_rf (some 160), .int (v0)] M) (fun v M2 => ∃ (r : Int), v = .int (iI r) ∧ Fr W_nx M M2 ∧ M2.1 160 36 = iI ((kr (kd i2))) ∧ M2.1 160 37 = iI ((pl i2)) ∧ M2.1 160 38 = iI ((E i2)) ∧ (r = 1) ∧ (NmR M2 (kd i2) (tx i2))) := by
  obtain ⟨d, rfl⟩ : ∃ e, d = e + 1 := ⟨d - 1, by omega⟩
  rw [r195]; unfold b195; rw [aR_e, aI_e, aZ_e]; unfold c195
  have hk0 := (hS.ok i (by omega) (by omega)).r
  have hm := hS.2.2.1
  refine rs1 (gtI_q (w := iI 0) (rk_160 hR) (h41)) ?_
  refine rs1 (jn_v) ?_
  refine rs1 (if_pos (eqI_p (rfl) (li_0) (by omega))) ?_
  refine rs1 (gtI_q (w := iI ((kr (kd i)))) (rk_160 hR) (h36)) ?_
  refine rs1 (jn_v) ?_
  refine rs1 (if_pos (krI_p (k := 223) (rfl) (hv0) (by omega) (by decide +kernel))) ?_
  refine rs1 (jv_e) ?_
  refine rs1 (vC_e (rk_160 hR)) ?_
  refine rs1 (cI_e (ar193_p (by omega) hS hR (h36) (h37) (h41) (li_1) (by omega))) ?_
  refine rs1 (if_neg (eqI_n (rfl) (li_0) (by omega))) ?_
  refine rs1 (vC_e (rk_160 hR)) ?_
  refine Rc_V (nx_q (by omega) hS hR hT hW (i := i) (i2 := (i + 1)) (h41) (h38) (by omega) (by omega) (by omega)) fun v Ma1 h1 => ?_
  obtain ⟨g1, e1_k0, e1_k1, e1_k2, p1_0⟩ := h1
  have f1 : Fr W_nx M Ma1 := Fr.t Fr.r (Fr.m g1 (by decide))
  refine rs1 (cV_e rfl) ?_
  refine rs1 (jv_e) ?_
  refine rs1 (gtI_q (w := iI 0) (rk_160 (hR.fr f1)) ((g1.i _ _ (by decide)).trans (h41))) ?_
  refine rs1 (jn_v) ?_
  refine rs1 (if_pos (eqI_p (rfl) (li_0) (by omega))) ?_
  refine rs1 (jv_e) ?_
  refine rs1 (rtZ_q (z := 1) (li_1) (by omega)) ?_
  subst h2; exact Rt.okI (z := 1) (rfl) ⟨1, rfl, f1, e1_k0, e1_k1, e1_k2, rfl, p1_0⟩
theorem a195_424_1 {d : Nat} {M : Mem} (hd : 5 ≤ d) {T : Int → Int} {n m : Int} {kd pl E : Int → Int} {tx : Int → Int64} (hS : TkS T n m kd pl E tx) (hR : RT M) {i : Int} (h36 : M.1 160 36 = iI (kr (kd i))) (h37 : M.1 160 37 = iI (pl i)) (h41 : M.1 160 41 = iI 0) {v0 : Int32} (hv0 : v0 = iI 424) (h : 0 ≤ i ∧ i < m ∧ m ≤ 1400 ∧ kd i = 1) : runX d 195 [va_rf (some 160), .int (v0)] M = some (.int (iI 0), sI (sI M 160 41 (iI 1)) 160 42 (iI (pl i))) := by
  obtain ⟨d, rfl⟩ : ∃ e, d = e + 1 := ⟨d - 1, by omega⟩
  refine Rt.e ?_
  rw [r195]; unfold b195; rw [aR_e, aI_e, aZ_e]; unfold c195
  have hk0 := (hS.ok i (by omega) (by omega)).r
  have hm := hS.2.2.1
  refine rs1 (gtI_q (w := iI 0) (rk_160 hR) (h41)) ?_
  refine rs1 (jn_v) ?_
  refine rs1 (if_pos (eqI_p (rfl) (li_0) (by omega))) ?_
  refine rs1 (gtI_q (w := iI ((kr (kd i)))) (rk_160 hR) (h36)) ?_
  refine rs1 (jn_v) ?_
  refine rs1 (if_neg (krI_n (k := 223) (rfl) (hv0) (hS.ok i (by omega) (by omega)) (by unfold KdOK sgk; omega) (by decide +kernel) (by omega) (by omega))) ?_
  refine rs1 (jv_e) ?_
  refine rs1 (vC_e (rk_160 hR)) ?_
  refine rs1 (cI_e (ar193_1 (by omega) hS hR (h36) (h37) (h41) (li_0) (by omega))) ?_
  refine rs1 (if_pos (eqI_p (rfl) (li_0) (by omega))) ?_
  refine rs1 (jv_e) ?_
  refine rs1 (gtI_q (w := iI 1) (rk_160 hR.sI.sI) ((sI_nej (by decide)).trans (sI_eq))) ?_
  refine rs1 (jn_v) ?_
  refine rs1 (if_neg (eqI_n (rfl) (li_0) (by omega))) ?_
  refine rs1 (jv_e) ?_
  refine rs1 (rtZ_q (z := 0) (li_0) (by omega)) ?_
  exact Rt.okI (z := 0) (rfl) ⟨rfl, rfl⟩
theorem a195_424_2 {d : Nat} {M : Mem} (hd : 5 ≤ d) {T : Int → Int} {n m : Int} {kd pl E : Int → Int} {tx : Int → Int64} (hS : TkS T n m kd pl E tx) (hR : RT M) {i : Int} (h36 : M.1 160 36 = iI (kr (kd i))) (h37 : M.1 160 37 = iI (pl i)) (h41 : M.1 160 41 = iI 0) {v0 : Int32} (hv0 : v0 = iI 424) (h : 0 ≤ i ∧ i < m ∧ m ≤ 1400 ∧ kd i ≠ 223 ∧ kd i ≠ 1) : runX d 195 [va_rf (some 160), .int (v0)] M = some (.int (iI 0), sI (sI M 160 41 (iI 2)) 160 42 (iI (pl i))) := by
  obtain ⟨d, rfl⟩ : ∃ e, d = e + 1 := ⟨d - 1, by omega⟩
  refine Rt.e ?_
  rw [r195]; unfold b195; rw [aR_e, aI_e, aZ_e]; unfold c195
  have hk0 := (hS.ok i (by omega) (by omega)).r
  have hm := hS.2.2.1
  refine rs1 (gtI_q (w := iI 0) (rk_160 hR) (h41)) ?_
  refine rs1 (jn_v) ?_
  refine rs1 (if_pos (eqI_p (rfl) (li_0) (by omega))) ?_
  refine rs1 (gtI_q (w := iI ((kr (kd i)))) (rk_160 hR) (h36)) ?_
  refine rs1 (jn_v) ?_
  refine rs1 (if_neg (krI_n (k := 223) (rfl) (hv0) (hS.ok i (by omega) (by omega)) (by unfold KdOK sgk; omega) (by decide +kernel) (by omega) (by omega))) ?_
  refine rs1 (jv_e) ?_
  refine rs1 (vC_e (rk_160 hR)) ?_
  refine rs1 (cI_e (ar193_2 (by omega) hS hR (h36) (h37) (h41) (li_0) (by omega))) ?_
  refine rs1 (if_pos (eqI_p (rfl) (li_0) (by omega))) ?_
  refine rs1 (jv_e) ?_
  refine rs1 (gtI_q (w := iI 2) (rk_160 hR.sI.sI) ((sI_nej (by decide)).trans (sI_eq))) ?_
  refine rs1 (jn_v) ?_
  refine rs1 (if_neg (eqI_n (rfl) (li_0) (by omega))) ?_
  refine rs1 (jv_e) ?_
  refine rs1 (rtZ_q (z := 0) (li_0) (by omega)) ?_
  exact Rt.okI (z := 0) (rfl) ⟨rfl, rfl⟩
theorem a198_p {d : Nat} {M : Mem} (hd : 3 ≤ d) {T : Int → Int} {n m : Int} {kd pl E : Int → Int} {tx : Int → Int64} (hS : TkS T n m kd pl E tx) (hR : RT M) {i : Int} (h36 : M.1 160 36 = iI (kr (kd i))) (h37 : M.1 160 37 = iI (pl i)) (h41 : M.1 160 41 = iI 0) (hn : NmR M (kd i) (tx i)) {sn r : Int} (h51 : M.1 160 51 = iI sn) {H : Int → Int64} (hL : LA 199 M H sn) (hlc : LcF H sn (tx i) r) (h : 0 ≤ i ∧ i < m ∧ m ≤ 1400 ∧ 0 ≤ sn ∧ sn ≤ 10 ∧ kd i = 3 ∧ r = -1 ∧ sn < 10) : runX d 198 [va_rf (some 160)] M = some (.int (iI 1), M) := by
  obtain ⟨d, rfl⟩ : ∃ e, d = e + 1 := ⟨d - 1, by omega⟩
  refine Rt.e ?_
  rw [r198]; unfold b198; rw [aR_e, aZ_e]; unfold c198
  have hk0 := (hS.ok i (by omega) (by omega)).r
  have hm := hS.2.2.1
  refine rs1 (gtI_q (w := iI 0) (rk_160 hR) (h41)) ?_
  refine rs1 (jn_v) ?_
  refine rs1 (jn_v) ?_
  refine rs1 (if_pos (eqI_p (rfl) (li_0) (by omega))) ?_
  refine rs1 (gtI_q (w := iI ((kr (kd i)))) (rk_160 hR) (h36)) ?_
  refine rs1 (jn_v) ?_
  refine rs1 (if_pos (krI_p (k := 3) (rfl) (li_1) (by omega) (by decide +kernel))) ?_
  refine rs1 (jv_e) ?_
  refine rs1 (vC_e (rk_160 hR)) ?_
  refine rs1 (cI_e (ar193_p (by omega) hS hR (h36) (h37) (h41) (li_1) (by omega))) ?_
  refine rs1 (if_neg (eqI_n (rfl) (li_0) (by omega))) ?_
  refine rs1 (gtL_q (w := (tx i)) (rk_160 hR) (hn.1 (by omega))) ?_
  refine rs1 (vC_e (rk_160 hR)) ?_
  refine Rc_I (a197 (by omega) hR (h51) hL (x := tx i) (by omega)) fun v Ml hl => ?_
  obtain ⟨r9, rfl, hMl, hr9⟩ := hl
  rw [hMl]
  have q9 := LcF.one hr9 hlc
  subst q9
  refine rs1 (cI_e rfl) ?_
  refine rs1 (jn_v) ?_
  refine rs1 (if_neg (leI_n (li_0) (congrArg iI (if_pos (by omega))) (by omega))) ?_
  refine rs1 (jv_e) ?_
  refine rs1 (vC_e (rk_160 hR)) ?_
  refine rs1 (cI_e (ar194_p (by omega) hS hR (h36) (h37) (h41) (li_1) (li_3) (by omega))) ?_
  refine rs1 (if_neg (eqI_n (rfl) (li_0) (by omega))) ?_
  refine rs1 (gtI_q (w := iI sn) (rk_160 hR) (h51)) ?_
  refine rs1 (jn_v) ?_
  refine rs1 (if_neg (leI_n (li_10) (rfl) (by omega))) ?_
  refine rs1 (jv_e) ?_
  refine rs1 (vC_e (rk_160 hR)) ?_
  refine rs1 (cI_e (ar194_p (by omega) hS hR (h36) (h37) (h41) (li_1) (li_6) (by omega))) ?_
  refine rs1 (if_neg (eqI_n (rfl) (li_0) (by omega))) ?_
  refine rs1 (jv_e) ?_
  try dsimp only
  refine rs1 (rtZ_q (z := 1) (li_1) (by omega)) ?_
  exact Rt.okI (z := 1) (rfl) ⟨rfl, rfl⟩
theorem a198_3 {d : Nat} {M : Mem} (hd : 3 ≤ d) {T : Int → Int} {n m : Int} {kd pl E : Int → Int} {tx : Int → Int64} (hS : TkS T n m kd pl E tx) (hR : RT M) {i : Int} (h36 : M.1 160 36 = iI (kr (kd i))) (h37 : M.1 160 37 = iI (pl i)) (h41 : M.1 160 41 = iI 0) (hn : NmR M (kd i) (tx i)) {sn r : Int} (h51 : M.1 160 51 = iI sn) {H : Int → Int64} (hL : LA 199 M H sn) (hlc : LcF H sn (tx i) r) (h : 0 ≤ i ∧ i < m ∧ m ≤ 1400 ∧ 0 ≤ sn ∧ sn ≤ 10 ∧ kd i = 3 ∧ 0 ≤ r ∧ r < 10) : runX d 198 [va_rf (some 160)] M = some (.int (iI 0), sI (sI M 160 41 (iI 3)) 160 42 (iI (pl i))) := by
  obtain ⟨d, rfl⟩ : ∃ e, d = e + 1 := ⟨d - 1, by omega⟩
  refine Rt.e ?_
  rw [r198]; unfold b198; rw [aR_e, aZ_e]; unfold c198
  have hk0 := (hS.ok i (by omega) (by omega)).r
  have hm := hS.2.2.1
  refine rs1 (gtI_q (w := iI 0) (rk_160 hR) (h41)) ?_
  refine rs1 (jn_v) ?_
  refine rs1 (jn_v) ?_
  refine rs1 (if_pos (eqI_p (rfl) (li_0) (by omega))) ?_
  refine rs1 (gtI_q (w := iI ((kr (kd i)))) (rk_160 hR) (h36)) ?_
  refine rs1 (jn_v) ?_
  refine rs1 (if_pos (krI_p (k := 3) (rfl) (li_1) (by omega) (by decide +kernel))) ?_
  refine rs1 (jv_e) ?_
  refine rs1 (vC_e (rk_160 hR)) ?_
  refine rs1 (cI_e (ar193_p (by omega) hS hR (h36) (h37) (h41) (li_1) (by omega))) ?_
  refine rs1 (if_neg (eqI_n (rfl) (li_0) (by omega))) ?_
  refine rs1 (gtL_q (w := (tx i)) (rk_160 hR) (hn.1 (by omega))) ?_
  refine rs1 (vC_e (rk_160 hR)) ?_
  refine Rc_I (a197 (by omega) hR (h51) hL (x := tx i) (by omega)) fun v Ml hl => ?_
  obtain ⟨r9, rfl, hMl, hr9⟩ := hl
  rw [hMl]
  have q9 := LcF.one hr9 hlc
  subst q9
  refine rs1 (cI_e rfl) ?_
  refine rs1 (jn_v) ?_
  refine rs1 (if_pos (leI_p (li_0) (congrArg iI (if_neg (by omega))) (by omega))) ?_
  refine rs1 (jv_e) ?_
  refine rs1 (vC_e (rk_160 hR)) ?_
  refine rs1 (cI_e (ar194_f (by omega) hS hR (h36) (h37) (h41) (li_0) (li_3) (by omega))) ?_
  refine rs1 (if_pos (eqI_p (rfl) (li_0) (by omega))) ?_
  refine rs1 (jv_e) ?_
  refine rs1 (jv_e) ?_
  try dsimp only
  refine rs1 (rtZ_q (z := 0) (li_0) (by omega)) ?_
  exact Rt.okI (z := 0) (rfl) ⟨rfl, rfl⟩
theorem a198_6 {d : Nat} {M : Mem} (hd : 3 ≤ d) {T : Int → Int} {n m : Int} {kd pl E : Int → Int} {tx : Int → Int64} (hS : TkS T n m kd pl E tx) (hR : RT M) {i : Int} (h36 : M.1 160 36 = iI (kr (kd i))) (h37 : M.1 160 37 = iI (pl i)) (h41 : M.1 160 41 = iI 0) (hn : NmR M (kd i) (tx i)) {sn r : Int} (h51 : M.1 160 51 = iI sn) {H : Int → Int64} (hL : LA 199 M H sn) (hlc : LcF H sn (tx i) r) (h : 0 ≤ i ∧ i < m ∧ m ≤ 1400 ∧ 0 ≤ sn ∧ sn ≤ 10 ∧ kd i = 3 ∧ r = -1 ∧ sn = 10) : runX d 198 [va_rf (some 160)] M = some (.int (iI 0), sI (sI M 160 41 (iI 6)) 160 42 (iI (pl i))) := by
  obtain ⟨d, rfl⟩ : ∃ e, d = e + 1 := ⟨d - 1, by omega⟩
  refine Rt.e ?_
  rw [r198]; unfold b198; rw [aR_e, aZ_e]; unfold c198
  have hk0 := (hS.ok i (by omega) (by omega)).r
  have hm := hS.2.2.1
  refine rs1 (gtI_q (w := iI 0) (rk_160 hR) (h41)) ?_
  refine rs1 (jn_v) ?_
  refine rs1 (jn_v) ?_
  refine rs1 (if_pos (eqI_p (rfl) (li_0) (by omega))) ?_
  refine rs1 (gtI_q (w := iI ((kr (kd i)))) (rk_160 hR) (h36)) ?_
  refine rs1 (jn_v) ?_
  refine rs1 (if_pos (krI_p (k := 3) (rfl) (li_1) (by omega) (by decide +kernel))) ?_
  refine rs1 (jv_e) ?_
  refine rs1 (vC_e (rk_160 hR)) ?_
  refine rs1 (cI_e (ar193_p (by omega) hS hR (h36) (h37) (h41) (li_1) (by omega))) ?_
  refine rs1 (if_neg (eqI_n (rfl) (li_0) (by omega))) ?_
  refine rs1 (gtL_q (w := (tx i)) (rk_160 hR) (hn.1 (by omega))) ?_
  refine rs1 (vC_e (rk_160 hR)) ?_
  refine Rc_I (a197 (by omega) hR (h51) hL (x := tx i) (by omega)) fun v Ml hl => ?_
  obtain ⟨r9, rfl, hMl, hr9⟩ := hl
  rw [hMl]
  have q9 := LcF.one hr9 hlc
  subst q9
  refine rs1 (cI_e rfl) ?_
  refine rs1 (jn_v) ?_
  refine rs1 (if_neg (leI_n (li_0) (congrArg iI (if_pos (by omega))) (by omega))) ?_
  refine rs1 (jv_e) ?_
  refine rs1 (vC_e (rk_160 hR)) ?_
  refine rs1 (cI_e (ar194_p (by omega) hS hR (h36) (h37) (h41) (li_1) (li_3) (by omega))) ?_
  refine rs1 (if_neg (eqI_n (rfl) (li_0) (by omega))) ?_
  refine rs1 (gtI_q (w := iI sn) (rk_160 hR) (h51)) ?_
  refine rs1 (jn_v) ?_
  refine rs1 (if_pos (leI_p (li_10) (rfl) (by omega))) ?_
  refine rs1 (jv_e) ?_
  refine rs1 (vC_e (rk_160 hR)) ?_
  refine rs1 (cI_e (ar194_f (by omega) hS hR (h36) (h37) (h41) (li_0) (li_6) (by omega))) ?_
  refine rs1 (if_pos (eqI_p (rfl) (li_0) (by omega))) ?_
  refine rs1 (jv_e) ?_
  refine rs1 (jv_e) ?_
  try dsimp only
  refine rs1 (rtZ_q (z := 0) (li_0) (by omega)) ?_
  exact Rt.okI (z := 0) (rfl) ⟨rfl, rfl⟩
theorem a198_1 {d : Nat} {M : Mem} (hd : 3 ≤ d) {T : Int → Int} {n m : Int} {kd pl E : Int → Int} {tx : Int → Int64} (hS : TkS T n m kd pl E tx) (hR : RT M) {i : Int} (h36 : M.1 160 36 = iI (kr (kd i))) (h37 : M.1 160 37 = iI (pl i)) (h41 : M.1 160 41 = iI 0) (hn : NmR M (kd i) (tx i)) {sn r : Int} (h51 : M.1 160 51 = iI sn) {H : Int → Int64} (hL : LA 199 M H sn) (h : 0 ≤ i ∧ i < m ∧ m ≤ 1400 ∧ 0 ≤ sn ∧ sn ≤ 10 ∧ kd i = 1) : runX d 198 [va_rf (some 160)] M = some (.int (iI 0), sI (sI M 160 41 (iI 1)) 160 42 (iI (pl i))) := by
  obtain ⟨d, rfl⟩ : ∃ e, d = e + 1 := ⟨d - 1, by omega⟩
  refine Rt.e ?_
  rw [r198]; unfold b198; rw [aR_e, aZ_e]; unfold c198
  have hk0 := (hS.ok i (by omega) (by omega)).r
  have hm := hS.2.2.1
  refine rs1 (gtI_q (w := iI 0) (rk_160 hR) (h41)) ?_
  refine rs1 (jn_v) ?_
  refine rs1 (jn_v) ?_
  refine rs1 (if_pos (eqI_p (rfl) (li_0) (by omega))) ?_
  refine rs1 (gtI_q (w := iI ((kr (kd i)))) (rk_160 hR) (h36)) ?_
  refine rs1 (jn_v) ?_
  refine rs1 (if_neg (krI_n (k := 3) (rfl) (li_1) (hS.ok i (by omega) (by omega)) (by unfold KdOK sgk; omega) (by decide +kernel) (by omega) (by omega))) ?_
  refine rs1 (jv_e) ?_
  refine rs1 (vC_e (rk_160 hR)) ?_
  refine rs1 (cI_e (ar193_1 (by omega) hS hR (h36) (h37) (h41) (li_0) (by omega))) ?_
  refine rs1 (if_pos (eqI_p (rfl) (li_0) (by omega))) ?_
  refine rs1 (jv_e) ?_
  refine rs1 (jv_e) ?_
  try dsimp only
  refine rs1 (rtZ_q (z := 0) (li_0) (by omega)) ?_
  exact Rt.okI (z := 0) (rfl) ⟨rfl, rfl⟩
theorem a198_2 {d : Nat} {M : Mem} (hd : 3 ≤ d) {T : Int → Int} {n m : Int} {kd pl E : Int → Int} {tx : Int → Int64} (hS : TkS T n m kd pl E tx) (hR : RT M) {i : Int} (h36 : M.1 160 36 = iI (kr (kd i))) (h37 : M.1 160 37 = iI (pl i)) (h41 : M.1 160 41 = iI 0) (hn : NmR M (kd i) (tx i)) {sn r : Int} (h51 : M.1 160 51 = iI sn) {H : Int → Int64} (hL : LA 199 M H sn) (h : 0 ≤ i ∧ i < m ∧ m ≤ 1400 ∧ 0 ≤ sn ∧ sn ≤ 10 ∧ kd i ≠ 1 ∧ kd i ≠ 3) : runX d 198 [va_rf (some 160)] M = some (.int (iI 0), sI (sI M 160 41 (iI 2)) 160 42 (iI (pl i))) := by
  obtain ⟨d, rfl⟩ : ∃ e, d = e + 1 := ⟨d - 1, by omega⟩
  refine Rt.e ?_
  rw [r198]; unfold b198; rw [aR_e, aZ_e]; unfold c198
  have hk0 := (hS.ok i (by omega) (by omega)).r
  have hm := hS.2.2.1
  refine rs1 (gtI_q (w := iI 0) (rk_160 hR) (h41)) ?_
  refine rs1 (jn_v) ?_
  refine rs1 (jn_v) ?_
  refine rs1 (if_pos (eqI_p (rfl) (li_0) (by omega))) ?_
  refine rs1 (gtI_q (w := iI ((kr (kd i)))) (rk_160 hR) (h36)) ?_
  refine rs1 (jn_v) ?_
  refine rs1 (if_neg (krI_n (k := 3) (rfl) (li_1) (hS.ok i (by omega) (by omega)) (by unfold KdOK sgk; omega) (by decide +kernel) (by omega) (by omega))) ?_
  refine rs1 (jv_e) ?_
  refine rs1 (vC_e (rk_160 hR)) ?_
  refine rs1 (cI_e (ar193_2 (by omega) hS hR (h36) (h37) (h41) (li_0) (by omega))) ?_
  refine rs1 (if_pos (eqI_p (rfl) (li_0) (by omega))) ?_
  refine rs1 (jv_e) ?_
  refine rs1 (jv_e) ?_
  try dsimp only
  refine rs1 (rtZ_q (z := 0) (li_0) (by omega)) ?_
  exact Rt.okI (z := 0) (rfl) ⟨rfl, rfl⟩
