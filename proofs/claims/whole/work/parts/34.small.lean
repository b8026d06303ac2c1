/-! the small methods of both parsers ahead of a FAULT -/
theorem krI_p {a b : Int32} {x k c : Int} (ha : a = iI (kr x)) (hb : b = iI c) (h : x = k) (e : kr k = c) : a = b := by rw [ha, hb, kr_p h e]
theorem krI_n {a b : Int32} {x k c : Int} (ha : a = iI (kr x)) (hb : b = iI c) (hx : KdOK x) (hk : KdOK k) (e : kr k = c) (h : x ≠ k) (hc : -2147483648 ≤ c ∧ c ≤ 2147483647) : ¬ a = b := by
  have q := kr_r hx
  exact eqI_n ha hb ⟨by omega, by omega, hc.1, hc.2, kr_n hx hk e h⟩
theorem a63 {d : Nat} {M : Mem} (hd : 1 ≤ d) {T : Int → Int} {n m : Int} {kd pl E : Int → Int} {tx : Int → Int64} (hS : TkS T n m kd pl E tx) (hR : CT M) (hTk : TkA M m kd pl tx) {i : Int} (h12 : M.1 65 12 = iI i) (h13 : M.1 65 13 = iI (kd i)) (h10 : M.1 65 10 = iI 0) (h : 0 ≤ i ∧ i < m ∧ i + 1 < m) : runX d 63 [va_rf (some 65)] M = some (.null, (sI (sI M 65 12 (iI (i + 1))) 65 13 (iI (kd (i + 1))))) := by
  obtain ⟨d, rfl⟩ : ∃ e, d = e + 1 := ⟨d - 1, by omega⟩
  refine Rt.e ?_
  rw [r63]; unfold b63; rw [aR_e, aZ_e]; unfold c63
  have hk0 := (hS.ok i (by omega) (by omega)).r
  have hm := hS.2.2.1
  refine rs1 (gtI_q (w := iI ((kd i))) (ck_65 hR) (h13)) ?_
  refine rs1 (jn_v) ?_
  refine rs1 (if_neg (eqI_n (rfl) (li_2) (by omega))) ?_
  refine rs1 (gtI_q (w := iI i) (ck_65 hR) (h12)) ?_
  refine rs1 (if_neg (leI_n (li_3000) (rfl) (by omega))) ?_
  refine rs1 (gtI_q (w := iI i) (ck_65 hR) (h12)) ?_
  refine rs1 (ptI_q (z := (i + 1)) (ck_65 hR) (adI (rfl) (li_1))) ?_
  refine rs1 (gtP_q (w := some 66) (ck_65 hR.sI) (cf_65_0 hR.sI)) ?_
  refine rs1 (gtP_q (w := some 68) (ck_66 hR.sI) (cf_66_2 hR.sI)) ?_
  refine rs1 (gtI_q (w := iI (i + 1)) (ck_65 hR.sI) (sI_eq)) ?_
  refine rs1 (alI_q (n := 3001) (z := (i + 1)) (w := iI ((kd (i + 1)))) (ck_68 hR.sI) (rfl) (by omega) ((sI_ne (by decide)).trans ((hTk (i + 1) (by omega) (by omega)).1))) ?_
  refine rs1 (ptI_q (z := ((kd (i + 1)))) (ck_65 hR.sI) (rfl)) ?_
  refine rs1 (jv_e) ?_
  exact Rt.ok ⟨rfl, rfl⟩
theorem a62_1 {d : Nat} {M : Mem} (hd : 1 ≤ d) {T : Int → Int} {n m : Int} {kd pl E : Int → Int} {tx : Int → Int64} (hS : TkS T n m kd pl E tx) (hR : CT M) (hTk : TkA M m kd pl tx) {i : Int} (h12 : M.1 65 12 = iI i) (h13 : M.1 65 13 = iI (kd i)) (h10 : M.1 65 10 = iI 0) {v0 : Int32} {o0 : Int} (hv0 : v0 = iI o0) (h : 0 ≤ i ∧ i < m ∧ kd i = 1) : runX d 62 [va_rf (some 65), .int (v0)] M = some (.null, (sI (sI (sI M 65 10 (iI 1)) 65 11 (iI (pl i))) 65 13 (iI 2))) := by
  obtain ⟨d, rfl⟩ : ∃ e, d = e + 1 := ⟨d - 1, by omega⟩
  refine Rt.e ?_
  rw [r62]; unfold b62; rw [aR_e, aI_e, aZ_e]; unfold c62
  have hk0 := (hS.ok i (by omega) (by omega)).r
  have hm := hS.2.2.1
  refine rs1 (gtI_q (w := iI 0) (ck_65 hR) (h10)) ?_
  refine rs1 (jn_v) ?_
  refine rs1 (if_pos (eqI_p (rfl) (li_0) (by omega))) ?_
  refine rs1 (gtI_q (w := iI ((kd i))) (ck_65 hR) (h13)) ?_
  refine rs1 (jn_v) ?_
  refine rs1 (if_pos (eqI_p (rfl) (li_1) (by omega))) ?_
  refine rs1 (jv_e) ?_
  refine rs1 (ptI_q (z := 1) (ck_65 hR) (li_1)) ?_
  refine rs1 (gtP_q (w := some 66) (ck_65 hR.sI) (cf_65_0 hR.sI)) ?_
  refine rs1 (gtP_q (w := some 69) (ck_66 hR.sI) (cf_66_3 hR.sI)) ?_
  refine rs1 (gtI_q (w := iI i) (ck_65 hR.sI) ((sI_nej (by decide)).trans (h12))) ?_
  refine rs1 (alI_q (n := 3001) (z := i) (w := iI ((pl i))) (ck_69 hR.sI) (rfl) (by omega) ((sI_ne (by decide)).trans ((hTk i (by omega) (by omega)).2.1))) ?_
  refine rs1 (ptI_q (z := ((pl i))) (ck_65 hR.sI) (rfl)) ?_
  refine rs1 (jv_e) ?_
  refine rs1 (ptI_q (z := 2) (ck_65 hR.sI.sI) (li_2)) ?_
  exact Rt.ok ⟨rfl, rfl⟩
theorem a62_2 {d : Nat} {M : Mem} (hd : 1 ≤ d) {T : Int → Int} {n m : Int} {kd pl E : Int → Int} {tx : Int → Int64} (hS : TkS T n m kd pl E tx) (hR : CT M) (hTk : TkA M m kd pl tx) {i : Int} (h12 : M.1 65 12 = iI i) (h13 : M.1 65 13 = iI (kd i)) (h10 : M.1 65 10 = iI 0) {v0 : Int32} {o0 : Int} (hv0 : v0 = iI o0) (h : 0 ≤ i ∧ i < m ∧ kd i ≠ 1) : runX d 62 [va_rf (some 65), .int (v0)] M = some (.null, (sI (sI (sI M 65 10 (iI o0)) 65 11 (iI (pl i))) 65 13 (iI 2))) := by
  obtain ⟨d, rfl⟩ : ∃ e, d = e + 1 := ⟨d - 1, by omega⟩
  refine Rt.e ?_
  rw [r62]; unfold b62; rw [aR_e, aI_e, aZ_e]; unfold c62
  have hk0 := (hS.ok i (by omega) (by omega)).r
  have hm := hS.2.2.1
  refine rs1 (gtI_q (w := iI 0) (ck_65 hR) (h10)) ?_
  refine rs1 (jn_v) ?_
  refine rs1 (if_pos (eqI_p (rfl) (li_0) (by omega))) ?_
  refine rs1 (gtI_q (w := iI ((kd i))) (ck_65 hR) (h13)) ?_
  refine rs1 (jn_v) ?_
  refine rs1 (if_neg (eqI_n (rfl) (li_1) (by omega))) ?_
  refine rs1 (jv_e) ?_
  refine rs1 (ptI_q (z := o0) (ck_65 hR) (hv0)) ?_
  refine rs1 (gtP_q (w := some 66) (ck_65 hR.sI) (cf_65_0 hR.sI)) ?_
  refine rs1 (gtP_q (w := some 69) (ck_66 hR.sI) (cf_66_3 hR.sI)) ?_
  refine rs1 (gtI_q (w := iI i) (ck_65 hR.sI) ((sI_nej (by decide)).trans (h12))) ?_
  refine rs1 (alI_q (n := 3001) (z := i) (w := iI ((pl i))) (ck_69 hR.sI) (rfl) (by omega) ((sI_ne (by decide)).trans ((hTk i (by omega) (by omega)).2.1))) ?_
  refine rs1 (ptI_q (z := ((pl i))) (ck_65 hR.sI) (rfl)) ?_
  refine rs1 (jv_e) ?_
  refine rs1 (ptI_q (z := 2) (ck_65 hR.sI.sI) (li_2)) ?_
  exact Rt.ok ⟨rfl, rfl⟩
theorem a65 {d : Nat} {M : Mem} (hd : 1 ≤ d) {T : Int → Int} {n m : Int} {kd pl E : Int → Int} {tx : Int → Int64} (hS : TkS T n m kd pl E tx) (hR : CT M) (hTk : TkA M m kd pl tx) {i : Int} (h12 : M.1 65 12 = iI i) (h13 : M.1 65 13 = iI (kd i)) (h10 : M.1 65 10 = iI 0) (h : 0 ≤ i ∧ i < m) : runX d 65 [va_rf (some 65)] M = some (.long (tx i), M) := by
  obtain ⟨d, rfl⟩ : ∃ e, d = e + 1 := ⟨d - 1, by omega⟩
  refine Rt.e ?_
  rw [r65]; unfold b65; rw [aR_e, aZ_e]; unfold c65
  have hk0 := (hS.ok i (by omega) (by omega)).r
  have hm := hS.2.2.1
  refine rs1 (gtP_q (w := some 66) (ck_65 hR) (cf_65_0 hR)) ?_
  refine rs1 (gtP_q (w := some 70) (ck_66 hR) (cf_66_4 hR)) ?_
  refine rs1 (gtI_q (w := iI i) (ck_65 hR) (h12)) ?_
  refine rs1 (alL_q (n := 3001) (z := i) (w := (tx i)) (ck_70 hR) (rfl) (by omega) ((hTk i (by omega) (by omega)).2.2)) ?_
  exact Rt.ok ⟨rfl, rfl⟩
theorem a64_p {d : Nat} {M : Mem} (hd : 2 ≤ d) {T : Int → Int} {n m : Int} {kd pl E : Int → Int} {tx : Int → Int64} (hS : TkS T n m kd pl E tx) (hR : CT M) (hTk : TkA M m kd pl tx) {i : Int} (h12 : M.1 65 12 = iI i) (h13 : M.1 65 13 = iI (kd i)) (h10 : M.1 65 10 = iI 0) {v0 : Int32} {o0 : Int} (hv0 : v0 = iI o0) (h : 0 ≤ i ∧ i < m ∧ i + 1 < m ∧ kd i = o0) : runX d 64 [va_rf (some 65), .int (v0)] M = some (.null, (sI (sI M 65 12 (iI (i + 1))) 65 13 (iI (kd (i + 1))))) := by
  obtain ⟨d, rfl⟩ : ∃ e, d = e + 1 := ⟨d - 1, by omega⟩
  refine Rt.e ?_
  rw [r64]; unfold b64; rw [aR_e, aI_e, aZ_e]; unfold c64
  have hk0 := (hS.ok i (by omega) (by omega)).r
  have hm := hS.2.2.1
  refine rs1 (gtI_q (w := iI ((kd i))) (ck_65 hR) (h13)) ?_
  refine rs1 (jn_v) ?_
  refine rs1 (if_pos (eqI_p (rfl) (hv0) (by omega))) ?_
  refine rs1 (vC_e (ck_65 hR)) ?_
  refine rs1 (cV_e (a63 (by omega) hS hR hTk (h12) (h13) (h10) (by omega))) ?_
  refine rs1 (jv_e) ?_
  exact Rt.ok ⟨rfl, rfl⟩
theorem a64_1 {d : Nat} {M : Mem} (hd : 2 ≤ d) {T : Int → Int} {n m : Int} {kd pl E : Int → Int} {tx : Int → Int64} (hS : TkS T n m kd pl E tx) (hR : CT M) (hTk : TkA M m kd pl tx) {i : Int} (h12 : M.1 65 12 = iI i) (h13 : M.1 65 13 = iI (kd i)) (h10 : M.1 65 10 = iI 0) {v0 : Int32} {o0 : Int} (hv0 : v0 = iI o0) (h : 0 ≤ i ∧ i < m ∧ kd i = 1 ∧ 3 ≤ o0 ∧ o0 ≤ 300) : runX d 64 [va_rf (some 65), .int (v0)] M = some (.null, (sI (sI (sI M 65 10 (iI 1)) 65 11 (iI (pl i))) 65 13 (iI 2))) := by
  obtain ⟨d, rfl⟩ : ∃ e, d = e + 1 := ⟨d - 1, by omega⟩
  refine Rt.e ?_
  rw [r64]; unfold b64; rw [aR_e, aI_e, aZ_e]; unfold c64
  have hk0 := (hS.ok i (by omega) (by omega)).r
  have hm := hS.2.2.1
  refine rs1 (gtI_q (w := iI ((kd i))) (ck_65 hR) (h13)) ?_
  refine rs1 (jn_v) ?_
  refine rs1 (if_neg (eqI_n (rfl) (hv0) (by omega))) ?_
  refine rs1 (vC_e (ck_65 hR)) ?_
  refine rs1 (cV_e (a62_1 (by omega) hS hR hTk (h12) (h13) (h10) (li_2) (by omega))) ?_
  refine rs1 (jv_e) ?_
  exact Rt.ok ⟨rfl, rfl⟩
theorem a64_2 {d : Nat} {M : Mem} (hd : 2 ≤ d) {T : Int → Int} {n m : Int} {kd pl E : Int → Int} {tx : Int → Int64} (hS : TkS T n m kd pl E tx) (hR : CT M) (hTk : TkA M m kd pl tx) {i : Int} (h12 : M.1 65 12 = iI i) (h13 : M.1 65 13 = iI (kd i)) (h10 : M.1 65 10 = iI 0) {v0 : Int32} {o0 : Int} (hv0 : v0 = iI o0) (h : 0 ≤ i ∧ i < m ∧ kd i ≠ 1 ∧ kd i ≠ o0 ∧ 3 ≤ o0 ∧ o0 ≤ 300) : runX d 64 [va_rf (some 65), .int (v0)] M = some (.null, (sI (sI (sI M 65 10 (iI 2)) 65 11 (iI (pl i))) 65 13 (iI 2))) := by
  obtain ⟨d, rfl⟩ : ∃ e, d = e + 1 := ⟨d - 1, by omega⟩
  refine Rt.e ?_
  rw [r64]; unfold b64; rw [aR_e, aI_e, aZ_e]; unfold c64
  have hk0 := (hS.ok i (by omega) (by omega)).r
  have hm := hS.2.2.1
  refine rs1 (gtI_q (w := iI ((kd i))) (ck_65 hR) (h13)) ?_
  refine rs1 (jn_v) ?_
  refine rs1 (if_neg (eqI_n (rfl) (hv0) (by omega))) ?_
  refine rs1 (vC_e (ck_65 hR)) ?_
  refine rs1 (cV_e (a62_2 (by omega) hS hR hTk (h12) (h13) (h10) (li_2) (by omega))) ?_
  refine rs1 (jv_e) ?_
  exact Rt.ok ⟨rfl, rfl⟩
theorem a69_p {d : Nat} {M : Mem} (hd : 2 ≤ d) {T : Int → Int} {n m : Int} {kd pl E : Int → Int} {tx : Int → Int64} (hS : TkS T n m kd pl E tx) (hR : CT M) (hTk : TkA M m kd pl tx) {i : Int} (h12 : M.1 65 12 = iI i) (h13 : M.1 65 13 = iI (kd i)) (h10 : M.1 65 10 = iI 0) {v0 : Int32} {o0 : Int} (hv0 : v0 = iI o0) {v1 : Int32} {o1 : Int} (hv1 : v1 = iI o1) (h : 0 ≤ i ∧ i < m ∧ i + 1 < m ∧ kd i = o0 ∧ 0 ≤ o1 ∧ o1 < 20) : runX d 69 [va_rf (some 65), .int (v0), .int (v1)] M = some (.null, (sI (sI M 65 12 (iI (i + 1))) 65 13 (iI (kd (i + 1))))) := by
  obtain ⟨d, rfl⟩ : ∃ e, d = e + 1 := ⟨d - 1, by omega⟩
  refine Rt.e ?_
  rw [r69]; unfold b69; rw [aR_e, aI_e, aI_e, aZ_e]; unfold c69
  have hk0 := (hS.ok i (by omega) (by omega)).r
  have hm := hS.2.2.1
  refine rs1 (gtI_q (w := iI ((kd i))) (ck_65 hR) (h13)) ?_
  refine rs1 (jn_v) ?_
  refine rs1 (if_pos (eqI_p (rfl) (hv0) (by omega))) ?_
  refine rs1 (if_pos (lsI_p (hv1) (li_20) (by omega))) ?_
  refine rs1 (vC_e (ck_65 hR)) ?_
  refine rs1 (cV_e (a63 (by omega) hS hR hTk (h12) (h13) (h10) (by omega))) ?_
  refine rs1 (jv_e) ?_
  exact Rt.ok ⟨rfl, rfl⟩
theorem a69_6 {d : Nat} {M : Mem} (hd : 2 ≤ d) {T : Int → Int} {n m : Int} {kd pl E : Int → Int} {tx : Int → Int64} (hS : TkS T n m kd pl E tx) (hR : CT M) (hTk : TkA M m kd pl tx) {i : Int} (h12 : M.1 65 12 = iI i) (h13 : M.1 65 13 = iI (kd i)) (h10 : M.1 65 10 = iI 0) {v0 : Int32} {o0 : Int} (hv0 : v0 = iI o0) {v1 : Int32} {o1 : Int} (hv1 : v1 = iI o1) (h : 0 ≤ i ∧ i < m ∧ kd i = o0 ∧ 20 ≤ o1 ∧ o1 ≤ 100 ∧ 3 ≤ o0) : runX d 69 [va_rf (some 65), .int (v0), .int (v1)] M = some (.null, (sI (sI (sI M 65 10 (iI 6)) 65 11 (iI (pl i))) 65 13 (iI 2))) := by
  obtain ⟨d, rfl⟩ : ∃ e, d = e + 1 := ⟨d - 1, by omega⟩
  refine Rt.e ?_
  rw [r69]; unfold b69; rw [aR_e, aI_e, aI_e, aZ_e]; unfold c69
  have hk0 := (hS.ok i (by omega) (by omega)).r
  have hm := hS.2.2.1
  refine rs1 (gtI_q (w := iI ((kd i))) (ck_65 hR) (h13)) ?_
  refine rs1 (jn_v) ?_
  refine rs1 (if_pos (eqI_p (rfl) (hv0) (by omega))) ?_
  refine rs1 (if_neg (lsI_n (hv1) (li_20) (by omega))) ?_
  refine rs1 (vC_e (ck_65 hR)) ?_
  refine rs1 (cV_e (a62_2 (by omega) hS hR hTk (h12) (h13) (h10) (li_6) (by omega))) ?_
  refine rs1 (jv_e) ?_
  exact Rt.ok ⟨rfl, rfl⟩
theorem a69_1 {d : Nat} {M : Mem} (hd : 2 ≤ d) {T : Int → Int} {n m : Int} {kd pl E : Int → Int} {tx : Int → Int64} (hS : TkS T n m kd pl E tx) (hR : CT M) (hTk : TkA M m kd pl tx) {i : Int} (h12 : M.1 65 12 = iI i) (h13 : M.1 65 13 = iI (kd i)) (h10 : M.1 65 10 = iI 0) {v0 : Int32} {o0 : Int} (hv0 : v0 = iI o0) {v1 : Int32} {o1 : Int} (hv1 : v1 = iI o1) (h : 0 ≤ i ∧ i < m ∧ kd i = 1 ∧ 3 ≤ o0 ∧ o0 ≤ 300 ∧ 0 ≤ o1 ∧ o1 ≤ 100) : runX d 69 [va_rf (some 65), .int (v0), .int (v1)] M = some (.null, (sI (sI (sI M 65 10 (iI 1)) 65 11 (iI (pl i))) 65 13 (iI 2))) := by
  obtain ⟨d, rfl⟩ : ∃ e, d = e + 1 := ⟨d - 1, by omega⟩
  refine Rt.e ?_
  rw [r69]; unfold b69; rw [aR_e, aI_e, aI_e, aZ_e]; unfold c69
  have hk0 := (hS.ok i (by omega) (by omega)).r
  have hm := hS.2.2.1
  refine rs1 (gtI_q (w := iI ((kd i))) (ck_65 hR) (h13)) ?_
  refine rs1 (jn_v) ?_
  refine rs1 (if_neg (eqI_n (rfl) (hv0) (by omega))) ?_
  refine rs1 (vC_e (ck_65 hR)) ?_
  refine rs1 (cV_e (a62_1 (by omega) hS hR hTk (h12) (h13) (h10) (li_2) (by omega))) ?_
  refine rs1 (jv_e) ?_
  exact Rt.ok ⟨rfl, rfl⟩
theorem a69_2 {d : Nat} {M : Mem} (hd : 2 ≤ d) {T : Int → Int} {n m : Int} {kd pl E : Int → Int} {tx : Int → Int64} (hS : TkS T n m kd pl E tx) (hR : CT M) (hTk : TkA M m kd pl tx) {i : Int} (h12 : M.1 65 12 = iI i) (h13 : M.1 65 13 = iI (kd i)) (h10 : M.1 65 10 = iI 0) {v0 : Int32} {o0 : Int} (hv0 : v0 = iI o0) {v1 : Int32} {o1 : Int} (hv1 : v1 = iI o1) (h : 0 ≤ i ∧ i < m ∧ kd i ≠ 1 ∧ kd i ≠ o0 ∧ 3 ≤ o0 ∧ o0 ≤ 300 ∧ 0 ≤ o1 ∧ o1 ≤ 100) : runX d 69 [va_rf (some 65), .int (v0), .int (v1)] M = some (.null, (sI (sI (sI M 65 10 (iI 2)) 65 11 (iI (pl i))) 65 13 (iI 2))) := by
  obtain ⟨d, rfl⟩ : ∃ e, d = e + 1 := ⟨d - 1, by omega⟩
  refine Rt.e ?_
  rw [r69]; unfold b69; rw [aR_e, aI_e, aI_e, aZ_e]; unfold c69
  have hk0 := (hS.ok i (by omega) (by omega)).r
  have hm := hS.2.2.1
  refine rs1 (gtI_q (w := iI ((kd i))) (ck_65 hR) (h13)) ?_
  refine rs1 (jn_v) ?_
  refine rs1 (if_neg (eqI_n (rfl) (hv0) (by omega))) ?_
  refine rs1 (vC_e (ck_65 hR)) ?_
  refine rs1 (cV_e (a62_2 (by omega) hS hR hTk (h12) (h13) (h10) (li_2) (by omega))) ?_
  refine rs1 (jv_e) ?_
  exact Rt.ok ⟨rfl, rfl⟩
theorem a66_p {d : Nat} {M : Mem} (hd : 2 ≤ d) {T : Int → Int} {n m : Int} {kd pl E : Int → Int} {tx : Int → Int64} (hS : TkS T n m kd pl E tx) (hR : CT M) (hTk : TkA M m kd pl tx) {i : Int} (h12 : M.1 65 12 = iI i) (h13 : M.1 65 13 = iI (kd i)) (h10 : M.1 65 10 = iI 0) {v0 : Int32} {o0 : Int} (hv0 : v0 = iI o0) {v1 : Int32} {o1 : Int} (hv1 : v1 = iI o1) (h : 0 ≤ i ∧ i < m ∧ i + 1 < m ∧ kd i = 3 ∧ o0 = 0 ∧ o1 = 0) : runX d 66 [va_rf (some 65), .int (v0), .int (v1)] M = some (.long (tx i), (sI (sI M 65 12 (iI (i + 1))) 65 13 (iI (kd (i + 1))))) := by
  obtain ⟨d, rfl⟩ : ∃ e, d = e + 1 := ⟨d - 1, by omega⟩
  refine Rt.e ?_
  rw [r66]; unfold b66; rw [aR_e, aI_e, aI_e, aZ_e]; unfold c66
  have hk0 := (hS.ok i (by omega) (by omega)).r
  have hm := hS.2.2.1
  refine rs1 (vC_e (ck_65 hR)) ?_
  refine rs1 (cL_e (a65 (by omega) hS hR hTk (h12) (h13) (h10) (by omega))) ?_
  refine rs1 (gtI_q (w := iI ((kd i))) (ck_65 hR) (h13)) ?_
  refine rs1 (jn_v) ?_
  refine rs1 (if_pos (eqI_p (rfl) (li_3) (by omega))) ?_
  refine rs1 (if_pos (eqI_p (hv0) (li_0) (by omega))) ?_
  refine rs1 (if_pos (eqI_p (hv1) (li_0) (by omega))) ?_
  refine rs1 (vC_e (ck_65 hR)) ?_
  refine rs1 (cV_e (a63 (by omega) hS hR hTk (h12) (h13) (h10) (by omega))) ?_
  refine rs1 (jv_e) ?_
  exact Rt.ok ⟨rfl, rfl⟩
theorem a66_3 {d : Nat} {M : Mem} (hd : 2 ≤ d) {T : Int → Int} {n m : Int} {kd pl E : Int → Int} {tx : Int → Int64} (hS : TkS T n m kd pl E tx) (hR : CT M) (hTk : TkA M m kd pl tx) {i : Int} (h12 : M.1 65 12 = iI i) (h13 : M.1 65 13 = iI (kd i)) (h10 : M.1 65 10 = iI 0) {v0 : Int32} {o0 : Int} (hv0 : v0 = iI o0) {v1 : Int32} {o1 : Int} (hv1 : v1 = iI o1) (h : 0 ≤ i ∧ i < m ∧ kd i = 3 ∧ o0 = 1) : runX d 66 [va_rf (some 65), .int (v0), .int (v1)] M = some (.long (tx i), (sI (sI (sI M 65 10 (iI 3)) 65 11 (iI (pl i))) 65 13 (iI 2))) := by
  obtain ⟨d, rfl⟩ : ∃ e, d = e + 1 := ⟨d - 1, by omega⟩
  refine Rt.e ?_
  rw [r66]; unfold b66; rw [aR_e, aI_e, aI_e, aZ_e]; unfold c66
  have hk0 := (hS.ok i (by omega) (by omega)).r
  have hm := hS.2.2.1
  refine rs1 (vC_e (ck_65 hR)) ?_
  refine rs1 (cL_e (a65 (by omega) hS hR hTk (h12) (h13) (h10) (by omega))) ?_
  refine rs1 (gtI_q (w := iI ((kd i))) (ck_65 hR) (h13)) ?_
  refine rs1 (jn_v) ?_
  refine rs1 (if_pos (eqI_p (rfl) (li_3) (by omega))) ?_
  refine rs1 (if_neg (eqI_n (hv0) (li_0) (by omega))) ?_
  refine rs1 (vC_e (ck_65 hR)) ?_
  refine rs1 (cV_e (a62_2 (by omega) hS hR hTk (h12) (h13) (h10) (li_3) (by omega))) ?_
  refine rs1 (jv_e) ?_
  exact Rt.ok ⟨rfl, rfl⟩
theorem a66_6 {d : Nat} {M : Mem} (hd : 2 ≤ d) {T : Int → Int} {n m : Int} {kd pl E : Int → Int} {tx : Int → Int64} (hS : TkS T n m kd pl E tx) (hR : CT M) (hTk : TkA M m kd pl tx) {i : Int} (h12 : M.1 65 12 = iI i) (h13 : M.1 65 13 = iI (kd i)) (h10 : M.1 65 10 = iI 0) {v0 : Int32} {o0 : Int} (hv0 : v0 = iI o0) {v1 : Int32} {o1 : Int} (hv1 : v1 = iI o1) (h : 0 ≤ i ∧ i < m ∧ kd i = 3 ∧ o0 = 0 ∧ o1 = 1) : runX d 66 [va_rf (some 65), .int (v0), .int (v1)] M = some (.long (tx i), (sI (sI (sI M 65 10 (iI 6)) 65 11 (iI (pl i))) 65 13 (iI 2))) := by
  obtain ⟨d, rfl⟩ : ∃ e, d = e + 1 := ⟨d - 1, by omega⟩
  refine Rt.e ?_
  rw [r66]; unfold b66; rw [aR_e, aI_e, aI_e, aZ_e]; unfold c66
  have hk0 := (hS.ok i (by omega) (by omega)).r
  have hm := hS.2.2.1
  refine rs1 (vC_e (ck_65 hR)) ?_
  refine rs1 (cL_e (a65 (by omega) hS hR hTk (h12) (h13) (h10) (by omega))) ?_
  refine rs1 (gtI_q (w := iI ((kd i))) (ck_65 hR) (h13)) ?_
  refine rs1 (jn_v) ?_
  refine rs1 (if_pos (eqI_p (rfl) (li_3) (by omega))) ?_
  refine rs1 (if_pos (eqI_p (hv0) (li_0) (by omega))) ?_
  refine rs1 (if_neg (eqI_n (hv1) (li_0) (by omega))) ?_
  refine rs1 (vC_e (ck_65 hR)) ?_
  refine rs1 (cV_e (a62_2 (by omega) hS hR hTk (h12) (h13) (h10) (li_6) (by omega))) ?_
  refine rs1 (jv_e) ?_
  exact Rt.ok ⟨rfl, rfl⟩
theorem a66_1 {d : Nat} {M : Mem} (hd : 2 ≤ d) {T : Int → Int} {n m : Int} {kd pl E : Int → Int} {tx : Int → Int64} (hS : TkS T n m kd pl E tx) (hR : CT M) (hTk : TkA M m kd pl tx) {i : Int} (h12 : M.1 65 12 = iI i) (h13 : M.1 65 13 = iI (kd i)) (h10 : M.1 65 10 = iI 0) {v0 : Int32} {o0 : Int} (hv0 : v0 = iI o0) {v1 : Int32} {o1 : Int} (hv1 : v1 = iI o1) (h : 0 ≤ i ∧ i < m ∧ kd i = 1) : runX d 66 [va_rf (some 65), .int (v0), .int (v1)] M = some (.long (tx i), (sI (sI (sI M 65 10 (iI 1)) 65 11 (iI (pl i))) 65 13 (iI 2))) := by
  obtain ⟨d, rfl⟩ : ∃ e, d = e + 1 := ⟨d - 1, by omega⟩
  refine Rt.e ?_
  rw [r66]; unfold b66; rw [aR_e, aI_e, aI_e, aZ_e]; unfold c66
  have hk0 := (hS.ok i (by omega) (by omega)).r
  have hm := hS.2.2.1
  refine rs1 (vC_e (ck_65 hR)) ?_
  refine rs1 (cL_e (a65 (by omega) hS hR hTk (h12) (h13) (h10) (by omega))) ?_
  refine rs1 (gtI_q (w := iI ((kd i))) (ck_65 hR) (h13)) ?_
  refine rs1 (jn_v) ?_
  refine rs1 (if_neg (eqI_n (rfl) (li_3) (by omega))) ?_
  refine rs1 (vC_e (ck_65 hR)) ?_
  refine rs1 (cV_e (a62_1 (by omega) hS hR hTk (h12) (h13) (h10) (li_2) (by omega))) ?_
  refine rs1 (jv_e) ?_
  exact Rt.ok ⟨rfl, rfl⟩
theorem a66_2 {d : Nat} {M : Mem} (hd : 2 ≤ d) {T : Int → Int} {n m : Int} {kd pl E : Int → Int} {tx : Int → Int64} (hS : TkS T n m kd pl E tx) (hR : CT M) (hTk : TkA M m kd pl tx) {i : Int} (h12 : M.1 65 12 = iI i) (h13 : M.1 65 13 = iI (kd i)) (h10 : M.1 65 10 = iI 0) {v0 : Int32} {o0 : Int} (hv0 : v0 = iI o0) {v1 : Int32} {o1 : Int} (hv1 : v1 = iI o1) (h : 0 ≤ i ∧ i < m ∧ kd i ≠ 1 ∧ kd i ≠ 3) : runX d 66 [va_rf (some 65), .int (v0), .int (v1)] M = some (.long (tx i), (sI (sI (sI M 65 10 (iI 2)) 65 11 (iI (pl i))) 65 13 (iI 2))) := by
  obtain ⟨d, rfl⟩ : ∃ e, d = e + 1 := ⟨d - 1, by omega⟩
  refine Rt.e ?_
  rw [r66]; unfold b66; rw [aR_e, aI_e, aI_e, aZ_e]; unfold c66
  have hk0 := (hS.ok i (by omega) (by omega)).r
  have hm := hS.2.2.1
  refine rs1 (vC_e (ck_65 hR)) ?_
  refine rs1 (cL_e (a65 (by omega) hS hR hTk (h12) (h13) (h10) (by omega))) ?_
  refine rs1 (gtI_q (w := iI ((kd i))) (ck_65 hR) (h13)) ?_
  refine rs1 (jn_v) ?_
  refine rs1 (if_neg (eqI_n (rfl) (li_3) (by omega))) ?_
  refine rs1 (vC_e (ck_65 hR)) ?_
  refine rs1 (cV_e (a62_2 (by omega) hS hR hTk (h12) (h13) (h10) (li_2) (by omega))) ?_
  refine rs1 (jv_e) ?_
  exact Rt.ok ⟨rfl, rfl⟩
theorem ar192 {d : Nat} {M : Mem} (hd : 1 ≤ d) {T : Int → Int} {n m : Int} {kd pl E : Int → Int} {tx : Int → Int64} (hS : TkS T n m kd pl E tx) (hR : RT M) {i : Int} (h36 : M.1 160 36 = iI (kr (kd i))) (h37 : M.1 160 37 = iI (pl i)) (h41 : M.1 160 41 = iI 0) {v0 : Int32} {o0 : Int} (hv0 : v0 = iI o0) {v1 : Int32} {o1 : Int} (hv1 : v1 = iI o1) (h : 0 ≤ i ∧ i < m) : runX d 192 [va_rf (some 160), .int (v0), .int (v1)] M = some (.null, (sI (sI M 160 41 (iI o0)) 160 42 (iI o1))) := by
  obtain ⟨d, rfl⟩ : ∃ e, d = e + 1 := ⟨d - 1, by omega⟩
  refine Rt.e ?_
  rw [r192]; unfold b192; rw [aR_e, aI_e, aI_e, aZ_e]; unfold c192
  have hk0 := (hS.ok i (by omega) (by omega)).r
  have hm := hS.2.2.1
  refine rs1 (gtI_q (w := iI 0) (rk_160 hR) (h41)) ?_
  refine rs1 (jn_v) ?_
  refine rs1 (if_pos (eqI_p (rfl) (li_0) (by omega))) ?_
  refine rs1 (ptI_q (z := o0) (rk_160 hR) (hv0)) ?_
  refine rs1 (ptI_q (z := o1) (rk_160 hR.sI) (hv1)) ?_
  refine rs1 (jv_e) ?_
  exact Rt.ok ⟨rfl, rfl⟩
theorem ar193_p {d : Nat} {M : Mem} (hd : 2 ≤ d) {T : Int → Int} {n m : Int} {kd pl E : Int → Int} {tx : Int → Int64} (hS : TkS T n m kd pl E tx) (hR : RT M) {i : Int} (h36 : M.1 160 36 = iI (kr (kd i))) (h37 : M.1 160 37 = iI (pl i)) (h41 : M.1 160 41 = iI 0) {v0 : Int32} {o0 : Int} (hv0 : v0 = iI o0) (h : 0 ≤ i ∧ i < m ∧ kd i ≠ 1 ∧ o0 = 1) : runX d 193 [va_rf (some 160), .int (v0)] M = some (.int (iI 1), M) := by
  obtain ⟨d, rfl⟩ : ∃ e, d = e + 1 := ⟨d - 1, by omega⟩
  refine Rt.e ?_
  rw [r193]; unfold b193; rw [aR_e, aI_e, aZ_e]; unfold c193
  have hk0 := (hS.ok i (by omega) (by omega)).r
  have hm := hS.2.2.1
  refine rs1 (jn_v) ?_
  refine rs1 (jn_v) ?_
  refine rs1 (if_neg (eqI_n (hv0) (li_0) (by omega))) ?_
  refine rs1 (gtI_q (w := iI ((kr (kd i)))) (rk_160 hR) (h36)) ?_
  refine rs1 (if_neg (krI_n (k := 1) (rfl) (li_m1) (hS.ok i (by omega) (by omega)) (by unfold KdOK sgk; omega) (by decide +kernel) (by omega) (by omega))) ?_
  refine rs1 (jv_e) ?_
  refine rs1 (gtI_q (w := iI 0) (rk_160 hR) (h41)) ?_
  refine rs1 (jn_v) ?_
  refine rs1 (if_pos (eqI_p (rfl) (li_0) (by omega))) ?_
  refine rs1 (jv_e) ?_
  refine rs1 (rtZ_q (z := 1) (li_1) (by omega)) ?_
  exact Rt.ok ⟨rfl, rfl⟩
theorem ar193_1 {d : Nat} {M : Mem} (hd : 2 ≤ d) {T : Int → Int} {n m : Int} {kd pl E : Int → Int} {tx : Int → Int64} (hS : TkS T n m kd pl E tx) (hR : RT M) {i : Int} (h36 : M.1 160 36 = iI (kr (kd i))) (h37 : M.1 160 37 = iI (pl i)) (h41 : M.1 160 41 = iI 0) {v0 : Int32} {o0 : Int} (hv0 : v0 = iI o0) (h : 0 ≤ i ∧ i < m ∧ kd i = 1 ∧ o0 = 0) : runX d 193 [va_rf (some 160), .int (v0)] M = some (.int (iI 0), (sI (sI M 160 41 (iI 1)) 160 42 (iI (pl i)))) := by
  obtain ⟨d, rfl⟩ : ∃ e, d = e + 1 := ⟨d - 1, by omega⟩
  refine Rt.e ?_
  rw [r193]; unfold b193; rw [aR_e, aI_e, aZ_e]; unfold c193
  have hk0 := (hS.ok i (by omega) (by omega)).r
  have hm := hS.2.2.1
  refine rs1 (jn_v) ?_
  refine rs1 (jn_v) ?_
  refine rs1 (if_pos (eqI_p (hv0) (li_0) (by omega))) ?_
  refine rs1 (jv_e) ?_
  refine rs1 (gtI_q (w := iI ((kr (kd i)))) (rk_160 hR) (h36)) ?_
  refine rs1 (jn_v) ?_
  refine rs1 (if_pos (krI_p (k := 1) (rfl) (li_m1) (by omega) (by decide +kernel))) ?_
  refine rs1 (jv_e) ?_
  refine rs1 (gtI_q (w := iI ((pl i))) (rk_160 hR) (h37)) ?_
  refine rs1 (vC_e (rk_160 hR)) ?_
  refine rs1 (cV_e (ar192 (by omega) hS hR (h36) (h37) (h41) (li_1) (rfl) (by omega))) ?_
  refine rs1 (jv_e) ?_
  refine rs1 (gtI_q (w := iI 1) (rk_160 hR.sI.sI) ((sI_nej (by decide)).trans (sI_eq))) ?_
  refine rs1 (jn_v) ?_
  refine rs1 (if_neg (eqI_n (rfl) (li_0) (by omega))) ?_
  refine rs1 (jv_e) ?_
  refine rs1 (rtZ_q (z := 0) (li_0) (by omega)) ?_
  exact Rt.ok ⟨rfl, rfl⟩
theorem ar193_2 {d : Nat} {M : Mem} (hd : 2 ≤ d) {T : Int → Int} {n m : Int} {kd pl E : Int → Int} {tx : Int → Int64} (hS : TkS T n m kd pl E tx) (hR : RT M) {i : Int} (h36 : M.1 160 36 = iI (kr (kd i))) (h37 : M.1 160 37 = iI (pl i)) (h41 : M.1 160 41 = iI 0) {v0 : Int32} {o0 : Int} (hv0 : v0 = iI o0) (h : 0 ≤ i ∧ i < m ∧ kd i ≠ 1 ∧ o0 = 0) : runX d 193 [va_rf (some 160), .int (v0)] M = some (.int (iI 0), (sI (sI M 160 41 (iI 2)) 160 42 (iI (pl i)))) := by
  obtain ⟨d, rfl⟩ : ∃ e, d = e + 1 := ⟨d - 1, by omega⟩
  refine Rt.e ?_
  rw [r193]; unfold b193; rw [aR_e, aI_e, aZ_e]; unfold c193
  have hk0 := (hS.ok i (by omega) (by omega)).r
  have hm := hS.2.2.1
  refine rs1 (jn_v) ?_
  refine rs1 (jn_v) ?_
  refine rs1 (if_pos (eqI_p (hv0) (li_0) (by omega))) ?_
  refine rs1 (jv_e) ?_
  refine rs1 (gtI_q (w := iI ((kr (kd i)))) (rk_160 hR) (h36)) ?_
  refine rs1 (jn_v) ?_
  refine rs1 (if_neg (krI_n (k := 1) (rfl) (li_m1) (hS.ok i (by omega) (by omega)) (by unfold KdOK sgk; omega) (by decide +kernel) (by omega) (by omega))) ?_
  refine rs1 (jv_e) ?_
  refine rs1 (gtI_q (w := iI ((pl i))) (rk_160 hR) (h37)) ?_
  refine rs1 (vC_e (rk_160 hR)) ?_
  refine rs1 (cV_e (ar192 (by omega) hS hR (h36) (h37) (h41) (li_2) (rfl) (by omega))) ?_
  refine rs1 (jv_e) ?_
  refine rs1 (gtI_q (w := iI 2) (rk_160 hR.sI.sI) ((sI_nej (by decide)).trans (sI_eq))) ?_
  refine rs1 (jn_v) ?_
  refine rs1 (if_neg (eqI_n (rfl) (li_0) (by omega))) ?_
  refine rs1 (jv_e) ?_
  refine rs1 (rtZ_q (z := 0) (li_0) (by omega)) ?_
  exact Rt.ok ⟨rfl, rfl⟩
theorem ar194_p {d : Nat} {M : Mem} (hd : 2 ≤ d) {T : Int → Int} {n m : Int} {kd pl E : Int → Int} {tx : Int → Int64} (hS : TkS T n m kd pl E tx) (hR : RT M) {i : Int} (h36 : M.1 160 36 = iI (kr (kd i))) (h37 : M.1 160 37 = iI (pl i)) (h41 : M.1 160 41 = iI 0) {v0 : Int32} {o0 : Int} (hv0 : v0 = iI o0) {v1 : Int32} {o1 : Int} (hv1 : v1 = iI o1) (h : 0 ≤ i ∧ i < m ∧ o0 = 1) : runX d 194 [va_rf (some 160), .int (v0), .int (v1)] M = some (.int (iI 1), M) := by
  obtain ⟨d, rfl⟩ : ∃ e, d = e + 1 := ⟨d - 1, by omega⟩
  refine Rt.e ?_
  rw [r194]; unfold b194; rw [aR_e, aI_e, aI_e, aZ_e]; unfold c194
  have hk0 := (hS.ok i (by omega) (by omega)).r
  have hm := hS.2.2.1
  refine rs1 (jn_v) ?_
  refine rs1 (if_neg (eqI_n (hv0) (li_0) (by omega))) ?_
  refine rs1 (jv_e) ?_
  refine rs1 (gtI_q (w := iI 0) (rk_160 hR) (h41)) ?_
  refine rs1 (jn_v) ?_
  refine rs1 (if_pos (eqI_p (rfl) (li_0) (by omega))) ?_
  refine rs1 (jv_e) ?_
  refine rs1 (rtZ_q (z := 1) (li_1) (by omega)) ?_
  exact Rt.ok ⟨rfl, rfl⟩
theorem ar194_f {d : Nat} {M : Mem} (hd : 2 ≤ d) {T : Int → Int} {n m : Int} {kd pl E : Int → Int} {tx : Int → Int64} (hS : TkS T n m kd pl E tx) (hR : RT M) {i : Int} (h36 : M.1 160 36 = iI (kr (kd i))) (h37 : M.1 160 37 = iI (pl i)) (h41 : M.1 160 41 = iI 0) {v0 : Int32} {o0 : Int} (hv0 : v0 = iI o0) {v1 : Int32} {o1 : Int} (hv1 : v1 = iI o1) (h : 0 ≤ i ∧ i < m ∧ o0 = 0 ∧ 1 ≤ o1 ∧ o1 ≤ 6) : runX d 194 [va_rf (some 160), .int (v0), .int (v1)] M = some (.int (iI 0), (sI (sI M 160 41 (iI o1)) 160 42 (iI (pl i)))) := by
  obtain ⟨d, rfl⟩ : ∃ e, d = e + 1 := ⟨d - 1, by omega⟩
  refine Rt.e ?_
  rw [r194]; unfold b194; rw [aR_e, aI_e, aI_e, aZ_e]; unfold c194
  have hk0 := (hS.ok i (by omega) (by omega)).r
  have hm := hS.2.2.1
  refine rs1 (jn_v) ?_
  refine rs1 (if_pos (eqI_p (hv0) (li_0) (by omega))) ?_
  refine rs1 (gtI_q (w := iI ((pl i))) (rk_160 hR) (h37)) ?_
  refine rs1 (vC_e (rk_160 hR)) ?_
  refine rs1 (cV_e (ar192 (by omega) hS hR (h36) (h37) (h41) (hv1) (rfl) (by omega))) ?_
  refine rs1 (jv_e) ?_
  refine rs1 (gtI_q (w := iI o1) (rk_160 hR.sI.sI) ((sI_nej (by decide)).trans (sI_eq))) ?_
  refine rs1 (jn_v) ?_
  refine rs1 (if_neg (eqI_n (rfl) (li_0) (by omega))) ?_
  refine rs1 (jv_e) ?_
  refine rs1 (rtZ_q (z := 0) (li_0) (by omega)) ?_
  exact Rt.ok ⟨rfl, rfl⟩
theorem ar200_p {d : Nat} {M : Mem} (hd : 3 ≤ d) {T : Int → Int} {n m : Int} {kd pl E : Int → Int} {tx : Int → Int64} (hS : TkS T n m kd pl E tx) (hR : RT M) {i : Int} (h36 : M.1 160 36 = iI (kr (kd i))) (h37 : M.1 160 37 = iI (pl i)) (h41 : M.1 160 41 = iI 0) {dp : Int} (h50 : M.1 160 50 = iI dp) (h : 0 ≤ i ∧ i < m ∧ 0 ≤ dp ∧ dp < 20) : runX d 200 [va_rf (some 160)] M = some (.int (iI 1), (sI M 160 50 (iI (dp + 1)))) := by
  obtain ⟨d, rfl⟩ : ∃ e, d = e + 1 := ⟨d - 1, by omega⟩
  refine Rt.e ?_
  rw [r200]; unfold b200; rw [aR_e, aZ_e]; unfold c200
  have hk0 := (hS.ok i (by omega) (by omega)).r
  have hm := hS.2.2.1
  refine rs1 (gtI_q (w := iI dp) (rk_160 hR) (h50)) ?_
  refine rs1 (ptI_q (z := (dp + 1)) (rk_160 hR) (adI (rfl) (li_1))) ?_
  refine rs1 (gtI_q (w := iI (dp + 1)) (rk_160 hR.sI) (sI_eq)) ?_
  refine rs1 (jn_v) ?_
  refine rs1 (if_neg (lsI_n (li_20) (rfl) (by omega))) ?_
  refine rs1 (jv_e) ?_
  refine rs1 (vC_e (rk_160 hR.sI)) ?_
  refine rs1 (cI_e (ar194_p (by omega) hS hR.sI ((sI_nej (by decide)).trans (h36)) ((sI_nej (by decide)).trans (h37)) ((sI_nej (by decide)).trans (h41)) (li_1) (li_6) (by omega))) ?_
  refine rs1 (rtZ_q (z := 1) (rfl) (by omega)) ?_
  exact Rt.ok ⟨rfl, rfl⟩
theorem ar200_6 {d : Nat} {M : Mem} (hd : 3 ≤ d) {T : Int → Int} {n m : Int} {kd pl E : Int → Int} {tx : Int → Int64} (hS : TkS T n m kd pl E tx) (hR : RT M) {i : Int} (h36 : M.1 160 36 = iI (kr (kd i))) (h37 : M.1 160 37 = iI (pl i)) (h41 : M.1 160 41 = iI 0) {dp : Int} (h50 : M.1 160 50 = iI dp) (h : 0 ≤ i ∧ i < m ∧ 20 ≤ dp ∧ dp ≤ 100) : runX d 200 [va_rf (some 160)] M = some (.int (iI 0), (sI (sI (sI M 160 50 (iI (dp + 1))) 160 41 (iI 6)) 160 42 (iI (pl i)))) := by
  obtain ⟨d, rfl⟩ : ∃ e, d = e + 1 := ⟨d - 1, by omega⟩
  refine Rt.e ?_
  rw [r200]; unfold b200; rw [aR_e, aZ_e]; unfold c200
  have hk0 := (hS.ok i (by omega) (by omega)).r
  have hm := hS.2.2.1
  refine rs1 (gtI_q (w := iI dp) (rk_160 hR) (h50)) ?_
  refine rs1 (ptI_q (z := (dp + 1)) (rk_160 hR) (adI (rfl) (li_1))) ?_
  refine rs1 (gtI_q (w := iI (dp + 1)) (rk_160 hR.sI) (sI_eq)) ?_
  refine rs1 (jn_v) ?_
  refine rs1 (if_pos (lsI_p (li_20) (rfl) (by omega))) ?_
  refine rs1 (jv_e) ?_
  refine rs1 (vC_e (rk_160 hR.sI)) ?_
  refine rs1 (cI_e (ar194_f (by omega) hS hR.sI ((sI_nej (by decide)).trans (h36)) ((sI_nej (by decide)).trans (h37)) ((sI_nej (by decide)).trans (h41)) (li_0) (li_6) (by omega))) ?_
  refine rs1 (rtZ_q (z := 0) (rfl) (by omega)) ?_
  exact Rt.ok ⟨rfl, rfl⟩
theorem a63q {d : Nat} {M : Mem} (hd : 1 ≤ d) {T : Int → Int} {n m : Int} {kd pl E : Int → Int} {tx : Int → Int64} (hS : TkS T n m kd pl E tx) (hR : CT M) (hTk : TkA M m kd pl tx) {i : Int} (h12 : M.1 65 12 = iI i) (h13 : M.1 65 13 = iI (kd i)) (h10 : M.1 65 10 = iI 0) {i2 : Int} (h2 : i2 = i + 1) (h : 0 ≤ i ∧ i < m ∧ i + 1 < m) : runX d 63 [va_rf (some 65)] M = some (.null, (sI (sI M 65 12 (iI i2)) 65 13 (iI (kd i2)))) := by subst h2; exact a63 hd hS hR hTk h12 h13 h10 h
theorem a64q {d : Nat} {M : Mem} (hd : 2 ≤ d) {T : Int → Int} {n m : Int} {kd pl E : Int → Int} {tx : Int → Int64} (hS : TkS T n m kd pl E tx) (hR : CT M) (hTk : TkA M m kd pl tx) {i : Int} (h12 : M.1 65 12 = iI i) (h13 : M.1 65 13 = iI (kd i)) (h10 : M.1 65 10 = iI 0) {v0 : Int32} {o0 : Int} (hv0 : v0 = iI o0) {i2 : Int} (h2 : i2 = i + 1) (h : 0 ≤ i ∧ i < m ∧ i + 1 < m ∧ kd i = o0) : runX d 64 [va_rf (some 65), .int v0] M = some (.null, (sI (sI M 65 12 (iI i2)) 65 13 (iI (kd i2)))) := by subst h2; exact a64_p hd hS hR hTk h12 h13 h10 hv0 h
theorem a69q {d : Nat} {M : Mem} (hd : 2 ≤ d) {T : Int → Int} {n m : Int} {kd pl E : Int → Int} {tx : Int → Int64} (hS : TkS T n m kd pl E tx) (hR : CT M) (hTk : TkA M m kd pl tx) {i : Int} (h12 : M.1 65 12 = iI i) (h13 : M.1 65 13 = iI (kd i)) (h10 : M.1 65 10 = iI 0) {v0 : Int32} {o0 : Int} (hv0 : v0 = iI o0) {v1 : Int32} {o1 : Int} (hv1 : v1 = iI o1) {i2 : Int} (h2 : i2 = i + 1) (h : 0 ≤ i ∧ i < m ∧ i + 1 < m ∧ kd i = o0 ∧ 0 ≤ o1 ∧ o1 < 20) : runX d 69 [va_rf (some 65), .int v0, .int v1] M = some (.null, (sI (sI M 65 12 (iI i2)) 65 13 (iI (kd i2)))) := by subst h2; exact a69_p hd hS hR hTk h12 h13 h10 hv0 hv1 h
theorem a66q {d : Nat} {M : Mem} (hd : 2 ≤ d) {T : Int → Int} {n m : Int} {kd pl E : Int → Int} {tx : Int → Int64} (hS : TkS T n m kd pl E tx) (hR : CT M) (hTk : TkA M m kd pl tx) {i : Int} (h12 : M.1 65 12 = iI i) (h13 : M.1 65 13 = iI (kd i)) (h10 : M.1 65 10 = iI 0) {v0 : Int32} {o0 : Int} (hv0 : v0 = iI o0) {v1 : Int32} {o1 : Int} (hv1 : v1 = iI o1) {i2 : Int} (h2 : i2 = i + 1) (h : 0 ≤ i ∧ i < m ∧ i + 1 < m ∧ kd i = 3 ∧ o0 = 0 ∧ o1 = 0) : runX d 66 [va_rf (some 65), .int v0, .int v1] M = some (.long (tx i), (sI (sI M 65 12 (iI i2)) 65 13 (iI (kd i2)))) := by subst h2; exact a66_p hd hS hR hTk h12 h13 h10 hv0 hv1 h
