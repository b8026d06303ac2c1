/-! the class's parser behind a FAULT: all comes to its end and changes no FAULT -/
def W_cp : List (Nat × Nat) := [(65, 9), (65, 10), (65, 11), (65, 12), (65, 13), (65, 16), (65, 19), (72, 9999), (73, 9999), (74, 9999), (76, 9999), (78, 9999), (79, 9999), (80, 9999), (81, 9999), (82, 9999), (83, 9999), (85, 9999), (86, 9999)]
theorem y62 {d : Nat} {M : Mem} (hd : 1 ≤ d) (hR : CT M) {m : Int} {kd pl : Int → Int} {tx : Int → Int64} (hTk : TkA M m kd pl tx) {i F P sz sn uc : Int} (h12 : M.1 65 12 = iI i) (h13 : M.1 65 13 = iI 2) (h10 : M.1 65 10 = iI F) (h11 : M.1 65 11 = iI P) (h9 : M.1 65 9 = iI sz) (h16 : M.1 65 16 = iI sn) (h19 : M.1 65 19 = iI uc) {v0 : Int32} {o0 : Int} (hv0 : v0 = iI o0) (h : 0 ≤ i ∧ i < m ∧ m ≤ 3001 ∧ 1 ≤ F ∧ F ≤ 6 ∧ 0 ≤ sz ∧ sz ≤ 4096 ∧ 0 ≤ sn ∧ sn ≤ 10 ∧ 0 ≤ uc ∧ uc ≤ 1500) : Rt (runX d 62 [va_rf (some 65), .int (v0)] M) (fun _ M2 => ∃ (sz : Int) (sn : Int) (uc : Int), Fr W_cp M M2 ∧ M2.1 65 9 = iI sz ∧ M2.1 65 16 = iI sn ∧ M2.1 65 19 = iI uc ∧ M2.1 65 13 = iI 2 ∧ M2.1 65 10 = iI F ∧ M2.1 65 11 = iI P ∧ M2.1 65 12 = iI i ∧ (0 ≤ sz ∧ sz ≤ 4096) ∧ (0 ≤ sn ∧ sn ≤ 10) ∧ (0 ≤ uc ∧ uc ≤ 1500)) := by
  obtain ⟨d, rfl⟩ : ∃ e, d = e + 1 := ⟨d - 1, by omega⟩
  rw [r62]; unfold b62; rw [aR_e, aI_e, aZ_e]; unfold c62
  refine rs1 (gtI_q (w := iI F) (ck_65 hR) (h10)) ?_
  refine rs1 (jn_v) ?_
  refine rs1 (if_neg (eqI_n (rfl) (li_0) (by omega))) ?_
  refine rs1 (jv_e) ?_
  refine rs1 (ptI_q (z := 2) (ck_65 hR) (li_2)) ?_
  exact Rt.ok ⟨sz, sn, uc, (Fr.sI (by decide) Fr.r), (sI_nej (by decide)).trans (h9), (sI_nej (by decide)).trans (h16), (sI_nej (by decide)).trans (h19), sI_eq, (sI_nej (by decide)).trans (h10), (sI_nej (by decide)).trans (h11), (sI_nej (by decide)).trans (h12), by omega, by omega, by omega⟩
theorem y63 {d : Nat} {M : Mem} (hd : 1 ≤ d) (hR : CT M) {m : Int} {kd pl : Int → Int} {tx : Int → Int64} (hTk : TkA M m kd pl tx) {i F P sz sn uc : Int} (h12 : M.1 65 12 = iI i) (h13 : M.1 65 13 = iI 2) (h10 : M.1 65 10 = iI F) (h11 : M.1 65 11 = iI P) (h9 : M.1 65 9 = iI sz) (h16 : M.1 65 16 = iI sn) (h19 : M.1 65 19 = iI uc) (h : 0 ≤ i ∧ i < m ∧ m ≤ 3001 ∧ 1 ≤ F ∧ F ≤ 6 ∧ 0 ≤ sz ∧ sz ≤ 4096 ∧ 0 ≤ sn ∧ sn ≤ 10 ∧ 0 ≤ uc ∧ uc ≤ 1500) : Rt (runX d 63 [va_rf (some 65)] M) (fun _ M2 => ∃ (sz : Int) (sn : Int) (uc : Int), Fr W_cp M M2 ∧ M2.1 65 9 = iI sz ∧ M2.1 65 16 = iI sn ∧ M2.1 65 19 = iI uc ∧ M2.1 65 13 = iI 2 ∧ M2.1 65 10 = iI F ∧ M2.1 65 11 = iI P ∧ M2.1 65 12 = iI i ∧ (0 ≤ sz ∧ sz ≤ 4096) ∧ (0 ≤ sn ∧ sn ≤ 10) ∧ (0 ≤ uc ∧ uc ≤ 1500)) := by
  obtain ⟨d, rfl⟩ : ∃ e, d = e + 1 := ⟨d - 1, by omega⟩
  rw [r63]; unfold b63; rw [aR_e, aZ_e]; unfold c63
  refine rs1 (gtI_q (w := iI 2) (ck_65 hR) (h13)) ?_
  refine rs1 (jn_v) ?_
  refine rs1 (if_pos (eqI_p (rfl) (li_2) (by omega))) ?_
  refine rs1 (jv_e) ?_
  exact Rt.ok ⟨sz, sn, uc, Fr.r, h9, h16, h19, h13, h10, h11, h12, by omega, by omega, by omega⟩
theorem y65 {d : Nat} {M : Mem} (hd : 1 ≤ d) (hR : CT M) {m : Int} {kd pl : Int → Int} {tx : Int → Int64} (hTk : TkA M m kd pl tx) {i F P sz sn uc : Int} (h12 : M.1 65 12 = iI i) (h13 : M.1 65 13 = iI 2) (h10 : M.1 65 10 = iI F) (h11 : M.1 65 11 = iI P) (h9 : M.1 65 9 = iI sz) (h16 : M.1 65 16 = iI sn) (h19 : M.1 65 19 = iI uc) (h : 0 ≤ i ∧ i < m ∧ m ≤ 3001 ∧ 1 ≤ F ∧ F ≤ 6 ∧ 0 ≤ sz ∧ sz ≤ 4096 ∧ 0 ≤ sn ∧ sn ≤ 10 ∧ 0 ≤ uc ∧ uc ≤ 1500) : Rt (runX d 65 [va_rf (some 65)] M) (fun v M2 => ∃ (rv : Int64) (sz : Int) (sn : Int) (uc : Int), v = .long rv ∧ Fr W_cp M M2 ∧ M2.1 65 9 = iI sz ∧ M2.1 65 16 = iI sn ∧ M2.1 65 19 = iI uc ∧ M2.1 65 13 = iI 2 ∧ M2.1 65 10 = iI F ∧ M2.1 65 11 = iI P ∧ M2.1 65 12 = iI i ∧ (0 ≤ sz ∧ sz ≤ 4096) ∧ (0 ≤ sn ∧ sn ≤ 10) ∧ (0 ≤ uc ∧ uc ≤ 1500)) := by
  obtain ⟨d, rfl⟩ : ∃ e, d = e + 1 := ⟨d - 1, by omega⟩
  rw [r65]; unfold b65; rw [aR_e, aZ_e]; unfold c65
  refine rs1 (gtP_q (w := some 66) (ck_65 hR) (cf_65_0 hR)) ?_
  refine rs1 (gtP_q (w := some 70) (ck_66 hR) (cf_66_4 hR)) ?_
  refine rs1 (gtI_q (w := iI i) (ck_65 hR) (h12)) ?_
  refine rs1 (alL_q (n := 3001) (z := i) (w := (tx i)) (ck_70 hR) (rfl) (by omega) ((hTk i (by omega) (by omega)).2.2)) ?_
  exact Rt.ok ⟨(tx i), sz, sn, uc, rfl, Fr.r, h9, h16, h19, h13, h10, h11, h12, by omega, by omega, by omega⟩
theorem y64 {d : Nat} {M : Mem} (hd : 2 ≤ d) (hR : CT M) {m : Int} {kd pl : Int → Int} {tx : Int → Int64} (hTk : TkA M m kd pl tx) {i F P sz sn uc : Int} (h12 : M.1 65 12 = iI i) (h13 : M.1 65 13 = iI 2) (h10 : M.1 65 10 = iI F) (h11 : M.1 65 11 = iI P) (h9 : M.1 65 9 = iI sz) (h16 : M.1 65 16 = iI sn) (h19 : M.1 65 19 = iI uc) {v0 : Int32} {o0 : Int} (hv0 : v0 = iI o0) (h : 0 ≤ i ∧ i < m ∧ m ≤ 3001 ∧ 1 ≤ F ∧ F ≤ 6 ∧ 0 ≤ sz ∧ sz ≤ 4096 ∧ 0 ≤ sn ∧ sn ≤ 10 ∧ 0 ≤ uc ∧ uc ≤ 1500 ∧ 3 ≤ o0 ∧ o0 ≤ 300) : Rt (runX d 64 [va_rf (some 65), .int (v0)] M) (fun _ M2 => ∃ (sz : Int) (sn : Int) (uc : Int), Fr W_cp M M2 ∧ M2.1 65 9 = iI sz ∧ M2.1 65 16 = iI sn ∧ M2.1 65 19 = iI uc ∧ M2.1 65 13 = iI 2 ∧ M2.1 65 10 = iI F ∧ M2.1 65 11 = iI P ∧ M2.1 65 12 = iI i ∧ (0 ≤ sz ∧ sz ≤ 4096) ∧ (0 ≤ sn ∧ sn ≤ 10) ∧ (0 ≤ uc ∧ uc ≤ 1500)) := by
  obtain ⟨d, rfl⟩ : ∃ e, d = e + 1 := ⟨d - 1, by omega⟩
  rw [r64]; unfold b64; rw [aR_e, aI_e, aZ_e]; unfold c64
  refine rs1 (gtI_q (w := iI 2) (ck_65 hR) (h13)) ?_
  refine rs1 (jn_v) ?_
  refine rs1 (if_neg (eqI_n (rfl) (hv0) (by omega))) ?_
  refine rs1 (vC_e (ck_65 hR)) ?_
  refine Rc_V (y62 (by omega) hR (hTk.fr (WL := W_cp) Fr.r (by decide)) (h12) (h13) (h10) (h11) (h9) (h16) (h19) (li_2) (by omega)) fun v Ma2 h2 => ?_
  obtain ⟨sz1, sn1, uc1, g2, e2_sz1, e2_sn1, e2_uc1, e2_k0, e2_k1, e2_k2, e2_k3, p2_0, p2_1, p2_2⟩ := h2
  have f2 : Fr W_cp M Ma2 := Fr.t Fr.r (Fr.m g2 (by decide))
  refine rs1 (cV_e rfl) ?_
  refine rs1 (jv_e) ?_
  exact Rt.ok ⟨sz1, sn1, uc1, f2, e2_sz1, e2_sn1, e2_uc1, e2_k0, e2_k1, e2_k2, e2_k3, by omega, by omega, by omega⟩
theorem y66 {d : Nat} {M : Mem} (hd : 2 ≤ d) (hR : CT M) {m : Int} {kd pl : Int → Int} {tx : Int → Int64} (hTk : TkA M m kd pl tx) {i F P sz sn uc : Int} (h12 : M.1 65 12 = iI i) (h13 : M.1 65 13 = iI 2) (h10 : M.1 65 10 = iI F) (h11 : M.1 65 11 = iI P) (h9 : M.1 65 9 = iI sz) (h16 : M.1 65 16 = iI sn) (h19 : M.1 65 19 = iI uc) {v0 : Int32} {o0 : Int} (hv0 : v0 = iI o0) {v1 : Int32} {o1 : Int} (hv1 : v1 = iI o1) (h : 0 ≤ i ∧ i < m ∧ m ≤ 3001 ∧ 1 ≤ F ∧ F ≤ 6 ∧ 0 ≤ sz ∧ sz ≤ 4096 ∧ 0 ≤ sn ∧ sn ≤ 10 ∧ 0 ≤ uc ∧ uc ≤ 1500) : Rt (runX d 66 [va_rf (some 65), .int (v0), .int (v1)] M) (fun v M2 => ∃ (rv : Int64) (sz : Int) (sn : Int) (uc : Int), v = .long rv ∧ Fr W_cp M M2 ∧ M2.1 65 9 = iI sz ∧ M2.1 65 16 = iI sn ∧ M2.1 65 19 = iI uc ∧ M2.1 65 13 = iI 2 ∧ M2.1 65 10 = iI F ∧ M2.1 65 11 = iI P ∧ M2.1 65 12 = iI i ∧ (0 ≤ sz ∧ sz ≤ 4096) ∧ (0 ≤ sn ∧ sn ≤ 10) ∧ (0 ≤ uc ∧ uc ≤ 1500)) := by
  obtain ⟨d, rfl⟩ : ∃ e, d = e + 1 := ⟨d - 1, by omega⟩
  rw [r66]; unfold b66; rw [aR_e, aI_e, aI_e, aZ_e]; unfold c66
  refine rs1 (vC_e (ck_65 hR)) ?_
  refine Rc_L (y65 (by omega) hR (hTk.fr (WL := W_cp) Fr.r (by decide)) (h12) (h13) (h10) (h11) (h9) (h16) (h19)  (by omega)) fun v Ma2 h2 => ?_
  obtain ⟨rv1, sz1, sn1, uc1, rfl, g2, e2_sz1, e2_sn1, e2_uc1, e2_k0, e2_k1, e2_k2, e2_k3, p2_0, p2_1, p2_2⟩ := h2
  have f2 : Fr W_cp M Ma2 := Fr.t Fr.r (Fr.m g2 (by decide))
  refine rs1 (cL_e rfl) ?_
  refine rs1 (gtI_q (w := iI 2) (ck_65 (hR.fr f2)) (e2_k0)) ?_
  refine rs1 (jn_v) ?_
  refine rs1 (if_neg (eqI_n (rfl) (li_3) (by omega))) ?_
  refine rs1 (vC_e (ck_65 (hR.fr f2))) ?_
  refine Rc_V (y62 (by omega) (hR.fr f2) (hTk.fr (WL := W_cp) f2 (by decide)) (e2_k3) (e2_k0) (e2_k1) (e2_k2) (e2_sz1) (e2_sn1) (e2_uc1) (li_2) (by omega)) fun v Ma4 h4 => ?_
  obtain ⟨sz3, sn3, uc3, g4, e4_sz3, e4_sn3, e4_uc3, e4_k0, e4_k1, e4_k2, e4_k3, p4_0, p4_1, p4_2⟩ := h4
  have f4 : Fr W_cp M Ma4 := Fr.t f2 (Fr.m g4 (by decide))
  refine rs1 (cV_e rfl) ?_
  refine rs1 (jv_e) ?_
  exact Rt.ok ⟨rv1, sz3, sn3, uc3, rfl, f4, e4_sz3, e4_sn3, e4_uc3, e4_k0, e4_k1, e4_k2, e4_k3, by omega, by omega, by omega⟩
theorem y67 {d : Nat} {M : Mem} (hd : 3 ≤ d) (hR : CT M) {m : Int} {kd pl : Int → Int} {tx : Int → Int64} (hTk : TkA M m kd pl tx) {i F P sz sn uc : Int} (h12 : M.1 65 12 = iI i) (h13 : M.1 65 13 = iI 2) (h10 : M.1 65 10 = iI F) (h11 : M.1 65 11 = iI P) (h9 : M.1 65 9 = iI sz) (h16 : M.1 65 16 = iI sn) (h19 : M.1 65 19 = iI uc) {v0 : Int32} {o0 : Int} (hv0 : v0 = iI o0) {v1 : Int32} {o1 : Int} (hv1 : v1 = iI o1) (h : 0 ≤ i ∧ i < m ∧ m ≤ 3001 ∧ 1 ≤ F ∧ F ≤ 6 ∧ 0 ≤ sz ∧ sz ≤ 4096 ∧ 0 ≤ sn ∧ sn ≤ 10 ∧ 0 ≤ uc ∧ uc ≤ 1500) : Rt (runX d 67 [va_rf (some 65), .int (v0), .int (v1)] M) (fun v M2 => ∃ (rv : Int) (sz : Int) (sn : Int) (uc : Int), v = .int (iI rv) ∧ Fr W_cp M M2 ∧ M2.1 65 9 = iI sz ∧ M2.1 65 16 = iI sn ∧ M2.1 65 19 = iI uc ∧ M2.1 65 13 = iI 2 ∧ M2.1 65 10 = iI F ∧ M2.1 65 11 = iI P ∧ M2.1 65 12 = iI i ∧ (0 ≤ sz ∧ sz ≤ 4096) ∧ (0 ≤ sn ∧ sn ≤ 10) ∧ (0 ≤ uc ∧ uc ≤ 1500)) := by
  obtain ⟨d, rfl⟩ : ∃ e, d = e + 1 := ⟨d - 1, by omega⟩
  rw [r67]; unfold b67; rw [aR_e, aI_e, aI_e, aZ_e]; unfold c67
  refine rs1 (vC_e (ck_65 hR)) ?_
  refine Rc_L (y65 (by omega) hR (hTk.fr (WL := W_cp) Fr.r (by decide)) (h12) (h13) (h10) (h11) (h9) (h16) (h19)  (by omega)) fun v Ma2 h2 => ?_
  obtain ⟨rv1, sz1, sn1, uc1, rfl, g2, e2_sz1, e2_sn1, e2_uc1, e2_k0, e2_k1, e2_k2, e2_k3, p2_0, p2_1, p2_2⟩ := h2
  have f2 : Fr W_cp M Ma2 := Fr.t Fr.r (Fr.m g2 (by decide))
  refine rs1 (cL_e rfl) ?_
  refine rs1 (gtI_q (w := iI 2) (ck_65 (hR.fr f2)) (e2_k0)) ?_
  refine rs1 (jn_v) ?_
  refine rs1 (if_neg (eqI_n (rfl) (li_4) (by omega))) ?_
  refine rs1 (jv_e) ?_
  refine rs1 (vC_e (ck_65 (hR.fr f2))) ?_
  refine Rc_V (y64 (by omega) (hR.fr f2) (hTk.fr (WL := W_cp) f2 (by decide)) (e2_k3) (e2_k0) (e2_k1) (e2_k2) (e2_sz1) (e2_sn1) (e2_uc1) (li_4) (by omega)) fun v Ma4 h4 => ?_
  obtain ⟨sz3, sn3, uc3, g4, e4_sz3, e4_sn3, e4_uc3, e4_k0, e4_k1, e4_k2, e4_k3, p4_0, p4_1, p4_2⟩ := h4
  have f4 : Fr W_cp M Ma4 := Fr.t f2 (Fr.m g4 (by decide))
  refine rs1 (cV_e rfl) ?_
  exact Rt.okI (z := ((rv1.toInt32.toInt))) ((iI_eta _).symm) ⟨((rv1.toInt32.toInt)), sz3, sn3, uc3, rfl, f4, e4_sz3, e4_sn3, e4_uc3, e4_k0, e4_k1, e4_k2, e4_k3, by omega, by omega, by omega⟩
theorem y68 {d : Nat} {M : Mem} (hd : 3 ≤ d) (hR : CT M) {m : Int} {kd pl : Int → Int} {tx : Int → Int64} (hTk : TkA M m kd pl tx) {i F P sz sn uc : Int} (h12 : M.1 65 12 = iI i) (h13 : M.1 65 13 = iI 2) (h10 : M.1 65 10 = iI F) (h11 : M.1 65 11 = iI P) (h9 : M.1 65 9 = iI sz) (h16 : M.1 65 16 = iI sn) (h19 : M.1 65 19 = iI uc) (h : 0 ≤ i ∧ i < m ∧ m ≤ 3001 ∧ 1 ≤ F ∧ F ≤ 6 ∧ 0 ≤ sz ∧ sz ≤ 4096 ∧ 0 ≤ sn ∧ sn ≤ 10 ∧ 0 ≤ uc ∧ uc ≤ 1500) : Rt (runX d 68 [va_rf (some 65)] M) (fun v M2 => ∃ (rv : Int) (sz : Int) (sn : Int) (uc : Int), v = .int (iI rv) ∧ Fr W_cp M M2 ∧ M2.1 65 9 = iI sz ∧ M2.1 65 16 = iI sn ∧ M2.1 65 19 = iI uc ∧ M2.1 65 13 = iI 2 ∧ M2.1 65 10 = iI F ∧ M2.1 65 11 = iI P ∧ M2.1 65 12 = iI i ∧ (0 ≤ sz ∧ sz ≤ 4096) ∧ (0 ≤ sn ∧ sn ≤ 10) ∧ (0 ≤ uc ∧ uc ≤ 1500)) := by
  obtain ⟨d, rfl⟩ : ∃ e, d = e + 1 := ⟨d - 1, by omega⟩
  rw [r68]; unfold b68; rw [aR_e, aZ_e]; unfold c68
  refine rs1 (gtI_q (w := iI 2) (ck_65 hR) (h13)) ?_
  refine rs1 (jn_v) ?_
  refine rs1 (if_neg (eqI_n (rfl) (li_45) (by omega))) ?_
  refine rs1 (jv_e) ?_
  refine rs1 (jn_v) ?_
  refine rs1 (if_pos (eqI_p (li_0) (li_0) (by omega))) ?_
  refine rs1 (jv_e) ?_
  refine rs1 (vC_e (ck_65 hR)) ?_
  refine Rc_L (y65 (by omega) hR (hTk.fr (WL := W_cp) Fr.r (by decide)) (h12) (h13) (h10) (h11) (h9) (h16) (h19)  (by omega)) fun v Ma2 h2 => ?_
  obtain ⟨rv1, sz1, sn1, uc1, rfl, g2, e2_sz1, e2_sn1, e2_uc1, e2_k0, e2_k1, e2_k2, e2_k3, p2_0, p2_1, p2_2⟩ := h2
  have f2 : Fr W_cp M Ma2 := Fr.t Fr.r (Fr.m g2 (by decide))
  refine rs1 (cL_e rfl) ?_
  refine rs1 (vC_e (ck_65 (hR.fr f2))) ?_
  refine Rc_V (y64 (by omega) (hR.fr f2) (hTk.fr (WL := W_cp) f2 (by decide)) (e2_k3) (e2_k0) (e2_k1) (e2_k2) (e2_sz1) (e2_sn1) (e2_uc1) (li_4) (by omega)) fun v Ma4 h4 => ?_
  obtain ⟨sz3, sn3, uc3, g4, e4_sz3, e4_sn3, e4_uc3, e4_k0, e4_k1, e4_k2, e4_k3, p4_0, p4_1, p4_2⟩ := h4
  have f4 : Fr W_cp M Ma4 := Fr.t f2 (Fr.m g4 (by decide))
  refine rs1 (cV_e rfl) ?_
  refine rs1 (jn_v) ?_
  refine rs1 (if_pos (eqI_p (li_0) (li_0) (by omega))) ?_
  refine rs1 (jv_e) ?_
  exact Rt.okI (z := ((rv1.toInt32.toInt))) ((iI_eta _).symm) ⟨((rv1.toInt32.toInt)), sz3, sn3, uc3, rfl, f4, e4_sz3, e4_sn3, e4_uc3, e4_k0, e4_k1, e4_k2, e4_k3, by omega, by omega, by omega⟩
theorem y69 {d : Nat} {M : Mem} (hd : 2 ≤ d) (hR : CT M) {m : Int} {kd pl : Int → Int} {tx : Int → Int64} (hTk : TkA M m kd pl tx) {i F P sz sn uc : Int} (h12 : M.1 65 12 = iI i) (h13 : M.1 65 13 = iI 2) (h10 : M.1 65 10 = iI F) (h11 : M.1 65 11 = iI P) (h9 : M.1 65 9 = iI sz) (h16 : M.1 65 16 = iI sn) (h19 : M.1 65 19 = iI uc) {v0 : Int32} {o0 : Int} (hv0 : v0 = iI o0) {v1 : Int32} {o1 : Int} (hv1 : v1 = iI o1) (h : 0 ≤ i ∧ i < m ∧ m ≤ 3001 ∧ 1 ≤ F ∧ F ≤ 6 ∧ 0 ≤ sz ∧ sz ≤ 4096 ∧ 0 ≤ sn ∧ sn ≤ 10 ∧ 0 ≤ uc ∧ uc ≤ 1500 ∧ 3 ≤ o0 ∧ o0 ≤ 300) : Rt (runX d 69 [va_rf (some 65), .int (v0), .int (v1)] M) (fun _ M2 => ∃ (sz : Int) (sn : Int) (uc : Int), Fr W_cp M M2 ∧ M2.1 65 9 = iI sz ∧ M2.1 65 16 = iI sn ∧ M2.1 65 19 = iI uc ∧ M2.1 65 13 = iI 2 ∧ M2.1 65 10 = iI F ∧ M2.1 65 11 = iI P ∧ M2.1 65 12 = iI i ∧ (0 ≤ sz ∧ sz ≤ 4096) ∧ (0 ≤ sn ∧ sn ≤ 10) ∧ (0 ≤ uc ∧ uc ≤ 1500)) := by
  obtain ⟨d, rfl⟩ : ∃ e, d = e + 1 := ⟨d - 1, by omega⟩
  rw [r69]; unfold b69; rw [aR_e, aI_e, aI_e, aZ_e]; unfold c69
  refine rs1 (gtI_q (w := iI 2) (ck_65 hR) (h13)) ?_
  refine rs1 (jn_v) ?_
  refine rs1 (if_neg (eqI_n (rfl) (hv0) (by omega))) ?_
  refine rs1 (vC_e (ck_65 hR)) ?_
  refine Rc_V (y62 (by omega) hR (hTk.fr (WL := W_cp) Fr.r (by decide)) (h12) (h13) (h10) (h11) (h9) (h16) (h19) (li_2) (by omega)) fun v Ma2 h2 => ?_
  obtain ⟨sz1, sn1, uc1, g2, e2_sz1, e2_sn1, e2_uc1, e2_k0, e2_k1, e2_k2, e2_k3, p2_0, p2_1, p2_2⟩ := h2
  have f2 : Fr W_cp M Ma2 := Fr.t Fr.r (Fr.m g2 (by decide))
  refine rs1 (cV_e rfl) ?_
  refine rs1 (jv_e) ?_
  exact Rt.ok ⟨sz1, sn1, uc1, f2, e2_sz1, e2_sn1, e2_uc1, e2_k0, e2_k1, e2_k2, e2_k3, by omega, by omega, by omega⟩
theorem y74 {d : Nat} {M : Mem} (hd : 1 ≤ d) (hR : CT M) {m : Int} {kd pl : Int → Int} {tx : Int → Int64} (hTk : TkA M m kd pl tx) {i F P sz sn uc : Int} (h12 : M.1 65 12 = iI i) (h13 : M.1 65 13 = iI 2) (h10 : M.1 65 10 = iI F) (h11 : M.1 65 11 = iI P) (h9 : M.1 65 9 = iI sz) (h16 : M.1 65 16 = iI sn) (h19 : M.1 65 19 = iI uc) {w0 : Int64} (h : 0 ≤ i ∧ i < m ∧ m ≤ 3001 ∧ 1 ≤ F ∧ F ≤ 6 ∧ 0 ≤ sz ∧ sz ≤ 4096 ∧ 0 ≤ sn ∧ sn ≤ 10 ∧ 0 ≤ uc ∧ uc ≤ 1500) : Rt (runX d 74 [va_rf (some 65), .long (w0)] M) (fun v M2 => ∃ (rv : Int) (sz : Int) (sn : Int) (uc : Int), v = .int (iI rv) ∧ Fr W_cp M M2 ∧ M2.1 65 9 = iI sz ∧ M2.1 65 16 = iI sn ∧ M2.1 65 19 = iI uc ∧ M2.1 65 13 = iI 2 ∧ M2.1 65 10 = iI F ∧ M2.1 65 11 = iI P ∧ M2.1 65 12 = iI i ∧ (0 ≤ sz ∧ sz ≤ 4096) ∧ (0 ≤ sn ∧ sn ≤ 10) ∧ (0 ≤ uc ∧ uc ≤ 1500) ∧ (-2 ≤ rv ∧ rv ≤ 9)) := by
  obtain ⟨d, rfl⟩ : ∃ e, d = e + 1 := ⟨d - 1, by omega⟩
  rw [r74]; unfold b74; rw [aR_e, aL_e, aZ_e]; unfold c74
  refine rs1 (jn_v) ?_
  refine rs1 (jn_v) ?_
  refine Rt.lp (fun m s => ∃ (k : Int), s = iI k ∧ (0 ≤ k ∧ k ≤ sn) ∧ ((m : Int) = sn - k)) (fun m s go hs hgo => ?_) sn.toNat _ _ (by omega) ⟨0, li_0, by omega, by omega⟩
  obtain ⟨k, e1_k, p1_0, p1_1⟩ := hs
  unfold c74_2
  refine rs1 (gtI_q (w := iI sn) (ck_65 hR) (h16)) ?_
  by_cases c2 : sn ≤ k
  · refine rs1 (if_pos (leI_p (rfl) (e1_k) (by omega))) ?_
    refine rs1 (jv_e) ?_
    exact Rt.okI (z := (-2)) (li_m2) ⟨(-2), sz, sn, uc, rfl, Fr.r, h9, h16, h19, h13, h10, h11, h12, by omega, by omega, by omega, by omega⟩
  · refine rs1 (if_neg (leI_n (rfl) (e1_k) (by omega))) ?_
    refine rs1 (gtP_q (w := some 76) (ck_65 hR) (cf_65_15 hR)) ?_
    refine rs1 (alL_q (n := 10) (z := k) (w := (M.2.1 76 k.toNat)) (ck_76 hR) (e1_k) (by omega) (rfl)) ?_
    by_cases c3 : (M.2.1 76 k.toNat) = w0
    ·
      refine rs1 (if_pos (lgc_p (rfl) (rfl) c3)) ?_
      refine rs1 (jv_e) ?_
      exact Rt.okI (z := k) (e1_k) ⟨k, sz, sn, uc, rfl, Fr.r, h9, h16, h19, h13, h10, h11, h12, by omega, by omega, by omega, by omega⟩
    ·
      refine rs1 (if_neg (lgc_n (rfl) (rfl) c3)) ?_
      refine rs1 (ltI_q (z := (k + 1)) (adI (e1_k) (li_1))) ?_
      exact hgo (sn - k - 1).toNat _ (by omega) ⟨(k + 1), rfl, by omega, by omega⟩
theorem y75 {d : Nat} {M : Mem} (hd : 1 ≤ d) (hR : CT M) {m : Int} {kd pl : Int → Int} {tx : Int → Int64} (hTk : TkA M m kd pl tx) {i F P sz sn uc : Int} (h12 : M.1 65 12 = iI i) (h13 : M.1 65 13 = iI 2) (h10 : M.1 65 10 = iI F) (h11 : M.1 65 11 = iI P) (h9 : M.1 65 9 = iI sz) (h16 : M.1 65 16 = iI sn) (h19 : M.1 65 19 = iI uc) {w0 : Int64} (h : 0 ≤ i ∧ i < m ∧ m ≤ 3001 ∧ 1 ≤ F ∧ F ≤ 6 ∧ 0 ≤ sz ∧ sz ≤ 4096 ∧ 0 ≤ sn ∧ sn ≤ 10 ∧ 0 ≤ uc ∧ uc ≤ 1500) : Rt (runX d 75 [va_rf (some 65), .long (w0)] M) (fun _ M2 => ∃ (sz : Int) (sn : Int) (uc : Int), Fr W_cp M M2 ∧ M2.1 65 9 = iI sz ∧ M2.1 65 16 = iI sn ∧ M2.1 65 19 = iI uc ∧ M2.1 65 13 = iI 2 ∧ M2.1 65 10 = iI F ∧ M2.1 65 11 = iI P ∧ M2.1 65 12 = iI i ∧ (0 ≤ sz ∧ sz ≤ 4096) ∧ (0 ≤ sn ∧ sn ≤ 10) ∧ (0 ≤ uc ∧ uc ≤ 1500)) := by
  obtain ⟨d, rfl⟩ : ∃ e, d = e + 1 := ⟨d - 1, by omega⟩
  rw [r75]; unfold b75; rw [aR_e, aL_e, aZ_e]; unfold c75
  refine rs1 (gtI_q (w := iI sn) (ck_65 hR) (h16)) ?_
  refine rs1 (jn_v) ?_
  by_cases c1 : 10 ≤ sn
  · refine rs1 (if_pos (leI_p (li_10) (rfl) (by omega))) ?_
    refine rs1 (jv_e) ?_
    exact Rt.ok ⟨sz, sn, uc, Fr.r, h9, h16, h19, h13, h10, h11, h12, by omega, by omega, by omega⟩
  · refine rs1 (if_neg (leI_n (li_10) (rfl) (by omega))) ?_
    refine rs1 (gtP_q (w := some 76) (ck_65 hR) (cf_65_15 hR)) ?_
    refine rs1 (gtI_q (w := iI sn) (ck_65 hR) (h16)) ?_
    refine rs1 (asL_q (n := 10) (z := sn) (w := w0) (ck_76 hR) (rfl) (by omega) (rfl)) ?_
    refine rs1 (gtI_q (w := iI sn) (ck_65 hR.sL) ((sL_i).trans (h16))) ?_
    refine rs1 (ptI_q (z := (sn + 1)) (ck_65 hR.sL) (adI (rfl) (li_1))) ?_
    refine rs1 (jv_e) ?_
    exact Rt.ok ⟨sz, (sn + 1), uc, (Fr.sI (by decide) (Fr.sL (inW_c (by decide) _) Fr.r)), (sI_nej (by decide)).trans ((sL_i).trans (h9)), sI_eq, (sI_nej (by decide)).trans ((sL_i).trans (h19)), (sI_nej (by decide)).trans ((sL_i).trans (h13)), (sI_nej (by decide)).trans ((sL_i).trans (h10)), (sI_nej (by decide)).trans ((sL_i).trans (h11)), (sI_nej (by decide)).trans ((sL_i).trans (h12)), by omega, by omega, by omega⟩
theorem y87 {d : Nat} {M : Mem} (hd : 1 ≤ d) (hR : CT M) {m : Int} {kd pl : Int → Int} {tx : Int → Int64} (hTk : TkA M m kd pl tx) {i F P sz sn uc : Int} (h12 : M.1 65 12 = iI i) (h13 : M.1 65 13 = iI 2) (h10 : M.1 65 10 = iI F) (h11 : M.1 65 11 = iI P) (h9 : M.1 65 9 = iI sz) (h16 : M.1 65 16 = iI sn) (h19 : M.1 65 19 = iI uc) {v0 : Int32} {o0 : Int} (hv0 : v0 = iI o0) {v1 : Int32} {o1 : Int} (hv1 : v1 = iI o1) (h : 0 ≤ i ∧ i < m ∧ m ≤ 3001 ∧ 1 ≤ F ∧ F ≤ 6 ∧ 0 ≤ sz ∧ sz ≤ 4096 ∧ 0 ≤ sn ∧ sn ≤ 10 ∧ 0 ≤ uc ∧ uc ≤ 1500) : Rt (runX d 87 [va_rf (some 65), .int (v0), .int (v1)] M) (fun v M2 => ∃ (rv : Int) (sz : Int) (sn : Int) (uc : Int), v = .int (iI rv) ∧ Fr W_cp M M2 ∧ M2.1 65 9 = iI sz ∧ M2.1 65 16 = iI sn ∧ M2.1 65 19 = iI uc ∧ M2.1 65 13 = iI 2 ∧ M2.1 65 10 = iI F ∧ M2.1 65 11 = iI P ∧ M2.1 65 12 = iI i ∧ (0 ≤ sz ∧ sz ≤ 4096) ∧ (0 ≤ sn ∧ sn ≤ 10) ∧ (0 ≤ uc ∧ uc ≤ 1500) ∧ (0 ≤ rv ∧ rv ≤ 4095)) := by
  obtain ⟨d, rfl⟩ : ∃ e, d = e + 1 := ⟨d - 1, by omega⟩
  rw [r87]; unfold b87; rw [aR_e, aI_e, aI_e, aZ_e]; unfold c87
  refine rs1 (gtI_q (w := iI sz) (ck_65 hR) (h9)) ?_
  by_cases c1 : sz < 4096
  · refine rs1 (if_pos (lsI_p (rfl) (li_4096) (by omega))) ?_
    refine rs1 (gtP_q (w := some 72) (ck_65 hR) (cf_65_5 hR)) ?_
    refine rs1 (gtI_q (w := iI sz) (ck_65 hR) (h9)) ?_
    refine rs1 (asI_q (n := 4096) (z := sz) (y := o0) (ck_72 hR) (rfl) (by omega) (hv0)) ?_
    refine rs1 (gtP_q (w := some 73) (ck_65 hR.sI) (cf_65_6 hR.sI)) ?_
    refine rs1 (gtI_q (w := iI sz) (ck_65 hR.sI) ((sI_ne (by decide)).trans (h9))) ?_
    refine rs1 (asI_q (n := 4096) (z := sz) (y := o1) (ck_73 hR.sI) (rfl) (by omega) (hv1)) ?_
    refine rs1 (gtP_q (w := some 74) (ck_65 hR.sI.sI) (cf_65_7 hR.sI.sI)) ?_
    refine rs1 (gtI_q (w := iI sz) (ck_65 hR.sI.sI) ((sI_ne (by decide)).trans ((sI_ne (by decide)).trans (h9)))) ?_
    refine rs1 (asI_q (n := 4096) (z := sz) (y := (-2)) (ck_74 hR.sI.sI) (rfl) (by omega) (li_m2)) ?_
    refine rs1 (gtI_q (w := iI sz) (ck_65 hR.sI.sI.sI) ((sI_ne (by decide)).trans ((sI_ne (by decide)).trans ((sI_ne (by decide)).trans (h9))))) ?_
    refine rs1 (ptI_q (z := (sz + 1)) (ck_65 hR.sI.sI.sI) (adI (rfl) (li_1))) ?_
    refine rs1 (gtI_q (w := iI (sz + 1)) (ck_65 hR.sI.sI.sI.sI) (sI_eq)) ?_
    exact Rt.okI (z := sz) (cvI (sbI (rfl) (li_1)) (by omega)) ⟨sz, (sz + 1), sn, uc, rfl, (Fr.sI (by decide) (Fr.sI (inW_c (by decide) _) (Fr.sI (inW_c (by decide) _) (Fr.sI (inW_c (by decide) _) Fr.r)))), sI_eq, (sI_nej (by decide)).trans ((sI_ne (by decide)).trans ((sI_ne (by decide)).trans ((sI_ne (by decide)).trans (h16)))), (sI_nej (by decide)).trans ((sI_ne (by decide)).trans ((sI_ne (by decide)).trans ((sI_ne (by decide)).trans (h19)))), (sI_nej (by decide)).trans ((sI_ne (by decide)).trans ((sI_ne (by decide)).trans ((sI_ne (by decide)).trans (h13)))), (sI_nej (by decide)).trans ((sI_ne (by decide)).trans ((sI_ne (by decide)).trans ((sI_ne (by decide)).trans (h10)))), (sI_nej (by decide)).trans ((sI_ne (by decide)).trans ((sI_ne (by decide)).trans ((sI_ne (by decide)).trans (h11)))), (sI_nej (by decide)).trans ((sI_ne (by decide)).trans ((sI_ne (by decide)).trans ((sI_ne (by decide)).trans (h12)))), by omega, by omega, by omega, by omega⟩
  · refine rs1 (if_neg (lsI_n (rfl) (li_4096) (by omega))) ?_
    exact Rt.okI (z := 4095) (li_4095) ⟨4095, sz, sn, uc, rfl, Fr.r, h9, h16, h19, h13, h10, h11, h12, by omega, by omega, by omega, by omega⟩
theorem y88 {d : Nat} {M : Mem} (hd : 3 ≤ d) (hR : CT M) {m : Int} {kd pl : Int → Int} {tx : Int → Int64} (hTk : TkA M m kd pl tx) {i F P sz sn uc : Int} (h12 : M.1 65 12 = iI i) (h13 : M.1 65 13 = iI 2) (h10 : M.1 65 10 = iI F) (h11 : M.1 65 11 = iI P) (h9 : M.1 65 9 = iI sz) (h16 : M.1 65 16 = iI sn) (h19 : M.1 65 19 = iI uc) (h : 0 ≤ i ∧ i < m ∧ m ≤ 3001 ∧ 1 ≤ F ∧ F ≤ 6 ∧ 0 ≤ sz ∧ sz ≤ 4096 ∧ 0 ≤ sn ∧ sn ≤ 10 ∧ 0 ≤ uc ∧ uc ≤ 1500) : Rt (runX d 88 [va_rf (some 65)] M) (fun _ M2 => ∃ (sz : Int) (sn : Int) (uc : Int), Fr W_cp M M2 ∧ M2.1 65 9 = iI sz ∧ M2.1 65 16 = iI sn ∧ M2.1 65 19 = iI uc ∧ M2.1 65 13 = iI 2 ∧ M2.1 65 10 = iI F ∧ M2.1 65 11 = iI P ∧ M2.1 65 12 = iI i ∧ (0 ≤ sz ∧ sz ≤ 4096) ∧ (0 ≤ sn ∧ sn ≤ 10) ∧ (0 ≤ uc ∧ uc ≤ 1500)) := by
  obtain ⟨d, rfl⟩ : ∃ e, d = e + 1 := ⟨d - 1, by omega⟩
  rw [r88]; unfold b88; rw [aR_e, aZ_e]; unfold c88
  refine rs1 (vC_e (ck_65 hR)) ?_
  refine Rc_I (y87 (by omega) hR (hTk.fr (WL := W_cp) Fr.r (by decide)) (h12) (h13) (h10) (h11) (h9) (h16) (h19) (li_0) (li_0) (by omega)) fun v Ma2 h2 => ?_
  obtain ⟨rv1, sz1, sn1, uc1, rfl, g2, e2_sz1, e2_sn1, e2_uc1, e2_k0, e2_k1, e2_k2, e2_k3, p2_0, p2_1, p2_2, p2_3⟩ := h2
  have f2 : Fr W_cp M Ma2 := Fr.t Fr.r (Fr.m g2 (by decide))
  refine rs1 (cI_e rfl) ?_
  refine rs1 (vC_e (ck_65 (hR.fr f2))) ?_
  refine Rc_I (y87 (by omega) (hR.fr f2) (hTk.fr (WL := W_cp) f2 (by decide)) (e2_k3) (e2_k0) (e2_k1) (e2_k2) (e2_sz1) (e2_sn1) (e2_uc1) (li_8) (li_0) (by omega)) fun v Ma4 h4 => ?_
  obtain ⟨rv3, sz3, sn3, uc3, rfl, g4, e4_sz3, e4_sn3, e4_uc3, e4_k0, e4_k1, e4_k2, e4_k3, p4_0, p4_1, p4_2, p4_3⟩ := h4
  have f4 : Fr W_cp M Ma4 := Fr.t f2 (Fr.m g4 (by decide))
  refine rs1 (cI_e rfl) ?_
  refine rs1 (gtI_q (w := iI 2) (ck_65 (hR.fr f4)) (e4_k0)) ?_
  refine rs1 (jn_v) ?_
  refine rs1 (if_neg (eqI_n (rfl) (li_125) (by omega))) ?_
  refine rs1 (jv_e) ?_
  exact Rt.ok ⟨sz3, sn3, uc3, f4, e4_sz3, e4_sn3, e4_uc3, e4_k0, e4_k1, e4_k2, e4_k3, by omega, by omega, by omega⟩
theorem y89 {d : Nat} {M : Mem} (hd : 4 ≤ d) (hR : CT M) {m : Int} {kd pl : Int → Int} {tx : Int → Int64} (hTk : TkA M m kd pl tx) {i F P sz sn uc : Int} (h12 : M.1 65 12 = iI i) (h13 : M.1 65 13 = iI 2) (h10 : M.1 65 10 = iI F) (h11 : M.1 65 11 = iI P) (h9 : M.1 65 9 = iI sz) (h16 : M.1 65 16 = iI sn) (h19 : M.1 65 19 = iI uc) {v0 : Int32} {o0 : Int} (hv0 : v0 = iI o0) (h : 0 ≤ i ∧ i < m ∧ m ≤ 3001 ∧ 1 ≤ F ∧ F ≤ 6 ∧ 0 ≤ sz ∧ sz ≤ 4096 ∧ 0 ≤ sn ∧ sn ≤ 10 ∧ 0 ≤ uc ∧ uc ≤ 1500 ∧ -2147483648 ≤ o0 ∧ o0 ≤ 2147483647) : Rt (runX d 89 [va_rf (some 65), .int (v0)] M) (fun _ M2 => ∃ (sz : Int) (sn : Int) (uc : Int), Fr W_cp M M2 ∧ M2.1 65 9 = iI sz ∧ M2.1 65 16 = iI sn ∧ M2.1 65 19 = iI uc ∧ M2.1 65 13 = iI 2 ∧ M2.1 65 10 = iI F ∧ M2.1 65 11 = iI P ∧ M2.1 65 12 = iI i ∧ (0 ≤ sz ∧ sz ≤ 4096) ∧ (0 ≤ sn ∧ sn ≤ 10) ∧ (0 ≤ uc ∧ uc ≤ 1500)) := by
  obtain ⟨d, rfl⟩ : ∃ e, d = e + 1 := ⟨d - 1, by omega⟩
  rw [r89]; unfold b89; rw [aR_e, aI_e, aZ_e]; unfold c89
  refine rs1 (vC_e (ck_65 hR)) ?_
  refine Rc_V (y69 (by omega) hR (hTk.fr (WL := W_cp) Fr.r (by decide)) (h12) (h13) (h10) (h11) (h9) (h16) (h19) (li_123) (hv0) (by omega)) fun v Ma2 h2 => ?_
  obtain ⟨sz1, sn1, uc1, g2, e2_sz1, e2_sn1, e2_uc1, e2_k0, e2_k1, e2_k2, e2_k3, p2_0, p2_1, p2_2⟩ := h2
  have f2 : Fr W_cp M Ma2 := Fr.t Fr.r (Fr.m g2 (by decide))
  refine rs1 (cV_e rfl) ?_
  refine rs1 (gtI_q (w := iI sn1) (ck_65 (hR.fr f2)) (e2_sn1)) ?_
  refine rs1 (jn_v) ?_
  refine rs1 (lp_e) ?_
  unfold c89_14
  refine rs1 (if_neg (leI_n (li_3000) (li_0) (by omega))) ?_
  refine rs1 (gtI_q (w := iI 2) (ck_65 (hR.fr f2)) (e2_k0)) ?_
  refine rs1 (if_neg (eqI_n (rfl) (li_125) (by omega))) ?_
  refine rs1 (gtI_q (w := iI 2) (ck_65 (hR.fr f2)) (e2_k0)) ?_
  refine rs1 (if_pos (eqI_p (rfl) (li_2) (by omega))) ?_
  refine rs1 (jv_e) ?_
  refine rs1 (jn_v) ?_
  by_cases c3 : o0 = 0
  · refine rs1 (if_pos (eqI_p (hv0) (li_0) (by omega))) ?_
    refine rs1 (vC_e (ck_65 (hR.fr f2))) ?_
    refine Rc_V (y88 (by omega) (hR.fr f2) (hTk.fr (WL := W_cp) f2 (by decide)) (e2_k3) (e2_k0) (e2_k1) (e2_k2) (e2_sz1) (e2_sn1) (e2_uc1)  (by omega)) fun v Ma5 h5 => ?_
    obtain ⟨sz4, sn4, uc4, g5, e5_sz4, e5_sn4, e5_uc4, e5_k0, e5_k1, e5_k2, e5_k3, p5_0, p5_1, p5_2⟩ := h5
    have f5 : Fr W_cp M Ma5 := Fr.t f2 (Fr.m g5 (by decide))
    refine rs1 (cV_e rfl) ?_
    refine rs1 (jv_e) ?_
    refine rs1 (vC_e (ck_65 (hR.fr f5))) ?_
    refine Rc_V (y64 (by omega) (hR.fr f5) (hTk.fr (WL := W_cp) f5 (by decide)) (e5_k3) (e5_k0) (e5_k1) (e5_k2) (e5_sz4) (e5_sn4) (e5_uc4) (li_125) (by omega)) fun v Ma7 h7 => ?_
    obtain ⟨sz6, sn6, uc6, g7, e7_sz6, e7_sn6, e7_uc6, e7_k0, e7_k1, e7_k2, e7_k3, p7_0, p7_1, p7_2⟩ := h7
    have f7 : Fr W_cp M Ma7 := Fr.t f5 (Fr.m g7 (by decide))
    refine rs1 (cV_e rfl) ?_
    refine rs1 (ptI_q (z := sn1) (ck_65 (hR.fr f7)) (rfl)) ?_
    exact Rt.ok ⟨sz6, sn1, uc6, (Fr.sI (by decide) f7), (sI_nej (by decide)).trans (e7_sz6), sI_eq, (sI_nej (by decide)).trans (e7_uc6), (sI_nej (by decide)).trans (e7_k0), (sI_nej (by decide)).trans (e7_k1), (sI_nej (by decide)).trans (e7_k2), (sI_nej (by decide)).trans (e7_k3), by omega, by omega, by omega⟩
  · refine rs1 (if_neg (eqI_n (hv0) (li_0) (by omega))) ?_
    refine rs1 (jv_e) ?_
    refine rs1 (vC_e (ck_65 (hR.fr f2))) ?_
    refine Rc_V (y64 (by omega) (hR.fr f2) (hTk.fr (WL := W_cp) f2 (by decide)) (e2_k3) (e2_k0) (e2_k1) (e2_k2) (e2_sz1) (e2_sn1) (e2_uc1) (li_125) (by omega)) fun v Ma9 h9 => ?_
    obtain ⟨sz8, sn8, uc8, g9, e9_sz8, e9_sn8, e9_uc8, e9_k0, e9_k1, e9_k2, e9_k3, p9_0, p9_1, p9_2⟩ := h9
    have f9 : Fr W_cp M Ma9 := Fr.t f2 (Fr.m g9 (by decide))
    refine rs1 (cV_e rfl) ?_
    refine rs1 (ptI_q (z := sn1) (ck_65 (hR.fr f9)) (rfl)) ?_
    exact Rt.ok ⟨sz8, sn1, uc8, (Fr.sI (by decide) f9), (sI_nej (by decide)).trans (e9_sz8), sI_eq, (sI_nej (by decide)).trans (e9_uc8), (sI_nej (by decide)).trans (e9_k0), (sI_nej (by decide)).trans (e9_k1), (sI_nej (by decide)).trans (e9_k2), (sI_nej (by decide)).trans (e9_k3), by omega, by omega, by omega⟩
theorem y82 {d : Nat} {M : Mem} (hd : 4 ≤ d) (hR : CT M) {m : Int} {kd pl : Int → Int} {tx : Int → Int64} (hTk : TkA M m kd pl tx) {i F P sz sn uc : Int} (h12 : M.1 65 12 = iI i) (h13 : M.1 65 13 = iI 2) (h10 : M.1 65 10 = iI F) (h11 : M.1 65 11 = iI P) (h9 : M.1 65 9 = iI sz) (h16 : M.1 65 16 = iI sn) (h19 : M.1 65 19 = iI uc) (h : 0 ≤ i ∧ i < m ∧ m ≤ 3001 ∧ 1 ≤ F ∧ F ≤ 6 ∧ 0 ≤ sz ∧ sz ≤ 4096 ∧ 0 ≤ sn ∧ sn ≤ 10 ∧ 0 ≤ uc ∧ uc ≤ 1500) : Rt (runX d 82 [va_rf (some 65)] M) (fun _ M2 => ∃ (sz : Int) (sn : Int) (uc : Int), Fr W_cp M M2 ∧ M2.1 65 9 = iI sz ∧ M2.1 65 16 = iI sn ∧ M2.1 65 19 = iI uc ∧ M2.1 65 13 = iI 2 ∧ M2.1 65 10 = iI F ∧ M2.1 65 11 = iI P ∧ M2.1 65 12 = iI i ∧ (0 ≤ sz ∧ sz ≤ 4096) ∧ (0 ≤ sn ∧ sn ≤ 10) ∧ (0 ≤ uc ∧ uc ≤ 1500)) := by
  obtain ⟨d, rfl⟩ : ∃ e, d = e + 1 := ⟨d - 1, by omega⟩
  rw [r82]; unfold b82; rw [aR_e, aZ_e]; unfold c82
  refine rs1 (jn_v) ?_
  refine rs1 (lp_e) ?_
  unfold c82_4
  refine rs1 (if_neg (leI_n (li_3000) (li_0) (by omega))) ?_
  refine rs1 (if_neg (eqI_n (li_1) (li_0) (by omega))) ?_
  refine rs1 (vC_e (ck_65 hR)) ?_
  refine Rc_L (y65 (by omega) hR (hTk.fr (WL := W_cp) Fr.r (by decide)) (h12) (h13) (h10) (h11) (h9) (h16) (h19)  (by omega)) fun v Ma2 h2 => ?_
  obtain ⟨rv1, sz1, sn1, uc1, rfl, g2, e2_sz1, e2_sn1, e2_uc1, e2_k0, e2_k1, e2_k2, e2_k3, p2_0, p2_1, p2_2⟩ := h2
  have f2 : Fr W_cp M Ma2 := Fr.t Fr.r (Fr.m g2 (by decide))
  refine rs1 (cL_e rfl) ?_
  refine rs1 (vC_e (ck_65 (hR.fr f2))) ?_
  refine Rc_I (y74 (by omega) (hR.fr f2) (hTk.fr (WL := W_cp) f2 (by decide)) (e2_k3) (e2_k0) (e2_k1) (e2_k2) (e2_sz1) (e2_sn1) (e2_uc1)  (by omega)) fun v Ma4 h4 => ?_
  obtain ⟨rv3, sz3, sn3, uc3, rfl, g4, e4_sz3, e4_sn3, e4_uc3, e4_k0, e4_k1, e4_k2, e4_k3, p4_0, p4_1, p4_2, p4_3⟩ := h4
  have f4 : Fr W_cp M Ma4 := Fr.t f2 (Fr.m g4 (by decide))
  refine rs1 (cI_e rfl) ?_
  refine rs1 (jn_v) ?_
  by_cases c5 : rv3 < 0
  · refine rs1 (if_pos (lsI_p (rfl) (li_0) (by omega))) ?_
    refine rs1 (jv_e) ?_
    refine rs1 (gtI_q (w := iI sn3) (ck_65 (hR.fr f4)) (e4_sn3)) ?_
    refine rs1 (jn_v) ?_
    by_cases c6 : sn3 < 4
    · refine rs1 (if_pos (lsI_p (rfl) (li_4) (by omega))) ?_
      refine rs1 (jv_e) ?_
      refine rs1 (vC_e (ck_65 (hR.fr f4))) ?_
      refine Rc_L (y66 (by omega) (hR.fr f4) (hTk.fr (WL := W_cp) f4 (by decide)) (e4_k3) (e4_k0) (e4_k1) (e4_k2) (e4_sz3) (e4_sn3) (e4_uc3) (li_0) (li_0) (by omega)) fun v Ma8 h8 => ?_
      obtain ⟨rv7, sz7, sn7, uc7, rfl, g8, e8_sz7, e8_sn7, e8_uc7, e8_k0, e8_k1, e8_k2, e8_k3, p8_0, p8_1, p8_2⟩ := h8
      have f8 : Fr W_cp M Ma8 := Fr.t f4 (Fr.m g8 (by decide))
      refine rs1 (cL_e rfl) ?_
      refine rs1 (vC_e (ck_65 (hR.fr f8))) ?_
      refine Rc_V (y75 (by omega) (hR.fr f8) (hTk.fr (WL := W_cp) f8 (by decide)) (e8_k3) (e8_k0) (e8_k1) (e8_k2) (e8_sz7) (e8_sn7) (e8_uc7)  (by omega)) fun v Ma10 h10 => ?_
      obtain ⟨sz9, sn9, uc9, g10, e10_sz9, e10_sn9, e10_uc9, e10_k0, e10_k1, e10_k2, e10_k3, p10_0, p10_1, p10_2⟩ := h10
      have f10 : Fr W_cp M Ma10 := Fr.t f8 (Fr.m g10 (by decide))
      refine rs1 (cV_e rfl) ?_
      refine rs1 (gtI_q (w := iI 2) (ck_65 (hR.fr f10)) (e10_k0)) ?_
      refine rs1 (jn_v) ?_
      refine rs1 (if_neg (eqI_n (rfl) (li_44) (by omega))) ?_
      refine rs1 (jv_e) ?_
      refine rs1 (jn_v) ?_
      refine rs1 (if_pos (eqI_p (li_0) (li_0) (by omega))) ?_
      refine rs1 (jv_e) ?_
      refine rs1 (ltI_q (z := 1) (cvI (adI (li_0) (li_1)) (by omega))) ?_
      refine rs1 (lp_e) ?_
      refine rs1 (if_neg (leI_n (li_3000) (rfl) (by omega))) ?_
      refine rs1 (if_pos (eqI_p (li_0) (li_0) (by omega))) ?_
      refine rs1 (jv_e) ?_
      exact Rt.ok ⟨sz9, sn9, uc9, f10, e10_sz9, e10_sn9, e10_uc9, e10_k0, e10_k1, e10_k2, e10_k3, by omega, by omega, by omega⟩
    · refine rs1 (if_neg (lsI_n (rfl) (li_4) (by omega))) ?_
      refine rs1 (jv_e) ?_
      refine rs1 (vC_e (ck_65 (hR.fr f4))) ?_
      refine Rc_L (y66 (by omega) (hR.fr f4) (hTk.fr (WL := W_cp) f4 (by decide)) (e4_k3) (e4_k0) (e4_k1) (e4_k2) (e4_sz3) (e4_sn3) (e4_uc3) (li_0) (li_1) (by omega)) fun v Ma12 h12 => ?_
      obtain ⟨rv11, sz11, sn11, uc11, rfl, g12, e12_sz11, e12_sn11, e12_uc11, e12_k0, e12_k1, e12_k2, e12_k3, p12_0, p12_1, p12_2⟩ := h12
      have f12 : Fr W_cp M Ma12 := Fr.t f4 (Fr.m g12 (by decide))
      refine rs1 (cL_e rfl) ?_
      refine rs1 (vC_e (ck_65 (hR.fr f12))) ?_
      refine Rc_V (y75 (by omega) (hR.fr f12) (hTk.fr (WL := W_cp) f12 (by decide)) (e12_k3) (e12_k0) (e12_k1) (e12_k2) (e12_sz11) (e12_sn11) (e12_uc11)  (by omega)) fun v Ma14 h14 => ?_
      obtain ⟨sz13, sn13, uc13, g14, e14_sz13, e14_sn13, e14_uc13, e14_k0, e14_k1, e14_k2, e14_k3, p14_0, p14_1, p14_2⟩ := h14
      have f14 : Fr W_cp M Ma14 := Fr.t f12 (Fr.m g14 (by decide))
      refine rs1 (cV_e rfl) ?_
      refine rs1 (gtI_q (w := iI 2) (ck_65 (hR.fr f14)) (e14_k0)) ?_
      refine rs1 (jn_v) ?_
      refine rs1 (if_neg (eqI_n (rfl) (li_44) (by omega))) ?_
      refine rs1 (jv_e) ?_
      refine rs1 (jn_v) ?_
      refine rs1 (if_pos (eqI_p (li_0) (li_0) (by omega))) ?_
      refine rs1 (jv_e) ?_
      refine rs1 (ltI_q (z := 1) (cvI (adI (li_0) (li_1)) (by omega))) ?_
      refine rs1 (lp_e) ?_
      refine rs1 (if_neg (leI_n (li_3000) (rfl) (by omega))) ?_
      refine rs1 (if_pos (eqI_p (li_0) (li_0) (by omega))) ?_
      refine rs1 (jv_e) ?_
      exact Rt.ok ⟨sz13, sn13, uc13, f14, e14_sz13, e14_sn13, e14_uc13, e14_k0, e14_k1, e14_k2, e14_k3, by omega, by omega, by omega⟩
  · refine rs1 (if_neg (lsI_n (rfl) (li_0) (by omega))) ?_
    refine rs1 (jv_e) ?_
    refine rs1 (gtI_q (w := iI sn3) (ck_65 (hR.fr f4)) (e4_sn3)) ?_
    refine rs1 (jn_v) ?_
    by_cases c15 : sn3 < 4
    · refine rs1 (if_pos (lsI_p (rfl) (li_4) (by omega))) ?_
      refine rs1 (jv_e) ?_
      refine rs1 (vC_e (ck_65 (hR.fr f4))) ?_
      refine Rc_L (y66 (by omega) (hR.fr f4) (hTk.fr (WL := W_cp) f4 (by decide)) (e4_k3) (e4_k0) (e4_k1) (e4_k2) (e4_sz3) (e4_sn3) (e4_uc3) (li_1) (li_0) (by omega)) fun v Ma17 h17 => ?_
      obtain ⟨rv16, sz16, sn16, uc16, rfl, g17, e17_sz16, e17_sn16, e17_uc16, e17_k0, e17_k1, e17_k2, e17_k3, p17_0, p17_1, p17_2⟩ := h17
      have f17 : Fr W_cp M Ma17 := Fr.t f4 (Fr.m g17 (by decide))
      refine rs1 (cL_e rfl) ?_
      refine rs1 (vC_e (ck_65 (hR.fr f17))) ?_
      refine Rc_V (y75 (by omega) (hR.fr f17) (hTk.fr (WL := W_cp) f17 (by decide)) (e17_k3) (e17_k0) (e17_k1) (e17_k2) (e17_sz16) (e17_sn16) (e17_uc16)  (by omega)) fun v Ma19 h19 => ?_
      obtain ⟨sz18, sn18, uc18, g19, e19_sz18, e19_sn18, e19_uc18, e19_k0, e19_k1, e19_k2, e19_k3, p19_0, p19_1, p19_2⟩ := h19
      have f19 : Fr W_cp M Ma19 := Fr.t f17 (Fr.m g19 (by decide))
      refine rs1 (cV_e rfl) ?_
      refine rs1 (gtI_q (w := iI 2) (ck_65 (hR.fr f19)) (e19_k0)) ?_
      refine rs1 (jn_v) ?_
      refine rs1 (if_neg (eqI_n (rfl) (li_44) (by omega))) ?_
      refine rs1 (jv_e) ?_
      refine rs1 (jn_v) ?_
      refine rs1 (if_pos (eqI_p (li_0) (li_0) (by omega))) ?_
      refine rs1 (jv_e) ?_
      refine rs1 (ltI_q (z := 1) (cvI (adI (li_0) (li_1)) (by omega))) ?_
      refine rs1 (lp_e) ?_
      refine rs1 (if_neg (leI_n (li_3000) (rfl) (by omega))) ?_
      refine rs1 (if_pos (eqI_p (li_0) (li_0) (by omega))) ?_
      refine rs1 (jv_e) ?_
      exact Rt.ok ⟨sz18, sn18, uc18, f19, e19_sz18, e19_sn18, e19_uc18, e19_k0, e19_k1, e19_k2, e19_k3, by omega, by omega, by omega⟩
    · refine rs1 (if_neg (lsI_n (rfl) (li_4) (by omega))) ?_
      refine rs1 (jv_e) ?_
      refine rs1 (vC_e (ck_65 (hR.fr f4))) ?_
      refine Rc_L (y66 (by omega) (hR.fr f4) (hTk.fr (WL := W_cp) f4 (by decide)) (e4_k3) (e4_k0) (e4_k1) (e4_k2) (e4_sz3) (e4_sn3) (e4_uc3) (li_1) (li_1) (by omega)) fun v Ma21 h21 => ?_
      obtain ⟨rv20, sz20, sn20, uc20, rfl, g21, e21_sz20, e21_sn20, e21_uc20, e21_k0, e21_k1, e21_k2, e21_k3, p21_0, p21_1, p21_2⟩ := h21
      have f21 : Fr W_cp M Ma21 := Fr.t f4 (Fr.m g21 (by decide))
      refine rs1 (cL_e rfl) ?_
      refine rs1 (vC_e (ck_65 (hR.fr f21))) ?_
      refine Rc_V (y75 (by omega) (hR.fr f21) (hTk.fr (WL := W_cp) f21 (by decide)) (e21_k3) (e21_k0) (e21_k1) (e21_k2) (e21_sz20) (e21_sn20) (e21_uc20)  (by omega)) fun v Ma23 h23 => ?_
      obtain ⟨sz22, sn22, uc22, g23, e23_sz22, e23_sn22, e23_uc22, e23_k0, e23_k1, e23_k2, e23_k3, p23_0, p23_1, p23_2⟩ := h23
      have f23 : Fr W_cp M Ma23 := Fr.t f21 (Fr.m g23 (by decide))
      refine rs1 (cV_e rfl) ?_
      refine rs1 (gtI_q (w := iI 2) (ck_65 (hR.fr f23)) (e23_k0)) ?_
      refine rs1 (jn_v) ?_
      refine rs1 (if_neg (eqI_n (rfl) (li_44) (by omega))) ?_
      refine rs1 (jv_e) ?_
      refine rs1 (jn_v) ?_
      refine rs1 (if_pos (eqI_p (li_0) (li_0) (by omega))) ?_
      refine rs1 (jv_e) ?_
      refine rs1 (ltI_q (z := 1) (cvI (adI (li_0) (li_1)) (by omega))) ?_
      refine rs1 (lp_e) ?_
      refine rs1 (if_neg (leI_n (li_3000) (rfl) (by omega))) ?_
      refine rs1 (if_pos (eqI_p (li_0) (li_0) (by omega))) ?_
      refine rs1 (jv_e) ?_
      exact Rt.ok ⟨sz22, sn22, uc22, f23, e23_sz22, e23_sn22, e23_uc22, e23_k0, e23_k1, e23_k2, e23_k3, by omega, by omega, by omega⟩
theorem y102 {d : Nat} {M : Mem} (hd : 1 ≤ d) {v : Int32} (hv : v = iI 2) : runX d 102 [.int v] M = some (.int (iI (-2)), M) := by
  obtain ⟨d, rfl⟩ : ∃ e, d = e + 1 := ⟨d - 1, by omega⟩
  rw [r102]; unfold b102; rw [aI_e, aZ_e]; unfold c102
  subst hv
  rfl
theorem y100 {d : Nat} {M : Mem} (hd : 2 ≤ d) (hR : CT M) {m : Int} {kd pl : Int → Int} {tx : Int → Int64} (hTk : TkA M m kd pl tx) {i F P sz sn uc : Int} (h12 : M.1 65 12 = iI i) (h13 : M.1 65 13 = iI 2) (h10 : M.1 65 10 = iI F) (h11 : M.1 65 11 = iI P) (h9 : M.1 65 9 = iI sz) (h16 : M.1 65 16 = iI sn) (h19 : M.1 65 19 = iI uc) {v0 : Int32} {o0 : Int} (hv0 : v0 = iI o0) (h : 0 ≤ i ∧ i < m ∧ m ≤ 3001 ∧ 1 ≤ F ∧ F ≤ 6 ∧ 0 ≤ sz ∧ sz ≤ 4096 ∧ 0 ≤ sn ∧ sn ≤ 10 ∧ 0 ≤ uc ∧ uc ≤ 1500) : Rt (runX d 100 [va_rf (some 65), .int (v0)] M) (fun _ M2 => ∃ (sz : Int) (sn : Int) (uc : Int), Fr W_cp M M2 ∧ M2.1 65 9 = iI sz ∧ M2.1 65 16 = iI sn ∧ M2.1 65 19 = iI uc ∧ M2.1 65 13 = iI 2 ∧ M2.1 65 10 = iI F ∧ M2.1 65 11 = iI P ∧ M2.1 65 12 = iI i ∧ (0 ≤ sz ∧ sz ≤ 4096) ∧ (0 ≤ sn ∧ sn ≤ 10) ∧ (0 ≤ uc ∧ uc ≤ 1500)) := by
  obtain ⟨d, rfl⟩ : ∃ e, d = e + 1 := ⟨d - 1, by omega⟩
  rw [r100]; unfold b100; rw [aR_e, aI_e, aZ_e]; unfold c100
  refine rs1 (gtI_q (w := iI 2) (ck_65 hR) (h13)) ?_
  refine rs1 (jn_v) ?_
  refine rs1 (swI_c) ?_
  refine rs1 (if_neg (eqI_n (rfl) (li_3) (by omega))) ?_
  refine rs1 (swI_c) ?_
  refine rs1 (if_neg (eqI_n (rfl) (li_4) (by omega))) ?_
  refine rs1 (swI_c) ?_
  refine rs1 (if_neg (eqI_n (rfl) (li_40) (by omega))) ?_
  refine rs1 (swI_c) ?_
  refine rs1 (if_neg (eqI_n (rfl) (li_45) (by omega))) ?_
  refine rs1 (swI_c) ?_
  refine rs1 (if_neg (eqI_n (rfl) (li_224) (by omega))) ?_
  refine rs1 (swI_n) ?_
  refine rs1 (vC_e (ck_65 hR)) ?_
  refine Rc_V (y62 (by omega) hR (hTk.fr (WL := W_cp) Fr.r (by decide)) (h12) (h13) (h10) (h11) (h9) (h16) (h19) (li_2) (by omega)) fun v Ma2 h2 => ?_
  obtain ⟨sz1, sn1, uc1, g2, e2_sz1, e2_sn1, e2_uc1, e2_k0, e2_k1, e2_k2, e2_k3, p2_0, p2_1, p2_2⟩ := h2
  have f2 : Fr W_cp M Ma2 := Fr.t Fr.r (Fr.m g2 (by decide))
  refine rs1 (cV_e rfl) ?_
  refine rs1 (jv_e) ?_
  exact Rt.ok ⟨sz1, sn1, uc1, f2, e2_sz1, e2_sn1, e2_uc1, e2_k0, e2_k1, e2_k2, e2_k3, by omega, by omega, by omega⟩
theorem y99_6 {d : Nat} {M : Mem} (hd : 3 ≤ d) (hR : CT M) {m : Int} {kd pl : Int → Int} {tx : Int → Int64} (hTk : TkA M m kd pl tx) {i F P sz sn uc : Int} (h12 : M.1 65 12 = iI i) (h13 : M.1 65 13 = iI 2) (h10 : M.1 65 10 = iI F) (h11 : M.1 65 11 = iI P) (h9 : M.1 65 9 = iI sz) (h16 : M.1 65 16 = iI sn) (h19 : M.1 65 19 = iI uc) {v0 : Int32} (hv0 : v0 = iI 6) {v1 : Int32} {o1 : Int} (hv1 : v1 = iI o1) (h : 0 ≤ i ∧ i < m ∧ m ≤ 3001 ∧ 1 ≤ F ∧ F ≤ 6 ∧ 0 ≤ sz ∧ sz ≤ 4096 ∧ 0 ≤ sn ∧ sn ≤ 10 ∧ 0 ≤ uc ∧ uc ≤ 1500) : Rt (runX d 99 [va_rf (some 65), .int (v0), .int (v1)] M) (fun _ M2 => ∃ (sz : Int) (sn : Int) (uc : Int), Fr W_cp M M2 ∧ M2.1 65 9 = iI sz ∧ M2.1 65 16 = iI sn ∧ M2.1 65 19 = iI uc ∧ M2.1 65 13 = iI 2 ∧ M2.1 65 10 = iI F ∧ M2.1 65 11 = iI P ∧ M2.1 65 12 = iI i ∧ (0 ≤ sz ∧ sz ≤ 4096) ∧ (0 ≤ sn ∧ sn ≤ 10) ∧ (0 ≤ uc ∧ uc ≤ 1500)) := by
  obtain ⟨d, rfl⟩ : ∃ e, d = e + 1 := ⟨d - 1, by omega⟩
  rw [r99]; unfold b99; rw [aR_e, aI_e, aI_e, aZ_e]; unfold c99
  refine rs1 (if_neg (leI_n (hv0) (li_5) (by omega))) ?_
  refine rs1 (vC_e (ck_65 hR)) ?_
  refine Rc_V (y100 (by omega) hR (hTk.fr (WL := W_cp) Fr.r (by decide)) (h12) (h13) (h10) (h11) (h9) (h16) (h19) (hv1) (by omega)) fun v Ma2 h2 => ?_
  obtain ⟨sz1, sn1, uc1, g2, e2_sz1, e2_sn1, e2_uc1, e2_k0, e2_k1, e2_k2, e2_k3, p2_0, p2_1, p2_2⟩ := h2
  have f2 : Fr W_cp M Ma2 := Fr.t Fr.r (Fr.m g2 (by decide))
  refine rs1 (cV_e rfl) ?_
  exact Rt.ok ⟨sz1, sn1, uc1, f2, e2_sz1, e2_sn1, e2_uc1, e2_k0, e2_k1, e2_k2, e2_k3, by omega, by omega, by omega⟩
theorem y99_5 {d : Nat} {M : Mem} (hd : 4 ≤ d) (hR : CT M) {m : Int} {kd pl : Int → Int} {tx : Int → Int64} (hTk : TkA M m kd pl tx) {i F P sz sn uc : Int} (h12 : M.1 65 12 = iI i) (h13 : M.1 65 13 = iI 2) (h10 : M.1 65 10 = iI F) (h11 : M.1 65 11 = iI P) (h9 : M.1 65 9 = iI sz) (h16 : M.1 65 16 = iI sn) (h19 : M.1 65 19 = iI uc) {v0 : Int32} (hv0 : v0 = iI 5) {v1 : Int32} {o1 : Int} (hv1 : v1 = iI o1) (h : 0 ≤ i ∧ i < m ∧ m ≤ 3001 ∧ 1 ≤ F ∧ F ≤ 6 ∧ 0 ≤ sz ∧ sz ≤ 4096 ∧ 0 ≤ sn ∧ sn ≤ 10 ∧ 0 ≤ uc ∧ uc ≤ 1500) : Rt (runX d 99 [va_rf (some 65), .int (v0), .int (v1)] M) (fun _ M2 => ∃ (sz : Int) (sn : Int) (uc : Int), Fr W_cp M M2 ∧ M2.1 65 9 = iI sz ∧ M2.1 65 16 = iI sn ∧ M2.1 65 19 = iI uc ∧ M2.1 65 13 = iI 2 ∧ M2.1 65 10 = iI F ∧ M2.1 65 11 = iI P ∧ M2.1 65 12 = iI i ∧ (0 ≤ sz ∧ sz ≤ 4096) ∧ (0 ≤ sn ∧ sn ≤ 10) ∧ (0 ≤ uc ∧ uc ≤ 1500)) := by
  obtain ⟨d, rfl⟩ : ∃ e, d = e + 1 := ⟨d - 1, by omega⟩
  rw [r99]; unfold b99; rw [aR_e, aI_e, aI_e, aZ_e]; unfold c99
  refine rs1 (if_pos (leI_p (hv0) (li_5) (by omega))) ?_
  refine rs1 (jn_v) ?_
  refine rs1 (if_neg (eqI_n (hv0) (li_2) (by omega))) ?_
  refine rs1 (jv_e) ?_
  refine rs1 (vC_e (ck_65 hR)) ?_
  refine Rc_V (y99_6 (by omega) hR (hTk.fr (WL := W_cp) Fr.r (by decide)) (h12) (h13) (h10) (h11) (h9) (h16) (h19) (adI (hv0) (li_1)) (hv1) (by omega)) fun v Ma2 h2 => ?_
  obtain ⟨sz1, sn1, uc1, g2, e2_sz1, e2_sn1, e2_uc1, e2_k0, e2_k1, e2_k2, e2_k3, p2_0, p2_1, p2_2⟩ := h2
  have f2 : Fr W_cp M Ma2 := Fr.t Fr.r (Fr.m g2 (by decide))
  refine rs1 (cV_e rfl) ?_
  refine rs1 (jn_v) ?_
  refine rs1 (jn_v) ?_
  refine rs1 (lp_e) ?_
  unfold c99_61
  refine rs1 (if_neg (leI_n (li_3000) (li_0) (by omega))) ?_
  refine rs1 (gtI_q (w := iI 2) (ck_65 (hR.fr f2)) (e2_k0)) ?_
  refine rs1 (cI_e (y102 (by omega) (rfl))) ?_
  refine rs1 (if_neg (eqI_n (rfl) (hv0) (by omega))) ?_
  refine rs1 (jv_e) ?_
  exact Rt.ok ⟨sz1, sn1, uc1, f2, e2_sz1, e2_sn1, e2_uc1, e2_k0, e2_k1, e2_k2, e2_k3, by omega, by omega, by omega⟩
theorem y99_4 {d : Nat} {M : Mem} (hd : 5 ≤ d) (hR : CT M) {m : Int} {kd pl : Int → Int} {tx : Int → Int64} (hTk : TkA M m kd pl tx) {i F P sz sn uc : Int} (h12 : M.1 65 12 = iI i) (h13 : M.1 65 13 = iI 2) (h10 : M.1 65 10 = iI F) (h11 : M.1 65 11 = iI P) (h9 : M.1 65 9 = iI sz) (h16 : M.1 65 16 = iI sn) (h19 : M.1 65 19 = iI uc) {v0 : Int32} (hv0 : v0 = iI 4) {v1 : Int32} {o1 : Int} (hv1 : v1 = iI o1) (h : 0 ≤ i ∧ i < m ∧ m ≤ 3001 ∧ 1 ≤ F ∧ F ≤ 6 ∧ 0 ≤ sz ∧ sz ≤ 4096 ∧ 0 ≤ sn ∧ sn ≤ 10 ∧ 0 ≤ uc ∧ uc ≤ 1500) : Rt (runX d 99 [va_rf (some 65), .int (v0), .int (v1)] M) (fun _ M2 => ∃ (sz : Int) (sn : Int) (uc : Int), Fr W_cp M M2 ∧ M2.1 65 9 = iI sz ∧ M2.1 65 16 = iI sn ∧ M2.1 65 19 = iI uc ∧ M2.1 65 13 = iI 2 ∧ M2.1 65 10 = iI F ∧ M2.1 65 11 = iI P ∧ M2.1 65 12 = iI i ∧ (0 ≤ sz ∧ sz ≤ 4096) ∧ (0 ≤ sn ∧ sn ≤ 10) ∧ (0 ≤ uc ∧ uc ≤ 1500)) := by
  obtain ⟨d, rfl⟩ : ∃ e, d = e + 1 := ⟨d - 1, by omega⟩
  rw [r99]; unfold b99; rw [aR_e, aI_e, aI_e, aZ_e]; unfold c99
  refine rs1 (if_pos (leI_p (hv0) (li_5) (by omega))) ?_
  refine rs1 (jn_v) ?_
  refine rs1 (if_neg (eqI_n (hv0) (li_2) (by omega))) ?_
  refine rs1 (jv_e) ?_
  refine rs1 (vC_e (ck_65 hR)) ?_
  refine Rc_V (y99_5 (by omega) hR (hTk.fr (WL := W_cp) Fr.r (by decide)) (h12) (h13) (h10) (h11) (h9) (h16) (h19) (adI (hv0) (li_1)) (hv1) (by omega)) fun v Ma2 h2 => ?_
  obtain ⟨sz1, sn1, uc1, g2, e2_sz1, e2_sn1, e2_uc1, e2_k0, e2_k1, e2_k2, e2_k3, p2_0, p2_1, p2_2⟩ := h2
  have f2 : Fr W_cp M Ma2 := Fr.t Fr.r (Fr.m g2 (by decide))
  refine rs1 (cV_e rfl) ?_
  refine rs1 (jn_v) ?_
  refine rs1 (jn_v) ?_
  refine rs1 (lp_e) ?_
  unfold c99_61
  refine rs1 (if_neg (leI_n (li_3000) (li_0) (by omega))) ?_
  refine rs1 (gtI_q (w := iI 2) (ck_65 (hR.fr f2)) (e2_k0)) ?_
  refine rs1 (cI_e (y102 (by omega) (rfl))) ?_
  refine rs1 (if_neg (eqI_n (rfl) (hv0) (by omega))) ?_
  refine rs1 (jv_e) ?_
  exact Rt.ok ⟨sz1, sn1, uc1, f2, e2_sz1, e2_sn1, e2_uc1, e2_k0, e2_k1, e2_k2, e2_k3, by omega, by omega, by omega⟩
theorem y99_3 {d : Nat} {M : Mem} (hd : 6 ≤ d) (hR : CT M) {m : Int} {kd pl : Int → Int} {tx : Int → Int64} (hTk : TkA M m kd pl tx) {i F P sz sn uc : Int} (h12 : M.1 65 12 = iI i) (h13 : M.1 65 13 = iI 2) (h10 : M.1 65 10 = iI F) (h11 : M.1 65 11 = iI P) (h9 : M.1 65 9 = iI sz) (h16 : M.1 65 16 = iI sn) (h19 : M.1 65 19 = iI uc) {v0 : Int32} (hv0 : v0 = iI 3) {v1 : Int32} {o1 : Int} (hv1 : v1 = iI o1) (h : 0 ≤ i ∧ i < m ∧ m ≤ 3001 ∧ 1 ≤ F ∧ F ≤ 6 ∧ 0 ≤ sz ∧ sz ≤ 4096 ∧ 0 ≤ sn ∧ sn ≤ 10 ∧ 0 ≤ uc ∧ uc ≤ 1500) : Rt (runX d 99 [va_rf (some 65), .int (v0), .int (v1)] M) (fun _ M2 => ∃ (sz : Int) (sn : Int) (uc : Int), Fr W_cp M M2 ∧ M2.1 65 9 = iI sz ∧ M2.1 65 16 = iI sn ∧ M2.1 65 19 = iI uc ∧ M2.1 65 13 = iI 2 ∧ M2.1 65 10 = iI F ∧ M2.1 65 11 = iI P ∧ M2.1 65 12 = iI i ∧ (0 ≤ sz ∧ sz ≤ 4096) ∧ (0 ≤ sn ∧ sn ≤ 10) ∧ (0 ≤ uc ∧ uc ≤ 1500)) := by
  obtain ⟨d, rfl⟩ : ∃ e, d = e + 1 := ⟨d - 1, by omega⟩
  rw [r99]; unfold b99; rw [aR_e, aI_e, aI_e, aZ_e]; unfold c99
  refine rs1 (if_pos (leI_p (hv0) (li_5) (by omega))) ?_
  refine rs1 (jn_v) ?_
  refine rs1 (if_neg (eqI_n (hv0) (li_2) (by omega))) ?_
  refine rs1 (jv_e) ?_
  refine rs1 (vC_e (ck_65 hR)) ?_
  refine Rc_V (y99_4 (by omega) hR (hTk.fr (WL := W_cp) Fr.r (by decide)) (h12) (h13) (h10) (h11) (h9) (h16) (h19) (adI (hv0) (li_1)) (hv1) (by omega)) fun v Ma2 h2 => ?_
  obtain ⟨sz1, sn1, uc1, g2, e2_sz1, e2_sn1, e2_uc1, e2_k0, e2_k1, e2_k2, e2_k3, p2_0, p2_1, p2_2⟩ := h2
  have f2 : Fr W_cp M Ma2 := Fr.t Fr.r (Fr.m g2 (by decide))
  refine rs1 (cV_e rfl) ?_
  refine rs1 (jn_v) ?_
  refine rs1 (jn_v) ?_
  refine rs1 (lp_e) ?_
  unfold c99_61
  refine rs1 (if_neg (leI_n (li_3000) (li_0) (by omega))) ?_
  refine rs1 (gtI_q (w := iI 2) (ck_65 (hR.fr f2)) (e2_k0)) ?_
  refine rs1 (cI_e (y102 (by omega) (rfl))) ?_
  refine rs1 (if_neg (eqI_n (rfl) (hv0) (by omega))) ?_
  refine rs1 (jv_e) ?_
  exact Rt.ok ⟨sz1, sn1, uc1, f2, e2_sz1, e2_sn1, e2_uc1, e2_k0, e2_k1, e2_k2, e2_k3, by omega, by omega, by omega⟩
theorem y99_2 {d : Nat} {M : Mem} (hd : 7 ≤ d) (hR : CT M) {m : Int} {kd pl : Int → Int} {tx : Int → Int64} (hTk : TkA M m kd pl tx) {i F P sz sn uc : Int} (h12 : M.1 65 12 = iI i) (h13 : M.1 65 13 = iI 2) (h10 : M.1 65 10 = iI F) (h11 : M.1 65 11 = iI P) (h9 : M.1 65 9 = iI sz) (h16 : M.1 65 16 = iI sn) (h19 : M.1 65 19 = iI uc) {v0 : Int32} (hv0 : v0 = iI 2) {v1 : Int32} {o1 : Int} (hv1 : v1 = iI o1) (h : 0 ≤ i ∧ i < m ∧ m ≤ 3001 ∧ 1 ≤ F ∧ F ≤ 6 ∧ 0 ≤ sz ∧ sz ≤ 4096 ∧ 0 ≤ sn ∧ sn ≤ 10 ∧ 0 ≤ uc ∧ uc ≤ 1500) : Rt (runX d 99 [va_rf (some 65), .int (v0), .int (v1)] M) (fun _ M2 => ∃ (sz : Int) (sn : Int) (uc : Int), Fr W_cp M M2 ∧ M2.1 65 9 = iI sz ∧ M2.1 65 16 = iI sn ∧ M2.1 65 19 = iI uc ∧ M2.1 65 13 = iI 2 ∧ M2.1 65 10 = iI F ∧ M2.1 65 11 = iI P ∧ M2.1 65 12 = iI i ∧ (0 ≤ sz ∧ sz ≤ 4096) ∧ (0 ≤ sn ∧ sn ≤ 10) ∧ (0 ≤ uc ∧ uc ≤ 1500)) := by
  obtain ⟨d, rfl⟩ : ∃ e, d = e + 1 := ⟨d - 1, by omega⟩
  rw [r99]; unfold b99; rw [aR_e, aI_e, aI_e, aZ_e]; unfold c99
  refine rs1 (if_pos (leI_p (hv0) (li_5) (by omega))) ?_
  refine rs1 (jn_v) ?_
  refine rs1 (if_pos (eqI_p (hv0) (li_2) (by omega))) ?_
  refine rs1 (gtI_q (w := iI 2) (ck_65 hR) (h13)) ?_
  refine rs1 (if_neg (eqI_n (rfl) (li_227) (by omega))) ?_
  refine rs1 (jv_e) ?_
  refine rs1 (vC_e (ck_65 hR)) ?_
  refine Rc_V (y99_3 (by omega) hR (hTk.fr (WL := W_cp) Fr.r (by decide)) (h12) (h13) (h10) (h11) (h9) (h16) (h19) (adI (hv0) (li_1)) (hv1) (by omega)) fun v Ma2 h2 => ?_
  obtain ⟨sz1, sn1, uc1, g2, e2_sz1, e2_sn1, e2_uc1, e2_k0, e2_k1, e2_k2, e2_k3, p2_0, p2_1, p2_2⟩ := h2
  have f2 : Fr W_cp M Ma2 := Fr.t Fr.r (Fr.m g2 (by decide))
  refine rs1 (cV_e rfl) ?_
  refine rs1 (jn_v) ?_
  refine rs1 (jn_v) ?_
  refine rs1 (lp_e) ?_
  unfold c99_61
  refine rs1 (if_neg (leI_n (li_3000) (li_0) (by omega))) ?_
  refine rs1 (gtI_q (w := iI 2) (ck_65 (hR.fr f2)) (e2_k0)) ?_
  refine rs1 (cI_e (y102 (by omega) (rfl))) ?_
  refine rs1 (if_neg (eqI_n (rfl) (hv0) (by omega))) ?_
  refine rs1 (jv_e) ?_
  exact Rt.ok ⟨sz1, sn1, uc1, f2, e2_sz1, e2_sn1, e2_uc1, e2_k0, e2_k1, e2_k2, e2_k3, by omega, by omega, by omega⟩
theorem y99_1 {d : Nat} {M : Mem} (hd : 8 ≤ d) (hR : CT M) {m : Int} {kd pl : Int → Int} {tx : Int → Int64} (hTk : TkA M m kd pl tx) {i F P sz sn uc : Int} (h12 : M.1 65 12 = iI i) (h13 : M.1 65 13 = iI 2) (h10 : M.1 65 10 = iI F) (h11 : M.1 65 11 = iI P) (h9 : M.1 65 9 = iI sz) (h16 : M.1 65 16 = iI sn) (h19 : M.1 65 19 = iI uc) {v0 : Int32} (hv0 : v0 = iI 1) {v1 : Int32} {o1 : Int} (hv1 : v1 = iI o1) (h : 0 ≤ i ∧ i < m ∧ m ≤ 3001 ∧ 1 ≤ F ∧ F ≤ 6 ∧ 0 ≤ sz ∧ sz ≤ 4096 ∧ 0 ≤ sn ∧ sn ≤ 10 ∧ 0 ≤ uc ∧ uc ≤ 1500) : Rt (runX d 99 [va_rf (some 65), .int (v0), .int (v1)] M) (fun _ M2 => ∃ (sz : Int) (sn : Int) (uc : Int), Fr W_cp M M2 ∧ M2.1 65 9 = iI sz ∧ M2.1 65 16 = iI sn ∧ M2.1 65 19 = iI uc ∧ M2.1 65 13 = iI 2 ∧ M2.1 65 10 = iI F ∧ M2.1 65 11 = iI P ∧ M2.1 65 12 = iI i ∧ (0 ≤ sz ∧ sz ≤ 4096) ∧ (0 ≤ sn ∧ sn ≤ 10) ∧ (0 ≤ uc ∧ uc ≤ 1500)) := by
  obtain ⟨d, rfl⟩ : ∃ e, d = e + 1 := ⟨d - 1, by omega⟩
  rw [r99]; unfold b99; rw [aR_e, aI_e, aI_e, aZ_e]; unfold c99
  refine rs1 (if_pos (leI_p (hv0) (li_5) (by omega))) ?_
  refine rs1 (jn_v) ?_
  refine rs1 (if_neg (eqI_n (hv0) (li_2) (by omega))) ?_
  refine rs1 (jv_e) ?_
  refine rs1 (vC_e (ck_65 hR)) ?_
  refine Rc_V (y99_2 (by omega) hR (hTk.fr (WL := W_cp) Fr.r (by decide)) (h12) (h13) (h10) (h11) (h9) (h16) (h19) (adI (hv0) (li_1)) (hv1) (by omega)) fun v Ma2 h2 => ?_
  obtain ⟨sz1, sn1, uc1, g2, e2_sz1, e2_sn1, e2_uc1, e2_k0, e2_k1, e2_k2, e2_k3, p2_0, p2_1, p2_2⟩ := h2
  have f2 : Fr W_cp M Ma2 := Fr.t Fr.r (Fr.m g2 (by decide))
  refine rs1 (cV_e rfl) ?_
  refine rs1 (jn_v) ?_
  refine rs1 (jn_v) ?_
  refine rs1 (lp_e) ?_
  unfold c99_61
  refine rs1 (if_neg (leI_n (li_3000) (li_0) (by omega))) ?_
  refine rs1 (gtI_q (w := iI 2) (ck_65 (hR.fr f2)) (e2_k0)) ?_
  refine rs1 (cI_e (y102 (by omega) (rfl))) ?_
  refine rs1 (if_neg (eqI_n (rfl) (hv0) (by omega))) ?_
  refine rs1 (jv_e) ?_
  exact Rt.ok ⟨sz1, sn1, uc1, f2, e2_sz1, e2_sn1, e2_uc1, e2_k0, e2_k1, e2_k2, e2_k3, by omega, by omega, by omega⟩
theorem y99_0 {d : Nat} {M : Mem} (hd : 9 ≤ d) (hR : CT M) {m : Int} {kd pl : Int → Int} {tx : Int → Int64} (hTk : TkA M m kd pl tx) {i F P sz sn uc : Int} (h12 : M.1 65 12 = iI i) (h13 : M.1 65 13 = iI 2) (h10 : M.1 65 10 = iI F) (h11 : M.1 65 11 = iI P) (h9 : M.1 65 9 = iI sz) (h16 : M.1 65 16 = iI sn) (h19 : M.1 65 19 = iI uc) {v0 : Int32} (hv0 : v0 = iI 0) {v1 : Int32} {o1 : Int} (hv1 : v1 = iI o1) (h : 0 ≤ i ∧ i < m ∧ m ≤ 3001 ∧ 1 ≤ F ∧ F ≤ 6 ∧ 0 ≤ sz ∧ sz ≤ 4096 ∧ 0 ≤ sn ∧ sn ≤ 10 ∧ 0 ≤ uc ∧ uc ≤ 1500) : Rt (runX d 99 [va_rf (some 65), .int (v0), .int (v1)] M) (fun _ M2 => ∃ (sz : Int) (sn : Int) (uc : Int), Fr W_cp M M2 ∧ M2.1 65 9 = iI sz ∧ M2.1 65 16 = iI sn ∧ M2.1 65 19 = iI uc ∧ M2.1 65 13 = iI 2 ∧ M2.1 65 10 = iI F ∧ M2.1 65 11 = iI P ∧ M2.1 65 12 = iI i ∧ (0 ≤ sz ∧ sz ≤ 4096) ∧ (0 ≤ sn ∧ sn ≤ 10) ∧ (0 ≤ uc ∧ uc ≤ 1500)) := by
  obtain ⟨d, rfl⟩ : ∃ e, d = e + 1 := ⟨d - 1, by omega⟩
  rw [r99]; unfold b99; rw [aR_e, aI_e, aI_e, aZ_e]; unfold c99
  refine rs1 (if_pos (leI_p (hv0) (li_5) (by omega))) ?_
  refine rs1 (jn_v) ?_
  refine rs1 (if_neg (eqI_n (hv0) (li_2) (by omega))) ?_
  refine rs1 (jv_e) ?_
  refine rs1 (vC_e (ck_65 hR)) ?_
  refine Rc_V (y99_1 (by omega) hR (hTk.fr (WL := W_cp) Fr.r (by decide)) (h12) (h13) (h10) (h11) (h9) (h16) (h19) (adI (hv0) (li_1)) (hv1) (by omega)) fun v Ma2 h2 => ?_
  obtain ⟨sz1, sn1, uc1, g2, e2_sz1, e2_sn1, e2_uc1, e2_k0, e2_k1, e2_k2, e2_k3, p2_0, p2_1, p2_2⟩ := h2
  have f2 : Fr W_cp M Ma2 := Fr.t Fr.r (Fr.m g2 (by decide))
  refine rs1 (cV_e rfl) ?_
  refine rs1 (jn_v) ?_
  refine rs1 (jn_v) ?_
  refine rs1 (lp_e) ?_
  unfold c99_61
  refine rs1 (if_neg (leI_n (li_3000) (li_0) (by omega))) ?_
  refine rs1 (gtI_q (w := iI 2) (ck_65 (hR.fr f2)) (e2_k0)) ?_
  refine rs1 (cI_e (y102 (by omega) (rfl))) ?_
  refine rs1 (if_neg (eqI_n (rfl) (hv0) (by omega))) ?_
  refine rs1 (jv_e) ?_
  exact Rt.ok ⟨sz1, sn1, uc1, f2, e2_sz1, e2_sn1, e2_uc1, e2_k0, e2_k1, e2_k2, e2_k3, by omega, by omega, by omega⟩
theorem y105 {d : Nat} {M : Mem} (hd : 2 ≤ d) (hR : CT M) {m : Int} {kd pl : Int → Int} {tx : Int → Int64} (hTk : TkA M m kd pl tx) {i F P sz sn uc : Int} (h12 : M.1 65 12 = iI i) (h13 : M.1 65 13 = iI 2) (h10 : M.1 65 10 = iI F) (h11 : M.1 65 11 = iI P) (h9 : M.1 65 9 = iI sz) (h16 : M.1 65 16 = iI sn) (h19 : M.1 65 19 = iI uc) {v0 : Int32} {o0 : Int} (hv0 : v0 = iI o0) {v1 : Int32} {o1 : Int} (hv1 : v1 = iI o1) {v2 : Int32} {o2 : Int} (hv2 : v2 = iI o2) (h : 0 ≤ i ∧ i < m ∧ m ≤ 3001 ∧ 1 ≤ F ∧ F ≤ 6 ∧ 0 ≤ sz ∧ sz ≤ 4096 ∧ 0 ≤ sn ∧ sn ≤ 10 ∧ 0 ≤ uc ∧ uc ≤ 1500 ∧ 0 ≤ o0 ∧ o0 ≤ 1499) : Rt (runX d 105 [va_rf (some 65), .int (v0), .int (v1), .int (v2)] M) (fun _ M2 => ∃ (sz : Int) (sn : Int) (uc : Int), Fr W_cp M M2 ∧ M2.1 65 9 = iI sz ∧ M2.1 65 16 = iI sn ∧ M2.1 65 19 = iI uc ∧ M2.1 65 13 = iI 2 ∧ M2.1 65 10 = iI F ∧ M2.1 65 11 = iI P ∧ M2.1 65 12 = iI i ∧ (0 ≤ sz ∧ sz ≤ 4096) ∧ (0 ≤ sn ∧ sn ≤ 10) ∧ (0 ≤ uc ∧ uc ≤ 1500)) := by
  obtain ⟨d, rfl⟩ : ∃ e, d = e + 1 := ⟨d - 1, by omega⟩
  rw [r105]; unfold b105; rw [aR_e, aI_e, aI_e, aI_e, aZ_e]; unfold c105
  refine rs1 (gtP_q (w := some 77) (ck_65 hR) (cf_65_17 hR)) ?_
  refine rs1 (alP_q (n := 6) (z := 0) (w := some 78) (ck_77 hR) (li_0) (by omega) (cf_77_0 hR)) ?_
  refine rs1 (asI_q (n := 1500) (z := o0) (y := o1) (ck_78 hR) (hv0) (by omega) (hv1)) ?_
  refine rs1 (gtP_q (w := some 77) (ck_65 hR.sI) (cf_65_17 hR.sI)) ?_
  refine rs1 (alP_q (n := 6) (z := 1) (w := some 79) (ck_77 hR.sI) (li_1) (by omega) (cf_77_1 hR.sI)) ?_
  refine rs1 (vC_e (ck_65 hR.sI)) ?_
  refine Rc_I (y87 (by omega) hR.sI (hTk.fr (WL := W_cp) (Fr.sI (inW_c (by decide) _) Fr.r) (by decide)) ((sI_ne (by decide)).trans (h12)) ((sI_ne (by decide)).trans (h13)) ((sI_ne (by decide)).trans (h10)) ((sI_ne (by decide)).trans (h11)) ((sI_ne (by decide)).trans (h9)) ((sI_ne (by decide)).trans (h16)) ((sI_ne (by decide)).trans (h19)) (hv2) (li_0) (by omega)) fun v Ma2 h2 => ?_
  obtain ⟨rv1, sz1, sn1, uc1, rfl, g2, e2_sz1, e2_sn1, e2_uc1, e2_k0, e2_k1, e2_k2, e2_k3, p2_0, p2_1, p2_2, p2_3⟩ := h2
  have f2 : Fr W_cp M Ma2 := Fr.t (Fr.sI (inW_c (by decide) _) Fr.r) (Fr.m g2 (by decide))
  refine rs1 (cI_e rfl) ?_
  refine rs1 (asI_q (n := 1500) (z := o0) (y := rv1) (ck_79 (hR.fr f2)) (hv0) (by omega) (rfl)) ?_
  exact Rt.ok ⟨sz1, sn1, uc1, (Fr.sI (inW_c (by decide) _) f2), (sI_ne (by decide)).trans (e2_sz1), (sI_ne (by decide)).trans (e2_sn1), (sI_ne (by decide)).trans (e2_uc1), (sI_ne (by decide)).trans (e2_k0), (sI_ne (by decide)).trans (e2_k1), (sI_ne (by decide)).trans (e2_k2), (sI_ne (by decide)).trans (e2_k3), by omega, by omega, by omega⟩
theorem y106 {d : Nat} {M : Mem} (hd : 2 ≤ d) (hR : CT M) {m : Int} {kd pl : Int → Int} {tx : Int → Int64} (hTk : TkA M m kd pl tx) {i F P sz sn uc : Int} (h12 : M.1 65 12 = iI i) (h13 : M.1 65 13 = iI 2) (h10 : M.1 65 10 = iI F) (h11 : M.1 65 11 = iI P) (h9 : M.1 65 9 = iI sz) (h16 : M.1 65 16 = iI sn) (h19 : M.1 65 19 = iI uc) {v0 : Int32} {o0 : Int} (hv0 : v0 = iI o0) {v1 : Int32} {o1 : Int} (hv1 : v1 = iI o1) {v2 : Int32} {o2 : Int} (hv2 : v2 = iI o2) {v3 : Int32} {o3 : Int} (hv3 : v3 = iI o3) (h : 0 ≤ i ∧ i < m ∧ m ≤ 3001 ∧ 1 ≤ F ∧ F ≤ 6 ∧ 0 ≤ sz ∧ sz ≤ 4096 ∧ 0 ≤ sn ∧ sn ≤ 10 ∧ 0 ≤ uc ∧ uc ≤ 1500 ∧ 0 ≤ o0 ∧ o0 ≤ 1499) : Rt (runX d 106 [va_rf (some 65), .int (v0), .int (v1), .int (v2), .int (v3)] M) (fun _ M2 => ∃ (sz : Int) (sn : Int) (uc : Int), Fr W_cp M M2 ∧ M2.1 65 9 = iI sz ∧ M2.1 65 16 = iI sn ∧ M2.1 65 19 = iI uc ∧ M2.1 65 13 = iI 2 ∧ M2.1 65 10 = iI F ∧ M2.1 65 11 = iI P ∧ M2.1 65 12 = iI i ∧ (0 ≤ sz ∧ sz ≤ 4096) ∧ (0 ≤ sn ∧ sn ≤ 10) ∧ (0 ≤ uc ∧ uc ≤ 1500)) := by
  obtain ⟨d, rfl⟩ : ∃ e, d = e + 1 := ⟨d - 1, by omega⟩
  rw [r106]; unfold b106; rw [aR_e, aI_e, aI_e, aI_e, aI_e, aZ_e]; unfold c106
  refine rs1 (gtP_q (w := some 84) (ck_65 hR) (cf_65_18 hR)) ?_
  refine rs1 (alP_q (n := 2) (z := 0) (w := some 85) (ck_84 hR) (li_0) (by omega) (cf_84_0 hR)) ?_
  refine rs1 (alL_q (n := 1500) (z := o0) (w := (M.2.1 85 o0.toNat)) (ck_85 hR) (hv0) (by omega) (rfl)) ?_
  refine rs1 (jn_v) ?_
  by_cases c1 : (M.2.1 85 o0.toNat) = (0 : Int64)
  ·
    refine rs1 (if_pos (lgc_p (rfl) (rfl) c1)) ?_
    refine rs1 (gtP_q (w := some 84) (ck_65 hR) (cf_65_18 hR)) ?_
    refine rs1 (alP_q (n := 2) (z := 1) (w := some 86) (ck_84 hR) (li_1) (by omega) (cf_84_1 hR)) ?_
    refine rs1 (alL_q (n := 1500) (z := o0) (w := (M.2.1 86 o0.toNat)) (ck_86 hR) (hv0) (by omega) (rfl)) ?_
    refine rs1 (vC_e (ck_65 hR)) ?_
    refine Rc_I (y74 (by omega) hR (hTk.fr (WL := W_cp) Fr.r (by decide)) (h12) (h13) (h10) (h11) (h9) (h16) (h19)  (by omega)) fun v Ma3 h3 => ?_
    obtain ⟨rv2, sz2, sn2, uc2, rfl, g3, e3_sz2, e3_sn2, e3_uc2, e3_k0, e3_k1, e3_k2, e3_k3, p3_0, p3_1, p3_2, p3_3⟩ := h3
    have f3 : Fr W_cp M Ma3 := Fr.t Fr.r (Fr.m g3 (by decide))
    refine rs1 (cI_e rfl) ?_
    refine rs1 (jv_e) ?_
    try dsimp only
    refine rs1 (gtP_q (w := some 77) (ck_65 (hR.fr f3)) (cf_65_17 (hR.fr f3))) ?_
    refine rs1 (alP_q (n := 6) (z := 0) (w := some 78) (ck_77 (hR.fr f3)) (li_0) (by omega) (cf_77_0 (hR.fr f3))) ?_
    refine rs1 (jn_v) ?_
    by_cases c4 : rv2 < 0
    · refine rs1 (if_pos (lsI_p (rfl) (li_0) (by omega))) ?_
      refine rs1 (jv_e) ?_
      refine rs1 (asI_q (n := 1500) (z := o0) (y := o1) (ck_78 (hR.fr f3)) (hv0) (by omega) (hv1)) ?_
      refine rs1 (gtP_q (w := some 77) (ck_65 (hR.fr f3).sI) (cf_65_17 (hR.fr f3).sI)) ?_
      refine rs1 (alP_q (n := 6) (z := 1) (w := some 79) (ck_77 (hR.fr f3).sI) (li_1) (by omega) (cf_77_1 (hR.fr f3).sI)) ?_
      refine rs1 (jn_v) ?_
      refine rs1 (if_pos (lsI_p (rfl) (li_0) (by omega))) ?_
      refine rs1 (vC_e (ck_65 (hR.fr f3).sI)) ?_
      refine Rc_I (y87 (by omega) (hR.fr f3).sI (hTk.fr (WL := W_cp) (Fr.sI (inW_c (by decide) _) f3) (by decide)) ((sI_ne (by decide)).trans (e3_k3)) ((sI_ne (by decide)).trans (e3_k0)) ((sI_ne (by decide)).trans (e3_k1)) ((sI_ne (by decide)).trans (e3_k2)) ((sI_ne (by decide)).trans (e3_sz2)) ((sI_ne (by decide)).trans (e3_sn2)) ((sI_ne (by decide)).trans (e3_uc2)) (hv3) (li_0) (by omega)) fun v Ma6 h6 => ?_
      obtain ⟨rv5, sz5, sn5, uc5, rfl, g6, e6_sz5, e6_sn5, e6_uc5, e6_k0, e6_k1, e6_k2, e6_k3, p6_0, p6_1, p6_2, p6_3⟩ := h6
      have f6 : Fr W_cp M Ma6 := Fr.t (Fr.sI (inW_c (by decide) _) f3) (Fr.m g6 (by decide))
      refine rs1 (cI_e rfl) ?_
      refine rs1 (jv_e) ?_
      try dsimp only
      refine rs1 (asI_q (n := 1500) (z := o0) (y := rv5) (ck_79 (hR.fr f6)) (hv0) (by omega) (rfl)) ?_
      exact Rt.ok ⟨sz5, sn5, uc5, (Fr.sI (inW_c (by decide) _) f6), (sI_ne (by decide)).trans (e6_sz5), (sI_ne (by decide)).trans (e6_sn5), (sI_ne (by decide)).trans (e6_uc5), (sI_ne (by decide)).trans (e6_k0), (sI_ne (by decide)).trans (e6_k1), (sI_ne (by decide)).trans (e6_k2), (sI_ne (by decide)).trans (e6_k3), by omega, by omega, by omega⟩
    · refine rs1 (if_neg (lsI_n (rfl) (li_0) (by omega))) ?_
      refine rs1 (jv_e) ?_
      refine rs1 (asI_q (n := 1500) (z := o0) (y := 0) (ck_78 (hR.fr f3)) (hv0) (by omega) (li_0)) ?_
      refine rs1 (gtP_q (w := some 77) (ck_65 (hR.fr f3).sI) (cf_65_17 (hR.fr f3).sI)) ?_
      refine rs1 (alP_q (n := 6) (z := 1) (w := some 79) (ck_77 (hR.fr f3).sI) (li_1) (by omega) (cf_77_1 (hR.fr f3).sI)) ?_
      refine rs1 (jn_v) ?_
      refine rs1 (if_neg (lsI_n (rfl) (li_0) (by omega))) ?_
      refine rs1 (vC_e (ck_65 (hR.fr f3).sI)) ?_
      refine Rc_I (y87 (by omega) (hR.fr f3).sI (hTk.fr (WL := W_cp) (Fr.sI (inW_c (by decide) _) f3) (by decide)) ((sI_ne (by decide)).trans (e3_k3)) ((sI_ne (by decide)).trans (e3_k0)) ((sI_ne (by decide)).trans (e3_k1)) ((sI_ne (by decide)).trans (e3_k2)) ((sI_ne (by decide)).trans (e3_sz2)) ((sI_ne (by decide)).trans (e3_sn2)) ((sI_ne (by decide)).trans (e3_uc2)) (hv2) (rfl) (by omega)) fun v Ma8 h8 => ?_
      obtain ⟨rv7, sz7, sn7, uc7, rfl, g8, e8_sz7, e8_sn7, e8_uc7, e8_k0, e8_k1, e8_k2, e8_k3, p8_0, p8_1, p8_2, p8_3⟩ := h8
      have f8 : Fr W_cp M Ma8 := Fr.t (Fr.sI (inW_c (by decide) _) f3) (Fr.m g8 (by decide))
      refine rs1 (cI_e rfl) ?_
      refine rs1 (jv_e) ?_
      try dsimp only
      refine rs1 (asI_q (n := 1500) (z := o0) (y := rv7) (ck_79 (hR.fr f8)) (hv0) (by omega) (rfl)) ?_
      exact Rt.ok ⟨sz7, sn7, uc7, (Fr.sI (inW_c (by decide) _) f8), (sI_ne (by decide)).trans (e8_sz7), (sI_ne (by decide)).trans (e8_sn7), (sI_ne (by decide)).trans (e8_uc7), (sI_ne (by decide)).trans (e8_k0), (sI_ne (by decide)).trans (e8_k1), (sI_ne (by decide)).trans (e8_k2), (sI_ne (by decide)).trans (e8_k3), by omega, by omega, by omega⟩
  ·
    refine rs1 (if_neg (lgc_n (rfl) (rfl) c1)) ?_
    refine rs1 (jv_e) ?_
    try dsimp only
    refine rs1 (gtP_q (w := some 77) (ck_65 hR) (cf_65_17 hR)) ?_
    refine rs1 (alP_q (n := 6) (z := 0) (w := some 78) (ck_77 hR) (li_0) (by omega) (cf_77_0 hR)) ?_
    refine rs1 (jn_v) ?_
    refine rs1 (if_pos (lsI_p (li_m2) (li_0) (by omega))) ?_
    refine rs1 (jv_e) ?_
    refine rs1 (asI_q (n := 1500) (z := o0) (y := o1) (ck_78 hR) (hv0) (by omega) (hv1)) ?_
    refine rs1 (gtP_q (w := some 77) (ck_65 hR.sI) (cf_65_17 hR.sI)) ?_
    refine rs1 (alP_q (n := 6) (z := 1) (w := some 79) (ck_77 hR.sI) (li_1) (by omega) (cf_77_1 hR.sI)) ?_
    refine rs1 (jn_v) ?_
    refine rs1 (if_pos (lsI_p (li_m2) (li_0) (by omega))) ?_
    refine rs1 (vC_e (ck_65 hR.sI)) ?_
    refine Rc_I (y87 (by omega) hR.sI (hTk.fr (WL := W_cp) (Fr.sI (inW_c (by decide) _) Fr.r) (by decide)) ((sI_ne (by decide)).trans (h12)) ((sI_ne (by decide)).trans (h13)) ((sI_ne (by decide)).trans (h10)) ((sI_ne (by decide)).trans (h11)) ((sI_ne (by decide)).trans (h9)) ((sI_ne (by decide)).trans (h16)) ((sI_ne (by decide)).trans (h19)) (hv3) (li_0) (by omega)) fun v Ma10 h10 => ?_
    obtain ⟨rv9, sz9, sn9, uc9, rfl, g10, e10_sz9, e10_sn9, e10_uc9, e10_k0, e10_k1, e10_k2, e10_k3, p10_0, p10_1, p10_2, p10_3⟩ := h10
    have f10 : Fr W_cp M Ma10 := Fr.t (Fr.sI (inW_c (by decide) _) Fr.r) (Fr.m g10 (by decide))
    refine rs1 (cI_e rfl) ?_
    refine rs1 (jv_e) ?_
    try dsimp only
    refine rs1 (asI_q (n := 1500) (z := o0) (y := rv9) (ck_79 (hR.fr f10)) (hv0) (by omega) (rfl)) ?_
    exact Rt.ok ⟨sz9, sn9, uc9, (Fr.sI (inW_c (by decide) _) f10), (sI_ne (by decide)).trans (e10_sz9), (sI_ne (by decide)).trans (e10_sn9), (sI_ne (by decide)).trans (e10_uc9), (sI_ne (by decide)).trans (e10_k0), (sI_ne (by decide)).trans (e10_k1), (sI_ne (by decide)).trans (e10_k2), (sI_ne (by decide)).trans (e10_k3), by omega, by omega, by omega⟩
