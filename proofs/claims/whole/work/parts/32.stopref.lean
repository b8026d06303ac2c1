/-! the reference's parser behind a FAULT: all comes to its end and changes no FAULT -/
def W_rp : List (Nat × Nat) := [(160, 36), (160, 37), (160, 38), (160, 39), (160, 40), (160, 41), (160, 42), (160, 43), (160, 48), (160, 50), (160, 51), (160, 53), (160, 62), (195, 9999), (196, 9999), (197, 9999), (198, 9999), (199, 9999), (200, 9999), (201, 9999), (202, 9999), (203, 9999), (204, 9999), (205, 9999), (206, 9999), (207, 9999)]
theorem znar_e {v : Int32} {z : Int} (h : v = iI z) (hz : 0 ≤ z ∧ z ≤ 1) : znar v = iI z := by
  have : z = 0 ∨ z = 1 := by omega
  rw [h]
  rcases this with rfl | rfl
  · decide +kernel
  · decide +kernel
theorem x191_s {d : Nat} {M : Mem} (hd : 1 ≤ d) (hR : RT M) {F P em sn us mu ut : Int} (h41 : M.1 160 41 = iI F) (h42 : M.1 160 42 = iI P) (h43 : M.1 160 43 = iI em) (h51 : M.1 160 51 = iI sn) (h53 : M.1 160 53 = iI us) (h48 : M.1 160 48 = iI mu) (h49 : M.1 160 49 = iI ut) (h : 1 ≤ F ∧ F ≤ 6 ∧ 0 ≤ em ∧ em + 0 ≤ 4000 ∧ 0 ≤ mu ∧ mu ≤ 1 ∧ 0 ≤ ut ∧ ut ≤ 8) : Rt (runX d 191 [va_rf (some 160)] M) (fun _ M2 => ∃ (emq : Int), Fr W_rp M M2 ∧ M2.1 160 43 = iI emq ∧ M2.1 160 41 = iI F ∧ M2.1 160 42 = iI P ∧ M2.1 160 51 = iI sn ∧ M2.1 160 53 = iI us ∧ M2.1 160 48 = iI mu ∧ (em ≤ emq ∧ emq ≤ em + 0)) := by
  obtain ⟨d, rfl⟩ : ∃ e, d = e + 1 := ⟨d - 1, by omega⟩
  rw [r191]; unfold b191; rw [aR_e, aZ_e]; unfold c191
  refine rs1 (gtI_q (w := iI F) (rk_160 hR) (h41)) ?_
  refine rs1 (if_neg (eqI_n (rfl) (li_0) (by omega))) ?_
  exact Rt.ok ⟨em, Fr.r, h43, h41, h42, h51, h53, h48, by omega⟩
theorem x192_s {d : Nat} {M : Mem} (hd : 1 ≤ d) (hR : RT M) {F P em sn us mu ut : Int} (h41 : M.1 160 41 = iI F) (h42 : M.1 160 42 = iI P) (h43 : M.1 160 43 = iI em) (h51 : M.1 160 51 = iI sn) (h53 : M.1 160 53 = iI us) (h48 : M.1 160 48 = iI mu) (h49 : M.1 160 49 = iI ut) {v0 : Int32} {o0 : Int} (hv0 : v0 = iI o0) {v1 : Int32} {o1 : Int} (hv1 : v1 = iI o1) (h : 1 ≤ F ∧ F ≤ 6 ∧ 0 ≤ em ∧ em + 0 ≤ 4000 ∧ 0 ≤ mu ∧ mu ≤ 1 ∧ 0 ≤ ut ∧ ut ≤ 8) : Rt (runX d 192 [va_rf (some 160), .int (v0), .int (v1)] M) (fun _ M2 => ∃ (emq : Int), Fr W_rp M M2 ∧ M2.1 160 43 = iI emq ∧ M2.1 160 41 = iI F ∧ M2.1 160 42 = iI P ∧ M2.1 160 51 = iI sn ∧ M2.1 160 53 = iI us ∧ M2.1 160 48 = iI mu ∧ (em ≤ emq ∧ emq ≤ em + 0)) := by
  obtain ⟨d, rfl⟩ : ∃ e, d = e + 1 := ⟨d - 1, by omega⟩
  rw [r192]; unfold b192; rw [aR_e, aI_e, aI_e, aZ_e]; unfold c192
  refine rs1 (gtI_q (w := iI F) (rk_160 hR) (h41)) ?_
  refine rs1 (jn_v) ?_
  refine rs1 (if_neg (eqI_n (rfl) (li_0) (by omega))) ?_
  refine rs1 (jv_e) ?_
  exact Rt.ok ⟨em, Fr.r, h43, h41, h42, h51, h53, h48, by omega⟩
theorem x193_s {d : Nat} {M : Mem} (hd : 2 ≤ d) (hR : RT M) {F P em sn us mu ut : Int} (h41 : M.1 160 41 = iI F) (h42 : M.1 160 42 = iI P) (h43 : M.1 160 43 = iI em) (h51 : M.1 160 51 = iI sn) (h53 : M.1 160 53 = iI us) (h48 : M.1 160 48 = iI mu) (h49 : M.1 160 49 = iI ut) {v0 : Int32} {o0 : Int} (hv0 : v0 = iI o0) (h : 1 ≤ F ∧ F ≤ 6 ∧ 0 ≤ em ∧ em + 0 ≤ 4000 ∧ 0 ≤ mu ∧ mu ≤ 1 ∧ 0 ≤ ut ∧ ut ≤ 8 ∧ 0 ≤ o0 ∧ o0 ≤ 1) : Rt (runX d 193 [va_rf (some 160), .int (v0)] M) (fun v M2 => ∃ (rv : Int) (emq : Int), v = .int (iI rv) ∧ Fr W_rp M M2 ∧ M2.1 160 43 = iI emq ∧ M2.1 160 41 = iI F ∧ M2.1 160 42 = iI P ∧ M2.1 160 51 = iI sn ∧ M2.1 160 53 = iI us ∧ M2.1 160 48 = iI mu ∧ (em ≤ emq ∧ emq ≤ em + 0) ∧ (0 ≤ rv ∧ rv ≤ 0)) := by
  obtain ⟨d, rfl⟩ : ∃ e, d = e + 1 := ⟨d - 1, by omega⟩
  rw [r193]; unfold b193; rw [aR_e, aI_e, aZ_e]; unfold c193
  refine rs1 (jn_v) ?_
  refine rs1 (jn_v) ?_
  by_cases c1 : o0 = 0
  · refine rs1 (if_pos (eqI_p (hv0) (li_0) (by omega))) ?_
    refine rs1 (jv_e) ?_
    have b2 := V_r (M := M) (a := 160) (j := 36)
    refine rs1 (gtI_q (w := iI ((V M 160 36))) (rk_160 hR) (eV)) ?_
    refine rs1 (jn_v) ?_
    by_cases c3 : ((V M 160 36)) = (-1)
    · refine rs1 (if_pos (eqI_p (rfl) (li_m1) (by omega))) ?_
      refine rs1 (jv_e) ?_
      have b4 := V_r (M := M) (a := 160) (j := 37)
      refine rs1 (gtI_q (w := iI ((V M 160 37))) (rk_160 hR) (eV)) ?_
      refine rs1 (vC_e (rk_160 hR)) ?_
      refine Rc_V (x192_s (by omega) hR (h41) (h42) (h43) (h51) (h53) (h48) (h49) (li_1) (rfl) (by omega)) fun v Ma6 h6 => ?_
      obtain ⟨em5, g6, e6_em5, e6_k0, e6_k1, e6_k2, e6_k3, e6_k4, p6_0⟩ := h6
      have f6 : Fr W_rp M Ma6 := Fr.t Fr.r (Fr.m g6 (by decide))
      refine rs1 (cV_e rfl) ?_
      refine rs1 (jv_e) ?_
      refine rs1 (gtI_q (w := iI F) (rk_160 (hR.fr f6)) (e6_k0)) ?_
      refine rs1 (jn_v) ?_
      refine rs1 (if_neg (eqI_n (rfl) (li_0) (by omega))) ?_
      refine rs1 (jv_e) ?_
      refine rs1 (rtZ_q (z := 0) (li_0) (by omega)) ?_
      exact Rt.okI (z := 0) (rfl) ⟨0, em5, rfl, f6, e6_em5, e6_k0, e6_k1, e6_k2, e6_k3, e6_k4, by omega, by omega⟩
    · refine rs1 (if_neg (eqI_n (rfl) (li_m1) (by omega))) ?_
      refine rs1 (jv_e) ?_
      have b7 := V_r (M := M) (a := 160) (j := 37)
      refine rs1 (gtI_q (w := iI ((V M 160 37))) (rk_160 hR) (eV)) ?_
      refine rs1 (vC_e (rk_160 hR)) ?_
      refine Rc_V (x192_s (by omega) hR (h41) (h42) (h43) (h51) (h53) (h48) (h49) (li_2) (rfl) (by omega)) fun v Ma9 h9 => ?_
      obtain ⟨em8, g9, e9_em8, e9_k0, e9_k1, e9_k2, e9_k3, e9_k4, p9_0⟩ := h9
      have f9 : Fr W_rp M Ma9 := Fr.t Fr.r (Fr.m g9 (by decide))
      refine rs1 (cV_e rfl) ?_
      refine rs1 (jv_e) ?_
      refine rs1 (gtI_q (w := iI F) (rk_160 (hR.fr f9)) (e9_k0)) ?_
      refine rs1 (jn_v) ?_
      refine rs1 (if_neg (eqI_n (rfl) (li_0) (by omega))) ?_
      refine rs1 (jv_e) ?_
      refine rs1 (rtZ_q (z := 0) (li_0) (by omega)) ?_
      exact Rt.okI (z := 0) (rfl) ⟨0, em8, rfl, f9, e9_em8, e9_k0, e9_k1, e9_k2, e9_k3, e9_k4, by omega, by omega⟩
  · refine rs1 (if_neg (eqI_n (hv0) (li_0) (by omega))) ?_
    have b10 := V_r (M := M) (a := 160) (j := 36)
    refine rs1 (gtI_q (w := iI ((V M 160 36))) (rk_160 hR) (eV)) ?_
    by_cases c11 : ((V M 160 36)) = (-1)
    · refine rs1 (if_pos (eqI_p (rfl) (li_m1) (by omega))) ?_
      refine rs1 (jv_e) ?_
      refine rs1 (gtI_q (w := iI ((V M 160 36))) (rk_160 hR) (eV)) ?_
      refine rs1 (jn_v) ?_
      refine rs1 (if_pos (eqI_p (rfl) (li_m1) (by omega))) ?_
      refine rs1 (jv_e) ?_
      have b12 := V_r (M := M) (a := 160) (j := 37)
      refine rs1 (gtI_q (w := iI ((V M 160 37))) (rk_160 hR) (eV)) ?_
      refine rs1 (vC_e (rk_160 hR)) ?_
      refine Rc_V (x192_s (by omega) hR (h41) (h42) (h43) (h51) (h53) (h48) (h49) (li_1) (rfl) (by omega)) fun v Ma14 h14 => ?_
      obtain ⟨em13, g14, e14_em13, e14_k0, e14_k1, e14_k2, e14_k3, e14_k4, p14_0⟩ := h14
      have f14 : Fr W_rp M Ma14 := Fr.t Fr.r (Fr.m g14 (by decide))
      refine rs1 (cV_e rfl) ?_
      refine rs1 (jv_e) ?_
      refine rs1 (gtI_q (w := iI F) (rk_160 (hR.fr f14)) (e14_k0)) ?_
      refine rs1 (jn_v) ?_
      refine rs1 (if_neg (eqI_n (rfl) (li_0) (by omega))) ?_
      refine rs1 (jv_e) ?_
      refine rs1 (rtZ_q (z := 0) (li_0) (by omega)) ?_
      exact Rt.okI (z := 0) (rfl) ⟨0, em13, rfl, f14, e14_em13, e14_k0, e14_k1, e14_k2, e14_k3, e14_k4, by omega, by omega⟩
    · refine rs1 (if_neg (eqI_n (rfl) (li_m1) (by omega))) ?_
      refine rs1 (jv_e) ?_
      refine rs1 (gtI_q (w := iI F) (rk_160 hR) (h41)) ?_
      refine rs1 (jn_v) ?_
      refine rs1 (if_neg (eqI_n (rfl) (li_0) (by omega))) ?_
      refine rs1 (jv_e) ?_
      refine rs1 (rtZ_q (z := 0) (li_0) (by omega)) ?_
      exact Rt.okI (z := 0) (rfl) ⟨0, em, rfl, Fr.r, h43, h41, h42, h51, h53, h48, by omega, by omega⟩
theorem x194_s {d : Nat} {M : Mem} (hd : 2 ≤ d) (hR : RT M) {F P em sn us mu ut : Int} (h41 : M.1 160 41 = iI F) (h42 : M.1 160 42 = iI P) (h43 : M.1 160 43 = iI em) (h51 : M.1 160 51 = iI sn) (h53 : M.1 160 53 = iI us) (h48 : M.1 160 48 = iI mu) (h49 : M.1 160 49 = iI ut) {v0 : Int32} {o0 : Int} (hv0 : v0 = iI o0) {v1 : Int32} {o1 : Int} (hv1 : v1 = iI o1) (h : 1 ≤ F ∧ F ≤ 6 ∧ 0 ≤ em ∧ em + 0 ≤ 4000 ∧ 0 ≤ mu ∧ mu ≤ 1 ∧ 0 ≤ ut ∧ ut ≤ 8 ∧ 0 ≤ o0 ∧ o0 ≤ 1) : Rt (runX d 194 [va_rf (some 160), .int (v0), .int (v1)] M) (fun v M2 => ∃ (rv : Int) (emq : Int), v = .int (iI rv) ∧ Fr W_rp M M2 ∧ M2.1 160 43 = iI emq ∧ M2.1 160 41 = iI F ∧ M2.1 160 42 = iI P ∧ M2.1 160 51 = iI sn ∧ M2.1 160 53 = iI us ∧ M2.1 160 48 = iI mu ∧ (em ≤ emq ∧ emq ≤ em + 0) ∧ (0 ≤ rv ∧ rv ≤ 0)) := by
  obtain ⟨d, rfl⟩ : ∃ e, d = e + 1 := ⟨d - 1, by omega⟩
  rw [r194]; unfold b194; rw [aR_e, aI_e, aI_e, aZ_e]; unfold c194
  refine rs1 (jn_v) ?_
  by_cases c1 : o0 = 0
  · refine rs1 (if_pos (eqI_p (hv0) (li_0) (by omega))) ?_
    have b2 := V_r (M := M) (a := 160) (j := 37)
    refine rs1 (gtI_q (w := iI ((V M 160 37))) (rk_160 hR) (eV)) ?_
    refine rs1 (vC_e (rk_160 hR)) ?_
    refine Rc_V (x192_s (by omega) hR (h41) (h42) (h43) (h51) (h53) (h48) (h49) (hv1) (rfl) (by omega)) fun v Ma4 h4 => ?_
    obtain ⟨em3, g4, e4_em3, e4_k0, e4_k1, e4_k2, e4_k3, e4_k4, p4_0⟩ := h4
    have f4 : Fr W_rp M Ma4 := Fr.t Fr.r (Fr.m g4 (by decide))
    refine rs1 (cV_e rfl) ?_
    refine rs1 (jv_e) ?_
    refine rs1 (gtI_q (w := iI F) (rk_160 (hR.fr f4)) (e4_k0)) ?_
    refine rs1 (jn_v) ?_
    refine rs1 (if_neg (eqI_n (rfl) (li_0) (by omega))) ?_
    refine rs1 (jv_e) ?_
    refine rs1 (rtZ_q (z := 0) (li_0) (by omega)) ?_
    exact Rt.okI (z := 0) (rfl) ⟨0, em3, rfl, f4, e4_em3, e4_k0, e4_k1, e4_k2, e4_k3, e4_k4, by omega, by omega⟩
  · refine rs1 (if_neg (eqI_n (hv0) (li_0) (by omega))) ?_
    refine rs1 (jv_e) ?_
    refine rs1 (gtI_q (w := iI F) (rk_160 hR) (h41)) ?_
    refine rs1 (jn_v) ?_
    refine rs1 (if_neg (eqI_n (rfl) (li_0) (by omega))) ?_
    refine rs1 (jv_e) ?_
    refine rs1 (rtZ_q (z := 0) (li_0) (by omega)) ?_
    exact Rt.okI (z := 0) (rfl) ⟨0, em, rfl, Fr.r, h43, h41, h42, h51, h53, h48, by omega, by omega⟩
theorem x195_s {d : Nat} {M : Mem} (hd : 2 ≤ d) (hR : RT M) {F P em sn us mu ut : Int} (h41 : M.1 160 41 = iI F) (h42 : M.1 160 42 = iI P) (h43 : M.1 160 43 = iI em) (h51 : M.1 160 51 = iI sn) (h53 : M.1 160 53 = iI us) (h48 : M.1 160 48 = iI mu) (h49 : M.1 160 49 = iI ut) {v0 : Int32} {o0 : Int} (hv0 : v0 = iI o0) (h : 1 ≤ F ∧ F ≤ 6 ∧ 0 ≤ em ∧ em + 0 ≤ 4000 ∧ 0 ≤ mu ∧ mu ≤ 1 ∧ 0 ≤ ut ∧ ut ≤ 8) : Rt (runX d 195 [va_rf (some 160), .int (v0)] M) (fun v M2 => ∃ (rv : Int) (emq : Int), v = .int (iI rv) ∧ Fr W_rp M M2 ∧ M2.1 160 43 = iI emq ∧ M2.1 160 41 = iI F ∧ M2.1 160 42 = iI P ∧ M2.1 160 51 = iI sn ∧ M2.1 160 53 = iI us ∧ M2.1 160 48 = iI mu ∧ (em ≤ emq ∧ emq ≤ em + 0) ∧ (0 ≤ rv ∧ rv ≤ 0)) := by
  obtain ⟨d, rfl⟩ : ∃ e, d = e + 1 := ⟨d - 1, by omega⟩
  rw [r195]; unfold b195; rw [aR_e, aI_e, aZ_e]; unfold c195
  refine rs1 (gtI_q (w := iI F) (rk_160 hR) (h41)) ?_
  refine rs1 (jn_v) ?_
  refine rs1 (if_neg (eqI_n (rfl) (li_0) (by omega))) ?_
  refine rs1 (jv_e) ?_
  refine rs1 (gtI_q (w := iI F) (rk_160 hR) (h41)) ?_
  refine rs1 (jn_v) ?_
  refine rs1 (if_neg (eqI_n (rfl) (li_0) (by omega))) ?_
  refine rs1 (jv_e) ?_
  refine rs1 (rtZ_q (z := 0) (li_0) (by omega)) ?_
  exact Rt.okI (z := 0) (rfl) ⟨0, em, rfl, Fr.r, h43, h41, h42, h51, h53, h48, by omega, by omega⟩
theorem x196_s {d : Nat} {M : Mem} (hd : 1 ≤ d) (hR : RT M) {F P em sn us mu ut : Int} (h41 : M.1 160 41 = iI F) (h42 : M.1 160 42 = iI P) (h43 : M.1 160 43 = iI em) (h51 : M.1 160 51 = iI sn) (h53 : M.1 160 53 = iI us) (h48 : M.1 160 48 = iI mu) (h49 : M.1 160 49 = iI ut) {v0 : Int32} {o0 : Int} (hv0 : v0 = iI o0) {v1 : Int32} {o1 : Int} (hv1 : v1 = iI o1) (h : 1 ≤ F ∧ F ≤ 6 ∧ 0 ≤ em ∧ em + 1 ≤ 4000 ∧ 0 ≤ mu ∧ mu ≤ 1 ∧ 0 ≤ ut ∧ ut ≤ 8 ∧ 0 ≤ o0 ∧ o0 ≤ 34) : Rt (runX d 196 [va_rf (some 160), .int (v0), .int (v1)] M) (fun v M2 => ∃ (rv : Int) (emq : Int), v = .int (iI rv) ∧ Fr W_rp M M2 ∧ M2.1 160 43 = iI emq ∧ M2.1 160 41 = iI F ∧ M2.1 160 42 = iI P ∧ M2.1 160 51 = iI sn ∧ M2.1 160 53 = iI us ∧ M2.1 160 48 = iI mu ∧ (em ≤ emq ∧ emq ≤ em + 1) ∧ (0 ≤ rv ∧ rv ≤ 3999)) := by
  obtain ⟨d, rfl⟩ : ∃ e, d = e + 1 := ⟨d - 1, by omega⟩
  rw [r196]; unfold b196; rw [aR_e, aI_e, aI_e, aZ_e]; unfold c196
  refine rs1 (gtP_q (w := some 195) (rk_160 hR) (rf_44 hR)) ?_
  refine rs1 (gtI_q (w := iI em) (rk_160 hR) (h43)) ?_
  refine rs1 (asI_q (n := 4000) (z := em) (y := o0) (rk_195 hR) (rfl) (by omega) (b8_e (b8_e (hv0) (by omega)) (by omega))) ?_
  refine rs1 (gtP_q (w := some 196) (rk_160 hR.sI) (rf_45 hR.sI)) ?_
  refine rs1 (gtI_q (w := iI em) (rk_160 hR.sI) ((sI_ne (by decide)).trans (h43))) ?_
  refine rs1 (asI_q (n := 4000) (z := em) (y := o1) (rk_196 hR.sI) (rfl) (by omega) (hv1)) ?_
  refine rs1 (gtP_q (w := some 197) (rk_160 hR.sI.sI) (rf_46 hR.sI.sI)) ?_
  refine rs1 (gtI_q (w := iI em) (rk_160 hR.sI.sI) ((sI_ne (by decide)).trans ((sI_ne (by decide)).trans (h43)))) ?_
  refine rs1 (gtI_q (w := iI ut) (rk_160 hR.sI.sI) ((sI_ne (by decide)).trans ((sI_ne (by decide)).trans (h49)))) ?_
  refine rs1 (asI_q (n := 4000) (z := em) (y := ut) (rk_197 hR.sI.sI) (rfl) (by omega) (b8_e (b8_e (rfl) (by omega)) (by omega))) ?_
  refine rs1 (gtP_q (w := some 198) (rk_160 hR.sI.sI.sI) (rf_47 hR.sI.sI.sI)) ?_
  refine rs1 (gtI_q (w := iI em) (rk_160 hR.sI.sI.sI) ((sI_ne (by decide)).trans ((sI_ne (by decide)).trans ((sI_ne (by decide)).trans (h43))))) ?_
  refine rs1 (gtI_q (w := iI mu) (rk_160 hR.sI.sI.sI) ((sI_ne (by decide)).trans ((sI_ne (by decide)).trans ((sI_ne (by decide)).trans (h48))))) ?_
  refine rs1 (asI_q (n := 4000) (z := em) (y := mu) (rk_198 hR.sI.sI.sI) (rfl) (by omega) (znar_e (rfl) (by omega))) ?_
  refine rs1 (gtI_q (w := iI em) (rk_160 hR.sI.sI.sI.sI) ((sI_ne (by decide)).trans ((sI_ne (by decide)).trans ((sI_ne (by decide)).trans ((sI_ne (by decide)).trans (h43)))))) ?_
  refine rs1 (ptI_q (z := (em + 1)) (rk_160 hR.sI.sI.sI.sI) (adI (rfl) (li_1))) ?_
  refine rs1 (gtI_q (w := iI (em + 1)) (rk_160 hR.sI.sI.sI.sI.sI) (sI_eq)) ?_
  exact Rt.okI (z := em) (cvI (sbI (rfl) (li_1)) (by omega)) ⟨em, (em + 1), rfl, (Fr.sI (by decide) (Fr.sI (inW_c (by decide) _) (Fr.sI (inW_c (by decide) _) (Fr.sI (inW_c (by decide) _) (Fr.sI (inW_c (by decide) _) Fr.r))))), sI_eq, (sI_nej (by decide)).trans ((sI_ne (by decide)).trans ((sI_ne (by decide)).trans ((sI_ne (by decide)).trans ((sI_ne (by decide)).trans (h41))))), (sI_nej (by decide)).trans ((sI_ne (by decide)).trans ((sI_ne (by decide)).trans ((sI_ne (by decide)).trans ((sI_ne (by decide)).trans (h42))))), (sI_nej (by decide)).trans ((sI_ne (by decide)).trans ((sI_ne (by decide)).trans ((sI_ne (by decide)).trans ((sI_ne (by decide)).trans (h51))))), (sI_nej (by decide)).trans ((sI_ne (by decide)).trans ((sI_ne (by decide)).trans ((sI_ne (by decide)).trans ((sI_ne (by decide)).trans (h53))))), (sI_nej (by decide)).trans ((sI_ne (by decide)).trans ((sI_ne (by decide)).trans ((sI_ne (by decide)).trans ((sI_ne (by decide)).trans (h48))))), by omega, by omega⟩
theorem x198_s {d : Nat} {M : Mem} (hd : 2 ≤ d) (hR : RT M) {F P em sn us mu ut : Int} (h41 : M.1 160 41 = iI F) (h42 : M.1 160 42 = iI P) (h43 : M.1 160 43 = iI em) (h51 : M.1 160 51 = iI sn) (h53 : M.1 160 53 = iI us) (h48 : M.1 160 48 = iI mu) (h49 : M.1 160 49 = iI ut) (h : 1 ≤ F ∧ F ≤ 6 ∧ 0 ≤ em ∧ em + 0 ≤ 4000 ∧ 0 ≤ mu ∧ mu ≤ 1 ∧ 0 ≤ ut ∧ ut ≤ 8) : Rt (runX d 198 [va_rf (some 160)] M) (fun v M2 => ∃ (rv : Int) (emq : Int), v = .int (iI rv) ∧ Fr W_rp M M2 ∧ M2.1 160 43 = iI emq ∧ M2.1 160 41 = iI F ∧ M2.1 160 42 = iI P ∧ M2.1 160 51 = iI sn ∧ M2.1 160 53 = iI us ∧ M2.1 160 48 = iI mu ∧ (em ≤ emq ∧ emq ≤ em + 0) ∧ (0 ≤ rv ∧ rv ≤ 0)) := by
  obtain ⟨d, rfl⟩ : ∃ e, d = e + 1 := ⟨d - 1, by omega⟩
  rw [r198]; unfold b198; rw [aR_e, aZ_e]; unfold c198
  refine rs1 (gtI_q (w := iI F) (rk_160 hR) (h41)) ?_
  refine rs1 (jn_v) ?_
  refine rs1 (jn_v) ?_
  refine rs1 (if_neg (eqI_n (rfl) (li_0) (by omega))) ?_
  refine rs1 (jv_e) ?_
  refine rs1 (jv_e) ?_
  try dsimp only
  refine rs1 (rtZ_q (z := 0) (li_0) (by omega)) ?_
  exact Rt.okI (z := 0) (rfl) ⟨0, em, rfl, Fr.r, h43, h41, h42, h51, h53, h48, by omega, by omega⟩
theorem x199_s {d : Nat} {M : Mem} (hd : 1 ≤ d) (hR : RT M) {F P em sn us mu ut : Int} (h41 : M.1 160 41 = iI F) (h42 : M.1 160 42 = iI P) (h43 : M.1 160 43 = iI em) (h51 : M.1 160 51 = iI sn) (h53 : M.1 160 53 = iI us) (h48 : M.1 160 48 = iI mu) (h49 : M.1 160 49 = iI ut) {w0 : Int64} (h : 1 ≤ F ∧ F ≤ 6 ∧ 0 ≤ em ∧ em + 0 ≤ 4000 ∧ 0 ≤ mu ∧ mu ≤ 1 ∧ 0 ≤ ut ∧ ut ≤ 8) : Rt (runX d 199 [va_rf (some 160), .long (w0)] M) (fun _ M2 => ∃ (emq : Int), Fr W_rp M M2 ∧ M2.1 160 43 = iI emq ∧ M2.1 160 41 = iI F ∧ M2.1 160 42 = iI P ∧ M2.1 160 51 = iI sn ∧ M2.1 160 53 = iI us ∧ M2.1 160 48 = iI mu ∧ (em ≤ emq ∧ emq ≤ em + 0)) := by
  obtain ⟨d, rfl⟩ : ∃ e, d = e + 1 := ⟨d - 1, by omega⟩
  rw [r199]; unfold b199; rw [aR_e, aL_e, aZ_e]; unfold c199
  refine rs1 (gtI_q (w := iI F) (rk_160 hR) (h41)) ?_
  refine rs1 (jn_v) ?_
  refine rs1 (if_neg (eqI_n (rfl) (li_0) (by omega))) ?_
  refine rs1 (jv_e) ?_
  exact Rt.ok ⟨em, Fr.r, h43, h41, h42, h51, h53, h48, by omega⟩
theorem x202_s {d : Nat} {M : Mem} (hd : 2 ≤ d) (hR : RT M) {F P em sn us mu ut : Int} (h41 : M.1 160 41 = iI F) (h42 : M.1 160 42 = iI P) (h43 : M.1 160 43 = iI em) (h51 : M.1 160 51 = iI sn) (h53 : M.1 160 53 = iI us) (h48 : M.1 160 48 = iI mu) (h49 : M.1 160 49 = iI ut) {v0 : Int32} {o0 : Int} (hv0 : v0 = iI o0) {v1 : Int32} {o1 : Int} (hv1 : v1 = iI o1) {v2 : Int32} {o2 : Int} (hv2 : v2 = iI o2) (h : 1 ≤ F ∧ F ≤ 6 ∧ 0 ≤ em ∧ em + 1 ≤ 4000 ∧ 0 ≤ mu ∧ mu ≤ 1 ∧ 0 ≤ ut ∧ ut ≤ 8 ∧ 0 ≤ o0 ∧ o0 ≤ 1999 ∧ 0 ≤ o2 ∧ o2 ≤ 34) : Rt (runX d 202 [va_rf (some 160), .int (v0), .int (v1), .int (v2)] M) (fun _ M2 => ∃ (emq : Int), Fr W_rp M M2 ∧ M2.1 160 43 = iI emq ∧ M2.1 160 41 = iI F ∧ M2.1 160 42 = iI P ∧ M2.1 160 51 = iI sn ∧ M2.1 160 53 = iI us ∧ M2.1 160 48 = iI mu ∧ (em ≤ emq ∧ emq ≤ em + 1)) := by
  obtain ⟨d, rfl⟩ : ∃ e, d = e + 1 := ⟨d - 1, by omega⟩
  rw [r202]; unfold b202; rw [aR_e, aI_e, aI_e, aI_e, aZ_e]; unfold c202
  refine rs1 (gtP_q (w := some 201) (rk_160 hR) (rf_55 hR)) ?_
  refine rs1 (asI_q (n := 2000) (z := o0) (y := o1) (rk_201 hR) (hv0) (by omega) (hv1)) ?_
  refine rs1 (gtP_q (w := some 200) (rk_160 hR.sI) (rf_54 hR.sI)) ?_
  refine rs1 (vC_e (rk_160 hR.sI)) ?_
  refine Rc_I (x196_s (by omega) hR.sI ((sI_ne (by decide)).trans (h41)) ((sI_ne (by decide)).trans (h42)) ((sI_ne (by decide)).trans (h43)) ((sI_ne (by decide)).trans (h51)) ((sI_ne (by decide)).trans (h53)) ((sI_ne (by decide)).trans (h48)) ((sI_ne (by decide)).trans (h49)) (hv2) (hv0) (by omega)) fun v Ma2 h2 => ?_
  obtain ⟨rv1, em1, rfl, g2, e2_em1, e2_k0, e2_k1, e2_k2, e2_k3, e2_k4, p2_0, p2_1⟩ := h2
  have f2 : Fr W_rp M Ma2 := Fr.t (Fr.sI (inW_c (by decide) _) Fr.r) (Fr.m g2 (by decide))
  refine rs1 (cI_e rfl) ?_
  refine rs1 (asI_q (n := 2000) (z := o0) (y := rv1) (rk_200 (hR.fr f2)) (hv0) (by omega) (rfl)) ?_
  exact Rt.ok ⟨em1, (Fr.sI (inW_c (by decide) _) f2), (sI_ne (by decide)).trans (e2_em1), (sI_ne (by decide)).trans (e2_k0), (sI_ne (by decide)).trans (e2_k1), (sI_ne (by decide)).trans (e2_k2), (sI_ne (by decide)).trans (e2_k3), (sI_ne (by decide)).trans (e2_k4), by omega⟩
theorem x206_s {d : Nat} {M : Mem} (hd : 2 ≤ d) (hR : RT M) {F P em sn us mu ut : Int} (h41 : M.1 160 41 = iI F) (h42 : M.1 160 42 = iI P) (h43 : M.1 160 43 = iI em) (h51 : M.1 160 51 = iI sn) (h53 : M.1 160 53 = iI us) (h48 : M.1 160 48 = iI mu) (h49 : M.1 160 49 = iI ut) (h : 1 ≤ F ∧ F ≤ 6 ∧ 0 ≤ em ∧ em + 0 ≤ 4000 ∧ 0 ≤ mu ∧ mu ≤ 1 ∧ 0 ≤ ut ∧ ut ≤ 8) : Rt (runX d 206 [va_rf (some 160)] M) (fun _ M2 => ∃ (emq : Int), Fr W_rp M M2 ∧ M2.1 160 43 = iI emq ∧ M2.1 160 41 = iI F ∧ M2.1 160 42 = iI P ∧ M2.1 160 51 = iI sn ∧ M2.1 160 53 = iI us ∧ M2.1 160 48 = iI mu ∧ (em ≤ emq ∧ emq ≤ em + 0)) := by
  obtain ⟨d, rfl⟩ : ∃ e, d = e + 1 := ⟨d - 1, by omega⟩
  rw [r206]; unfold b206; rw [aR_e, aZ_e]; unfold c206
  refine rs1 (gtI_q (w := iI F) (rk_160 hR) (h41)) ?_
  refine rs1 (jn_v) ?_
  refine rs1 (if_neg (eqI_n (rfl) (li_0) (by omega))) ?_
  refine rs1 (jv_e) ?_
  exact Rt.ok ⟨em, Fr.r, h43, h41, h42, h51, h53, h48, by omega⟩
theorem x207_s {d : Nat} {M : Mem} (hd : 3 ≤ d) (hR : RT M) {F P em sn us mu ut : Int} (h41 : M.1 160 41 = iI F) (h42 : M.1 160 42 = iI P) (h43 : M.1 160 43 = iI em) (h51 : M.1 160 51 = iI sn) (h53 : M.1 160 53 = iI us) (h48 : M.1 160 48 = iI mu) (h49 : M.1 160 49 = iI ut) (h : 1 ≤ F ∧ F ≤ 6 ∧ 0 ≤ em ∧ em + 0 ≤ 4000 ∧ 0 ≤ mu ∧ mu ≤ 1 ∧ 0 ≤ ut ∧ ut ≤ 8) : Rt (runX d 207 [va_rf (some 160)] M) (fun _ M2 => ∃ (emq : Int), Fr W_rp M M2 ∧ M2.1 160 43 = iI emq ∧ M2.1 160 41 = iI F ∧ M2.1 160 42 = iI P ∧ M2.1 160 51 = iI sn ∧ M2.1 160 53 = iI us ∧ M2.1 160 48 = iI mu ∧ (em ≤ emq ∧ emq ≤ em + 0)) := by
  obtain ⟨d, rfl⟩ : ∃ e, d = e + 1 := ⟨d - 1, by omega⟩
  rw [r207]; unfold b207; rw [aR_e, aZ_e]; unfold c207
  refine rs1 (vC_e (rk_160 hR)) ?_
  refine Rc_V (x206_s (by omega) hR (h41) (h42) (h43) (h51) (h53) (h48) (h49)  (by omega)) fun v Ma2 h2 => ?_
  obtain ⟨em1, g2, e2_em1, e2_k0, e2_k1, e2_k2, e2_k3, e2_k4, p2_0⟩ := h2
  have f2 : Fr W_rp M Ma2 := Fr.t Fr.r (Fr.m g2 (by decide))
  refine rs1 (cV_e rfl) ?_
  refine rs1 (jn_v) ?_
  refine rs1 (lp_e) ?_
  unfold c207_4
  refine rs1 (gtI_q (w := iI F) (rk_160 (hR.fr f2)) (e2_k0)) ?_
  refine rs1 (if_neg (eqI_n (rfl) (li_0) (by omega))) ?_
  refine rs1 (jv_e) ?_
  exact Rt.ok ⟨em1, f2, e2_em1, e2_k0, e2_k1, e2_k2, e2_k3, e2_k4, by omega⟩
theorem x208_s {d : Nat} {M : Mem} (hd : 4 ≤ d) (hR : RT M) {F P em sn us mu ut : Int} (h41 : M.1 160 41 = iI F) (h42 : M.1 160 42 = iI P) (h43 : M.1 160 43 = iI em) (h51 : M.1 160 51 = iI sn) (h53 : M.1 160 53 = iI us) (h48 : M.1 160 48 = iI mu) (h49 : M.1 160 49 = iI ut) (h : 1 ≤ F ∧ F ≤ 6 ∧ 0 ≤ em ∧ em + 0 ≤ 4000 ∧ 0 ≤ mu ∧ mu ≤ 1 ∧ 0 ≤ ut ∧ ut ≤ 8) : Rt (runX d 208 [va_rf (some 160)] M) (fun _ M2 => ∃ (emq : Int), Fr W_rp M M2 ∧ M2.1 160 43 = iI emq ∧ M2.1 160 41 = iI F ∧ M2.1 160 42 = iI P ∧ M2.1 160 51 = iI sn ∧ M2.1 160 53 = iI us ∧ M2.1 160 48 = iI mu ∧ (em ≤ emq ∧ emq ≤ em + 0)) := by
  obtain ⟨d, rfl⟩ : ∃ e, d = e + 1 := ⟨d - 1, by omega⟩
  rw [r208]; unfold b208; rw [aR_e, aZ_e]; unfold c208
  refine rs1 (vC_e (rk_160 hR)) ?_
  refine Rc_V (x207_s (by omega) hR (h41) (h42) (h43) (h51) (h53) (h48) (h49)  (by omega)) fun v Ma2 h2 => ?_
  obtain ⟨em1, g2, e2_em1, e2_k0, e2_k1, e2_k2, e2_k3, e2_k4, p2_0⟩ := h2
  have f2 : Fr W_rp M Ma2 := Fr.t Fr.r (Fr.m g2 (by decide))
  refine rs1 (cV_e rfl) ?_
  refine rs1 (jn_v) ?_
  refine rs1 (lp_e) ?_
  unfold c208_4
  refine rs1 (gtI_q (w := iI F) (rk_160 (hR.fr f2)) (e2_k0)) ?_
  refine rs1 (if_neg (eqI_n (rfl) (li_0) (by omega))) ?_
  refine rs1 (jv_e) ?_
  exact Rt.ok ⟨em1, f2, e2_em1, e2_k0, e2_k1, e2_k2, e2_k3, e2_k4, by omega⟩
theorem x209_s {d : Nat} {M : Mem} (hd : 5 ≤ d) (hR : RT M) {F P em sn us mu ut : Int} (h41 : M.1 160 41 = iI F) (h42 : M.1 160 42 = iI P) (h43 : M.1 160 43 = iI em) (h51 : M.1 160 51 = iI sn) (h53 : M.1 160 53 = iI us) (h48 : M.1 160 48 = iI mu) (h49 : M.1 160 49 = iI ut) (h : 1 ≤ F ∧ F ≤ 6 ∧ 0 ≤ em ∧ em + 0 ≤ 4000 ∧ 0 ≤ mu ∧ mu ≤ 1 ∧ 0 ≤ ut ∧ ut ≤ 8) : Rt (runX d 209 [va_rf (some 160)] M) (fun _ M2 => ∃ (emq : Int), Fr W_rp M M2 ∧ M2.1 160 43 = iI emq ∧ M2.1 160 41 = iI F ∧ M2.1 160 42 = iI P ∧ M2.1 160 51 = iI sn ∧ M2.1 160 53 = iI us ∧ M2.1 160 48 = iI mu ∧ (em ≤ emq ∧ emq ≤ em + 0)) := by
  obtain ⟨d, rfl⟩ : ∃ e, d = e + 1 := ⟨d - 1, by omega⟩
  rw [r209]; unfold b209; rw [aR_e, aZ_e]; unfold c209
  refine rs1 (gtI_q (w := iI F) (rk_160 hR) (h41)) ?_
  refine rs1 (jn_v) ?_
  refine rs1 (if_neg (eqI_n (rfl) (li_0) (by omega))) ?_
  refine rs1 (jv_e) ?_
  refine rs1 (vC_e (rk_160 hR)) ?_
  refine Rc_V (x208_s (by omega) hR (h41) (h42) (h43) (h51) (h53) (h48) (h49)  (by omega)) fun v Ma2 h2 => ?_
  obtain ⟨em1, g2, e2_em1, e2_k0, e2_k1, e2_k2, e2_k3, e2_k4, p2_0⟩ := h2
  have f2 : Fr W_rp M Ma2 := Fr.t Fr.r (Fr.m g2 (by decide))
  refine rs1 (cV_e rfl) ?_
  have b3 := V_r (M := Ma2) (a := 160) (j := 36)
  refine rs1 (gtI_q (w := iI ((V Ma2 160 36))) (rk_160 (hR.fr f2)) (eV)) ?_
  refine rs1 (jn_v) ?_
  by_cases c4 : ((V Ma2 160 36)) = 60
  · refine rs1 (if_pos (eqI_p (rfl) (li_60) (by omega))) ?_
    refine rs1 (jv_e) ?_
    refine rs1 (gtI_q (w := iI F) (rk_160 (hR.fr f2)) (e2_k0)) ?_
    refine rs1 (jn_v) ?_
    refine rs1 (if_neg (eqI_n (rfl) (li_0) (by omega))) ?_
    refine rs1 (jv_e) ?_
    exact Rt.ok ⟨em1, f2, e2_em1, e2_k0, e2_k1, e2_k2, e2_k3, e2_k4, by omega⟩
  · refine rs1 (if_neg (eqI_n (rfl) (li_60) (by omega))) ?_
    refine rs1 (gtI_q (w := iI ((V Ma2 160 36))) (rk_160 (hR.fr f2)) (eV)) ?_
    by_cases c5 : ((V Ma2 160 36)) = 300
    · refine rs1 (if_pos (eqI_p (rfl) (li_300) (by omega))) ?_
      refine rs1 (jv_e) ?_
      refine rs1 (gtI_q (w := iI F) (rk_160 (hR.fr f2)) (e2_k0)) ?_
      refine rs1 (jn_v) ?_
      refine rs1 (if_neg (eqI_n (rfl) (li_0) (by omega))) ?_
      refine rs1 (jv_e) ?_
      exact Rt.ok ⟨em1, f2, e2_em1, e2_k0, e2_k1, e2_k2, e2_k3, e2_k4, by omega⟩
    · refine rs1 (if_neg (eqI_n (rfl) (li_300) (by omega))) ?_
      refine rs1 (gtI_q (w := iI ((V Ma2 160 36))) (rk_160 (hR.fr f2)) (eV)) ?_
      by_cases c6 : ((V Ma2 160 36)) = 301
      · refine rs1 (if_pos (eqI_p (rfl) (li_301) (by omega))) ?_
        refine rs1 (jv_e) ?_
        refine rs1 (gtI_q (w := iI F) (rk_160 (hR.fr f2)) (e2_k0)) ?_
        refine rs1 (jn_v) ?_
        refine rs1 (if_neg (eqI_n (rfl) (li_0) (by omega))) ?_
        refine rs1 (jv_e) ?_
        exact Rt.ok ⟨em1, f2, e2_em1, e2_k0, e2_k1, e2_k2, e2_k3, e2_k4, by omega⟩
      · refine rs1 (if_neg (eqI_n (rfl) (li_301) (by omega))) ?_
        refine rs1 (gtI_q (w := iI ((V Ma2 160 36))) (rk_160 (hR.fr f2)) (eV)) ?_
        by_cases c7 : ((V Ma2 160 36)) = 302
        · refine rs1 (if_pos (eqI_p (rfl) (li_302) (by omega))) ?_
          refine rs1 (jv_e) ?_
          refine rs1 (gtI_q (w := iI F) (rk_160 (hR.fr f2)) (e2_k0)) ?_
          refine rs1 (jn_v) ?_
          refine rs1 (if_neg (eqI_n (rfl) (li_0) (by omega))) ?_
          refine rs1 (jv_e) ?_
          exact Rt.ok ⟨em1, f2, e2_em1, e2_k0, e2_k1, e2_k2, e2_k3, e2_k4, by omega⟩
        · refine rs1 (if_neg (eqI_n (rfl) (li_302) (by omega))) ?_
          refine rs1 (jv_e) ?_
          refine rs1 (gtI_q (w := iI F) (rk_160 (hR.fr f2)) (e2_k0)) ?_
          refine rs1 (jn_v) ?_
          refine rs1 (if_neg (eqI_n (rfl) (li_0) (by omega))) ?_
          refine rs1 (jv_e) ?_
          exact Rt.ok ⟨em1, f2, e2_em1, e2_k0, e2_k1, e2_k2, e2_k3, e2_k4, by omega⟩
theorem x210_s {d : Nat} {M : Mem} (hd : 6 ≤ d) (hR : RT M) {F P em sn us mu ut : Int} (h41 : M.1 160 41 = iI F) (h42 : M.1 160 42 = iI P) (h43 : M.1 160 43 = iI em) (h51 : M.1 160 51 = iI sn) (h53 : M.1 160 53 = iI us) (h48 : M.1 160 48 = iI mu) (h49 : M.1 160 49 = iI ut) (h : 1 ≤ F ∧ F ≤ 6 ∧ 0 ≤ em ∧ em + 0 ≤ 4000 ∧ 0 ≤ mu ∧ mu ≤ 1 ∧ 0 ≤ ut ∧ ut ≤ 8) : Rt (runX d 210 [va_rf (some 160)] M) (fun _ M2 => ∃ (emq : Int), Fr W_rp M M2 ∧ M2.1 160 43 = iI emq ∧ M2.1 160 41 = iI F ∧ M2.1 160 42 = iI P ∧ M2.1 160 51 = iI sn ∧ M2.1 160 53 = iI us ∧ M2.1 160 48 = iI mu ∧ (em ≤ emq ∧ emq ≤ em + 0)) := by
  obtain ⟨d, rfl⟩ : ∃ e, d = e + 1 := ⟨d - 1, by omega⟩
  rw [r210]; unfold b210; rw [aR_e, aZ_e]; unfold c210
  refine rs1 (vC_e (rk_160 hR)) ?_
  refine Rc_V (x209_s (by omega) hR (h41) (h42) (h43) (h51) (h53) (h48) (h49)  (by omega)) fun v Ma2 h2 => ?_
  obtain ⟨em1, g2, e2_em1, e2_k0, e2_k1, e2_k2, e2_k3, e2_k4, p2_0⟩ := h2
  have f2 : Fr W_rp M Ma2 := Fr.t Fr.r (Fr.m g2 (by decide))
  refine rs1 (cV_e rfl) ?_
  refine rs1 (jn_v) ?_
  refine rs1 (lp_e) ?_
  unfold c210_4
  refine rs1 (gtI_q (w := iI F) (rk_160 (hR.fr f2)) (e2_k0)) ?_
  refine rs1 (if_neg (eqI_n (rfl) (li_0) (by omega))) ?_
  refine rs1 (jv_e) ?_
  exact Rt.ok ⟨em1, f2, e2_em1, e2_k0, e2_k1, e2_k2, e2_k3, e2_k4, by omega⟩
theorem x211_s {d : Nat} {M : Mem} (hd : 7 ≤ d) (hR : RT M) {F P em sn us mu ut : Int} (h41 : M.1 160 41 = iI F) (h42 : M.1 160 42 = iI P) (h43 : M.1 160 43 = iI em) (h51 : M.1 160 51 = iI sn) (h53 : M.1 160 53 = iI us) (h48 : M.1 160 48 = iI mu) (h49 : M.1 160 49 = iI ut) (h : 1 ≤ F ∧ F ≤ 6 ∧ 0 ≤ em ∧ em + 0 ≤ 4000 ∧ 0 ≤ mu ∧ mu ≤ 1 ∧ 0 ≤ ut ∧ ut ≤ 8) : Rt (runX d 211 [va_rf (some 160)] M) (fun _ M2 => ∃ (emq : Int), Fr W_rp M M2 ∧ M2.1 160 43 = iI emq ∧ M2.1 160 41 = iI F ∧ M2.1 160 42 = iI P ∧ M2.1 160 51 = iI sn ∧ M2.1 160 53 = iI us ∧ M2.1 160 48 = iI mu ∧ (em ≤ emq ∧ emq ≤ em + 0)) := by
  obtain ⟨d, rfl⟩ : ∃ e, d = e + 1 := ⟨d - 1, by omega⟩
  rw [r211]; unfold b211; rw [aR_e, aZ_e]; unfold c211
  refine rs1 (vC_e (rk_160 hR)) ?_
  refine Rc_V (x210_s (by omega) hR (h41) (h42) (h43) (h51) (h53) (h48) (h49)  (by omega)) fun v Ma2 h2 => ?_
  obtain ⟨em1, g2, e2_em1, e2_k0, e2_k1, e2_k2, e2_k3, e2_k4, p2_0⟩ := h2
  have f2 : Fr W_rp M Ma2 := Fr.t Fr.r (Fr.m g2 (by decide))
  refine rs1 (cV_e rfl) ?_
  refine rs1 (jn_v) ?_
  refine rs1 (lp_e) ?_
  unfold c211_4
  refine rs1 (gtI_q (w := iI F) (rk_160 (hR.fr f2)) (e2_k0)) ?_
  refine rs1 (if_neg (eqI_n (rfl) (li_0) (by omega))) ?_
  refine rs1 (jv_e) ?_
  exact Rt.ok ⟨em1, f2, e2_em1, e2_k0, e2_k1, e2_k2, e2_k3, e2_k4, by omega⟩
theorem x212_s {d : Nat} {M : Mem} (hd : 1 ≤ d) (hR : RT M) {F P em sn us mu ut : Int} (h41 : M.1 160 41 = iI F) (h42 : M.1 160 42 = iI P) (h43 : M.1 160 43 = iI em) (h51 : M.1 160 51 = iI sn) (h53 : M.1 160 53 = iI us) (h48 : M.1 160 48 = iI mu) (h49 : M.1 160 49 = iI ut) (h : 1 ≤ F ∧ F ≤ 6 ∧ 0 ≤ em ∧ em + 0 ≤ 4000 ∧ 0 ≤ mu ∧ mu ≤ 1 ∧ 0 ≤ ut ∧ ut ≤ 8) : Rt (runX d 212 [va_rf (some 160)] M) (fun _ M2 => ∃ (emq : Int), Fr W_rp M M2 ∧ M2.1 160 43 = iI emq ∧ M2.1 160 41 = iI F ∧ M2.1 160 42 = iI P ∧ M2.1 160 51 = iI sn ∧ M2.1 160 53 = iI us ∧ M2.1 160 48 = iI mu ∧ (em ≤ emq ∧ emq ≤ em + 0)) := by
  obtain ⟨d, rfl⟩ : ∃ e, d = e + 1 := ⟨d - 1, by omega⟩
  rw [r212]; unfold b212; rw [aR_e, aZ_e]; unfold c212
  refine rs1 (gtI_q (w := iI F) (rk_160 hR) (h41)) ?_
  refine rs1 (jn_v) ?_
  refine rs1 (if_neg (eqI_n (rfl) (li_0) (by omega))) ?_
  refine rs1 (jv_e) ?_
  exact Rt.ok ⟨em, Fr.r, h43, h41, h42, h51, h53, h48, by omega⟩
theorem x213_s {d : Nat} {M : Mem} (hd : 2 ≤ d) (hR : RT M) {F P em sn us mu ut : Int} (h41 : M.1 160 41 = iI F) (h42 : M.1 160 42 = iI P) (h43 : M.1 160 43 = iI em) (h51 : M.1 160 51 = iI sn) (h53 : M.1 160 53 = iI us) (h48 : M.1 160 48 = iI mu) (h49 : M.1 160 49 = iI ut) (h : 1 ≤ F ∧ F ≤ 6 ∧ 0 ≤ em ∧ em + 0 ≤ 4000 ∧ 0 ≤ mu ∧ mu ≤ 1 ∧ 0 ≤ ut ∧ ut ≤ 8) : Rt (runX d 213 [va_rf (some 160)] M) (fun _ M2 => ∃ (emq : Int), Fr W_rp M M2 ∧ M2.1 160 43 = iI emq ∧ M2.1 160 41 = iI F ∧ M2.1 160 42 = iI P ∧ M2.1 160 51 = iI sn ∧ M2.1 160 53 = iI us ∧ M2.1 160 48 = iI mu ∧ (em ≤ emq ∧ emq ≤ em + 0)) := by
  obtain ⟨d, rfl⟩ : ∃ e, d = e + 1 := ⟨d - 1, by omega⟩
  rw [r213]; unfold b213; rw [aR_e, aZ_e]; unfold c213
  refine rs1 (vC_e (rk_160 hR)) ?_
  refine Rc_V (x212_s (by omega) hR (h41) (h42) (h43) (h51) (h53) (h48) (h49)  (by omega)) fun v Ma2 h2 => ?_
  obtain ⟨em1, g2, e2_em1, e2_k0, e2_k1, e2_k2, e2_k3, e2_k4, p2_0⟩ := h2
  have f2 : Fr W_rp M Ma2 := Fr.t Fr.r (Fr.m g2 (by decide))
  refine rs1 (cV_e rfl) ?_
  refine rs1 (vC_e (rk_160 (hR.fr f2))) ?_
  refine Rc_V (x191_s (by omega) (hR.fr f2) (e2_k0) (e2_k1) (e2_em1) (e2_k2) (e2_k3) (e2_k4) ((g2.i _ _ (by decide)).trans (h49))  (by omega)) fun v Ma4 h4 => ?_
  obtain ⟨em3, g4, e4_em3, e4_k0, e4_k1, e4_k2, e4_k3, e4_k4, p4_0⟩ := h4
  have f4 : Fr W_rp M Ma4 := Fr.t f2 (Fr.m g4 (by decide))
  refine rs1 (cV_e rfl) ?_
  exact Rt.ok ⟨em3, f4, e4_em3, e4_k0, e4_k1, e4_k2, e4_k3, e4_k4, by omega⟩
theorem x218_s {d : Nat} {M : Mem} (hd : 2 ≤ d) (hR : RT M) {F P em sn us mu ut : Int} (h41 : M.1 160 41 = iI F) (h42 : M.1 160 42 = iI P) (h43 : M.1 160 43 = iI em) (h51 : M.1 160 51 = iI sn) (h53 : M.1 160 53 = iI us) (h48 : M.1 160 48 = iI mu) (h49 : M.1 160 49 = iI ut) {v0 : Int32} {o0 : Int} (hv0 : v0 = iI o0) (h : 1 ≤ F ∧ F ≤ 6 ∧ 0 ≤ em ∧ em + 2 ≤ 4000 ∧ 0 ≤ mu ∧ mu ≤ 1 ∧ 0 ≤ ut ∧ ut ≤ 8 ∧ 0 ≤ o0 ∧ o0 ≤ 1) : Rt (runX d 218 [va_rf (some 160), .int (v0)] M) (fun v M2 => ∃ (rv : Int) (emq : Int) (muq : Int), v = .int (iI rv) ∧ Fr W_rp M M2 ∧ M2.1 160 43 = iI emq ∧ M2.1 160 48 = iI muq ∧ M2.1 160 41 = iI F ∧ M2.1 160 42 = iI P ∧ M2.1 160 51 = iI sn ∧ M2.1 160 53 = iI us ∧ (em ≤ emq ∧ emq ≤ em + 2) ∧ (0 ≤ muq ∧ muq ≤ 1)) := by
  obtain ⟨d, rfl⟩ : ∃ e, d = e + 1 := ⟨d - 1, by omega⟩
  rw [r218]; unfold b218; rw [aR_e, aI_e, aZ_e]; unfold c218
  refine rs1 (gtI_q (w := iI em) (rk_160 hR) (h43)) ?_
  refine rs1 (ptI_q (z := 0) (rk_160 hR) (li_0)) ?_
  refine rs1 (ptZ_q (z := o0) (rk_160 hR.sI) (hv0) (by omega)) ?_
  refine rs1 (vC_e (rk_160 hR.sI.sI)) ?_
  refine Rc_V (x212_s (by omega) hR.sI.sI ((sI_nej (by decide)).trans ((sI_nej (by decide)).trans (h41))) ((sI_nej (by decide)).trans ((sI_nej (by decide)).trans (h42))) ((sI_nej (by decide)).trans ((sI_nej (by decide)).trans (h43))) ((sI_nej (by decide)).trans ((sI_nej (by decide)).trans (h51))) ((sI_nej (by decide)).trans ((sI_nej (by decide)).trans (h53))) (sI_eq) ((sI_nej (by decide)).trans ((sI_nej (by decide)).trans (h49)))  (by omega)) fun v Ma2 h2 => ?_
  obtain ⟨em1, g2, e2_em1, e2_k0, e2_k1, e2_k2, e2_k3, e2_k4, p2_0⟩ := h2
  have f2 : Fr W_rp M Ma2 := Fr.t (Fr.sI (by decide) (Fr.sI (by decide) Fr.r)) (Fr.m g2 (by decide))
  refine rs1 (cV_e rfl) ?_
  refine rs1 (vC_e (rk_160 (hR.fr f2))) ?_
  refine Rc_I (x196_s (by omega) (hR.fr f2) (e2_k0) (e2_k1) (e2_em1) (e2_k2) (e2_k3) (e2_k4) ((g2.i _ _ (by decide)).trans ((sI_nej (by decide)).trans ((sI_nej (by decide)).trans (h49)))) (li_0) (li_0) (by omega)) fun v Ma4 h4 => ?_
  obtain ⟨rv3, em3, rfl, g4, e4_em3, e4_k0, e4_k1, e4_k2, e4_k3, e4_k4, p4_0, p4_1⟩ := h4
  have f4 : Fr W_rp M Ma4 := Fr.t f2 (Fr.m g4 (by decide))
  refine rs1 (cI_e rfl) ?_
  refine rs1 (vC_e (rk_160 (hR.fr f4))) ?_
  refine Rc_I (x196_s (by omega) (hR.fr f4) (e4_k0) (e4_k1) (e4_em3) (e4_k2) (e4_k3) (e4_k4) ((g4.i _ _ (by decide)).trans ((g2.i _ _ (by decide)).trans ((sI_nej (by decide)).trans ((sI_nej (by decide)).trans (h49))))) (li_8) (li_0) (by omega)) fun v Ma6 h6 => ?_
  obtain ⟨rv5, em5, rfl, g6, e6_em5, e6_k0, e6_k1, e6_k2, e6_k3, e6_k4, p6_0, p6_1⟩ := h6
  have f6 : Fr W_rp M Ma6 := Fr.t f4 (Fr.m g6 (by decide))
  refine rs1 (cI_e rfl) ?_
  refine rs1 (gtI_q (w := iI F) (rk_160 (hR.fr f6)) (e6_k0)) ?_
  refine rs1 (jn_v) ?_
  refine rs1 (if_neg (eqI_n (rfl) (li_0) (by omega))) ?_
  refine rs1 (jv_e) ?_
  refine rs1 (vC_e (rk_160 (hR.fr f6))) ?_
  refine Rc_V (x191_s (by omega) (hR.fr f6) (e6_k0) (e6_k1) (e6_em5) (e6_k2) (e6_k3) (e6_k4) ((g6.i _ _ (by decide)).trans ((g4.i _ _ (by decide)).trans ((g2.i _ _ (by decide)).trans ((sI_nej (by decide)).trans ((sI_nej (by decide)).trans (h49))))))  (by omega)) fun v Ma8 h8 => ?_
  obtain ⟨em7, g8, e8_em7, e8_k0, e8_k1, e8_k2, e8_k3, e8_k4, p8_0⟩ := h8
  have f8 : Fr W_rp M Ma8 := Fr.t f6 (Fr.m g8 (by decide))
  refine rs1 (cV_e rfl) ?_
  exact Rt.okI (z := em) (rfl) ⟨em, em7, o0, rfl, f8, e8_em7, e8_k4, e8_k0, e8_k1, e8_k2, e8_k3, by omega, by omega⟩
theorem x219_s {d : Nat} {M : Mem} (hd : 2 ≤ d) (hR : RT M) {F P em sn us mu ut : Int} (h41 : M.1 160 41 = iI F) (h42 : M.1 160 42 = iI P) (h43 : M.1 160 43 = iI em) (h51 : M.1 160 51 = iI sn) (h53 : M.1 160 53 = iI us) (h48 : M.1 160 48 = iI mu) (h49 : M.1 160 49 = iI ut) (h : 1 ≤ F ∧ F ≤ 6 ∧ 0 ≤ em ∧ em + 0 ≤ 4000 ∧ 0 ≤ mu ∧ mu ≤ 1 ∧ 0 ≤ ut ∧ ut ≤ 8) : Rt (runX d 219 [va_rf (some 160)] M) (fun _ M2 => ∃ (emq : Int), Fr W_rp M M2 ∧ M2.1 160 43 = iI emq ∧ M2.1 160 41 = iI F ∧ M2.1 160 42 = iI P ∧ M2.1 160 51 = iI sn ∧ M2.1 160 53 = iI us ∧ M2.1 160 48 = iI mu ∧ (em ≤ emq ∧ emq ≤ em + 0)) := by
  obtain ⟨d, rfl⟩ : ∃ e, d = e + 1 := ⟨d - 1, by omega⟩
  rw [r219]; unfold b219; rw [aR_e, aZ_e]; unfold c219
  have b1 := V_r (M := M) (a := 160) (j := 36)
  refine rs1 (gtI_q (w := iI ((V M 160 36))) (rk_160 hR) (eV)) ?_
  refine rs1 (jn_v) ?_
  by_cases c2 : ((V M 160 36)) = 45
  · refine rs1 (if_pos (eqI_p (rfl) (li_45) (by omega))) ?_
    refine rs1 (jv_e) ?_
    refine rs1 (jn_v) ?_
    refine rs1 (if_neg (eqI_n (li_1) (li_0) (by omega))) ?_
    refine rs1 (vC_e (rk_160 hR)) ?_
    refine Rc_V (x191_s (by omega) hR (h41) (h42) (h43) (h51) (h53) (h48) (h49)  (by omega)) fun v Ma4 h4 => ?_
    obtain ⟨em3, g4, e4_em3, e4_k0, e4_k1, e4_k2, e4_k3, e4_k4, p4_0⟩ := h4
    have f4 : Fr W_rp M Ma4 := Fr.t Fr.r (Fr.m g4 (by decide))
    refine rs1 (cV_e rfl) ?_
    refine rs1 (jv_e) ?_
    refine rs1 (gtI_q (w := iI F) (rk_160 (hR.fr f4)) (e4_k0)) ?_
    refine rs1 (jn_v) ?_
    refine rs1 (if_neg (eqI_n (rfl) (li_0) (by omega))) ?_
    refine rs1 (jv_e) ?_
    exact Rt.ok ⟨em3, f4, e4_em3, e4_k0, e4_k1, e4_k2, e4_k3, e4_k4, by omega⟩
  · refine rs1 (if_neg (eqI_n (rfl) (li_45) (by omega))) ?_
    refine rs1 (jv_e) ?_
    refine rs1 (jn_v) ?_
    refine rs1 (if_pos (eqI_p (li_0) (li_0) (by omega))) ?_
    refine rs1 (jv_e) ?_
    refine rs1 (gtI_q (w := iI F) (rk_160 hR) (h41)) ?_
    refine rs1 (jn_v) ?_
    refine rs1 (if_neg (eqI_n (rfl) (li_0) (by omega))) ?_
    refine rs1 (jv_e) ?_
    exact Rt.ok ⟨em, Fr.r, h43, h41, h42, h51, h53, h48, by omega⟩
theorem x223_s {d : Nat} {M : Mem} (hd : 2 ≤ d) (hR : RT M) {F P em sn us mu ut : Int} (h41 : M.1 160 41 = iI F) (h42 : M.1 160 42 = iI P) (h43 : M.1 160 43 = iI em) (h51 : M.1 160 51 = iI sn) (h53 : M.1 160 53 = iI us) (h48 : M.1 160 48 = iI mu) (h49 : M.1 160 49 = iI ut) (h : 1 ≤ F ∧ F ≤ 6 ∧ 0 ≤ em ∧ em + 0 ≤ 4000 ∧ 0 ≤ mu ∧ mu ≤ 1 ∧ 0 ≤ ut ∧ ut ≤ 8) : Rt (runX d 223 [va_rf (some 160)] M) (fun _ M2 => ∃ (emq : Int), Fr W_rp M M2 ∧ M2.1 160 43 = iI emq ∧ M2.1 160 41 = iI F ∧ M2.1 160 42 = iI P ∧ M2.1 160 51 = iI sn ∧ M2.1 160 53 = iI us ∧ M2.1 160 48 = iI mu ∧ (em ≤ emq ∧ emq ≤ em + 0)) := by
  obtain ⟨d, rfl⟩ : ∃ e, d = e + 1 := ⟨d - 1, by omega⟩
  rw [r223]; unfold b223; rw [aR_e, aZ_e]; unfold c223
  refine rs1 (jn_v) ?_
  refine rs1 (lp_e) ?_
  unfold c223_2
  refine rs1 (if_neg (eqI_n (li_1) (li_0) (by omega))) ?_
  refine rs1 (gtI_q (w := iI F) (rk_160 hR) (h41)) ?_
  refine rs1 (if_neg (eqI_n (rfl) (li_0) (by omega))) ?_
  refine rs1 (lp_e) ?_
  refine rs1 (if_pos (eqI_p (li_0) (li_0) (by omega))) ?_
  refine rs1 (jv_e) ?_
  exact Rt.ok ⟨em, Fr.r, h43, h41, h42, h51, h53, h48, by omega⟩
