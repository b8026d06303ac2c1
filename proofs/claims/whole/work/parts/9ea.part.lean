/-! cut(), fault(), steps(), seed(): both -/
section S9ea
variable {d dl : Nat} {o : HO} {M M' Mc Mr : Mem} {LL a j b c t x : Nat} {xs : Nat → Int32} {ow : Nat → Int} {p i k sl m n f w : Int} {v v1 v2 v3 v4 : Int32}
theorem fault_pair (hdl : 1 ≤ dl) (hd : 1 ≤ d) (cM : CT Mc) (rM : RT Mr) (h : Mc.1 65 10 = Mr.1 160 65) : ∃ r, runX dl 131 [va_rf (some 64)] Mc = some (.int r, Mc) ∧ runX d 234 [va_rf (some 160)] Mr = some (.int r, Mr) := by
  obtain ⟨dl, rfl⟩ : ∃ e, dl = e + 1 := ⟨dl - 1, by omega⟩
  obtain ⟨d, rfl⟩ : ∃ e, d = e + 1 := ⟨d - 1, by omega⟩
  refine ⟨Mr.1 160 65, ?_, ?_⟩
  · rw [r131]; unfold b131; rw [aR_e, aZ_e]
    unfold c131
    rw [gtP_q (ck_64 cM) (cf_64_0 cM), gtI_q (ck_65 cM) h]
  · rw [r234]; unfold b234; rw [aR_e, aZ_e]
    unfold c234
    rw [gtI_q (rk_160 rM) rfl]
theorem cut_pair (hdl : 1 ≤ dl) (hd : 2 ≤ d) (cM : CT Mc) (rM : RT Mr) (h1 : Mc.1 66 1 = iI n) (h2 : Mr.1 160 1 = iI n) (hn : 0 ≤ n ∧ n ≤ 3000) (hv1 : v1 = iI k) (bk : -2147483648 ≤ k ∧ k ≤ 2147483647) : ∃ r Mc' Mr', runX dl 129 [va_rf (some 64), .int v1] Mc = some (.int r, Mc') ∧ runX d 186 [va_rf (some 160), .int v1] Mr = some (.int r, Mr') ∧ ((Mc' = Mc ∧ Mr' = Mr) ∨ ∃ n', (0 ≤ n' ∧ n' ≤ n) ∧ Mc' = sI Mc 66 1 (iI n') ∧ Mr' = sI Mr 160 1 (iI n')) := by
  obtain ⟨dl, rfl⟩ : ∃ e, dl = e + 1 := ⟨dl - 1, by omega⟩
  obtain ⟨d, rfl⟩ : ∃ e, d = e + 1 := ⟨d - 1, by omega⟩
  subst hv1
  have n10 : ¬ iI 1 = (0 : Int32) := by decide
  have q := r_in (d := d) (M := Mr) (i := k) (k := 0) (m := n) (by omega) bk (by omega) (by omega)
  rw [← li_0] at q
  have eC : runX (dl + 1) 129 [va_rf (some 64), .int (iI k)] Mc = c129 (runX dl) (some 64) (iI k) Mc := by
    rw [r129]; unfold b129; rw [aR_e, aI_e, aZ_e]
  have eR : runX (d + 1) 186 [va_rf (some 160), .int (iI k)] Mr = c186 (runX d) (some 160) (iI k) Mr := by
    rw [r186]; unfold b186; rw [aR_e, aI_e, aZ_e]
  by_cases hk : 0 ≤ k ∧ k ≤ n
  · rw [if_pos hk] at q
    refine ⟨iI (n - k), sI Mc 66 1 (iI (n - k)), sI Mr 160 1 (iI (n - k)), ?_, ?_, Or.inr ⟨n - k, by omega, rfl, rfl⟩⟩
    · rw [eC]
      unfold c129
      rw [gtP_q (ck_64 cM) (cf_64_0 cM), gtP_q (ck_65 cM) (cf_65_0 cM), jn_v, if_neg (show ¬ iI k < 0 from lsI_n (y := 0) rfl li_0 (by omega)), gtI_q (ck_66 cM) h1, if_pos (show iI k ≤ iI n from leI_p rfl rfl (by omega)), gtI_q (ck_66 cM) h1, ptI_q (ck_66 cM) (sbI rfl rfl), gtI_q (M := sI Mc 66 1 (iI (n - k))) (ck_66 cM) sI_eq]
    · rw [eR]
      unfold c186
      rw [gtI_q (rk_160 rM) h2, cI_e q, if_neg n10, gtI_q (rk_160 rM) h2, ptI_q (rk_160 rM) (sbI rfl rfl), gtI_q (M := sI Mr 160 1 (iI (n - k))) (rk_160 rM) sI_eq]
  · rw [if_neg hk] at q
    refine ⟨-1, Mc, Mr, ?_, ?_, Or.inl ⟨rfl, rfl⟩⟩
    · rw [eC]
      unfold c129
      rw [gtP_q (ck_64 cM) (cf_64_0 cM), gtP_q (ck_65 cM) (cf_65_0 cM), jn_v]
      by_cases k0 : k < 0
      · rw [if_pos (show iI k < 0 from lsI_p (y := 0) rfl li_0 (by omega)), jv_e]
      · rw [if_neg (show ¬ iI k < 0 from lsI_n (y := 0) rfl li_0 (by omega)), gtI_q (ck_66 cM) h1, if_neg (show ¬ iI k ≤ iI n from leI_n rfl rfl (by omega)), jv_e]
    · rw [eR]
      unfold c186
      rw [gtI_q (rk_160 rM) h2, cI_e q, if_pos (show iI 0 = 0 from rfl)]
theorem steps_pair (hdl : 1 ≤ dl) (hd : 2 ≤ d) (cM : CT Mc) (rM : RT Mr) (h1 : Mc.1 88 1 = iI sl) (h2 : Mr.1 160 77 = iI sl) (hv1 : v1 = iI k) (bk : -2147483648 ≤ k ∧ k ≤ 2147483647) : ∃ r Mc' Mr', runX dl 137 [va_rf (some 64), .int v1] Mc = some (.int r, Mc') ∧ runX d 268 [va_rf (some 160), .int v1] Mr = some (.int r, Mr') ∧ ((Mc' = Mc ∧ Mr' = Mr) ∨ ((1 ≤ k ∧ k ≤ 1000) ∧ Mc' = sI Mc 88 1 (iI k) ∧ Mr' = sI Mr 160 77 (iI k))) := by
  obtain ⟨dl, rfl⟩ : ∃ e, dl = e + 1 := ⟨dl - 1, by omega⟩
  obtain ⟨d, rfl⟩ : ∃ e, d = e + 1 := ⟨d - 1, by omega⟩
  subst hv1
  have n10 : ¬ iI 1 = (0 : Int32) := by decide
  have q := r_in (d := d) (M := Mr) (i := k) (k := 1) (m := 1000) (by omega) bk (by omega) (by omega)
  rw [← li_1, show iI 1000 = (1000 : Int32) from rfl] at q
  have eC : runX (dl + 1) 137 [va_rf (some 64), .int (iI k)] Mc = c137 (runX dl) (some 64) (iI k) Mc := by
    rw [r137]; unfold b137; rw [aR_e, aI_e, aZ_e]
  have eR : runX (d + 1) 268 [va_rf (some 160), .int (iI k)] Mr = c268 (runX d) (some 160) (iI k) Mr := by
    rw [r268]; unfold b268; rw [aR_e, aI_e, aZ_e]
  by_cases hk : 1 ≤ k ∧ k ≤ 1000
  · rw [if_pos hk] at q
    refine ⟨iI sl, sI Mc 88 1 (iI k), sI Mr 160 77 (iI k), ?_, ?_, Or.inr ⟨hk, rfl, rfl⟩⟩
    · rw [eC]
      unfold c137
      rw [jn_v, if_neg (show ¬ iI k < (1 : Int32) from lsI_n (y := 1) rfl li_1 (by omega)), if_pos (show iI k ≤ (1000 : Int32) from leI_p (y := 1000) rfl rfl (by omega)), gtP_q (ck_64 cM) (cf_64_2 cM), gtI_q (ck_88 cM) h1, gtP_q (ck_64 cM) (cf_64_2 cM), ptI_q (ck_88 cM) rfl]
    · rw [eR]
      unfold c268
      rw [cI_e q, if_neg n10, gtI_q (rk_160 rM) h2, ptI_q (rk_160 rM) rfl]
  · rw [if_neg hk] at q
    refine ⟨-1, Mc, Mr, ?_, ?_, Or.inl ⟨rfl, rfl⟩⟩
    · rw [eC]
      unfold c137
      rw [jn_v]
      by_cases k0 : k < 1
      · rw [if_pos (show iI k < (1 : Int32) from lsI_p (y := 1) rfl li_1 (by omega)), jv_e]
      · rw [if_neg (show ¬ iI k < (1 : Int32) from lsI_n (y := 1) rfl li_1 (by omega)), if_neg (show ¬ iI k ≤ (1000 : Int32) from leI_n (y := 1000) rfl rfl (by omega)), jv_e]
    · rw [eR]
      unfold c268
      rw [cI_e q, if_pos (show iI 0 = 0 from rfl)]
theorem seed_pair (hdl : 1 ≤ dl) (hd : 1 ≤ d) (cM : CT Mc) (rM : RT Mr) (h : Mc.1 88 2 = Mr.1 160 78) : ∃ r, runX dl 138 [va_rf (some 64), .int v1] Mc = some (.int r, sI Mc 88 2 v1) ∧ runX d 269 [va_rf (some 160), .int v1] Mr = some (.int r, sI Mr 160 78 v1) := by
  obtain ⟨dl, rfl⟩ : ∃ e, dl = e + 1 := ⟨dl - 1, by omega⟩
  obtain ⟨d, rfl⟩ : ∃ e, d = e + 1 := ⟨d - 1, by omega⟩
  refine ⟨Mr.1 160 78, ?_, ?_⟩
  · rw [r138]; unfold b138; rw [aR_e, aI_e, aZ_e]
    unfold c138
    rw [gtP_q (ck_64 cM) (cf_64_2 cM), gtI_q (ck_88 cM) h, gtP_q (ck_64 cM) (cf_64_2 cM), ptI_e (ck_88 cM)]
  · rw [r269]; unfold b269; rw [aR_e, aI_e, aZ_e]
    unfold c269
    rw [gtI_q (rk_160 rM) rfl, ptI_e (rk_160 rM)]
theorem swap_pair {Od : Int → Int} (hdl : 5 ≤ dl) (hd : 4 ≤ d) (hP : hoP o) (hC : HC LL xs o ow sl Mc) (hR : HR o sl Mr) (hO : 0 ≤ p → p < oN o → odK Od ((gR (oP o p)).1 3 0 0).toNat ∧ odO Od ((gR (oP o p)).1 3 0 0).toNat ∧ orB o p Od Mc Mr) (hv1 : v1 = iI p) (hv2 : v2 = iI k) (hv3 : v3 = iI m) (bp : -2147483648 ≤ p ∧ p ≤ 2147483647) (bk : -2147483648 ≤ k ∧ k ≤ 2147483647) (bm : -2147483648 ≤ m ∧ m ≤ 2147483647) : ∃ r Mc' Mr', runX dl 139 [va_rf (some 64), .int v1, .int v2, .int v3] Mc = some (.int r, Mc') ∧ runX d 270 [va_rf (some 160), .int v1, .int v2, .int v3] Mr = some (.int r, Mr') ∧ ((Mc' = Mc ∧ Mr' = Mr) ∨ ∃ Od', (0 ≤ p ∧ p < oN o) ∧ odK Od' ((gR (oP o p)).1 3 0 0).toNat ∧ odO Od' ((gR (oP o p)).1 3 0 0).toNat ∧ orB o p Od' Mc' Mr' ∧ FG (fun a j => a = gX (oP o p) + 6) Mc Mc' ∧ (Mc'.2.2.2 = Mc.2.2.2 ∧ Mc'.2.1 = Mc.2.1) ∧ FG (fun a j => a = 183 ∧ 16 * p ≤ j ∧ j < 16 * p + 16) Mr Mr' ∧ Mr'.2.2.2 = Mr.2.2.2 ∧ Mr'.2.1 = Mr.2.1) := by
  obtain ⟨dl, rfl⟩ : ∃ e, dl = e + 1 := ⟨dl - 1, by omega⟩
  obtain ⟨d, rfl⟩ : ∃ e, d = e + 1 := ⟨d - 1, by omega⟩
  subst hv1; subst hv2; subst hv3
  have cM := hC.1.1.1
  have rM := hR.1.1.1
  have l16 : (16 : Int32) = iI 16 := rfl
  have n10 : ¬ iI 1 = (0 : Int32) := by decide
  obtain ⟨e1, -⟩ := pk_two (dl := dl) (d := d) (p := p) (by omega) (by omega) hP hC hR bp
  obtain ⟨-, e2⟩ := ck_two (dl := dl + 1) (d := d) (p := p) (k := k) (by omega) (by omega) hP hC hR bp bk
  obtain ⟨-, e3⟩ := ck_two (dl := dl + 1) (d := d) (p := p) (k := m) (by omega) (by omega) hP hC hR bp bm
  have eC : runX (dl + 1) 139 [va_rf (some 64), .int (iI p), .int (iI k), .int (iI m)] Mc = c139 (runX dl) (some 64) (iI p) (iI k) (iI m) Mc := by
    rw [r139]; unfold b139; rw [aR_e, aI_e, aI_e, aI_e, aZ_e]
  have eR : runX (d + 1) 270 [va_rf (some 160), .int (iI p), .int (iI k), .int (iI m)] Mr = c270 (runX d) (some 160) (iI p) (iI k) (iI m) Mr := by
    rw [r270]; unfold b270; rw [aR_e, aI_e, aI_e, aI_e, aZ_e]
  by_cases hp : 0 ≤ p ∧ p < oN o
  · rw [if_pos hp] at e1
    obtain ⟨⟨⟨o1, o2, o3⟩, o4, o6, o9, o10, o11, o12⟩, hPA, ⟨k6, k16, k17⟩, hLs, hTT, -⟩ := hC.1.2.1 p hp.1 hp.2
    obtain ⟨q1, q2, q3, q4⟩ := pk_lo hP hp
    have p8 := hP.1
    obtain ⟨nc, hnc⟩ : ∃ nc, nc = (gR (oP o p)).1 3 0 0 := ⟨_, rfl⟩
    have k6' : Mc.2.2.2[gX (oP o p) + 6]? = some (100, nc.toNat) := by rw [hnc]; exact k6
    have tn : ((nc.toNat : Nat) : Int) = nc := Int.toNat_of_nonneg (by omega)
    by_cases hv : (0 ≤ k ∧ k < nc) ∧ 0 ≤ m ∧ m < nc
    · obtain ⟨hk, hm⟩ := hv
      obtain ⟨h1, h2, h3⟩ := hO hp.1 hp.2
      rw [if_pos ⟨hp, by omega, by omega⟩] at e2 e3
      rw [← hnc] at h1 h2
      have ok := h3 k hk.1 (by omega)
      have om := h3 m hm.1 (by omega)
      obtain ⟨A1, hA1⟩ : ∃ X, X = sI Mc (gX (oP o p) + 6) k.toNat (iI (Od m)) := ⟨_, rfl⟩
      obtain ⟨A2, hA2⟩ : ∃ X, X = sI A1 (gX (oP o p) + 6) m.toNat (iI (Od k)) := ⟨_, rfl⟩
      obtain ⟨B1, hB1⟩ : ∃ X, X = sI Mr 183 (16 * p + k).toNat (iI (Od m)) := ⟨_, rfl⟩
      obtain ⟨B2, hB2⟩ : ∃ X, X = sI B1 183 (16 * p + m).toNat (iI (Od k)) := ⟨_, rfl⟩
      have a2 : ∀ i : Int, 0 ≤ i → i < nc → A2.1 (gX (oP o p) + 6) i.toNat = iI (if i = k then (if k = m then Od k else Od m) else if i = m then Od k else Od i) := fun i u w => by
        rw [hA2, hA1]
        by_cases z : i = m
        · rw [sI_eqj (by omega)]
          by_cases z2 : i = k
          · rw [if_pos z2, if_pos (by omega)]
          · rw [if_neg z2, if_pos z]
        · rw [sI_nej (by omega)]
          by_cases z2 : i = k
          · rw [sI_eqj (by omega), if_pos z2, if_neg (by omega)]
          · rw [sI_nej (by omega), if_neg z2, if_neg z]; exact (h3 i u (by omega)).1
      have b2 : ∀ i : Int, 0 ≤ i → i < nc → B2.1 183 (16 * p + i).toNat = iI (if i = k then (if k = m then Od k else Od m) else if i = m then Od k else Od i) := fun i u w => by
        rw [hB2, hB1]
        by_cases z : i = m
        · rw [sI_eqj (by omega)]
          by_cases z2 : i = k
          · rw [if_pos z2, if_pos (by omega)]
          · rw [if_neg z2, if_pos z]
        · rw [sI_nej (by omega)]
          by_cases z2 : i = k
          · rw [sI_eqj (by omega), if_pos z2, if_neg (by omega)]
          · rw [sI_nej (by omega), if_neg z2, if_neg z]; exact (h3 i u (by omega)).2
      have w : ∀ i : Int, (if i = k then (if k = m then Od k else Od m) else if i = m then Od k else Od i) = Od (if i = k then m else if i = m then k else i) := fun i => by
        by_cases z : i = k
        · rw [if_pos z, if_pos z]
          by_cases z2 : k = m
          · rw [if_pos z2, z2]
          · rw [if_neg z2]
        · rw [if_neg z, if_neg z]
          by_cases z2 : i = m
          · rw [if_pos z2, if_pos z2]
          · rw [if_neg z2, if_neg z2]
      have fC : FG (fun a j => a = gX (oP o p) + 6) Mc A2 := by
        rw [hA2, hA1]
        exact ((FG.r (Z := fun a j => a = gX (oP o p) + 6) hC.1.1.2.2).sI rfl).sI rfl
      have fR : FG (fun a j => a = 183 ∧ 16 * p ≤ j ∧ j < 16 * p + 16) Mr B2 := by
        rw [hB2, hB1]
        exact ((FG.r (Z := fun a j => a = 183 ∧ 16 * p ≤ j ∧ j < 16 * p + 16) hR.1.1.2).sI ⟨rfl, by omega, by omega⟩).sI ⟨rfl, by omega, by omega⟩
      refine ⟨A2.1 (gX (oP o p) + 6) k.toNat, A2, B2, ?_, ?_, Or.inr ⟨fun i => Od (if i = k then m else if i = m then k else i), hp, ?_, ?_, ?_, fC, ?_, fR, ?_⟩⟩
      · rw [eC]
        unfold c139
        rw [vC_e (ck_64 cM), cP_e e1, jn_v, if_neg (show ¬ some (gX (oP o p)) = none by simp), if_neg (show ¬ iI k < 0 from lsI_n (y := 0) rfl li_0 (by omega)), gtP_q o1 o10, aln_q' k6', show ((nc.toNat : Nat) : Int) = nc from tn, if_neg (show ¬ iI nc ≤ iI k from leI_n rfl rfl (by omega)), if_neg (show ¬ iI m < 0 from lsI_n (y := 0) rfl li_0 (by omega)), gtP_q o1 o10, aln_q' k6', show ((nc.toNat : Nat) : Int) = nc from tn, if_pos (show iI m < iI nc from lsI_p rfl rfl (by omega)), gtP_q o1 o10, alI_q (z := k) k6' rfl (by omega) ok.1, gtP_q o1 o10, gtP_q o1 o10, alI_q (z := m) k6' rfl (by omega) om.1, asI_q (z := k) k6' rfl (by omega) rfl, ← hA1]
        have t1 : A1.2.2.2 = Mc.2.2.2 := by rw [hA1]; rfl
        have t2 : A1.2.2.1 = Mc.2.2.1 := by rw [hA1]; rfl
        have o1' : A1.2.2.2[gX (oP o p)]? = some (6, 18) := by rw [t1]; exact o1
        have k6a : A1.2.2.2[gX (oP o p) + 6]? = some (100, nc.toNat) := by rw [t1]; exact k6'
        have o10' : A1.2.2.1 (gX (oP o p)) 10 = some (gX (oP o p) + 6) := by rw [t2]; exact o10
        rw [gtP_q o1' o10', asI_q (z := m) k6a rfl (by omega) rfl, ← hA2]
        have t3 : A2.2.2.2 = A1.2.2.2 := by rw [hA2]; rfl
        have t4 : A2.2.2.1 = A1.2.2.1 := by rw [hA2]; rfl
        rw [gtP_q (M := A2) (t3.symm ▸ o1') (t4.symm ▸ o10'), alI_q (M := A2) (z := k) (t3.symm ▸ k6a) rfl (by omega) rfl]
      · rw [eR]
        unfold c270
        have r1 : RT B1 := by rw [hB1]; exact rM
        have r2 : RT B2 := by rw [hB2]; exact r1
        rw [vC_e (rk_160 rM), cI_e e2, jn_v, if_neg n10, vC_e (rk_160 rM), cI_e e3, if_neg n10, gtP_q (rk_160 rM) (rf_24 rM), alI_q (n := 128) (z := 16 * p + k) (rk_183 rM) (adI (mlI l16 rfl) rfl) (by omega) ok.2, gtP_q (rk_160 rM) (rf_24 rM), gtP_q (rk_160 rM) (rf_24 rM), alI_q (n := 128) (z := 16 * p + m) (rk_183 rM) (adI (mlI l16 rfl) rfl) (by omega) om.2, asI_q (n := 128) (z := 16 * p + k) (rk_183 rM) (adI (mlI l16 rfl) rfl) (by omega) rfl, ← hB1, gtP_q (rk_160 r1) (rf_24 r1), asI_q (n := 128) (z := 16 * p + m) (rk_183 r1) (adI (mlI l16 rfl) rfl) (by omega) rfl, ← hB2, gtP_q (rk_160 r2) (rf_24 r2), alI_q (n := 128) (z := 16 * p + k) (rk_183 r2) (adI (mlI l16 rfl) rfl) (by omega) ((b2 k hk.1 hk.2).trans (a2 k hk.1 hk.2).symm)]
      · rw [← hnc]; exact h1.sw (by omega) (by omega)
      · rw [← hnc]; exact h2.sw (by omega) (by omega)
      · exact fun i u z => ⟨(a2 i u (by omega)).trans (by rw [w]), (b2 i u (by omega)).trans (by rw [w])⟩
      · rw [hA2, hA1]; exact ⟨rfl, rfl⟩
      · rw [hB2, hB1]; exact ⟨rfl, rfl⟩
    · refine ⟨-1, Mc, Mr, ?_, ?_, Or.inl ⟨rfl, rfl⟩⟩
      · rw [eC]
        unfold c139
        rw [vC_e (ck_64 cM), cP_e e1, jn_v, if_neg (show ¬ some (gX (oP o p)) = none by simp)]
        by_cases k0 : k < 0
        · rw [if_pos (show iI k < 0 from lsI_p (y := 0) rfl li_0 (by omega)), jv_e]
        rw [if_neg (show ¬ iI k < 0 from lsI_n (y := 0) rfl li_0 (by omega)), gtP_q o1 o10, aln_q' k6', show ((nc.toNat : Nat) : Int) = nc from tn]
        by_cases k1 : nc ≤ k
        · rw [if_pos (show iI nc ≤ iI k from leI_p rfl rfl (by omega)), jv_e]
        rw [if_neg (show ¬ iI nc ≤ iI k from leI_n rfl rfl (by omega))]
        by_cases m0 : m < 0
        · rw [if_pos (show iI m < 0 from lsI_p (y := 0) rfl li_0 (by omega)), jv_e]
        rw [if_neg (show ¬ iI m < 0 from lsI_n (y := 0) rfl li_0 (by omega)), gtP_q o1 o10, aln_q' k6', show ((nc.toNat : Nat) : Int) = nc from tn, if_neg (show ¬ iI m < iI nc from lsI_n rfl rfl (by omega)), jv_e]
      · rw [eR]
        unfold c270
        rw [vC_e (rk_160 rM), cI_e e2, jn_v]
        by_cases hk : 0 ≤ k ∧ k < nc
        · rw [if_pos (show (0 ≤ p ∧ p < oN o) ∧ 0 ≤ k ∧ k < (gR (oP o p)).1 3 0 0 from ⟨hp, by omega, by omega⟩), if_neg n10, vC_e (rk_160 rM), cI_e e3, if_neg (show ¬ ((0 ≤ p ∧ p < oN o) ∧ 0 ≤ m ∧ m < (gR (oP o p)).1 3 0 0) by omega), if_pos (show iI 0 = 0 from rfl), jv_e]
        · rw [if_neg (show ¬ ((0 ≤ p ∧ p < oN o) ∧ 0 ≤ k ∧ k < (gR (oP o p)).1 3 0 0) by omega), if_pos (show iI 0 = 0 from rfl), jv_e]
  · rw [if_neg hp] at e1
    rw [if_neg (fun z => hp z.1)] at e2
    refine ⟨-1, Mc, Mr, ?_, ?_, Or.inl ⟨rfl, rfl⟩⟩
    · rw [eC]
      unfold c139
      rw [vC_e (ck_64 cM), cP_e e1, jn_v, if_pos rfl, jv_e]
    · rw [eR]
      unfold c270
      rw [vC_e (rk_160 rM), cI_e e2, jn_v, if_pos (show iI 0 = 0 from rfl), jv_e]
end S9ea
