/-! which parcel, which CASE: both -/
/-- the list of parcels; whose cells are whose: 10 + p the parcel's -/
def plC (ow : Nat → Int) (o : HO) (M : Mem) : Prop := Lf ow 87 1 (fun p => gX (oP o p)) (oN o) M ∧ ∀ p, 0 ≤ p → p < oN o → ∀ a, gL (oP o p) ≤ a → a < gX (oP o p) + 18 → ow a = 10 + p
section S9cf
variable {d : Nat} {o : HO} {M M' M2 : Mem} {LL a j : Nat} {xs : Nat → Int32} {ow : Nat → Int} {c p i n b : Int} {v v1 v2 v3 w : Int32}
theorem rr184 (hd : 1 ≤ d) (h1 : v1 = iI i) (h2 : v2 = iI b) (h3 : v3 = iI c) (b1 : -2147483648 ≤ i ∧ i ≤ 2147483647) (b2 : -2147483648 ≤ b ∧ b ≤ 2147483647) (b3 : -2147483648 ≤ c ∧ c ≤ 2147483647) : runX d 184 [.int v1, .int v2, .int v3] M = some (.int (iI (if b ≤ i ∧ i ≤ c then 1 else 0)), M) := by
  obtain ⟨d, rfl⟩ : ∃ e, d = e + 1 := ⟨d - 1, by omega⟩
  rw [r184]; unfold b184; rw [aI_e, aI_e, aI_e, aZ_e]; unfold c184
  rw [jn_v, jn_v]
  by_cases y : i < b
  · rw [if_pos (lsI_p h1 h2 (by omega)), if_neg (by omega), jv_e, jv_e, rtZ_e (Or.inl rfl)]; rfl
  · rw [if_neg (lsI_n h1 h2 (by omega))]
    by_cases z : c < i
    · rw [if_pos (lsI_p h3 h1 (by omega)), if_neg (by omega), jv_e, jv_e, rtZ_e (Or.inl rfl)]; rfl
    · rw [if_neg (lsI_n h3 h1 (by omega)), if_pos (by omega), jv_e, rtZ_e (Or.inr rfl)]; rfl
theorem zr255 (hd : 2 ≤ d) (hR : RT M) (h2 : M.1 160 2 = iI n) (hn : 0 ≤ n ∧ n ≤ 1000) (hv : v = iI p) (hp : -2147483648 ≤ p ∧ p ≤ 2147483647) : runX d 255 [va_rf (some 160), .int v] M = some (.int (iI (if 0 ≤ p ∧ p < n then 1 else 0)), M) := by
  obtain ⟨d, rfl⟩ : ∃ e, d = e + 1 := ⟨d - 1, by omega⟩
  rw [r255]; unfold b255; rw [aR_e, aI_e, aZ_e]; unfold c255
  rw [gtI_q (rk_160 hR) h2, cI_e (rr184 (by omega) hv li_0 (sbI rfl li_1) hp (by decide) (by omega))]
  by_cases y : 0 ≤ p ∧ p < n
  · rw [if_pos (by omega), if_pos y]; exact rtZ_q rfl (by decide)
  · rw [if_neg (by omega), if_neg y]; exact rtZ_q rfl (by decide)
theorem zr256 (hd : 3 ≤ d) (hR : RT M) (h2 : M.1 160 2 = iI n) (hn : 0 ≤ n ∧ n ≤ 8) (hv : v = iI p) (hp : -2147483648 ≤ p ∧ p ≤ 2147483647) (hw : w = iI c) (hc : -2147483648 ≤ c ∧ c ≤ 2147483647) (h176 : 0 ≤ p → p < n → M.1 176 p.toNat = iI b ∧ 0 ≤ b ∧ b ≤ 16) : runX d 256 [va_rf (some 160), .int v, .int w] M = some (.int (iI (if (0 ≤ p ∧ p < n) ∧ 0 ≤ c ∧ c < b then 1 else 0)), M) := by
  obtain ⟨d, rfl⟩ : ∃ e, d = e + 1 := ⟨d - 1, by omega⟩
  rw [r256]; unfold b256; rw [aR_e, aI_e, aI_e, aZ_e]; unfold c256
  rw [vC_e (rk_160 hR), cI_e (zr255 (by omega) hR h2 (by omega) hv hp), jn_v, jn_v]
  by_cases y : 0 ≤ p ∧ p < n
  · obtain ⟨q1, q2⟩ := h176 y.1 y.2
    rw [if_pos y, if_neg (show ¬ iI 1 = 0 by decide), gtP_q (rk_160 hR) (rf_17 hR), alI_q (rk_176 hR) hv (by omega) q1, cI_e (rr184 (by omega) hw li_0 (sbI rfl li_1) hc (by decide) (by omega))]
    by_cases z : 0 ≤ c ∧ c < b
    · rw [if_pos (show 0 ≤ c ∧ c ≤ b - 1 by omega), if_neg (show ¬ iI 1 = 0 by decide), if_pos (show (0 ≤ p ∧ p < n) ∧ 0 ≤ c ∧ c < b from ⟨y, z⟩), jv_e, rtZ_e (Or.inr rfl)]; rfl
    · rw [if_neg (show ¬ (0 ≤ c ∧ c ≤ b - 1) by omega), if_pos (show iI 0 = 0 from rfl), if_neg (show ¬ ((0 ≤ p ∧ p < n) ∧ 0 ≤ c ∧ c < b) from fun z2 => z z2.2), jv_e, jv_e, rtZ_e (Or.inl rfl)]; rfl
  · rw [if_neg y, if_pos (show iI 0 = 0 from rfl), if_neg (show ¬ ((0 ≤ p ∧ p < n) ∧ 0 ≤ c ∧ c < b) from fun z => y z.1), jv_e, jv_e, rtZ_e (Or.inl rfl)]; rfl
theorem zc167 (hd : 4 ≤ d) (hC : CT M) (h : plC ow o M) (hO : ∀ p, 0 ≤ p → p < oN o → M.2.2.2[gX (oP o p)]? = some (6, 18)) (hv : v = iI p) (hp : -2147483648 ≤ p ∧ p ≤ 2147483647) : runX d 167 [va_rf (some 64), .int v] M = some (va_rf (if 0 ≤ p ∧ p < oN o then some (gX (oP o p)) else none), M) := by
  obtain ⟨d, rfl⟩ : ∃ e, d = e + 1 := ⟨d - 1, by omega⟩
  have hL := h.1
  have hn := hL.1.2.2
  rw [r167]; unfold b167; rw [aR_e, aI_e, aZ_e]; unfold c167
  rw [jn_v, jn_v]
  by_cases y : p < 0
  · rw [if_pos (lsI_p hv li_0 (by omega)), if_neg (by omega), jv_e, jv_e]
  · rw [if_neg (lsI_n hv li_0 (by omega)), gtP_q (ck_64 hC) (cf_64_1 hC), vC_e hL.1.1, cI_e (lf_size (by omega) hL)]
    by_cases z : p < oN o
    · rw [if_pos (lsI_p hv rfl (by omega)), gtP_q (ck_64 hC) (cf_64_1 hC), vC_e hL.1.1, cP_e (lf_get (by omega) hL hv (by omega)), cst_e (hO p (by omega) z), if_pos (show 0 ≤ p ∧ p < oN o by omega), jv_e]
    · rw [if_neg (lsI_n hv rfl (by omega)), if_neg (show ¬ (0 ≤ p ∧ p < oN o) by omega), jv_e, jv_e]
/-- a part of a list, or none -/
theorem zpartn {ow' : Nat → Int} {C : Int → Nat} {L : Nat} {r : Int} (hd : 4 ≤ d) (h : Ls M ow' L C n r) (hv : v = iI i) (hi : -2147483648 ≤ i ∧ i ≤ 2147483647) (hk : ∀ j, 0 ≤ j → j < n → M.2.2.2[C j]? = some (8, 9)) : runX d 168 [va_rf (some L), .int v] M = some (va_rf (if 0 ≤ i ∧ i < n then some (C i) else none), M) := by
  by_cases y : 0 ≤ i ∧ i < n
  · rw [if_pos y]; exact zpart hd h hv y (hk i y.1 y.2)
  · obtain ⟨d, rfl⟩ : ∃ e, d = e + 1 := ⟨d - 1, by omega⟩
    have ht : n ≤ 109 := by
      obtain ⟨-, -, -, D, cap, -, h8, h9, -⟩ := h
      omega
    have h0 := h.1.2.2.2
    rw [if_neg y, r168]; unfold b168; rw [aR_e, aI_e, aZ_e]; unfold c168
    rw [jn_v, jn_v]
    by_cases z : i < 0
    · rw [if_pos (lsI_p hv li_0 (by omega)), jv_e, jv_e]
    · rw [if_neg (lsI_n hv li_0 (by omega)), vC_e h.1.2.1, cI_e (ls_size (by omega) h), if_neg (lsI_n hv rfl (by omega)), jv_e, jv_e]
/-- a CASE of a parcel -/
theorem zc169 (hd : 5 ≤ d) (hP : hoP o) (hC : hoC LL xs o M) (hp : 0 ≤ p ∧ p < oN o) (hv : v = iI c) (hc : -2147483648 ≤ c ∧ c ≤ 2147483647) : runX d 169 [va_rf (some (gX (oP o p))), .int v] M = some (va_rf (if 0 ≤ c ∧ c < (gR (oP o p)).1 3 0 0 then some (hEC (gH (oP o p)) 3 c) else none), M) := by
  obtain ⟨d, rfl⟩ : ∃ e, d = e + 1 := ⟨d - 1, by omega⟩
  obtain ⟨⟨⟨o1, o2, o3⟩, o4, -⟩, -, -, hL, hT, -⟩ := hC.2.1 p hp.1 hp.2
  have n3 := pk_lo hP hp
  rw [r169]; unfold b169; rw [aR_e, aI_e, aZ_e]; unfold c169
  rw [jn_v, if_neg (show ¬ some (gX (oP o p)) = none by simp), gtP_q o1 (o4 3 (by decide) (by decide)), cP_e (zpartn (by omega) (hL 3 (by decide) (by decide)) hv hc fun j a b => (hT 3 (by decide) (by decide) j a b).1.1), n3.2.2.2, jv_e]
theorem zc169n (hd : 1 ≤ d) : runX d 169 [va_rf none, .int v] M = some (va_rf none, M) := by
  obtain ⟨d, rfl⟩ : ∃ e, d = e + 1 := ⟨d - 1, by omega⟩
  rw [r169]; unfold b169; rw [aR_e, aI_e, aZ_e]; unfold c169
  rw [jn_v, if_pos rfl, jv_e]
theorem hoC.ob (h : hoC LL xs o M) : ∀ p, 0 ≤ p → p < oN o → M.2.2.2[gX (oP o p)]? = some (6, 18) := fun p a b => (h.2.1 p a b).1.1.1
end S9cf
