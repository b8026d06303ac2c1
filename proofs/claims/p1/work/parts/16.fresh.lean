/-- what the trivial calls of the class see of a fresh object -/
def FrC (M : Mem) : Prop := M.2.2.2[64]? = some (12, 19) ∧ M.2.2.1 64 0 = some 65 ∧ M.2.2.2[65]? = some (7, 20) ∧ M.1 65 10 = 0 ∧ M.2.2.1 64 1 = some 87 ∧ M.2.2.2[87]? = some (0, 3) ∧ M.1 87 2 = 0 ∧ M.2.2.1 64 2 = some 88 ∧ M.2.2.2[88]? = some (4, 22) ∧ M.2.2.1 64 4 = some 140 ∧ M.2.2.2[140]? = some (0, 3) ∧ M.1 140 2 = 0 ∧ M.2.2.1 64 5 = some 141 ∧ M.2.2.2[141]? = some (0, 3) ∧ M.1 141 2 = 0 ∧ M.1 64 7 = 0 ∧ M.1 64 10 = 0 ∧ M.1 64 13 = -2 ∧ M.1 64 16 = 0 ∧ M.2.2.1 88 7 = some 90 ∧ M.2.2.2[90]? = some (112, 8) ∧ (∀ i, i < 8 → M.2.2.1 90 i = some (108 + 4 * i) ∧ M.2.2.2[108 + 4 * i]? = some (10, 9) ∧ M.1 (108 + 4 * i) 0 = -2)
theorem FrC.x {M : Mem} (h : FrC M) : M.2.2.2[64]? = some (12, 19) := h.1
theorem FrC.p0 {M : Mem} (h : FrC M) : M.2.2.1 64 0 = some 65 := h.2.1
theorem FrC.k65 {M : Mem} (h : FrC M) : M.2.2.2[65]? = some (7, 20) := h.2.2.1
theorem FrC.i65 {M : Mem} (h : FrC M) : M.1 65 10 = 0 := h.2.2.2.1
theorem FrC.p1 {M : Mem} (h : FrC M) : M.2.2.1 64 1 = some 87 := h.2.2.2.2.1
theorem FrC.k87 {M : Mem} (h : FrC M) : M.2.2.2[87]? = some (0, 3) := h.2.2.2.2.2.1
theorem FrC.i87 {M : Mem} (h : FrC M) : M.1 87 2 = 0 := h.2.2.2.2.2.2.1
theorem FrC.p2 {M : Mem} (h : FrC M) : M.2.2.1 64 2 = some 88 := h.2.2.2.2.2.2.2.1
theorem FrC.k88 {M : Mem} (h : FrC M) : M.2.2.2[88]? = some (4, 22) := h.2.2.2.2.2.2.2.2.1
theorem FrC.p4 {M : Mem} (h : FrC M) : M.2.2.1 64 4 = some 140 := h.2.2.2.2.2.2.2.2.2.1
theorem FrC.k140 {M : Mem} (h : FrC M) : M.2.2.2[140]? = some (0, 3) := h.2.2.2.2.2.2.2.2.2.2.1
theorem FrC.i140 {M : Mem} (h : FrC M) : M.1 140 2 = 0 := h.2.2.2.2.2.2.2.2.2.2.2.1
theorem FrC.p5 {M : Mem} (h : FrC M) : M.2.2.1 64 5 = some 141 := h.2.2.2.2.2.2.2.2.2.2.2.2.1
theorem FrC.k141 {M : Mem} (h : FrC M) : M.2.2.2[141]? = some (0, 3) := h.2.2.2.2.2.2.2.2.2.2.2.2.2.1
theorem FrC.i141 {M : Mem} (h : FrC M) : M.1 141 2 = 0 := h.2.2.2.2.2.2.2.2.2.2.2.2.2.2.1
theorem FrC.i7 {M : Mem} (h : FrC M) : M.1 64 7 = 0 := h.2.2.2.2.2.2.2.2.2.2.2.2.2.2.2.1
theorem FrC.i10 {M : Mem} (h : FrC M) : M.1 64 10 = 0 := h.2.2.2.2.2.2.2.2.2.2.2.2.2.2.2.2.1
theorem FrC.i13 {M : Mem} (h : FrC M) : M.1 64 13 = -2 := h.2.2.2.2.2.2.2.2.2.2.2.2.2.2.2.2.2.1
theorem FrC.i16 {M : Mem} (h : FrC M) : M.1 64 16 = 0 := h.2.2.2.2.2.2.2.2.2.2.2.2.2.2.2.2.2.2.1
theorem FrC.p88 {M : Mem} (h : FrC M) : M.2.2.1 88 7 = some 90 := h.2.2.2.2.2.2.2.2.2.2.2.2.2.2.2.2.2.2.2.1
theorem FrC.k90 {M : Mem} (h : FrC M) : M.2.2.2[90]? = some (112, 8) := h.2.2.2.2.2.2.2.2.2.2.2.2.2.2.2.2.2.2.2.2.1
theorem FrC.tw {M : Mem} (h : FrC M) : ∀ i, i < 8 → M.2.2.1 90 i = some (108 + 4 * i) ∧ M.2.2.2[108 + 4 * i]? = some (10, 9) ∧ M.1 (108 + 4 * i) 0 = -2 := h.2.2.2.2.2.2.2.2.2.2.2.2.2.2.2.2.2.2.2.2.2
/-- what the trivial calls of the reference see -/
def FrR (M : Mem) : Prop := M.2.2.2[160]? = some (13, 157) ∧ M.1 160 2 = 0 ∧ M.1 160 65 = 0 ∧ M.1 160 109 = 0 ∧ M.1 160 129 = 0 ∧ M.1 160 138 = 0 ∧ M.1 160 148 = 0 ∧ M.1 160 151 = 0 ∧ M.1 160 154 = 0 ∧ M.2.2.1 160 112 = some 227 ∧ M.2.2.2[227]? = some (100, 8) ∧ (∀ i, i < 8 → M.1 227 i = -1)
theorem FrR.y {M : Mem} (h : FrR M) : M.2.2.2[160]? = some (13, 157) := h.1
theorem FrR.i2 {M : Mem} (h : FrR M) : M.1 160 2 = 0 := h.2.1
theorem FrR.i65 {M : Mem} (h : FrR M) : M.1 160 65 = 0 := h.2.2.1
theorem FrR.i109 {M : Mem} (h : FrR M) : M.1 160 109 = 0 := h.2.2.2.1
theorem FrR.i129 {M : Mem} (h : FrR M) : M.1 160 129 = 0 := h.2.2.2.2.1
theorem FrR.i138 {M : Mem} (h : FrR M) : M.1 160 138 = 0 := h.2.2.2.2.2.1
theorem FrR.i148 {M : Mem} (h : FrR M) : M.1 160 148 = 0 := h.2.2.2.2.2.2.1
theorem FrR.i151 {M : Mem} (h : FrR M) : M.1 160 151 = 0 := h.2.2.2.2.2.2.2.1
theorem FrR.i154 {M : Mem} (h : FrR M) : M.1 160 154 = 0 := h.2.2.2.2.2.2.2.2.1
theorem FrR.p112 {M : Mem} (h : FrR M) : M.2.2.1 160 112 = some 227 := h.2.2.2.2.2.2.2.2.2.1
theorem FrR.k227 {M : Mem} (h : FrR M) : M.2.2.2[227]? = some (100, 8) := h.2.2.2.2.2.2.2.2.2.2.1
theorem FrR.i227 {M : Mem} (h : FrR M) : ∀ i, i < 8 → M.1 227 i = -1 := h.2.2.2.2.2.2.2.2.2.2.2
section P1
variable {M : Mem} {d : Nat} {v v1 v2 v3 v4 v5 v6 : Int32}
theorem a_346 {a : Nat} (h : M.2.2.2[a]? = some (0, 3)) : runX (d + 1) 346 [va_rf (some a)] M = some (.int (M.1 a 2), M) := by
  rw [r346]; unfold b346; rw [aR_e, aZ_e]; unfold c346; rw [gtI_e h]
theorem a_167 (h : FrC M) : runX (d + 2) 167 [va_rf (some 64), .int v] M = some (va_rf none, M) := by
  rw [r167]; unfold b167; rw [aR_e, aI_e, aZ_e]; unfold c167; rw [jn_e, jn_e]
  by_cases h0 : v < 0
  · rw [if_pos h0]
  · rw [if_neg h0, gtP_e h.x, h.p1, vC_e h.k87, cI_e (a_346 h.k87), h.i87, if_neg h0]
theorem a_171 (h : FrC M) : runX (d + 2) 171 [va_rf (some 64), .int v] M = some (va_rf none, M) := by
  rw [r171]; unfold b171; rw [aR_e, aI_e, aZ_e]; unfold c171; rw [jn_e, jn_e]
  by_cases h0 : v < 0
  · rw [if_pos h0]
  · rw [if_neg h0, gtP_e h.x, h.p5, vC_e h.k141, cI_e (a_346 h.k141), h.i141, if_neg h0]
theorem a_172 (h : FrC M) : runX (d + 2) 172 [va_rf (some 64), .int v] M = some (va_rf none, M) := by
  rw [r172]; unfold b172; rw [aR_e, aI_e, aZ_e]; unfold c172; rw [jn_e, jn_e]
  by_cases h0 : v < 0
  · rw [if_pos h0]
  · rw [if_neg h0, gtP_e h.x, h.p4, vC_e h.k140, cI_e (a_346 h.k140), h.i140, if_neg h0]
theorem a_169 : runX (d + 1) 169 [va_rf none, .int v] M = some (va_rf none, M) := by
  rw [r169]; unfold b169; rw [aR_e, aI_e, aZ_e]; unfold c169; rw [jn_e, if_pos rfl]
theorem tw_none (h : FrC M) {rec : Nat → List Value → Mem → XA} {j28 : Int32 → XA} {j44 : Unit → XA} : ∀ (m k N : Nat), k + m = 8 → m < N → lp (c170_2 rec (some 64) v M j28 j44) N (iI k) = j44 () := by
  intro m
  induction m with
  | zero =>
    intro k N h1 h2
    obtain ⟨N, rfl⟩ : ∃ n, N = n + 1 := ⟨N - 1, by omega⟩
    obtain rfl : k = 8 := by omega
    rw [lp_e]; unfold c170_2; rw [if_pos (by decide +kernel)]
  | succ m ih =>
    intro k N h1 h2
    obtain ⟨N, rfl⟩ : ∃ n, N = n + 1 := ⟨N - 1, by omega⟩
    obtain ⟨t1, t2, t3⟩ := h.tw k (by omega)
    rw [lp_e]
    generalize hK : lp (c170_2 rec (some 64) v M j28 j44) N = K
    unfold c170_2
    have hk : ¬ ((8 : Int32) ≤ iI k) := by rw [lit_8, iI_le (by omega) (by omega) (by omega) (by omega)]; omega
    by_cases h0 : v < 0
    · rw [if_neg hk, if_pos h0]
    · have hv : ¬ (-2 : Int32) = v := by intro e; apply h0; rw [← e]; decide
      rw [if_neg hk, if_neg h0, gtP_e h.x, h.p2, gtP_e h.k88, h.p88, alP_e h.k90 (by omega) (by omega) (by omega), Int.toNat_natCast, t1, gtI_e t2, t3, if_neg hv, lt_e, iI_1, iI_add]
      rw [← hK]
      exact ih (k + 1) N (by omega) (by omega)
theorem a_170 (h : FrC M) : runX (d + 1) 170 [va_rf (some 64), .int v] M = some (va_rf none, M) := by
  rw [r170]; unfold b170; rw [aR_e, aI_e, aZ_e]; unfold c170; rw [jn_e, jn_e]
  exact tw_none h 8 0 4294967296 (by omega) (by omega)
theorem q_133 (h : FrC M) : runX (d + 4) 133 [va_rf (some 64), .int v1, .int v2, .int v3] M = some (.int (-1), M) := by
  rw [r133]; unfold b133; rw [aR_e, aI_e, aI_e, aI_e, aZ_e]; unfold c133; rw [vC_e h.x, cP_e (a_167 h), jn_e, if_pos rfl]; rfl
theorem q_134 (h : FrC M) : runX (d + 4) 134 [va_rf (some 64), .int v1, .int v2, .int v3] M = some (.int (-1), M) := by
  rw [r134]; unfold b134; rw [aR_e, aI_e, aI_e, aI_e, aZ_e]; unfold c134; rw [vC_e h.x, cP_e (a_167 h), cP_e a_169, if_pos rfl]
theorem q_135 (h : FrC M) : runX (d + 4) 135 [va_rf (some 64), .int v1, .int v2, .int v3, .int v4] M = some (.int (-1), M) := by
  rw [r135]; unfold b135; rw [aR_e, aI_e, aI_e, aI_e, aI_e, aZ_e]; unfold c135; rw [vC_e h.x, cP_e (a_167 h), jn_e, if_pos rfl]
theorem q_136 (h : FrC M) : runX (d + 4) 136 [va_rf (some 64), .int v1, .int v2, .int v3] M = some (.int (-1), M) := by
  rw [r136]; unfold b136; rw [aR_e, aI_e, aI_e, aI_e, aZ_e]; unfold c136; rw [vC_e h.x, cP_e (a_167 h), jn_e, if_pos rfl]
theorem q_139 (h : FrC M) : runX (d + 4) 139 [va_rf (some 64), .int v1, .int v2, .int v3] M = some (.int (-1), M) := by
  rw [r139]; unfold b139; rw [aR_e, aI_e, aI_e, aI_e, aZ_e]; unfold c139; rw [vC_e h.x, cP_e (a_167 h), jn_e, if_pos rfl]
theorem q_140 (h : FrC M) : runX (d + 4) 140 [va_rf (some 64), .int v1] M = some (.int (-1), M) := by
  rw [r140]; unfold b140; rw [aR_e, aI_e, aZ_e]; unfold c140; rw [vC_e h.x, cP_e (a_167 h), if_pos rfl]
theorem q_141 (h : FrC M) : runX (d + 4) 141 [va_rf (some 64), .int v1, .int v2, .int v3] M = some (.int (-1), M) := by
  rw [r141]; unfold b141; rw [aR_e, aI_e, aI_e, aI_e, aZ_e]; unfold c141; rw [vC_e h.x, cP_e (a_167 h), cP_e a_169, jn_e, if_pos rfl]
theorem q_142 (h : FrC M) : runX (d + 4) 142 [va_rf (some 64), .int v1, .int v2, .int v3] M = some (.int (-1), M) := by
  rw [r142]; unfold b142; rw [aR_e, aI_e, aI_e, aI_e, aZ_e]; unfold c142; rw [vC_e h.x, cP_e (a_167 h), jn_e, if_pos rfl]
theorem q_143 (h : FrC M) : runX (d + 4) 143 [va_rf (some 64), .int v1, .int v2] M = some (.int (-1), M) := by
  rw [r143]; unfold b143; rw [aR_e, aI_e, aI_e, aZ_e]; unfold c143; rw [vC_e h.x, cP_e (a_167 h), cP_e a_169, if_pos rfl]
theorem q_145 (h : FrC M) : runX (d + 4) 145 [va_rf (some 64), .int v1, .int v2] M = some (.int (-1), M) := by
  rw [r145]; unfold b145; rw [aR_e, aI_e, aI_e, aZ_e]; unfold c145; rw [vC_e h.x, cP_e (a_167 h), jn_e, if_pos rfl]; rfl
theorem q_149 (h : FrC M) : runX (d + 4) 149 [va_rf (some 64), .int v1, .int v2, .int v3] M = some (.int (-1), M) := by
  rw [r149]; unfold b149; rw [aR_e, aI_e, aI_e, aI_e, aZ_e]; unfold c149; rw [vC_e h.x, cP_e (a_167 h), jn_e, if_pos rfl]
theorem q_150 (h : FrC M) : runX (d + 4) 150 [va_rf (some 64), .int v1] M = some (.int (-1), M) := by
  rw [r150]; unfold b150; rw [aR_e, aI_e, aZ_e]; unfold c150; rw [vC_e h.x, cP_e (a_167 h), if_pos rfl]
theorem q_151 (h : FrC M) : runX (d + 4) 151 [va_rf (some 64), .int v1, .int v2, .int v3] M = some (.int (-1), M) := by
  rw [r151]; unfold b151; rw [aR_e, aI_e, aI_e, aI_e, aZ_e]; unfold c151; rw [vC_e h.x, cP_e (a_167 h), cP_e a_169, jn_e, if_pos rfl]
theorem q_152 (h : FrC M) : runX (d + 4) 152 [va_rf (some 64), .int v1, .int v2] M = some (.int (-1), M) := by
  rw [r152]; unfold b152; rw [aR_e, aI_e, aI_e, aZ_e]; unfold c152; rw [vC_e h.x, cP_e (a_167 h), jn_e, if_pos rfl]
theorem q_153 (h : FrC M) : runX (d + 4) 153 [va_rf (some 64), .int v1, .int v2, .int v3] M = some (.int (-1), M) := by
  rw [r153]; unfold b153; rw [aR_e, aI_e, aI_e, aI_e, aZ_e]; unfold c153; rw [vC_e h.x, cP_e (a_167 h), jn_e, if_pos rfl]; rfl
theorem q_160 (h : FrC M) : runX (d + 4) 160 [va_rf (some 64), .int v1, .int v2] M = some (.int (-1), M) := by
  rw [r160]; unfold b160; rw [aR_e, aI_e, aI_e, aZ_e]; unfold c160; rw [vC_e h.x, cP_e (a_167 h), cP_e a_169, if_pos rfl]
theorem q_162 (h : FrC M) : runX (d + 4) 162 [va_rf (some 64), .int v1, .int v2] M = some (.int (-1), M) := by
  rw [r162]; unfold b162; rw [aR_e, aI_e, aI_e, aZ_e]; unfold c162; rw [vC_e h.x, cP_e (a_167 h), cP_e a_169, if_pos rfl]
theorem q_164 (h : FrC M) : runX (d + 4) 164 [va_rf (some 64), .int v1, .int v2] M = some (.int (-1), M) := by
  rw [r164]; unfold b164; rw [aR_e, aI_e, aI_e, aZ_e]; unfold c164; rw [vC_e h.x, cP_e (a_167 h), vC_e h.x, cP_e (a_167 h), jn_e, if_pos rfl]
theorem q_165 (h : FrC M) : runX (d + 4) 165 [va_rf (some 64), .int v1, .int v2] M = some (.int (-1), M) := by
  rw [r165]; unfold b165; rw [aR_e, aI_e, aI_e, aZ_e]; unfold c165; rw [vC_e h.x, cP_e (a_172 h), jn_e, if_pos rfl]
theorem q_166 (h : FrC M) : runX (d + 4) 166 [va_rf (some 64), .int v1, .int v2] M = some (.int (-1), M) := by
  rw [r166]; unfold b166; rw [aR_e, aI_e, aI_e, aZ_e]; unfold c166; rw [vC_e h.x, cP_e (a_172 h), jn_e, if_pos rfl]; rfl
theorem q_157 (h : FrC M) : runX (d + 4) 157 [va_rf (some 64), .int v1, .int v2, .int v3, .int v4, .int v5, .int v6] M = some (.int (-1), M) := by
  rw [r157]; unfold b157; rw [aR_e, aI_e, aI_e, aI_e, aI_e, aI_e, aI_e, aZ_e]; unfold c157; rw [vC_e h.x, cP_e (a_171 h), jn_e, if_pos rfl]
theorem q_158 (h : FrC M) : runX (d + 4) 158 [va_rf (some 64), .int v1] M = some (.int (-1), M) := by
  rw [r158]; unfold b158; rw [aR_e, aI_e, aZ_e]; unfold c158; rw [vC_e h.x, cP_e (a_171 h), if_pos rfl]
theorem q_159 (h : FrC M) : runX (d + 4) 159 [va_rf (some 64), .int v1, .int v2] M = some (.int (-1), M) := by
  rw [r159]; unfold b159; rw [aR_e, aI_e, aI_e, aZ_e]; unfold c159; rw [vC_e h.x, cP_e (a_171 h), jn_e, if_pos rfl]
theorem q_146 (h : FrC M) : runX (d + 4) 146 [va_rf (some 64), .int v1, .int v2, .int v3, .int v4, .int v5] M = some (.int (-1), M) := by
  rw [r146]; unfold b146; rw [aR_e, aI_e, aI_e, aI_e, aI_e, aI_e, aZ_e]; unfold c146; rw [vC_e h.x, cP_e (a_170 h), jn_e, if_pos rfl]
theorem q_147 (h : FrC M) : runX (d + 4) 147 [va_rf (some 64), .int v1] M = some (.int (-1), M) := by
  rw [r147]; unfold b147; rw [aR_e, aI_e, aZ_e]; unfold c147; rw [vC_e h.x, cP_e (a_170 h), if_pos rfl]
theorem q_148 (h : FrC M) : runX (d + 4) 148 [va_rf (some 64), .int v1, .int v2, .int v3] M = some (.int (-1), M) := by
  rw [r148]; unfold b148; rw [aR_e, aI_e, aI_e, aI_e, aZ_e]; unfold c148; rw [vC_e h.x, cP_e (a_170 h), if_pos rfl]
theorem q_144 (h : FrC M) : runX (d + 4) 144 [va_rf (some 64), .int v1] M = some (.int (-1), M) := by
  rw [r144]; unfold b144; rw [aR_e, aI_e, aZ_e]; unfold c144; rw [gtI_e h.x, h.i7, jn_e, if_pos rfl]
theorem q_161 (h : FrC M) : runX (d + 4) 161 [va_rf (some 64), .int v1] M = some (.int (-1), M) := by
  rw [r161]; unfold b161; rw [aR_e, aI_e, aZ_e]; unfold c161; rw [gtI_e h.x, h.i10, jn_e, if_pos rfl]
theorem q_154 (h : FrC M) : runX (d + 4) 154 [va_rf (some 64), .int v1] M = some (.int (-1), M) := by
  rw [r154]; unfold b154; rw [aR_e, aI_e, aZ_e]; unfold c154; rw [gtI_e h.x, h.i13, jn_e, if_pos rfl]
theorem q_131 (h : FrC M) : runX (d + 4) 131 [va_rf (some 64)] M = some (.int (0), M) := by
  rw [r131]; unfold b131; rw [aR_e, aZ_e]; unfold c131; rw [gtP_e h.x, h.p0, gtI_e h.k65, h.i65]
theorem q_163 (h : FrC M) : runX (d + 4) 163 [va_rf (some 64), .int v1] M = some (.int (-1), M) := by
  rw [r163]; unfold b163; rw [aR_e, aI_e, aZ_e]; unfold c163; rw [jn_e, jn_e]
  by_cases h0 : v1 < 0
  · rw [if_pos h0]
  · rw [if_neg h0, gtI_e h.x, h.i16, if_neg h0]
theorem q_132 (h : FrC M) : runX (d + 4) 132 [va_rf (some 64), .int v1, .int v2] M = some (.int (if v2 = 0 then 0 else -1), M) := by
  rw [r132]; unfold b132; rw [aR_e, aI_e, aI_e, aZ_e]; unfold c132; 
  by_cases h0 : v2 = 0
  · rw [if_pos h0, if_pos h0, gtP_e h.x, h.p1, vC_e h.k87, cI_e (a_346 h.k87), h.i87]
  · rw [if_neg h0, if_neg h0, vC_e h.x, cP_e (a_167 h), if_pos rfl]
theorem a_184 : runX (d + 1) 184 [.int v1, .int v2, .int v3] M = some (.int (if v1 < v2 ∨ v3 < v1 then 0 else 1), M) := by
  rw [r184]; unfold b184; rw [aI_e, aI_e, aI_e, aZ_e]; unfold c184; rw [jn_e, jn_e]
  by_cases h0 : v1 < v2
  · rw [if_pos h0, if_pos (Or.inl h0)]; exact rtZ_e (Or.inl rfl)
  · by_cases h1 : v3 < v1
    · rw [if_neg h0, if_pos h1, if_pos (Or.inr h1)]; exact rtZ_e (Or.inl rfl)
    · rw [if_neg h0, if_neg h1, if_neg (by rintro (h | h); exact h0 h; exact h1 h)]; exact rtZ_e (Or.inr rfl)
theorem a_no : (v < 0 ∨ (0 : Int32) - 1 < v) := by
  rcases Int32.lt_or_le v 0 with h | h
  · exact Or.inl h
  · exact Or.inr (Int32.lt_of_lt_of_le (by decide) h)
theorem a_184n {k : Int32} (hk : k = 0) : runX (d + 1) 184 [.int v1, .int (0 : Int32), .int (k - 1)] M = some (.int 0, M) := by
  rw [a_184, hk, if_pos a_no]
theorem a_255 (h : FrR M) : runX (d + 2) 255 [va_rf (some 160), .int v] M = some (.int 0, M) := by
  rw [r255]; unfold b255; rw [aR_e, aI_e, aZ_e]; unfold c255; rw [gtI_e h.y, cI_e (a_184n h.i2)]; exact rtZ_e (Or.inl rfl)
theorem a_256 (h : FrR M) : runX (d + 3) 256 [va_rf (some 160), .int v1, .int v2] M = some (.int 0, M) := by
  rw [r256]; unfold b256; rw [aR_e, aI_e, aI_e, aZ_e]; unfold c256; rw [vC_e h.y, cI_e (a_255 h), jn_e, jn_e, if_pos rfl]; exact rtZ_e (Or.inl rfl)
theorem st_none (h : FrR M) {rec : Nat → List Value → Mem → XA} {j36 : Int32 → XA} : ∀ (m k N : Nat), k + m = 8 → m < N → lp (c271_4 rec (some 160) v M j36) N (-1, iI k) = j36 (-1) := by
  intro m
  induction m with
  | zero =>
    intro k N h1 h2
    obtain ⟨N, rfl⟩ : ∃ n, N = n + 1 := ⟨N - 1, by omega⟩
    obtain rfl : k = 8 := by omega
    rw [lp_e]; unfold c271_4; dsimp only; rw [if_pos (by decide +kernel)]
  | succ m ih =>
    intro k N h1 h2
    obtain ⟨N, rfl⟩ : ∃ n, N = n + 1 := ⟨N - 1, by omega⟩
    rw [lp_e]
    generalize hK : lp (c271_4 rec (some 160) v M j36) N = K
    have ih' : K (-1, iI ((k : Int) + 1)) = j36 (-1) := by rw [← hK]; exact ih (k + 1) N (by omega) (by omega)
    unfold c271_4
    dsimp only
    have hk : ¬ ((8 : Int32) ≤ iI k) := by rw [lit_8, iI_le (by omega) (by omega) (by omega) (by omega)]; omega
    by_cases h0 : v < 0
    · rw [if_neg hk, jn_e, jn_e, if_pos h0, iI_1, iI_add]
      exact ih'
    · have hv : ¬ (-1 : Int32) = v := by intro e; apply h0; rw [← e]; decide
      rw [if_neg hk, jn_e, jn_e, if_neg h0, gtP_e h.y, h.p112, alI_e h.k227 (by omega) (by omega) (by omega), Int.toNat_natCast, h.i227 k (by omega), if_neg hv, iI_1, iI_add]
      exact ih'
theorem a_271 (h : FrR M) : runX (d + 1) 271 [va_rf (some 160), .int v] M = some (.int (-1), M) := by
  rw [r271]; unfold b271; rw [aR_e, aI_e, aZ_e]; unfold c271; rw [jn_e]
  exact st_none h 8 0 4294967296 (by omega) (by omega)
theorem q_264 (h : FrR M) : runX (d + 4) 264 [va_rf (some 160), .int v1, .int v2, .int v3] M = some (.int (-1), M) := by
  rw [r264]; unfold b264; rw [aR_e, aI_e, aI_e, aI_e, aZ_e]; unfold c264; rw [vC_e h.y, cI_e (a_255 h), jn_e, if_pos rfl]
theorem q_265 (h : FrR M) : runX (d + 4) 265 [va_rf (some 160), .int v1, .int v2, .int v3] M = some (.int (-1), M) := by
  rw [r265]; unfold b265; rw [aR_e, aI_e, aI_e, aI_e, aZ_e]; unfold c265; rw [vC_e h.y, cI_e (a_256 h), jn_e, if_pos rfl]
theorem q_266 (h : FrR M) : runX (d + 4) 266 [va_rf (some 160), .int v1, .int v2, .int v3, .int v4] M = some (.int (-1), M) := by
  rw [r266]; unfold b266; rw [aR_e, aI_e, aI_e, aI_e, aI_e, aZ_e]; unfold c266; rw [vC_e h.y, cI_e (a_255 h), jn_e, if_pos rfl]
theorem q_267 (h : FrR M) : runX (d + 4) 267 [va_rf (some 160), .int v1, .int v2, .int v3] M = some (.int (-1), M) := by
  rw [r267]; unfold b267; rw [aR_e, aI_e, aI_e, aI_e, aZ_e]; unfold c267; rw [vC_e h.y, cI_e (a_255 h), jn_e, if_pos rfl]
theorem q_270 (h : FrR M) : runX (d + 4) 270 [va_rf (some 160), .int v1, .int v2, .int v3] M = some (.int (-1), M) := by
  rw [r270]; unfold b270; rw [aR_e, aI_e, aI_e, aI_e, aZ_e]; unfold c270; rw [vC_e h.y, cI_e (a_256 h), jn_e, if_pos rfl]
theorem q_257 (h : FrR M) : runX (d + 4) 257 [va_rf (some 160), .int v1] M = some (.int (-1), M) := by
  rw [r257]; unfold b257; rw [aR_e, aI_e, aZ_e]; unfold c257; rw [vC_e h.y, cI_e (a_255 h), if_pos rfl]
theorem q_258 (h : FrR M) : runX (d + 4) 258 [va_rf (some 160), .int v1, .int v2, .int v3] M = some (.int (-1), M) := by
  rw [r258]; unfold b258; rw [aR_e, aI_e, aI_e, aI_e, aZ_e]; unfold c258; rw [vC_e h.y, cI_e (a_256 h), jn_e, if_pos rfl]
theorem q_259 (h : FrR M) : runX (d + 4) 259 [va_rf (some 160), .int v1, .int v2, .int v3] M = some (.int (-1), M) := by
  rw [r259]; unfold b259; rw [aR_e, aI_e, aI_e, aI_e, aZ_e]; unfold c259; rw [vC_e h.y, cI_e (a_255 h), jn_e, if_pos rfl]
theorem q_261 (h : FrR M) : runX (d + 4) 261 [va_rf (some 160), .int v1, .int v2] M = some (.int (-1), M) := by
  rw [r261]; unfold b261; rw [aR_e, aI_e, aI_e, aZ_e]; unfold c261; rw [vC_e h.y, cI_e (a_256 h), if_pos rfl]
theorem q_262 (h : FrR M) : runX (d + 4) 262 [va_rf (some 160), .int v1] M = some (.int (-1), M) := by
  rw [r262]; unfold b262; rw [aR_e, aI_e, aZ_e]; unfold c262; rw [gtI_e h.y, h.i109, jn_e, jn_e, if_pos rfl]
theorem q_273 (h : FrR M) : runX (d + 4) 273 [va_rf (some 160), .int v1, .int v2] M = some (.int (-1), M) := by
  rw [r273]; unfold b273; rw [aR_e, aI_e, aI_e, aZ_e]; unfold c273; rw [vC_e h.y, cI_e (a_255 h), jn_e, if_pos rfl]
theorem q_275 (h : FrR M) : runX (d + 4) 275 [va_rf (some 160), .int v1, .int v2, .int v3, .int v4, .int v5] M = some (.int (-1), M) := by
  rw [r275]; unfold b275; rw [aR_e, aI_e, aI_e, aI_e, aI_e, aI_e, aZ_e]; unfold c275; rw [vC_e h.y, cI_e (a_271 h), jn_e, if_pos (by decide)]
theorem q_276 (h : FrR M) : runX (d + 4) 276 [va_rf (some 160), .int v1] M = some (.int (-1), M) := by
  rw [r276]; unfold b276; rw [aR_e, aI_e, aZ_e]; unfold c276; rw [vC_e h.y, cI_e (a_271 h), if_neg (by decide)]
theorem q_280 (h : FrR M) : runX (d + 4) 280 [va_rf (some 160), .int v1, .int v2, .int v3] M = some (.int (-1), M) := by
  rw [r280]; unfold b280; rw [aR_e, aI_e, aI_e, aI_e, aZ_e]; unfold c280; rw [vC_e h.y, cI_e (a_271 h), jn_e, if_pos (by decide)]
theorem q_281 (h : FrR M) : runX (d + 4) 281 [va_rf (some 160), .int v1, .int v2, .int v3] M = some (.int (-1), M) := by
  rw [r281]; unfold b281; rw [aR_e, aI_e, aI_e, aI_e, aZ_e]; unfold c281; rw [vC_e h.y, cI_e (a_255 h), jn_e, if_pos rfl]
theorem q_283 (h : FrR M) : runX (d + 4) 283 [va_rf (some 160), .int v1] M = some (.int (-1), M) := by
  rw [r283]; unfold b283; rw [aR_e, aI_e, aZ_e]; unfold c283; rw [vC_e h.y, cI_e (a_255 h), if_pos rfl]
theorem q_286 (h : FrR M) : runX (d + 4) 286 [va_rf (some 160), .int v1, .int v2, .int v3] M = some (.int (-1), M) := by
  rw [r286]; unfold b286; rw [aR_e, aI_e, aI_e, aI_e, aZ_e]; unfold c286; rw [vC_e h.y, cI_e (a_256 h), jn_e, if_pos rfl]
theorem q_287 (h : FrR M) : runX (d + 4) 287 [va_rf (some 160), .int v1, .int v2] M = some (.int (-1), M) := by
  rw [r287]; unfold b287; rw [aR_e, aI_e, aI_e, aZ_e]; unfold c287; rw [vC_e h.y, cI_e (a_255 h), jn_e, if_pos rfl]
theorem q_289 (h : FrR M) : runX (d + 4) 289 [va_rf (some 160), .int v1, .int v2, .int v3] M = some (.int (-1), M) := by
  rw [r289]; unfold b289; rw [aR_e, aI_e, aI_e, aI_e, aZ_e]; unfold c289; rw [vC_e h.y, cI_e (a_255 h), jn_e, if_pos rfl]
theorem q_290 (h : FrR M) : runX (d + 4) 290 [va_rf (some 160), .int v1] M = some (.int (-1), M) := by
  rw [r290]; unfold b290; rw [aR_e, aI_e, aZ_e]; unfold c290; rw [gtI_e h.y, h.i129, jn_e, if_pos rfl]
theorem q_294 (h : FrR M) : runX (d + 4) 294 [va_rf (some 160), .int v1, .int v2, .int v3, .int v4, .int v5, .int v6] M = some (.int (-1), M) := by
  rw [r294]; unfold b294; rw [aR_e, aI_e, aI_e, aI_e, aI_e, aI_e, aI_e, aZ_e]; unfold c294; rw [gtI_e h.y, cI_e (a_184n h.i138), jn_e, if_pos rfl]
theorem q_298 (h : FrR M) : runX (d + 4) 298 [va_rf (some 160), .int v1] M = some (.int (-1), M) := by
  rw [r298]; unfold b298; rw [aR_e, aI_e, aZ_e]; unfold c298; rw [gtI_e h.y, cI_e (a_184n h.i138), jn_e, if_pos rfl]
theorem q_299 (h : FrR M) : runX (d + 4) 299 [va_rf (some 160), .int v1, .int v2] M = some (.int (-1), M) := by
  rw [r299]; unfold b299; rw [aR_e, aI_e, aI_e, aZ_e]; unfold c299; rw [gtI_e h.y, cI_e (a_184n h.i138), jn_e, if_pos rfl]
theorem q_301 (h : FrR M) : runX (d + 4) 301 [va_rf (some 160), .int v1, .int v2] M = some (.int (-1), M) := by
  rw [r301]; unfold b301; rw [aR_e, aI_e, aI_e, aZ_e]; unfold c301; rw [vC_e h.y, cI_e (a_256 h), if_pos rfl]
theorem q_302 (h : FrR M) : runX (d + 4) 302 [va_rf (some 160), .int v1] M = some (.int (-1), M) := by
  rw [r302]; unfold b302; rw [aR_e, aI_e, aZ_e]; unfold c302; rw [gtI_e h.y, h.i148, jn_e, jn_e, if_pos rfl]
theorem q_304 (h : FrR M) : runX (d + 4) 304 [va_rf (some 160), .int v1, .int v2] M = some (.int (-1), M) := by
  rw [r304]; unfold b304; rw [aR_e, aI_e, aI_e, aZ_e]; unfold c304; rw [vC_e h.y, cI_e (a_256 h), if_pos rfl]
theorem q_305 (h : FrR M) : runX (d + 4) 305 [va_rf (some 160), .int v1] M = some (.int (-1), M) := by
  rw [r305]; unfold b305; rw [aR_e, aI_e, aZ_e]; unfold c305; rw [gtI_e h.y, cI_e (a_184n h.i151), jn_e, if_pos rfl]
theorem q_306 (h : FrR M) : runX (d + 4) 306 [va_rf (some 160), .int v1, .int v2] M = some (.int (-1), M) := by
  rw [r306]; unfold b306; rw [aR_e, aI_e, aI_e, aZ_e]; unfold c306; rw [vC_e h.y, cI_e (a_255 h), jn_e, if_pos rfl]
theorem q_308 (h : FrR M) : runX (d + 4) 308 [va_rf (some 160), .int v1, .int v2] M = some (.int (-1), M) := by
  rw [r308]; unfold b308; rw [aR_e, aI_e, aI_e, aZ_e]; unfold c308; rw [gtI_e h.y, cI_e (a_184n h.i154), jn_e, if_pos rfl]
theorem q_309 (h : FrR M) : runX (d + 4) 309 [va_rf (some 160), .int v1, .int v2] M = some (.int (-1), M) := by
  rw [r309]; unfold b309; rw [aR_e, aI_e, aI_e, aZ_e]; unfold c309; rw [gtI_e h.y, cI_e (a_184n h.i154), jn_e, if_pos rfl]
theorem q_234 (h : FrR M) : runX (d + 4) 234 [va_rf (some 160)] M = some (.int (0), M) := by
  rw [r234]; unfold b234; rw [aR_e, aZ_e]; unfold c234; rw [gtI_e h.y, h.i65]
theorem q_263 (h : FrR M) : runX (d + 4) 263 [va_rf (some 160), .int v1, .int v2] M = some (.int (if v2 = 0 then 0 else -1), M) := by
  rw [r263]; unfold b263; rw [aR_e, aI_e, aI_e, aZ_e]; unfold c263; 
  by_cases h0 : v2 = 0
  · rw [if_pos h0, if_pos h0, gtI_e h.y, h.i2]
  · rw [if_neg h0, if_neg h0, vC_e h.y, cI_e (a_255 h), jn_e, if_pos rfl]
end P1
