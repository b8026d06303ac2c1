section S20
variable {L : Nat} {xs : Nat → Int32}
theorem p1_2 : Sim2 1 L xs (Inv1 L xs) := by
  apply sim1
  have e1 : End L xs (app (Minit L xs) w1Q) := End.app (by decide +kernel) (by decide +kernel) (by decide +kernel) (by decide +kernel) (by decide +kernel)
  have e2 : End L xs (app (Minit L xs) w46Q) := End.app (by decide +kernel) (by decide +kernel) (by decide +kernel) (by decide +kernel) (by decide +kernel)
  have hP : w46P = w1Q := by decide +kernel
  have h2 := w46 (L := L) (xs := xs) (d := 2037)
  rw [hP] at h2
  exact ⟨_, _, _, w1 (d := 2033), h2, e1.1, e2⟩
section S20a
variable {M : Mem} {d : Nat} {v : Int32}
theorem q_156a (g : v < 0 ∨ 2 < v) : runX (d + 4) 156 [va_rf (some 64), .int v] M = some (.int (-1), M) := by
  rw [r156]; unfold b156; rw [aR_e, aI_e, aZ_e]; unfold c156; rw [jn_e]
  by_cases h0 : v < 0
  · rw [if_pos h0]
  · rw [if_neg h0, if_neg (by rcases g with g | g; exact absurd g h0; exact Int32.not_le.mpr g)]
theorem q_293a (g : v < 0 ∨ 2 < v) : runX (d + 4) 293 [va_rf (some 160), .int v] M = some (.int (-1), M) := by
  rw [r293]; unfold b293; rw [aR_e, aI_e, aZ_e]; unfold c293; rw [cI_e a_184, if_pos g, if_pos rfl]
end S20a
theorem p1_28_0 : ∃ (r : Int32) (M1 M2 : Mem), runX 2040 156 [va_rf (some 64), .int (iI (0))] (app (Minit L xs) LQ183) = some (.int r, M1) ∧ runX 2040 293 [va_rf (some 160), .int (iI (0))] M1 = some (.int r, M2) ∧ Base L xs M1 ∧ End L xs M2 := by
  have e1 : End L xs (app (Minit L xs) h0_1Q) := End.app (by decide +kernel) (by decide +kernel) (by decide +kernel) (by decide +kernel) (by decide +kernel)
  have e2 : End L xs (app (Minit L xs) h0_9Q) := End.app (by decide +kernel) (by decide +kernel) (by decide +kernel) (by decide +kernel) (by decide +kernel)
  have hP : h0_9P = h0_1Q := by decide +kernel
  have h2 := h0_9 (L := L) (xs := xs) (d := 2038)
  rw [hP] at h2
  exact ⟨_, _, _, h0_1 (d := 2035), h2, e1.1, e2⟩
theorem p1_28_1 : ∃ (r : Int32) (M1 M2 : Mem), runX 2040 156 [va_rf (some 64), .int (iI (1))] (app (Minit L xs) LQ183) = some (.int r, M1) ∧ runX 2040 293 [va_rf (some 160), .int (iI (1))] M1 = some (.int r, M2) ∧ Base L xs M1 ∧ End L xs M2 := by
  have e1 : End L xs (app (Minit L xs) h1_1Q) := End.app (by decide +kernel) (by decide +kernel) (by decide +kernel) (by decide +kernel) (by decide +kernel)
  have e2 : End L xs (app (Minit L xs) h1_9Q) := End.app (by decide +kernel) (by decide +kernel) (by decide +kernel) (by decide +kernel) (by decide +kernel)
  have hP : h1_9P = h1_1Q := by decide +kernel
  have h2 := h1_9 (L := L) (xs := xs) (d := 2038)
  rw [hP] at h2
  exact ⟨_, _, _, h1_1 (d := 2035), h2, e1.1, e2⟩
theorem p1_28_2 : ∃ (r : Int32) (M1 M2 : Mem), runX 2040 156 [va_rf (some 64), .int (iI (2))] (app (Minit L xs) LQ183) = some (.int r, M1) ∧ runX 2040 293 [va_rf (some 160), .int (iI (2))] M1 = some (.int r, M2) ∧ Base L xs M1 ∧ End L xs M2 := by
  have e1 : End L xs (app (Minit L xs) h2_1Q) := End.app (by decide +kernel) (by decide +kernel) (by decide +kernel) (by decide +kernel) (by decide +kernel)
  have e2 : End L xs (app (Minit L xs) h2_9Q) := End.app (by decide +kernel) (by decide +kernel) (by decide +kernel) (by decide +kernel) (by decide +kernel)
  have hP : h2_9P = h2_1Q := by decide +kernel
  have h2 := h2_9 (L := L) (xs := xs) (d := 2038)
  rw [hP] at h2
  exact ⟨_, _, _, h2_1 (d := 2035), h2, e1.1, e2⟩
theorem p1_28 : Sim28 1 L xs (Inv1 L xs) := by
  intro v
  apply sim1
  by_cases g : v < 0 ∨ 2 < v
  · exact ⟨_, _, _, q_156a g, q_293a g, F0E.1, F0E⟩
  · obtain ⟨z, z1, z2, rfl⟩ := iI_ex v
    have g1 : ¬ z < 0 := by
      intro q; apply g; left
      rw [iI_0, iI_lt (by omega) (by omega) (by omega) (by omega)]; exact q
    have g2 : ¬ 2 < z := by
      intro q; apply g; right
      rw [lit_2, iI_lt (by omega) (by omega) (by omega) (by omega)]; exact q
    have hz : z = 0 ∨ z = 1 ∨ z = 2 := by omega
    rcases hz with rfl | rfl | rfl
    · exact p1_28_0
    · exact p1_28_1
    · exact p1_28_2
theorem p1_4 : Sim4 1 L xs (Inv1 L xs) := fun v1 v2 => sim0 _ (fun _ h => q_132 (d := 2036) h) (fun _ h => q_263 (d := 2036) h)
theorem p1_18 : Sim18 1 L xs (Inv1 L xs) := fun v1 v2 v3 v4 v5 _ => sim0 _ (fun _ h => q_146 (d := 2036) h) (fun _ h => q_275 (d := 2036) h)
theorem p1_3 : Sim3 1 L xs (Inv1 L xs) := sim0 _ (fun _ h => q_131 (d := 2036) h) (fun _ h => q_234 (d := 2036) h)
theorem p1_5 : Sim5 1 L xs (Inv1 L xs) := fun v1 v2 v3 => sim0 _ (fun _ h => q_133 (d := 2036) h) (fun _ h => q_264 (d := 2036) h)
theorem p1_6 : Sim6 1 L xs (Inv1 L xs) := fun v1 v2 v3 => sim0 _ (fun _ h => q_134 (d := 2036) h) (fun _ h => q_265 (d := 2036) h)
theorem p1_7 : Sim7 1 L xs (Inv1 L xs) := fun v1 v2 v3 v4 => sim0 _ (fun _ h => q_135 (d := 2036) h) (fun _ h => q_266 (d := 2036) h)
theorem p1_8 : Sim8 1 L xs (Inv1 L xs) := fun v1 v2 v3 => sim0 _ (fun _ h => q_136 (d := 2036) h) (fun _ h => q_267 (d := 2036) h)
theorem p1_11 : Sim11 1 L xs (Inv1 L xs) := fun v1 v2 v3 => sim0 _ (fun _ h => q_139 (d := 2036) h) (fun _ h => q_270 (d := 2036) h)
theorem p1_12 : Sim12 1 L xs (Inv1 L xs) := fun v1 => sim0 _ (fun _ h => q_140 (d := 2036) h) (fun _ h => q_257 (d := 2036) h)
theorem p1_13 : Sim13 1 L xs (Inv1 L xs) := fun v1 v2 v3 => sim0 _ (fun _ h => q_141 (d := 2036) h) (fun _ h => q_258 (d := 2036) h)
theorem p1_14 : Sim14 1 L xs (Inv1 L xs) := fun v1 v2 v3 => sim0 _ (fun _ h => q_142 (d := 2036) h) (fun _ h => q_259 (d := 2036) h)
theorem p1_15 : Sim15 1 L xs (Inv1 L xs) := fun v1 v2 => sim0 _ (fun _ h => q_143 (d := 2036) h) (fun _ h => q_261 (d := 2036) h)
theorem p1_16 : Sim16 1 L xs (Inv1 L xs) := fun v1 => sim0 _ (fun _ h => q_144 (d := 2036) h) (fun _ h => q_262 (d := 2036) h)
theorem p1_17 : Sim17 1 L xs (Inv1 L xs) := fun v1 v2 => sim0 _ (fun _ h => q_145 (d := 2036) h) (fun _ h => q_273 (d := 2036) h)
theorem p1_19 : Sim19 1 L xs (Inv1 L xs) := fun v1 => sim0 _ (fun _ h => q_147 (d := 2036) h) (fun _ h => q_276 (d := 2036) h)
theorem p1_20 : Sim20 1 L xs (Inv1 L xs) := fun v1 v2 v3 => sim0 _ (fun _ h => q_148 (d := 2036) h) (fun _ h => q_280 (d := 2036) h)
theorem p1_21 : Sim21 1 L xs (Inv1 L xs) := fun v1 v2 v3 => sim0 _ (fun _ h => q_149 (d := 2036) h) (fun _ h => q_281 (d := 2036) h)
theorem p1_22 : Sim22 1 L xs (Inv1 L xs) := fun v1 => sim0 _ (fun _ h => q_150 (d := 2036) h) (fun _ h => q_283 (d := 2036) h)
theorem p1_23 : Sim23 1 L xs (Inv1 L xs) := fun v1 v2 v3 => sim0 _ (fun _ h => q_151 (d := 2036) h) (fun _ h => q_286 (d := 2036) h)
theorem p1_24 : Sim24 1 L xs (Inv1 L xs) := fun v1 v2 => sim0 _ (fun _ h => q_152 (d := 2036) h) (fun _ h => q_287 (d := 2036) h)
theorem p1_25 : Sim25 1 L xs (Inv1 L xs) := fun v1 v2 v3 => sim0 _ (fun _ h => q_153 (d := 2036) h) (fun _ h => q_289 (d := 2036) h)
theorem p1_26 : Sim26 1 L xs (Inv1 L xs) := fun v1 => sim0 _ (fun _ h => q_154 (d := 2036) h) (fun _ h => q_290 (d := 2036) h)
theorem p1_29 : Sim29 1 L xs (Inv1 L xs) := fun v1 v2 v3 v4 v5 v6 => sim0 _ (fun _ h => q_157 (d := 2036) h) (fun _ h => q_294 (d := 2036) h)
theorem p1_30 : Sim30 1 L xs (Inv1 L xs) := fun v1 => sim0 _ (fun _ h => q_158 (d := 2036) h) (fun _ h => q_298 (d := 2036) h)
theorem p1_31 : Sim31 1 L xs (Inv1 L xs) := fun v1 v2 => sim0 _ (fun _ h => q_159 (d := 2036) h) (fun _ h => q_299 (d := 2036) h)
theorem p1_32 : Sim32 1 L xs (Inv1 L xs) := fun v1 v2 => sim0 _ (fun _ h => q_160 (d := 2036) h) (fun _ h => q_301 (d := 2036) h)
theorem p1_33 : Sim33 1 L xs (Inv1 L xs) := fun v1 => sim0 _ (fun _ h => q_161 (d := 2036) h) (fun _ h => q_302 (d := 2036) h)
theorem p1_34 : Sim34 1 L xs (Inv1 L xs) := fun v1 v2 => sim0 _ (fun _ h => q_162 (d := 2036) h) (fun _ h => q_304 (d := 2036) h)
theorem p1_35 : Sim35 1 L xs (Inv1 L xs) := fun v1 => sim0 _ (fun _ h => q_163 (d := 2036) h) (fun _ h => q_305 (d := 2036) h)
theorem p1_36 : Sim36 1 L xs (Inv1 L xs) := fun v1 v2 => sim0 _ (fun _ h => q_164 (d := 2036) h) (fun _ h => q_306 (d := 2036) h)
theorem p1_37 : Sim37 1 L xs (Inv1 L xs) := fun v1 v2 => sim0 _ (fun _ h => q_165 (d := 2036) h) (fun _ h => q_308 (d := 2036) h)
theorem p1_38 : Sim38 1 L xs (Inv1 L xs) := fun v1 v2 => sim0 _ (fun _ h => q_166 (d := 2036) h) (fun _ h => q_309 (d := 2036) h)
end S20
