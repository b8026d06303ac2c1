/-! codes, LOCALS and uses as rows in both memories -/
/-- one place more of some rows -/
def pu (G : Nat → Int → Int) (e : Int) (l : List Int) : Nat → Int → Int := fun k j => if j = e then l.getD k 0 else G k j
theorem pu_e {G : Nat → Int → Int} {e j : Int} {l : List Int} {k : Nat} (h : j = e) : pu G e l k j = l.getD k 0 := if_pos h
theorem pu_n {G : Nat → Int → Int} {e j : Int} {l : List Int} {k : Nat} (h : j ≠ e) : pu G e l k j = G k j := if_neg h
/-- the class's codes: operations, numbers, where what fails is caught -/
def CA1 (M : Mem) (G : Nat → Int → Int) (e : Int) : Prop := ∀ j, 0 ≤ j → j < e → M.1 72 j.toNat = iI (G 0 j) ∧ M.1 73 j.toNat = iI (G 1 j) ∧ M.1 74 j.toNat = iI (G 2 j)
/-- the reference's: operations, numbers, units, whether they have a MUTANT -/
def RA1 (M : Mem) (G : Nat → Int → Int) (e : Int) : Prop := ∀ j, 0 ≤ j → j < e → M.1 195 j.toNat = iI (G 0 j) ∧ M.1 196 j.toNat = iI (G 3 j) ∧ M.1 197 j.toNat = iI (G 4 j) ∧ M.1 198 j.toNat = iI (G 5 j)
/-- LOCALS -/
def LA (c : Nat) (M : Mem) (H : Int → Int64) (s : Int) : Prop := ∀ j, 0 ≤ j → j < s → M.2.1 c j.toNat = H j
/-- a NAME among the LOCALS, from the first on; none: -1 -/
def LcF (H : Int → Int64) (s : Int) (x : Int64) (r : Int) : Prop := (0 ≤ r ∧ r < s ∧ H r = x ∧ ∀ j, 0 ≤ j → j < r → H j ≠ x) ∨ (r = -1 ∧ ∀ j, 0 ≤ j → j < s → H j ≠ x)
def EmC (M M2 : Mem) (e o n : Int) : Prop := (∀ j, j ≠ e.toNat → M2.1 72 j = M.1 72 j ∧ M2.1 73 j = M.1 73 j ∧ M2.1 74 j = M.1 74 j) ∧ M2.1 72 e.toNat = iI o ∧ M2.1 73 e.toNat = iI n ∧ M2.1 74 e.toNat = iI (-2)
def EmR (M M2 : Mem) (e o n u t : Int) : Prop := (∀ j, j ≠ e.toNat → M2.1 195 j = M.1 195 j ∧ M2.1 196 j = M.1 196 j ∧ M2.1 197 j = M.1 197 j ∧ M2.1 198 j = M.1 198 j) ∧ M2.1 195 e.toNat = iI o ∧ M2.1 196 e.toNat = iI n ∧ M2.1 197 e.toNat = iI u ∧ M2.1 198 e.toNat = iI t
section S35
variable {M M2 : Mem} {G : Nat → Int → Int} {l : List Int} {e o n u t q a b c : Int} {W : List (Nat × Nat)} {H : Int → Int64} {s r r2 : Int} {x : Int64} {cl : Nat}
theorem CA1.fr (h : CA1 M G e) (f : Fr W M M2) (w : ∀ z, z ∈ W → z.1 ≠ 72 ∧ z.1 ≠ 73 ∧ z.1 ≠ 74) : CA1 M2 G e := fun j p q => ⟨(f.c _ (fun z y => (w z y).1) _).trans (h j p q).1, (f.c _ (fun z y => (w z y).2.1) _).trans (h j p q).2.1, (f.c _ (fun z y => (w z y).2.2) _).trans (h j p q).2.2⟩
theorem CA1.em (h : CA1 M G e) (he : 0 ≤ e) (hE : EmC M M2 e o n) (hq : q = e + 1) : CA1 M2 (pu G e (o :: n :: -2 :: l)) q := fun j p z => by
  by_cases c : j = e
  · rw [pu_e c, pu_e c, pu_e c, c]
    exact hE.2
  · rw [pu_n c, pu_n c, pu_n c]
    have k := hE.1 j.toNat (by omega)
    have m := h j p (by omega)
    exact ⟨k.1.trans m.1, k.2.1.trans m.2.1, k.2.2.trans m.2.2⟩
theorem RA1.fr (h : RA1 M G e) (f : Fr W M M2) (w : ∀ z, z ∈ W → z.1 ≠ 195 ∧ z.1 ≠ 196 ∧ z.1 ≠ 197 ∧ z.1 ≠ 198) : RA1 M2 G e := fun j p q => ⟨(f.c _ (fun z y => (w z y).1) _).trans (h j p q).1, (f.c _ (fun z y => (w z y).2.1) _).trans (h j p q).2.1, (f.c _ (fun z y => (w z y).2.2.1) _).trans (h j p q).2.2.1, (f.c _ (fun z y => (w z y).2.2.2) _).trans (h j p q).2.2.2⟩
theorem RA1.em (h : RA1 M G e) (he : 0 ≤ e) (hE : EmR M M2 e o n u t) (hq : q = e + 1) : RA1 M2 (pu G e (o :: a :: b :: n :: u :: t :: l)) q := fun j p z => by
  by_cases c : j = e
  · rw [pu_e c, pu_e c, pu_e c, pu_e c, c]
    exact hE.2
  · rw [pu_n c, pu_n c, pu_n c, pu_n c]
    have k := hE.1 j.toNat (by omega)
    have m := h j p (by omega)
    exact ⟨k.1.trans m.1, k.2.1.trans m.2.1, k.2.2.1.trans m.2.2.1, k.2.2.2.trans m.2.2.2⟩
theorem LA.fr (h : LA cl M H s) (f : Fr W M M2) (w : ∀ z, z ∈ W → z.1 ≠ cl) : LA cl M2 H s := fun j p q => (f.lc _ w _).trans (h j p q)
theorem LA.le (h : LA cl M H s) (hr : r ≤ s) : LA cl M H r := fun j p q => h j p (by omega)
theorem LA.add (h : LA cl M H s) (hs : 0 ≤ s) (g : ∀ j, j ≠ s.toNat → M2.2.1 cl j = M.2.1 cl j) (gx : M2.2.1 cl s.toNat = x) (hr : r = s + 1) : LA cl M2 (up1 H s x) r := fun j p z => by
  by_cases c : j = s
  · rw [up1_e c, c]; exact gx
  · rw [up1_n c]; exact (g _ (by omega)).trans (h j p (by omega))
theorem LcF.one (h : LcF H s x r) (k : LcF H s x r2) : r = r2 := by
  rcases h with ⟨h1, h2, h3, h4⟩ | ⟨h1, h2⟩ <;> rcases k with ⟨k1, k2, k3, k4⟩ | ⟨k1, k2⟩
  · rcases Int.lt_trichotomy r r2 with c | c | c
    · exact absurd h3 (k4 r h1 c)
    · exact c
    · exact absurd k3 (h4 r2 k1 c)
  · exact absurd h3 (k2 r h1 h2)
  · exact absurd k3 (h2 r2 k1 k2)
  · omega
theorem LcF.bd (h : LcF H s x r) : -1 ≤ r ∧ (r < s ∨ r = -1) := by
  rcases h with ⟨h1, h2, -, -⟩ | ⟨h1, -⟩ <;> omega
end S35
def W_em : List (Nat × Nat) := [(65, 9), (72, 9999), (73, 9999), (74, 9999)]
theorem a87 {d : Nat} {M : Mem} (hd : 1 ≤ d) (hR : CT M) {e : Int} (h9 : M.1 65 9 = iI e) {v0 v1 : Int32} {o0 o1 : Int} (hv0 : v0 = iI o0) (hv1 : v1 = iI o1) (h : 0 ≤ e ∧ e < 4096) : Rt (runX d 87 [va_rf (some 65), .int (v0), .int (v1)] M) (fun v M2 => ∃ (r : Int), v = .int (iI r) ∧ Fr W_em M M2 ∧ M2.1 65 9 = iI (e + 1) ∧ (r = e) ∧ (EmC M M2 e o0 o1)) := by
  obtain ⟨d, rfl⟩ : ∃ e, d = e + 1 := ⟨d - 1, by omega⟩
  rw [r87]; unfold b87; rw [aR_e, aI_e, aI_e, aZ_e]; unfold c87
  refine rs1 (gtI_q (w := iI e) (ck_65 hR) (h9)) ?_
  refine rs1 (if_pos (lsI_p (rfl) (li_4096) (by omega))) ?_
  refine rs1 (gtP_q (w := some 72) (ck_65 hR) (cf_65_5 hR)) ?_
  refine rs1 (gtI_q (w := iI e) (ck_65 hR) (h9)) ?_
  refine rs1 (asI_q (n := 4096) (z := e) (y := o0) (ck_72 hR) (rfl) (by omega) (hv0)) ?_
  refine rs1 (gtP_q (w := some 73) (ck_65 hR.sI) (cf_65_6 hR.sI)) ?_
  refine rs1 (gtI_q (w := iI e) (ck_65 hR.sI) ((sI_ne (by decide)).trans (h9))) ?_
  refine rs1 (asI_q (n := 4096) (z := e) (y := o1) (ck_73 hR.sI) (rfl) (by omega) (hv1)) ?_
  refine rs1 (gtP_q (w := some 74) (ck_65 hR.sI.sI) (cf_65_7 hR.sI.sI)) ?_
  refine rs1 (gtI_q (w := iI e) (ck_65 hR.sI.sI) ((sI_ne (by decide)).trans ((sI_ne (by decide)).trans (h9)))) ?_
  refine rs1 (asI_q (n := 4096) (z := e) (y := (-2)) (ck_74 hR.sI.sI) (rfl) (by omega) (li_m2)) ?_
  refine rs1 (gtI_q (w := iI e) (ck_65 hR.sI.sI.sI) ((sI_ne (by decide)).trans ((sI_ne (by decide)).trans ((sI_ne (by decide)).trans (h9))))) ?_
  refine rs1 (ptI_q (z := (e + 1)) (ck_65 hR.sI.sI.sI) (adI (rfl) (li_1))) ?_
  refine rs1 (gtI_q (w := iI (e + 1)) (ck_65 hR.sI.sI.sI.sI) (sI_eq)) ?_
  exact Rt.okI (z := e) (cvI (sbI (rfl) (li_1)) (by omega)) ⟨e, rfl, (Fr.sI (by decide) (Fr.sI (inW_c (by decide) _) (Fr.sI (inW_c (by decide) _) (Fr.sI (inW_c (by decide) _) Fr.r)))), sI_eq, rfl, ⟨fun j hj => ⟨(sI_ne (by decide)).trans ((sI_ne (by decide)).trans ((sI_ne (by decide)).trans ((sI_nej hj)))), (sI_ne (by decide)).trans ((sI_ne (by decide)).trans ((sI_nej hj).trans ((sI_ne (by decide))))), (sI_ne (by decide)).trans ((sI_nej hj).trans ((sI_ne (by decide)).trans ((sI_ne (by decide)))))⟩, (sI_ne (by decide)).trans ((sI_ne (by decide)).trans ((sI_ne (by decide)).trans (sI_eq))), (sI_ne (by decide)).trans ((sI_ne (by decide)).trans (sI_eq)), (sI_ne (by decide)).trans (sI_eq)⟩⟩
def W_er : List (Nat × Nat) := [(160, 43), (195, 9999), (196, 9999), (197, 9999), (198, 9999)]
theorem a196 {d : Nat} {M : Mem} (hd : 1 ≤ d) (hR : RT M) {e : Int} (h43 : M.1 160 43 = iI e) {ut mu : Int} (h49 : M.1 160 49 = iI ut) (h48 : M.1 160 48 = iI mu) {v0 v1 : Int32} {o0 o1 : Int} (hv0 : v0 = iI o0) (hv1 : v1 = iI o1) (h : 0 ≤ e ∧ e < 4000 ∧ 0 ≤ o0 ∧ o0 ≤ 34 ∧ 0 ≤ ut ∧ ut ≤ 8 ∧ 0 ≤ mu ∧ mu ≤ 1) : Rt (runX d 196 [va_rf (some 160), .int (v0), .int (v1)] M) (fun v M2 => ∃ (r : Int), v = .int (iI r) ∧ Fr W_er M M2 ∧ M2.1 160 43 = iI (e + 1) ∧ (r = e) ∧ (EmR M M2 e o0 o1 ut mu)) := by
  obtain ⟨d, rfl⟩ : ∃ e, d = e + 1 := ⟨d - 1, by omega⟩
  rw [r196]; unfold b196; rw [aR_e, aI_e, aI_e, aZ_e]; unfold c196
  refine rs1 (gtP_q (w := some 195) (rk_160 hR) (rf_44 hR)) ?_
  refine rs1 (gtI_q (w := iI e) (rk_160 hR) (h43)) ?_
  refine rs1 (asI_q (n := 4000) (z := e) (y := o0) (rk_195 hR) (rfl) (by omega) (b8_e (b8_e (hv0) (by omega)) (by omega))) ?_
  refine rs1 (gtP_q (w := some 196) (rk_160 hR.sI) (rf_45 hR.sI)) ?_
  refine rs1 (gtI_q (w := iI e) (rk_160 hR.sI) ((sI_ne (by decide)).trans (h43))) ?_
  refine rs1 (asI_q (n := 4000) (z := e) (y := o1) (rk_196 hR.sI) (rfl) (by omega) (hv1)) ?_
  refine rs1 (gtP_q (w := some 197) (rk_160 hR.sI.sI) (rf_46 hR.sI.sI)) ?_
  refine rs1 (gtI_q (w := iI e) (rk_160 hR.sI.sI) ((sI_ne (by decide)).trans ((sI_ne (by decide)).trans (h43)))) ?_
  refine rs1 (gtI_q (w := iI ut) (rk_160 hR.sI.sI) ((sI_ne (by decide)).trans ((sI_ne (by decide)).trans (h49)))) ?_
  refine rs1 (asI_q (n := 4000) (z := e) (y := ut) (rk_197 hR.sI.sI) (rfl) (by omega) (b8_e (b8_e (rfl) (by omega)) (by omega))) ?_
  refine rs1 (gtP_q (w := some 198) (rk_160 hR.sI.sI.sI) (rf_47 hR.sI.sI.sI)) ?_
  refine rs1 (gtI_q (w := iI e) (rk_160 hR.sI.sI.sI) ((sI_ne (by decide)).trans ((sI_ne (by decide)).trans ((sI_ne (by decide)).trans (h43))))) ?_
  refine rs1 (gtI_q (w := iI mu) (rk_160 hR.sI.sI.sI) ((sI_ne (by decide)).trans ((sI_ne (by decide)).trans ((sI_ne (by decide)).trans (h48))))) ?_
  refine rs1 (asI_q (n := 4000) (z := e) (y := mu) (rk_198 hR.sI.sI.sI) (rfl) (by omega) (znar_e (rfl) (by omega))) ?_
  refine rs1 (gtI_q (w := iI e) (rk_160 hR.sI.sI.sI.sI) ((sI_ne (by decide)).trans ((sI_ne (by decide)).trans ((sI_ne (by decide)).trans ((sI_ne (by decide)).trans (h43)))))) ?_
  refine rs1 (ptI_q (z := (e + 1)) (rk_160 hR.sI.sI.sI.sI) (adI (rfl) (li_1))) ?_
  refine rs1 (gtI_q (w := iI (e + 1)) (rk_160 hR.sI.sI.sI.sI.sI) (sI_eq)) ?_
  exact Rt.okI (z := e) (cvI (sbI (rfl) (li_1)) (by omega)) ⟨e, rfl, (Fr.sI (by decide) (Fr.sI (inW_c (by decide) _) (Fr.sI (inW_c (by decide) _) (Fr.sI (inW_c (by decide) _) (Fr.sI (inW_c (by decide) _) Fr.r))))), sI_eq, rfl, ⟨fun j hj => ⟨(sI_ne (by decide)).trans ((sI_ne (by decide)).trans ((sI_ne (by decide)).trans ((sI_ne (by decide)).trans ((sI_nej hj))))), (sI_ne (by decide)).trans ((sI_ne (by decide)).trans ((sI_ne (by decide)).trans ((sI_nej hj).trans ((sI_ne (by decide)))))), (sI_ne (by decide)).trans ((sI_ne (by decide)).trans ((sI_nej hj).trans ((sI_ne (by decide)).trans ((sI_ne (by decide)))))), (sI_ne (by decide)).trans ((sI_nej hj).trans ((sI_ne (by decide)).trans ((sI_ne (by decide)).trans ((sI_ne (by decide))))))⟩, (sI_ne (by decide)).trans ((sI_ne (by decide)).trans ((sI_ne (by decide)).trans ((sI_ne (by decide)).trans (sI_eq)))), (sI_ne (by decide)).trans ((sI_ne (by decide)).trans ((sI_ne (by decide)).trans (sI_eq))), (sI_ne (by decide)).trans ((sI_ne (by decide)).trans (sI_eq)), (sI_ne (by decide)).trans (sI_eq)⟩⟩
theorem a74 {d : Nat} {M : Mem} (hd : 1 ≤ d) (hR : CT M) {sn : Int} (h16 : M.1 65 16 = iI sn) {H : Int → Int64} (hL : LA 76 M H sn) {x : Int64} (h : 0 ≤ sn ∧ sn ≤ 10) : Rt (runX d 74 [va_rf (some 65), .long (x)] M) (fun v M2 => ∃ r, v = .int (iI (if r = -1 then -2 else r)) ∧ M2 = M ∧ LcF H sn x r) := by
  obtain ⟨d, rfl⟩ : ∃ e, d = e + 1 := ⟨d - 1, by omega⟩
  rw [r74]; unfold b74; rw [aR_e, aL_e, aZ_e]; unfold c74
  refine rs1 (jn_v) ?_
  refine rs1 (jn_v) ?_
  refine Rt.lp (fun m s => ∃ (k : Int), s = iI k ∧ (0 ≤ k ∧ k ≤ sn) ∧ (∀ j, 0 ≤ j → j < k → H j ≠ x) ∧ ((m : Int) = sn - k)) (fun m s go hs hgo => ?_) sn.toNat _ _ (by omega) ⟨0, li_0, by omega, fun j p q => by first | exact absurd q (by omega) | (by_cases cj : j = k <;> first | (rw [cj]; assumption) | exact (by assumption : ∀ j, 0 ≤ j → j < k → H j ≠ x) j p (by omega)), by omega⟩
  obtain ⟨k, e1_k, p1_0, p1_1, p1_2⟩ := hs
  unfold c74_2
  refine rs1 (gtI_q (w := iI sn) (ck_65 hR) (h16)) ?_
  by_cases c2 : sn ≤ k
  · refine rs1 (if_pos (leI_p (rfl) (e1_k) (by omega))) ?_
    refine rs1 (jv_e) ?_
    exact Rt.okI (z := (-2)) (li_m2) ⟨-1, rfl, rfl, by first | exact Or.inl ⟨by omega, by omega, by assumption, by assumption⟩ | exact Or.inr ⟨by omega, fun j p q => (by assumption : ∀ j, 0 ≤ j → j < k → H j ≠ x) j p (by omega)⟩⟩
  · refine rs1 (if_neg (leI_n (rfl) (e1_k) (by omega))) ?_
    refine rs1 (gtP_q (w := some 76) (ck_65 hR) (cf_65_15 hR)) ?_
    refine rs1 (alL_q (n := 10) (z := k) (w := (H k)) (ck_76 hR) (e1_k) (by omega) (hL k (by omega) (by omega))) ?_
    by_cases c3 : (H k) = x
    ·
      refine rs1 (if_pos (lgc_p (rfl) (rfl) c3)) ?_
      refine rs1 (jv_e) ?_
      exact Rt.okI (z := k) (e1_k) ⟨k, by rw [if_neg (by omega)], rfl, by first | exact Or.inl ⟨by omega, by omega, by assumption, by assumption⟩ | exact Or.inr ⟨by omega, fun j p q => (by assumption : ∀ j, 0 ≤ j → j < k → H j ≠ x) j p (by omega)⟩⟩
    ·
      refine rs1 (if_neg (lgc_n (rfl) (rfl) c3)) ?_
      refine rs1 (ltI_q (z := (k + 1)) (adI (e1_k) (li_1))) ?_
      exact hgo (sn - k - 1).toNat _ (by omega) ⟨(k + 1), rfl, by omega, fun j p q => by first | exact absurd q (by omega) | (by_cases cj : j = k <;> first | (rw [cj]; assumption) | exact (by assumption : ∀ j, 0 ≤ j → j < k → H j ≠ x) j p (by omega)), by omega⟩
theorem a197 {d : Nat} {M : Mem} (hd : 1 ≤ d) (hR : RT M) {sn : Int} (h51 : M.1 160 51 = iI sn) {H : Int → Int64} (hL : LA 199 M H sn) {x : Int64} (h : 0 ≤ sn ∧ sn ≤ 10) : Rt (runX d 197 [va_rf (some 160), .long (x)] M) (fun v M2 => ∃ r, v = .int (iI (if r = -1 then -1 else r)) ∧ M2 = M ∧ LcF H sn x r) := by
  obtain ⟨d, rfl⟩ : ∃ e, d = e + 1 := ⟨d - 1, by omega⟩
  rw [r197]; unfold b197; rw [aR_e, aL_e, aZ_e]; unfold c197
  refine rs1 (jn_v) ?_
  refine rs1 (jn_v) ?_
  refine Rt.lp (fun m s => ∃ (k : Int), s = iI k ∧ (0 ≤ k ∧ k ≤ sn) ∧ (∀ j, 0 ≤ j → j < k → H j ≠ x) ∧ ((m : Int) = sn - k)) (fun m s go hs hgo => ?_) sn.toNat _ _ (by omega) ⟨0, li_0, by omega, fun j p q => by first | exact absurd q (by omega) | (by_cases cj : j = k <;> first | (rw [cj]; assumption) | exact (by assumption : ∀ j, 0 ≤ j → j < k → H j ≠ x) j p (by omega)), by omega⟩
  obtain ⟨k, e1_k, p1_0, p1_1, p1_2⟩ := hs
  unfold c197_2
  refine rs1 (gtI_q (w := iI sn) (rk_160 hR) (h51)) ?_
  by_cases c2 : sn ≤ k
  · refine rs1 (if_pos (leI_p (rfl) (e1_k) (by omega))) ?_
    refine rs1 (jv_e) ?_
    exact Rt.okI (z := (-1)) (li_m1) ⟨-1, rfl, rfl, by first | exact Or.inl ⟨by omega, by omega, by assumption, by assumption⟩ | exact Or.inr ⟨by omega, fun j p q => (by assumption : ∀ j, 0 ≤ j → j < k → H j ≠ x) j p (by omega)⟩⟩
  · refine rs1 (if_neg (leI_n (rfl) (e1_k) (by omega))) ?_
    refine rs1 (gtP_q (w := some 199) (rk_160 hR) (rf_52 hR)) ?_
    refine rs1 (alL_q (n := 11) (z := k) (w := (H k)) (rk_199 hR) (e1_k) (by omega) (hL k (by omega) (by omega))) ?_
    by_cases c3 : (H k) = x
    ·
      refine rs1 (if_pos (lgc_p (rfl) (rfl) c3)) ?_
      refine rs1 (jv_e) ?_
      exact Rt.okI (z := k) (e1_k) ⟨k, by rw [if_neg (by omega)], rfl, by first | exact Or.inl ⟨by omega, by omega, by assumption, by assumption⟩ | exact Or.inr ⟨by omega, fun j p q => (by assumption : ∀ j, 0 ≤ j → j < k → H j ≠ x) j p (by omega)⟩⟩
    ·
      refine rs1 (if_neg (lgc_n (rfl) (rfl) c3)) ?_
      refine rs1 (ltI_q (z := (k + 1)) (adI (e1_k) (li_1))) ?_
      exact hgo (sn - k - 1).toNat _ (by omega) ⟨(k + 1), rfl, by omega, fun j p q => by first | exact absurd q (by omega) | (by_cases cj : j = k <;> first | (rw [cj]; assumption) | exact (by assumption : ∀ j, 0 ≤ j → j < k → H j ≠ x) j p (by omega)), by omega⟩
def W_al : List (Nat × Nat) := [(65, 16), (76, 9999)]
theorem a75 {d : Nat} {M : Mem} (hd : 1 ≤ d) (hR : CT M) {sn : Int} (h16 : M.1 65 16 = iI sn) {x : Int64} (h : 0 ≤ sn ∧ sn < 10) : Rt (runX d 75 [va_rf (some 65), .long (x)] M) (fun _ M2 => Fr W_al M M2 ∧ M2.1 65 16 = iI (sn + 1) ∧ (∀ j, j ≠ sn.toNat → M2.2.1 76 j = M.2.1 76 j) ∧ (M2.2.1 76 sn.toNat = x)) := by
  obtain ⟨d, rfl⟩ : ∃ e, d = e + 1 := ⟨d - 1, by omega⟩
  rw [r75]; unfold b75; rw [aR_e, aL_e, aZ_e]; unfold c75
  refine rs1 (gtI_q (w := iI sn) (ck_65 hR) (h16)) ?_
  refine rs1 (jn_v) ?_
  refine rs1 (if_neg (leI_n (li_10) (rfl) (by omega))) ?_
  refine rs1 (gtP_q (w := some 76) (ck_65 hR) (cf_65_15 hR)) ?_
  refine rs1 (gtI_q (w := iI sn) (ck_65 hR) (h16)) ?_
  refine rs1 (asL_q (n := 10) (z := sn) (w := x) (ck_76 hR) (rfl) (by omega) (rfl)) ?_
  refine rs1 (gtI_q (w := iI sn) (ck_65 hR.sL) ((sL_i).trans (h16))) ?_
  refine rs1 (ptI_q (z := (sn + 1)) (ck_65 hR.sL) (adI (rfl) (li_1))) ?_
  refine rs1 (jv_e) ?_
  exact Rt.ok ⟨(Fr.sI (by decide) (Fr.sL (inW_c (by decide) _) Fr.r)), sI_eq, fun j hj => (sI_l).trans ((sL_nej hj)), (sI_l).trans (sL_eq)⟩
def W_se : List (Nat × Nat) := [(160, 51), (199, 9999)]
theorem a199 {d : Nat} {M : Mem} (hd : 1 ≤ d) (hR : RT M) {sn : Int} (h51 : M.1 160 51 = iI sn) (h41 : M.1 160 41 = iI 0) {x : Int64} (h : 0 ≤ sn ∧ sn < 11) : Rt (runX d 199 [va_rf (some 160), .long (x)] M) (fun _ M2 => Fr W_se M M2 ∧ M2.1 160 51 = iI (sn + 1) ∧ (∀ j, j ≠ sn.toNat → M2.2.1 199 j = M.2.1 199 j) ∧ (M2.2.1 199 sn.toNat = x)) := by
  obtain ⟨d, rfl⟩ : ∃ e, d = e + 1 := ⟨d - 1, by omega⟩
  rw [r199]; unfold b199; rw [aR_e, aL_e, aZ_e]; unfold c199
  refine rs1 (gtI_q (w := iI 0) (rk_160 hR) (h41)) ?_
  refine rs1 (jn_v) ?_
  refine rs1 (if_pos (eqI_p (rfl) (li_0) (by omega))) ?_
  refine rs1 (gtP_q (w := some 199) (rk_160 hR) (rf_52 hR)) ?_
  refine rs1 (gtI_q (w := iI sn) (rk_160 hR) (h51)) ?_
  refine rs1 (asL_q (n := 11) (z := sn) (w := x) (rk_199 hR) (rfl) (by omega) (rfl)) ?_
  refine rs1 (gtI_q (w := iI sn) (rk_160 hR.sL) ((sL_i).trans (h51))) ?_
  refine rs1 (ptI_q (z := (sn + 1)) (rk_160 hR.sL) (adI (rfl) (li_1))) ?_
  refine rs1 (jv_e) ?_
  exact Rt.ok ⟨(Fr.sI (by decide) (Fr.sL (inW_c (by decide) _) Fr.r)), sI_eq, fun j hj => (sI_l).trans ((sL_nej hj)), (sI_l).trans (sL_eq)⟩
