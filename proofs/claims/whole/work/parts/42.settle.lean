/-! what a use becomes: settleLater(), emitPlain(), used() -/
def pq (U : Nat → Int → Int) (k0 : Nat) (j v : Int) : Nat → Int → Int := fun k t => if k = k0 ∧ t = j then v else U k t
theorem pq_e {U : Nat → Int → Int} {k0 : Nat} {j v : Int} : pq U k0 j v k0 j = v := if_pos ⟨rfl, rfl⟩
theorem pq_k {U : Nat → Int → Int} {k0 k : Nat} {j v t : Int} (h : k ≠ k0) : pq U k0 j v k t = U k t := if_neg fun q => h q.1
theorem pq_t {U : Nat → Int → Int} {k0 k : Nat} {j v t : Int} (h : t ≠ j) : pq U k0 j v k t = U k t := if_neg fun q => h q.2
/-- settled: sort b, for what p, code e -/
def ps (U : Nat → Int → Int) (j b p e : Int) : Nat → Int → Int := pq (pq (pq (pq U 1 j b) 2 j e) 7 j p) 8 j e
def SetC (M M2 : Mem) (x p e : Int) : Prop := (∀ j, j ≠ x.toNat → M2.1 78 j = M.1 78 j ∧ M2.1 79 j = M.1 79 j) ∧ M2.1 78 x.toNat = iI p ∧ M2.1 79 x.toNat = iI e
def SetR (M M2 : Mem) (x b e : Int) : Prop := (∀ j, j ≠ x.toNat → M2.1 200 j = M.1 200 j ∧ M2.1 201 j = M.1 201 j) ∧ M2.1 200 x.toNat = iI e ∧ M2.1 201 x.toNat = iI b
section S42
variable {M M2 : Mem} {U G : Nat → Int → Int} {X : Nat → Int → Int64} {u uc j x b p e q : Int} {W : List (Nat × Nat)}
theorem ps_t {k : Nat} {t : Int} (h : t ≠ j) : ps U j b p e k t = U k t := by
  unfold ps
  rw [pq_t h, pq_t h, pq_t h, pq_t h]
theorem ps_k {k : Nat} {t : Int} (h : k ≠ 1 ∧ k ≠ 2 ∧ k ≠ 7 ∧ k ≠ 8) : ps U j b p e k t = U k t := by
  unfold ps
  rw [pq_k h.2.2.2, pq_k h.2.2.1, pq_k h.2.1, pq_k h.1]
theorem ps_1 : ps U j b p e 1 j = b := by
  unfold ps
  rw [pq_k (by decide), pq_k (by decide), pq_k (by decide), pq_e]
theorem ps_2 : ps U j b p e 2 j = e := by
  unfold ps
  rw [pq_k (by decide), pq_k (by decide), pq_e]
theorem ps_7 : ps U j b p e 7 j = p := by
  unfold ps
  rw [pq_k (by decide), pq_e]
theorem ps_8 : ps U j b p e 8 j = e := by
  unfold ps
  rw [pq_e]
theorem Ag.ps {G' : Nat → Int → Int} {a : Int} (h : Ag G G' a) (hq : a ≤ j) : Ag G (ps G' j b p e) a := fun k t z => (ps_t (by omega)).trans (h k t z)
theorem CU.set (h : CU M U X u uc) (hj : 0 ≤ j ∧ j < u) (hx : U 0 j = x) (g : SetC M M2 x p e) (f : Fr W M M2) (w : ∀ z, z ∈ W → z.1 ≠ 80 ∧ z.1 ≠ 81 ∧ z.1 ≠ 82 ∧ z.1 ≠ 83 ∧ z.1 ≠ 85 ∧ z.1 ≠ 86) : CU M2 (ps U j b p e) X u uc := by
  obtain ⟨h1, h2, h3⟩ := h
  have hxx := (h1 j hj.1 hj.2).1
  have z0 : ∀ t, ps U j b p e 0 t = U 0 t := fun t => ps_k (by decide)
  refine ⟨fun t a c => ?_, fun t v a c d => by rw [z0, z0]; exact h2 t v a c d, fun y a c d => ?_⟩
  · obtain ⟨k, e1, e2, e3, e4, e5, e6, e7, e8⟩ := h1 t a c
    rw [z0, ps_k (k := 9) (by decide), ps_k (k := 6) (by decide), ps_k (k := 10) (by decide), ps_k (k := 4) (by decide)]
    refine ⟨k, ?_, ?_, (f.c _ (fun z y => (w z y).1) _).trans e3, (f.c _ (fun z y => (w z y).2.1) _).trans e4, (f.c _ (fun z y => (w z y).2.2.1) _).trans e5, (f.c _ (fun z y => (w z y).2.2.2.1) _).trans e6, (f.lc _ (fun z y => (w z y).2.2.2.2.1) _).trans e7, (f.lc _ (fun z y => (w z y).2.2.2.2.2) _).trans e8⟩
    · by_cases c2 : t = j
      · subst c2
        rw [ps_7, hx]; exact g.2.1
      · have : U 0 t ≠ x := fun e => by
          rcases Int.lt_or_le t j with q | q
          · have := h2 t j a q hj.2; omega
          · have := h2 j t hj.1 (by omega) c; omega
        rw [ps_t c2]
        exact (g.1 _ (by omega)).1.trans e1
    · by_cases c2 : t = j
      · subst c2
        rw [ps_8, hx]; exact g.2.2
      · have : U 0 t ≠ x := fun e => by
          rcases Int.lt_or_le t j with q | q
          · have := h2 t j a q hj.2; omega
          · have := h2 j t hj.1 (by omega) c; omega
        rw [ps_t c2]
        exact (g.1 _ (by omega)).2.trans e2
  · have hy : y ≠ x := fun q => d j hj.1 hj.2 (by rw [z0, hx, q])
    refine (g.1 _ (by omega)).1.trans (h3 y a c fun t p2 q2 => ?_)
    have := d t p2 q2
    rw [z0] at this
    exact this
theorem RU.set (h : RU M U X u) (hj : 0 ≤ j ∧ j < u) (g : SetR M M2 j b e) (f : Fr W M M2) (w : ∀ z, z ∈ W → z.1 < 202 ∨ 207 < z.1) : RU M2 (ps U j b p e) X u := by
  intro t a c
  obtain ⟨e1, e2, e3, e4, e5, e6, e7, e8⟩ := h t a c
  have k : ∀ c, 202 ≤ c → c ≤ 207 → ∀ z, z ∈ W → z.1 ≠ c := fun c x y z hz => by have := w z hz; omega
  rw [ps_k (k := 3) (by decide), ps_k (k := 4) (by decide), ps_k (k := 5) (by decide), ps_k (k := 6) (by decide)]
  refine ⟨?_, ?_, (f.lc _ (k 202 (by omega) (by omega)) _).trans e3, (f.c _ (k 203 (by omega) (by omega)) _).trans e4, (f.lc _ (k 204 (by omega) (by omega)) _).trans e5, (f.c _ (k 205 (by omega) (by omega)) _).trans e6, (f.c _ (k 206 (by omega) (by omega)) _).trans e7, (f.c _ (k 207 (by omega) (by omega)) _).trans e8⟩
  · by_cases c2 : t = j
    · subst c2
      rw [ps_2]; exact g.2.1
    · rw [ps_t c2]
      exact (g.1 _ (by omega)).1.trans e1
  · by_cases c2 : t = j
    · subst c2
      rw [ps_1]; exact g.2.2
    · rw [ps_t c2]
      exact (g.1 _ (by omega)).2.trans e2
theorem LcF_ex {Hl : Int → Int64} {y : Int64} : ∀ k : Nat, ∃ r, LcF Hl k y r
  | 0 => ⟨-1, Or.inr ⟨rfl, fun j a c => absurd c (by omega)⟩⟩
  | k + 1 => by
    obtain ⟨r, h⟩ := LcF_ex (Hl := Hl) (y := y) k
    rcases h with ⟨h1, h2, h3, h4⟩ | ⟨h1, h2⟩
    · exact ⟨r, Or.inl ⟨h1, by omega, h3, h4⟩⟩
    · by_cases c : Hl k = y
      · exact ⟨k, Or.inl ⟨by omega, by omega, c, h2⟩⟩
      · refine ⟨-1, Or.inr ⟨rfl, fun j a d => ?_⟩⟩
        by_cases c2 : j = k
        · rw [c2]; exact c
        · exact h2 j a (by omega)
end S42
def W_st : List (Nat × Nat) := [(65, 9), (72, 9999), (73, 9999), (74, 9999), (78, 9999), (79, 9999)]
theorem EmC.w {M M1 M2 M3 : Mem} {e o n : Int} {W W' : List (Nat × Nat)} (h : EmC M1 M2 e o n) (f : Fr W M M1) (g : Fr W' M2 M3) (w : ∀ z, z ∈ W → z.1 ≠ 72 ∧ z.1 ≠ 73 ∧ z.1 ≠ 74) (w' : ∀ z, z ∈ W' → z.1 ≠ 72 ∧ z.1 ≠ 73 ∧ z.1 ≠ 74) : EmC M M3 e o n := ⟨fun j hj => ⟨(g.c _ (fun z y => (w' z y).1) _).trans ((h.1 j hj).1.trans (f.c _ (fun z y => (w z y).1) _)), (g.c _ (fun z y => (w' z y).2.1) _).trans ((h.1 j hj).2.1.trans (f.c _ (fun z y => (w z y).2.1) _)), (g.c _ (fun z y => (w' z y).2.2) _).trans ((h.1 j hj).2.2.trans (f.c _ (fun z y => (w z y).2.2) _))⟩, (g.c _ (fun z y => (w' z y).1) _).trans h.2.1, (g.c _ (fun z y => (w' z y).2.1) _).trans h.2.2.1, (g.c _ (fun z y => (w' z y).2.2) _).trans h.2.2.2⟩
theorem EmR.w {M M1 M2 M3 : Mem} {e o n u t : Int} {W W' : List (Nat × Nat)} (h : EmR M1 M2 e o n u t) (f : Fr W M M1) (g : Fr W' M2 M3) (w : ∀ z, z ∈ W → z.1 < 195 ∨ 198 < z.1) (w' : ∀ z, z ∈ W' → z.1 < 195 ∨ 198 < z.1) : EmR M M3 e o n u t := by
  have k : ∀ c, 195 ≤ c → c ≤ 198 → ∀ z, z ∈ W → z.1 ≠ c := fun c x y z hz => by have := w z hz; omega
  have k' : ∀ c, 195 ≤ c → c ≤ 198 → ∀ z, z ∈ W' → z.1 ≠ c := fun c x y z hz => by have := w' z hz; omega
  obtain ⟨h0, h1, h2, h3, h4⟩ := h
  refine ⟨fun j hj => ?_, (g.c _ (k' 195 (by omega) (by omega)) _).trans h1, (g.c _ (k' 196 (by omega) (by omega)) _).trans h2, (g.c _ (k' 197 (by omega) (by omega)) _).trans h3, (g.c _ (k' 198 (by omega) (by omega)) _).trans h4⟩
  obtain ⟨a1, a2, a3, a4⟩ := h0 j hj
  exact ⟨(g.c _ (k' 195 (by omega) (by omega)) _).trans (a1.trans (f.c _ (k 195 (by omega) (by omega)) _)), (g.c _ (k' 196 (by omega) (by omega)) _).trans (a2.trans (f.c _ (k 196 (by omega) (by omega)) _)), (g.c _ (k' 197 (by omega) (by omega)) _).trans (a3.trans (f.c _ (k 197 (by omega) (by omega)) _)), (g.c _ (k' 198 (by omega) (by omega)) _).trans (a4.trans (f.c _ (k 198 (by omega) (by omega)) _))⟩
theorem a105 {d : Nat} {M : Mem} (hd : 2 ≤ d) (hR : CT M) {e : Int} (h9 : M.1 65 9 = iI e) {v0 v1 v2 : Int32} {x o1 o2 : Int} (hv0 : v0 = iI x) (hv1 : v1 = iI o1) (hv2 : v2 = iI o2) (h : 0 ≤ e ∧ e < 4096 ∧ 0 ≤ x ∧ x ≤ 1499) : Rt (runX d 105 [va_rf (some 65), .int (v0), .int (v1), .int (v2)] M) (fun _ M2 => Fr W_st M M2 ∧ M2.1 65 9 = iI (e + 1) ∧ (EmC M M2 e o2 0) ∧ (SetC M M2 x o1 e)) := by
  obtain ⟨d, rfl⟩ : ∃ e, d = e + 1 := ⟨d - 1, by omega⟩
  rw [r105]; unfold b105; rw [aR_e, aI_e, aI_e, aI_e, aZ_e]; unfold c105
  refine rs1 (gtP_q (w := some 77) (ck_65 hR) (cf_65_17 hR)) ?_
  refine rs1 (alP_q (n := 6) (z := 0) (w := some 78) (ck_77 hR) (li_0) (by omega) (cf_77_0 hR)) ?_
  refine rs1 (asI_q (n := 1500) (z := x) (y := o1) (ck_78 hR) (hv0) (by omega) (hv1)) ?_
  refine rs1 (gtP_q (w := some 77) (ck_65 hR.sI) (cf_65_17 hR.sI)) ?_
  refine rs1 (alP_q (n := 6) (z := 1) (w := some 79) (ck_77 hR.sI) (li_1) (by omega) (cf_77_1 hR.sI)) ?_
  refine rs1 (vC_e (ck_65 hR.sI)) ?_
  refine Rc_I (a87 (by omega) hR.sI ((sI_ne (by decide)).trans (h9)) (hv2) (li_0) (by omega)) fun v Ma2 h2 => ?_
  obtain ⟨r1, rfl, g2, e2_k0, p2_0, p2_1⟩ := h2
  have f2 : Fr W_st M Ma2 := Fr.t (Fr.sI (inW_c (by decide) _) Fr.r) (Fr.m g2 (by decide))
  refine rs1 (cI_e rfl) ?_
  refine rs1 (asI_q (n := 1500) (z := x) (y := r1) (ck_79 (hR.fr f2)) (hv0) (by omega) (rfl)) ?_
  exact Rt.ok ⟨(Fr.sI (inW_c (by decide) _) f2), (sI_ne (by decide)).trans (e2_k0), p2_1.w (W := [(78, 9999), (79, 9999)]) (W' := [(78, 9999), (79, 9999)]) (Fr.sI (inW_c (by decide) _) Fr.r) (Fr.sI (inW_c (by decide) _) Fr.r) (by decide) (by decide), ⟨fun j hj => ⟨(sI_ne (by decide)).trans ((g2.c _ (by decide) _).trans ((sI_nej hj))), (sI_nej hj).trans ((g2.c _ (by decide) _).trans ((sI_ne (by decide))))⟩, (sI_ne (by decide)).trans ((g2.c _ (by decide) _).trans (sI_eq)), (sI_eq).trans (congrArg iI p2_0)⟩⟩
def W_ud : List (Nat × Nat) := [(160, 43), (195, 9999), (196, 9999), (197, 9999), (198, 9999), (200, 9999), (201, 9999)]
theorem a202 {d : Nat} {M : Mem} (hd : 2 ≤ d) (hR : RT M) {e : Int} (h43 : M.1 160 43 = iI e) {ut mu : Int} (h49 : M.1 160 49 = iI ut) (h48 : M.1 160 48 = iI mu) {v0 v1 v2 : Int32} {x o1 o2 : Int} (hv0 : v0 = iI x) (hv1 : v1 = iI o1) (hv2 : v2 = iI o2) (h : 0 ≤ e ∧ e < 4000 ∧ 0 ≤ x ∧ x ≤ 1999 ∧ 0 ≤ o2 ∧ o2 ≤ 34 ∧ 0 ≤ ut ∧ ut ≤ 8 ∧ 0 ≤ mu ∧ mu ≤ 1) : Rt (runX d 202 [va_rf (some 160), .int (v0), .int (v1), .int (v2)] M) (fun _ M2 => Fr W_ud M M2 ∧ M2.1 160 43 = iI (e + 1) ∧ (EmR M M2 e o2 x ut mu) ∧ (SetR M M2 x o1 e)) := by
  obtain ⟨d, rfl⟩ : ∃ e, d = e + 1 := ⟨d - 1, by omega⟩
  rw [r202]; unfold b202; rw [aR_e, aI_e, aI_e, aI_e, aZ_e]; unfold c202
  refine rs1 (gtP_q (w := some 201) (rk_160 hR) (rf_55 hR)) ?_
  refine rs1 (asI_q (n := 2000) (z := x) (y := o1) (rk_201 hR) (hv0) (by omega) (hv1)) ?_
  refine rs1 (gtP_q (w := some 200) (rk_160 hR.sI) (rf_54 hR.sI)) ?_
  refine rs1 (vC_e (rk_160 hR.sI)) ?_
  refine Rc_I (a196 (by omega) hR.sI ((sI_ne (by decide)).trans (h43)) ((sI_ne (by decide)).trans (h49)) ((sI_ne (by decide)).trans (h48)) (hv2) (hv0) (by omega)) fun v Ma2 h2 => ?_
  obtain ⟨r1, rfl, g2, e2_k0, p2_0, p2_1⟩ := h2
  have f2 : Fr W_ud M Ma2 := Fr.t (Fr.sI (inW_c (by decide) _) Fr.r) (Fr.m g2 (by decide))
  refine rs1 (cI_e rfl) ?_
  refine rs1 (asI_q (n := 2000) (z := x) (y := r1) (rk_200 (hR.fr f2)) (hv0) (by omega) (rfl)) ?_
  exact Rt.ok ⟨(Fr.sI (inW_c (by decide) _) f2), (sI_ne (by decide)).trans (e2_k0), p2_1.w (W := [(200, 9999), (201, 9999)]) (W' := [(200, 9999), (201, 9999)]) (Fr.sI (inW_c (by decide) _) Fr.r) (Fr.sI (inW_c (by decide) _) Fr.r) (by decide) (by decide), ⟨fun j hj => ⟨(sI_nej hj).trans ((g2.c _ (by decide) _).trans ((sI_ne (by decide)))), (sI_ne (by decide)).trans ((g2.c _ (by decide) _).trans ((sI_nej hj)))⟩, (sI_eq).trans (congrArg iI p2_0), (sI_ne (by decide)).trans ((g2.c _ (by decide) _).trans (sI_eq))⟩⟩
