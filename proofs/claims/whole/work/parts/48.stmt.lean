/-! statements and blocks: what is the same in both -/
def pj (G : Nat → Int → Int) (j v : Int) : Nat → Int → Int := fun k t => if (k = 1 ∨ k = 3) ∧ t = j then v else G k t
/-- what is caught: from a to b, where nothing is -/
def pc (G : Nat → Int → Int) (a b v : Int) : Nat → Int → Int := fun k t => if k = 2 ∧ (a ≤ t ∧ t < b) ∧ iI (G 2 t) = iI (-2) then v else G k t
def W_c2 : List (Nat × Nat) := (73, 9999) :: W_c0
def W_r2 : List (Nat × Nat) := (196, 9999) :: W_r0
def W_74 : List (Nat × Nat) := [(74, 9999)]
def K2 (M : Mem) (x : Int) (y0 y1 : Int64) : Prop := M.2.1 85 x.toNat = y0 ∧ M.2.1 86 x.toNat = y1
theorem itc {c d : Prop} [Decidable c] [Decidable d] {x y : Int} (h : c ↔ d) : (if c then x else y) = if d then x else y := by
  by_cases q : c
  · rw [if_pos q, if_pos (h.1 q)]
  · rw [if_neg q, if_neg (fun z => q (h.2 z))]
section S48
variable {M M2 : Mem} {G G' U U' : Nat → Int → Int} {X : Nat → Int → Int64} {Hl H2 H3 : Int → Int64} {a b c e j k0 t v v2 a2 b2 ut mu u w x uc dp s s' s2 q : Int} {k cl : Nat} {W : List (Nat × Nat)} {y0 y1 : Int64}
theorem pj_t (h : t ≠ j) : pj G j v k t = G k t := if_neg fun q => h q.2
theorem pj_k (h : k ≠ 1 ∧ k ≠ 3) : pj G j v k t = G k t := if_neg fun q => q.1.elim h.1 h.2
theorem pj_1 : pj G j v 1 j = v := if_pos ⟨Or.inl rfl, rfl⟩
theorem pj_3 : pj G j v 3 j = v := if_pos ⟨Or.inr rfl, rfl⟩
theorem pc_t (h : t < a ∨ b ≤ t) : pc G a b v k t = G k t := if_neg fun q => by omega
theorem pc_k (h : k ≠ 2) : pc G a b v k t = G k t := if_neg fun q => h q.1
theorem pc_y (h : a ≤ t ∧ t < b) (q : G 2 t = -2) : pc G a b v 2 t = v := if_pos ⟨rfl, h, congrArg iI q⟩
theorem pc_x (q : 0 ≤ G 2 t ∧ G 2 t ≤ 4096) : pc G a b v 2 t = G 2 t := if_neg fun z => absurd z.2.2 (eqI_n (x := G 2 t) (y := -2) rfl rfl (by omega))
theorem Ag.pj (h : Ag G G' e) (hq : e ≤ j) : Ag G (pj G' j v) e := fun k t p => (pj_t (by omega)).trans (h k t p)
theorem Ag.pc (h : Ag G G' e) (hq : e ≤ a) : Ag G (pc G' a b v) e := fun k t p => (pc_t (by omega)).trans (h k t p)
theorem CA1.pt (h : CA1 M G e) (hj : 0 ≤ j) : CA1 (sI M 73 j.toNat (iI v)) (pj G j v) e := fun t p q => by
  obtain ⟨h1, h2, h3⟩ := h t p q
  refine ⟨(sI_ne (by decide)).trans ?_, ?_, (sI_ne (by decide)).trans ?_⟩
  · rw [pj_k (by decide)]; exact h1
  · by_cases c : t = j
    · subst c
      rw [pj_1]; exact sI_eq
    · rw [pj_t c]; exact (sI_nej (by omega)).trans h2
  · rw [pj_k (by decide)]; exact h3
theorem RA1.pt (h : RA1 M G e) (hj : 0 ≤ j) : RA1 (sI M 196 j.toNat (iI v)) (pj G j v) e := fun t p q => by
  obtain ⟨h1, h2, h3, h4⟩ := h t p q
  refine ⟨(sI_ne (by decide)).trans ?_, ?_, (sI_ne (by decide)).trans ?_, (sI_ne (by decide)).trans ?_⟩
  · rw [pj_k (by decide)]; exact h1
  · by_cases c : t = j
    · subst c
      rw [pj_3]; exact sI_eq
    · rw [pj_t c]; exact (sI_nej (by omega)).trans h2
  · rw [pj_k (by decide)]; exact h3
  · rw [pj_k (by decide)]; exact h4
theorem RA1.pc (h : RA1 M G e) : RA1 M (pc G a b v) e := fun t p q => by
  rw [pc_k (by decide), pc_k (by decide), pc_k (by decide), pc_k (by decide)]; exact h t p q
theorem CA1.pc (h : CA1 M G e) (f : Fr W_74 M M2) (g : ∀ j, 0 ≤ j → j < e → M2.1 74 j.toNat = iI (pc G a b v 2 j)) : CA1 M2 (pc G a b v) e := fun j p q => by
  obtain ⟨h1, h2, -⟩ := h j p q
  refine ⟨(f.c _ (by decide) _).trans ?_, (f.c _ (by decide) _).trans ?_, g j p q⟩
  · rw [pc_k (by decide)]; exact h1
  · rw [pc_k (by decide)]; exact h2
theorem DU.pj (h : DU ut mu c G U X a b u w) : DU ut mu c (pj G j v2) U X a b u w := h.nm (fun k t a b c => pj_k ⟨a, b⟩) (fun t => by
  by_cases y : t = j
  · subst y
    exact Or.inr (pj_1.trans pj_3.symm)
  · exact Or.inl ⟨pj_t y, pj_t y⟩)
theorem DU.pc (h : DU ut mu c G U X a b u w) : DU ut mu c (pc G a2 b2 v2) U X a b u w := h.nm (fun k t a b c => pc_k c) (fun t => Or.inl ⟨pc_k (by decide), pc_k (by decide)⟩)
theorem K2.mk {a4 a6 a8 a9 a10 : Int} {x0 x1 : Int64} (h : UsC M M2 x a4 a6 a8 a9 a10 x0 x1) : K2 M2 x x0 x1 := ⟨h.2.2.2.2.2.2.2.1, h.2.2.2.2.2.2.2.2⟩
theorem K2.fr (h : K2 M x y0 y1) (f : Fr W M M2) (w : ∀ z, z ∈ W → z.1 ≠ 85 ∧ z.1 ≠ 86) : K2 M2 x y0 y1 := ⟨(f.lc _ (fun z y => (w z y).1) _).trans h.1, (f.lc _ (fun z y => (w z y).2) _).trans h.2⟩
theorem K2.ku (h : K2 M x y0 y1) (g : KU c M M2) (hx : 0 ≤ x ∧ x < c) : K2 M2 x y0 y1 := ⟨(g.2.1 x hx.1 hx.2).1.trans h.1, (g.2.1 x hx.1 hx.2).2.trans h.2⟩
theorem LA.bk (h : LA cl M H2 s2) (hs : s ≤ s2) (hh : ∀ j, 0 ≤ j → j < s → H2 j = Hl j) : LA cl M Hl s := fun j p q => (h j p (by omega)).trans (hh j p q)
theorem HlR : s ≤ s ∧ ∀ j, 0 ≤ j → j < s → Hl j = Hl j := ⟨by omega, fun _ _ _ => rfl⟩
theorem HlT (h : s ≤ s' ∧ ∀ j, 0 ≤ j → j < s → H2 j = Hl j) (k1 : s' ≤ s2) (k2 : ∀ j, 0 ≤ j → j < s' → H3 j = H2 j) : s ≤ s2 ∧ ∀ j, 0 ≤ j → j < s → H3 j = Hl j := ⟨by omega, fun j p q => (k2 j p (by omega)).trans (h.2 j p q)⟩
theorem NeL {X' : Nat → Int → Int64} (h : ∀ j, 0 ≤ j → j < u → U 0 j < x) (g : Ag U U' u) (d : DU ut mu c G U' X' a b u w) (hc : x < c) : ∀ j, 0 ≤ j → j < w → U' 0 j ≠ x := fun j p q z => by
  by_cases y : j < u
  · have := h j p y
    have := g 0 j y
    omega
  · have := (d.2.1 j (by omega) q).2.2.2.2.2.2.1
    omega
theorem CU.loc3 (h : CU M U X u uc) (hx : ∀ j, 0 ≤ j → j < u → U 0 j ≠ x) (h0 : 0 ≤ x) (g : SetC M M2 x 0 e) (f : Fr W M M2) (w : ∀ z, z ∈ W → z.1 ≠ 80 ∧ z.1 ≠ 81 ∧ z.1 ≠ 82 ∧ z.1 ≠ 83 ∧ z.1 ≠ 85 ∧ z.1 ≠ 86) : CU M2 U X u uc := by
  obtain ⟨h1, h2, h3⟩ := h
  refine ⟨fun t a c => ?_, h2, fun y a c d => ?_⟩
  · obtain ⟨k, e1, e2, e3, e4, e5, e6, e7, e8⟩ := h1 t a c
    have := hx t a c
    exact ⟨k, (g.1 _ (by omega)).1.trans e1, (g.1 _ (by omega)).2.trans e2, (f.c _ (fun z y => (w z y).1) _).trans e3, (f.c _ (fun z y => (w z y).2.1) _).trans e4, (f.c _ (fun z y => (w z y).2.2.1) _).trans e5, (f.c _ (fun z y => (w z y).2.2.2.1) _).trans e6, (f.lc _ (fun z y => (w z y).2.2.2.2.1) _).trans e7, (f.lc _ (fun z y => (w z y).2.2.2.2.2) _).trans e8⟩
  · by_cases c2 : y.toNat = x.toNat
    · rw [c2]; exact g.2.1
    · exact (g.1 _ c2).1.trans (h3 y a c d)
theorem Tye.ca {d : Int} (h : Tye G a b s d) (ha : a = a2) (hb : b = b2) : Tye G a2 b2 s d := by subst ha; subst hb; exact h
theorem Tyb.ca (h : Tyb dp G a b s s') (ha : a = a2) (hb : b = b2) : Tyb dp G a2 b2 s s' := by subst ha; subst hb; exact h
theorem Rs_cVr {x' y' : XA} {Q P : Value → Mem → Value → Mem → Prop} {k' : Mem → XA} (h : Rs x' y' P) (g : ∀ v M w N, P v M w N → Rt (k' N) fun w' N' => Q v M w' N') : Rs x' (cV y' k') Q := by
  obtain ⟨v, M, w, N, h1, h2, h3⟩ := h
  obtain ⟨w', N', h4, h5⟩ := g v M w N h3
  exact ⟨v, M, w', N', h1, by rw [cV_e h2, h4], h5⟩
/-- the loop that says what is caught where -/
theorem lp95 {d : Nat} {j84 : Mem → XA} {x6 x12 : Int32} {y : XA} {Q : Value → Mem → Value → Mem → Prop} (hC : CT M) (h9 : M.1 65 9 = iI v) (h : CA1 M G e) (h6 : x6 = iI b) (h12 : x12 = iI a) (hb : 0 ≤ a ∧ a ≤ b ∧ b ≤ e ∧ e ≤ 4096) (hk : ∀ M2, Fr W_74 M M2 → CA1 M2 (pc G a b v) e → Rs (j84 M2) y Q) : Rs (lp (c95_49 (runX d) (some 65) j84 x6) 4294967296 (x12, M)) y Q := by
  refine Rl_lp (fun m q => ∃ k, q.1 = iI k ∧ (a ≤ k ∧ k ≤ b) ∧ Fr W_74 M q.2 ∧ (∀ j, 0 ≤ j → j < e → q.2.1 74 j.toNat = iI (pc G a k v 2 j)) ∧ (m : Int) = b - k) (fun m q go hq hgo => ?_) (b - a).toNat _ _ (by omega) ⟨a, h12, by omega, Fr.r, fun j p z => by rw [pc_t (by omega)]; exact (h j p z).2.2, by omega⟩
  obtain ⟨x, N⟩ := q
  obtain ⟨k, hx, hk1, f, g, hm⟩ := hq
  dsimp only at hx f g
  unfold c95_49
  dsimp only
  have hC2 := hC.fr f
  by_cases c : b ≤ k
  · refine rsl (if_pos (leI_p h6 hx (by omega))) ?_
    have e1 : k = b := by omega
    subst e1
    exact hk N f (h.pc f g)
  · refine rsl (if_neg (leI_n h6 hx (by omega))) ?_
    refine rsl (gtP_q (w := some 74) (ck_65 hC2) (cf_65_7 hC2)) ?_
    have gk := g k (by omega) (by omega)
    rw [pc_t (Or.inr (Int.le_refl _))] at gk
    refine rsl (alI_q (n := 4096) (z := k) (w := iI (G 2 k)) (ck_74 hC2) hx (by omega) gk) ?_
    refine rsl (jn_v) ?_
    by_cases c2 : iI (G 2 k) = iI (-2)
    · refine rsl (if_pos (c2.trans li_m2.symm)) ?_
      refine rsl (gtP_q (w := some 74) (ck_65 hC2) (cf_65_7 hC2)) ?_
      refine rsl (gtI_q (w := iI v) (ck_65 hC2) ((f.i _ _ (by decide)).trans h9)) ?_
      refine rsl (asI_q (n := 4096) (z := k) (y := v) (ck_74 hC2) hx (by omega) rfl) ?_
      refine rsl (jv_e) ?_
      refine rsl (ltI_q (z := k + 1) (adI hx li_1)) ?_
      refine hgo (b - (k + 1)).toNat _ (by omega) ⟨k + 1, rfl, by omega, Fr.sI (inW_c (by decide) _) f, fun j p z => ?_, by omega⟩
      by_cases c3 : j = k
      · subst c3
        exact sI_eq.trans (congrArg iI (if_pos ⟨rfl, ⟨by omega, by omega⟩, c2⟩ : pc G a (j + 1) v 2 j = v).symm)
      · refine (sI_nej (by omega)).trans ((g j p z).trans (congrArg iI ?_))
        unfold pc
        by_cases c4 : a ≤ j ∧ j < k
        · exact itc ⟨fun q => ⟨q.1, ⟨by omega, by omega⟩, q.2.2⟩, fun q => ⟨q.1, c4, q.2.2⟩⟩
        · rw [if_neg (fun q => c4 q.2.1), if_neg (fun q => c4 ⟨q.2.1.1, by omega⟩)]
    · refine rsl (if_neg (fun q => c2 (q.trans li_m2))) ?_
      refine rsl (jv_e) ?_
      refine rsl (ltI_q (z := k + 1) (adI hx li_1)) ?_
      refine hgo (b - (k + 1)).toNat _ (by omega) ⟨k + 1, rfl, by omega, f, fun j p z => (g j p z).trans (congrArg iI ?_), by omega⟩
      unfold pc
      by_cases c4 : a ≤ j ∧ j < k
      · exact itc ⟨fun q => ⟨q.1, ⟨by omega, by omega⟩, q.2.2⟩, fun q => ⟨q.1, c4, q.2.2⟩⟩
      · rw [if_neg (fun q => c4 q.2.1)]
        by_cases c5 : j = k
        · subst c5
          rw [if_neg (fun q => c2 q.2.2)]
        · rw [if_neg (fun q => c4 ⟨q.2.1.1, by omega⟩)]
theorem lp95F {d : Nat} {j84 : Mem → XA} {x6 x12 : Int32} {y : XA} {Q : Value → Mem → Value → Mem → Prop} (hC : CT M) (h9 : M.1 65 9 = iI v) (h6 : x6 = iI b) (h12 : x12 = iI a) (hb : 0 ≤ a ∧ a ≤ 4096 ∧ 0 ≤ b ∧ b ≤ 4096) (hk : ∀ M2, Fr W_74 M M2 → Rs (j84 M2) y Q) : Rs (lp (c95_49 (runX d) (some 65) j84 x6) 4294967296 (x12, M)) y Q := by
  refine Rl_lp (fun m q => ∃ k, q.1 = iI k ∧ (0 ≤ k ∧ k ≤ 4096) ∧ Fr W_74 M q.2 ∧ (m : Int) = 4096 - k) (fun m q go hq hgo => ?_) (4096 - a).toNat _ _ (by omega) ⟨a, h12, by omega, Fr.r, by omega⟩
  obtain ⟨x, N⟩ := q
  obtain ⟨k, hx, hk1, f, hm⟩ := hq
  dsimp only at hx f
  unfold c95_49
  dsimp only
  have hC2 := hC.fr f
  by_cases c : b ≤ k
  · refine rsl (if_pos (leI_p h6 hx (by omega))) ?_
    exact hk N f
  · refine rsl (if_neg (leI_n h6 hx (by omega))) ?_
    refine rsl (gtP_q (w := some 74) (ck_65 hC2) (cf_65_7 hC2)) ?_
    refine rsl (alI_q (n := 4096) (z := k) (w := N.1 74 k.toNat) (ck_74 hC2) hx (by omega) rfl) ?_
    refine rsl (jn_v) ?_
    by_cases c2 : N.1 74 k.toNat = (-2 : Int32)
    · refine rsl (if_pos c2) ?_
      refine rsl (gtP_q (w := some 74) (ck_65 hC2) (cf_65_7 hC2)) ?_
      refine rsl (gtI_q (w := iI v) (ck_65 hC2) ((f.i _ _ (by decide)).trans h9)) ?_
      refine rsl (asI_q (n := 4096) (z := k) (y := v) (ck_74 hC2) hx (by omega) rfl) ?_
      refine rsl (jv_e) ?_
      refine rsl (ltI_q (z := k + 1) (adI hx li_1)) ?_
      exact hgo (4096 - (k + 1)).toNat _ (by omega) ⟨k + 1, rfl, by omega, Fr.sI (inW_c (by decide) _) f, by omega⟩
    · refine rsl (if_neg c2) ?_
      refine rsl (jv_e) ?_
      refine rsl (ltI_q (z := k + 1) (adI hx li_1)) ?_
      exact hgo (4096 - (k + 1)).toNat _ (by omega) ⟨k + 1, rfl, by omega, f, by omega⟩
end S48
theorem a87q {d : Nat} {M : Mem} (hd : 1 ≤ d) (hR : CT M) {e : Int} (h9 : M.1 65 9 = iI e) {v0 v1 : Int32} {o0 o1 : Int} (hv0 : v0 = iI o0) (hv1 : v1 = iI o1) {q : Int} (h2 : q = e + 1) (h : 0 ≤ e ∧ e < 4096) : Rt (runX d 87 [va_rf (some 65), .int (v0), .int (v1)] M) (fun v M2 => ∃ (r : Int), v = .int (iI r) ∧ Fr W_em M M2 ∧ M2.1 65 9 = iI q ∧ (r = e) ∧ (EmC M M2 e o0 o1)) := by subst h2; exact a87 hd hR h9 hv0 hv1 h
theorem a196q {d : Nat} {M : Mem} (hd : 1 ≤ d) (hR : RT M) {e : Int} (h43 : M.1 160 43 = iI e) {ut mu : Int} (h49 : M.1 160 49 = iI ut) (h48 : M.1 160 48 = iI mu) {v0 v1 : Int32} {o0 o1 : Int} (hv0 : v0 = iI o0) (hv1 : v1 = iI o1) {q : Int} (h2 : q = e + 1) (h : 0 ≤ e ∧ e < 4000 ∧ 0 ≤ o0 ∧ o0 ≤ 34 ∧ 0 ≤ ut ∧ ut ≤ 8 ∧ 0 ≤ mu ∧ mu ≤ 1) : Rt (runX d 196 [va_rf (some 160), .int (v0), .int (v1)] M) (fun v M2 => ∃ (r : Int), v = .int (iI r) ∧ Fr W_er M M2 ∧ M2.1 160 43 = iI q ∧ (r = e) ∧ (EmR M M2 e o0 o1 ut mu)) := by subst h2; exact a196 hd hR h43 h49 h48 hv0 hv1 h
/-- both went on alike: the class to token ic, the reference to token ir -/
def PS (gp dt ut mu m : Int) (kd pl E : Int → Int) (tx : Int → Int64) (Mc Mr : Mem) (G U : Nat → Int → Int) (Hl : Int → Int64) (X : Nat → Int → Int64) (i e s u uc dp : Int) (Mc' Mr' : Mem) (ic ir s' : Int) (Hl' : Int → Int64) : Prop := ∃ (e' u' uc' : Int) (G' U' : Nat → Int → Int) (X' : Nat → Int → Int64), Fr W_cp Mc Mc' ∧ Fr W_rx Mr Mr' ∧ SC Mc' kd ic e' s' uc' ∧ SR Mr' kd pl E tx ir e' s' u' dp ∧ RW Mc' Mr' G' U' Hl' X' e' s' u' uc' ∧ BD m ic e' s' u' uc' dp ∧ (i < ic ∧ e ≤ e' ∧ e' - e + gp ≤ ic - i ∧ u ≤ u' ∧ uc' - uc ≤ ic - i ∧ uc ≤ uc') ∧ Ag G G' e ∧ Ag U U' u ∧ AgL X X' u ∧ Tyb dt G' e e' s s' ∧ DU ut mu uc G' U' X' e e' u u' ∧ KU uc Mc Mc' ∧ (s ≤ s' ∧ ∀ j, 0 ≤ j → j < s → Hl' j = Hl j)
def PSO (dt ut mu m : Int) (kd pl E : Int → Int) (tx : Int → Int64) (Mc Mr : Mem) (G U : Nat → Int → Int) (Hl : Int → Int64) (X : Nat → Int → Int64) (i e s u uc dp b : Int) (Mc' Mr' : Mem) : Prop := (∃ (i' s' : Int) (Hl' : Int → Int64), PS 0 dt ut mu m kd pl E tx Mc Mr G U Hl X i e s u uc dp Mc' Mr' i' i' s' Hl') ∨ ∃ F P : Int, Fr W_cp Mc Mc' ∧ Fr W_rp Mr Mr' ∧ FTc m F P Mc' ∧ FTr b F P Mr'
def PBO (dt ut mu m : Int) (kd pl E : Int → Int) (tx : Int → Int64) (Mc Mr : Mem) (G U : Nat → Int → Int) (Hl : Int → Int64) (X : Nat → Int → Int64) (i e s u uc dp b : Int) (Mc' Mr' : Mem) : Prop := (∃ i' : Int, dp < 20 ∧ PS 2 dt ut mu m kd pl E tx Mc Mr G U Hl X i e s u uc dp Mc' Mr' i' i' s Hl) ∨ ∃ F P : Int, Fr W_cp Mc Mc' ∧ Fr W_rp Mr Mr' ∧ FTc m F P Mc' ∧ FTr b F P Mr'
/-- the class behind a block, the reference ahead of its last } -/
def PBX (dt ut mu m : Int) (kd pl E : Int → Int) (tx : Int → Int64) (Mc Mr : Mem) (G U : Nat → Int → Int) (Hl : Int → Int64) (X : Nat → Int → Int64) (i e s u uc dp b : Int) (Mc' Mr' : Mem) : Prop := (∃ i' : Int, kd i' = 125 ∧ dp < 20 ∧ PS 2 dt ut mu m kd pl E tx Mc Mr G U Hl X i e s u uc dp Mc' Mr' (i' + 1) i' s Hl) ∨ ∃ F P : Int, Fr W_cp Mc Mc' ∧ Fr W_rp Mr Mr' ∧ FTc m F P Mc' ∧ FTr b F P Mr'
/-- a statement of one kind -/
def PairT (K : Int) (qc : Nat) (lv : List Value) (D : Nat) (dp : Int) : Prop := ∀ (d d' : Nat), D ≤ d → D ≤ d' → ∀ (T : Int → Int) (n m : Int) (kd pl E : Int → Int) (tx : Int → Int64) (ua : Nat) (ut mu : Int) (Mc Mr : Mem) (G U : Nat → Int → Int) (Hl : Int → Int64) (X : Nat → Int → Int64) (i e s u uc : Int) (v0 : Int32), TkS T n m kd pl E tx → Cx T n m kd pl tx ua ut mu Mc Mr → SC Mc kd i e s uc → SR Mr kd pl E tx i e s u dp → RW Mc Mr G U Hl X e s u uc → BD m i e s u uc dp → kd i = K → v0 = iI dp → Rs (runX d qc (va_rf (some 65) :: (lv ++ [.int v0])) Mc) (runX d' 214 [va_rf (some 160)] Mr) (fun _ Mc' _ Mr' => PSO dp ut mu m kd pl E tx Mc Mr G U Hl X i e s u uc dp (2500 - 30 * dp - 8) Mc' Mr')
/-- a statement -/
def PairS (D : Nat) (dp : Int) : Prop := ∀ (d d' : Nat), D ≤ d → D ≤ d' → ∀ (T : Int → Int) (n m : Int) (kd pl E : Int → Int) (tx : Int → Int64) (ua : Nat) (ut mu : Int) (Mc Mr : Mem) (G U : Nat → Int → Int) (Hl : Int → Int64) (X : Nat → Int → Int64) (i e s u uc : Int) (v0 : Int32), TkS T n m kd pl E tx → Cx T n m kd pl tx ua ut mu Mc Mr → SC Mc kd i e s uc → SR Mr kd pl E tx i e s u dp → RW Mc Mr G U Hl X e s u uc → BD m i e s u uc dp → v0 = iI dp → Rs (runX d 90 [va_rf (some 65), .int v0] Mc) (runX d' 214 [va_rf (some 160)] Mr) (fun _ Mc' _ Mr' => PSO dp ut mu m kd pl E tx Mc Mr G U Hl X i e s u uc dp (2500 - 30 * dp - 8) Mc' Mr')
/-- a block -/
def PairB (D : Nat) (dp : Int) : Prop := ∀ (d d' : Nat), D ≤ d → D ≤ d' → ∀ (T : Int → Int) (n m : Int) (kd pl E : Int → Int) (tx : Int → Int64) (ua : Nat) (ut mu : Int) (Mc Mr : Mem) (G U : Nat → Int → Int) (Hl : Int → Int64) (X : Nat → Int → Int64) (i e s u uc : Int) (v0 : Int32), TkS T n m kd pl E tx → Cx T n m kd pl tx ua ut mu Mc Mr → SC Mc kd i e s uc → SR Mr kd pl E tx i e s u dp → RW Mc Mr G U Hl X e s u uc → BD m i e s u uc dp → v0 = iI dp → Rs (runX d 89 [va_rf (some 65), .int v0] Mc) (runX d' 213 [va_rf (some 160)] Mr) (fun _ Mc' _ Mr' => PBO (dp + 1) ut mu m kd pl E tx Mc Mr G U Hl X i e s u uc dp (2500 - 30 * dp - 30) Mc' Mr')
theorem PairT.le {K : Int} {qc : Nat} {lv : List Value} {D D' : Nat} {dp : Int} (h : PairT K qc lv D dp) (hD : D ≤ D') : PairT K qc lv D' dp := fun d d' a b => h d d' (by omega) (by omega)
theorem PairS.le {D D' : Nat} {dp : Int} (h : PairS D dp) (hD : D ≤ D') : PairS D' dp := fun d d' a b => h d d' (by omega) (by omega)
theorem PairB.le {D D' : Nat} {dp : Int} (h : PairB D dp) (hD : D ≤ D') : PairB D' dp := fun d d' a b => h d d' (by omega) (by omega)
