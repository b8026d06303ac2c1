/-! what came: uses that are settled, numbers that are the same in both, and the shape of the codes: heights, LOCALS, TRYs -/
/-- the same below a place -/
def Ag (G G' : Nat → Int → Int) (e : Int) : Prop := ∀ k j, j < e → G' k j = G k j
def AgL (X X' : Nat → Int → Int64) (e : Int) : Prop := ∀ k j, j < e → X' k j = X k j
/-- a use that is settled: its code lies between a and b -/
def UsK (ut c : Int) (G U : Nat → Int → Int) (X : Nat → Int → Int64) (a b j : Int) : Prop := (0 ≤ U 1 j ∧ U 1 j ≤ 4) ∧ (U 1 j < 3 ∧ U 7 j = U 1 j + 1 ∨ 3 ≤ U 1 j ∧ U 7 j = U 1 j) ∧ U 8 j = U 2 j ∧ (a ≤ U 2 j ∧ U 2 j < b) ∧ G 0 (U 2 j) = U 1 j + 3 ∧ (U 1 j = 4 → U 9 j = U 5 j ∧ G 6 (U 2 j) = U 5 j) ∧ c ≤ U 0 j ∧ U 6 j = ut ∧ (X 0 j = 0 ∨ U 3 j = U 10 j)
def CoK (ut mu : Int) (G U : Nat → Int → Int) (u v j : Int) : Prop := (G 4 j = ut ∧ G 5 j = mu) ∧ ((G 1 j = G 3 j ∧ (G 0 j < 3 ∨ 7 < G 0 j)) ∨ ∃ q, u ≤ q ∧ q < v ∧ U 2 q = j)
def DU (ut mu c : Int) (G U : Nat → Int → Int) (X : Nat → Int → Int64) (a b u v : Int) : Prop := (a ≤ b ∧ u ≤ v) ∧ (∀ j, u ≤ j → j < v → UsK ut c G U X a b j) ∧ ∀ j, a ≤ j → j < b → CoK ut mu G U u v j
/-- where a code goes on: within, or at the end -/
def NxT (Y : Nat → Int → Int) (a b h' s' td tp t H S T P : Int) : Prop := a ≤ t ∧ ((t < b ∧ Y 0 t = H ∧ Y 1 t ≤ S ∧ Y 2 t = T ∧ Y 3 t = P) ∨ (t = b ∧ H = h' ∧ s' ≤ S ∧ T = td ∧ P = tp))
/-- what an operation that goes on to the next code does: height and LOCALS before and behind it -/
def Eff (o n g d s d' s' : Int) : Prop := ((o = 0 ∨ o = 3) ∧ d' = d + 1 ∧ s' = s) ∨ (o = 1 ∧ 0 ≤ n ∧ n < s ∧ d' = d + 1 ∧ s' = s) ∨ (o = 2 ∧ 0 ≤ n ∧ n ≤ 9 ∧ (n < s ∧ s' = s ∨ n = s ∧ s' = s + 1) ∧ 1 ≤ d ∧ d' = d - 1) ∨ ((o = 4 ∨ ((o = 9 ∨ o = 28 ∨ o = 29) ∧ n = 0)) ∧ 1 ≤ d ∧ d' = d - 1 ∧ s' = s) ∨ ((o = 5 ∨ ((o = 21 ∨ o = 22 ∨ o = 23) ∧ n = 0)) ∧ 1 ≤ d ∧ d' = d ∧ s' = s) ∨ (o = 6 ∧ 2 ≤ d ∧ d' = d - 2 ∧ s' = s) ∨ (o = 7 ∧ 0 ≤ g ∧ g ≤ d ∧ d' = d - g + 1 ∧ s' = s) ∨ ((10 ≤ o ∧ o ≤ 20 ∧ n = 0) ∧ 2 ≤ d ∧ d' = d - 1 ∧ s' = s) ∨ ((o = 8 ∧ n = 0) ∧ 1 ≤ d ∧ d' = d - 1 ∧ s' = s)
/-- an operation and where it goes on: RETURN nowhere, JUMPZ (24), JUMP (25), TRY (26), ENDTRY (27) -/
def OpT (nx : Int → Int → Int → Int → Int → Prop) (pr : Int → Int → Prop) (o n g H S T P j : Int) : Prop := (∃ H' S', Eff o n g H S H' S' ∧ (o = 8 ∨ nx (j + 1) H' S' T P)) ∨ (o = 24 ∧ 1 ≤ H ∧ nx (j + 1) (H - 1) S T P ∧ nx n (H - 1) S T P) ∨ (o = 25 ∧ nx n H S T P) ∨ (o = 26 ∧ H = 0 ∧ nx (j + 1) H S (T + 1) j ∧ nx n 1 S T P) ∨ ((o = 27 ∧ n = 0) ∧ 1 ≤ T ∧ ∃ q, pr P q ∧ nx (j + 1) H S (T - 1) q)
/-- what is caught where -/
def CtT (G Y : Nat → Int → Int) (a td tp j : Int) : Prop := (Y 3 j = tp ∧ Y 2 j = td ∧ (G 0 j = 27 ∨ G 2 j = -2)) ∨ (a ≤ Y 3 j ∧ Y 3 j < j ∧ G 0 (Y 3 j) = 26 ∧ Y 2 (Y 3 j) = Y 2 j - 1 ∧ (G 0 j = 27 ∨ G 2 j = G 3 (Y 3 j)))
/-- the codes from a to b, begun at height h with s LOCALS within td TRYs, the innermost at tp; at their end h' and s'; K: other ends. Y: height, LOCALS, TRYs, the innermost TRY -/
def TyX (K : Int → Int → Int → Int → Int → Prop) (G Y : Nat → Int → Int) (a b h s td tp h' s' : Int) : Prop := (a ≤ b ∧ 0 ≤ h ∧ 0 ≤ h' ∧ h' ≤ h + (b - a) ∧ (a = b → h' = h ∧ s' ≤ s) ∧ (a < b → Y 0 a = h ∧ Y 1 a ≤ s ∧ Y 2 a = td ∧ Y 3 a = tp)) ∧ ∀ j, a ≤ j → j < b → (0 ≤ Y 0 j ∧ Y 0 j ≤ h + (j - a) ∧ 0 ≤ Y 1 j ∧ Y 1 j ≤ 10 ∧ 0 ≤ Y 2 j ∧ Y 2 j ≤ 20) ∧ CtT G Y a td tp j ∧ OpT (fun t H S T P => NxT Y a b h' s' td tp t H S T P ∨ K t H S T P) (fun P q => a ≤ P ∧ Y 3 P = q) (G 0 j) (G 3 j) (G 6 j) (Y 0 j) (Y 1 j) (Y 2 j) (Y 3 j) j
/-- no other ends -/
def NoX : Int → Int → Int → Int → Int → Prop := fun _ _ _ _ _ => False
/-- codes of an expression: they add d numbers, at whatever height -/
def Tye (G : Nat → Int → Int) (a b s d : Int) : Prop := ∀ h td tp, 0 ≤ h → 0 ≤ td → td ≤ 20 → tp < a → ∃ Y, TyX NoX G Y a b h s td tp (h + d) s
/-- codes of statements, from height 0 to height 0 -/
def Tyb (dp : Int) (G : Nat → Int → Int) (a b s s' : Int) : Prop := ∀ td tp, 0 ≤ td → td ≤ dp → -1 ≤ tp → tp < a → ∃ Y, TyX NoX G Y a b 0 s td tp 0 s'
section S35b
variable {G G' G2 U U' Y Y' Y2 : Nat → Int → Int} {X X' X2 : Nat → Int → Int64} {a b c q e u v w x ut mu h h' h2 s s' s2 td tp o n n1 g d d' d2 d3 j p dp : Int} {l : List Int} {K K2 : Int → Int → Int → Int → Int → Prop}
theorem Ag.r : Ag G G e := fun _ _ _ => rfl
theorem Ag.t (h : Ag G G' e) (k : Ag G' G2 b) (hb : e ≤ b) : Ag G G2 e := fun x j p => (k x j (by omega)).trans (h x j p)
theorem Ag.pu (h : Ag G G' e) (hq : e ≤ q) : Ag G (pu G' q l) e := fun k j p => (pu_n (by omega)).trans (h k j p)
theorem Ag.lo (h : Ag G G' e) (hq : a ≤ e) : Ag G G' a := fun k j p => h k j (by omega)
theorem AgL.r : AgL X X e := fun _ _ _ => rfl
theorem AgL.t (h : AgL X X' e) (k : AgL X' X2 b) (hb : e ≤ b) : AgL X X2 e := fun x j p => (k x j (by omega)).trans (h x j p)
theorem DU.r : DU ut mu c G U X a a u u := ⟨⟨by omega, by omega⟩, fun j p z => absurd z (by omega), fun j p z => absurd z (by omega)⟩
theorem UsK.ag (h : UsK ut c G U X a b j) (hg : ∀ k t, a ≤ t → t < b → G' k t = G k t) (hu : ∀ k, U' k j = U k j) (hx : ∀ k, X' k j = X k j) (ha : p ≤ a) (hb : b ≤ q) (hc : d ≤ c) : UsK ut d G' U' X' p q j := by
  obtain ⟨h1, h2, h3, h4, h5, h6, h7, h8, h9⟩ := h
  refine ⟨by rw [hu]; exact h1, by rw [hu, hu]; exact h2, by rw [hu, hu]; exact h3, by rw [hu]; omega, by rw [hu, hu, hg _ _ h4.1 h4.2]; exact h5, ?_, by rw [hu]; omega, by rw [hu]; exact h8, by rw [hx, hu, hu]; exact h9⟩
  rw [hu, hu, hu, hu, hg _ _ h4.1 h4.2]; exact h6
theorem CoK.ag (h : CoK ut mu G U u v j) (hg : ∀ k, G' k j = G k j) (hu : ∀ k t, u ≤ t → t < v → U' k t = U k t) (ha : p ≤ u) (hb : v ≤ q) : CoK ut mu G' U' p q j := by
  obtain ⟨h1, h2⟩ := h
  refine ⟨by rw [hg, hg]; exact h1, ?_⟩
  rw [hg, hg, hg]
  rcases h2 with h2 | ⟨t, t1, t2, t3⟩
  · exact Or.inl h2
  · exact Or.inr ⟨t, by omega, by omega, by rw [hu _ _ t1 t2]; exact t3⟩
theorem DU.cg (h : DU ut mu c G U X a b u v) (hg : ∀ k t, a ≤ t → t < b → G' k t = G k t) (hu : ∀ k t, u ≤ t → t < v → U' k t = U k t) (hx : ∀ k t, u ≤ t → t < v → X' k t = X k t) : DU ut mu c G' U' X' a b u v :=
  ⟨h.1, fun j p z => (h.2.1 j p z).ag hg (fun k => hu k j p z) (fun k => hx k j p z) (Int.le_refl _) (Int.le_refl _) (Int.le_refl _), fun j p z => (h.2.2 j p z).ag (fun k => hg k j p z) hu (Int.le_refl _) (Int.le_refl _)⟩
theorem DU.ag (h : DU ut mu c G U X a b u v) (hg : Ag G G' b) (hu : Ag U U' v) (hx : AgL X X' v) : DU ut mu c G' U' X' a b u v :=
  h.cg (fun k t _ z => hg k t z) (fun k t _ z => hu k t z) (fun k t _ z => hx k t z)
theorem DU.t (h : DU ut mu c G U X a b u v) (hg : Ag G G' b) (hu : Ag U U' v) (hx : AgL X X' v) (k : DU ut mu d G' U' X' b e v w) (hd : c ≤ d) : DU ut mu c G' U' X' a e u w := by
  have h' := h.ag hg hu hx
  obtain ⟨⟨q1, q2⟩, h1, h2⟩ := h'
  obtain ⟨⟨k1, k2⟩, k3, k4⟩ := k
  refine ⟨⟨by omega, by omega⟩, fun j p z => ?_, fun j p z => ?_⟩
  · by_cases y : j < v
    · exact (h1 j p y).ag (fun _ _ _ _ => rfl) (fun _ => rfl) (fun _ => rfl) (Int.le_refl _) k1 (Int.le_refl _)
    · exact (k3 j (by omega) z).ag (fun _ _ _ _ => rfl) (fun _ => rfl) (fun _ => rfl) q1 (Int.le_refl _) hd
  · by_cases y : j < b
    · exact (h2 j p y).ag (fun _ => rfl) (fun _ _ _ _ => rfl) (Int.le_refl _) k2
    · exact (k4 j (by omega) z).ag (fun _ => rfl) (fun _ _ _ _ => rfl) q2 (Int.le_refl _)
theorem DU.em (h : DU ut mu c G U X a b u v) (ho : o < 3 ∨ 7 < o) (hq : q = b + 1) : DU ut mu c (pu G b (o :: n :: p :: n :: ut :: mu :: l)) U X a q u v := by
  obtain ⟨⟨q1, q2⟩, h1, h2⟩ := h
  have hg : ∀ k t, a ≤ t → t < b → pu G b (o :: n :: p :: n :: ut :: mu :: l) k t = G k t := fun k t _ z => pu_n (by omega)
  refine ⟨⟨by omega, q2⟩, fun j p z => (h1 j p z).ag hg (fun _ => rfl) (fun _ => rfl) (Int.le_refl _) (by omega) (Int.le_refl _), fun j p z => ?_⟩
  by_cases y : j = b
  · unfold CoK
    rw [pu_e y, pu_e y, pu_e y, pu_e y, pu_e y]
    exact ⟨⟨rfl, rfl⟩, Or.inl ⟨rfl, ho⟩⟩
  · exact (h2 j p (by omega)).ag (fun k => pu_n y) (fun _ _ _ _ => rfl) (Int.le_refl _) (Int.le_refl _)
/-- codes that only differ in their numbers, both alike -/
theorem DU.nm (h : DU ut mu c G U X a b u v) (hg : ∀ k t, k ≠ 1 → k ≠ 3 → k ≠ 2 → G' k t = G k t) (h1 : ∀ t, G' 1 t = G 1 t ∧ G' 3 t = G 3 t ∨ G' 1 t = G' 3 t) : DU ut mu c G' U X a b u v := by
  obtain ⟨hq, k1, k2⟩ := h
  refine ⟨hq, fun j p z => ?_, fun j p z => ?_⟩
  · obtain ⟨e1, e2, e3, e4, e5, e6, e7, e8, e9⟩ := k1 j p z
    refine ⟨e1, e2, e3, e4, by rw [hg 0 _ (by decide) (by decide) (by decide)]; exact e5, by rw [hg 6 _ (by decide) (by decide) (by decide)]; exact e6, e7, e8, e9⟩
  · obtain ⟨⟨e1, e2⟩, e3⟩ := k2 j p z
    refine ⟨⟨(hg 4 _ (by decide) (by decide) (by decide)).trans e1, (hg 5 _ (by decide) (by decide) (by decide)).trans e2⟩, ?_⟩
    rcases e3 with ⟨e3, e4⟩ | e3
    · refine Or.inl ⟨?_, by rw [hg 0 _ (by decide) (by decide) (by decide)]; exact e4⟩
      rcases h1 j with ⟨f1, f2⟩ | f1
      · rw [f1, f2]; exact e3
      · exact f1
    · exact Or.inr e3
theorem Eff.up (h : Eff o n g d s d' s') (hh : 0 ≤ h2) : Eff o n g (h2 + d) s (h2 + d') s' := by
  unfold Eff at h ⊢
  rcases h with h | h | h | h | h | h | h | h | h
  · exact Or.inl ⟨h.1, by omega, h.2.2⟩
  · exact Or.inr (Or.inl ⟨h.1, h.2.1, h.2.2.1, by omega, h.2.2.2.2⟩)
  · exact Or.inr (Or.inr (Or.inl ⟨h.1, h.2.1, h.2.2.1, h.2.2.2.1, by omega, by omega⟩))
  · exact Or.inr (Or.inr (Or.inr (Or.inl ⟨h.1, by omega, by omega, h.2.2.2⟩)))
  · exact Or.inr (Or.inr (Or.inr (Or.inr (Or.inl ⟨h.1, by omega, by omega, h.2.2.2⟩))))
  · exact Or.inr (Or.inr (Or.inr (Or.inr (Or.inr (Or.inl ⟨h.1, by omega, by omega, h.2.2.2⟩)))))
  · exact Or.inr (Or.inr (Or.inr (Or.inr (Or.inr (Or.inr (Or.inl ⟨h.1, h.2.1, by omega, by omega, h.2.2.2.2⟩))))))
  · exact Or.inr (Or.inr (Or.inr (Or.inr (Or.inr (Or.inr (Or.inr (Or.inl ⟨h.1, by omega, by omega, h.2.2.2⟩)))))))
  · exact Or.inr (Or.inr (Or.inr (Or.inr (Or.inr (Or.inr (Or.inr (Or.inr ⟨h.1, by omega, by omega, h.2.2.2⟩)))))))
theorem Eff.pos (h : Eff o n g d s d' s') : d' ≤ d + 1 := by
  unfold Eff at h
  rcases h with h | h | h | h | h | h | h | h | h
  · have := h.2.1; omega
  · have := h.2.2.2.1; omega
  · have := h.2.2.2.2.2; omega
  · have := h.2.2.1; omega
  · have := h.2.2.1; omega
  · have := h.2.2.1; omega
  · have := h.2.2.2.1; have := h.2.1; omega
  · have := h.2.2.1; omega
  · have := h.2.2.1; omega
/-- one row of Ys and, from b on, another -/
def gl (b : Int) (Y Y2 : Nat → Int → Int) : Nat → Int → Int := fun k t => if t < b then Y k t else Y2 k t
def yc (h s td tp : Int) : Nat → Int → Int := fun k _ => [h, s, td, tp].getD k 0
theorem gl_l {r : Nat} (y : j < b) : gl b Y Y2 r j = Y r j := if_pos y
theorem gl_r {r : Nat} (y : ¬ j < b) : gl b Y Y2 r j = Y2 r j := if_neg y
theorem NxT.mo {t H S T P : Int} (h : NxT Y a b h' s' td tp t H S T P) (hY : ∀ k t, t < b → Y' k t = Y k t) (hb : b ≤ c) (hc : b = c → h2 = h' ∧ s2 ≤ s') (hl : b < c → Y' 0 b = h' ∧ Y' 1 b ≤ s' ∧ Y' 2 b = td ∧ Y' 3 b = tp) (ha : p ≤ a) : NxT Y' p c h2 s2 td tp t H S T P := by
  obtain ⟨k0, ⟨k1, k2, k3, k4, k5⟩ | ⟨k1, k2, k3, k4, k5⟩⟩ := h
  · exact ⟨by omega, Or.inl ⟨by omega, by rw [hY _ _ k1]; exact k2, by rw [hY _ _ k1]; exact k3, by rw [hY _ _ k1]; exact k4, by rw [hY _ _ k1]; exact k5⟩⟩
  · subst k1
    refine ⟨by omega, ?_⟩
    rcases Int.lt_or_eq_of_le hb with y | y
    · obtain ⟨e1, e2, e3, e4⟩ := hl y
      exact Or.inl ⟨y, by omega, by omega, by omega, by omega⟩
    · obtain ⟨e1, e2⟩ := hc y
      exact Or.inr ⟨y, by omega, by omega, k4, k5⟩
theorem OpT.mo {nx nx' : Int → Int → Int → Int → Int → Prop} {pr pr' : Int → Int → Prop} {H S T P : Int} (h : OpT nx pr o n g H S T P j) (h1 : ∀ t H S T P, nx t H S T P → nx' t H S T P) (h2 : ∀ q, pr P q → pr' P q) : OpT nx' pr' o n g H S T P j := by
  rcases h with ⟨H', S', e, k⟩ | ⟨e, f, k, m⟩ | ⟨e, k⟩ | ⟨e, f, k, m⟩ | ⟨e, f, q, k, m⟩
  · exact Or.inl ⟨H', S', e, k.imp id (h1 _ _ _ _ _)⟩
  · exact Or.inr (Or.inl ⟨e, f, h1 _ _ _ _ _ k, h1 _ _ _ _ _ m⟩)
  · exact Or.inr (Or.inr (Or.inl ⟨e, h1 _ _ _ _ _ k⟩))
  · exact Or.inr (Or.inr (Or.inr (Or.inl ⟨e, f, h1 _ _ _ _ _ k, h1 _ _ _ _ _ m⟩)))
  · exact Or.inr (Or.inr (Or.inr (Or.inr ⟨e, f, q, h2 _ k, h1 _ _ _ _ _ m⟩)))
theorem NxT.rt {t H S T P : Int} (h : NxT Y2 q c h' s' td tp t H S T P) (ha : a ≤ q) : NxT (gl q Y Y2) a c h' s' td tp t H S T P := by
  obtain ⟨n0, n1⟩ := h
  have y : ¬ t < q := by omega
  refine ⟨by omega, ?_⟩
  rw [gl_r y, gl_r y, gl_r y, gl_r y]
  exact n1
/-- two rows of codes, one behind the other -/
theorem TyX.t (h1 : TyX K G Y a b h s td tp h' s') (k1 : TyX K G Y2 b c h' s' td tp h2 s2) (ht : tp < a) : TyX K G (gl b Y Y2) a c h s td tp h2 s2 := by
  obtain ⟨⟨a1, a2, a3, a4, a5, a6⟩, a7⟩ := h1
  obtain ⟨⟨b1, b2, b3, b4, b5, b6⟩, b7⟩ := k1
  have yb : b < c → gl b Y Y2 0 b = h' ∧ gl b Y Y2 1 b ≤ s' ∧ gl b Y Y2 2 b = td ∧ gl b Y Y2 3 b = tp := fun e => by
    have y : ¬ b < b := by omega
    rw [gl_r y, gl_r y, gl_r y, gl_r y]; exact b6 e
  refine ⟨⟨by omega, a2, b3, by omega, fun z => ?_, fun z => ?_⟩, fun j p z => ?_⟩
  · have := a5 (by omega); have := b5 (by omega); omega
  · by_cases y : a < b
    · rw [gl_l y, gl_l y, gl_l y, gl_l y]; exact a6 y
    · have e : a = b := by omega
      have := a5 e
      have := b6 (by omega)
      rw [gl_r y, gl_r y, gl_r y, gl_r y, e]; omega
  · by_cases y : j < b
    · obtain ⟨c1, c2, c3⟩ := a7 j p y
      have hq : ∀ q, (a ≤ Y 3 j ∧ Y 3 (Y 3 j) = q) → (a ≤ Y 3 j ∧ gl b Y Y2 3 (Y 3 j) = q) := fun q n => by
        refine ⟨n.1, ?_⟩
        have n1 := n.1
        rcases c2 with c2 | c2
        · have := c2.1; omega
        · rw [gl_l (by omega)]; exact n.2
      have hc : CtT G (gl b Y Y2) a td tp j := by
        unfold CtT at c2 ⊢
        rw [gl_l y, gl_l y]
        rcases c2 with c2 | ⟨d1, d2, d3, d4, d5⟩
        · exact Or.inl c2
        · have y3 : Y 3 j < b := by omega
          exact Or.inr ⟨d1, d2, d3, by rw [gl_l y3]; exact d4, d5⟩
      rw [gl_l y, gl_l y, gl_l y, gl_l y]
      exact ⟨c1, hc, c3.mo (fun t H S T P n => n.imp (fun n => n.mo (fun k t z => gl_l z) b1 b5 yb (Int.le_refl _)) id) hq⟩
    · obtain ⟨c1, c2, c3⟩ := b7 j (by omega) z
      have hc : CtT G (gl b Y Y2) a td tp j := by
        unfold CtT at c2 ⊢
        rw [gl_r y, gl_r y]
        rcases c2 with c2 | ⟨d1, d2, d3, d4, d5⟩
        · exact Or.inl c2
        · have y3 : ¬ Y2 3 j < b := by omega
          exact Or.inr ⟨by omega, d2, d3, by rw [gl_r y3]; exact d4, d5⟩
      rw [gl_r y, gl_r y, gl_r y, gl_r y]
      exact ⟨⟨c1.1, by omega, c1.2.2⟩, hc, c3.mo (fun t H S T P n => n.imp (fun n => n.rt a1) id) (fun q n => ⟨Int.le_trans a1 n.1, (gl_r (Int.not_lt.mpr n.1)).trans n.2⟩)⟩
theorem TyX.ag (h1 : TyX K G Y a b h s td tp h' s') (hg : ∀ k t, a ≤ t → t < b → G' k t = G k t) : TyX K G' Y a b h s td tp h' s' := by
  refine ⟨h1.1, fun j p z => ?_⟩
  obtain ⟨c1, c2, c3⟩ := h1.2 j p z
  refine ⟨c1, ?_, ?_⟩
  · unfold CtT at c2 ⊢
    rw [hg 0 j p z, hg 2 j p z]
    rcases c2 with c2 | ⟨d1, d2, d3, d4, d5⟩
    · exact Or.inl c2
    · exact Or.inr ⟨d1, d2, by rw [hg 0 _ d1 (by omega)]; exact d3, d4, by rw [hg 3 _ d1 (by omega)]; exact d5⟩
  · rw [hg 0 j p z, hg 3 j p z, hg 6 j p z]; exact c3
/-- other ends more; fewer LOCALS at the end -/
theorem TyX.mo (h1 : TyX K G Y a b h s td tp h' s') (hk : ∀ t H S T P, K t H S T P → K2 t H S T P) (hs : s2 ≤ s') : TyX K2 G Y a b h s td tp h' s2 := by
  obtain ⟨⟨a1, a2, a3, a4, a5, a6⟩, a7⟩ := h1
  refine ⟨⟨a1, a2, a3, a4, fun e => ⟨(a5 e).1, by have := (a5 e).2; omega⟩, a6⟩, fun j p z => ?_⟩
  obtain ⟨c1, c2, c3⟩ := a7 j p z
  exact ⟨c1, c2, c3.mo (fun t H S T P n => n.imp (fun n => n.mo (fun _ _ _ => rfl) (Int.le_refl _) (fun _ => ⟨rfl, hs⟩) (fun e => absurd e (by omega)) (Int.le_refl _)) (hk _ _ _ _ _)) (fun q n => n)⟩
theorem TyX.cl (h1 : TyX K G Y a b h s td tp h' s') (hk : ∀ t H S T P, K t H S T P → t = a ∧ H = h ∧ s ≤ S ∧ T = td ∧ P = tp) (hab : a < b) : TyX NoX G Y a b h s td tp h' s' := by
  obtain ⟨a0, a7⟩ := h1
  have a6 := a0.2.2.2.2.2 hab
  refine ⟨a0, fun j p z => ?_⟩
  obtain ⟨c1, c2, c3⟩ := a7 j p z
  refine ⟨c1, c2, c3.mo (fun t H S T P n => ?_) (fun q n => n)⟩
  rcases n with n | n
  · exact Or.inl n
  · obtain ⟨e1, e2, e3, e4, e5⟩ := hk t H S T P n
    subst e1
    exact Or.inl ⟨Int.le_refl _, Or.inl ⟨hab, by omega, by omega, by omega, by omega⟩⟩
/-- one code ahead of others -/
theorem TyX.co (k : TyX K G Y (a + 1) b h2 s2 td tp h' s') (ho : OpT (fun t H S T P => NxT (gl (a + 1) (yc h s td tp) Y) a b h' s' td tp t H S T P ∨ K t H S T P) (fun _ _ => False) (G 0 a) (G 3 a) (G 6 a) h s td tp a) (hc : G 0 a = 27 ∨ G 2 a = -2) (hh : 0 ≤ h) (h1 : h2 ≤ h + 1) (hs : 0 ≤ s ∧ s ≤ 10) (ht : 0 ≤ td ∧ td ≤ 20) (hp : tp < a) : TyX K G (gl (a + 1) (yc h s td tp) Y) a b h s td tp h' s' := by
  obtain ⟨⟨b1, b2, b3, b4, b5, b6⟩, b7⟩ := k
  have e0 : a < a + 1 := by omega
  refine ⟨⟨by omega, hh, b3, by omega, fun e => absurd e (by omega), fun _ => ?_⟩, fun j p z => ?_⟩
  · rw [gl_l e0, gl_l e0, gl_l e0, gl_l e0]; exact ⟨rfl, Int.le_refl _, rfl, rfl⟩
  · by_cases y : j = a
    · subst y
      have hc2 : CtT G (gl (j + 1) (yc h s td tp) Y) j td tp j := by
        unfold CtT
        rw [gl_l e0, gl_l e0]; exact Or.inl ⟨rfl, rfl, hc⟩
      rw [gl_l e0, gl_l e0, gl_l e0, gl_l e0]
      exact ⟨⟨hh, by show h ≤ _; omega, hs.1, hs.2, ht.1, ht.2⟩, hc2, ho.mo (fun _ _ _ _ _ n => n) (fun q n => n.elim)⟩
    · have y2 : ¬ j < a + 1 := by omega
      obtain ⟨c1, c2, c3⟩ := b7 j (by omega) z
      have hc2 : CtT G (gl (a + 1) (yc h s td tp) Y) a td tp j := by
        unfold CtT at c2 ⊢
        rw [gl_r y2, gl_r y2]
        rcases c2 with c2 | ⟨d1, d2, d3, d4, d5⟩
        · exact Or.inl c2
        · have y3 : ¬ Y 3 j < a + 1 := by omega
          exact Or.inr ⟨by omega, d2, d3, by rw [gl_r y3]; exact d4, d5⟩
      rw [gl_r y2, gl_r y2, gl_r y2, gl_r y2]
      exact ⟨⟨c1.1, by omega, c1.2.2⟩, hc2, c3.mo (fun t H S T P n => n.imp (fun n => n.rt (by omega)) id) (fun q n => ⟨by have := n.1; omega, (gl_r (Int.not_lt.mpr n.1)).trans n.2⟩)⟩
/-- one code that goes on to the next -/
theorem TyX.one (he : Eff o n g d s d' s') (hd : 0 ≤ d) (hd' : 0 ≤ d') (hs : 0 ≤ s ∧ s ≤ 10) (ht : 0 ≤ td ∧ td ≤ 20) : TyX K (pu G b (o :: n1 :: -2 :: n :: ut :: mu :: g :: l)) (fun k _ => [d, s, td, tp].getD k 0) b (b + 1) d s td tp d' s' := by
  have hx := he.pos
  refine ⟨⟨by omega, hd, hd', by omega, fun z => absurd z (by omega), fun z => ⟨rfl, Int.le_refl _, rfl, rfl⟩⟩, fun j p z => ?_⟩
  have e : j = b := by omega
  refine ⟨⟨hd, by show d ≤ _; omega, hs.1, hs.2, ht.1, ht.2⟩, Or.inl ⟨rfl, rfl, Or.inr (by rw [pu_e e]; rfl)⟩, ?_⟩
  rw [pu_e e, pu_e e, pu_e e]
  exact Or.inl ⟨d', s', he, Or.inr (Or.inl ⟨by omega, Or.inr ⟨by omega, rfl, Int.le_refl _, rfl, rfl⟩⟩)⟩
theorem TyX.nil (h1 : 0 ≤ h) (h2 : s' ≤ s) : TyX K G Y a a h s td tp h s' := ⟨⟨by omega, h1, h1, by omega, fun _ => ⟨rfl, h2⟩, fun z => absurd z (by omega)⟩, fun j p z => absurd z (by omega)⟩
theorem Tye.r : Tye G a a s 0 := fun h td tp h1 _ _ _ => ⟨G, by rw [Int.add_zero]; exact TyX.nil h1 (Int.le_refl _)⟩
theorem Tye.ag (h : Tye G a b s d) (hg : ∀ k t, a ≤ t → t < b → G' k t = G k t) : Tye G' a b s d := fun h0 td tp h1 h2 h3 h4 => by
  obtain ⟨Y, k⟩ := h h0 td tp h1 h2 h3 h4
  exact ⟨Y, k.ag hg⟩
theorem Tye.t (h : Tye G a b s d) (hg : Ag G G' b) (k : Tye G' b c s d2) (hd : d3 = d + d2) : Tye G' a c s d3 := fun h0 td tp h1 h2 h3 h4 => by
  obtain ⟨Y, k1⟩ := h h0 td tp h1 h2 h3 h4
  obtain ⟨Y2, k2⟩ := k (h0 + d) td tp k1.1.2.2.1 h2 h3 (by have := k1.1.1; omega)
  subst hd
  rw [← Int.add_assoc]
  exact ⟨_, (k1.ag fun k t _ z => hg k t z).t k2 h4⟩
theorem Tye.em (h : Tye G a b s d) (he : Eff o n g d s d' s) (hd : 0 ≤ d') (hs : 0 ≤ s ∧ s ≤ 10) (hq : q = b + 1) : Tye (pu G b (o :: n1 :: -2 :: n :: ut :: mu :: g :: l)) a q s d' := fun h0 td tp h1 h2 h3 h4 => by
  obtain ⟨Y, k1⟩ := h h0 td tp h1 h2 h3 h4
  subst hq
  exact ⟨_, (k1.ag fun k t _ z => pu_n (by omega)).t (TyX.one (he.up h1) k1.1.2.2.1 (by omega) hs ⟨h2, h3⟩) h4⟩
/-- statements -/
theorem Tyb.r : Tyb dp G a a s s := fun td tp _ _ _ _ => ⟨G, TyX.nil (Int.le_refl _) (Int.le_refl _)⟩
theorem Tyb.ag (h : Tyb dp G a b s s') (hg : ∀ k t, a ≤ t → t < b → G' k t = G k t) : Tyb dp G' a b s s' := fun td tp h1 h2 h3 h4 => by
  obtain ⟨Y, k⟩ := h td tp h1 h2 h3 h4
  exact ⟨Y, k.ag hg⟩
theorem Tyb.t (h : Tyb dp G a b s s') (hg : Ag G G' b) (k : Tyb dp G' b c s' s2) : Tyb dp G' a c s s2 := fun td tp h1 h2 h3 h4 => by
  obtain ⟨Y, k1⟩ := h td tp h1 h2 h3 h4
  obtain ⟨Y2, k2⟩ := k td tp h1 h2 h3 (by have := k1.1.1; omega)
  exact ⟨_, (k1.ag fun k t _ z => hg k t z).t k2 h4⟩
theorem Tyb.lo (h : Tyb dp G a b s s') (hs : s2 ≤ s') (hd : d ≤ dp) : Tyb d G a b s s2 := fun td tp h1 h2 h3 h4 => by
  obtain ⟨Y, k1⟩ := h td tp h1 (by omega) h3 h4
  exact ⟨Y, k1.mo (fun _ _ _ _ _ z => z) hs⟩
/-- an expression and one code -/
theorem Tyb.ex (h : Tye G a b s d) (he : Eff o n g d s 0 s') (hdp : dp ≤ 20) (hs : 0 ≤ s ∧ s ≤ 10) (hq : q = b + 1) : Tyb dp (pu G b (o :: n1 :: -2 :: n :: ut :: mu :: g :: l)) a q s s' := fun td tp h1 h2 h3 h4 => by
  obtain ⟨Y, k1⟩ := h 0 td tp (Int.le_refl _) h1 (by omega) h4
  subst hq
  have := he.up (h2 := 0) (Int.le_refl _)
  rw [Int.add_zero] at this
  exact ⟨_, (k1.ag fun k t _ z => pu_n (by omega)).t (TyX.one this k1.1.2.2.1 (by omega) hs ⟨h1, by omega⟩) h4⟩
/-- if: an expression, JUMPZ to the end or behind a JUMP, a block, and perhaps JUMP and another block -/
theorem Tyb.if1 (h : Tye G a j s 1) (k : Tyb dp G (j + 1) b s s) (hj : G 0 j = 24 ∧ G 2 j = -2 ∧ G 3 j = b) (hdp : dp ≤ 20) (hs : 0 ≤ s ∧ s ≤ 10) : Tyb dp G a b s s := fun td tp h1 h2 h3 h4 => by
  obtain ⟨Y, k1⟩ := h 0 td tp (Int.le_refl _) h1 (by omega) h4
  have haj := k1.1.1
  obtain ⟨Y2, k2⟩ := k td tp h1 h2 h3 (by omega)
  have hjb := k2.1.1
  refine ⟨_, k1.t (k2.co (h := 0 + 1) (s := s) ?_ (Or.inr hj.2.1) (by omega) (by omega) hs ⟨h1, by omega⟩ (by omega)) h4⟩
  refine Or.inr (Or.inl ⟨hj.1, by omega, Or.inl ⟨by omega, ?_⟩, Or.inl ⟨by omega, Or.inr ⟨by rw [hj.2.2], rfl, Int.le_refl _, rfl, rfl⟩⟩⟩)
  rcases Int.lt_or_eq_of_le hjb with y | y
  · have := k2.1.2.2.2.2.2 y
    refine Or.inl ⟨y, ?_⟩
    have yy : ¬ j + 1 < j + 1 := by omega
    rw [gl_r yy, gl_r yy, gl_r yy, gl_r yy]
    omega
  · exact Or.inr ⟨y, rfl, Int.le_refl _, rfl, rfl⟩
theorem Tyb.if2 (h : Tye G a j s 1) (k : Tyb dp G (j + 1) p s s) (k' : Tyb dp G (p + 1) b s s) (hj : G 0 j = 24 ∧ G 2 j = -2 ∧ G 3 j = p + 1) (hp : G 0 p = 25 ∧ G 2 p = -2 ∧ G 3 p = b) (hdp : dp ≤ 20) (hs : 0 ≤ s ∧ s ≤ 10) : Tyb dp G a b s s := fun td tp h1 h2 h3 h4 => by
  obtain ⟨Y, k1⟩ := h 0 td tp (Int.le_refl _) h1 (by omega) h4
  have haj := k1.1.1
  obtain ⟨Y2, k2⟩ := k td tp h1 h2 h3 (by omega)
  have hjp := k2.1.1
  obtain ⟨Y3, k3⟩ := k' td tp h1 h2 h3 (by omega)
  have hpb := k3.1.1
  have k4 := k3.co (a := p) (h := 0) (s := s) (Or.inr (Or.inr (Or.inl ⟨hp.1, Or.inl ⟨by omega, Or.inr ⟨hp.2.2, rfl, Int.le_refl _, rfl, rfl⟩⟩⟩))) (Or.inr hp.2.1) (Int.le_refl _) (by omega) hs ⟨h1, by omega⟩ (by omega)
  have k5 := k2.t k4 (by omega)
  refine ⟨_, k1.t (k5.co (h := 0 + 1) (s := s) ?_ (Or.inr hj.2.1) (by omega) (by omega) hs ⟨h1, by omega⟩ (by omega)) h4⟩
  refine Or.inr (Or.inl ⟨hj.1, by omega, Or.inl ⟨by omega, Or.inl ⟨by omega, ?_⟩⟩, Or.inl ⟨by omega, ?_⟩⟩)
  · have := k5.1.2.2.2.2.2 (by omega)
    have yy : ¬ j + 1 < j + 1 := by omega
    rw [gl_r yy, gl_r yy, gl_r yy, gl_r yy]
    exact ⟨by omega, by omega, by omega, by omega⟩
  · rw [hj.2.2]
    rcases Int.lt_or_eq_of_le hpb with y | y
    · have := k3.1.2.2.2.2.2 y
      refine Or.inl ⟨y, ?_⟩
      have y1 : ¬ p + 1 < j + 1 := by omega
      have y2 : ¬ p + 1 < p := by omega
      have y3 : ¬ p + 1 < p + 1 := by omega
      rw [gl_r y1, gl_r y1, gl_r y1, gl_r y1, gl_r y2, gl_r y2, gl_r y2, gl_r y2, gl_r y3, gl_r y3, gl_r y3, gl_r y3]
      omega
    · exact Or.inr ⟨y, rfl, Int.le_refl _, rfl, rfl⟩
/-- while: an expression, JUMPZ to the end, a block, JUMP to the begin -/
theorem Tyb.wh (h : Tye G a j s 1) (k : Tyb dp G (j + 1) p s s) (hj : G 0 j = 24 ∧ G 2 j = -2 ∧ G 3 j = p + 1) (hp : G 0 p = 25 ∧ G 2 p = -2 ∧ G 3 p = a) (hdp : dp ≤ 20) (hs : 0 ≤ s ∧ s ≤ 10) (hq : q = p + 1) : Tyb dp G a q s s := fun td tp h1 h2 h3 h4 => by
  subst hq
  obtain ⟨Y, k1⟩ := h 0 td tp (Int.le_refl _) h1 (by omega) h4
  have haj := k1.1.1
  obtain ⟨Y2, k2⟩ := k td tp h1 h2 h3 (by omega)
  have hjp := k2.1.1
  have k3 : TyX (fun t H S T P => t = a ∧ H = 0 ∧ s ≤ S ∧ T = td ∧ P = tp) G Y2 (p + 1) (p + 1) 0 s td tp 0 s := TyX.nil (Int.le_refl _) (Int.le_refl _)
  have k4 := k3.co (a := p) (h := 0) (s := s) (Or.inr (Or.inr (Or.inl ⟨hp.1, Or.inr ⟨hp.2.2, rfl, Int.le_refl _, rfl, rfl⟩⟩))) (Or.inr hp.2.1) (Int.le_refl _) (by omega) hs ⟨h1, by omega⟩ (by omega)
  have k5 := (k2.mo (fun _ _ _ _ _ z => z.elim) (Int.le_refl _)).t k4 (by omega)
  have k6 := k5.co (h := 0 + 1) (s := s) ?_ (Or.inr hj.2.1) (by omega) (by omega) hs ⟨h1, by omega⟩ (by omega)
  · exact ⟨_, ((k1.mo (fun _ _ _ _ _ z => z.elim) (Int.le_refl _)).t k6 h4).cl (fun t H S T P z => z) (by omega)⟩
  · refine Or.inr (Or.inl ⟨hj.1, by omega, Or.inl ⟨by omega, Or.inl ⟨by omega, ?_⟩⟩, Or.inl ⟨by omega, Or.inr ⟨by rw [hj.2.2], rfl, Int.le_refl _, rfl, rfl⟩⟩⟩)
    have := k5.1.2.2.2.2.2 (by omega)
    have yy : ¬ j + 1 < j + 1 := by omega
    rw [gl_r yy, gl_r yy, gl_r yy, gl_r yy]
    exact ⟨by omega, by omega, by omega, by omega⟩
/-- try: TRY, a block, ENDTRY, a JUMP to the end, and what catches -/
theorem TyX.tr {G0 Y1 Y4 : Nat → Int → Int} (k : TyX NoX G0 Y1 (j + 1) p 0 s (td + 1) j 0 s) (k4 : TyX NoX G Y4 (p + 1) b 0 s td tp 0 s) (k5 : p + 2 < b ∧ Y4 0 (p + 2) = 1 ∧ Y4 1 (p + 2) ≤ s ∧ Y4 2 (p + 2) = td ∧ Y4 3 (p + 2) = tp) (hg : ∀ k t, k ≠ 2 → j < t → t < p → G k t = G0 k t) (h2 : ∀ t, j < t → t < p → (G0 2 t = -2 → G 2 t = G 3 j) ∧ (0 ≤ G0 2 t ∧ G0 2 t ≤ p → G 2 t = G0 2 t)) (hj : G 0 j = 26 ∧ G 2 j = -2 ∧ G 3 j = p + 2) (hp : G 0 p = 27 ∧ G 3 p = 0) (h0 : 0 ≤ j) (hs : 0 ≤ s ∧ s ≤ 10) (ht : 0 ≤ td ∧ td < 20) (htp : tp < j) (y0 : Y 0 j = 0 ∧ Y 1 j = s ∧ Y 2 j = td ∧ Y 3 j = tp) (y1 : ∀ k t, j < t → t < p → Y k t = Y1 k t) (y2 : Y 0 p = 0 ∧ Y 1 p = s ∧ Y 2 p = td + 1 ∧ Y 3 p = j) (y3 : ∀ k t, p < t → Y k t = Y4 k t) : TyX NoX G Y j b 0 s td tp 0 s := by
  obtain ⟨⟨a1, -, -, -, -, a6⟩, a7⟩ := k
  obtain ⟨⟨b1, -, -, -, -, b6⟩, b7⟩ := k4
  obtain ⟨y00, y01, y02, y03⟩ := y0
  obtain ⟨y20, y21, y22, y23⟩ := y2
  refine ⟨⟨by omega, by omega, by omega, by omega, fun e => absurd e (by omega), fun _ => ⟨y00, by omega, y02, y03⟩⟩, fun t q z => ?_⟩
  rcases Int.lt_trichotomy t p with c | c | c
  · rcases Int.lt_or_eq_of_le q with c' | c'
    · obtain ⟨c1, c2, c3⟩ := a7 t (by omega) c
      refine ⟨?_, ?_, ?_⟩
      · rw [y1 _ _ c' c, y1 _ _ c' c, y1 _ _ c' c]; exact ⟨c1.1, by omega, c1.2.2⟩
      · unfold CtT at c2 ⊢
        rw [y1 _ _ c' c, y1 _ _ c' c, hg 0 t (by decide) c' c]
        obtain ⟨m1, m2⟩ := h2 t c' c
        rcases c2 with ⟨d1, d2, d3⟩ | ⟨d1, d2, d3, d4, d5⟩
        · refine Or.inr ⟨by omega, by omega, by rw [d1]; exact hj.1, by rw [d1]; omega, ?_⟩
          rw [d1]; exact d3.imp id m1
        · refine Or.inr ⟨by omega, d2, by rw [hg 0 _ (by decide) (by omega) (by omega)]; exact d3, by rw [y1 _ _ (by omega) (by omega)]; exact d4, ?_⟩
          rw [hg 3 _ (by decide) (by omega) (by omega)]
          refine d5.imp id fun e => ?_
          have hn : j + 1 ≤ G0 3 (Y1 3 t) ∧ G0 3 (Y1 3 t) ≤ p := by
            obtain ⟨-, -, o3⟩ := a7 (Y1 3 t) d1 (by omega)
            rw [d3] at o3
            rcases o3 with ⟨H', S', e, -⟩ | ⟨e, -⟩ | ⟨e, -⟩ | ⟨-, -, -, n⟩ | ⟨e, -⟩
            · unfold Eff at e; omega
            · omega
            · omega
            · rcases n with n | n
              · have n1 := n.1
                rcases n.2 with q | q
                · exact ⟨n1, by omega⟩
                · exact ⟨n1, by omega⟩
              · exact n.elim
            · omega
          rw [m2 (by omega)]; exact e
      · rw [y1 _ _ c' c, y1 _ _ c' c, y1 _ _ c' c, y1 _ _ c' c, hg 0 t (by decide) c' c, hg 3 t (by decide) c' c, hg 6 t (by decide) c' c]
        refine c3.mo (fun t' H S T P n => n.imp (fun n => ?_) id) (fun q n => ?_)
        · obtain ⟨n0, ⟨n1, n2⟩ | ⟨n1, n2, n3, n4, n5⟩⟩ := n
          · refine ⟨by omega, Or.inl ⟨by omega, ?_⟩⟩
            rw [y1 _ _ (by omega) n1, y1 _ _ (by omega) n1, y1 _ _ (by omega) n1, y1 _ _ (by omega) n1]; exact n2
          · subst n1
            exact ⟨by omega, Or.inl ⟨by omega, by omega, by omega, by omega, by omega⟩⟩
        · rcases c2 with ⟨d1, d2, d3⟩ | ⟨d1, d2, d3, d4, d5⟩
          · exact absurd n.1 (by omega)
          · exact ⟨by omega, by rw [y1 _ _ (by omega) (by omega)]; exact n.2⟩
    · subst c'
      refine ⟨⟨by omega, by omega, by omega, by omega, by omega, by omega⟩, Or.inl ⟨y03, y02, Or.inr hj.2.1⟩, Or.inr (Or.inr (Or.inr (Or.inl ⟨hj.1, y00, Or.inl ⟨by omega, Or.inl ⟨by omega, ?_⟩⟩, Or.inl ⟨by omega, Or.inl ⟨by omega, ?_⟩⟩⟩)))⟩
      · by_cases y : j + 1 < p
        · have := a6 y
          rw [y1 _ _ (by omega) y, y1 _ _ (by omega) y, y1 _ _ (by omega) y, y1 _ _ (by omega) y]; omega
        · have e : j + 1 = p := by omega
          rw [e]; omega
      · have yp : ∀ x : Int, x < x + 2 := fun x => by omega
        rw [hj.2.2, y3 _ _ (yp _), y3 _ _ (yp _), y3 _ _ (yp _), y3 _ _ (yp _)]; omega
  · subst c
    refine ⟨⟨by omega, by omega, by omega, by omega, by omega, by omega⟩, Or.inr ⟨by omega, by omega, by rw [y23]; exact hj.1, by rw [y23]; omega, Or.inl hp.1⟩, Or.inr (Or.inr (Or.inr (Or.inr ⟨hp, by omega, tp, ⟨by omega, by rw [y23]; exact y03⟩, Or.inl ⟨by omega, Or.inl ⟨by omega, ?_⟩⟩⟩)))⟩
    have := b6 (by omega)
    have yp : ∀ x : Int, x < x + 1 := fun x => by omega
    rw [y3 _ _ (yp _), y3 _ _ (yp _), y3 _ _ (yp _), y3 _ _ (yp _)]; omega
  · obtain ⟨c1, c2, c3⟩ := b7 t (by omega) z
    refine ⟨?_, ?_, ?_⟩
    · rw [y3 _ _ c, y3 _ _ c, y3 _ _ c]; exact ⟨c1.1, by omega, c1.2.2⟩
    · unfold CtT at c2 ⊢
      rw [y3 _ _ c, y3 _ _ c]
      rcases c2 with c2 | ⟨d1, d2, d3, d4, d5⟩
      · exact Or.inl c2
      · exact Or.inr ⟨by omega, d2, d3, by rw [y3 _ _ (by omega)]; exact d4, d5⟩
    · rw [y3 _ _ c, y3 _ _ c, y3 _ _ c, y3 _ _ c]
      refine c3.mo (fun t' H S T P n => n.imp (fun n => ?_) id) (fun q n => ⟨by omega, by rw [y3 _ _ (by omega)]; exact n.2⟩)
      obtain ⟨n0, n1⟩ := n
      refine ⟨by omega, ?_⟩
      rw [y3 _ _ (by omega), y3 _ _ (by omega), y3 _ _ (by omega), y3 _ _ (by omega)]
      exact n1
theorem Tyb.tr {G0 : Nat → Int → Int} (h : Tyb (dp + 1) G0 (j + 1) p s s) (k : Tyb dp G (p + 3) b (s + 1) (s + 1)) (hg : ∀ k t, k ≠ 2 → j < t → t < p → G k t = G0 k t) (h2 : ∀ t, j < t → t < p → (G0 2 t = -2 → G 2 t = G 3 j) ∧ (0 ≤ G0 2 t ∧ G0 2 t ≤ p → G 2 t = G0 2 t)) (hj : G 0 j = 26 ∧ G 2 j = -2 ∧ G 3 j = p + 2) (hp : G 0 p = 27 ∧ G 3 p = 0) (hq : G 0 (p + 1) = 25 ∧ G 2 (p + 1) = -2 ∧ G 3 (p + 1) = b) (hr : G 0 (p + 2) = 2 ∧ G 2 (p + 2) = -2 ∧ G 3 (p + 2) = s) (hdp : dp < 20) (hs : 0 ≤ s ∧ s < 10) : Tyb dp G j b s s := fun td tp h1 h3 h4 h5 => by
  obtain ⟨Y1, k1⟩ := h (td + 1) j (by omega) (by omega) (by omega) (by omega)
  have hjp := k1.1.1
  obtain ⟨Y2, k2⟩ := k td tp h1 h3 h4 (by omega)
  have hpb := k2.1.1
  have k3 := (k2.mo (K2 := NoX) (fun _ _ _ _ _ z => z) (show s ≤ s + 1 by omega))
  have e3 : p + 2 + 1 = p + 3 := by omega
  have e2 : p + 1 + 1 = p + 2 := by omega
  rw [← e3] at k3
  have k4 := k3.co (a := p + 2) (h := 1) (s := s) (Or.inl ⟨0, s + 1, by rw [hr.1, hr.2.2]; unfold Eff; omega, Or.inr (Or.inl ⟨by omega, ?_⟩)⟩) (Or.inr hr.2.1) (by omega) (by omega) (by omega) ⟨h1, by omega⟩ (by omega)
  · have k4' := k4
    rw [← e2] at k4
    have k6 := k4.co (a := p + 1) (h := 0) (s := s) (Or.inr (Or.inr (Or.inl ⟨hq.1, Or.inl ⟨by omega, Or.inr ⟨hq.2.2, rfl, Int.le_refl _, rfl, rfl⟩⟩⟩))) (Or.inr hq.2.1) (Int.le_refl _) (by omega) (by omega) ⟨h1, by omega⟩ (by omega)
    obtain ⟨Y4, k7, k8⟩ : ∃ Y4, TyX NoX G Y4 (p + 1) b 0 s td tp 0 s ∧ (p + 2 < b ∧ Y4 0 (p + 2) = 1 ∧ Y4 1 (p + 2) ≤ s ∧ Y4 2 (p + 2) = td ∧ Y4 3 (p + 2) = tp) := by
      refine ⟨_, k6, ?_⟩
      have := k4'.1.2.2.2.2.2 (by omega)
      have y1 : ¬ p + 2 < p + 1 + 1 := by omega
      rw [gl_r y1, gl_r y1, gl_r y1, gl_r y1, show p + 1 + 1 + 1 = p + 2 + 1 by omega]
      exact ⟨by omega, this⟩
    refine ⟨fun k t => if t = j then [0, s, td, tp].getD k 0 else if t < p then Y1 k t else if t = p then [0, s, td + 1, j].getD k 0 else Y4 k t, TyX.tr k1 k7 k8 hg h2 hj hp (by omega) (by omega) ⟨h1, by omega⟩ h5 ?_ ?_ ?_ ?_⟩
    · simp only [if_pos (Eq.refl j)]; exact ⟨rfl, rfl, rfl, rfl⟩
    · intro k t q z
      simp only [if_neg (show ¬ t = j by omega), if_pos z]
    · simp only [if_neg (show ¬ p = j by omega), if_neg (show ¬ p < p by omega), if_pos (Eq.refl p)]; exact ⟨rfl, rfl, rfl, rfl⟩
    · intro k t z
      simp only [if_neg (show ¬ t = j by omega), if_neg (show ¬ t < p by omega), if_neg (show ¬ t = p by omega)]
  · rcases Int.lt_or_eq_of_le hpb with y | y
    · have := k2.1.2.2.2.2.2 y
      refine Or.inl ⟨by omega, ?_⟩
      have y1 : ¬ p + 2 + 1 < p + 2 + 1 := by omega
      rw [gl_r y1, gl_r y1, gl_r y1, gl_r y1, e3]; exact ⟨by omega, by omega, by omega, by omega⟩
    · exact Or.inr ⟨by omega, rfl, by omega, rfl, rfl⟩
end S35b
