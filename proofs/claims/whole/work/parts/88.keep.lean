/-! the reference keeps what it has read -/
/-- a loop that counts -/
theorem lp_run {σ : Type} {body : σ → (σ → XA) → XA} {R : σ → XA} (n : Nat) (I : Nat → σ → Prop) (st : ∀ k s, k < n → I k s → ∃ s', I (k + 1) s' ∧ ∀ go, body s go = go s') (en : ∀ s, I n s → ∀ go, body s go = R s) : ∀ (m k : Nat) (s : σ) (N : Nat), k + m = n → m < N → I k s → ∃ s', I n s' ∧ lp body N s = R s'
  | 0, k, s, N, h, hN, hI => by
    obtain ⟨N, rfl⟩ : ∃ e, N = e + 1 := ⟨N - 1, by omega⟩
    have : k = n := by omega
    subst this
    exact ⟨s, hI, by rw [lp_e]; exact en s hI _⟩
  | m + 1, k, s, N, h, hN, hI => by
    obtain ⟨N, rfl⟩ : ∃ e, N = e + 1 := ⟨N - 1, by omega⟩
    obtain ⟨s', h1, h2⟩ := st k s (by omega) hI
    obtain ⟨s2, g1, g2⟩ := lp_run n I st en m (k + 1) s' N (by omega) (by omega) h1
    exact ⟨s2, g1, by rw [lp_e, h2]; exact g2⟩
theorem lp_use {σ : Type} {P : Prop} {body : σ → (σ → XA) → XA} {R : σ → XA} (n : Nat) (I : Nat → σ → Prop) (s0 : σ) (N : Nat) (hN : n < N) (h0 : I 0 s0) (k : ∀ s', I n s' → lp body N s0 = R s' → P) (st : ∀ k s, k < n → I k s → ∃ s', I (k + 1) s' ∧ ∀ go, body s go = go s') (en : ∀ s, I n s → ∀ go, body s go = R s) : P := by
  obtain ⟨s', h1, h2⟩ := lp_run n I st en n 0 s0 N (by omega) hN h0
  exact k s' h1 h2
/-- whether it has a MUTANT; how many have one; which -/
def mtb (G : Nat → Int → Int) (j : Int) : Prop := G 5 j = 1 ∧ iw (G 0 j) ≠ -1
def mcn (G : Nat → Int → Int) : Nat → Int
  | 0 => 0
  | j + 1 => if G 5 j = 1 ∧ iw (G 0 j) ≠ -1 then mcn G j + 1 else mcn G j
def mtf (G : Nat → Int → Int) : Nat → Int → Int
  | 0 => fun _ => 0
  | j + 1 => if G 5 j = 1 ∧ iw (G 0 j) ≠ -1 then up1 (mtf G j) (mcn G j) j else mtf G j
theorem mcn_b (G : Nat → Int → Int) : ∀ j : Nat, 0 ≤ mcn G j ∧ mcn G j ≤ j
  | 0 => ⟨Int.le_refl _, Int.le_refl _⟩
  | j + 1 => by
    have := mcn_b G j
    show 0 ≤ (if G 5 j = 1 ∧ iw (G 0 j) ≠ -1 then mcn G j + 1 else mcn G j) ∧ (if G 5 j = 1 ∧ iw (G 0 j) ≠ -1 then mcn G j + 1 else mcn G j) ≤ ((j + 1 : Nat) : Int)
    split <;> omega
theorem mtf_b (G : Nat → Int → Int) : ∀ (j : Nat) (k : Int), 0 ≤ k → k < mcn G j → 0 ≤ mtf G j k ∧ mtf G j k < j ∧ G 5 (mtf G j k) = 1 ∧ iw (G 0 (mtf G j k)) ≠ -1
  | 0, k, h, g => by unfold mcn at g; omega
  | j + 1, k, h, g => by
    unfold mcn at g
    unfold mtf
    by_cases c : G 5 j = 1 ∧ iw (G 0 j) ≠ -1
    · rw [if_pos c] at g ⊢
      by_cases y : k = mcn G j
      · rw [up1_e y]; exact ⟨by omega, by omega, c.1, c.2⟩
      · rw [up1_n y]
        have := mtf_b G j k h (by omega)
        exact ⟨this.1, by omega, this.2.2⟩
    · rw [if_neg c] at g ⊢
      have := mtf_b G j k h g
      exact ⟨this.1, by omega, this.2.2⟩
theorem iw_b (z : Int) : -1 ≤ iw z ∧ iw z ≤ 34 := by
  unfold iw
  (repeat' split) <;> omega
theorem s16_all : ∀ k : Fin 1000, ((iI (k.val : Int)).toInt16.toInt32.toInt16.toInt32) = iI (k.val : Int) := by decide +kernel
theorem s16_e {z : Int} (h : 0 ≤ z ∧ z < 1000) : (iI z).toInt16.toInt32.toInt16.toInt32 = iI z := by
  have q := s16_all ⟨z.toNat, by omega⟩
  have e : (((⟨z.toNat, by omega⟩ : Fin 1000).val : Nat) : Int) = z := by
    show ((z.toNat : Nat) : Int) = z
    omega
  rw [e] at q
  exact q
def W_kp : List (Nat × Nat) := [(188, 9999), (192, 9999), (189, 9999), (190, 9999), (191, 9999), (193, 9999), (183, 9999), (221, 9999), (238, 9999)]
/-- the rows of the other parcels -/
def KPc (p : Int) (M M' : Mem) : Prop := ∀ c : Nat, (c = 189 ∨ c = 190 ∨ c = 191 ∨ c = 193 → ∀ x : Int, 0 ≤ x → (x < 1000 * p ∨ 1000 * p + 1000 ≤ x) → M'.1 c x.toNat = M.1 c x.toNat) ∧ (c = 183 → ∀ x : Int, 0 ≤ x → (x < 16 * p ∨ 16 * p + 16 ≤ x) → M'.1 c x.toNat = M.1 c x.toNat) ∧ (c = 188 ∨ c = 192 ∨ c = 221 ∨ c = 238 → ∀ x : Int, 0 ≤ x → x ≠ p → M'.1 c x.toNat = M.1 c x.toNat)
/-- what stands there of a parcel's codes -/
def RKp (M : Mem) (G : Nat → Int → Int) (e p mc : Int) (mt : Int → Int) : Prop := (M.1 188 p.toNat = iI e ∧ M.1 192 p.toNat = iI mc) ∧ (∀ j, 0 ≤ j → j < e → M.1 189 (1000 * p + j).toNat = iI (G 0 j) ∧ M.1 190 (1000 * p + j).toNat = iI (G 3 j) ∧ M.1 191 (1000 * p + j).toNat = iI (G 4 j)) ∧ ∀ k, 0 ≤ k → k < mc → M.1 193 (1000 * p + k).toNat = iI (mt k)
section S88
variable {d : Nat} {M M' : Mem} {G : Nat → Int → Int} {e p : Int} {v : Int32}
theorem KPc.r : KPc p M M := fun _ => ⟨fun _ _ _ _ => rfl, fun _ _ _ _ => rfl, fun _ _ _ _ => rfl⟩
theorem KPc.k1 {c : Nat} {i : Int} (h : KPc p M M') (hc : c = 189 ∨ c = 190 ∨ c = 191 ∨ c = 193) (hi : 1000 * p ≤ i ∧ i < 1000 * p + 1000) (hp : 0 ≤ p) : KPc p M (sI M' c i.toNat v) := fun b => by
  obtain ⟨h1, h2, h3⟩ := h b
  refine ⟨fun x y u w => ?_, fun x y u w => ?_, fun x y u w => ?_⟩
  · exact (sI_nej (by omega)).trans (h1 x y u w)
  · exact (sI_ne (by omega)).trans (h2 x y u w)
  · exact (sI_ne (by omega)).trans (h3 x y u w)
theorem KPc.k2 {i : Int} (h : KPc p M M') (hi : 16 * p ≤ i ∧ i < 16 * p + 16) (hp : 0 ≤ p) : KPc p M (sI M' 183 i.toNat v) := fun b => by
  obtain ⟨h1, h2, h3⟩ := h b
  refine ⟨fun x y u w => ?_, fun x y u w => ?_, fun x y u w => ?_⟩
  · exact (sI_ne (by omega)).trans (h1 x y u w)
  · exact (sI_nej (by omega)).trans (h2 x y u w)
  · exact (sI_ne (by omega)).trans (h3 x y u w)
theorem KPc.k3 {c : Nat} (h : KPc p M M') (hc : c = 188 ∨ c = 192 ∨ c = 221 ∨ c = 238) (hp : 0 ≤ p) : KPc p M (sI M' c p.toNat v) := fun b => by
  obtain ⟨h1, h2, h3⟩ := h b
  refine ⟨fun x y u w => ?_, fun x y u w => ?_, fun x y u w => ?_⟩
  · exact (sI_ne (by omega)).trans (h1 x y u w)
  · exact (sI_ne (by omega)).trans (h2 x y u w)
  · exact (sI_nej (by omega)).trans (h3 x y u w)
def OpB (G : Nat → Int → Int) (e : Int) : Prop := ∀ j, 0 ≤ j → j < e → 0 ≤ G 0 j ∧ G 0 j ≤ 29 ∧ 0 ≤ G 4 j ∧ G 4 j ≤ 7 ∧ 0 ≤ G 5 j ∧ G 5 j ≤ 1
/-- the codes, one by one -/
theorem kp232_19 (hd : 1 ≤ d) (hp : 0 ≤ p ∧ p ≤ 7) (he : 0 ≤ e ∧ e ≤ 1000) (hO : OpB G e) {K : Mem → XA} (hR : RT M) (h43 : M.1 160 43 = iI e) (hA : RA1 M G e) (h192 : M.1 192 p.toNat = iI 0) : ∃ M', lp (c232_19 (runX d) (some 160) (iI p) K) 4294967296 ((0 : Int32), M) = K M' ∧ Fr W_kp M M' ∧ KPc p M M' ∧ M'.1 192 p.toNat = iI (mcn G e.toNat) ∧ (∀ j, 0 ≤ j → j < e → M'.1 189 (1000 * p + j).toNat = iI (G 0 j) ∧ M'.1 190 (1000 * p + j).toNat = iI (G 3 j) ∧ M'.1 191 (1000 * p + j).toNat = iI (G 4 j)) ∧ (∀ k, 0 ≤ k → k < mcn G e.toNat → M'.1 193 (1000 * p + k).toNat = iI (mtf G e.toNat k)) ∧ M'.1 188 p.toNat = M.1 188 p.toNat := by
  refine lp_use (body := c232_19 (runX d) (some 160) (iI p) K) (R := fun s => K s.2) e.toNat (fun k s => s.1 = iI k ∧ Fr W_kp M s.2 ∧ KPc p M s.2 ∧ s.2.1 192 p.toNat = iI (mcn G k) ∧ (∀ j : Int, 0 ≤ j → j < k → s.2.1 189 (1000 * p + j).toNat = iI (G 0 j) ∧ s.2.1 190 (1000 * p + j).toNat = iI (G 3 j) ∧ s.2.1 191 (1000 * p + j).toNat = iI (G 4 j)) ∧ (∀ j : Int, 0 ≤ j → j < mcn G k → s.2.1 193 (1000 * p + j).toNat = iI (mtf G k j)) ∧ s.2.1 188 p.toNat = M.1 188 p.toNat) ((0 : Int32), M) 4294967296 (by omega) ⟨li_0, Fr.r, KPc.r, h192, fun j a b => by omega, fun j a b => by unfold mcn at b; omega, rfl⟩ (fun s' h1 h2 => ?_) (fun k s hk hI => ?_) (fun s hI go => ?_)
  · obtain ⟨g1, g2, g3, g4, g5, g6, g7⟩ := h1
    exact ⟨s'.2, h2, g2, g3, g4, fun j a b => g5 j a (by omega), g6, g7⟩
  · obtain ⟨i, M1⟩ := s
    obtain ⟨g1, g2, g3, g4, g5, g6, g7⟩ := hI
    dsimp only at g1 g2 g3 g4 g5 g6 g7
    subst g1
    have R1 := hR.fr g2
    obtain ⟨o1, o2, o3, o4, o5, o6⟩ := hO k (by omega) (by omega)
    obtain ⟨a1, a2, a3, a4⟩ := hA k (by omega) (by omega)
    have mb := mcn_b G k
    have x195 : M1.1 195 (k : Int).toNat = iI (G 0 k) := (g2.c 195 (by decide) _).trans a1
    have x196 : M1.1 196 (k : Int).toNat = iI (G 3 k) := (g2.c 196 (by decide) _).trans a2
    have x197 : M1.1 197 (k : Int).toNat = iI (G 4 k) := (g2.c 197 (by decide) _).trans a3
    have x198 : M1.1 198 (k : Int).toNat = iI (G 5 k) := (g2.c 198 (by decide) _).trans a4
    have x43 : M1.1 160 43 = iI e := (g2.i _ _ (by decide)).trans h43
    have ix : ∀ y : Int, iI 1000 * iI p + iI y = iI (1000 * p + y) := fun y => by rw [iI_mul, iI_add]
    obtain ⟨M2, hM2⟩ : ∃ z, z = sI (sI (sI M1 189 (1000 * p + k).toNat (iI (G 0 k))) 190 (1000 * p + k).toNat (iI (G 3 k))) 191 (1000 * p + k).toNat (iI (G 4 k)) := ⟨_, rfl⟩
    have f2 : Fr W_kp M M2 := by rw [hM2]; exact Fr.sI (inW_c (by decide) _) (Fr.sI (inW_c (by decide) _) (Fr.sI (inW_c (by decide) _) g2))
    have k2 : KPc p M M2 := by rw [hM2]; exact ((g3.k1 (by omega) (by omega) hp.1).k1 (by omega) (by omega) hp.1).k1 (by omega) (by omega) hp.1
    have R2 := hR.fr f2
    have n5 : ∀ j : Int, 0 ≤ j → j < ((k + 1 : Nat) : Int) → M2.1 189 (1000 * p + j).toNat = iI (G 0 j) ∧ M2.1 190 (1000 * p + j).toNat = iI (G 3 j) ∧ M2.1 191 (1000 * p + j).toNat = iI (G 4 j) := fun j a b => by
      rw [hM2]
      by_cases y : j = k
      · subst y
        exact ⟨(sI_ne (by decide)).trans ((sI_ne (by decide)).trans sI_eq), (sI_ne (by decide)).trans sI_eq, sI_eq⟩
      · obtain ⟨z1, z2, z3⟩ := g5 j a (by omega)
        exact ⟨(sI_ne (by decide)).trans ((sI_ne (by decide)).trans ((sI_nej (by omega)).trans z1)), (sI_ne (by decide)).trans ((sI_nej (by omega)).trans ((sI_ne (by decide)).trans z2)), (sI_nej (by omega)).trans ((sI_ne (by decide)).trans ((sI_ne (by decide)).trans z3))⟩
    have n192 : M2.1 192 p.toNat = iI (mcn G k) := by rw [hM2]; exact (sI_ne (by decide)).trans ((sI_ne (by decide)).trans ((sI_ne (by decide)).trans g4))
    have n193 : ∀ j : Int, 0 ≤ j → j < mcn G k → M2.1 193 (1000 * p + j).toNat = iI (mtf G k j) := fun j a b => by rw [hM2]; exact (sI_ne (by decide)).trans ((sI_ne (by decide)).trans ((sI_ne (by decide)).trans (g6 j a b)))
    have n188 : M2.1 188 p.toNat = M.1 188 p.toNat := by rw [hM2]; exact (sI_ne (by decide)).trans ((sI_ne (by decide)).trans ((sI_ne (by decide)).trans g7))
    have m198 : M2.1 198 (k : Int).toNat = iI (G 5 k) := by rw [hM2]; exact (sI_ne (by decide)).trans ((sI_ne (by decide)).trans ((sI_ne (by decide)).trans x198))
    have m195 : M2.1 195 (k : Int).toNat = iI (G 0 k) := by rw [hM2]; exact (sI_ne (by decide)).trans ((sI_ne (by decide)).trans ((sI_ne (by decide)).trans x195))
    have head : ∀ go : Int32 × Mem → XA, c232_19 (runX d) (some 160) (iI p) K (iI k, M1) go = (gtP (13, 157) M2 (some 160) 47 fun x30 => alX 102 M2 x30 (iI k) fun x31 => jn (fun (s32 : Mem) => lt (iI k + (1 : Int32)) fun (x33 : Int32) => go (x33, s32)) fun j131 => if x31 = 0 then (j131 M2) else (gtP (13, 157) M2 (some 160) 44 fun x34 => alI 101 M2 x34 (iI k) fun x35 => cI (runX d 233 [.int x35] M2) fun x37 M36 => if x37 < 0 then (j131 M36) else (gtP (13, 157) M36 (some 160) 34 fun x38 => gtP (13, 157) M36 (some 160) 33 fun x39 => alI 100 M36 x39 (iI p) fun x40 => asI 103 M36 x38 ((((1000 : Int32)) * iI p) + x40) ((iI k).toInt16.toInt32.toInt16.toInt32) fun M41 => gtP (13, 157) M41 (some 160) 33 fun x42 => alI 100 M41 x42 (iI p) fun x43 => asI 100 M41 x42 (iI p) ((x43 + ((1 : Int32)))) fun M44 => j131 M44)) : XA) := fun go => by
      unfold c232_19
      refine (gtI_q (rk_160 R1) x43).trans ?_
      refine (if_neg (leI_n rfl rfl (by omega))).trans ?_
      refine (gtP_q (rk_160 R1) (rf_30 R1)).trans ?_
      refine (gtP_q (rk_160 R1) (rf_44 R1)).trans ?_
      refine (alI_q (n := 4000) (z := k) (rk_195 R1) rfl (by omega) x195).trans ?_
      refine (asI_q (n := 8000) (z := 1000 * p + k) (y := G 0 k) (rk_189 R1) (ix k) (by omega) (b8_e rfl (by omega))).trans ?_
      have Ra : RT (sI M1 189 (1000 * p + k).toNat (iI (G 0 k))) := R1
      refine (gtP_q (rk_160 Ra) (rf_31 Ra)).trans ?_
      refine (gtP_q (rk_160 Ra) (rf_45 Ra)).trans ?_
      refine (alI_q (n := 4000) (z := k) (rk_196 Ra) rfl (by omega) ((sI_ne (by decide)).trans x196)).trans ?_
      refine (asI_q (n := 8000) (z := 1000 * p + k) (y := G 3 k) (rk_190 Ra) (ix k) (by omega) rfl).trans ?_
      have Rb : RT (sI (sI M1 189 (1000 * p + k).toNat (iI (G 0 k))) 190 (1000 * p + k).toNat (iI (G 3 k))) := R1
      refine (gtP_q (rk_160 Rb) (rf_32 Rb)).trans ?_
      refine (gtP_q (rk_160 Rb) (rf_46 Rb)).trans ?_
      refine (alI_q (n := 4000) (z := k) (rk_197 Rb) rfl (by omega) ((sI_ne (by decide)).trans ((sI_ne (by decide)).trans x197))).trans ?_
      refine (asI_q (n := 8000) (z := 1000 * p + k) (y := G 4 k) (rk_191 Rb) (ix k) (by omega) (b8_e rfl (by omega))).trans ?_
      rw [← hM2]
    by_cases c : G 5 k = 1
    · by_cases c2 : iw (G 0 k) = -1
      · have e1 : mcn G (k + 1) = mcn G k := if_neg fun z => z.2 c2
        have e2 : mtf G (k + 1) = mtf G k := if_neg fun z => z.2 c2
        refine ⟨(iI ((k + 1 : Nat) : Int), M2), ⟨rfl, f2, k2, by rw [e1]; exact n192, n5, by rw [e1, e2]; exact n193, n188⟩, fun go => (head go).trans ?_⟩
        refine (gtP_q (rk_160 R2) (rf_47 R2)).trans ?_
        refine (alX_q (n := 4000) (z := k) (rk_198 R2) rfl (by omega) m198).trans ?_
        refine (jn_v).trans ?_
        refine (if_neg (eqI_n (x := G 5 k) rfl li_0 (by omega))).trans ?_
        refine (gtP_q (rk_160 R2) (rf_44 R2)).trans ?_
        refine (alI_q (n := 4000) (z := k) (rk_195 R2) rfl (by omega) m195).trans ?_
        refine (cI_e (a233 hd rfl (by omega))).trans ?_
        refine (if_pos (lsI_p (x := iw (G 0 k)) rfl li_0 (by omega))).trans ?_
        refine (jv_e).trans ?_
        exact (ltI_q (z := ((k + 1 : Nat) : Int)) (cvI (adI rfl li_1) (by omega)))
      · have ib := iw_b (G 0 k)
        have e1 : mcn G (k + 1) = mcn G k + 1 := if_pos ⟨c, c2⟩
        have e2 : mtf G (k + 1) = up1 (mtf G k) (mcn G k) k := if_pos ⟨c, c2⟩
        have f3 : Fr W_kp M (sI (sI M2 193 (1000 * p + mcn G k).toNat (iI k)) 192 p.toNat (iI (mcn G k + 1))) := Fr.sI (inW_c (by decide) _) (Fr.sI (inW_c (by decide) _) f2)
        refine ⟨(iI ((k + 1 : Nat) : Int), sI (sI M2 193 (1000 * p + mcn G k).toNat (iI k)) 192 p.toNat (iI (mcn G k + 1))), ⟨rfl, f3, (k2.k1 (by omega) (by omega) hp.1).k3 (by omega) hp.1, by rw [e1]; exact sI_eq, fun j a b => ?_, fun j a b => ?_, ?_⟩, fun go => (head go).trans ?_⟩
        · obtain ⟨z1, z2, z3⟩ := n5 j a b
          exact ⟨(sI_ne (by decide)).trans ((sI_ne (by decide)).trans z1), (sI_ne (by decide)).trans ((sI_ne (by decide)).trans z2), (sI_ne (by decide)).trans ((sI_ne (by decide)).trans z3)⟩
        · rw [e2]
          by_cases y : j = mcn G k
          · rw [up1_e y, y]; exact (sI_ne (by decide)).trans sI_eq
          · rw [up1_n y]; exact (sI_ne (by decide)).trans ((sI_nej (by omega)).trans (n193 j a (by rw [e1] at b; omega)))
        · exact (sI_ne (by decide)).trans ((sI_ne (by decide)).trans n188)
        refine (gtP_q (rk_160 R2) (rf_47 R2)).trans ?_
        refine (alX_q (n := 4000) (z := k) (rk_198 R2) rfl (by omega) m198).trans ?_
        refine (jn_v).trans ?_
        refine (if_neg (eqI_n (x := G 5 k) rfl li_0 (by omega))).trans ?_
        refine (gtP_q (rk_160 R2) (rf_44 R2)).trans ?_
        refine (alI_q (n := 4000) (z := k) (rk_195 R2) rfl (by omega) m195).trans ?_
        refine (cI_e (a233 hd rfl (by omega))).trans ?_
        refine (if_neg (lsI_n (x := iw (G 0 k)) rfl li_0 (by omega))).trans ?_
        refine (gtP_q (rk_160 R2) (rf_34 R2)).trans ?_
        refine (gtP_q (rk_160 R2) (rf_33 R2)).trans ?_
        refine (alI_q (n := 8) (z := p) (rk_192 R2) rfl (by omega) n192).trans ?_
        refine (asI_q (n := 8000) (z := 1000 * p + mcn G k) (y := k) (rk_193 R2) (ix _) (by omega) (s16_e (by omega))).trans ?_
        have Rc : RT (sI M2 193 (1000 * p + mcn G k).toNat (iI k)) := R2
        refine (gtP_q (rk_160 Rc) (rf_33 Rc)).trans ?_
        refine (alI_q (n := 8) (z := p) (rk_192 Rc) rfl (by omega) ((sI_ne (by decide)).trans n192)).trans ?_
        refine (asI_q (n := 8) (z := p) (y := mcn G k + 1) (rk_192 Rc) rfl (by omega) (adI rfl li_1)).trans ?_
        refine (jv_e).trans ?_
        exact (ltI_q (z := ((k + 1 : Nat) : Int)) (cvI (adI rfl li_1) (by omega)))
    · have e1 : mcn G (k + 1) = mcn G k := if_neg fun z => c z.1
      have e2 : mtf G (k + 1) = mtf G k := if_neg fun z => c z.1
      refine ⟨(iI ((k + 1 : Nat) : Int), M2), ⟨rfl, f2, k2, by rw [e1]; exact n192, n5, by rw [e1, e2]; exact n193, n188⟩, fun go => (head go).trans ?_⟩
      refine (gtP_q (rk_160 R2) (rf_47 R2)).trans ?_
      refine (alX_q (n := 4000) (z := k) (rk_198 R2) rfl (by omega) m198).trans ?_
      refine (jn_v).trans ?_
      refine (if_pos (eqI_p (x := G 5 k) (y := 0) rfl li_0 (by omega))).trans ?_
      refine (jv_e).trans ?_
      exact (ltI_q (z := ((k + 1 : Nat) : Int)) (cvI (adI rfl li_1) (by omega)))
  · obtain ⟨i, M1⟩ := s
    obtain ⟨g1, g2, g3, g4, g5, g6, g7⟩ := hI
    dsimp only at g1 g2
    subst g1
    have R1 := hR.fr g2
    unfold c232_19
    refine (gtI_q (rk_160 R1) ((g2.i _ _ (by decide)).trans h43)).trans ?_
    exact (if_pos (leI_p rfl rfl (by omega)))
/-- its ORDER -/
theorem kp232_139 (hp : 0 ≤ p ∧ p ≤ 7) {K : Mem → XA} (hR : RT M) : ∃ M', lp (c232_139 (runX d) (some 160) (iI p) K) 4294967296 ((0 : Int32), M) = K M' ∧ Fr [(183, 9999)] M M' ∧ KPc p M M' ∧ ∀ j, 0 ≤ j → j < 16 → M'.1 183 (16 * p + j).toNat = iI j := by
  refine lp_use (body := c232_139 (runX d) (some 160) (iI p) K) (R := fun s => K s.2) 16 (fun k s => s.1 = iI k ∧ Fr [(183, 9999)] M s.2 ∧ KPc p M s.2 ∧ ∀ j : Int, 0 ≤ j → j < k → s.2.1 183 (16 * p + j).toNat = iI j) ((0 : Int32), M) 4294967296 (by omega) ⟨li_0, Fr.r, KPc.r, fun j a b => by omega⟩ (fun s' h1 h2 => ?_) (fun k s hk hI => ?_) (fun s hI go => ?_)
  · obtain ⟨g1, g2, g3, g4⟩ := h1
    exact ⟨s'.2, h2, g2, g3, g4⟩
  · obtain ⟨i, M1⟩ := s
    obtain ⟨g1, g2, g3, g4⟩ := hI
    dsimp only at g1 g2 g3 g4
    subst g1
    have R1 := hR.fr g2
    have ix : iI 16 * iI p + iI k = iI (16 * p + k) := by rw [iI_mul, iI_add]
    refine ⟨(iI ((k + 1 : Nat) : Int), sI M1 183 (16 * p + k).toNat (iI k)), ⟨rfl, Fr.sI (inW_c (by decide) _) g2, g3.k2 (by omega) hp.1, fun j a b => ?_⟩, fun go => ?_⟩
    · by_cases y : j = k
      · rw [y]; exact sI_eq
      · exact (sI_nej (by omega)).trans (g4 j a (by omega))
    · unfold c232_139
      refine (if_neg (leI_n (x := 16) rfl rfl (by omega))).trans ?_
      refine (gtP_q (rk_160 R1) (rf_24 R1)).trans ?_
      refine (asI_q (n := 128) (z := 16 * p + k) (y := k) (rk_183 R1) ix (by omega) rfl).trans ?_
      exact (ltI_q (z := ((k + 1 : Nat) : Int)) (cvI (adI rfl li_1) (by omega)))
  · obtain ⟨i, M1⟩ := s
    obtain ⟨g1, -⟩ := hI
    dsimp only at g1
    subst g1
    unfold c232_139
    exact (if_pos (leI_p (x := 16) rfl rfl (by omega)))
/-- all of it -/
theorem kp232 (hd : 2 ≤ d) (hp : 0 ≤ p ∧ p ≤ 7) (he : 0 ≤ e ∧ e ≤ 1000) (hO : OpB G e) (hR : RT M) (h43 : M.1 160 43 = iI e) (hA : RA1 M G e) (hv : v = iI p) : ∃ M', runX d 232 [va_rf (some 160), .int v] M = some (.null, M') ∧ Fr W_kp M M' ∧ KPc p M M' ∧ RKp M' G e p (mcn G e.toNat) (mtf G e.toNat) ∧ (∀ j, 0 ≤ j → j < 16 → M'.1 183 (16 * p + j).toNat = iI j) ∧ M'.1 221 p.toNat = iI 0 ∧ M'.1 238 p.toNat = iI 0 := by
  obtain ⟨d, rfl⟩ : ∃ e, d = e + 1 := ⟨d - 1, by omega⟩
  subst hv
  obtain ⟨M1, hM1⟩ : ∃ z, z = sI (sI M 188 p.toNat (iI e)) 192 p.toNat (iI 0) := ⟨_, rfl⟩
  have f1 : Fr W_kp M M1 := by rw [hM1]; exact Fr.sI (inW_c (by decide) _) (Fr.sI (inW_c (by decide) _) Fr.r)
  have k1 : KPc p M M1 := by rw [hM1]; exact (KPc.r.k3 (by omega) hp.1).k3 (by omega) hp.1
  have R1 := hR.fr f1
  have h188 : M1.1 188 p.toNat = iI e := by rw [hM1]; exact (sI_ne (by decide)).trans sI_eq
  have A1 : RA1 M1 G e := fun j a b => by
    obtain ⟨z1, z2, z3, z4⟩ := hA j a b
    exact ⟨(f1.c 195 (by decide) _).trans z1, (f1.c 196 (by decide) _).trans z2, (f1.c 197 (by decide) _).trans z3, (f1.c 198 (by decide) _).trans z4⟩
  have key : ∀ K : Mem → XA, ∃ M2, lp (c232_19 (runX d) (some 160) (iI p) K) 4294967296 ((0 : Int32), M1) = K M2 ∧ Fr W_kp M1 M2 ∧ KPc p M1 M2 ∧ M2.1 192 p.toNat = iI (mcn G e.toNat) ∧ (∀ j, 0 ≤ j → j < e → M2.1 189 (1000 * p + j).toNat = iI (G 0 j) ∧ M2.1 190 (1000 * p + j).toNat = iI (G 3 j) ∧ M2.1 191 (1000 * p + j).toNat = iI (G 4 j)) ∧ (∀ k, 0 ≤ k → k < mcn G e.toNat → M2.1 193 (1000 * p + k).toNat = iI (mtf G e.toNat k)) ∧ M2.1 188 p.toNat = M1.1 188 p.toNat := fun K => kp232_19 (by omega) hp he hO R1 ((f1.i _ _ (by decide)).trans h43) A1 (by rw [hM1]; exact sI_eq)
  rw [r232]; unfold b232; rw [aR_e, aI_e, aZ_e]; unfold c232
  rw [gtP_q (rk_160 hR) (rf_29 hR), gtI_q (rk_160 hR) h43, asI_q (n := 8) (z := p) (y := e) (rk_188 hR) rfl (by omega) rfl]
  have Ra : RT (sI M 188 p.toNat (iI e)) := hR
  rw [gtP_q (rk_160 Ra) (rf_33 Ra), asI_q (n := 8) (z := p) (y := 0) (rk_192 Ra) rfl (by omega) li_0, ← hM1, jn_v]
  obtain ⟨M2, e2, f2, k2, a1, a2, a3, a4⟩ := key (jv fun s6 => jn (fun (s7 : Mem) => gtP (13, 157) s7 (some 160) 104 fun x8 => asI 102 s7 x8 (iI p) ((znar ((0 : Int32)))) fun M9 => gtP (13, 157) M9 (some 160) 123 fun x10 => asI 102 M9 x10 (iI p) ((znar ((0 : Int32)))) fun M11 => some (.null, M11)) fun j163 => lp (c232_139 (runX d) (some 160) (iI p) j163) 4294967296 ((0 : Int32), s6))
  rw [e2, jv_e, jn_v]
  have f12 := Fr.t f1 f2
  have R2 := hR.fr f12
  obtain ⟨M3, e3, f3, k3, b1⟩ := kp232_139 (d := d) (p := p) (M := M2) hp (K := jv fun s7 => gtP (13, 157) s7 (some 160) 104 fun x8 => asI 102 s7 x8 (iI p) ((znar ((0 : Int32)))) fun M9 => gtP (13, 157) M9 (some 160) 123 fun x10 => asI 102 M9 x10 (iI p) ((znar ((0 : Int32)))) fun M11 => some (.null, M11)) R2
  rw [e3, jv_e]
  have f13 : Fr W_kp M M3 := Fr.t f12 (Fr.m f3 (by decide))
  have R3 := hR.fr f13
  have Rb : RT (sI M3 221 p.toNat (iI 0)) := R3
  have zn0 : znar (0 : Int32) = iI 0 := by decide
  rw [gtP_q (rk_160 R3) (rf_104 R3), asI_q (n := 8) (z := p) (y := 0) (rk_221 R3) rfl (by omega) zn0, gtP_q (rk_160 Rb) (rf_123 Rb), asI_q (n := 8) (z := p) (y := 0) (rk_238 Rb) rfl (by omega) zn0]
  have kk : KPc p M M3 := fun b => by
    obtain ⟨x1, x2, x3⟩ := k1 b
    obtain ⟨y1, y2, y3⟩ := k2 b
    obtain ⟨z1, z2, z3⟩ := k3 b
    exact ⟨fun c x u w => (z1 c x u w).trans ((y1 c x u w).trans (x1 c x u w)), fun c x u w => (z2 c x u w).trans ((y2 c x u w).trans (x2 c x u w)), fun c x u w => (z3 c x u w).trans ((y3 c x u w).trans (x3 c x u w))⟩
  have t : ∀ c j, c ≠ 183 → c ≠ 221 → c ≠ 238 → (sI (sI M3 221 p.toNat (iI 0)) 238 p.toNat (iI 0)).1 c j = M2.1 c j := fun c j u1 u2 u3 => (sI_ne u3).trans ((sI_ne u2).trans (f3.c c (fun z y => by simp only [List.mem_cons, List.not_mem_nil, or_false] at y; subst y; exact fun w => u1 w.symm) j))
  refine ⟨_, rfl, Fr.sI (inW_c (by decide) _) (Fr.sI (inW_c (by decide) _) f13), (kk.k3 (by omega) hp.1).k3 (by omega) hp.1, ⟨⟨?_, ?_⟩, fun j a b => ?_, fun k a b => ?_⟩, fun j a b => ?_, ?_, sI_eq⟩
  · rw [t _ _ (by decide) (by decide) (by decide), a4]; exact h188
  · rw [t _ _ (by decide) (by decide) (by decide)]; exact a1
  · rw [t _ _ (by decide) (by decide) (by decide), t _ _ (by decide) (by decide) (by decide), t _ _ (by decide) (by decide) (by decide)]; exact a2 j a b
  · rw [t _ _ (by decide) (by decide) (by decide)]; exact a3 k a b
  · exact (sI_ne (by decide)).trans ((sI_ne (by decide)).trans (b1 j a b))
  · exact (sI_ne (by decide)).trans sI_eq
end S88
