def up1 {α : Type} (g : Int → α) (k : Int) (v : α) : Int → α := fun i => if i = k then v else g i
theorem up1_e {α : Type} {g : Int → α} {k i : Int} {v : α} (h : i = k) : up1 g k v i = v := if_pos h
theorem up1_n {α : Type} {g : Int → α} {k i : Int} {v : α} (h : i ≠ k) : up1 g k v i = g i := if_neg h
/-- where the token ahead ends -/
def prv (E : Int → Int) (i : Int) : Int := if i ≤ 0 then 0 else E (i - 1)
def Tks (T : Int → Int) (W : Int → Int64) (n k : Int) (kd pl : Int → Int) (tx : Int → Int64) (E : Int → Int) : Prop := ∀ i, 0 ≤ i → i < k → TkR 1 3 4 128 200 T W n (prv E i) (kd i) (pl i) (E i) (tx i) (tx i = nmL T (pl i) (E i - pl i).toNat)
def TkA (M : Mem) (k : Int) (kd pl : Int → Int) (tx : Int → Int64) : Prop := ∀ i, 0 ≤ i → i < k → M.1 68 i.toNat = iI (kd i) ∧ M.1 69 i.toNat = iI (pl i) ∧ M.2.1 70 i.toNat = tx i
def NoE (kd : Int → Int) (k : Int) : Prop := ∀ i, 0 ≤ i → i < k → kd i ≠ 0 ∧ kd i ≠ 1
def LastE (kd : Int → Int) (k : Int) : Prop := 1 ≤ k ∧ NoE kd (k - 1) ∧ (kd (k - 1) = 0 ∨ kd (k - 1) = 1)
section S28
variable {T : Int → Int} {W : Int → Int64} {n k q c u v : Int} {x : Int64} {kd pl E : Int → Int} {tx : Int → Int64} {M M2 : Mem} {WL : List (Nat × Nat)}
theorem NoE.z : NoE kd 0 := fun i a b => absurd b (by omega)
theorem NoE.add (h : NoE kd k) (hq : q = k + 1) (h1 : c ≠ 0 ∧ c ≠ 1) : NoE (up1 kd k c) q := fun i a b => by
  by_cases e : i = k
  · rw [up1_e e]; exact h1
  · rw [up1_n e]; exact h i a (by omega)
theorem LastE.mk (h : NoE kd k) (hk : 0 ≤ k) (hq : q = k + 1) (h1 : c = 0 ∨ c = 1) : LastE (up1 kd k c) q := by
  refine ⟨by omega, fun i a b => ?_, ?_⟩
  · rw [up1_n (by omega)]; exact h i a (by omega)
  · rw [up1_e (by omega)]; exact h1
theorem prv_add (hk : 0 ≤ k) (hq : q = k + 1) : prv (up1 E k v) q = v := by
  unfold prv
  rw [if_neg (by omega), up1_e (by omega)]
theorem prv_old {i : Int} (h : i ≤ k) : prv (up1 E k v) i = prv E i := by
  unfold prv
  by_cases e : i ≤ 0
  · rw [if_pos e, if_pos e]
  · rw [if_neg e, if_neg e, up1_n (by omega)]
theorem Tks.z : Tks T W n 0 kd pl tx E := fun i a b => absurd b (by omega)
theorem Tks.add (h : Tks T W n k kd pl tx E) (hk : 0 ≤ k) (hq : q = k + 1) (ht : TkR 1 3 4 128 200 T W n (prv E k) c u v x (x = nmL T u (v - u).toNat)) : Tks T W n q (up1 kd k c) (up1 pl k u) (up1 tx k x) (up1 E k v) := fun i a b => by
  by_cases e : i = k
  · rw [prv_old (by omega), up1_e e, up1_e e, up1_e e, up1_e e, e]; exact ht
  · rw [prv_old (by omega), up1_n e, up1_n e, up1_n e, up1_n e]; exact h i a (by omega)
theorem TkA.z : TkA M 0 kd pl tx := fun i a b => absurd b (by omega)
theorem TkA.add (h : TkA M k kd pl tx) (hq : q = k + 1) (e1 : M.1 68 k.toNat = iI c) (e2 : M.1 69 k.toNat = iI u) (e3 : M.2.1 70 k.toNat = x) : TkA M q (up1 kd k c) (up1 pl k u) (up1 tx k x) := fun i a b => by
  by_cases e : i = k
  · rw [up1_e e, up1_e e, up1_e e, e]; exact ⟨e1, e2, e3⟩
  · rw [up1_n e, up1_n e, up1_n e]; exact h i a (by omega)
theorem TkA.fr (h : TkA M k kd pl tx) (f : Fr WL M M2) (h1 : ∀ z, z ∈ WL → z.1 ≠ 68 ∧ z.1 ≠ 69 ∧ z.1 ≠ 70) : TkA M2 k kd pl tx := fun i a b => ⟨(f.c _ (fun z y => (h1 z y).1) _).trans (h i a b).1, (f.c _ (fun z y => (h1 z y).2.1) _).trans (h i a b).2.1, (f.lc _ (fun z y => (h1 z y).2.2) _).trans (h i a b).2.2⟩
theorem TkA.f7 (h : TkA M k kd pl tx) (f : Fr WL M M2) (h1 : ∀ z, z ∈ WL → z.1 ≠ 68 ∧ z.1 ≠ 69) (hk : 0 ≤ k) (g : ∀ j, j ≠ k.toNat → M2.2.1 70 j = M.2.1 70 j) : TkA M2 k kd pl tx := fun i a b => ⟨(f.c _ (fun z y => (h1 z y).1) _).trans (h i a b).1, (f.c _ (fun z y => (h1 z y).2) _).trans (h i a b).2.1, (g _ (by omega)).trans (h i a b).2.2⟩
theorem TkA.oI {a j : Nat} {w : Int32} (h : TkA M k kd pl tx) (h1 : a ≠ 68 ∧ a ≠ 69) : TkA (sI M a j w) k kd pl tx := fun i p q => ⟨(sI_ne (fun e => h1.1 e.symm)).trans (h i p q).1, (sI_ne (fun e => h1.2 e.symm)).trans (h i p q).2.1, (h i p q).2.2⟩
theorem TkA.kI {a : Nat} {w : Int32} (h : TkA M k kd pl tx) (hk : 0 ≤ k) : TkA (sI M a k.toNat w) k kd pl tx := fun i p q => ⟨(sI_nej (by omega)).trans (h i p q).1, (sI_nej (by omega)).trans (h i p q).2.1, (h i p q).2.2⟩
theorem TkA.kL {a : Nat} {w : Int64} (h : TkA M k kd pl tx) (hk : 0 ≤ k) : TkA (sL M a k.toNat w) k kd pl tx := fun i p q => ⟨(h i p q).1, (h i p q).2.1, (sL_nej (by omega)).trans (h i p q).2.2⟩
/-- a token that is one has a byte -/
theorem TkR.pos {kx kn km kl kw p0 tk f e : Int} {nm : Int64} {Y : Prop} (h : TkR kx kn km kl kw T W n p0 tk f e nm Y) (h0 : tk ≠ 0) : p0 < e := by
  obtain ⟨⟨h1, -, -⟩, h2, h3, h4⟩ := h
  rcases h4 with ⟨h5, h6, h7⟩ | ⟨h5, h6, h7, h8, h9⟩ | ⟨h5, h6, h7, h8, h9⟩ | ⟨h5, h6, h7, h8⟩
  · exact absurd h6 h0
  · by_cases q : f = e
    · rw [← q] at h8; exact absurd (Or.inl h6) h8
    · omega
  · by_cases q : f = e
    · rw [← q] at h8; exact absurd h6 h8
    · omega
  · rcases h8 with ⟨-, -, h8, -⟩ | ⟨-, h8, -⟩
    · omega
    · omega
theorem TkR.dig {kx kn km kl kw p0 tk f e : Int} {nm : Int64} {Y : Prop} (h : SkR T p0 f) (h1 : f < n ∧ f ≤ e ∧ e ≤ n) (h2 : 48 ≤ T f ∧ T f ≤ 57) (h3 : Al dg8 T f e) (h4 : ¬ (48 ≤ T e ∧ T e ≤ 57)) (h5 : (e - f ≤ 9 ∧ ¬ (97 ≤ T e ∧ T e ≤ 122) ∧ tk = km ∧ Y) ∨ ((9 < e - f ∨ (97 ≤ T e ∧ T e ≤ 122)) ∧ tk = kx)) : TkR kx kn km kl kw T W n p0 tk f e nm Y := ⟨h, by omega, by omega, Or.inr (Or.inr (Or.inl ⟨by omega, h2, h3, h4, h5⟩))⟩
end S28
def W_sc : List (Nat × Nat) := [(66, 6), (66, 7), (68, 9999), (69, 9999), (70, 9999)]
theorem z113 {d : Nat} {M : Mem} (hd : 6 ≤ d) {L : Nat} {xs : Nat → Int32} (hO : OldOK L xs M) {T : Int → Int} {n : Int} (hR : CT M) (hT : Tp 66 1 67 T n M) {W : Int → Int64} (hW : ∀ i, 0 ≤ i → i < 28 → M.2.1 71 i.toNat = W i)   : Rt (runX d 113 [va_rf (some 66)] M) (fun _ M2 => ∃ (k : Int) (kd : Int → Int) (pl : Int → Int) (tx : Int → Int64) (E : Int → Int), Fr W_sc M M2 ∧ (1 ≤ k ∧ k ≤ 3001) ∧ (TkA M2 k kd pl tx) ∧ (Tks T W n k kd pl tx E) ∧ (LastE kd k)) := by
  obtain ⟨d, rfl⟩ : ∃ e, d = e + 1 := ⟨d - 1, by omega⟩
  rw [r113]; unfold b113; rw [aR_e, aZ_e]; unfold c113
  have hn := hT.2.1
  have hm := hT.2.2.1
  refine rs1 (ptI_q (z := 0) (ck_66 hR) (li_0)) ?_
  refine rs1 (ptI_q (z := 0) (ck_66 hR.sI) (li_0)) ?_
  refine Rt.jn (fun s => ∃ (k : Int) (kd : Int → Int) (pl : Int → Int) (tx : Int → Int64) (E : Int → Int), Fr W_sc M s ∧ (1 ≤ k ∧ k ≤ 3001) ∧ (TkA s k kd pl tx) ∧ (Tks T W n k kd pl tx E) ∧ (LastE kd k)) (fun s hs => ?_) (fun j163 hj163 => ?_)
  ·
    exact Rt.ok hs
  ·
    refine Rt.lp (fun m s => ∃ (mo : Int) (k : Int) (p : Int) (kd : Int → Int) (pl : Int → Int) (tx : Int → Int64) (E : Int → Int), s.1 = iI mo ∧ s.2.1 = iI k ∧ Fr W_sc M s.2.2 ∧ s.2.2.1 66 7 = iI p ∧ (s.2.2.1 66 6 = iI k) ∧ (0 ≤ k ∧ k ≤ 3001) ∧ (0 ≤ p ∧ p ≤ n) ∧ (p = prv E k) ∧ (mo = 0 ∨ mo = 1) ∧ (mo = 0 ∨ k ≤ p) ∧ (TkA s.2.2 k kd pl tx) ∧ (Tks T W n k kd pl tx E) ∧ (mo = 1 → NoE kd k) ∧ (mo = 0 → LastE kd k) ∧ ((m : Int) = 3001 - k)) (fun m s go hs hgo => ?_) (3001 : Int).toNat _ _ (by omega) ⟨1, 0, 0, (fun _ => 0), (fun _ => 0), (fun _ => 0), (fun _ => 0), li_1, li_0, (Fr.sI (by decide) (Fr.sI (by decide) Fr.r)), sI_eq, (sI_nej (by decide)).trans (sI_eq), by omega, by omega, by first | rfl | exact (prv_add (by omega) rfl).symm, by omega, by first | omega | (have q := TkR.pos (by assumption : TkR 1 3 4 128 200 T W n p c f e x _) (by omega); omega), TkA.z, by first | exact Tks.z | exact Tks.add (by assumption) (by omega) rfl (by rw [← (by assumption : p = prv E k)]; assumption), by first | exact fun _ => NoE.z | exact fun q => absurd q (by omega) | exact fun _ => NoE.add ((by assumption : mo = 1 → NoE kd k) (by omega)) rfl (by omega), by first | exact fun q => absurd q (by omega) | exact fun _ => LastE.mk ((by assumption : mo = 1 → NoE kd k) (by omega)) (by omega) rfl (by omega), by omega⟩
    obtain ⟨t1, t2, Mm3⟩ := s
    dsimp only at hs
    try dsimp only
    obtain ⟨mo, k, p, kd, pl, tx, E, e4_mo, e4_k, f4, e4_p, p4_0, p4_1, p4_2, p4_3, p4_4, p4_5, p4_6, p4_7, p4_8, p4_9, p4_10⟩ := hs
    unfold c113_14
    by_cases c5 : 3000 < k
    · refine rs1 (if_pos (lsI_p (li_3000) (e4_k) (by omega))) ?_
      exact hj163 _ ⟨k, kd, pl, tx, E, f4, by have q := (by assumption : mo = 0 → LastE kd k) (by omega); have := q.1; omega, p4_6, by assumption, (by assumption : mo = 0 → LastE kd k) (by omega)⟩
    · refine rs1 (if_neg (lsI_n (li_3000) (e4_k) (by omega))) ?_
      by_cases c6 : mo = 0
      · refine rs1 (if_pos (eqI_p (e4_mo) (li_0) (by omega))) ?_
        exact hj163 _ ⟨k, kd, pl, tx, E, f4, by have q := (by assumption : mo = 0 → LastE kd k) (by omega); have := q.1; omega, p4_6, by assumption, (by assumption : mo = 0 → LastE kd k) (by omega)⟩
      · refine rs1 (if_neg (eqI_n (e4_mo) (li_0) (by omega))) ?_
        refine rs1 (vC_e (ck_66 (hR.fr f4))) ?_
        refine Rc_V (z114 (by omega) (hR.fr f4) (hT.fr f4 (by decide) (by decide)) (e4_p) (by omega)) fun v Ma7 h7 => ?_
        obtain ⟨f, g7, e7_f, p7_0, p7_1⟩ := h7
        have f7 : Fr W_sc M Ma7 := Fr.t f4 (Fr.m g7 (by decide))
        refine rs1 (cV_e rfl) ?_
        have hf0 : 0 ≤ f := by have q := (by assumption : SkR T p f); have := q.1; omega
        have bf := hT.b f
        have zf : f < n ∨ T f = 0 := (Int.lt_or_le f n).imp id (hT.z f)
        refine rs1 (gtP_q (w := some 69) (ck_66 (hR.fr f7)) (cf_66_3 (hR.fr f7))) ?_
        refine rs1 (gtI_q (w := iI k) (ck_66 (hR.fr f7)) ((g7.i _ _ (by decide)).trans (p4_0))) ?_
        refine rs1 (gtI_q (w := iI f) (ck_66 (hR.fr f7)) (e7_f)) ?_
        refine rs1 (asI_q (n := 3001) (z := k) (y := f) (ck_69 (hR.fr f7)) (rfl) (by omega) (rfl)) ?_
        refine rs1 (gtP_q (w := some 70) (ck_66 (hR.fr f7).sI) (cf_66_4 (hR.fr f7).sI)) ?_
        refine rs1 (gtI_q (w := iI k) (ck_66 (hR.fr f7).sI) ((sI_ne (by decide)).trans ((g7.i _ _ (by decide)).trans (p4_0)))) ?_
        refine rs1 (asL_q (n := 3001) (z := k) (w := (0 : Int64)) (ck_70 (hR.fr f7).sI) (rfl) (by omega) (rfl)) ?_
        refine rs1 (gtP_q (w := some 68) (ck_66 (hR.fr f7).sI.sL) (cf_66_2 (hR.fr f7).sI.sL)) ?_
        refine rs1 (gtI_q (w := iI k) (ck_66 (hR.fr f7).sI.sL) ((sL_i).trans ((sI_ne (by decide)).trans ((g7.i _ _ (by decide)).trans (p4_0))))) ?_
        refine rs1 (gtI_q (w := iI f) (ck_66 (hR.fr f7).sI.sL) ((sL_i).trans ((sI_ne (by decide)).trans (e7_f)))) ?_
        refine rs1 (gtI_q (w := iI n) (ck_66 (hR.fr f7).sI.sL) ((sL_i).trans ((sI_ne (by decide)).trans ((g7.i _ _ (by decide)).trans ((f4.i _ _ (by decide)).trans (hT.1)))))) ?_
        refine Rt.jn (fun s => ∃ (c : Int) (e : Int) (x : Int64), s.1 = iI c ∧ Fr W_sc M s.2 ∧ s.2.1 66 7 = iI e ∧ s.2.2.1 70 k.toNat = x ∧ s.2.1 66 6 = iI k ∧ s.2.1 69 k.toNat = iI f ∧ (0 ≤ c ∧ c ≤ 300) ∧ (TkR 1 3 4 128 200 T W n p c f e x (x = nmL T f (e - f).toNat)) ∧ (TkA s.2 k kd pl tx) ∧ (0 ≤ e ∧ e ≤ n)) (fun s hs => ?_) (fun j115 hj115 => ?_)
        ·
          obtain ⟨t8, Mm9⟩ := s
          dsimp only at hs
          try dsimp only
          obtain ⟨c, e, x, e10_c, f10, e10_e, e10_x, e10_k0, e10_k1, p10_0, p10_1, p10_2, p10_3⟩ := hs
          refine rs1 (asI_q (n := 3001) (z := k) (y := c) (ck_68 (hR.fr f10)) (rfl) (by omega) (e10_c)) ?_
          refine rs1 (gtP_q (w := some 68) (ck_66 (hR.fr f10).sI) (cf_66_2 (hR.fr f10).sI)) ?_
          refine rs1 (gtI_q (w := iI k) (ck_66 (hR.fr f10).sI) ((sI_ne (by decide)).trans (e10_k0))) ?_
          refine rs1 (alI_q (n := 3001) (z := k) (w := iI c) (ck_68 (hR.fr f10).sI) (rfl) (by omega) (sI_eq)) ?_
          refine rs1 (jn_v) ?_
          refine rs1 (jn_v) ?_
          by_cases c11 : c = 0
          · refine rs1 (if_pos (eqI_p (rfl) (li_0) (by omega))) ?_
            refine rs1 (jv_e) ?_
            refine rs1 (jv_e) ?_
            refine rs1 (gtI_q (w := iI k) (ck_66 (hR.fr f10).sI) ((sI_ne (by decide)).trans (e10_k0))) ?_
            refine rs1 (ptI_q (z := (k + 1)) (ck_66 (hR.fr f10).sI) (adI (rfl) (li_1))) ?_
            refine rs1 (ltI_q (z := (k + 1)) (adI (e4_k) (li_1))) ?_
            exact hgo (-k + 3000).toNat _ (by omega) ⟨0, (k + 1), e, (up1 kd k c), (up1 pl k f), (up1 tx k x), (up1 E k e), li_0, rfl, (Fr.sI (by decide) (Fr.sI (inW_c (by decide) _) f10)), (sI_nej (by decide)).trans ((sI_ne (by decide)).trans (e10_e)), sI_eq, by omega, by omega, by first | rfl | exact (prv_add (by omega) rfl).symm, by omega, by first | omega | (have q := TkR.pos (by assumption : TkR 1 3 4 128 200 T W n p c f e x _) (by omega); omega), TkA.add ((p10_2.kI (by omega)).oI (by decide)) rfl ((sI_ne (by decide)).trans (sI_eq)) ((sI_ne (by decide)).trans ((sI_ne (by decide)).trans (e10_k1))) ((sI_l).trans ((sI_l).trans (e10_x))), by first | exact Tks.z | exact Tks.add (by assumption) (by omega) rfl (by rw [← (by assumption : p = prv E k)]; assumption), by first | exact fun _ => NoE.z | exact fun q => absurd q (by omega) | exact fun _ => NoE.add ((by assumption : mo = 1 → NoE kd k) (by omega)) rfl (by omega), by first | exact fun q => absurd q (by omega) | exact fun _ => LastE.mk ((by assumption : mo = 1 → NoE kd k) (by omega)) (by omega) rfl (by omega), by omega⟩
          · refine rs1 (if_neg (eqI_n (rfl) (li_0) (by omega))) ?_
            refine rs1 (gtP_q (w := some 68) (ck_66 (hR.fr f10).sI) (cf_66_2 (hR.fr f10).sI)) ?_
            refine rs1 (gtI_q (w := iI k) (ck_66 (hR.fr f10).sI) ((sI_ne (by decide)).trans (e10_k0))) ?_
            refine rs1 (alI_q (n := 3001) (z := k) (w := iI c) (ck_68 (hR.fr f10).sI) (rfl) (by omega) (sI_eq)) ?_
            by_cases c12 : c = 1
            · refine rs1 (if_pos (eqI_p (rfl) (li_1) (by omega))) ?_
              refine rs1 (jv_e) ?_
              refine rs1 (jv_e) ?_
              refine rs1 (gtI_q (w := iI k) (ck_66 (hR.fr f10).sI) ((sI_ne (by decide)).trans (e10_k0))) ?_
              refine rs1 (ptI_q (z := (k + 1)) (ck_66 (hR.fr f10).sI) (adI (rfl) (li_1))) ?_
              refine rs1 (ltI_q (z := (k + 1)) (adI (e4_k) (li_1))) ?_
              exact hgo (-k + 3000).toNat _ (by omega) ⟨0, (k + 1), e, (up1 kd k c), (up1 pl k f), (up1 tx k x), (up1 E k e), li_0, rfl, (Fr.sI (by decide) (Fr.sI (inW_c (by decide) _) f10)), (sI_nej (by decide)).trans ((sI_ne (by decide)).trans (e10_e)), sI_eq, by omega, by omega, by first | rfl | exact (prv_add (by omega) rfl).symm, by omega, by first | omega | (have q := TkR.pos (by assumption : TkR 1 3 4 128 200 T W n p c f e x _) (by omega); omega), TkA.add ((p10_2.kI (by omega)).oI (by decide)) rfl ((sI_ne (by decide)).trans (sI_eq)) ((sI_ne (by decide)).trans ((sI_ne (by decide)).trans (e10_k1))) ((sI_l).trans ((sI_l).trans (e10_x))), by first | exact Tks.z | exact Tks.add (by assumption) (by omega) rfl (by rw [← (by assumption : p = prv E k)]; assumption), by first | exact fun _ => NoE.z | exact fun q => absurd q (by omega) | exact fun _ => NoE.add ((by assumption : mo = 1 → NoE kd k) (by omega)) rfl (by omega), by first | exact fun q => absurd q (by omega) | exact fun _ => LastE.mk ((by assumption : mo = 1 → NoE kd k) (by omega)) (by omega) rfl (by omega), by omega⟩
            · refine rs1 (if_neg (eqI_n (rfl) (li_1) (by omega))) ?_
              refine rs1 (jv_e) ?_
              refine rs1 (gtI_q (w := iI k) (ck_66 (hR.fr f10).sI) ((sI_ne (by decide)).trans (e10_k0))) ?_
              refine rs1 (ptI_q (z := (k + 1)) (ck_66 (hR.fr f10).sI) (adI (rfl) (li_1))) ?_
              refine rs1 (ltI_q (z := (k + 1)) (adI (e4_k) (li_1))) ?_
              exact hgo (-k + 3000).toNat _ (by omega) ⟨1, (k + 1), e, (up1 kd k c), (up1 pl k f), (up1 tx k x), (up1 E k e), li_1, rfl, (Fr.sI (by decide) (Fr.sI (inW_c (by decide) _) f10)), (sI_nej (by decide)).trans ((sI_ne (by decide)).trans (e10_e)), sI_eq, by omega, by omega, by first | rfl | exact (prv_add (by omega) rfl).symm, by omega, by first | omega | (have q := TkR.pos (by assumption : TkR 1 3 4 128 200 T W n p c f e x _) (by omega); omega), TkA.add ((p10_2.kI (by omega)).oI (by decide)) rfl ((sI_ne (by decide)).trans (sI_eq)) ((sI_ne (by decide)).trans ((sI_ne (by decide)).trans (e10_k1))) ((sI_l).trans ((sI_l).trans (e10_x))), by first | exact Tks.z | exact Tks.add (by assumption) (by omega) rfl (by rw [← (by assumption : p = prv E k)]; assumption), by first | exact fun _ => NoE.z | exact fun q => absurd q (by omega) | exact fun _ => NoE.add ((by assumption : mo = 1 → NoE kd k) (by omega)) rfl (by omega), by first | exact fun q => absurd q (by omega) | exact fun _ => LastE.mk ((by assumption : mo = 1 → NoE kd k) (by omega)) (by omega) rfl (by omega), by omega⟩
        ·
          by_cases c13 : f < n
          · refine rs1 (if_pos (lsI_p (rfl) (rfl) (by omega))) ?_
            refine rs1 (gtI_q (w := iI f) (ck_66 (hR.fr f7).sI.sL) ((sL_i).trans ((sI_ne (by decide)).trans (e7_f)))) ?_
            refine rs1 (vC_e (ck_66 (hR.fr f7).sI.sL)) ?_
            by_cases c14 : 97 ≤ (T f) ∧ (T f) ≤ 122
            ·
              refine rs1 (cI_e (z115_1 (by omega) (hR.fr f7).sI.sL (hT.fr (Fr.sL (inW_c (by decide) _) (Fr.sI (inW_c (by decide) _) f7)) (by decide) (by decide)) (rfl) (by omega))) ?_
              refine rs1 (if_neg (eqI_n (rfl) (li_0) (by omega))) ?_
              refine rs1 (vC_e (ck_66 (hR.fr f7).sI.sL)) ?_
              refine Rc_I (z117 (by omega) (hR.fr f7).sI.sL (hT.fr (Fr.sL (inW_c (by decide) _) (Fr.sI (inW_c (by decide) _) f7)) (by decide) (by decide)) (fun i a b => ((sL_ne (by decide)).trans ((sI_l).trans ((g7.lc _ (by decide) _).trans ((f4.lc _ (by decide) _))))).trans (hW i a b)) ((sL_i).trans ((sI_ne (by decide)).trans (e7_f))) ((sL_i).trans ((sI_ne (by decide)).trans ((g7.i _ _ (by decide)).trans (p4_0)))) (by omega)) fun v Ma15 h15 => ?_
              obtain ⟨ca, ea, xa, rfl, g15, e15_ea, e15_xa, p15_0, p15_1, p15_2, p15_3, p15_4, p15_5⟩ := h15
              have f15 : Fr W_sc M Ma15 := Fr.t (Fr.sL (inW_c (by decide) _) (Fr.sI (inW_c (by decide) _) f7)) (Fr.m g15 (by decide))
              refine rs1 (cI_e rfl) ?_
              exact hj115 _ ⟨ca, ea, xa, rfl, f15, e15_ea, e15_xa, (g15.i _ _ (by decide)).trans ((sL_i).trans ((sI_ne (by decide)).trans ((g7.i _ _ (by decide)).trans (p4_0)))), (g15.c _ (by decide) _).trans ((sL_i).trans (sI_eq)), by omega, by first | (exact TkR.end (by assumption) (by omega) rfl (by omega)) | (exact TkR.word (by assumption) (by omega) (by omega) (by assumption) (by omega) (by assumption)) | (exact TkR.sign (by assumption) (by omega) (by omega) (by omega) (by assumption)) | (exact TkR.dig (by assumption) (by omega) (by omega) (by assumption) (by omega) (by assumption)), ((((p4_6.fr g7 (by decide)).kI (by omega)).kL (by omega)).f7 g15 (by decide) (by omega) p15_0), by have := hT.2.1; omega⟩
            ·
              refine rs1 (cI_e (z115_0 (by omega) (hR.fr f7).sI.sL (hT.fr (Fr.sL (inW_c (by decide) _) (Fr.sI (inW_c (by decide) _) f7)) (by decide) (by decide)) (rfl) (by omega))) ?_
              refine rs1 (if_pos (eqI_p (rfl) (li_0) (by omega))) ?_
              refine rs1 (gtI_q (w := iI f) (ck_66 (hR.fr f7).sI.sL) ((sL_i).trans ((sI_ne (by decide)).trans (e7_f)))) ?_
              refine rs1 (vC_e (ck_66 (hR.fr f7).sI.sL)) ?_
              by_cases c16 : 48 ≤ (T f) ∧ (T f) ≤ 57
              ·
                refine rs1 (cI_e (z116_1 (by omega) (hR.fr f7).sI.sL (hT.fr (Fr.sL (inW_c (by decide) _) (Fr.sI (inW_c (by decide) _) f7)) (by decide) (by decide)) (rfl) (by omega))) ?_
                refine rs1 (if_neg (eqI_n (rfl) (li_0) (by omega))) ?_
                refine rs1 (vC_e (ck_66 (hR.fr f7).sI.sL)) ?_
                refine Rc_I (z118 (by omega) (hR.fr f7).sI.sL (hT.fr (Fr.sL (inW_c (by decide) _) (Fr.sI (inW_c (by decide) _) f7)) (by decide) (by decide)) ((sL_i).trans ((sI_ne (by decide)).trans (e7_f))) ((sL_i).trans ((sI_ne (by decide)).trans ((g7.i _ _ (by decide)).trans (p4_0)))) (by omega)) fun v Ma17 h17 => ?_
                obtain ⟨ca, ea, xa, rfl, g17, e17_ea, e17_xa, p17_0, p17_1, p17_2, p17_3, p17_4, p17_5⟩ := h17
                have f17 : Fr W_sc M Ma17 := Fr.t (Fr.sL (inW_c (by decide) _) (Fr.sI (inW_c (by decide) _) f7)) (Fr.m g17 (by decide))
                refine rs1 (cI_e rfl) ?_
                exact hj115 _ ⟨ca, ea, xa, rfl, f17, e17_ea, e17_xa, (g17.i _ _ (by decide)).trans ((sL_i).trans ((sI_ne (by decide)).trans ((g7.i _ _ (by decide)).trans (p4_0)))), (g17.c _ (by decide) _).trans ((sL_i).trans (sI_eq)), by omega, by first | (exact TkR.end (by assumption) (by omega) rfl (by omega)) | (exact TkR.word (by assumption) (by omega) (by omega) (by assumption) (by omega) (by assumption)) | (exact TkR.sign (by assumption) (by omega) (by omega) (by omega) (by assumption)) | (exact TkR.dig (by assumption) (by omega) (by omega) (by assumption) (by omega) (by assumption)), ((((p4_6.fr g7 (by decide)).kI (by omega)).kL (by omega)).f7 g17 (by decide) (by omega) p17_0), by have := hT.2.1; omega⟩
              ·
                refine rs1 (cI_e (z116_0 (by omega) (hR.fr f7).sI.sL (hT.fr (Fr.sL (inW_c (by decide) _) (Fr.sI (inW_c (by decide) _) f7)) (by decide) (by decide)) (rfl) (by omega))) ?_
                refine rs1 (if_pos (eqI_p (rfl) (li_0) (by omega))) ?_
                refine rs1 (vC_e (ck_66 (hR.fr f7).sI.sL)) ?_
                refine Rc_I (z119 (by omega) (hO.fr (W := W_sc) (Fr.sL (inW_c (by decide) _) (Fr.sI (inW_c (by decide) _) f7)) (by decide)) (hR.fr f7).sI.sL (hT.fr (Fr.sL (inW_c (by decide) _) (Fr.sI (inW_c (by decide) _) f7)) (by decide) (by decide)) ((sL_i).trans ((sI_ne (by decide)).trans (e7_f))) (by omega)) fun v Ma18 h18 => ?_
                obtain ⟨ca, ea, rfl, g18, e18_ea, p18_0, p18_1, p18_2⟩ := h18
                have f18 : Fr W_sc M Ma18 := Fr.t (Fr.sL (inW_c (by decide) _) (Fr.sI (inW_c (by decide) _) f7)) (Fr.m g18 (by decide))
                refine rs1 (cI_e rfl) ?_
                exact hj115 _ ⟨ca, ea, (0 : Int64), rfl, f18, e18_ea, (g18.lc _ (by decide) _).trans (sL_eq), (g18.i _ _ (by decide)).trans ((sL_i).trans ((sI_ne (by decide)).trans ((g7.i _ _ (by decide)).trans (p4_0)))), (g18.c _ (by decide) _).trans ((sL_i).trans (sI_eq)), by omega, by first | (exact TkR.end (by assumption) (by omega) rfl (by omega)) | (exact TkR.word (by assumption) (by omega) (by omega) (by assumption) (by omega) (by assumption)) | (exact TkR.sign (by assumption) (by omega) (by omega) (by omega) (by assumption)) | (exact TkR.dig (by assumption) (by omega) (by omega) (by assumption) (by omega) (by assumption)), ((((p4_6.fr g7 (by decide)).kI (by omega)).kL (by omega)).fr g18 (by decide)), by have := hT.2.1; omega⟩
          · refine rs1 (if_neg (lsI_n (rfl) (rfl) (by omega))) ?_
            exact hj115 _ ⟨0, f, (0 : Int64), li_0, (Fr.sL (inW_c (by decide) _) (Fr.sI (inW_c (by decide) _) f7)), (sL_i).trans ((sI_ne (by decide)).trans (e7_f)), sL_eq, (sL_i).trans ((sI_ne (by decide)).trans ((g7.i _ _ (by decide)).trans (p4_0))), (sL_i).trans (sI_eq), by omega, by first | (exact TkR.end (by assumption) (by omega) rfl (by omega)) | (exact TkR.word (by assumption) (by omega) (by omega) (by assumption) (by omega) (by assumption)) | (exact TkR.sign (by assumption) (by omega) (by omega) (by omega) (by assumption)) | (exact TkR.dig (by assumption) (by omega) (by omega) (by assumption) (by omega) (by assumption)), (((p4_6.fr g7 (by decide)).kI (by omega)).kL (by omega)), by have := hT.2.1; omega⟩
