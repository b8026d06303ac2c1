/-! the reference's machine: an instruction that uses a member -/
section S9b8
variable {d : Nat} {e s s' t u A : ZS} {M M' M1 M2 : Mem} {a b j N x y : Nat} {v v1 v2 v3 w : Int32} {c k i n m p o q id key par NN D r : Int} {R : Int → RG} {G : RG} {L : Int → Int} {Y : Nat → Int → Int}
theorem zRA.tr (h : zRA e t u M1 M2) (f : zRo e M M1) (sa : zSa s t) (hp : zpc t = zpc s) : zRA e s u M M2 := by
  obtain ⟨t', z1, z2, z3⟩ := h
  refine ⟨t', z1, z2.pre f, ?_⟩
  rcases z3 with ⟨y1, y2, y3, y4⟩ | ⟨y1, y2, y3, y4⟩ | z3
  · exact Or.inl ⟨y1, sa.tr y2, by rw [y3, hp], y4⟩
  · exact Or.inr (Or.inl ⟨y1, sa.tr y2, by rw [y3, hp], y4⟩)
  · exact Or.inr (Or.inr z3)
theorem zRA.to (h : zRA e s u M M1) (g : zto e A u) : zRA e s A M M1 := by
  obtain ⟨t', z1, z2, z3⟩ := h
  exact ⟨t', g.tr z1, z2, z3⟩
/-- a CALL -/
theorem rr250 (hd : 4 * (12 - s.1 0 0 0) + 13 ≤ d ∧ 13 ≤ d) (hT : zET e) (hl : zEl e) (hD : zRD e R L NN) (hE : zRE e R L M) (h : zRM e s M) (hm : s.1 1 0 0 = 0) (hlr : zLr s) (hi : zId e id) (h4 : e.1 4 id 0 = 4) (hpar : par = e.1 5 id 0) (hp : 0 ≤ par ∧ par ≤ zh s ∧ par ≤ 4) (hK : zKn e (zmem e s 7 id)) (hN : s.1 9 0 0 ≤ NN) (h17 : ∀ D, 0 ≤ s.1 17 D 0 ∧ s.1 17 D 0 ≤ 100000) (hv : v1 = iI id) (hv2 : v2 = iI (zpc s)) (hv3 : v3 = iI par) : ∃ M', runX d 250 [va_rf (some 160), .int v1, .int v2, .int v3] M = some (.null, M') ∧ zRA e s (zmem e s 7 id) M M' := by
  obtain ⟨d, rfl⟩ : ∃ e, d = e + 1 := ⟨d - 1, by omega⟩
  subst hv; subst hv2; subst hv3
  have hR := h.1.1
  have k := rk_160 hR
  have sp := hlr.sp
  have hE7 := hE.2.2.2.2.2.2.2
  obtain ⟨b1, b2, m171, m172, m174, m175⟩ := hE.mb hi
  obtain ⟨g1, g2, g3, g4, g5⟩ := hE.sd hi
  have a24 := (hE.1 0 (Or.inl rfl)).2.2.2.1
  have b24 : e.1 24 1 0 ≤ 96 := by
    rcases hE.2.1 with z | z
    · have := (hE.1 1 (Or.inr ⟨rfl, z⟩)).2.2.2.1; omega
    · omega
  have a92 : M.1 160 92 = iI (e.1 10 1 0) := hE.2.2.2.1.2.2.1
  have b92 := hE.2.2.2.2.1.2.1 1 (by omega)
  obtain ⟨D, hD0⟩ : ∃ D, D = e.1 11 id 0 := ⟨_, rfl⟩
  have dd := hE7.2.2 id hi h4
  rw [← hD0] at dd
  have D8 : D = -1 ∨ (0 ≤ D ∧ D < 8 ∧ ∀ r, 0 ≤ r → r < e.1 12 D 0 → -1 ≤ e.1 13 D r ∧ e.1 13 D r < par) := by
    rcases dd with z | z
    · exact Or.inl z.1
    · exact Or.inr ⟨z.1, z.2.1, by rw [hpar]; exact z.2.2.2.1⟩
  clear dd
  have q272 := rr272 (d := d) (M := M) (v1 := iI (e.1 29 (zq id) 0)) (v2 := iI (id - 96 * zq id)) (by omega) hR hE7 hi h4 rfl (by unfold zq; by_cases y : id < 96 <;> simp only [y, if_true, if_false] <;> exact congrArg iI (by omega)) ⟨a24.2.2, b24⟩
  rw [← hD0] at q272
  -- the RULE
  obtain ⟨r, hr⟩ : ∃ r, r = zruleOf e s id := ⟨_, rfl⟩
  have zr : r = if D < 0 then -2 else zrl e s D par (e.1 12 D 0).toNat := by rw [hr]; unfold zruleOf; rw [← hD0, ← hpar]
  have head : runX (d + 1) 250 [va_rf (some 160), .int (iI id), .int (iI (zpc s)), .int (iI par)] M = (if iI D < 0 then fr250 d D id (iI (zpc s)) par r M else gtI (13, 157) M (some 160) 92 fun x31 => if x31 = 0 then fr250 d D id (iI (zpc s)) par r M else (vC (13, 157) M (some 160) <| cV (runX d 279 [va_rf (some 160), .int (iI D), .int (iI par), .int (iI r)] M) fun M32 => fr250 d D id (iI (zpc s)) par r M32) : XA) := by
    rw [r250]; unfold b250; rw [aR_e, aI_e, aI_e, aI_e, aZ_e]; unfold c250
    rw [jn_v, hE.q_if hR hi, jv_e, jn_v]
    have j32 : ∀ f : Int32 → XA, (if (96 : Int32) ≤ iI id then f (iI id - 96) else f (iI id)) = f (iI (id - 96 * zq id)) := fun f => by
      rcases g5 with ⟨y, z⟩ | ⟨y, z⟩
      · rw [if_neg (show ¬ (96 : Int32) ≤ iI id from leI_n (x := 96) rfl rfl (by omega)), z, show id - 96 * 0 = id by omega]
      · rw [if_pos (show (96 : Int32) ≤ iI id from leI_p (x := 96) rfl rfl (by omega)), z, show iI id - 96 = iI (id - 96 * 1) from cvI (sbI (y := 96) rfl rfl) (by omega)]
    rw [j32 (jv _), jv_e, vC_e k, cI_e q272, jn_v]
    rcases D8 with z | ⟨z1, z2, z3⟩
    · have er : r = -2 := by rw [zr, if_pos (by omega)]
      rw [if_neg (leI_n li_0 rfl (by omega)), jv_e, er]
      rfl
    · have er : r = zrl e s D par (e.1 12 D 0).toNat := by rw [zr, if_neg (by omega)]
      have q277 := rr277 (d := d) (M := M) (e := e) (s := s) (q := D) (par := par) (v1 := iI D) (v2 := iI par) (by omega) hR hE7 ⟨z1, z2⟩ h.2.2.2.1 (by unfold zsp at *; omega) rfl rfl z3 (h.tops hlr hp.2.1)
      rw [← er] at q277
      rw [if_pos (leI_p li_0 rfl (by omega)), vC_e k, cI_e q277, jv_e]
      rfl
  rw [head]
  have zm : zmem e s 7 id = zcall e (if 0 ≤ D ∧ e.1 10 1 0 = 1 then zhear s D par r else s) id D par r := by
    unfold zmem
    rw [if_neg (by decide), if_neg (by decide), if_neg (by decide), if_neg (by decide), ← hD0, ← hpar, ← hr]
  rw [zm] at hK ⊢
  rcases D8 with z | ⟨z1, z2, z3⟩
  · have er : r = -2 := by rw [zr, if_pos (by omega)]
    rw [if_pos (lsI_p rfl li_0 (by omega))]
    rw [if_neg (show ¬ (0 ≤ D ∧ e.1 10 1 0 = 1) by omega)] at hK ⊢
    exact fr250_e (by omega) hT hl hD hE h hm hlr hi h4 hp (Or.inl er) hK hN rfl
  · have er : r = zrl e s D par (e.1 12 D 0).toNat := by rw [zr, if_neg (by omega)]
    have r12 := (hE7.1 D z1 z2).2.2.1
    have rb : r = -2 ∨ (0 ≤ r ∧ 0 ≤ D ∧ D < 8 ∧ r < 8) := by
      have := zrl_b (e := e) (s := s) (q := D) (par := par) (e.1 12 D 0).toNat
      rw [← er] at this
      omega
    rw [if_neg (lsI_n rfl li_0 (by omega)), gtI_q k a92]
    by_cases y : e.1 10 1 0 = 1
    · rw [if_pos (show 0 ≤ D ∧ e.1 10 1 0 = 1 from ⟨z1, y⟩)] at hK ⊢
      rw [if_neg (eqI_n rfl li_0 (by omega)), vC_e k]
      obtain ⟨M', x1, x2, x3, x4, x5, x6⟩ := rr279 (d := d) (M := M) (q := D) (par := par) (h := s.1 17 D 0) (B := zsp s) (v1 := iI D) (v2 := iI par) (w := iI r) (by omega) hR ⟨z1, z2⟩ (h.1.2.2.2.2.2.2.1 D z1 z2).1 (h17 D) h.2.2.2.1 ⟨hp.1, hp.2.2⟩ (by unfold zsp at *; omega) rfl rfl
      obtain ⟨h2, f2⟩ := h.hear (r := r) hlr ⟨z1, z2⟩ (h17 D).1 x2 x3 x4 x5 x6 ⟨hp.1, hp.2.1⟩
      have sk : ∀ kk, kk ≠ 17 → (zhear s D par r).1 kk = s.1 kk := fun kk p => by
        funext x y
        show (if kk = 17 ∧ _ then _ else _) = _
        rw [if_neg fun z => p z.1]
      have W : ∀ kk, kk ≠ 12 → kk ≠ 13 → (zhear s D par r).2 kk = s.2 kk := fun kk p1 p2 => by
        funext x y
        rw [zhear_2, if_neg fun z => p1 z.1, if_neg fun z => p2 z.1]
      have s0 : (zhear s D par r).1 0 0 0 = s.1 0 0 0 := by rw [sk 0 (by decide)]
      have l' : zLr (zhear s D par r) := hlr.cg s0 fun i _ _ kk z => by rw [sk kk (by omega)]
      have zp : zpc (zhear s D par r) = zpc s := rfl
      have zhh : zh (zhear s D par r) = zh s := rfl
      obtain ⟨M'', q1, q2⟩ := fr250_e (d := d) (D := D) (r := r) (v1 := iI (zpc s)) (by rw [s0]; omega) hT hl hD (hE.ro f2) h2 (by rw [sk 1 (by decide)]; exact hm) l' hi h4 (by rw [zhh]; exact hp) rb hK (by rw [sk 9 (by decide)]; exact hN) (by rw [zp])
      refine ⟨M'', ?_, q2.tr f2 ((zSa.r (s := s)).as (fun kk z => sk kk (by omega)) ⟨W 0 (by decide) (by decide), W 1 (by decide) (by decide)⟩) zp⟩
      rw [cV_e x1]
      exact q1
    · rw [if_neg (show ¬ (0 ≤ D ∧ e.1 10 1 0 = 1) by omega)] at hK ⊢
      rw [if_pos (eqI_p rfl li_0 (by omega))]
      exact fr250_e (by omega) hT hl hD hE h hm hlr hi h4 hp rb hK hN rfl
end S9b8
