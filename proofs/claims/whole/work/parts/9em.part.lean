/-! parcel(), both -/
def oA (o : HO) (g : PG) : HO := ((oN o + 1, up1 (oP o) (oN o) g), o.2)
def Zp8 (a j : Nat) : Prop := Zrd a j ∨ (a = 66 ∧ j = 1)
section S9em
variable {dl d LL N TT ex x a j : Nat} {T : Int → Int} {n p i e k s0 sl : Int} {M M' M0 M2 Mc Mr : Mem} {xs : Nat → Int32} {G : Nat → Int → Int} {R : RG} {H : HG} {Z Z' : Nat → Nat → Prop} {ow : Nat → Int} {v1 : Int32} {o : HO} {W : List (Nat × Nat)} {g : PG}
theorem fr_fg (f : Fr W M M') (h : 259 ≤ ln M) : FG (fun a j => inW W a j = true) M M' := ⟨h, fun a q e => f.kd e, fun a j _ z => by
  have z' : inW W a j = false := by
    cases y : inW W a j with
    | true => exact absurd y z
    | false => rfl
  exact ⟨f.i _ _ z', f.l _ _ z', by rw [f.p]⟩⟩
theorem Zrd_b (h : Zrd a j) : (65 ≤ a ∧ a ≤ 86) ∧ ∀ q, (a, j, q) ∉ CFd := by
  obtain ⟨z, z1, z2, z3⟩ := inW_x h.2
  have g : ∀ z, z ∈ W_pc → 65 ≤ z.1 ∧ z.1 ≤ 86 := by decide +kernel
  have g2 : ∀ z, z ∈ W_pc → ∀ q, q ∈ CFd → ¬ (q.1 = z.1 ∧ (z.2 = 9999 ∨ z.2 = q.2.1)) := by decide +kernel
  subst z2
  exact ⟨g z z1, fun q hq => g2 z z1 _ hq ⟨rfl, z3⟩⟩
theorem Zpw_ho (hP : hoP o) (hpl : plC ow o M) (h : Zpw ow a j) : hoZ o a j := by
  rcases h with h | h | h | ⟨h, h2⟩
  · obtain ⟨h1, h2⟩ := Zrd_b h
    exact ⟨by omega, h2, fun p x y u z => by have := (hP.2.2.1 p x y).2.2; omega, fun x y => by omega⟩
  · obtain ⟨rfl, rfl⟩ := h
    exact ⟨by decide, fun q hq => by
      have g : ∀ q, q ∈ CFd → ¬ (q.1 = 66 ∧ q.2.1 = 1) := by decide
      exact g _ hq ⟨rfl, rfl⟩, fun p x y u z => by have := (hP.2.2.1 p x y).2.2; omega, fun x y => absurd x (by decide)⟩
  · subst h
    exact ⟨by decide, fun q hq => by
      have g : ∀ q, q ∈ CFd → q.1 ≠ 87 := by decide
      exact g _ hq rfl, fun p x y u z => by have := (hP.2.2.1 p x y).2.2; omega, fun x y => absurd x (by decide)⟩
  · refine ⟨by omega, fun q hq => ?_, fun p x y u w => ?_, fun x y => by omega⟩
    · have g : ∀ q, q ∈ CFd → q.1 < 259 := by decide
      have := g _ hq
      dsimp only at this
      omega
    · have := hpl.2 p x y a u w
      omega
theorem Zp8_pw (h : Zp8 a j) : Zpw ow a j := h.elim Or.inl fun z => Or.inr (Or.inl z)
/-- the reference keeps the other parcels -/
theorem PkR.kp (h : PkR i g M) (hg : PkP g) (f : KP p M M') (c : KPc p M M') (hi : 0 ≤ i) (hne : i ≠ p) : PkR i g M' := by
  obtain ⟨h1, ⟨h2, h3⟩, h4, h5⟩ := h
  have hE := hg.1.n2.2.2.2.2
  have g0 := (mcn_b (gG g) (gE g).toNat).2
  have egm : gmc g = mcn (gG g) (gE g).toNat := rfl
  refine ⟨f i _ hi hne h1, ⟨((c 188).2.2 (Or.inl rfl) i hi hne).trans h2, ((c 192).2.2 (Or.inr (Or.inl rfl)) i hi hne).trans h3⟩, fun j a b => ?_, fun k a b => ((c 193).1 (Or.inr (Or.inr (Or.inr rfl))) _ (by omega) (by omega)).trans (h5 k a b)⟩
  obtain ⟨u1, u2, u3⟩ := h4 j a b
  exact ⟨((c 189).1 (Or.inl rfl) _ (by omega) (by omega)).trans u1, ((c 190).1 (Or.inr (Or.inl rfl)) _ (by omega) (by omega)).trans u2, ((c 191).1 (Or.inr (Or.inr (Or.inl rfl))) _ (by omega) (by omega)).trans u3⟩
theorem parcel_r (hP : hoP o) (hR : HR o sl Mr) (f : Fr W_pr Mr M2) (fk : KP (oN o) Mr M2) (fc : KPc (oN o) Mr M2) : (RT M2 ∧ 259 ≤ ln M2) ∧ (∀ p, 0 ≤ p → p < oN o → PkR p (oP o p) M2) ∧ dbR (oD o) (oW o) M2 ∧ M2.1 160 77 = iI sl ∧ M2.1 160 90 = iI (-1) ∧ M2.1 160 91 = iI 0 ∧ M2.1 160 92 = iI 0 ∧ M2.1 160 97 = iI 0 := by
  obtain ⟨⟨⟨r1, r2⟩, r3, r4⟩, r5, r6, r7, r8, r9, r10⟩ := hR
  have fg := fr_fg f r2
  have z : ∀ q, q ∈ W_pr → q.1 < 227 ∨ 234 < q.1 := by decide +kernel
  refine ⟨⟨r1.fr f, Nat.le_trans r2 fg.lq⟩, fun p a b => (r3 p a b).kp (hP.2.2.1 p a b) fk fc a (by omega), r4.fg fg fun a j h => ?_, (f.i _ _ (by decide +kernel)).trans r6, (f.i _ _ (by decide +kernel)).trans r7, (f.i _ _ (by decide +kernel)).trans r8, (f.i _ _ (by decide +kernel)).trans r9, (f.i _ _ (by decide +kernel)).trans r10⟩
  obtain ⟨q, q1, q2, -⟩ := inW_x h
  have := z q q1
  omega
theorem parcel_pair (hdl : 1000 ≤ dl) (hd : 1000 ≤ d) (hP : hoP o) (hC : HC LL xs o ow sl Mc) (hR : HR o sl Mr) (h2 : Mc.2.2.2[2]? = some (210, 0)) (hT : Tp 66 1 67 T n Mc) (hX : RX T n Mr) (hn : n ≤ 1399) (hW : ∀ i, 0 ≤ i → i < 28 → Mc.2.1 71 i.toNat = WC i) (h16 : Mc.1 65 16 = iI s0) (hs0 : 0 ≤ s0 ∧ s0 ≤ 10) (hm : RM Mr) : ∃ r Mc' Mr', runX dl 130 [va_rf (some 64)] Mc = some (.int r, Mc') ∧ runX d 231 [va_rf (some 160)] Mr = some (.int r, Mr') ∧ ((Mc' = Mc ∧ Mr' = Mr) ∨ ((FG (Zpw ow) Mc Mc' ∧ ln Mc' ≤ ln Mc + 1800 ∧ tot Mc'.2.2.2 ≤ tot Mc.2.2.2 + 74100) ∧ Fr W_pr Mr Mr' ∧ KPc (oN o) Mr Mr' ∧ ((∃ s0 : Int, Mc'.1 65 16 = iI s0 ∧ 0 ≤ s0 ∧ s0 ≤ 10) ∧ RM Mr' ∧ Mc'.1 66 1 = iI 0 ∧ Mr'.1 160 1 = iI 0 ∧ Mc'.1 65 10 = Mr'.1 160 65) ∧ ((HC LL xs o ow sl Mc' ∧ HR o sl Mr') ∨ ∃ (g : PG) (ow' : Nat → Int), (oN o < 8 ∧ gL g = ln Mc ∧ ∀ a, a < ln Mc → ow' a = ow a) ∧ hoP (oA o g) ∧ HC LL xs (oA o g) ow' sl Mc' ∧ HR (oA o g) sl Mr' ∧ (∀ j : Int, 0 ≤ j → j < (gR g).1 3 0 0 → Mc'.1 (gX g + 6) j.toNat = iI j) ∧ (∀ j : Int, 0 ≤ j → j < 16 → Mr'.1 183 (16 * oN o + j).toNat = iI j) ∧ (Mc'.1 (gX g) 13 = iI 0 ∧ Mr'.1 221 (oN o).toNat = iI 0) ∧ Mc'.1 (gX g) 16 = iI 0 ∧ Mc'.2.2.1 (gX g) 14 = some (gX g + 16) ∧ Mc'.2.2.1 (gX g) 15 = some (gX g + 17) ∧ Mr'.1 238 (oN o).toNat = iI 0))) := by
  obtain ⟨dl, rfl⟩ : ∃ e, dl = e + 2 := ⟨dl - 2, by omega⟩
  obtain ⟨d, rfl⟩ : ∃ e, d = e + 1 := ⟨d - 1, by omega⟩
  have cM := hC.1.1.1
  have rM := hR.1.1.1
  have h259 := hC.1.1.2.2
  have p8 := hP.1
  have lf := hC.2.1.1
  have eC : runX (dl + 2) 130 [va_rf (some 64)] Mc = c130 (runX (dl + 1)) (some 64) Mc := by
    rw [r130]; unfold b130; rw [aR_e, aZ_e]
  by_cases h8 : oN o < 8
  · obtain ⟨v, M, w, M2, e61, e231, hv, ⟨c5, f5, s1, s2, s3⟩, ⟨fr, rm, r1, fk, fc⟩, hq⟩ := read_both (dl := dl) (d := d) (p := oN o) (by omega) (by omega) hC.1.1.2.1 cM h259 h2 hT hn hW h16 hs0 hX hR.2.1 (by omega) hm
    rw [hv] at e61
    obtain ⟨rr1, rr2, rr3, rr4⟩ := parcel_r hP hR fr fk fc
    obtain ⟨M8, hM8⟩ : ∃ X, X = sI M 66 1 (iI 0) := ⟨_, rfl⟩
    have c8 : CT M8 := by rw [hM8]; exact c5
    have F8 : FG Zp8 Mc M8 := by
      rw [hM8]
      exact (f5.m fun _ _ z => Or.inl z).sI (Or.inr ⟨rfl, rfl⟩)
    have z87 : ∀ j, ¬ Zp8 87 j := fun j z => by
      rcases z with z | z
      · have := (Zrd_b z).1; omega
      · omega
    have z259 : ∀ a j, 259 ≤ a → ¬ Zp8 a j := fun a j l z => by
      rcases z with z | z
      · have := (Zrd_b z).1; omega
      · omega
    have l8 : Lf ow 87 1 (fun p => gX (oP o p)) (oN o) M8 := lf.fg F8 (fun _ _ => rfl) z87 fun a j l _ => z259 a j l
    have i8 : ∀ c j, c ≠ 66 → M8.1 c j = M.1 c j := fun c j h => by rw [hM8]; exact sI_ne h
    have pre : ∀ X : XA, (gtP (12, 19) M8 (some 64) 0 fun x9 => gtI (7, 20) M8 x9 10 fun x10 => if x10 = 0 then ( gtP (12, 19) M8 (some 64) 1 fun x11 => vC (0, 3) M8 x11 <| cI (runX (dl + 1) 346 [va_rf x11] M8) fun x13 M12 => gtP (12, 19) M12 (some 64) 1 fun x14 => nO (6, 18) M12 fun x15 M16 => gtP (12, 19) M16 (some 64) 0 fun x17 => vC (6, 18) M16 x15 <| cV (runX (dl + 1) 50 [va_rf x15, va_rf x17, .int x13] M16) fun M18 => vC (0, 3) M18 x14 <| cI (runX (dl + 1) 350 [va_rf x14, va_rf x15] M18) fun x20 M19 => some (.int x13, M19)) else ( gtP (12, 19) M8 (some 64) 0 fun x21 => gtI (7, 20) M8 x21 11 fun x22 => some (.int (((-10 : Int32)) - x22), M8))) = X → runX (dl + 2) 130 [va_rf (some 64)] Mc = X := fun X e => by
      rw [← e, eC]
      unfold c130
      rw [gtP_q (ck_64 cM) (cf_64_1 cM), vC_e lf.1.1, cI_e (lf_size (by omega) lf), if_pos (show iI (oN o) < (8 : Int32) from lsI_p (y := 8) rfl rfl (by omega)), gtP_q (ck_64 cM) (cf_64_0 cM), vC_e (ck_65 cM), cV_e e61, gtP_q (ck_64 c5) (cf_64_0 c5), gtP_q (ck_65 c5) (cf_65_0 c5), ptI_q (z := 0) (ck_66 c5) li_0, ← hM8]
    rcases hq with ⟨F, P, H, q1, q2, q3, q4, q5, q6, q7⟩ | ⟨Gs, e, H, R, q1, q2, q3, q4, q5, q6, q7, q8, q9, q10, q11, q12, q13, q14⟩
    · rw [q5] at e231
      have hroom := q4.room
      have lM8 : ln M8 = ln M := by rw [hM8]; rfl
      have tM8 : M8.2.2.2 = M.2.2.2 := by rw [hM8]; rfl
      have F19 : FG (Zpw ow) Mc M8 := F8.m fun _ _ z => Zp8_pw z
      refine ⟨iI (-10 - P), M8, M2, pre _ ?_, e231, Or.inr ⟨⟨F19, by omega, by rw [tM8]; omega⟩, fr, fc, ⟨⟨s1, (i8 65 16 (by decide)).trans s2, s3⟩, rm, by rw [hM8, sI_eq], r1, ((i8 65 10 (by decide)).trans q2).trans q6.symm⟩, Or.inl ⟨⟨hC.1.fg hP F19 fun a j z => Zpw_ho hP hC.2.1 z, ⟨l8, hC.2.1.2⟩, ?_⟩, ⟨rr1, rr2, rr3⟩, q7, rr4⟩⟩⟩
      · rw [gtP_q (ck_64 c8) (cf_64_0 c8), gtI_q (ck_65 c8) ((i8 65 10 (by decide)).trans q2), if_neg (show ¬ iI F = 0 from eqI_n (y := 0) rfl li_0 (by omega)), gtP_q (ck_64 c8) (cf_64_0 c8), gtI_q (ck_65 c8) ((i8 65 11 (by decide)).trans q3)]
        exact congrArg (fun z => some (Value.int z, M8)) (sbI li_m10 rfl)
      · exact (F8.i (F8.lw (by decide)) (fun z => by
          rcases z with z | z
          · have := (Zrd_b z).1; omega
          · omega)).trans hC.2.2
    · rw [q7] at e231
      have lM8 : ln M8 = ln M := by rw [hM8]; rfl
      have f68 : Fr [(66, 1)] M M8 := by rw [hM8]; exact Fr.sI (by decide) Fr.r
      have o8 : OldOK LL xs M8 := hC.1.1.2.1.fg F8 fun a j l z => by
        rcases z with z | z
        · have := (Zrd_b z).1; omega
        · omega
      have hN := q3.1.1
      obtain ⟨M18, k1, k2, ⟨H', k3⟩, k4, k5, k6, k7, k8, k9, k10, k11⟩ := kp_new (d := dl + 1) (M := M8) (G := Gs) (H := H) (R := R) (e := e) (p := oN o) (by omega) c8 o8 (by omega) (q3.fr f68 (by decide)) ((i8 65 9 (by decide)).trans q2) (fun j a b => by
        obtain ⟨t1, t2, t3⟩ := q4 j a b
        exact ⟨(i8 72 _ (by decide)).trans t1, (i8 73 _ (by decide)).trans t2, (i8 74 _ (by decide)).trans t3⟩) (fun j a b => (i8 75 _ (by decide)).trans (q5 j a b)) q6 rfl
      obtain ⟨g, hg⟩ : ∃ g : PG, g = (Gs, sCl (wOw H (owx (hOw H) (ln M8) 0)) (hEN H 2), R, e, ln M8, ln Mc) := ⟨_, rfl⟩
      rw [← hg] at k5 k6
      have gx : gX g = ln M8 := by rw [hg]; rfl
      have gl : gL g = ln Mc := by rw [hg]; rfl
      have gr : gR g = R := by rw [hg]; rfl
      have F18 : FG Zp8 Mc M18 := FG.cut ((F8.m fun _ _ z => Or.inl z).tr (k2.m fun _ _ z => Or.inr z))
      have c18 : CT M18 := cM.fg F18 fun a j _ ⟨q, hq⟩ z => (Zpw_ho (ow := ow) hP hC.2.1 (Zp8_pw z)).2.1 q hq
      obtain ⟨ow2, how2⟩ : ∃ X, X = owx ow (ln Mc) (10 + oN o) := ⟨_, rfl⟩
      have o2 : ∀ a, a < ln Mc → ow2 a = ow a := fun a z => by rw [how2]; exact if_neg (by omega)
      have o2' : ∀ a, ln Mc ≤ a → ow2 a = 10 + oN o := fun a z => by rw [how2]; exact if_pos z
      have l18 : Lf ow2 87 1 (fun p => gX (oP o p)) (oN o) M18 := lf.fg F18 o2 z87 fun a j l _ => z259 a j l
      have lx : ln M8 < ln M18 := by omega
      have lMM : ln Mc ≤ ln M8 := by omega
      obtain ⟨M19, m1, m2, m3, m4⟩ := l18.add (d := dl + 1) (x := ln M8) (q := (6, 18)) (by omega) h8 (by omega) (by rw [← gx]; exact k6.1.1.1) (by decide)
      obtain ⟨ow3, how3⟩ : ∃ X, X = owx ow2 (ln M18) 1 := ⟨_, rfl⟩
      rw [← how3] at m2
      have o3 : ∀ a, a < ln Mc → ow3 a = ow a := fun a z => by rw [how3]; exact (if_neg (by omega)).trans (o2 a z)
      have o3' : ∀ a, ln Mc ≤ a → a < ln M18 → ow3 a = 10 + oN o := fun a z z2 => by rw [how3]; exact (if_neg (by omega)).trans (o2' a z)
      have fL := m3.fgx (show 259 ≤ ln M18 by omega)
      have F19 : FG (Zpw ow) Mc M19 := FG.cut ((F18.m fun _ _ z => Or.inl (Zp8_pw z)).tr (fL.m fun a j z => by
        by_cases y : ln Mc ≤ a
        · exact Or.inr y
        · refine Or.inl (Or.inr (Or.inr ?_))
          rcases z with z | z
          · exact Or.inl z
          · exact Or.inr ⟨z.1, by rw [← o2 a (by omega)]; exact z.2⟩))
      have hco := hC.1.fg hP F19 fun a j z => Zpw_ho hP hC.2.1 z
      have lo : ∀ p, 0 ≤ p → p < oN o → gX (oP o p) + 17 < ln Mc := fun p a b => ln_lt (hC.1.2.1 p a b).2.2.1.2.2
      have k6' : PkC (oN o) g M19 := k6.fg k5 fL fun a j z y1 y2 => by
        have := o2' a (by omega)
        omega
      have nz : ∀ a j, ln Mc ≤ a → a < ln M18 → M19.1 a j = M18.1 a j ∧ M19.2.2.1 a j = M18.2.2.1 a j := fun a j z1 z2 => by
        have := o2' a z1
        exact ⟨fL.i z2 (by omega), fL.pt z2 (by omega)⟩
      have rk3 := k3.room
      have m19r := m3.1
      have i19 : ∀ c j, c < 259 → c ≠ 87 → M19.1 c j = M8.1 c j := fun c j l z => (m3.i (by omega) (by omega) j).trans (k2.i (by omega) (by omega))
      have up : ∀ p, p < oN o → oP (oA o g) p = oP o p := fun p h => up1_n (by omega)
      have upn : oP (oA o g) (oN o) = g := up1_e rfl
      refine ⟨iI (oN o), M19, M2, pre _ ?_, e231, Or.inr ⟨⟨F19, by omega, by omega⟩, fr, fc, ⟨⟨s1, (i19 65 16 (by decide) (by decide)).trans ((i8 65 16 (by decide)).trans s2), s3⟩, rm, (i19 66 1 (by decide) (by decide)).trans (by rw [hM8, sI_eq]), r1, ((i19 65 10 (by decide) (by decide)).trans ((i8 65 10 (by decide)).trans q1)).trans q8.symm⟩, Or.inr ⟨g, ow3, ⟨h8, gl, o3⟩, ⟨?_, ?_, ?_, ?_⟩, ⟨⟨hco.1, fun p a b => ?_, hco.2.2⟩, ⟨m2.cg fun j a b => ?_, fun p a b c y1 y2 => ?_⟩, ?_⟩, ⟨⟨rr1, fun p a b => ?_, rr3⟩, q9, rr4⟩, fun j a b => ?_, q12, ⟨?_, q13⟩, ?_, ?_, ?_, q14⟩⟩⟩
      · have k64 : ∀ X : Mem, CT X → X.2.2.2[64]? = some (12, 19) := fun X h => ck_64 h
        obtain ⟨X, hX⟩ : ∃ X, X = nw M8 6 18 := ⟨_, rfl⟩
        have cX : CT X := by
          rw [hX]
          exact c8.fg ((Fo.nw (Z := fun _ => False) (M := M8) (u := 6) (m := 18)).fgx (by omega)) fun _ _ _ _ z => z
        have kX : X.2.2.2[ln M8]? = some (6, 18) := by rw [hX]; exact nw_kd
        rw [← hX] at k1
        rw [gtP_q (ck_64 c8) (cf_64_0 c8), gtI_q (ck_65 c8) ((i8 65 10 (by decide)).trans q1), if_pos (show iI 0 = 0 from rfl), gtP_q (ck_64 c8) (cf_64_1 c8), vC_e l8.1.1, cI_e (lf_size (by omega) l8), gtP_q (ck_64 c8) (cf_64_1 c8), nO_e, show M8.2.2.2.length = ln M8 from rfl, show nw M8 (6, 18).1 (6, 18).2 = X from hX.symm, gtP_q (ck_64 cX) (cf_64_0 cX), vC_e kX, cV_e k1, vC_e l18.1.1, cI_e m1]
      · show 0 ≤ oN o + 1 ∧ oN o + 1 ≤ 8
        omega
      · intro q a b
        obtain ⟨d1, d2, d3, d4, d5, d6, d7⟩ := hP.2.1 q a b
        refine ⟨d1, d2, d3, d4, d5, fun z => ?_, d7⟩
        obtain ⟨t1, t2, t3, t4, t5⟩ := d6 z
        have := up _ t1
        refine ⟨by show oD o 1 q 0 < oN o + 1; omega, ?_, ?_, ?_, t5⟩
        · show oD o 2 q 0 < (gR (oP (oA o g) (oD o 1 q 0))).1 2 0 0
          rw [this]; exact t2
        · show (gR (oP (oA o g) (oD o 1 q 0))).1 2 2 (oD o 2 q 0) = 4
          rw [this]; exact t3
        · show oD o 3 q 0 = (gR (oP (oA o g) (oD o 1 q 0))).1 2 4 (oD o 2 q 0)
          rw [this]; exact t4
      · intro p a b
        have b' : p < oN o + 1 := b
        by_cases y : p = oN o
        · rw [y, upn]; exact k5
        · rw [up p (by omega)]; exact hP.2.2.1 p a (by omega)
      · intro p q a b a' b' ne
        have b1 : p < oN o + 1 := b
        have b2 : q < oN o + 1 := b'
        by_cases y : p = oN o
        · have := up q (by omega)
          have := lo q a' (by omega)
          rw [y, upn, up q (by omega), gx, gl]
          exact Or.inr (by omega)
        · by_cases y2 : q = oN o
          · have := lo p a (by omega)
            rw [y2, upn, up p (by omega), gx, gl]
            exact Or.inl (by omega)
          · rw [up p (by omega), up q (by omega)]
            exact hP.2.2.2 p q a (by omega) a' (by omega) ne
      · have b' : p < oN o + 1 := b
        by_cases y : p = oN o
        · rw [y, upn]; exact k6'
        · rw [up p (by omega)]; exact hco.2.1 p a (by omega)
      · by_cases y : j = oN o
        · rw [y, upn, gx]; exact (up1_e rfl).symm
        · have b' : j < oN o + 1 := b
          rw [up j (by omega)]; exact (up1_n (g := fun p => gX (oP o p)) y).symm
      · have b' : p < oN o + 1 := b
        by_cases y : p = oN o
        · rw [y, upn, gl] at y1
          rw [y, upn, gx] at y2
          rw [y]; exact o3' c y1 (by omega)
        · rw [up p (by omega)] at y1 y2
          have := lo p a (by omega)
          exact (o3 c (by omega)).trans (hC.2.1.2 p a (by omega) c y1 y2)
      · exact (F19.i (F19.lw (by decide)) (fun z => by
          rcases z with z | z | z | z
          · have := (Zrd_b z).1; omega
          · omega
          · omega
          · omega)).trans hC.2.2
      · have b' : p < oN o + 1 := b
        by_cases y : p = oN o
        · rw [y, upn]
          refine ⟨by rw [gr]; exact q10, ?_⟩
          have e1 : gG g = Gs := by rw [hg]; rfl
          have e2 : gE g = e := by rw [hg]; rfl
          unfold gmc gmt
          rw [e1, e2]; exact q11
        · rw [up p (by omega)]; exact rr2 p a (by omega)
      · rw [gr] at b
        rw [gx, (nz _ _ (by omega) (by omega)).1]; exact k7 j a b
      · rw [gx, (nz _ _ (by omega) (by omega)).1]; exact k8
      · rw [gx, (nz _ _ (by omega) (by omega)).1]; exact k9
      · rw [gx, (nz _ _ (by omega) (by omega)).2]; exact k10
      · rw [gx, (nz _ _ (by omega) (by omega)).2]; exact k11
  · have e8 : oN o = 8 := by omega
    refine ⟨-3, Mc, Mr, ?_, ?_, Or.inl ⟨rfl, rfl⟩⟩
    · rw [eC]
      unfold c130
      rw [gtP_q (ck_64 cM) (cf_64_1 cM), vC_e lf.1.1, cI_e (lf_size (by omega) lf), if_neg (show ¬ iI (oN o) < (8 : Int32) from lsI_n (y := 8) rfl rfl (by omega))]
    · rw [r231]; unfold b231; rw [aR_e, aZ_e]; unfold c231
      rw [gtI_q (rk_160 rM) hR.2.1, if_pos (show iI (oN o) = (8 : Int32) from eqI_p (y := 8) rfl rfl e8)]
end S9em
