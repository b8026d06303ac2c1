/-! property(), both: all of it -/
section S9d6
variable {d dl : Nat} {o : HO} {hs : ZS} {M M' M1 M2 Mc Mr Mc' Mr' Mh Rh : Mem} {LL a j pc : Nat} {xs : Nat → Int32} {ow : Nat → Int} {c p i nc k t b sl par x tm rc nT : Int} {w v1 v2 v3 sd f : Int32} {Z Z' : Nat → Nat → Prop} {tv : Int → Int32}
theorem smB.fz (h : smB Mc Mr) (f : ∀ a j : Nat, a = 147 ∨ (a = 64 ∧ j = 13) → Mc'.1 a j = Mc.1 a j) (g : ∀ a j : Nat, (a = 160 ∧ 129 ≤ j ∧ j ≤ 133) ∨ a = 244 → Mr'.1 a j = Mr.1 a j) : smB Mc' Mr' := by
  rcases h with ⟨h1, h2⟩ | ⟨h1, c, hc, h2, h3, h4, h5⟩
  · exact Or.inl ⟨(f _ _ (by omega)).trans h1, (g _ _ (by omega)).trans h2⟩
  · refine Or.inr ⟨(g _ _ (by omega)).trans h1, c, hc, (f _ _ (by omega)).trans h2, ?_, (f _ _ (by omega)).trans (h4.trans (g _ _ (by omega)).symm), (f _ _ (by omega)).trans (h5.trans (g _ _ (by omega)).symm)⟩
    rcases h3 with ⟨z1, z2, z3⟩ | ⟨z1, z2⟩
    · exact Or.inl ⟨(g _ _ (by omega)).trans z1, (g _ _ (by omega)).trans z2, fun j q1 q2 => (f _ _ (by omega)).trans ((z3 j q1 q2).trans (g _ _ (by omega)).symm)⟩
    · exact Or.inr ⟨(g _ _ (by omega)).trans z1, z2⟩
theorem prop_ok (hdl : 20 ≤ dl) (hd : 70 ≤ d) (hP : hoP o) (hp : 0 ≤ p ∧ p < oN o) (hk : 0 ≤ k ∧ k < (gR (oP o p)).1 4 0 0) (htm : 1 ≤ tm ∧ tm ≤ 200) (hC : HC LL xs o ow sl Mc) (hR : HR o sl Mr) (hsl : 1 ≤ sl ∧ sl ≤ 1000) (h78 : Mc.1 88 2 = Mr.1 160 78) (hdc : hdC hs Mc) (hdr : hdR hs Mr) (hD : ∀ D, 0 ≤ hs.1 17 D 0 ∧ hs.1 17 D 0 ≤ 34000) (hsm : smB Mc Mr) (hv : v1 = iI p) (hv2 : v2 = iI k) (hv3 : v3 = iI tm) : ∃ Mc' Mr' r, runX dl 153 [va_rf (some 64), .int v1, .int v2, .int v3] Mc = some (.int r, Mc') ∧ runX d 289 [va_rf (some 160), .int v1, .int v2, .int v3] Mr = some (.int r, Mr') ∧ FG (Zpc o) Mc Mc' ∧ Fz Zpq Mr Mr' ∧ afO LL xs o Mc Mc' Mr' ∧ smB Mc' Mr' := by
  obtain ⟨dl, rfl⟩ : ∃ e, dl = e + 1 := ⟨dl - 1, by omega⟩
  obtain ⟨d, rfl⟩ : ∃ e, d = e + 1 := ⟨d - 1, by omega⟩
  subst hv; subst hv2; subst hv3
  have l6 : (6 : Int32) = iI 6 := rfl
  have lo := pk_lo hP hp
  have p8 := hP.1
  have hg := hP.2.2.1 p hp.1 hp.2
  have n3 := hg.1.n3
  obtain ⟨-, ⟨f1, f4, f5⟩, -, c2, c3⟩ := hg.1.1.2.2.2.2.2.1 k hk.1 (by omega)
  obtain ⟨par, hpar⟩ : ∃ X, X = (gR (oP o p)).1 4 4 k := ⟨_, rfl⟩
  obtain ⟨pc, hpc⟩ : ∃ X, X = hEC (gH (oP o p)) 4 k := ⟨_, rfl⟩
  rw [← hpar] at c2
  have e167 := zc167 (d := dl) (M := Mc) (v := iI p) (p := p) (by omega) hC.1.1.1 hC.2.1 hC.1.ob rfl (by omega)
  rw [if_pos hp] at e167
  have e255 := zr255 (d := d) (M := Mr) (v := iI p) (p := p) (by omega) hR.1.1.1 hR.2.1 (by omega) rfl (by omega)
  rw [if_pos hp] at e255
  have p4 : ∀ M, hoC LL xs o M → M.2.2.2[pc]? = some (8, 9) ∧ M.1 pc 4 = iI par ∧ 259 ≤ pc := fun M h => by
    obtain ⟨-, -, -, -, hTT, -⟩ := h.2.1 p hp.1 hp.2
    obtain ⟨⟨t1, t2, t3⟩, t4, t5⟩ := hTT 4 (by decide) (by decide) k hk.1 (by omega)
    rw [← hpc] at t1 t2 t4
    exact ⟨t1, by rw [hpar]; exact (t4 4 (by decide) (by decide)).trans (congrArg iI f4), by omega⟩
  obtain ⟨⟨⟨o1, o2, o3⟩, o4, -⟩, -, -, hL, hTT, -⟩ := hC.1.2.1 p hp.1 hp.2
  have e168 := zpartn (d := dl) (v := iI k) (i := k) (by omega) (hL 4 (by decide) (by decide)) rfl (by omega) fun j a b => (hTT 4 (by decide) (by decide) j a b).1.1
  rw [if_pos (by omega), ← hpc] at e168
  have rr := (hR.1.2.1 p hp.1 hp.2).1
  have e184 : Mr.1 184 p.toNat = iI ((gR (oP o p)).1 4 0 0) := rr.at (q := (184, 1, 4, 0)) (j := 0) (by decide) (Int.le_refl _) (by decide) (show p = 1 * p + 0 by omega)
  have e186 : Mr.1 186 (6 * p + k).toNat = iI par := by rw [hpar]; exact rr.at (q := (186, 6, 4, 4)) (by decide) hk.1 (show k < 6 by omega) rfl
  -- both are prepared
  obtain ⟨R1, hR1⟩ : ∃ X, X = sI (sI Mr 160 83 (iI 20000)) 160 84 0 := ⟨_, rfl⟩
  obtain ⟨Ma, a1, a2, a3, KA⟩ := prep_KI (dl := dl) (b := 20000) (w := 20000) (by omega) hP hp hC hR h78 hdc hdr hD (by decide) rfl hR1
  have m88 : Ma.1 88 3 = iI (-2) := by
    obtain ⟨Ma', b1, -, -, -, -, -, b7, -⟩ := zc19 (d := dl) (M := Mc) (x := gX (oP o p)) (v := 20000) (by omega) hC.1.1.2.2 hC.1.1.1 (hC.1.ob p hp.1 hp.2)
    rw [a1] at b1
    cases b1
    exact b7
  have cA : CT Ma := KA.1.1.1.1
  obtain ⟨Mb, hMb⟩ : ∃ X, X = sI (sI Ma 146 4 (iI 0)) 146 5 (iI 0) := ⟨_, rfl⟩
  obtain ⟨R2, hR2⟩ : ∃ X, X = sI R1 160 136 (iI 0) := ⟨_, rfl⟩
  have fb : Fz (fun a j => a = 146 ∧ (j = 4 ∨ j = 5)) Ma Mb := by
    rw [hMb]
    exact (Fz.r.si ⟨rfl, Or.inl rfl⟩).si ⟨rfl, Or.inr rfl⟩
  have gb : Fz (fun a j => a = 160 ∧ j = 136) R1 R2 := by rw [hR2]; exact Fz.r.si ⟨rfl, rfl⟩
  have KB : KI LL xs o p sl 0 20000 hs Mb R2 := KA.sub hP fb (fun a j z => ⟨ho_14 hP (Or.inl z.1), by omega, by omega⟩) gb (fun a j z => ⟨Zpq_ho (Or.inr (Or.inl ⟨z.1, Or.inr (Or.inl z.2)⟩)), by omega, by omega⟩)
  have fR1 : Fz Zpq Mr R1 := by
    rw [hR1]
    exact (Fz.r.si (Or.inl (Or.inl ⟨rfl, by decide⟩))).si (Or.inl (Or.inl ⟨rfl, by decide⟩))
  have fR2 : Fz Zpq Mr R2 := fR1.tr (gb.m fun a j z => Or.inr (Or.inl ⟨z.1, Or.inr (Or.inl z.2)⟩))
  have r90 : R2.1 160 90 = iI (-1) := by
    rw [hR2, hR1]
    exact (sI_nej (by decide)).trans ((sI_nej (by decide)).trans ((sI_nej (by decide)).trans hR.2.2.2.1))
  have cB : CT Mb := KB.1.1.1.1
  -- often
  obtain ⟨J1, hJ1⟩ : ∃ J1 : Int32 × Mem → XA, J1 = jv fun (s7 : Int32 × Mem) => rtZ s7.1 s7.2 := ⟨_, rfl⟩
  obtain ⟨J2, hJ2⟩ : ∃ J2 : Int32 × Mem → XA, J2 = jv fun (s16 : Int32 × Mem) => gtI (13, 157) s16.2 (some 160) 88 fun x17 => jn (fun (s18 : Int32) => jn (fun (s19 : Int32 × Mem) => gtI (13, 157) s19.2 (some 160) 84 fun x20 => if x20 = 0 then ( ptZ (13, 157) s19.2 (some 160) 129 ((1 : Int32)) fun M21 => ptZ (13, 157) M21 (some 160) 130 s16.1 fun M22 => ptI (13, 157) M22 (some 160) 131 (iI par) fun M23 => gtI (13, 157) M23 (some 160) 136 fun x24 => ptI (13, 157) M23 (some 160) 132 x24 fun M25 => jn (fun (s26 : Int32) => ptI (13, 157) M25 (some 160) 133 s26 fun M27 => jn (fun (s28 : Mem) => cI (runX d 245 [.int s16.1] s28) fun x30 M29 => some (.int x30, M29)) fun j425 => lp (c289_398 (runX d) (some 160) j425 (iI par)) 4294967296 ((0 : Int32), M27)) fun j392 => if s16.1 = 0 then ( j392 s19.1) else ( j392 ((0 : Int32)))) else ( ptZ (13, 157) s19.2 (some 160) 84 ((0 : Int32)) fun M37 => some (.int ((-4 : Int32)), M37))) fun j340 => lp (c289_189 (runX d) (some 160) (iI p) (iI k) j340 (iI par)) 4294967296 (x17, s18, s16.2)) fun j187 => if s16.1 = 0 then ( j187 ((1 : Int32))) else ( j187 ((0 : Int32))) := ⟨_, rfl⟩
  obtain ⟨Mc2, Mr2, rc, nT, w1, w2, w3, w4, w5, ⟨w6, w7⟩, w8⟩ := often_pair (dl := dl - 1) (d := d) (J := J1) (J' := J2) (w := iI p) (v1 := iI k) (tm := tm) (by omega) (by omega) hP hp hsl hk (by omega) hpar hpc rfl rfl tm.toNat 0 20000 0 hs (Ma.1 88 2) Mb R2 4294967296 4294967296 (by omega) (by omega) (by omega) (by omega) KB ((fb.2 _ _ (by omega)).trans m88) r90 (by rw [hMb]; exact sI_eq) (by rw [hR2]; exact sI_eq) (by rw [hMb]; exact (sI_nej (by decide)).trans sI_eq)
  have s78 : R2.1 160 78 = Ma.1 88 2 := by
    rw [← KB.2.2.2.1]
    exact fb.2 _ _ (by omega)
  have c178 : runX dl 178 [va_rf (some 64), va_rf (some pc), .int (iI tm)] Ma = some (.int (iI rc), Mc2) := by
    obtain ⟨dl, rfl⟩ : ∃ e, dl = e + 1 := ⟨dl - 1, by omega⟩
    rw [r178]; unfold b178; rw [aR_e, aR_e, aI_e, aZ_e]; unfold c178
    rw [gtP_q (ck_64 cA) (cf_64_2 cA), gtI_q (ck_88 cA) rfl, gtP_q (ck_64 cA) (cf_64_11 cA), show (4 : Int32) = iI 4 from rfl, asI_e (z := 4) (n := 6) (ck_146 cA) (by omega) (by omega) (by omega), gtP_q (ck_64 (cA.keep (M' := sI Ma 146 (4 : Int).toNat 0) rfl)) (cf_64_11 (cA.keep rfl)), show (5 : Int32) = iI 5 from rfl, asI_e (z := 5) (n := 6) (ck_146 (cA.keep (M' := sI Ma 146 (4 : Int).toNat 0) rfl)) (by omega) (by omega) (by omega), show sI (sI Ma 146 (4 : Int).toNat 0) 146 (5 : Int).toNat 0 = Mb from hMb.symm, jn_v, ← hJ1]
    rw [← li_0, ← li_1] at w1
    refine w1.trans ?_
    rw [hJ1, jv_e]
    exact rtZ_q rfl (by omega)
  have cl : runX (dl + 1) 153 [va_rf (some 64), .int (iI p), .int (iI k), .int (iI tm)] Mc = lp (c153_82 (runX dl) (some 64) (pJc dl pc rc) (some pc, Mc)) 4294967296 (iI (1 - rc), iI 0, Mc2) := by
    rw [r153]; unfold b153; rw [aR_e, aI_e, aI_e, aI_e, aZ_e]; unfold c153
    rw [vC_e (ck_64 hC.1.1.1), cP_e e167, jn_v, if_neg (show ¬ some (gX (oP o p)) = none by simp), gtP_q o1 (o4 4 (by decide) (by decide)), cP_e e168, jv_e]
    dsimp only
    rw [jn_v, if_neg (show ¬ some pc = none by simp), if_neg (show ¬ iI tm < (1 : Int32) from lsI_n (y := 1) rfl rfl (by omega)), if_pos (show iI tm ≤ (200 : Int32) from leI_p (y := 200) rfl rfl (by omega)), gtP_q (ck_64 hC.1.1.1) (cf_64_2 hC.1.1.1), vC_e (ck_88 hC.1.1.1), cV_e a1, vC_e (ck_64 cA), cI_e c178, jn_v]
    rcases w3 with z | z
    · subst z
      rw [if_pos (show iI 0 = 0 from rfl), jv_e, jn_v]
      rfl
    · subst z
      rw [if_neg (show ¬ iI 1 = 0 by decide), jv_e, jn_v]
      rfl
  have rl : runX (d + 1) 289 [va_rf (some 160), .int (iI p), .int (iI k), .int (iI tm)] Mr = lp (c289_189 (runX d) (some 160) (iI p) (iI k) (pJr d par rc) (iI par)) 4294967296 (Mr2.1 160 88, iI (1 - rc), Mr2) := by
    have hRr := hR.1.1.1
    have kr := rk_160 hRr
    have n4 : (gR (oP o p)).1 4 0 0 ≤ 6 := by omega
    have q1 := rr184 (d := d) (M := Mr) (v1 := iI k) (v2 := 0) (v3 := iI ((gR (oP o p)).1 4 0 0 - 1)) (i := k) (b := 0) (c := (gR (oP o p)).1 4 0 0 - 1) (by omega) rfl rfl rfl (by omega) (by omega) (by omega)
    rw [if_pos (by omega)] at q1
    have q2 := rr184 (d := d) (M := Mr) (v1 := iI tm) (v2 := 1) (v3 := 200) (i := tm) (b := 1) (c := 200) (by omega) rfl rfl rfl (by omega) (by omega) (by omega)
    rw [if_pos (by omega)] at q2
    have n10 : ¬ iI 1 = (0 : Int32) := by decide
    rw [r289]; unfold b289; rw [aR_e, aI_e, aI_e, aI_e, aZ_e]; unfold c289
    rw [vC_e kr, cI_e e255, jn_v, if_neg n10, gtP_q kr (rf_25 hRr), alI_q (n := 8) (z := p) (rk_184 hRr) rfl (by omega) e184, show iI ((gR (oP o p)).1 4 0 0) - (1 : Int32) = iI ((gR (oP o p)).1 4 0 0 - 1) from sbI rfl li_1, cI_e q1, if_neg n10, cI_e q2, if_neg n10, gtP_q kr (rf_27 hRr), alI_q (n := 48) (z := 6 * p + k) (rk_186 hRr) (adI (mlI l6 rfl) rfl) (by omega) e186, ptI_e kr, ptZ_e (M := sI Mr 160 83 20000) kr (Or.inl rfl), show sI (sI Mr 160 83 20000) 160 84 0 = R1 from hR1.symm, ptI_e (M := R1) (by rw [hR1]; exact kr), show sI R1 160 136 0 = R2 from hR2.symm, gtI_q (M := R2) (rk_160 KB.1.2.1.1) s78, jn_v, ← hJ2]
    rw [← li_0, ← li_1] at w2
    refine w2.trans ?_
    rw [hJ2, jv_e]
    dsimp only
    have hR2' : RT Mr2 := KB.1.2.1.1.keep w5.1
    rw [gtI_q (rk_160 hR2') rfl, jn_v]
    rcases w3 with z | z
    · subst z
      rw [if_pos (show iI 0 = 0 from rfl), jv_e, jn_v]
      rfl
    · subst z
      rw [if_neg (show ¬ iI 1 = 0 by decide), jv_e, jn_v]
      rfl
  rw [cl, rl]
  have F0 : FG (Zpc o) Mc Ma := a2.m fun a j z => Or.inl (Zpr_M z)
  have F2 : FG (Zpc o) Mc Mc2 := F0.tr (((fb.m fun a j z => Or.inr (Or.inl z.1)).tr (w4.m fun a j z => z.imp id Or.inl)).fg KA.1.1.1.2.2)
  have G2 : Fz Zpq Mr Mr2 := fR2.tr (w5.m fun a j z => by
    rcases z with z | z | z
    · exact Or.inl z
    · exact Or.inr (Or.inl ⟨z.1, Or.inr (Or.inl z.2)⟩)
    · exact Or.inr (Or.inr (Or.inr z)))
  have k2 : Mc2.2.2.2 = Mc.2.2.2 ∧ Mc2.2.1 = Mc.2.1 := ⟨(congrArg (fun z => z.2.2) (w4.1.trans fb.1)).trans a3.1, (congrArg (fun z => z.1) (w4.1.trans fb.1)).trans a3.2⟩
  have F3 : ∀ X, Fz (Zoc o) Mc2 X → Fz (Zoc o) Ma X := fun X h => (fb.m fun a j z => Or.inr z.1).tr (w4.tr h)
  have fin_ki : ∀ (Mh Rh : Mem) (b nT : Int) (hs : ZS) (f : Int32), KI LL xs o p sl 0 b hs Mh Rh → Mh.1 146 5 = iI nT → Rh.1 160 136 = iI nT → (rc = 0 → Mh.1 146 4 = f ∧ ∀ j : Int, 0 ≤ j → j < par → Mh.1 146 j.toNat = Rh.1 245 j.toNat) → (rc = 1 → Mh.1 146 4 = iI 0) → Rh.1 160 90 = iI (-1) → Fz (Zoc o) Mc2 Mh → Fz Zsr Mr2 Rh → ∃ Mc' Mr' r, pJc dl pc rc Mh = some (.int r, Mc') ∧ pJr d par rc (f, Rh) = some (.int r, Mr') ∧ FG (Zpc o) Mc Mc' ∧ Fz Zpq Mr Mr' ∧ afO LL xs o Mc Mc' Mr' ∧ smB Mc' Mr' := fun Mh Rh b nT hs f y1 y2 y3 y4 y5 y6 y7 y8 => by
    obtain ⟨Mc', Mr', z1, z2, z3, z4, z5, z6, z7⟩ := pJ_ki (dl := dl) (d := d) (f := f) (by omega) (by omega) hP hp y1 (by omega) (p4 Mh y1.1.1) y2 y3 w3 y4 y5
    exact ⟨Mc', Mr', iI rc, z1, z2, F2.tr (((y7.m fun a j z => z.imp id Or.inl).tr z3).fg (by rw [show ln Mc2 = ln Mc by unfold ln; rw [k2.1]]; exact hC.1.1.2.2)), G2.tr ((y8.m fun a j z => by
      rcases z with (z | z | z) | z
      · exact Or.inl z
      · exact Or.inr (Or.inl ⟨z.1, Or.inr (Or.inl z.2)⟩)
      · exact Or.inr (Or.inr (Or.inr z))
      · exact Or.inr (Or.inl ⟨z.1, Or.inr (Or.inr z.2)⟩)).tr z4), ⟨⟨(congrArg (fun z => z.2.2) (z3.1.trans y7.1)).trans k2.1, (congrArg (fun z => z.1) (z3.1.trans y7.1)).trans k2.2⟩, z6.1, ⟨hs, z6.2.2.2.2.2.1, z6.2.2.2.2.2.2.1, z6.2.2.2.2.2.2.2⟩, z7.trans y6, z6.2.2.1.2.1, z6.2.2.1.2.2.1, z6.2.2.1.2.2.2⟩, z5⟩
  have r0 : ∀ a j : Nat, (a = 160 ∧ 129 ≤ j ∧ j ≤ 133) ∨ a = 244 → R2.1 a j = Mr.1 a j := fun a j z => by
    rw [hR2, hR1]
    by_cases y : a = 160
    · subst y
      exact (sI_nej (by omega)).trans ((sI_nej (by omega)).trans (sI_nej (by omega)))
    · exact (sI_ne y).trans ((sI_ne y).trans (sI_ne y))
  have fin_ks : ∀ (Mh Rh : Mem) (f : Int32), KS LL xs o p sl 0 Mh Rh → Rh.1 160 90 = iI (-1) → Fz (Zoc o) Mc2 Mh → Fz Zsr Mr2 Rh → ∃ Mc' Mr' r, pJc dl pc rc Mh = some (.int r, Mc') ∧ pJr d par rc (f, Rh) = some (.int r, Mr') ∧ FG (Zpc o) Mc Mc' ∧ Fz Zpq Mr Mr' ∧ afO LL xs o Mc Mc' Mr' ∧ smB Mc' Mr' := fun Mh Rh f y1 y6 y7 y8 => by
    obtain ⟨⟨s1, s2⟩, ⟨s3, s4, s5, s6⟩, s7, ⟨s8, s9⟩, hs2, t1, t2, t3⟩ := y1
    refine ⟨Mh, sI Rh 160 84 0, -4, pJc_ks (by omega) s1.1.1 s8, pJr_ks s2.1.1 s9, F2.tr ((y7.m fun a j z => z.imp id Or.inl).fg (by rw [show ln Mc2 = ln Mc by unfold ln; rw [k2.1]]; exact hC.1.1.2.2)), G2.tr ((y8.m fun a j z => by
      rcases z with (z | z | z) | z
      · exact Or.inl z
      · exact Or.inr (Or.inl ⟨z.1, Or.inr (Or.inl z.2)⟩)
      · exact Or.inr (Or.inr (Or.inr z))
      · exact Or.inr (Or.inl ⟨z.1, Or.inr (Or.inr z.2)⟩)).si (Or.inl (Or.inl ⟨rfl, by decide⟩))), ⟨⟨(congrArg (fun z => z.2.2) y7.1).trans k2.1, (congrArg (fun z => z.1) y7.1).trans k2.2⟩, ⟨s1, s2.si (ZR_hr (p := 0) (k := 0) (Or.inl ⟨rfl, by decide⟩))⟩, ⟨hs2, t1, t2.fz fun a j z => sI_ne (by omega), t3⟩, (sI_nej (by decide)).trans y6, (sI_nej (by decide)).trans s4, (sI_nej (by decide)).trans s5, (sI_nej (by decide)).trans s6⟩, hsm.fz (fun a j z => ?_) fun a j z => ?_⟩
    · refine ((F3 Mh y7).2 a j fun y => ?_).trans (nm hC.1 a2 (by omega) (by unfold Zpr; omega))
      rcases y with y | y
      · unfold ZM at y; omega
      · omega
    · have e1 : (sI Rh 160 84 0).1 a j = Rh.1 a j := by
        by_cases y : a = 160
        · subst y; exact sI_nej (by omega)
        · exact sI_ne y
      refine e1.trans ((y8.2 a j fun y => ?_).trans ((w5.2 a j fun y => ?_).trans (r0 a j z)))
      · rcases y with (y | y | y) | y
        · unfold ZR at y; omega
        · omega
        · omega
        · omega
      · rcases y with y | y | y
        · unfold ZR at y; omega
        · omega
        · omega
  rcases w8 with ⟨b, hs2, y1, y2, y3, y4, y5, y6⟩ | ⟨y1, y2⟩
  · rcases w3 with z | z
    · subst z
      obtain ⟨Mc', Mr', f', x1, x2, x3, x4, x5⟩ := shr_all (dl := dl) (d := d) (J := pJc dl pc 0) (J' := pJr d par 0) (s3 := (some pc, Mc)) rfl (by omega) (by omega) hP hp hsl hk hpar hpc (rfl : iI p = iI p) (rfl : iI k = iI k) 20000 b 0 (Mr2.1 160 88) (fun j => Mc2.1 146 j.toNat) Mc2 Mr2 4294967296 4294967296 (by omega) (by omega) (by omega) (by omega) (by omega) ⟨hs2, nT, y1, ⟨y3, y4⟩, ⟨w6, w7⟩, (y5 rfl).1, fun j q1 q2 => ⟨rfl, ((y5 rfl).2 j q1 q2).symm⟩⟩
      rw [show (1 : Int) - 0 = 1 by decide, x1, x2]
      rcases x5 with ⟨b', tv', -, hs3, nT', q1, ⟨q2, q3⟩, ⟨q4, q5⟩, q6, q7⟩ | q
      · exact fin_ki Mc' Mr' b' nT' hs3 f' q1 q4 q5 (fun _ => ⟨q6, fun j e1 e2 => ((q7 j e1 e2).1).trans ((q7 j e1 e2).2).symm⟩) (fun z => absurd z (by decide)) q3 x3 x4
      · exact fin_ks Mc' Mr' f' q.1 q.2 x3 x4
    · subst z
      have e1 : lp (c153_82 (runX dl) (some 64) (pJc dl pc 1) (some pc, Mc)) 4294967296 (iI (1 - 1), iI 0, Mc2) = pJc dl pc 1 Mc2 := by
        rw [lp_e]; unfold c153_82
        dsimp only
        rw [if_neg (show ¬ (1000000 : Int32) ≤ iI 0 by decide), if_pos (show iI (1 - 1) = 0 from rfl)]
      have e2 : lp (c289_189 (runX d) (some 160) (iI p) (iI k) (pJr d par 1) (iI par)) 4294967296 (Mr2.1 160 88, iI (1 - 1), Mr2) = pJr d par 1 (Mr2.1 160 88, Mr2) := by
        rw [lp_e]; unfold c289_189
        dsimp only
        rw [if_pos (show iI (1 - 1) = 0 from rfl)]
      rw [e1, e2]
      exact fin_ki Mc2 Mr2 b nT hs2 _ y1 w6 w7 (fun z => absurd z (by decide)) y6 y4 Fz.r Fz.r
  · subst y2
    have hC1 := y1.1.1.1.1.1
    have hR1' := y1.1.1.2.1.1
    have cs1 := zc22 (d := dl) (n := -1) (by omega) hC1 y1.1.2.2.2.1.1 (by omega)
    rw [if_pos (by decide)] at cs1
    have e1 : lp (c153_82 (runX dl) (some 64) (pJc dl pc 0) (some pc, Mc)) 4294967296 (iI (1 - 0), iI 0, Mc2) = pJc dl pc 0 Mc2 := by
      rw [lp_e]; unfold c153_82
      dsimp only
      rw [if_neg (show ¬ (1000000 : Int32) ≤ iI 0 by decide), if_neg (show ¬ iI (1 - 0) = 0 by decide), gtP_q (ck_64 hC1) (cf_64_2 hC1), vC_e (ck_88 hC1), cI_e cs1, if_neg (by decide)]
    have e2 : lp (c289_189 (runX d) (some 160) (iI p) (iI k) (pJr d par 0) (iI par)) 4294967296 (Mr2.1 160 88, iI (1 - 0), Mr2) = pJr d par 0 (Mr2.1 160 88, Mr2) := by
      rw [lp_e]; unfold c289_189
      dsimp only
      rw [if_neg (show ¬ iI (1 - 0) = 0 by decide), gtI_q (rk_160 hR1') y1.1.2.2.2.1.2, if_neg (by decide)]
    rw [e1, e2]
    exact fin_ks Mc2 Mr2 _ y1.1 y1.2 Fz.r Fz.r
end S9d6
