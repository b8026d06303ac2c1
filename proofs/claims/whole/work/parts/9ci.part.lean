/-! run(), both -/
def Zrn (o : HO) (p : Int) (a j : Nat) : Prop := Zrc o p a j ∨ (a = gX (oP o p) ∧ j = 13)
def Zrq (p : Int) (a j : Nat) : Prop := Zrr p a j ∨ (a = 221 ∧ j = p.toNat)
/-- how often each instruction was begun, in how many CASES -/
def cvB (o : HO) (p : Int) (s : ZS) (Mc Mr : Mem) : Prop := ∀ j, 0 ≤ j → j < gE (oP o p) → (Mc.1 (gX (oP o p) + 13) j.toNat = s.2 7 j 0 ∧ Mc.1 (gX (oP o p) + 14) j.toNat = s.2 8 j 0) ∧ Mr.1 216 (1000 * p + j).toNat = s.2 7 j 0 ∧ Mr.1 217 (1000 * p + j).toNat = s.2 8 j 0
section S9ci
variable {d dl : Nat} {o : HO} {v : VR} {q : QN} {s s' u hs : ZS} {M M' M2 Mc Mr Mc' Mr' : Mem} {LL a j x N : Nat} {xs : Nat → Int32} {ow : Nat → Int} {c p i n nc k t b sl : Int} {w v1 : Int32} {Z Z' : Nat → Nat → Prop} {Od : Int → Int} {T : Nat → Int → Int32}
theorem v1F : ¬ vF (v1p p) = 1 := by show ¬ (0 : Int) = 1; decide
theorem Zpr_M (h : Zpr a j) : ZM o p k a j := by unfold Zpr at h; unfold ZM; omega
theorem Zwa_M (h : Zwa a j) : ZM o p k a j := by unfold Zwa at h; unfold ZM; omega
theorem Zli_R (h : Zli a j) : ZR p k a j := by unfold Zli at h; unfold ZR; omega
theorem Zma_R (h : Zma a j) : ZR p k a j := by unfold Zma at h; unfold ZR; omega
theorem nm (hC : hoC LL xs o M) (f : FG Z M M') (h : a < 259) (z : ¬ Z a j) : M'.1 a j = M.1 a j := f.i (by have := hC.1.2.2; omega) z
theorem run_pair (hdl : 20 ≤ dl) (hd : 70 ≤ d) (hP : hoP o) (hp : 0 ≤ p ∧ p < oN o) (hC : hoC LL xs o Mc) (hR : hoR o Mr) (hpl : plC ow o Mc) (h2 : Mr.1 160 2 = iI (oN o)) (hsl : 1 ≤ sl ∧ sl ≤ 1000) (hs1 : Mc.1 88 1 = iI sl) (hs2 : Mr.1 160 77 = iI sl) (hsd : Mc.1 88 2 = Mr.1 160 78) (hF : Mr.1 160 90 = iI (-1) ∧ Mr.1 160 97 = iI 0) (hnc : nc = (gR (oP o p)).1 3 0 0) (hO : odK Od nc.toNat) (hor : orB o p Od Mc Mr) (hdc : hdC hs Mc) (hdr : hdR hs Mr) (hv : v1 = iI p) : ∃ Mc' Mr' r T' s', runX dl 140 [va_rf (some 64), .int v1] Mc = some (.int (iI r), Mc') ∧ runX d 257 [va_rf (some 160), .int v1] Mr = some (.int (iI r), Mr') ∧ FG (Zrn o p) Mc Mc' ∧ (Mc'.2.2.2 = Mc.2.2.2 ∧ Mc'.2.1 = Mc.2.1) ∧ Fz (Zrq p) Mr Mr' ∧ (hoC LL xs o Mc' ∧ hoR o Mr') ∧ (Mc'.1 (gX (oP o p)) 13 = iI 1 ∧ Mr'.1 221 p.toNat = iI 1) ∧ (∀ c, 0 ≤ c → c < nc → tlB o p T' c Mc' Mr') ∧ cvB o p s' Mc' Mr' ∧ (hdC s' Mc' ∧ hdR s' Mr' ∧ ∀ D, 0 ≤ s'.1 17 D 0 ∧ s'.1 17 D 0 ≤ 34000) ∧ Mr'.1 160 90 = iI (-1) ∧ Mr'.1 160 91 = iI 0 ∧ Mr'.1 160 92 = iI 0 ∧ Mr'.1 160 97 = iI 0 := by
  obtain ⟨dl, rfl⟩ : ∃ e, dl = e + 2 := ⟨dl - 2, by omega⟩
  obtain ⟨d, rfl⟩ : ∃ e, d = e + 1 := ⟨d - 1, by omega⟩
  subst hv
  have lo := pk_lo hP hp
  have p8 := hP.1
  obtain ⟨q, hq⟩ : ∃ q : QN, q = (sl, -1, 1, 1, 0) := ⟨_, rfl⟩
  have q1 : q.1 = sl := by rw [hq]
  have q2 : q.2.1 = -1 := by rw [hq]
  have q3 : q.2.2.1 = 1 := by rw [hq]
  have q4 : q.2.2.2.1 = 1 := by rw [hq]
  have q5 : q.2.2.2.2 = 0 := by rw [hq]
  have hqk : qOK o (v1p p) q := ⟨by omega, Or.inl q2, Or.inr ⟨q3, q4, rfl⟩, Or.inr q4, Or.inl q5⟩
  have hu : rPu o (v1p p) q := rPu.one hP hp hqk
  have hE := hu.env (st := 0) (b := 0) (by omega) (by omega)
  have nE := (hP.2.2.1 p hp.1 hp.2).1.n2
  -- the class, up to the loop
  have hx := hC.ob p hp.1 hp.2
  obtain ⟨Ma, a1, a2, a3, a4, a5, a6, a7, a8⟩ := zc19 (d := dl + 1) (M := Mc) (x := gX (oP o p)) (v := 2147483647) (by omega) hC.1.2.2 hC.1.1 hx
  have hCa : hoC LL xs o Ma := hC.fg hP a2 fun a j z => ZM_ho (k := 1) hP hp (Zpr_M z)
  obtain ⟨Mb, b1, b2, b3, b4, b5⟩ := zc21 (d := dl + 1) (M := Ma) (v := 2) (by omega) hCa.1.2.2 a3
  have fb : FG Zwa Ma Mb := FG.of2 hCa.1.2.2 b2 b3
  have hCb : hoC LL xs o Mb := hCa.fg hP fb fun a j z => ZM_ho (k := 1) hP hp (Zwa_M z)
  obtain ⟨⟨⟨o1, o2, o3⟩, o4, -, -, o10, o11, o12⟩, ⟨-, -, -, -, ⟨r5, r6⟩, r7, r8⟩, ⟨k1, -⟩, -⟩ := hCb.2.1 p hp.1 hp.2
  obtain ⟨Md, c1, c2, c3, c4⟩ := zc54 (d := dl + 1) (M := Mb) (x := gX (oP o p)) (E := (gE (oP o p)).toNat) (by omega) ⟨o1, o12⟩ r7 r8 (by omega)
  have fd : FG (ZM o p 1) Mb Md := FG.of2 hCb.1.2.2 c2 fun a j z => c3 a j (by unfold ZM at z; omega)
  have hCd : hoC LL xs o Md := hCb.fg hP fd fun a j z => ZM_ho hP hp z
  have pd : Md.2.2.1 = Ma.2.2.1 := congrArg (fun z => z.2.1) (c2.trans b2)
  obtain ⟨Mg, g1, g2, g3, g4, g5⟩ := bg_C (d := dl) (M := Md) (P := pf q 0 0) (by omega) hP hu.2.1 hE hCd ⟨by rw [pd]; exact a5.1, fun z => absurd z v1F, fun _ => by rw [pd]; exact a5.2.1⟩
  have fg : FG (ZM o p 1) Md Mg := FG.of2 hCd.1.2.2 g2 fun a j z => g3 a j (by unfold ZM at z; omega)
  have f0 : FG (ZM o p 1) Mc Mg := ((a2.m fun a j z => Zpr_M z).tr (fb.m fun a j z => Zwa_M z)).tr (fd.tr fg)
  have pg : Mg.2.2.1 = Ma.2.2.1 := (congrArg (fun z => z.2.1) g2).trans pd
  have kg : Mg.2.2.2 = Mc.2.2.2 := (congrArg (fun z => z.2.2) (g2.trans (c2.trans b2))).trans a4.1
  have lg : Mg.2.1 = Mc.2.1 := (congrArg (fun z => z.1) (g2.trans (c2.trans b2))).trans a4.2
  have n88 : ∀ j, j ≠ 6 → Mg.1 88 j = Ma.1 88 j := fun j z => (g3 _ _ (by decide)).trans ((c3 _ _ (by omega)).trans (b3 _ _ (by unfold Zwa; omega)))
  have n886 : Mg.1 88 6 = 2 := (g3 _ _ (by decide)).trans ((c3 _ _ (by omega)).trans b4)
  have n881 : Mg.1 88 1 = iI sl := ((n88 1 (by decide)).trans (nm hC a2 (by decide) (by unfold Zpr; omega))).trans hs1
  have n882 : Mg.1 88 2 = Mc.1 88 2 := (n88 2 (by decide)).trans (nm hC a2 (by decide) (by unfold Zpr; omega))
  have hW : rvW o (v1p p) q Mg := by
    refine ⟨⟨by rw [pg]; exact a5.1, fun z => absurd z v1F, fun _ => by rw [pg]; exact a5.2.1⟩, ⟨by rw [q1]; exact n881, ?_, ?_, ?_⟩, ?_, fun z => absurd z v1F⟩
    · rw [q2, if_pos (by decide), n88 3 (by decide), a7]; rfl
    · rw [q3, if_pos rfl, n886]; rfl
    · rw [q5, if_neg (by decide), pg]; exact a5.2.2.2
    · rw [if_neg (show ¬ vF (v1p p) = 1 from by show ¬ (0 : Int) = 1; decide), pg]; exact a5.2.2.1
  -- the reference, up to the loop
  obtain ⟨R1, x1, x2, x3, x4⟩ := zr257_16 (d := d) (p := p) (M := Mr) (E := (gE (oP o p)).toNat) (v := iI p) (w := iI (1000 * p)) (K := jv fun s4 => vC (13, 157) s4 (some 160) <| cV (runX d 235 [va_rf (some 160), .int (iI p), .int ((-1 : Int32))] s4) fun M5 => vC (13, 157) M5 (some 160) <| cV (runX d 278 [va_rf (some 160)] M5) fun M6 => ptI (13, 157) M6 (some 160) 83 ((-1 : Int32)) fun M7 => ptZ (13, 157) M7 (some 160) 91 ((1 : Int32)) fun M8 => jn (fun (s9 : Int32 × Mem) => ptZ (13, 157) s9.2 (some 160) 91 ((0 : Int32)) fun M10 => ptZ (13, 157) M10 (some 160) 92 ((0 : Int32)) fun M11 => gtP (13, 157) M11 (some 160) 104 fun x12 => asI 102 M11 x12 (iI p) ((znar ((1 : Int32)))) fun M13 => some (.int s9.1, M13)) fun j203 => lp (c257_83 (runX d) (some 160) (iI p) j203) 4294967296 ((0 : Int32), (0 : Int32), M8)) hR.1.1 (by omega) ((hR.2.1 p hp.1 hp.2).2.1.1.trans (congrArg iI (by omega))) (by omega) rfl rfl
  have fr1 : Fz (ZR p 1) Mr R1 := ⟨x2, fun a j z => x3 a j (by unfold ZR at z; omega)⟩
  have hR1 : hoR o R1 := hR.fg (fr1.fg hR.1.2) fun a j z => ZR_hr z
  obtain ⟨R2, y1, y2, y3, y4, y5, y6, y7⟩ := bg_R (d := d) (M := R1) (P := pf q 0 0) (v1 := iI p) (v2 := (-1 : Int32)) (by omega) hP hu.2.1 hu.2.2.2.1 hR1 rfl (by rw [if_neg (show ¬ vF (v1p p) = 1 from by show ¬ (0 : Int) = 1; decide)]; rfl)
  have fr2 : Fz (ZR p 1) R1 R2 := ⟨y2, fun a j z => y3 a j fun y => z (Zma_R y)⟩
  obtain ⟨R3, z1, z2, z3, z4, z5⟩ := zr278 (d := d) (M := R2) (by omega) y4.1.1
  have fr3 : Fz (ZR p 1) R2 R3 := ⟨z2, fun a j z => z3 a j fun y => z (Zli_R y)⟩
  obtain ⟨R5, hR5⟩ : ∃ X, X = sI (sI R3 160 83 (-1)) 160 91 1 := ⟨_, rfl⟩
  have fr5 : Fz (ZR p 1) R3 R5 := by rw [hR5]; exact ((Fz.r).si (Or.inl ⟨rfl, by decide⟩)).si (Or.inl ⟨rfl, by decide⟩)
  have fr0 : Fz (ZR p 1) Mr R5 := fr1.tr (fr2.tr (fr3.tr fr5))
  have hR5' : hoR o R5 := hR.fg (fr0.fg hR.1.2) fun a j z => ZR_hr z
  have e5 : ∀ a j, ¬ (a = 160 ∧ (j = 83 ∨ j = 91)) → R5.1 a j = R3.1 a j := fun a j z => by
    rw [hR5]
    by_cases y : a = 160
    · exact (sI_nej (by omega)).trans (sI_nej (by omega))
    · exact (sI_ne y).trans (sI_ne y)
  have e3 : ∀ a j, ¬ (a = 160 ∧ (j = 83 ∨ j = 91 ∨ j = 92)) → a ≠ 235 → R5.1 a j = R2.1 a j := fun a j z z' => (e5 a j (by omega)).trans (z3 a j (by unfold Zli; omega))
  have e2 : ∀ a j, ¬ (a = 160 ∧ (j = 83 ∨ j = 91 ∨ j = 92 ∨ j = 66 ∨ j = 67)) → a ≠ 235 → a ≠ 209 → a ≠ 211 → (a < 216 ∨ 218 < a) → R5.1 a j = Mr.1 a j := fun a j z z' w1 w2 w3 => (e3 a j (by omega) z').trans ((y3 a j (by unfold Zma; omega)).trans (x3 a j (by omega)))
  have hX : rvX o (v1p p) q R5 := by
    refine ⟨⟨(e3 _ _ (by omega) (by decide)).trans y5.1, (e3 _ _ (by omega) (by decide)).trans y5.2⟩, ⟨?_, ?_, ?_, ?_⟩, fun u a b => ⟨(e3 _ _ (by omega) (by decide)).trans (y6 u a b).1, (y6 u a b).2⟩⟩
    · rw [q2, e2 _ _ (by omega) (by decide) (by decide) (by decide) (by decide)]; exact hF.1
    · rw [q3, hR5]; exact sI_eq
    · rw [q4, e5 _ _ (by omega), z4]; rfl
    · rw [q5, e2 _ _ (by omega) (by decide) (by decide) (by decide) (by decide)]; exact hF.2
  have h78 : R5.1 160 78 = Mr.1 160 78 := e2 _ _ (by omega) (by decide) (by decide) (by decide) (by decide)
  have h77 : R5.1 160 77 = iI q.1 := by rw [q1, e2 _ _ (by omega) (by decide) (by decide) (by decide) (by decide)]; exact hs2
  have vp : vP (v1p p) = p := rfl
  have hcv : ∀ j, 0 ≤ j → j < gE (oP o p) → (Mg.1 (gX (oP o p) + 13) j.toNat = iI 0 ∧ Mg.1 (gX (oP o p) + 14) j.toNat = iI 0 ∧ Mg.1 (gX (oP o p) + 15) j.toNat = iI 0) ∧ R5.1 216 (1000 * p + j).toNat = iI 0 ∧ R5.1 217 (1000 * p + j).toNat = iI 0 ∧ R5.1 218 (1000 * p + j).toNat = iI (-1) := fun j a b => by
    obtain ⟨w1, w2, w3⟩ := x4 j a (by omega)
    have t : ∀ c, 216 ≤ c ∧ c ≤ 218 → ∀ i, R5.1 c i = R1.1 c i := fun c hc i => (e3 _ _ (by omega) (by omega)).trans (y3 _ _ (by unfold Zma; omega))
    have t0 := c4 0 j.toNat (by decide) (by omega)
    have t1 := c4 1 j.toNat (by decide) (by omega)
    have t2 := c4 2 j.toNat (by decide) (by omega)
    exact ⟨⟨(g3 _ _ (by omega)).trans t0, (g3 _ _ (by omega)).trans t1, (g3 _ _ (by omega)).trans t2⟩, (t 216 (by decide) _).trans w1, (t 217 (by decide) _).trans w2, (t 218 (by decide) _).trans w3⟩
  have hdc' : hdC (hs0 hs) Mg := fun Q u1 u2 => by
    obtain ⟨w1, w2, w3⟩ := hdc Q u1 u2
    have tz : 108 ≤ zTw Q ∧ zTw Q + 3 < 140 ∧ zTw Q % 4 = 0 := by unfold zTw; omega
    have no : ∀ a j, (a = zTw Q + 3 ∨ a = zTw Q + 2) → Mg.1 a j = Mc.1 a j := fun a j z => (g3 _ _ (by omega)).trans ((c3 _ _ (by omega)).trans ((b3 _ _ (by unfold Zwa; omega)).trans (nm hC a2 (by omega) (by unfold Zpr; omega))))
    exact ⟨(g3 _ _ (by omega)).trans ((c3 _ _ (by omega)).trans (b5 Q u1 u2)), fun j u w => (no _ _ (by omega)).trans (w2 j u w), fun j u w => (no _ _ (by omega)).trans (w3 j u w)⟩
  have hdr' : hdR (hs0 hs) R5 := fun Q u1 u2 => by
    obtain ⟨w1, w2, w3⟩ := hdr Q u1 u2
    exact ⟨(e5 _ _ (by omega)).trans (z5 Q u1 u2), fun j u w => (e2 _ _ (by omega) (by decide) (by decide) (by decide) (by decide)).trans (w2 j u w), fun j u w => (e2 _ _ (by omega) (by decide) (by decide) (by decide) (by decide)).trans (w3 j u w)⟩
  have ri : RI LL xs o (v1p p) q 0 (zst (rE o (v1p p) (pf q 0 0)) (-1) 0 (hs0 hs)) Mg R5 := by
    refine RI.mk g4 hR5' hW hX (n882.trans (hsd.trans h78.symm)) h77 g5 (fun id a b => (e3 _ _ (by omega) (by decide)).trans (y7 id a b)) ?_ ?_ (fun _ => hcv) hdc' hdr' (fun z => by omega) (fun D => ⟨Int.le_refl _, Int.le_refl _⟩) ⟨Or.inr (by omega), by decide⟩ (by decide) (Int.le_refl _) (show gE (oP o p) ≤ 1000 by omega)
    · rw [if_neg (by decide), n88 10 (by decide), a6]; rfl
    · rw [hR5]; exact (sI_nej (by decide)).trans sI_eq
  have hor' : orB o p Od Mg R5 := fun k a b => by
    obtain ⟨w1, w2⟩ := hor k a b
    exact ⟨(f0.i (ln_lt (hC.2.1 p hp.1 hp.2).2.2.1.1) (by unfold ZM; omega)).trans w1, (e2 _ _ (by omega) (by decide) (by decide) (by decide) (by decide)).trans w2⟩
  obtain ⟨Mh, R6, s', T', m1, m2, m3, m4, m5, m6⟩ := run_loop (dl := dl) (d := d) (J := jv fun s5 => some (.null, s5)) (J' := jv fun (s9 : Int32 × Mem) => ptZ (13, 157) s9.2 (some 160) 91 ((0 : Int32)) fun M10 => ptZ (13, 157) M10 (some 160) 92 ((0 : Int32)) fun M11 => gtP (13, 157) M11 (some 160) 104 fun x12 => asI 102 M11 x12 (iI p) ((znar ((1 : Int32)))) fun M13 => some (.int s9.1, M13)) (q := q) (T := fun _ _ => 0) (N := 4294967296) (N' := 4294967296) (by omega) (by omega) hP hp hqk q5 q3 hnc hO nc.toNat 0 (zst (rE o (v1p p) (pf q 0 0)) (-1) 0 (hs0 hs)) Mg R5 (by omega) (by omega) (by omega) (by omega) ri (by show (-1 : Int) < 0; decide) hor' (fun k a b => by omega)
  -- the class
  have kh : Mh.2.2.2 = Mc.2.2.2 := (congrArg (fun z => z.2.2) m5.1).trans kg
  have hCh := m3.1.1
  have hRh := m3.1.2
  obtain ⟨⟨⟨oh1, oh2, oh3⟩, oh4, -, -, oh10, oh11, oh12⟩, ⟨-, -, -, -, ⟨rh5, rh6⟩, -⟩, ⟨kh1, -⟩, -⟩ := hCh.2.1 p hp.1 hp.2
  have kd2 : Md.2 = Mb.2 := c2
  have kd3 : Md.2.2.2 = Mb.2.2.2 := congrArg (fun z => z.2.2) c2
  have kd4 : Md.2.2.1 = Mb.2.2.1 := congrArg (fun z => z.2.1) c2
  have od1 : Md.2.2.2[gX (oP o p)]? = some (6, 18) := by rw [kd3]; exact o1
  have od10 : Md.2.2.1 (gX (oP o p)) 10 = some (gX (oP o p) + 6) := by rw [kd4]; exact o10
  have od11 : Md.2.2.1 (gX (oP o p)) 11 = some (gX (oP o p) + 7) := by rw [kd4]; exact o11
  have kd1 : Md.2.2.2[gX (oP o p) + 6]? = some (100, ((gR (oP o p)).1 3 0 0).toNat) := by rw [kd3]; exact k1
  have enc : (((gR (oP o p)).1 3 0 0).toNat : Int) = nc := by omega
  have m1' := m1
  rw [← li_0] at m1'
  have e174 : runX (dl + 1) 174 [va_rf (some 64), va_rf (some (gX (oP o p))), va_rf (some (gX (oP o p) + 6)), .int (iI (((gR (oP o p)).1 3 0 0).toNat : Int)), .int ((-2 : Int32)), va_rf (some (gX (oP o p) + 7))] Md = some (.null, Mh) := by
    rw [r174]; unfold b174; rw [aR_e, aR_e, aR_e, aI_e, aI_e, aR_e, aZ_e]; unfold c174
    rw [gtP_q (ck_64 hCd.1.1) (cf_64_2 hCd.1.1), vC_e (ck_88 hCd.1.1), cV_e g1, gtP_q (ck_64 g4.1.1) (cf_64_2 g4.1.1), gtP_q (ck_88 g4.1.1) (cf_88_0 g4.1.1), jn_v, enc, show (-2 : Int32) = iI (-2) from rfl]
    exact m1'
  have e167 := zc167 (d := dl + 1) (M := Mc) (v := iI p) (p := p) (by omega) hC.1.1 hpl hC.ob rfl (by omega)
  rw [if_pos hp] at e167
  obtain ⟨Mf, hMf⟩ : ∃ X, X = sI Mh (gX (oP o p)) 13 1 := ⟨_, rfl⟩
  have hz13 : hoZ o (gX (oP o p)) 13 := own_ho hP hp (by omega) (by unfold pkZ; omega)
  have hCf : hoC LL xs o Mf := by rw [hMf]; exact hCh.si hP hz13
  have nf : ∀ a j, ¬ (a = gX (oP o p) ∧ j = 13) → Mf.1 a j = Mh.1 a j := fun a j z => by
    rw [hMf]
    by_cases y : a = gX (oP o p)
    · exact sI_nej fun w => z ⟨y, w⟩
    · exact sI_ne y
  have tlf : ∀ c, 0 ≤ c → c < nc → tlB o p T' c Mh R6 := fun c a b => by
    obtain ⟨i, i1, i2, i3⟩ := hO.sur (c := c) ⟨a, by omega⟩
    have := m4 i i1 (by omega)
    rw [i3] at this
    exact this
  have cnt := zc140_64 (d := dl + 1) (M := Mf) (x := gX (oP o p)) (nc := nc) (T := T') (J := jv fun s14 => some (.int s14, Mf)) (by rw [hMf]; exact ⟨oh1, oh10, oh11⟩) (by
    rw [hMf]
    refine ⟨by rw [hnc]; exact kh1, rh5, (rh6 0 (by decide)).1, by rw [hnc]; exact (rh6 0 (by decide)).2⟩) (by omega) (fun c a b => (nf _ _ (by omega)).trans (tlf c a b 0 (by decide)).1)
  have ec : runX (dl + 2) 140 [va_rf (some 64), .int (iI p)] Mc = some (.int (iI (psum (fun c => if T' 0 c = iI 1 then 1 else 0) nc.toNat)), Mf) := by
    rw [r140]; unfold b140; rw [aR_e, aI_e, aZ_e]; unfold c140
    rw [vC_e (ck_64 hC.1.1), cP_e e167, if_neg (show ¬ some (gX (oP o p)) = none by simp), gtP_q (ck_64 hC.1.1) (cf_64_2 hC.1.1), vC_e (ck_88 hC.1.1), cV_e a1, gtP_q (ck_64 hCa.1.1) (cf_64_2 hCa.1.1), vC_e (ck_88 hCa.1.1), cV_e b1, vC_e o1, cV_e c1]
    rw [gtP_q od1 od10, gtP_q od1 od10, aln_q' kd1, gtP_q od1 od11, vC_e (ck_64 hCd.1.1), cV_e e174, ptZ_e oh1 (Or.inr rfl), ← hMf, jn_v]
    exact cnt
  -- the reference
  have m2' := m2
  rw [show psum (fps (fun _ _ => 0) Od) (0 : Int).toNat = 0 from rfl, ← li_0] at m2'
  have hR6 := hRh.1.1
  obtain ⟨R8, hR8⟩ : ∃ X, X = sI (sI (sI R6 160 91 0) 160 92 0) 221 p.toNat (znar 1) := ⟨_, rfl⟩
  have k160 := rk_160 hR6
  have er : runX (d + 1) 257 [va_rf (some 160), .int (iI p)] Mr = some (.int (iI (psum (fps T' Od) nc.toNat)), R8) := by
    have e255 := zr255 (d := d) (M := Mr) (v := iI p) (p := p) (by omega) hR.1.1 h2 (by omega) rfl (by omega)
    rw [if_pos hp] at e255
    rw [r257]; unfold b257; rw [aR_e, aI_e, aZ_e]; unfold c257
    rw [vC_e (rk_160 hR.1.1), cI_e e255, if_neg (show ¬ iI 1 = 0 by decide), ltI_q (z := 1000 * p) (mlI li_1000 rfl), jn_v, x1, jv_e, vC_e (rk_160 hR1.1.1), cV_e y1, vC_e (rk_160 y4.1.1), cV_e z1]
    have k3 : R3.2.2.2[160]? = some (13, 157) := by rw [congrArg (fun z => z.2.2) z2]; exact rk_160 y4.1.1
    rw [ptI_e k3, ptZ_e (M := sI R3 160 83 (-1)) k3 (Or.inr rfl), ← hR5, jn_v]
    rw [m2', jv_e, ptZ_e k160 (Or.inl rfl), ptZ_e (M := sI R6 160 91 0) k160 (Or.inl rfl), gtP_q (M := sI (sI R6 160 91 0) 160 92 0) k160 (rf_104 hR6), asI_e (M := sI (sI R6 160 91 0) 160 92 0) (rk_221 hR6) (by omega) (by omega) (by omega), ← hR8]
  have nr : ∀ a j, ¬ (a = 160 ∧ (j = 91 ∨ j = 92)) → ¬ (a = 221 ∧ j = p.toNat) → R8.1 a j = R6.1 a j := fun a j z z' => by
    rw [hR8]
    by_cases y : a = 221
    · exact (sI_nej fun w => z' ⟨y, w⟩).trans ((sI_ne (by omega)).trans (sI_ne (by omega)))
    · refine (sI_ne y).trans ?_
      by_cases y2 : a = 160
      · exact (sI_nej (by omega)).trans (sI_nej (by omega))
      · exact (sI_ne y2).trans (sI_ne y2)
  have f68 : Fz (Zrq p) R6 R8 := ⟨by rw [hR8]; rfl, fun a j z => nr a j (fun y => z (Or.inl (Or.inl (Or.inl ⟨y.1, by omega⟩)))) fun y => z (Or.inr y)⟩
  have hR8' : hoR o R8 := hRh.fg (f68.fg hRh.1.2) fun a j z => by
    unfold Zrq Zrr at z
    rcases z with (z | z) | z
    · exact ZR_hr z
    · exact ⟨fun y => by omega, by omega, by omega, by omega⟩
    · exact ⟨fun y => by omega, by omega, by omega, by omega⟩
  have fin := m3.2.2.1
  obtain ⟨⟨-, -, ch3, ch4, -⟩, -, -, -, rh3, rh4, -⟩ := fin
  have ps := hO.2 fun c => if T' 0 c = iI 1 then 1 else 0
  refine ⟨Mf, R8, psum (fun c => if T' 0 c = iI 1 then 1 else 0) nc.toNat, T', s', ec, by rw [← ps]; exact er, ?_, ?_, (fr0.m fun a j z => Or.inl (Or.inl z)).tr ((m6.m fun a j z => Or.inl z).tr f68), ⟨hCf, hR8'⟩, ⟨by rw [hMf]; exact sI_eq, by rw [hR8]; exact sI_eq⟩, fun c a b t ht => ?_, fun j a b => ?_, ⟨fun Q a b => ?_, fun Q a b => ?_, fun D => ?_⟩, ?_, ?_, ?_, ?_⟩
  · refine (f0.m fun a j z => Or.inl (Or.inl z)).tr (((m5.m fun a j z => Or.inl z).fg g4.1.2.2).tr ?_)
    rw [hMf]
    exact (FG.r hCh.1.2.2).sI (Or.inr ⟨rfl, rfl⟩)
  · rw [hMf]
    exact ⟨kh, (congrArg (fun z => z.1) m5.1).trans lg⟩
  · obtain ⟨w1, w2⟩ := tlf c a b t ht
    exact ⟨(nf _ _ (by omega)).trans w1, (nr _ _ (by omega) (by omega)).trans w2⟩
  · obtain ⟨w1, w2, w3⟩ := ch3 q3 j a b
    obtain ⟨w4, w5, w6⟩ := rh3 q3 j a b
    have ez : zrp (rE o (v1p p) (pf q 0 0)) j = 1000 * p + j := by
      unfold zrp
      rw [if_pos (by omega)]; rfl
    rw [ez] at w4 w5
    exact ⟨⟨(nf _ _ (by omega)).trans w1, (nf _ _ (by omega)).trans w2⟩, (nr _ _ (by omega) (by omega)).trans w4, (nr _ _ (by omega) (by omega)).trans w5⟩
  · obtain ⟨w1, w2, w3⟩ := ch4 Q a b
    have tz : zTw Q + 3 < 140 := by unfold zTw; omega
    exact ⟨(nf _ _ (by omega)).trans w1, fun j u w => (nf _ _ (by omega)).trans (w2 j u w), fun j u w => (nf _ _ (by omega)).trans (w3 j u w)⟩
  · obtain ⟨w1, w2, w3⟩ := rh4 Q a b
    exact ⟨(nr _ _ (by omega) (by omega)).trans w1, fun j u w => (nr _ _ (by omega) (by omega)).trans (w2 j u w), fun j u w => (nr _ _ (by omega) (by omega)).trans (w3 j u w)⟩
  · have := m3.2.2.2.2.1.2.2.1 D
    omega
  · refine (nr _ _ (by omega) (by omega)).trans (m3.2.1.2.2.1.1.trans (by rw [q2]))
  · rw [hR8]; exact (sI_ne (by decide)).trans ((sI_nej (by decide)).trans sI_eq)
  · rw [hR8]; exact (sI_ne (by decide)).trans sI_eq
  · refine (nr _ _ (by omega) (by omega)).trans (m3.2.1.2.2.1.2.2.2.trans (by rw [q5]))
end S9ci
