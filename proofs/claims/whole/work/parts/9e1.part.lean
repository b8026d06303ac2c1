/-! luck(), share(): both -/
def Zlu (o : HO) (a j : Nat) : Prop := Zlz o a j ∨ (a = 64 ∧ (j = 9 ∨ j = 10))
def Zlv (a j : Nat) : Prop := ZR 0 0 a j ∨ (a = 160 ∧ (j = 148 ∨ j = 149 ∨ j = 150))
/-- what is told of the latest luck() -/
def shB (Mc Mr : Mem) : Prop := ∃ A B : Nat, (A ≤ 1000000000 ∧ B ≤ 1000000000) ∧ (Mc.1 64 9 = iI (A : Int) ∧ Mc.1 64 10 = iI (B : Int)) ∧ Mr.1 160 148 = iI (if B = 0 then 0 else 1) ∧ (B ≠ 0 → Mr.2.1 160 149 = iL A ∧ Mr.2.1 160 150 = iL B)
section S9e1
variable {d dl : Nat} {o : HO} {q : QN} {s u hs : ZS} {M M' M2 Mc Mr Mc' Mr' : Mem} {LL a j : Nat} {xs : Nat → Int32} {ow : Nat → Int} {c p i n b nc sl : Int} {w v v1 v2 : Int32} {Z : Nat → Nat → Prop}
theorem FG.sL {v : Int64} (h : FG Z M M') (z : Z a j) : FG Z M (sL M' a j v) := ⟨h.1, h.2.1, fun b i l y => ⟨h.i l y, by
  by_cases w : b = a ∧ i = j
  · exact absurd (by rw [w.1, w.2]; exact z) y
  · refine Eq.trans ?_ (h.l l y)
    by_cases w1 : b = a
    · exact sL_nej fun w2 => w ⟨w1, w2⟩
    · exact sL_ne w1, h.pt l y⟩⟩
theorem ho_64 (hP : hoP o) (hj : j = 3 ∨ j = 7 ∨ j = 9 ∨ j = 10 ∨ j = 13 ∨ j = 16) : hoZ o 64 j := ⟨by omega, fun q hq => by
  have g : ∀ q, q ∈ CFd → q.1 = 64 → q.2.1 ≠ 3 ∧ q.2.1 ≠ 7 ∧ q.2.1 ≠ 9 ∧ q.2.1 ≠ 10 ∧ q.2.1 ≠ 13 ∧ q.2.1 ≠ 16 := by decide
  have := g _ hq rfl
  dsimp only at this
  omega, fun p x y u z => by have := (hP.2.2.1 p x y).2.2; omega, fun x y => by omega⟩
theorem hr_160 (hj : 148 ≤ j ∧ j ≤ 150) : hrZ 160 j := ⟨fun _ q hq => by
  have g : ∀ q, q ∈ RFd → q.1 < 148 ∨ 150 < q.1 := by decide
  have := g _ hq
  dsimp only at this
  omega, by omega, by omega, by omega⟩
/-- between runs with all DRAWS told -/
theorem KI.l1 (hP : hoP o) (hp : 0 ≤ p ∧ p < oN o) (h : KI LL xs o p sl 0 b hs Mc Mr) : KI LL xs o p sl 1 b hs (sP Mc 88 4 (some 143)) (sI Mr 160 97 (iI 1)) := by
  obtain ⟨⟨h1, h2⟩, h3, ⟨h4, h5, h6, h7⟩, h8, ⟨h9, h10, h11, h12⟩, h13, h14, h15⟩ := h
  have f : FG (fun a j => a = 88 ∧ j = 4) Mc (sP Mc 88 4 (some 143)) := (FG.r h1.1.2.2).sP ⟨rfl, rfl⟩
  have gr : ∀ a j, ¬ (a = 160 ∧ j = 97) → (sI Mr 160 97 (iI 1)).1 a j = Mr.1 a j := fun a j z => by
    by_cases y : a = 160
    · exact sI_nej fun w => z ⟨y, w⟩
    · exact sI_ne y
  refine ⟨⟨h1.fg hP f fun a j z => by rw [z.1, z.2]; exact ZM_ho (k := 0) hP hp (Or.inl ⟨rfl, by decide⟩), h2.si (ZR_hr (p := 0) (k := 0) (Or.inl ⟨rfl, by decide⟩))⟩, fun al => ?_, ⟨(gr _ _ (by omega)).trans h4, (gr _ _ (by omega)).trans h5, (gr _ _ (by omega)).trans h6, sI_eq⟩, h8.trans (gr _ _ (by omega)).symm, ⟨h9, (gr _ _ (by omega)).trans h10, (gr _ _ (by omega)).trans h11, h12⟩, h13, h14.fz fun a j z => gr a j (by omega), h15⟩
  obtain ⟨w1, ⟨w2, w3, w4, w5⟩, w6, w7⟩ := h3 al
  have ep : ∀ a j, ¬ (a = 88 ∧ j = 4) → (sI (sP Mc 88 4 (some 143)) 88 3 (iI (if al < 0 then -2 else al))).2.2.1 a j = (sI Mc 88 3 (iI (if al < 0 then -2 else al))).2.2.1 a j := fun a j z => by
    show (sP Mc 88 4 (some 143)).2.2.1 a j = Mc.2.2.1 a j
    by_cases y : a = 88
    · exact sP_nej fun w => z ⟨y, w⟩
    · exact sP_ne y
  exact ⟨⟨(ep _ _ (by omega)).trans w1.1, fun z => absurd z v1F, fun z => (ep _ _ (by omega)).trans (w1.2.2 z)⟩, ⟨w2, w3, w4, by rw [if_pos rfl]; exact sP_eq⟩, (ep _ _ (by omega)).trans w6, fun z => absurd z v1F⟩
theorem luck_pair (hdl : 25 ≤ dl) (hd : 75 ≤ d) (hP : hoP o) (hC : HC LL xs o ow sl Mc) (hR : HR o sl Mr) (hsl : 1 ≤ sl ∧ sl ≤ 1000) (h78 : Mc.1 88 2 = Mr.1 160 78) (hdc : hdC hs Mc) (hdr : hdR hs Mr) (hD : ∀ D, 0 ≤ hs.1 17 D 0 ∧ hs.1 17 D 0 ≤ 34000) (hsh : shB Mc Mr) (hv1 : v1 = iI p) (hv2 : v2 = iI c) (bp : -2147483648 ≤ p ∧ p ≤ 2147483647) (bc : -2147483648 ≤ c ∧ c ≤ 2147483647) : ∃ Mc' Mr' r, runX dl 160 [va_rf (some 64), .int v1, .int v2] Mc = some (.int r, Mc') ∧ runX d 301 [va_rf (some 160), .int v1, .int v2] Mr = some (.int r, Mr') ∧ ((Mc' = Mc ∧ Mr' = Mr) ∨ (FG (Zlu o) Mc Mc' ∧ (Mc'.2.2.2 = Mc.2.2.2 ∧ ∀ a j, a ≠ 143 → Mc'.2.1 a j = Mc.2.1 a j) ∧ FG Zlv Mr Mr' ∧ Mr'.2.2 = Mr.2.2 ∧ (hoC LL xs o Mc' ∧ hoR o Mr') ∧ shB Mc' Mr' ∧ (∃ hs2, hdC hs2 Mc' ∧ hdR hs2 Mr' ∧ ∀ D, 0 ≤ hs2.1 17 D 0 ∧ hs2.1 17 D 0 ≤ 34000) ∧ Mr'.1 160 90 = iI (-1) ∧ Mr'.1 160 91 = iI 0 ∧ Mr'.1 160 92 = iI 0 ∧ Mr'.1 160 97 = iI 0)) := by
  obtain ⟨dl, rfl⟩ : ∃ e, dl = e + 1 := ⟨dl - 1, by omega⟩
  obtain ⟨d, rfl⟩ : ∃ e, d = e + 1 := ⟨d - 1, by omega⟩
  have hC' := hC
  obtain ⟨hC1, hC2, hC3⟩ := hC'
  have hR' := hR
  obtain ⟨hR1, hR2, hR3, hR4, hR5, hR6, hR7⟩ := hR'
  have p8 := hP.1
  subst hv1; subst hv2
  have e167 := zc167 (d := dl) (M := Mc) (v := iI p) (p := p) (by omega) hC1.1.1 hC2 hC1.ob rfl bp
  have e256 := zr256 (d := d) (M := Mr) (v := iI p) (p := p) (w := iI c) (c := c) (n := oN o) (b := if 0 ≤ p ∧ p < oN o then (gR (oP o p)).1 3 0 0 else 0) (by omega) hR1.1.1 hR2 (by omega) rfl bp rfl bc (fun a b => by
    rw [if_pos ⟨a, b⟩]
    have := pk_lo hP ⟨a, b⟩
    exact ⟨hoR.ncs hR1 ⟨a, b⟩, by omega⟩)
  by_cases hp : 0 ≤ p ∧ p < oN o
  · rw [if_pos hp] at e167
    have e169 := zc169 (d := dl) (M := Mc) (v := iI c) (c := c) (by omega) hP hC1 hp rfl bc
    rw [if_pos hp] at e256
    by_cases hc : 0 ≤ c ∧ c < (gR (oP o p)).1 3 0 0
    · rw [if_pos hc] at e169
      rw [if_pos ⟨hp, hc⟩] at e256
      have l2 : (20000 : Int32) = iI 20000 := by decide +kernel
      obtain ⟨q, hq⟩ : ∃ q : QN, q = (sl, -1, 0, 0, 1) := ⟨_, rfl⟩
      obtain ⟨R1, hR1'⟩ : ∃ X, X = sI (sI Mr 160 83 (iI 20000)) 160 84 0 := ⟨_, rfl⟩
      obtain ⟨Ma, a1, a2, a3, KA⟩ := prep_KI (dl := dl) (b := 20000) (w := 20000) (by omega) hP hp hC hR h78 hdc hdr hD (by decide) l2 hR1'
      have m88 : Ma.1 88 3 = iI (-2) := by
        obtain ⟨Ma', b1, -, -, -, -, -, b7, -⟩ := zc19 (d := dl) (M := Mc) (x := gX (oP o p)) (v := 20000) (by omega) hC1.1.2.2 hC1.1.1 (hC1.ob p hp.1 hp.2)
        rw [a1] at b1
        cases b1
        exact b7
      have K1 := KA.l1 hP hp
      obtain ⟨Mb, hMb⟩ : ∃ X, X = sP Ma 88 4 (some 143) := ⟨_, rfl⟩
      obtain ⟨R2, hR2'⟩ : ∃ X, X = sI R1 160 97 (iI 1) := ⟨_, rfl⟩
      rw [← hMb, ← hR2'] at K1
      obtain ⟨Md, hMd⟩ : ∃ X, X = sI (sI (sL (sL Mb 143 0 (iL 0)) 143 1 (iL 1)) 143 2 0) 143 5 0 := ⟨_, rfl⟩
      obtain ⟨R3, hR3'⟩ : ∃ X, X = sI R2 160 98 0 := ⟨_, rfl⟩
      have Cb := K1.1.1.1.1
      have Ra := KA.1.2.1.1
      have Rb := K1.1.2.1.1
      have fd : FG Zlc Mb Md := by
        rw [hMd]
        exact ((((FG.r K1.1.1.1.2.2).sL (Or.inl ⟨rfl, by decide, by decide⟩)).sL (Or.inl ⟨rfl, by decide, by decide⟩)).sI (Or.inl ⟨rfl, by decide, by decide⟩)).sI (Or.inl ⟨rfl, by decide, by decide⟩)
      have gd : Fz Zlq R2 R3 := by
        rw [hR3']
        exact (Fz.r).si (Or.inl ⟨rfl, rfl⟩)
      have K2 : KI LL xs o p sl 1 20000 hs Md R3 := K1.lk hP fd (by rw [hMd]; rfl) gd
      have Cd := K2.1.1.1.1
      have Rd := K2.1.2.1.1
      have fab : FG (Zlz o) Mc Mb := by
        rw [hMb]
        exact (a2.m fun a j z => Or.inl (Zpr_M z)).sP (Or.inl (Or.inl ⟨rfl, by decide⟩))
      have fad : FG (Zlz o) Mc Md := fab.tr (fd.m fun _ _ z => Or.inr z)
      have kab : Mb.2.2.2 = Mc.2.2.2 := by rw [hMb]; exact a3.1
      have kad : Md.2.2.2 = Mc.2.2.2 := by rw [hMd]; exact kab
      have lad : ∀ a j, a ≠ 143 → Md.2.1 a j = Mc.2.1 a j := fun a j z => by
        rw [hMd]
        show (sL (sL Mb 143 0 (iL 0)) 143 1 (iL 1)).2.1 a j = _
        rw [sL_ne z, sL_ne z, hMb]
        show Ma.2.1 a j = _
        rw [a3.2]
      have gad : Fz (ZR 0 0) Mr R3 := by
        rw [hR3', hR2', hR1']
        exact ((((Fz.r).si (Or.inl ⟨rfl, by decide⟩)).si (Or.inl ⟨rfl, by decide⟩)).si (Or.inl ⟨rfl, by decide⟩)).si (Or.inl ⟨rfl, by decide⟩)
      obtain ⟨Q1, hQ1⟩ : ∃ Q1 : Mem → XA, Q1 = jv fun (s12 : Mem) => some (.int ((-4 : Int32)), s12) := ⟨_, rfl⟩
      obtain ⟨Q4, hQ4⟩ : ∃ Q4 : Int32 × Mem → XA, Q4 = jv fun (s4 : Int32 × Mem) => some (.int s4.1, s4.2) := ⟨_, rfl⟩
      obtain ⟨Q2, hQ2⟩ : ∃ Q2 : Int32 → Mem → XA, ∀ (x11 : Int32) (M10 : Mem), Q2 x11 M10 = if x11 = ((-4 : Int32)) then ( some (.int ((-4 : Int32)), M10)) else ( gtP (12, 19) M10 (some 64) 8 fun x12 => gtI (3, 7) M10 x12 2 fun x13 => if x13 = 0 then ( gtP (12, 19) M10 (some 64) 8 fun x14 => gtL (3, 7) M10 x14 0 fun x15 => ptI (12, 19) M10 (some 64) 9 x15.toInt32 fun M16 => gtP (12, 19) M16 (some 64) 8 fun x17 => gtL (3, 7) M16 x17 1 fun x18 => ptI (12, 19) M16 (some 64) 10 x18.toInt32 fun M19 => some (.int x11, M19)) else ( some (.int ((-5 : Int32)), M10))) := ⟨_, fun _ _ => rfl⟩
      obtain ⟨Q3, hQ3⟩ : ∃ Q3 : Int32 × Int64 × Int64 × Int32 × Mem → XA, Q3 = jv fun (s7 : Int32 × Int64 × Int64 × Int32 × Mem) => ptZ (13, 157) s7.2.2.2.2 (some 160) 97 ((0 : Int32)) fun M8 => gtI (13, 157) M8 (some 160) 84 fun x9 => if x9 = 0 then ( if s7.2.2.2.1 = 0 then ( ptZ (13, 157) M8 (some 160) 148 ((1 : Int32)) fun M10 => ptL (13, 157) M10 (some 160) 149 s7.2.1 fun M11 => ptL (13, 157) M11 (some 160) 150 s7.2.2.1 fun M12 => some (.int s7.1, M12)) else ( some (.int ((-5 : Int32)), M8))) else ( ptZ (13, 157) M8 (some 160) 84 ((0 : Int32)) fun M13 => some (.int ((-4 : Int32)), M13)) := ⟨_, rfl⟩
      have e362 : runX dl 362 [va_rf (some 64), va_rf (some (hEC (gH (oP o p)) 3 c))] Mb = lp (c362_9 (runX (dl - 1)) (some 64) (some (hEC (gH (oP o p)) 3 c)) Q1 Q4 Q1) 4294967296 (iI (0 + 1), Md) := by
        obtain ⟨e, he⟩ : ∃ e, dl = e + 1 := ⟨dl - 1, by omega⟩
        rw [show dl - 1 = e by omega, he, r362]; unfold b362; rw [aR_e, aR_e, aZ_e]; unfold c362
        rw [gtP_q (ck_64 Cb) (cf_64_8 Cb), vC_e (ck_143 Cb), cV_e (zc12 (by omega) Cb), ← hMd, jn_v, jn_v, jn_v, ← hQ1, ← hQ4, Int.zero_add, ← li_1]
      have eC : ∀ (x11 : Int32) (M10 : Mem), runX dl 362 [va_rf (some 64), va_rf (some (hEC (gH (oP o p)) 3 c))] Mb = some (.int x11, M10) → runX (dl + 1) 160 [va_rf (some 64), .int (iI p), .int (iI c)] Mc = Q2 x11 M10 := fun x11 M10 h => by
        rw [r160]; unfold b160; rw [aR_e, aI_e, aI_e, aZ_e]; unfold c160
        rw [vC_e (ck_64 hC1.1.1), cP_e e167, cP_e e169, if_neg (show ¬ some (hEC (gH (oP o p)) 3 c) = none by simp), gtP_q (ck_64 hC1.1.1) (cf_64_2 hC1.1.1), vC_e (ck_88 hC1.1.1), cV_e a1, gtP_q (ck_64 KA.1.1.1.1) (cf_64_2 KA.1.1.1.1), gtP_q (ck_64 KA.1.1.1.1) (cf_64_8 KA.1.1.1.1), ptP_e (ck_88 KA.1.1.1.1), ← hMb, vC_e (ck_64 Cb), cI_e h, hQ2]
      have eR : runX (d + 1) 301 [va_rf (some 160), .int (iI p), .int (iI c)] Mr = lp (c301_47 (runX d) (some 160) (iI p) (iI c) Q3) 4294967296 (iI 0, iL 0, iL 1, iI 0, iI 1, R3) := by
        have kr := rk_160 hR1.1.1
        rw [r301]; unfold b301; rw [aR_e, aI_e, aI_e, aZ_e]; unfold c301
        rw [vC_e kr, cI_e e256, if_neg (show ¬ iI 1 = 0 by decide), ptI_q (z := 20000) kr l2, ptZ_e (M := sI Mr 160 83 (iI 20000)) kr (Or.inl rfl), ← hR1', ptZ_q (rk_160 Ra) li_1 (by decide), ← hR2', ptI_e (rk_160 Rb), ← hR3', jn_v, ← hQ3, iL_0, iL_1, li_0, li_1]
      have d5 : Md.1 143 5 = iI ((0 : Nat) : Int) := by rw [hMd]; exact sI_eq
      have d2 : Md.1 143 2 = iI 0 := by rw [hMd]; exact (sI_nej (by decide)).trans sI_eq
      have d0 : Md.2.1 143 0 = iL 0 := by
        rw [hMd]
        show (sL (sL Mb 143 0 (iL 0)) 143 1 (iL 1)).2.1 143 0 = _
        rw [sL_nej (by decide)]
        exact sL_eq
      have d1 : Md.2.1 143 1 = iL 1 := by
        rw [hMd]
        show (sL (sL Mb 143 0 (iL 0)) 143 1 (iL 1)).2.1 143 1 = _
        exact sL_eq
      have d3 : Md.1 88 3 = iI (-2) := (nm K1.1.1 fd (by decide) (by unfold Zlc; omega)).trans (by rw [hMb]; exact m88)
      have r98 : R3.1 160 98 = iI ((0 : Nat) : Int) := by rw [hR3']; exact sI_eq
      have r90 : R3.1 160 90 = iI (-1) := by
        rw [hR3', hR2', hR1']
        exact (sI_nej (by decide)).trans ((sI_nej (by decide)).trans ((sI_nej (by decide)).trans ((sI_nej (by decide)).trans hR4)))
      obtain ⟨Me, Re, rows, f', A', B', x1, x2, x3, x4, x5, x6, x7⟩ := luck_loop (dl := dl - 1) (d := d) (j48 := Q1) (j90 := Q1) (j82 := Q4) (J' := Q3) (by omega) (by omega) hP hp hsl hc hq 400 0 20000 0 0 1 (fun _ => 0) (fun _ => 0) 0 Md R3 4294967296 4294967296 (by omega) (by omega) (by omega) (by omega) (by omega) K2 d3 r90 (by omega) ⟨d5, fun z a b => by omega⟩ ⟨r98, fun z a b => by omega⟩ d2 d0 d1 (Or.inl rfl) (fun k a => by omega) (fun _ => ⟨⟨by omega, by omega⟩, by show 0 * 1 ≤ 1 * 0; omega⟩) (Or.inl rfl)
      obtain ⟨⟨hCe, hRe⟩, ⟨hs2, t1, t2, t3⟩, t4, t5, t6, t7⟩ := id x5
      have Ce := hCe.1.1
      have Re' := hRe.1.1
      have ke := rk_160 Re'
      have fE : FG (Zlz o) Mc Me := fad.tr x1
      have kE : Me.2.2.2 = Mc.2.2.2 := (congrArg (fun z => z.2) x2).trans kad
      have lE : ∀ a j, a ≠ 143 → Me.2.1 a j = Mc.2.1 a j := fun a j z => (x3 a j z).trans (lad a j z)
      have gE : Fz (ZR 0 0) Mr Re := gad.tr x4
      obtain ⟨A0, B0, sh1, ⟨sh2, sh3⟩, sh4, sh5⟩ := hsh
      obtain ⟨Rf, hRf⟩ : ∃ X, X = sI Re 160 97 0 := ⟨_, rfl⟩
      have kf : Rf.2.2.2[160]? = some (13, 157) := by rw [hRf]; exact ke
      have nf : ∀ a j, ¬ (a = 160 ∧ j = 97) → Rf.1 a j = Re.1 a j := fun a j z => by
        rw [hRf]
        by_cases y : a = 160
        · exact sI_nej fun w => z ⟨y, w⟩
        · exact sI_ne y
      have gF : Fz (ZR 0 0) Mr Rf := by
        rw [hRf]
        exact gE.si (Or.inl ⟨rfl, by decide⟩)
      have hRf' : hoR o Rf := by
        rw [hRf]
        exact hRe.si (ZR_hr (p := 0) (k := 0) (Or.inl ⟨rfl, by decide⟩))
      have q64 : ∀ j, j = 9 ∨ j = 10 → Me.1 64 j = Mc.1 64 j := fun j z => nm hC1 fE (by decide) (by
        unfold Zlz ZM Zlc
        have := (pk_lo hP hp).1
        omega)
      have q160 : ∀ j, 148 ≤ j → j ≤ 150 → Re.1 160 j = Mr.1 160 j := fun j z z' => gE.2 _ _ (by unfold ZR; omega)
      rcases x7 with ⟨y1, y2, y3, y4, y5, y6, y7, y8⟩ | ⟨y1, y2⟩
      · have z362 : runX dl 362 [va_rf (some 64), va_rf (some (hEC (gH (oP o p)) 3 c))] Mb = some (.int (iI rows), Me) := by rw [e362, y1, hQ4, jv_e]
        have n4 : ¬ iI rows = (-4 : Int32) := eqI_n (y := -4) rfl rfl (by omega)
        rcases y3 with f0 | f1
        · -- told
          obtain ⟨z1, z2, z3⟩ := y7 f0
          rw [f0] at x6 y4
          obtain ⟨Mx, hMx⟩ : ∃ X, X = sI Me 64 9 (iI (A' : Int)) := ⟨_, rfl⟩
          have Cx : CT Mx := Ce.keep (by rw [hMx]; rfl)
          obtain ⟨My, hMy⟩ : ∃ X, X = sI Mx 64 10 (iI (B' : Int)) := ⟨_, rfl⟩
          obtain ⟨Rx, hRx⟩ : ∃ X, X = sL (sL (sI Rf 160 148 1) 160 149 (iL A')) 160 150 (iL B') := ⟨_, rfl⟩
          have fMy : FG (Zlu o) Mc My := by
            rw [hMy, hMx]
            exact ((fE.m fun _ _ z => Or.inl z).sI (Or.inr ⟨rfl, Or.inl rfl⟩)).sI (Or.inr ⟨rfl, Or.inr rfl⟩)
          have gx0 : FG (fun a j => a = 160 ∧ 148 ≤ j ∧ j ≤ 150) Rf Rx := by
            rw [hRx]
            exact (((FG.r hRf'.1.2).sI ⟨rfl, by decide, by decide⟩).sL ⟨rfl, by decide, by decide⟩).sL ⟨rfl, by decide, by decide⟩
          have gRx : FG Zlv Mr Rx := ((gF.m fun _ _ z => Or.inl z).fg hR1.1.2).tr (gx0.m fun a j z => Or.inr ⟨z.1, by omega⟩)
          have hCy : hoC LL xs o My := by
            rw [hMy, hMx]
            exact (hCe.si hP (ho_64 hP (by omega))).si hP (ho_64 hP (by omega))
          have hRx2 : hoR o Rx := hRf'.fg gx0 fun a j z => by
            rw [z.1]
            exact hr_160 z.2
          have rx : ∀ a j, ¬ (a = 160 ∧ j = 148) → Rx.1 a j = Rf.1 a j := fun a j z => by
            rw [hRx]
            show (sI Rf 160 148 1).1 a j = _
            by_cases y : a = 160
            · exact sI_nej fun w => z ⟨y, w⟩
            · exact sI_ne y
          have my : ∀ a j, ¬ (a = 64 ∧ (j = 9 ∨ j = 10)) → My.1 a j = Me.1 a j := fun a j z => by
            rw [hMy, hMx]
            by_cases y : a = 64
            · exact (sI_nej (by omega)).trans (sI_nej (by omega))
            · exact (sI_ne y).trans (sI_ne y)
          refine ⟨My, Rx, iI rows, ?_, ?_, Or.inr ⟨fMy, ⟨by rw [hMy, hMx]; exact kE, fun a j z => by rw [hMy, hMx]; exact lE a j z⟩, gRx, ?_, ⟨hCy, hRx2⟩, ⟨A', B', ⟨by omega, z3⟩, ⟨?_, ?_⟩, ?_, fun _ => ⟨?_, ?_⟩⟩, ⟨hs2, t1.fz fun a j z => my a j (by omega), t2.fz fun a j z => (rx a j (by omega)).trans (nf a j (by omega)), t3⟩, (rx _ _ (by omega)).trans ((nf _ _ (by omega)).trans t5), (rx _ _ (by omega)).trans ((nf _ _ (by omega)).trans t6), (rx _ _ (by omega)).trans ((nf _ _ (by omega)).trans t7), (rx _ _ (by omega)).trans (by rw [hRf]; exact sI_eq)⟩⟩
          · rw [eC _ _ z362, hQ2, if_neg n4, gtP_q (ck_64 Ce) (cf_64_8 Ce), gtI_q (ck_143 Ce) y4, if_pos (show iI 0 = 0 from rfl), gtP_q (ck_64 Ce) (cf_64_8 Ce), gtL_q (ck_143 Ce) y5, ptI_e (ck_64 Ce), iL_i, ← hMx, gtP_q (ck_64 Cx) (cf_64_8 Cx), gtL_q (w := iL B') (ck_143 Cx) (by rw [hMx]; exact y6), ptI_e (ck_64 Cx), iL_i, ← hMy]
          · rw [eR, x6, hQ3, jv_e]
            dsimp only
            rw [ptZ_e ke (Or.inl rfl), ← hRf, gtI_q kf ((nf _ _ (by omega)).trans y2), if_pos (show iI 0 = 0 from rfl), if_pos (show iI 0 = 0 from rfl), ptZ_e kf (Or.inr rfl), ptL_e (M := sI Rf 160 148 1) kf, ptL_e (M := sL (sI Rf 160 148 1) 160 149 (iL A')) kf, ← hRx]
          · rw [hRx, hRf]
            show Re.2.2 = _
            rw [congrArg (fun z => z.2) gE.1]
          · rw [hMy, hMx]; exact (sI_nej (by decide)).trans sI_eq
          · rw [hMy]; exact sI_eq
          · rw [hRx, if_neg (by omega)]; exact (sI_eq (M := Rf) (a := 160) (j := 148) (v := 1)).trans li_1
          · rw [hRx, sL_nej (by decide)]; exact sL_eq
          · rw [hRx]; exact sL_eq
        · -- too fine
          rw [f1] at x6 y4
          refine ⟨Me, Rf, -5, ?_, ?_, Or.inr ⟨fE.m fun _ _ z => Or.inl z, ⟨kE, lE⟩, (gF.m fun _ _ z => Or.inl z).fg hR1.1.2, congrArg (fun z => z.2) gF.1, ⟨hCe, hRf'⟩, ⟨A0, B0, sh1, ⟨(q64 9 (by omega)).trans sh2, (q64 10 (by omega)).trans sh3⟩, (nf _ _ (by omega)).trans ((q160 148 (by omega) (by omega)).trans sh4), fun z => ⟨by rw [congrArg (fun z => z.1) gF.1]; exact (sh5 z).1, by rw [congrArg (fun z => z.1) gF.1]; exact (sh5 z).2⟩⟩, ⟨hs2, t1, t2.fz fun a j z => nf a j (by omega), t3⟩, (nf _ _ (by omega)).trans t5, (nf _ _ (by omega)).trans t6, (nf _ _ (by omega)).trans t7, by rw [hRf]; exact sI_eq⟩⟩
          · rw [eC _ _ z362, hQ2, if_neg n4, gtP_q (ck_64 Ce) (cf_64_8 Ce), gtI_q (ck_143 Ce) y4, if_neg (show ¬ iI 1 = 0 by decide)]
          · rw [eR, x6, hQ3, jv_e]
            dsimp only
            rw [ptZ_e ke (Or.inl rfl), ← hRf, gtI_q kf ((nf _ _ (by omega)).trans y2), if_pos (show iI 0 = 0 from rfl), if_neg (show ¬ iI 1 = 0 by decide)]
      · -- SPENT
        obtain ⟨Rg, hRg⟩ : ∃ X, X = sI Rf 160 84 0 := ⟨_, rfl⟩
        have ng : ∀ a j, ¬ (a = 160 ∧ (j = 97 ∨ j = 84)) → Rg.1 a j = Re.1 a j := fun a j z => by
          rw [hRg]
          by_cases y : a = 160
          · exact (sI_nej (by omega)).trans (nf a j (by omega))
          · exact (sI_ne y).trans (nf a j (by omega))
        have gG : Fz (ZR 0 0) Mr Rg := by
          rw [hRg]
          exact gF.si (Or.inl ⟨rfl, by decide⟩)
        refine ⟨Me, Rg, -4, ?_, ?_, Or.inr ⟨fE.m fun _ _ z => Or.inl z, ⟨kE, lE⟩, (gG.m fun _ _ z => Or.inl z).fg hR1.1.2, congrArg (fun z => z.2) gG.1, ⟨hCe, by rw [hRg]; exact hRf'.si (ZR_hr (p := 0) (k := 0) (Or.inl ⟨rfl, by decide⟩))⟩, ⟨A0, B0, sh1, ⟨(q64 9 (by omega)).trans sh2, (q64 10 (by omega)).trans sh3⟩, (ng _ _ (by omega)).trans ((q160 148 (by omega) (by omega)).trans sh4), fun z => ⟨by rw [congrArg (fun z => z.1) gG.1]; exact (sh5 z).1, by rw [congrArg (fun z => z.1) gG.1]; exact (sh5 z).2⟩⟩, ⟨hs2, t1, t2.fz fun a j z => ng a j (by omega), t3⟩, (ng _ _ (by omega)).trans t5, (ng _ _ (by omega)).trans t6, (ng _ _ (by omega)).trans t7, by rw [hRg]; exact (sI_nej (by decide)).trans (by rw [hRf]; exact sI_eq)⟩⟩
        · have z362 : runX dl 362 [va_rf (some 64), va_rf (some (hEC (gH (oP o p)) 3 c))] Mb = some (.int (-4), Me) := by
            rcases y1 with y1 | y1
            · rw [e362, y1, hQ1, jv_e]
            · rw [e362, y1, hQ1, jv_e]
          rw [eC _ _ z362, hQ2, if_pos rfl]
        · rw [eR, x6, hQ3, jv_e]
          dsimp only
          rw [ptZ_e ke (Or.inl rfl), ← hRf, gtI_q kf ((nf _ _ (by omega)).trans y2), if_neg (show ¬ iI 1 = 0 by decide), ptZ_e kf (Or.inl rfl), ← hRg]
    · rw [if_neg hc] at e169
      rw [if_neg (fun z => hc z.2)] at e256
      refine ⟨Mc, Mr, (-1 : Int32), ?_, ?_, Or.inl ⟨rfl, rfl⟩⟩
      · rw [r160]; unfold b160; rw [aR_e, aI_e, aI_e, aZ_e]; unfold c160
        rw [vC_e (ck_64 hC1.1.1), cP_e e167, cP_e e169, if_pos rfl]
      · rw [r301]; unfold b301; rw [aR_e, aI_e, aI_e, aZ_e]; unfold c301
        rw [vC_e (rk_160 hR1.1.1), cI_e e256, if_pos (show iI 0 = 0 from rfl)]
  · rw [if_neg hp] at e167
    rw [if_neg (fun z => hp z.1)] at e256
    refine ⟨Mc, Mr, (-1 : Int32), ?_, ?_, Or.inl ⟨rfl, rfl⟩⟩
    · rw [r160]; unfold b160; rw [aR_e, aI_e, aI_e, aZ_e]; unfold c160
      rw [vC_e (ck_64 hC1.1.1), cP_e e167, cP_e (zc169n (by omega)), if_pos rfl]
    · rw [r301]; unfold b301; rw [aR_e, aI_e, aI_e, aZ_e]; unfold c301
      rw [vC_e (rk_160 hR1.1.1), cI_e e256, if_pos (show iI 0 = 0 from rfl)]
/-- share() -/
theorem share_pair (hdl : 1 ≤ dl) (hd : 2 ≤ d) (hC : CT Mc) (hR : RT Mr) (h : shB Mc Mr) (hv : v = iI i) (hi : -2147483648 ≤ i ∧ i ≤ 2147483647) : ∃ r, runX dl 161 [va_rf (some 64), .int v] Mc = some (.int r, Mc) ∧ runX d 302 [va_rf (some 160), .int v] Mr = some (.int r, Mr) := by
  obtain ⟨dl, rfl⟩ : ∃ e, dl = e + 1 := ⟨dl - 1, by omega⟩
  obtain ⟨d, rfl⟩ : ∃ e, d = e + 1 := ⟨d - 1, by omega⟩
  subst hv
  obtain ⟨A, B, ⟨hA, hB⟩, ⟨h1, h2⟩, h3, h4⟩ := h
  have q1 := rr184 (d := d) (M := Mr) (v1 := iI i) (v2 := 0) (v3 := 1) (i := i) (b := 0) (c := 1) (by omega) rfl li_0 li_1 (by omega) (by omega) (by omega)
  have eC : runX (dl + 1) 161 [va_rf (some 64), .int (iI i)] Mc = c161 (runX dl) (some 64) (iI i) Mc := by
    rw [r161]; unfold b161; rw [aR_e, aI_e, aZ_e]
  have eR : runX (d + 1) 302 [va_rf (some 160), .int (iI i)] Mr = c302 (runX d) (some 160) (iI i) Mr := by
    rw [r302]; unfold b302; rw [aR_e, aI_e, aZ_e]
  rw [eC, eR]
  by_cases b0 : B = 0
  · refine ⟨-1, ?_, ?_⟩
    · unfold c161
      rw [gtI_q (ck_64 hC) h2, jn_v, if_pos (show iI (B : Int) = 0 by rw [b0]; rfl), jv_e]
    · unfold c302
      rw [gtI_q (rk_160 hR) h3, jn_v, jn_v, if_pos b0, if_pos (show iI 0 = 0 from rfl), jv_e, jv_e]
  · obtain ⟨h5, h6⟩ := h4 b0
    have nb : ¬ iI (B : Int) = 0 := eqI_n (y := 0) rfl li_0 (by omega)
    have n1 : ¬ iI 1 = (0 : Int32) := by decide
    by_cases y : 0 ≤ i ∧ i ≤ 1
    · rw [if_pos y] at q1
      by_cases i0 : i = 0
      · refine ⟨iI (A : Int), ?_, ?_⟩
        · unfold c161
          rw [gtI_q (ck_64 hC) h2, jn_v, if_neg nb, if_neg (show ¬ iI i < 0 from lsI_n (y := 0) rfl li_0 (by omega)), if_pos (show iI i ≤ (1 : Int32) from leI_p (y := 1) rfl li_1 (by omega)), jn_v, if_pos (show iI i = 0 by rw [i0]; rfl), gtI_q (ck_64 hC) h1, jv_e]
        · unfold c302
          rw [gtI_q (rk_160 hR) h3, jn_v, jn_v, if_neg b0, if_neg n1, cI_e q1, if_neg n1, jn_v, if_pos (show iI i = 0 by rw [i0]; rfl), gtL_q (rk_160 hR) h5, jv_e, jv_e, iL_i]
      · refine ⟨iI (B : Int), ?_, ?_⟩
        · unfold c161
          rw [gtI_q (ck_64 hC) h2, jn_v, if_neg nb, if_neg (show ¬ iI i < 0 from lsI_n (y := 0) rfl li_0 (by omega)), if_pos (show iI i ≤ (1 : Int32) from leI_p (y := 1) rfl li_1 (by omega)), jn_v, if_neg (show ¬ iI i = 0 from eqI_n (y := 0) rfl li_0 (by omega)), gtI_q (ck_64 hC) h2, jv_e]
        · unfold c302
          rw [gtI_q (rk_160 hR) h3, jn_v, jn_v, if_neg b0, if_neg n1, cI_e q1, if_neg n1, jn_v, if_neg (show ¬ iI i = 0 from eqI_n (y := 0) rfl li_0 (by omega)), gtL_q (rk_160 hR) h6, jv_e, jv_e, iL_i]
    · rw [if_neg y] at q1
      refine ⟨-1, ?_, ?_⟩
      · unfold c161
        rw [gtI_q (ck_64 hC) h2, jn_v, if_neg nb]
        by_cases i0 : i < 0
        · rw [if_pos (show iI i < 0 from lsI_p (y := 0) rfl li_0 (by omega)), jv_e]
        · rw [if_neg (show ¬ iI i < 0 from lsI_n (y := 0) rfl li_0 (by omega)), if_neg (show ¬ iI i ≤ (1 : Int32) from leI_n (y := 1) rfl li_1 (by omega)), jv_e]
      · unfold c302
        rw [gtI_q (rk_160 hR) h3, jn_v, jn_v, if_neg b0, if_neg n1, cI_e q1, if_pos (show iI 0 = 0 from rfl), jv_e, jv_e]
end S9e1
