/-! kill(), both: all of it -/
section S9cx
variable {d dl : Nat} {o : HO} {v : VR} {q : QN} {s s' u hs : ZS} {M M' M1 M2 Mc Mr Mc' Mr' : Mem} {LL a j x N bs n kd sw : Nat} {xs : Nat → Int32} {ow : Nat → Int} {c p i nc k t b sl al lu mc wk : Int} {w v1 v2 : Int32} {Z Z' : Nat → Nat → Prop} {Od : Int → Int} {T U : Nat → Int → Int32} {km : Int → Nat}
theorem sI_id (h : M.1 a j = w) : sI M a j w = M := by
  obtain ⟨M1, M2⟩ := M
  show (up2 M1 a j w, M2) = (M1, M2)
  congr 1
  funext b i
  by_cases y : b = a
  · subst y
    by_cases z : i = j
    · subst z
      exact (sI_eq (M := (M1, M2)) (a := b) (j := i) (v := w)).trans h.symm
    · exact sI_nej (M := (M1, M2)) (a := b) (j := j) (v := w) z
  · exact sI_ne (M := (M1, M2)) (a := a) (j := j) (v := w) y
theorem Zmk_ki (hkd : kd = gX (oP o p) + 16 ∨ kd = gX (oP o p) + 17) (h : Zmk o kd a j) : Zki o p a j := by
  unfold Zmk at h; unfold Zki
  rcases h with h | h | h
  · exact Or.inl h
  · exact Or.inr (Or.inl h)
  · omega
theorem Zmr_kq (h : Zmr a j) : Zkq p a j := by
  unfold Zmr at h; unfold Zkq
  rcases h with h | h | h | h
  · exact Or.inl h
  · exact Or.inr (Or.inl h)
  · exact Or.inr (Or.inr (Or.inl h))
  · exact Or.inr (Or.inr (Or.inr (Or.inl h)))
theorem Zki_n (h : Zki o p a j) (l : 160 ≤ a) (lo : 259 ≤ gX (oP o p)) : (a = gX (oP o p) ∧ 14 ≤ j ∧ j ≤ 17) ∨ a = gX (oP o p) + 16 ∨ a = gX (oP o p) + 17 := by
  unfold Zki at h
  rcases h with h | h
  · have := ZM_x h
    omega
  · omega
theorem kill_ok (hdl : 30 ≤ dl) (hd : 80 ≤ d) (hP : hoP o) (hp : 0 ≤ p ∧ p < oN o) (hC : HC LL xs o ow sl Mc) (hR : HR o sl Mr) (hsl : 1 ≤ sl ∧ sl ≤ 1000) (h78 : Mc.1 88 2 = Mr.1 160 78) (hdc : hdC hs Mc) (hdr : hdR hs Mr) (hD : ∀ D, 0 ≤ hs.1 17 D 0 ∧ hs.1 17 D 0 ≤ 34000) (hnc : nc = (gR (oP o p)).1 3 0 0) (hO : odK Od nc.toNat) (hOo : odO Od nc.toNat) (hor : orB o p Od Mc Mr) (hkc : klC o p wk sw km Mc) (hkr : klR o p wk km Mr) (hv : v1 = iI p) : ∃ Mc' Mr' r, runX dl 150 [va_rf (some 64), .int v1] Mc = some (.int r, Mc') ∧ runX d 283 [va_rf (some 160), .int v1] Mr = some (.int r, Mr') ∧ FG (Zki o p) Mc Mc' ∧ (Mc'.2.2.2 = Mc.2.2.2 ∧ Mc'.2.1 = Mc.2.1) ∧ Fz (Zkq p) Mr Mr' ∧ (hoC LL xs o Mc' ∧ hoR o Mr') ∧ (∃ hs2, hdC hs2 Mc' ∧ hdR hs2 Mr' ∧ ∀ D, 0 ≤ hs2.1 17 D 0 ∧ hs2.1 17 D 0 ≤ 34000) ∧ (Mr'.1 160 90 = iI (-1) ∧ Mr'.1 160 91 = iI 0 ∧ Mr'.1 160 92 = iI 0 ∧ Mr'.1 160 97 = iI 0) ∧ ∃ wk' sw' km', klC o p wk' sw' km' Mc' ∧ klR o p wk' km' Mr' := by
  obtain ⟨dl, rfl⟩ : ∃ e, dl = e + 1 := ⟨dl - 1, by omega⟩
  obtain ⟨d, rfl⟩ : ∃ e, d = e + 1 := ⟨d - 1, by omega⟩
  subst hv
  have lo := pk_lo hP hp
  have p8 := hP.1
  have nE := (hP.2.2.1 p hp.1 hp.2).1.n2
  have mb := mcn_b (gG (oP o p)) (gE (oP o p)).toNat
  have emc : gmc (oP o p) = mcn (gG (oP o p)) (gE (oP o p)).toNat := rfl
  have e167 := zc167 (d := dl) (M := Mc) (v := iI p) (p := p) (by omega) hC.1.1.1 hC.2.1 hC.1.ob rfl (by omega)
  rw [if_pos hp] at e167
  have e255 := zr255 (d := d) (M := Mr) (v := iI p) (p := p) (by omega) hR.1.1.1 hR.2.1 (by omega) rfl (by omega)
  rw [if_pos hp] at e255
  obtain ⟨R1, hR1⟩ : ∃ X, X = sI (sI Mr 160 83 (iI 40000)) 160 84 0 := ⟨_, rfl⟩
  obtain ⟨Ma, a1, a2, a3, KA⟩ := prep_KI (dl := dl) (b := 40000) (w := 40000) (by omega) hP hp hC hR h78 hdc hdr hD (by decide) li_40000 hR1
  have hR1f : Fz (Zkq p) Mr R1 := by
    rw [hR1]
    exact ((Fz.r).si (Or.inl (Or.inl ⟨rfl, by decide⟩))).si (Or.inl (Or.inl ⟨rfl, by decide⟩))
  obtain ⟨⟨kc1, kc2, kc3, kc4, kc5⟩, kc6⟩ := hkc
  obtain ⟨kd, hkd⟩ : ∃ kd, kd = gX (oP o p) + 17 - sw := ⟨_, rfl⟩
  have hkd2 : kd = gX (oP o p) + 16 ∨ kd = gX (oP o p) + 17 := by omega
  rw [← hkd] at kc5
  have lx : gX (oP o p) < ln Mc := ln_lt (hC.1.ob p hp.1 hp.2)
  obtain ⟨⟨⟨o1, o2, o3⟩, o4, -, o9, o10, o11, o12⟩, -, ⟨k1, k2, k3⟩, -⟩ := KA.1.1.2.1 p hp.1 hp.2
  have enc : (((gR (oP o p)).1 3 0 0).toNat : Int) = nc := by omega
  have m88 : Ma.1 88 3 = iI (-2) := by
    obtain ⟨Ma', b1, -, -, -, -, -, b7, -⟩ := zc19 (d := dl) (M := Mc) (x := gX (oP o p)) (v := 40000) (by omega) hC.1.1.2.2 hC.1.1.1 (hC.1.ob p hp.1 hp.2)
    rw [a1] at b1
    cases b1
    exact b7
  have eid : sI Ma 88 3 (iI (if (-1 : Int) < 0 then -2 else -1)) = Ma := by
    rw [if_pos (by decide)]
    exact sI_id m88
  have horA : orB o p Od Ma R1 := fun i a b => by
    obtain ⟨z1, z2⟩ := hor i a b
    refine ⟨(a2.i (ln_lt (hC.1.2.1 p hp.1 hp.2).2.2.1.1) (by unfold Zpr; omega)).trans z1, ?_⟩
    rw [hR1]
    exact (sI_ne (by decide)).trans ((sI_ne (by decide)).trans z2)
  obtain ⟨M9, R5, wh, x1, x2, x3, x4, x5, x6⟩ := kill_run (dl := dl) (d := d) (al := -1) (bs := 150) (T := fun _ _ => 0) (Mc := Ma) (Mr := R1) (Mc' := Ma) (w := iI p) (v1 := ((-1 : Int32))) (by omega) (by omega) hP hp hsl hnc hO hOo KA (Or.inl rfl) (Or.inl ⟨rfl, by decide⟩) horA (fun z => absurd z (by decide)) eid.symm rfl rfl
  have f09 : FG (Zki o p) Mc M9 := by
    refine (a2.m fun a j z => Or.inl (Zpr_M z)).tr ((x3.m fun a j z => ?_).fg KA.1.1.1.2.2)
    rcases z with z | z
    · exact Or.inl z
    · exact Or.inr (Or.inl (by omega))
  have g05 : Fz (Zkq p) Mr R5 := hR1f.tr (x4.m fun a j z => by
    rcases z with z | z
    · exact Or.inl z
    · exact Zmr_kq (Or.inr (Or.inr z.2)))
  have p9 : M9.2.2.1 (gX (oP o p)) 15 = some kd := by
    rw [congrArg (fun z => z.2.1) x3.1]
    exact (a2.pt lx (by unfold Zpr; omega)).trans kc5
  have k9 : M9.2.2.2 = Mc.2.2.2 := (congrArg (fun z => z.2.2) x3.1).trans a3.1
  have l9 : M9.2.1 = Mc.2.1 := (congrArg (fun z => z.1) x3.1).trans a3.2
  -- both loops
  obtain ⟨J, hJ⟩ : ∃ J : Mem → XA, J = jv fun (s10 : Mem) => gtP (12, 19) s10 (some 64) 2 fun x11 => vC (4, 22) s10 x11 <| cI (runX dl 22 [va_rf x11] s10) fun x13 M12 => if x13 = 0 then ( vC (6, 18) M12 (some (gX (oP o p))) <| cI (runX dl 56 [va_rf (some (gX (oP o p)))] M12) fun x15 M14 => some (.int x15, M14)) else ( some (.int ((-4 : Int32)), M12)) := ⟨_, rfl⟩
  obtain ⟨J', hJ'⟩ : ∃ J' : Mem → XA, J' = jv fun (s7 : Mem) => gtI (13, 157) s7 (some 160) 84 fun x8 => if x8 = 0 then ( jn (fun (s9 : Int32 × Mem) => gtP (13, 157) s9.2 (some 160) 123 fun x10 => asI 102 s9.2 x10 (iI p) ((znar ((1 : Int32)))) fun M11 => gtP (13, 157) M11 (some 160) 126 fun x12 => vC (13, 157) M11 (some 160) <| cI (runX d 284 [va_rf (some 160), .int (iI p)] M11) fun x14 M13 => asI 100 M13 x12 (iI p) x14 fun M15 => some (.int s9.1, M15)) fun j151 => lp (c283_96 (runX d) (some 160) (iI p) j151) 4294967296 ((0 : Int32), (0 : Int32), s7)) else ( ptZ (13, 157) s7 (some 160) 84 ((0 : Int32)) fun M28 => some (.int ((-4 : Int32)), M28)) := ⟨_, rfl⟩
  have ecl : runX (dl + 1) 150 [va_rf (some 64), .int (iI p)] Mc = lp (c150_45 (runX dl) (some 64) J (some (gX (oP o p)))) 4294967296 (iI 0, M9) := by
    rw [r150]; unfold b150; rw [aR_e, aI_e, aZ_e]; unfold c150
    rw [vC_e (ck_64 hC.1.1.1), cP_e e167, if_neg (show ¬ some (gX (oP o p)) = none by simp), gtP_q (ck_64 hC.1.1.1) (cf_64_2 hC.1.1.1), vC_e (ck_88 hC.1.1.1), cV_e a1, gtP_q o1 o10, gtP_q o1 o10, aln_q' k1, gtP_q (ck_64 KA.1.1.1.1) (cf_64_17 KA.1.1.1.1), vC_e (ck_64 KA.1.1.1.1), enc, cV_e x1, jn_v, ← hJ, li_0]
  have erf : runX (d + 1) 283 [va_rf (some 160), .int (iI p)] Mr = lp (c283_31 (runX d) (some 160) (iI p) J') 4294967296 (wh, iI 0, R5) := by
    have kr := rk_160 hR.1.1.1
    rw [r283]; unfold b283; rw [aR_e, aI_e, aZ_e]; unfold c283
    rw [vC_e kr, cI_e e255, if_neg (show ¬ iI 1 = 0 by decide), ptI_q (z := 40000) kr li_40000, ptZ_e (M := sI Mr 160 83 (iI 40000)) kr (Or.inl rfl), ← hR1, vC_e (rk_160 KA.1.2.1.1), cI_e x2, jn_v, ← hJ', li_0]
  rw [ecl, erf]
  have e192 : R5.1 192 p.toNat = iI (gmc (oP o p)) := by
    rcases x6 with ⟨b', hs2, U, y, -⟩ | ⟨y, -⟩
    · exact (y.1.2.2.1 p hp.1 hp.2).2.1.2
    · exact (y.1.2.2.1 p hp.1 hp.2).2.1.2
  -- SPENT
  have spent : ∀ (Mh Rh : Mem), FG (Zki o p) Mc Mh → (Mh.2.2.2 = Mc.2.2.2 ∧ Mh.2.1 = Mc.2.1) → Fz (Zkq p) Mr Rh → (∀ j, Mh.1 (gX (oP o p)) j = Mc.1 (gX (oP o p)) j) → (∀ j, Mh.1 (gX (oP o p) + 16 + sw) j = Mc.1 (gX (oP o p) + 16 + sw) j) → Mh.2.2.1 (gX (oP o p)) 14 = Mc.2.2.1 (gX (oP o p)) 14 → Mh.2.2.1 (gX (oP o p)) 15 = some kd → (∀ a j, (a = 238 ∨ a = 239 ∨ a = 241) → Rh.1 a j = Mr.1 a j) → Rh.1 160 90 = iI (-1) → KS LL xs o p sl 0 Mh Rh → ∃ Mc' Mr' r, J Mh = some (.int r, Mc') ∧ J' Rh = some (.int r, Mr') ∧ FG (Zki o p) Mc Mc' ∧ (Mc'.2.2.2 = Mc.2.2.2 ∧ Mc'.2.1 = Mc.2.1) ∧ Fz (Zkq p) Mr Mr' ∧ (hoC LL xs o Mc' ∧ hoR o Mr') ∧ (∃ hs2, hdC hs2 Mc' ∧ hdR hs2 Mr' ∧ ∀ D, 0 ≤ hs2.1 17 D 0 ∧ hs2.1 17 D 0 ≤ 34000) ∧ (Mr'.1 160 90 = iI (-1) ∧ Mr'.1 160 91 = iI 0 ∧ Mr'.1 160 92 = iI 0 ∧ Mr'.1 160 97 = iI 0) ∧ ∃ wk' sw' km', klC o p wk' sw' km' Mc' ∧ klR o p wk' km' Mr' := fun Mh Rh y1 y2 y3 z1 z2 z3 z4 z5 z6 ks => by
    obtain ⟨⟨s1, s2⟩, ⟨s3, s4, s5, s6⟩, s7, ⟨s8, s9⟩, hs2, t1, t2, t3⟩ := ks
    have z22 := zc22 (d := dl) (by omega) s1.1.1 s8 (by decide)
    rw [if_pos (by decide)] at z22
    have k160 := rk_160 s2.1.1
    refine ⟨Mh, sI Rh 160 84 0, (-4 : Int32), ?_, ?_, y1, y2, y3.si (Or.inl (Or.inl ⟨rfl, by decide⟩)), ⟨s1, s2.si (ZR_hr (p := 0) (k := 0) (Or.inl ⟨rfl, by decide⟩))⟩, ⟨hs2, t1, t2.fz fun a j z => sI_ne (by omega), t3⟩, ⟨(sI_nej (by decide)).trans z6, (sI_nej (by decide)).trans s4, (sI_nej (by decide)).trans s5, (sI_nej (by decide)).trans s6⟩, wk, sw, km, ⟨⟨(z1 _).trans kc1, kc2, kc3, z3.trans kc4, by rw [z4, hkd]⟩, fun w => ⟨fun j a b => ⟨(z2 _).trans ((kc6 w).1 j a b).1, ((kc6 w).1 j a b).2⟩, ?_⟩⟩, ⟨(sI_ne (by decide)).trans ((z5 _ _ (by decide)).trans hkr.1), fun w => ⟨fun j a b => ⟨(sI_ne (by decide)).trans ((z5 _ _ (by decide)).trans ((hkr.2 w).1 j a b).1), ((hkr.2 w).1 j a b).2⟩, ?_⟩⟩⟩
    · rw [hJ, jv_e, gtP_q (ck_64 s1.1.1) (cf_64_2 s1.1.1), vC_e (ck_88 s1.1.1), cI_e z22, if_neg (show ¬ iI 1 = 0 by decide)]
    · rw [hJ', jv_e, gtI_q k160 s9, if_neg (show ¬ iI 1 = 0 by decide), ptZ_e k160 (Or.inl rfl)]
    · rw [z1 17]; exact (kc6 w).2
    · obtain ⟨m, m1, m2⟩ := (hkr.2 w).2
      exact ⟨m, (sI_ne (by decide)).trans ((z5 _ _ (by decide)).trans m1), m2⟩
  -- what stays of the parcel
  have nX : ∀ a j, (a = gX (oP o p) ∨ a = gX (oP o p) + 16 + sw) → M9.1 a j = Mc.1 a j := fun a j z => (x3.2 _ _ fun y => by
    rcases y with y | y
    · have := ZM_x y
      omega
    · omega).trans (a2.i (by
      rcases z with z | z
      · rw [z]; exact lx
      · have := ln_lt (hC.1.2.1 p hp.1 hp.2).2.2.1.2.2
        omega) (by unfold Zpr; omega))
  have n9r : ∀ a j, (a = 238 ∨ a = 239 ∨ a = 241) → R5.1 a j = Mr.1 a j := fun a j z => (x4.2 _ _ fun y => by
    rcases y with y | y
    · unfold ZR at y; omega
    · omega).trans (by rw [hR1]; exact (sI_ne (by omega)).trans (sI_ne (by omega)))
  have p914 : M9.2.2.1 (gX (oP o p)) 14 = Mc.2.2.1 (gX (oP o p)) 14 := by
    rw [congrArg (fun z => z.2.1) x3.1]
    exact a2.pt lx (by unfold Zpr; omega)
  have o9' : M9.2.2.2[gX (oP o p)]? = some (6, 18) ∧ M9.2.2.1 (gX (oP o p)) 9 = some (gX (oP o p) + 5) ∧ M9.2.2.2[gX (oP o p) + 5]? = some (100, (gmc (oP o p)).toNat) := by
    have hh : hoC LL xs o M9 := by
      rcases x6 with ⟨b', hs2, U, y, -⟩ | ⟨y, -⟩
      · exact y.1.1
      · exact y.1.1
    obtain ⟨⟨⟨q1, -⟩, -, -, q9, -⟩, ⟨-, -, -, q4, -⟩, -⟩ := hh.2.1 p hp.1 hp.2
    exact ⟨q1, q9, q4.1⟩
  rcases x6 with ⟨b', hs2, T, y1, y2, -, y4⟩ | ⟨y1, y2⟩
  · have horB : orB o p Od M9 R5 := fun i a b => by
      obtain ⟨z1, z2⟩ := horA i a b
      refine ⟨(x3.2 _ _ fun y => ?_).trans z1, (x4.2 _ _ fun y => ?_).trans z2⟩
      · rcases y with y | y
        · have := ZM_x y
          omega
        · omega
      · rcases y with y | y
        · unfold ZR at y; omega
        · omega
    obtain ⟨Mh, Rh, z1, z2, z3, z4, z5, z6⟩ := kill_all (dl := dl) (d := d) (J := J) (J' := J') (T := T) (kd := kd) (by omega) (by omega) hP hp hsl hnc hO hOo (rfl : gmc (oP o p) = gmc (oP o p)) hkd2 (gmc (oP o p)).toNat 0 b' hs2 M9 R5 4294967296 4294967296 wh (fun _ => 0) (by omega) (by omega) (by omega) (by omega) y1 horB (fun c a b => ⟨(y2 c a b).1, (y2 c a b).2 (by decide)⟩) p9 (fun j a b => by omega) ⟨0, (y4 (by decide)).trans li_0, by decide⟩
    rw [z1, z2]
    have f0h : FG (Zki o p) Mc Mh := f09.tr ((z3.m fun a j z => Zmk_ki hkd2 z).fg y1.1.1.1.2.2)
    have kh : Mh.2.2.2 = Mc.2.2.2 ∧ Mh.2.1 = Mc.2.1 := ⟨(congrArg (fun z => z.2.2) z3.1).trans k9, (congrArg (fun z => z.1) z3.1).trans l9⟩
    have g0h : Fz (Zkq p) Mr Rh := g05.tr (z4.m fun a j z => Zmr_kq z)
    have ph : Mh.2.2.1 = M9.2.2.1 := congrArg (fun z => z.2.1) z3.1
    have nh : ∀ a j, (a = gX (oP o p) ∨ a = gX (oP o p) + 16 + sw) → Mh.1 a j = Mc.1 a j := fun a j z => (z3.2 _ _ fun y => by
      unfold Zmk at y
      rcases y with y | y | y
      · have := ZM_x y
        omega
      · omega
      · omega).trans (nX a j z)
    have nhr : ∀ a j, (a = 238 ∨ a = 239 ∨ a = 241) → Rh.1 a j = Mr.1 a j := fun a j z => (z4.2 _ _ fun y => by
      unfold Zmr at y
      rcases y with y | y
      · unfold ZR at y; omega
      · omega).trans (n9r a j z)
    have e90 := z5 x5
    rcases z6 with ⟨b2, hs3, km', w1, w2⟩ | w1
    · -- all are done
      have pN : 2 ^ nc.toNat ≤ 2 ^ 16 := Nat.pow_le_pow_right (by decide) (show nc.toNat ≤ 16 by omega)
      have s8 := w1.2.2.2.2.1.1
      have bb := w1.2.2.2.2.1.2.2.2
      have z22 := zc22 (d := dl) (by omega) w1.1.1.1.1 s8 (by omega)
      rw [if_neg (by omega)] at z22
      obtain ⟨⟨⟨o1', -⟩, -⟩, -, ⟨-, k2', k3'⟩, -⟩ := w1.1.1.2.1 p hp.1 hp.2
      obtain ⟨ka, hka⟩ : ∃ ka, ka = gX (oP o p) + 16 + sw := ⟨_, rfl⟩
      obtain ⟨Mf, hMf⟩ : ∃ X, X = sI (sI (sP (sP Mh (gX (oP o p)) 14 (some kd)) (gX (oP o p)) 15 (some ka)) (gX (oP o p)) 16 1) (gX (oP o p)) 17 (-2) := ⟨_, rfl⟩
      have kdk : Mh.2.2.2[kd]? = some (100, (gmc (oP o p)).toNat) := by
        rcases hkd2 with z | z <;> rw [z]
        · exact k2'
        · exact k3'
      have e56 := zc56 (d := dl) (M := Mh) (M' := Mf) (x := gX (oP o p)) (n := (gmc (oP o p)).toNat) (ka := ka) (kb := kd) (km := km') (by omega) ⟨o1', by rw [ph, p914, hka]; exact kc4, by rw [ph]; exact p9⟩ ⟨kdk, by omega, by omega⟩ (fun j a b => ⟨(w2 j a (by omega)).1, by have := (w2 j a (by omega)).2.2; omega⟩) hMf
      have hRh := w1.1.2.1.1
      have t192 : Rh.1 192 p.toNat = iI (((gmc (oP o p)).toNat : Nat) : Int) := ((w1.1.2.2.1 p hp.1 hp.2).2.1.2).trans (congrArg iI (by omega))
      obtain ⟨Rk, r1, r2, r3, r4⟩ := zr283_96 (d := d) (M := Rh) (p := p) (n := (gmc (oP o p)).toNat) (km := km') (v1 := iI p) (J := jv fun (s9 : Int32 × Mem) => gtP (13, 157) s9.2 (some 160) 123 fun x10 => asI 102 s9.2 x10 (iI p) ((znar ((1 : Int32)))) fun M11 => gtP (13, 157) M11 (some 160) 126 fun x12 => vC (13, 157) M11 (some 160) <| cI (runX d 284 [va_rf (some 160), .int (iI p)] M11) fun x14 M13 => asI 100 M13 x12 (iI p) x14 fun M15 => some (.int s9.1, M15)) hRh (by omega) t192 (by omega) (fun j a b => ⟨(w2 j a (by omega)).2.1, by have := (w2 j a (by omega)).2.2; omega⟩) rfl
      obtain ⟨Rl, hRl⟩ : ∃ X, X = sI Rk 238 p.toNat (znar 1) := ⟨_, rfl⟩
      have RTk : RT Rk := hRh.keep r2
      have RTl : RT Rl := RTk.keep (by rw [hRl]; rfl)
      have nl : ∀ a j, ¬ (a = 238 ∧ j = p.toNat) → Rl.1 a j = Rk.1 a j := fun a j z => by
        rw [hRl]
        by_cases y : a = 238
        · exact sI_nej fun w => z ⟨y, w⟩
        · exact sI_ne y
      have kir : kiR p (gmc (oP o p)).toNat nc.toNat km' Rl := ⟨⟨RTl, by omega, (nl _ _ (by omega)).trans ((r3 _ _ (by omega)).trans t192), (nl _ _ (by omega)).trans ((r3 _ _ (by omega)).trans ((hoR.ncs w1.1.2 hp).trans (congrArg iI (by omega)))), by omega, by omega⟩, fun j a b => ⟨(nl _ _ (by omega)).trans (r4 j a b), (w2 j a (by omega)).2.2⟩⟩
      obtain ⟨ml, l1, l2⟩ := zr284 (d := d) (v1 := iI p) (by omega) kir rfl
      obtain ⟨Rm, hRm⟩ : ∃ X, X = sI Rl 241 p.toNat (iI (ml : Int)) := ⟨_, rfl⟩
      have nm' : ∀ a j, ¬ ((a = 238 ∨ a = 241) ∧ j = p.toNat) → ¬ (a = 239 ∧ 1000 * p ≤ (j : Int) ∧ (j : Int) < 1000 * p + 1000) → Rm.1 a j = Rh.1 a j := fun a j z z' => by
        refine Eq.trans ?_ ((nl a j (by omega)).trans (r3 a j (by omega)))
        rw [hRm]
        by_cases y : a = 241
        · exact sI_nej fun w => z ⟨Or.inr y, w⟩
        · exact sI_ne y
      have fm : Fz (Zkq p) Rh Rm := ⟨by rw [hRm, hRl]; exact r2, fun a j z => nm' a j (fun y => z (Or.inr (Or.inr (Or.inr (Or.inr (Or.inl y)))))) fun y => z (Or.inr (Or.inr (Or.inr (Or.inr (Or.inr y)))))⟩
      have hRm' : hoR o Rm := w1.1.2.fg (Z := fun a j => ((a = 238 ∨ a = 241) ∧ j = p.toNat) ∨ (a = 239 ∧ 1000 * p ≤ (j : Int) ∧ (j : Int) < 1000 * p + 1000)) (FG.of2 w1.1.2.1.2 fm.1 fun a j z => nm' a j (fun y => z (Or.inl y)) fun y => z (Or.inr y)) fun a j z => ⟨fun y => by omega, by omega, by omega, by omega⟩
      have fMf : FG (fun a j => a = gX (oP o p) ∧ 14 ≤ j ∧ j ≤ 17) Mh Mf := by
        rw [hMf]
        exact ((((FG.r w1.1.1.1.2.2).sP ⟨rfl, by decide, by decide⟩).sP ⟨rfl, by decide, by decide⟩).sI ⟨rfl, by decide, by decide⟩).sI ⟨rfl, by decide, by decide⟩
      have hMf' : hoC LL xs o Mf := w1.1.1.fg hP fMf fun a j z => by
        rw [z.1]
        exact own_ho hP hp (by omega) (by unfold pkZ; omega)
      refine ⟨Mf, Rm, iI (psum (fun j => if km' j = 0 then 0 else 1) (gmc (oP o p)).toNat), ?_, ?_, f0h.tr (fMf.m fun a j z => Or.inr (Or.inr (Or.inl z))), by rw [hMf]; exact kh, g0h.tr fm, ⟨hMf', hRm'⟩, ⟨hs3, w1.2.2.2.2.2.1.fz fun a j z => by
        rw [hMf]
        exact (sI_ne (by omega)).trans (sI_ne (by omega)), w1.2.2.2.2.2.2.1.fz fun a j z => nm' a j (by omega) (by omega), w1.2.2.2.2.2.2.2⟩, ⟨(nm' _ _ (by omega) (by omega)).trans e90, (nm' _ _ (by omega) (by omega)).trans w1.2.2.1.2.1, (nm' _ _ (by omega) (by omega)).trans w1.2.2.1.2.2.1, (nm' _ _ (by omega) (by omega)).trans w1.2.2.1.2.2.2⟩, 1, 1 - sw, km', ⟨⟨?_, Or.inr rfl, by omega, ?_, ?_⟩, fun _ => ⟨fun j a b => ⟨?_, ?_⟩, Or.inl ?_⟩⟩, ⟨?_, fun _ => ⟨fun j a b => ⟨?_, ?_⟩, ml, ?_, ?_⟩⟩⟩
      · rw [hJ, jv_e, gtP_q (ck_64 w1.1.1.1.1) (cf_64_2 w1.1.1.1.1), vC_e (ck_88 w1.1.1.1.1), cI_e z22, if_pos (show iI 0 = 0 from rfl), vC_e o1', cI_e e56]
      · rw [hJ', jv_e, gtI_q (rk_160 hRh) w1.2.2.2.2.1.2.2.1, if_pos (show iI 0 = 0 from rfl), jn_v, r1, jv_e, gtP_q (rk_160 RTk) (rf_123 RTk), asI_e (rk_238 RTk) (by omega) (by omega) (by omega), ← hRl, gtP_q (rk_160 RTl) (rf_126 RTl), vC_e (rk_160 RTl), cI_e l2, asI_e (rk_241 RTl) (by omega) (by omega) (by omega), ← hRm]
      · rw [hMf]; exact (sI_nej (by decide)).trans sI_eq
      · rw [hMf]
        show (sP (sP Mh (gX (oP o p)) 14 (some kd)) (gX (oP o p)) 15 (some ka)).2.2.1 (gX (oP o p)) 14 = _
        rw [sP_nej (by decide), sP_eq]
        congr 1; omega
      · rw [hMf]
        show (sP (sP Mh (gX (oP o p)) 14 (some kd)) (gX (oP o p)) 15 (some ka)).2.2.1 (gX (oP o p)) 15 = _
        rw [sP_eq]
        congr 1; omega
      · rw [show gX (oP o p) + 16 + (1 - sw) = kd by omega, hMf]
        exact (sI_ne (by omega)).trans ((sI_ne (by omega)).trans (w2 j a b).1)
      · rw [← hnc]; exact (w2 j a b).2.2
      · rw [hMf]; exact sI_eq
      · rw [hRm]; exact (sI_ne (by decide)).trans (by rw [hRl]; exact sI_eq)
      · rw [hRm]; exact (sI_ne (by decide)).trans ((nl _ _ (by omega)).trans (r4 j a (by omega)))
      · rw [← hnc]; exact (w2 j a b).2.2
      · rw [hRm]; exact sI_eq
      · rw [← hnc]; exact l1
    · exact spent Mh Rh f0h kh g0h (fun j => nh _ _ (Or.inl rfl)) (fun j => nh _ _ (Or.inr rfl)) (by rw [ph]; exact p914) (by rw [ph]; exact p9) nhr e90 w1
  · have b9 := y1.2.2.2.1
    rw [c150_x (by omega) y1.1.1.1.1 o9' (Or.inr b9.1) (by omega) (by omega), c283_x y1.1.2.1.1 (by omega) e192 (Or.inr y2) (by omega) (by omega) rfl]
    exact spent M9 R5 f09 ⟨k9, l9⟩ g05 (fun j => nX _ _ (Or.inl rfl)) (fun j => nX _ _ (Or.inr rfl)) p914 p9 n9r x5 y1
end S9cx
