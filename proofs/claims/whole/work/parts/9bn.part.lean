/-! both machines: a test is done and judged -/
/-- what a judge says of a code that was done -/
def zJu (ra : Int) (u : ZS) (V : Int) (Fa Wh : Int32) : Prop := ((ra = 0 ∧ u.1 1 0 0 = 2 ∨ ra ≠ 0 ∧ u.1 1 0 0 ≠ 2 ∧ u.2 5 0 0 = iI ra) ∧ V = 1 ∧ Fa = 0 ∧ Wh = -2) ∨ (¬ (ra = 0 ∧ u.1 1 0 0 = 2 ∨ ra ≠ 0 ∧ u.1 1 0 0 ≠ 2 ∧ u.2 5 0 0 = iI ra) ∧ V = 2 ∧ ((u.1 1 0 0 = 2 ∧ Fa = 4 ∧ Wh = -2) ∨ (u.1 1 0 0 ≠ 2 ∧ Fa = u.2 5 0 0 ∧ Wh = iI (u.1 13 0 0))))
section S9bn
variable {d dl : Nat} {e s s' t u : ZS} {κ : ZK} {M M' M1 M2 Mc Mr Mc' Mr' : Mem} {a b j N x y LL cp : Nat} {xs : Nat → Int32} {v v1 v2 v3 w : Int32} {c k i n m p o q id par en B D r rc rr V sd : Int} {R : Int → RG} {G : RG} {L : Int → Int} {Y : Nat → Int → Int} {K : Nat → Int} {F : Nat → Int → Int} {Fa Wh : Int32}
/-- what a judge says -/
def zJ1 (ra sd : Int) (Fa : Int32) : Prop := (ra = 0 ∧ sd = 1) ∨ (ra ≠ 0 ∧ sd = 0 ∧ Fa = iI ra)
theorem zc26 (hd : 2 ≤ d) (hC : CT M) (hk : M.2.2.2[cp]? = some (8, 9)) (h6 : M.1 cp 6 = iI (K 4)) (hr : 0 ≤ K 4 ∧ K 4 ≤ 999999999) (hs : sd = 0 ∨ sd = 1) (hv : v = iI sd) : ∃ M' V F W, runX d 26 [va_rf (some 88), va_rf (some cp), .int v] M = some (.null, M') ∧ M' = sI (sI (sI M 89 0 (iI V)) 89 1 F) 89 2 W ∧ ((zJ1 (K 4) sd (M.1 88 20) ∧ V = 1 ∧ F = 0 ∧ W = -2) ∨ (¬ zJ1 (K 4) sd (M.1 88 20) ∧ ((sd = 1 ∧ V = 2 ∧ F = 4 ∧ W = -2) ∨ (sd = 0 ∧ V = 2 ∧ F = M.1 88 20 ∧ W = M.1 88 21)))) := by
  obtain ⟨d, rfl⟩ : ∃ e, d = e + 1 := ⟨d - 1, by omega⟩
  subst hv
  have k := ck_88 hC
  have t : ∀ v1 v2 v3, (gtP (4, 22) M (some 88) 0 fun x4 => vC (5, 5) M x4 <| cV (runX d 48 [va_rf x4, .int v1, .int v2, .int v3] M) fun M7 => (jv fun (s3 : Mem) => some (.null, s3)) M7 : XA) = some (.null, sI (sI (sI M 89 0 v1) 89 1 v2) 89 2 v3) := fun v1 v2 v3 => by
    obtain ⟨M2, x1, x2⟩ := zc48 (d := d) (M := M) (v1 := v1) (v2 := v2) (v3 := v3) (by omega) hC
    rw [gtP_q k (cf_88_0 hC), vC_e (ck_89 hC), cV_e x1, jv_e, x2]
  have due : zJ1 (K 4) sd (M.1 88 20) → ∃ M' V F W, (some (.null, sI (sI (sI M 89 0 1) 89 1 0) 89 2 (-2)) : XA) = some (.null, M') ∧ M' = sI (sI (sI M 89 0 (iI V)) 89 1 F) 89 2 W ∧ ((zJ1 (K 4) sd (M.1 88 20) ∧ V = 1 ∧ F = 0 ∧ W = -2) ∨ (¬ zJ1 (K 4) sd (M.1 88 20) ∧ ((sd = 1 ∧ V = 2 ∧ F = 4 ∧ W = -2) ∨ (sd = 0 ∧ V = 2 ∧ F = M.1 88 20 ∧ W = M.1 88 21)))) := fun z => ⟨_, 1, 0, -2, rfl, by rw [← li_1], Or.inl ⟨z, rfl, rfl, rfl⟩⟩
  rw [r26]; unfold b26; rw [aR_e, aR_e, aI_e, aZ_e]; unfold c26
  rw [gtI_q hk h6, jn_v, jn_v]
  by_cases y : K 4 = 0
  · rw [if_pos (show iI (K 4) = 0 from eqI_p rfl li_0 y), jv_e, jn_v]
    rcases hs with hs | hs
    · subst hs
      rw [if_pos (show iI 0 = 0 from rfl), if_pos (show iI 0 = 0 from rfl), gtP_q k (cf_88_0 hC), gtI_q k rfl, gtI_q k rfl]
      refine ⟨_, 2, M.1 88 20, M.1 88 21, ?_, by rw [← li_2], Or.inr ⟨fun z => ?_, Or.inr ⟨rfl, rfl, rfl, rfl⟩⟩⟩
      · have := t 2 (M.1 88 20) (M.1 88 21)
        rw [gtP_q k (cf_88_0 hC)] at this
        exact this
      · rcases z with z | z <;> omega
    · subst hs
      rw [if_neg (show ¬ iI 1 = 0 by decide)]
      rw [t]
      exact due (Or.inl ⟨y, rfl⟩)
  · rw [if_neg (show ¬ iI (K 4) = 0 from eqI_n rfl li_0 (by omega))]
    rcases hs with hs | hs
    · subst hs
      rw [if_pos (show iI 0 = 0 from rfl), gtI_q k rfl, gtI_q hk h6]
      by_cases y2 : M.1 88 20 = iI (K 4)
      · rw [if_pos y2, jv_e, jn_v, if_neg (show ¬ (1 : Int32) = 0 by decide), t]
        exact due (Or.inr ⟨y, rfl, y2⟩)
      · rw [if_neg y2, jv_e, jv_e, jn_v, if_pos (show (0 : Int32) = 0 from rfl), if_pos (show iI 0 = 0 from rfl), gtP_q k (cf_88_0 hC), gtI_q k rfl, gtI_q k rfl]
        refine ⟨_, 2, M.1 88 20, M.1 88 21, ?_, by rw [← li_2], Or.inr ⟨fun z => ?_, Or.inr ⟨rfl, rfl, rfl, rfl⟩⟩⟩
        · have := t 2 (M.1 88 20) (M.1 88 21)
          rw [gtP_q k (cf_88_0 hC)] at this
          exact this
        · rcases z with z | z
          · omega
          · exact y2 z.2.2
    · subst hs
      rw [if_neg (show ¬ iI 1 = 0 by decide), jv_e, jv_e, jn_v, if_pos (show (0 : Int32) = 0 from rfl), if_neg (show ¬ iI 1 = 0 by decide), t]
      refine ⟨_, 2, 4, -2, rfl, by rw [← li_2], Or.inr ⟨fun z => ?_, Or.inl ⟨rfl, rfl, rfl, rfl⟩⟩⟩
      rcases z with z | z <;> omega
/-- a test, both -/
theorem test_both {J J' : Mem → XA} {P : Int} (hdl : 11 ≤ dl) (hd : 62 ≤ d) (hV : zEv e) (hb : zKb e K F) (hP : P = e.1 29 0 0) (hp : zPr LL xs e κ R L s Mc Mr) (hc : zKc κ cp K F Mc) (hr : zKr e K F Mr) (e85 : Mr.1 160 85 = iI 0) (e101 : Mr.1 160 101 = iI 1 ∧ Mr.1 160 102 = 0 ∧ Mr.1 160 103 = -2) : ∃ Mc' Mr', (gtP (4, 22) Mc (some 88) 11 fun x43 => gtI (8, 9) Mc (some cp) 4 fun x44 => asI 100 Mc x43 ((0 : Int32)) x44 fun M45 => gtI (8, 9) M45 (some cp) 5 fun x46 => vC (4, 22) M45 (some 88) <| cI (runX dl 28 [va_rf (some 88), .int x46] M45) fun x48 M47 => vC (4, 22) M47 (some 88) <| cV (runX dl 26 [va_rf (some 88), va_rf (some cp), .int x48] M47) fun M49 => J M49 : XA) = J Mc' ∧ (ptI (13, 157) Mr (some 160) 73 ((0 : Int32)) fun M31 => gtP (13, 157) M31 (some 160) 20 fun x32 => alI 100 M31 x32 (iI (16 * P + K 7)) fun x33 => vC (13, 157) M31 (some 160) <| cV (runX d 241 [va_rf (some 160), .int x33] M31) fun M34 => gtP (13, 157) M34 (some 160) 23 fun x35 => alI 100 M34 x35 (iI (16 * P + K 7)) fun x36 => vC (13, 157) M34 (some 160) <| cI (runX d 252 [va_rf (some 160), .int x36, .int ((1 : Int32))] M34) fun x38 M37 => jn (fun (s39 : Unit) => if x38 = 0 then ( gtP (13, 157) M37 (some 160) 21 fun x40 => alI 100 M37 x40 (iI (16 * P + K 7)) fun x41 => if x41 ≤ 0 then ( J' M37) else ( ptI (13, 157) M37 (some 160) 101 ((2 : Int32)) fun M42 => ptI (13, 157) M42 (some 160) 102 ((4 : Int32)) fun M43 => J' M43)) else ( J' M37)) fun j188 => if x38 = 0 then ( j188 ()) else ( gtP (13, 157) M37 (some 160) 21 fun x44 => alI 100 M37 x44 (iI (16 * P + K 7)) fun x45 => jn (fun (s46 : Unit) => vC (13, 157) M37 (some 160) <| cV (runX d 253 [va_rf (some 160), .int ((2 : Int32))] M37) fun M47 => J' M47) fun j180 => if x45 = 0 then ( j180 ()) else ( gtP (13, 157) M37 (some 160) 21 fun x48 => alI 100 M37 x48 (iI (16 * P + K 7)) fun x49 => gtI (13, 157) M37 (some 160) 88 fun x50 => if x49 = x50 then ( j188 ()) else ( j180 ()))) : XA) = J' Mr' ∧ zFl κ Mc Mc' ∧ zRl e Mr Mr' ∧ ((∃ u V Fa Wh, zEx e (zw s 0 0 0 (iI (K 3))) (K 6) 1 u ∧ u.1 1 0 0 ≠ 6 ∧ zJu (K 4) u V Fa Wh ∧ zPr LL xs e κ R L (znb u) Mc' Mr' ∧ zFg (zov u) Mc' Mr' ∧ zLv V Fa Wh Mc' Mr' ∧ Mr'.1 160 84 = Mr.1 160 84) ∨ zSp LL xs e κ R L s Mc' Mr') := by
  subst hP
  obtain ⟨b1, b2, b3, b4, b5, b6, b7, b8⟩ := hb
  have hE3 := hp.2.1.2.2.1.2.2.1
  obtain ⟨-, -, -, -, z5⟩ := hE3.1 0 (Or.inl rfl)
  obtain ⟨⟨u1, u2⟩, -⟩ := z5 (K 0) b2.1 b2.2
  rw [show 8 * (0 : Int) + K 0 = K 0 by omega] at u1 u2
  have hc' := hc
  obtain ⟨⟨k1, k2⟩, ⟨p1, p4, p5, p6, p7⟩, -⟩ := hc'
  have hC := hp.2.1.1
  have hR := hp.2.2.1.1
  have kr := rk_160 hR
  have a0 := (hp.2.2.2.1 0 (Or.inl rfl))
  have P0 := a0.1
  have hk := hp.2.1.2.2.1.2.2.2.2.1.k8
  have hr' := hr
  obtain ⟨⟨q0, q3, q4, q5, q6⟩, -⟩ := hr'
  -- the class ahead of the code
  obtain ⟨Mc1, hMc1⟩ : ∃ X, X = sI Mc 92 (0 : Int).toNat (iI (K 3)) := ⟨_, rfl⟩
  have fc1 : zFl κ Mc Mc1 := by rw [hMc1]; exact zFl.rf.sI (by decide)
  have oc1 : ∀ a j, a ≠ 92 → Mc1.1 a j = Mc.1 a j := fun a j z => by rw [hMc1]; exact sI_ne z
  -- the reference ahead of it
  obtain ⟨Mr1, hMr1⟩ : ∃ X, X = sI Mr 160 73 (iI 0) := ⟨_, rfl⟩
  have R1 : RT Mr1 := hR.keep (by rw [hMr1]; rfl)
  have push := mR241 (d := d) (M := Mr1) (t := 0) (v := iI (K 3)) (by omega) R1 (by rw [hMr1]; exact sI_eq) (by omega)
  obtain ⟨Mr2, hMr2⟩ : ∃ X, X = sI (sI Mr1 213 (0 : Int).toNat (iI (K 3))) 160 73 (iI (0 + 1)) := ⟨_, rfl⟩
  rw [← hMr2] at push
  have f02 : zRl e Mr Mr2 := by rw [hMr2, hMr1]; exact ((zRl.rf.sI (by decide) (by decide)).sI (by decide) (by decide)).sI (by decide) (by decide)
  have o2 : ∀ a j, ¬ (a = 160 ∧ j = 73) → a ≠ 213 → Mr2.1 a j = Mr.1 a j := fun a j z z2 => by
    rw [hMr2, hMr1]
    by_cases y : a = 160
    · exact (sI_nej fun w => z ⟨y, w⟩).trans ((sI_ne z2).trans (sI_nej fun w => z ⟨y, w⟩))
    · exact (sI_ne y).trans ((sI_ne z2).trans (sI_ne y))
  obtain ⟨s1, hs1⟩ : ∃ X, X = zw s 0 0 0 (iI (K 3)) := ⟨_, rfl⟩
  have hp1 : zPr LL xs e κ R L s1 Mc1 Mr2 := by
    obtain ⟨h1, ⟨h2, h3, h4, h5⟩, h6, h7⟩ := (hp.mc fc1 (fun a j p _ => oc1 a j p)).mr (Mr' := Mr2) (by rw [hMr2, hMr1]; rfl) (fun a j p q => o2 a j (by omega) q)
    have wk : ∀ k, k ≠ 0 → s1.2 k = s.2 k := fun k p => by rw [hs1]; funext x y; exact zw_k p
    refine ⟨by rw [hs1]; exact h1, ⟨h2, h3.ff zFf.r ⟨fun k p => by rw [hs1]; rfl, fun k p _ _ => wk k (by omega), by rw [hs1]; exact Iff.rfl⟩ hk, h4, h5⟩, h6.ff zRw.r ⟨fun k p => by rw [hs1]; rfl, fun k p _ _ => wk k (by omega)⟩, h7⟩
  obtain ⟨Mc', Mr', rc, rr, x1, x2, x3⟩ := code_pair (dl := dl) (d := d) (v := iI (K 6)) (v1 := iI (K 6)) (v2 := (1 : Int32)) (c := 1) (par := 1) (en := K 6) (by omega) (by omega) hV hp1 b6.1 (by omega) b6.2 (by rw [hMr2]; exact sI_eq.trans (congrArg iI (by omega))) ((o2 _ _ (by omega) (by decide)).trans e85) (fun k p q => by
    have k0 : k = 0 := by omega
    subst k0
    rw [hMc1, hMr2, hs1]
    exact ⟨sI_eq.trans zw_e.symm, ((sI_ne (by decide)).trans sI_eq).trans zw_e.symm⟩) rfl rfl li_1
  obtain ⟨g1, g2, g3⟩ := x3.out hp1.2.2.2
  have kc1 : Mc1.2.2.2[cp]? = some (8, 9) := by rw [hMc1]; exact k1
  have C1 : CT Mc1 := hp1.2.1.1
  have hc2 : zKc κ cp K F Mc' := hc.fl (fc1.tr g1) u1
  have hr2 : zKr e K F Mr' := hr.rl (f02.tr g2)
  obtain ⟨⟨k1', -⟩, ⟨-, -, -, p6', -⟩, -⟩ := hc2
  have q4' := hr2.1.2.2.1
  have e179 : Mr1.1 179 (16 * e.1 29 0 0 + K 7).toNat = iI (K 3) := by rw [hMr1]; exact (sI_ne (by decide)).trans q3
  have e182 : Mr2.1 182 (16 * e.1 29 0 0 + K 7).toNat = iI (K 6) := (o2 _ _ (by omega) (by decide)).trans q6
  have kr1 := rk_160 R1
  have kr2 := rk_160 hp1.2.2.1.1
  have p5' : Mc1.1 cp 5 = iI (K 6) := (oc1 _ _ (by have := k2.1; omega)).trans p5
  -- both heads
  have headc : (gtP (4, 22) Mc (some 88) 11 fun x43 => gtI (8, 9) Mc (some cp) 4 fun x44 => asI 100 Mc x43 ((0 : Int32)) x44 fun M45 => gtI (8, 9) M45 (some cp) 5 fun x46 => vC (4, 22) M45 (some 88) <| cI (runX dl 28 [va_rf (some 88), .int x46] M45) fun x48 M47 => vC (4, 22) M47 (some 88) <| cV (runX dl 26 [va_rf (some 88), va_rf (some cp), .int x48] M47) fun M49 => J M49 : XA) = (vC (4, 22) Mc' (some 88) <| cV (runX dl 26 [va_rf (some 88), va_rf (some cp), .int (iI rc)] Mc') fun M49 => J M49 : XA) := by
    rw [gtP_q (ck_88 hC) (cf_88_11 hC), gtI_q k1 p4, show (0 : Int32) = iI 0 from li_0, asI_e (ck_92 hC) (by omega) (by omega) (by omega), ← hMc1, gtI_q kc1 p5', vC_e (ck_88 C1), cI_e x1]
  rw [headc, ptI_q (z := 0) kr li_0, ← hMr1, gtP_q kr1 (rf_20 R1), alI_q (n := 128) (z := 16 * e.1 29 0 0 + K 7) (rk_179 R1) rfl (by omega) e179, vC_e kr1, cV_e push, gtP_q kr2 (rf_23 hp1.2.2.1.1), alI_q (n := 128) (z := 16 * e.1 29 0 0 + K 7) (rk_182 hp1.2.2.1.1) rfl (by omega) e182, vC_e kr2, cI_e x2, jn_v]
  rcases g3 with ⟨u, z0, z00, z1, z2, z3, z4, zz⟩ | ⟨r1, r2, z1⟩
  · rw [hs1] at z0
    have C2 := z1.2.1.1
    have R2 := z1.2.2.1.1
    have kr' := rk_160 R2
    have o3 : ∀ j, j = 84 ∨ j = 101 ∨ j = 102 ∨ j = 103 → Mr'.1 160 j = Mr.1 160 j := fun j z => (z2.2.1 160 j (by rcases z with z | z | z | z <;> subst z <;> decide)).trans (o2 _ _ (by omega) (by decide))
    have sdb : rc = 0 ∨ rc = 1 := by rcases zz with z | z; exact Or.inr z.2.1; exact Or.inl z.2.1
    obtain ⟨Mc3, V, F1, W1, y1, y2, y3⟩ := zc26 (d := dl) (M := Mc') (cp := cp) (K := K) (sd := rc) (v := iI rc) (by omega) C2 k1' p6' b4 sdb rfl
    rw [vC_e (ck_88 C2), cV_e y1]
    obtain ⟨fc, oc⟩ := zFl_48 (κ := κ) y2
    have n0 : Mc3.1 89 0 = iI V := by rw [y2]; exact (sI_nej (by decide)).trans ((sI_nej (by decide)).trans sI_eq)
    have n1 : Mc3.1 89 1 = F1 := by rw [y2]; exact (sI_nej (by decide)).trans sI_eq
    have n2 : Mc3.1 89 2 = W1 := by rw [y2]; exact sI_eq
    -- the end, when what the reference tells is the same
    have fin : ∀ Mr3 : Mem, zRl e Mr' Mr3 → (∀ a j, ¬ (a = 160 ∧ (j = 101 ∨ j = 102 ∨ j = 103)) → Mr3.1 a j = Mr'.1 a j) → Mr3.1 160 101 = iI V → Mr3.1 160 102 = F1 → Mr3.1 160 103 = W1 → 1 ≤ V ∧ V ≤ 5 → zJu (K 4) u V F1 W1 → zFl κ Mc Mc3 ∧ zRl e Mr Mr3 ∧ ((∃ u V Fa Wh, zEx e (zw s 0 0 0 (iI (K 3))) (K 6) 1 u ∧ u.1 1 0 0 ≠ 6 ∧ zJu (K 4) u V Fa Wh ∧ zPr LL xs e κ R L (znb u) Mc3 Mr3 ∧ zFg (zov u) Mc3 Mr3 ∧ zLv V Fa Wh Mc3 Mr3 ∧ Mr3.1 160 84 = Mr.1 160 84) ∨ zSp LL xs e κ R L s Mc3 Mr3) := fun Mr3 w1 w2 w3 w4 w5 w6 w7 => by
      refine ⟨fc1.tr (g1.tr fc), f02.tr (g2.tr w1), Or.inl ⟨u, V, F1, W1, z0, z00, w7, (z1.mc fc (fun a j _ q => oc a j q)).mr w1.1 (fun a j p _ => w2 a j (by omega)), ?_, ⟨⟨n0, n1, n2⟩, ⟨w3, w4, w5⟩, w6⟩, (w2 _ _ (by omega)).trans (o3 84 (by omega))⟩⟩
      unfold zFg
      rw [oc _ _ (by omega), w2 _ _ (by omega)]
      exact z4
    rcases zz with ⟨r0, r1, r2, r3⟩ | ⟨r0, r1, r2, r3, r4⟩
    · subst r1; subst r2
      rw [if_pos (show iI 0 = 0 from rfl), jv_e, if_pos (show iI 0 = 0 from rfl), gtP_q kr' (rf_21 R2), alI_q (n := 128) (z := 16 * e.1 29 0 0 + K 7) (rk_180 R2) rfl (by omega) q4']
      by_cases y : K 4 = 0
      · have J1 : zJ1 (K 4) 1 (Mc'.1 88 20) := Or.inl ⟨y, rfl⟩
        rcases y3 with ⟨-, v1, v2, v3⟩ | ⟨v0, -⟩
        · rw [if_pos (show iI (K 4) ≤ 0 from leI_p rfl li_0 (by omega))]
          exact ⟨Mc3, Mr', rfl, rfl, fin Mr' zRl.rf (fun _ _ _ => rfl) (by rw [o3 101 (by omega), e101.1, v1]) (by rw [o3 102 (by omega), e101.2.1, v2]) (by rw [o3 103 (by omega), e101.2.2, v3]) (by omega) (Or.inl ⟨Or.inl ⟨y, r0⟩, v1, v2, v3⟩)⟩
        · exact absurd J1 v0
      · rcases y3 with ⟨v0, -⟩ | ⟨-, ⟨-, v1, v2, v3⟩ | ⟨v0, -⟩⟩
        · rcases v0 with v0 | v0 <;> omega
        · rw [if_neg (show ¬ iI (K 4) ≤ 0 from leI_n rfl li_0 (by omega)), ptI_q (z := 2) kr' li_2, ptI_e (M := sI Mr' 160 101 (iI 2)) kr']
          refine ⟨Mc3, _, rfl, rfl, fin _ ((zRl.rf.sI (by decide) (by decide)).sI (by decide) (by decide)) (fun a j p => ?_) ?_ ?_ ?_ (by omega) (Or.inr ⟨fun q => by rcases q with q | q; exact y q.1; exact q.2.1 r0, v1, Or.inl ⟨r0, v2, v3⟩⟩)⟩
          · by_cases y2 : a = 160
            · exact (sI_nej (by omega)).trans (sI_nej (by omega))
            · exact (sI_ne y2).trans (sI_ne y2)
          · rw [v1]; exact (sI_nej (by decide)).trans sI_eq
          · rw [v2]; exact sI_eq
          · rw [v3]; exact (sI_nej (by decide)).trans ((sI_nej (by decide)).trans ((o3 103 (by omega)).trans e101.2.2))
        · omega
    · subst r1; subst r2
      obtain ⟨M5, w1, w2⟩ := zr253 (d := d) (M := Mr') (v := 2) (by omega) R2
      obtain ⟨fr, or⟩ := zRl_253 (e := e) w2
      rw [if_neg (show ¬ iI 1 = 0 by decide), gtP_q kr' (rf_21 R2), alI_q (n := 128) (z := 16 * e.1 29 0 0 + K 7) (rk_180 R2) rfl (by omega) q4', jn_v]
      have bad : ¬ zJ1 (K 4) 0 (Mc'.1 88 20) → zFl κ Mc Mc3 ∧ zRl e Mr M5 ∧ ((∃ u V Fa Wh, zEx e (zw s 0 0 0 (iI (K 3))) (K 6) 1 u ∧ u.1 1 0 0 ≠ 6 ∧ zJu (K 4) u V Fa Wh ∧ zPr LL xs e κ R L (znb u) Mc3 M5 ∧ zFg (zov u) Mc3 M5 ∧ zLv V Fa Wh Mc3 M5 ∧ M5.1 160 84 = Mr.1 160 84) ∨ zSp LL xs e κ R L s Mc3 M5) := fun v0 => by
        rcases y3 with ⟨v9, -⟩ | ⟨-, ⟨v9, -⟩ | ⟨-, v1, v2, v3⟩⟩
        · exact absurd v9 v0
        · omega
        · refine fin M5 fr or ?_ ?_ ?_ (by omega) (Or.inr ⟨fun q => ?_, v1, Or.inr ⟨r0, v2.trans r3.1, v3.trans r4.1⟩⟩)
          · rw [v1, w2]; exact (sI_nej (by decide)).trans ((sI_nej (by decide)).trans (sI_eq.trans li_2))
          · rw [v2, w2, r3.1]; exact ((sI_nej (by decide)).trans sI_eq).trans r3.2
          · rw [v3, w2, r4.1]; exact sI_eq.trans r4.2
          · refine v0 ?_
            rcases q with q | q
            · exact absurd q.2 r0
            · exact Or.inr ⟨q.1, rfl, r3.1.trans q.2.2⟩
      by_cases y : K 4 = 0
      · rw [if_pos (show iI (K 4) = 0 from eqI_p rfl li_0 y), jv_e, vC_e kr', cV_e w1]
        exact ⟨Mc3, M5, rfl, rfl, bad fun z => by rcases z with z | z <;> omega⟩
      · rw [if_neg (show ¬ iI (K 4) = 0 from eqI_n rfl li_0 (by omega)), gtP_q kr' (rf_21 R2), alI_q (n := 128) (z := 16 * e.1 29 0 0 + K 7) (rk_180 R2) rfl (by omega) q4', gtI_q kr' rfl]
        by_cases y2 : iI (K 4) = Mr'.1 160 88
        · have J1 : zJ1 (K 4) 0 (Mc'.1 88 20) := Or.inr ⟨y, rfl, r3.1.trans (r3.2.symm.trans y2.symm)⟩
          rcases y3 with ⟨-, v1, v2, v3⟩ | ⟨v0, -⟩
          · rw [if_pos y2, jv_e, if_neg (show ¬ iI 1 = 0 by decide)]
            exact ⟨Mc3, Mr', rfl, rfl, fin Mr' zRl.rf (fun _ _ _ => rfl) (by rw [o3 101 (by omega), e101.1, v1]) (by rw [o3 102 (by omega), e101.2.1, v2]) (by rw [o3 103 (by omega), e101.2.2, v3]) (by omega) (Or.inl ⟨Or.inr ⟨y, r0, r3.2.symm.trans y2.symm⟩, v1, v2, v3⟩)⟩
          · exact absurd J1 v0
        · rw [if_neg y2, jv_e, vC_e kr', cV_e w1]
          exact ⟨Mc3, M5, rfl, rfl, bad fun z => by
            rcases z with z | z
            · omega
            · exact y2 (z.2.2.symm.trans (r3.1.trans r3.2.symm))⟩
  · -- no WORK is left
    have C2 := z1.1
    have R2 := z1.2.2.2.2.2.1
    have kr' := rk_160 R2
    subst r1; subst r2
    obtain ⟨Mc3, V, F1, W1, y1, y2, -⟩ := zc26 (d := dl) (M := Mc') (cp := cp) (K := K) (sd := 0) (v := iI 0) (by omega) C2 k1' p6' b4 (Or.inl rfl) rfl
    rw [vC_e (ck_88 C2), cV_e y1]
    obtain ⟨fc, oc⟩ := zFl_48 (κ := κ) y2
    have z2 := (z1.fx (t := s) (by rw [hs1]; exact zFx.eq rfl rfl rfl rfl ⟨rfl, rfl⟩)).mc fc oc
    obtain ⟨M5, w1, w2⟩ := zr253 (d := d) (M := Mr') (v := 2) (by omega) R2
    obtain ⟨fr, or⟩ := zRl_253 (e := e) w2
    have z3 := z2.mr fr or
    rw [if_neg (show ¬ iI 1 = 0 by decide), gtP_q kr' (rf_21 R2), alI_q (n := 128) (z := 16 * e.1 29 0 0 + K 7) (rk_180 R2) rfl (by omega) q4', jn_v]
    by_cases y : iI (K 4) = 0
    · rw [if_pos y, jv_e, vC_e kr', cV_e w1]
      exact ⟨Mc3, M5, rfl, rfl, fc1.tr (g1.tr fc), f02.tr (g2.tr fr), Or.inr z3⟩
    · rw [if_neg y, gtP_q kr' (rf_21 R2), alI_q (n := 128) (z := 16 * e.1 29 0 0 + K 7) (rk_180 R2) rfl (by omega) q4', gtI_q kr' rfl]
      by_cases y2 : iI (K 4) = Mr'.1 160 88
      · rw [if_pos y2, jv_e, if_neg (show ¬ iI 1 = 0 by decide)]
        exact ⟨Mc3, Mr', rfl, rfl, fc1.tr (g1.tr fc), f02.tr g2, Or.inr z2⟩
      · rw [if_neg y2, jv_e, vC_e kr', cV_e w1]
        exact ⟨Mc3, M5, rfl, rfl, fc1.tr (g1.tr fc), f02.tr (g2.tr fr), Or.inr z3⟩
end S9bn
