/-! kill(): one run, both -/
section S9co
variable {d dl : Nat} {o : HO} {v : VR} {q : QN} {s s' u hs : ZS} {M M' M1 M2 Mc Mr Mc' Mr' : Mem} {LL a j x N bs n : Nat} {xs : Nat → Int32} {ow : Nat → Int} {c p i nc k t b sl al lu : Int} {w v1 v2 : Int32} {Z Z' : Nat → Nat → Prop} {Od : Int → Int} {T U : Nat → Int → Int32}
theorem kill_run (hdl : 25 ≤ dl) (hd : 75 ≤ d) (hP : hoP o) (hp : 0 ≤ p ∧ p < oN o) (hsl : 1 ≤ sl ∧ sl ≤ 1000) (hnc : nc = (gR (oP o p)).1 3 0 0) (hO : odK Od nc.toNat) (hOo : odO Od nc.toNat) (h : KI LL xs o p sl 0 b hs Mc Mr) (hal : al = -1 ∨ (0 ≤ al ∧ al < gE (oP o p) ∧ iw (gG (oP o p) 0 al) ≠ -1)) (hb : (bs = 150 ∧ al < 0) ∨ (bs = 155 ∧ 0 ≤ al)) (hor : orB o p Od Mc Mr) (hT : 0 ≤ al → ∀ c, 0 ≤ c → c < nc → vfR T c Mr) (hMc : Mc' = sI Mc 88 3 (iI (if al < 0 then -2 else al))) (hw : w = iI p) (hv : v1 = iI al) : ∃ Mc2 Mr2 who, runX dl 174 [va_rf (some 64), va_rf (some (gX (oP o p))), va_rf (some (gX (oP o p) + 6)), .int (iI nc), .int ((-2 : Int32)), va_rf (some bs)] Mc' = some (.null, Mc2) ∧ runX d 282 [va_rf (some 160), .int w, .int v1] Mr = some (.int who, Mr2) ∧ Fz (Zkc o bs) Mc Mc2 ∧ Fz (Zkr al) Mr Mr2 ∧ Mr2.1 160 90 = iI (-1) ∧ ((∃ b' hs2 U, KI LL xs o p sl 0 b' hs2 Mc2 Mr2 ∧ (∀ c, 0 ≤ c → c < nc → vfC bs U c Mc2 ∧ (al < 0 → vfR U c Mr2)) ∧ (0 ≤ al → who = por (dmk T U) nc.toNat) ∧ (al < 0 → who = 0)) ∨ (KS LL xs o p sl 0 Mc2 Mr2 ∧ who = iI (-1))) := by
  obtain ⟨dl, rfl⟩ : ∃ e, dl = e + 1 := ⟨dl - 1, by omega⟩
  obtain ⟨d, rfl⟩ : ∃ e, d = e + 1 := ⟨d - 1, by omega⟩
  subst hw; subst hv
  have nE := (hP.2.2.1 p hp.1 hp.2).1.n2
  have lo := pk_lo hP hp
  have p8 := hP.1
  obtain ⟨q, hq⟩ : ∃ q : QN, q = (sl, al, 0, 0, 0) := ⟨_, rfl⟩
  have q1 : q.1 = sl := by rw [hq]
  have q2 : q.2.1 = al := by rw [hq]
  have q3 : q.2.2.1 = 0 := by rw [hq]
  have q4 : q.2.2.2.1 = 0 := by rw [hq]
  have q5 : q.2.2.2.2 = 0 := by rw [hq]
  have hqk : qOK o (v1p p) q := by
    refine ⟨by omega, ?_, Or.inl q3, Or.inl q4, Or.inl q5⟩
    rcases hal with z | z
    · exact Or.inl (q2.trans z)
    · rw [q2]; exact Or.inr ⟨rfl, z⟩
  obtain ⟨Mr', hMr⟩ : ∃ X, X = sI Mr 160 90 (iI al) := ⟨_, rfl⟩
  obtain ⟨Mg, R2, g1, g2, g3, g4, g5, g6, g7⟩ := h.beg (dl := dl) (d := d) (w := iI p) (Mc' := Mc') (by omega) (by omega) hP hp hsl hq hqk hMc hMr rfl 0 (by omega) hs ⟨rfl, fun _ _ => rfl⟩ (fun z => absurd z (by decide))
  have hC := h.1.1
  have hR := h.1.2
  have hor' : orB o p Od Mg R2 := fun k a b => by
    obtain ⟨z1, z2⟩ := hor k a b
    refine ⟨(g4 _ _ (by omega)).trans (by rw [hMc]; exact (sI_ne (by omega)).trans z1), (g6 _ _ (by unfold Zma; omega)).trans (by rw [hMr]; exact (sI_ne (by decide)).trans z2)⟩
  have r1 : ∀ a j, ¬ (a = 160 ∧ (j = 90 ∨ j = 66 ∨ j = 67)) → a ≠ 209 → a ≠ 211 → R2.1 a j = Mr.1 a j := fun a j z z1 z2 => (g6 a j (by unfold Zma; omega)).trans (by
    rw [hMr]
    by_cases y : a = 160
    · exact sI_nej (by omega)
    · exact sI_ne y)
  have h12 : (zst (rE o (v1p p) (pf q 0 0)) b 0 hs).1 12 0 0 = b := rfl
  have h17 : (zst (rE o (v1p p) (pf q 0 0)) b 0 hs).1 17 = hs.1 17 := rfl
  obtain ⟨Mh, R3, s', U, who, x1, x2, x3, x4, x5⟩ := kill_loop (dl := dl) (d := d) (J := jv fun s5 => some (.null, s5)) (J' := jv fun (s3 : Int32 × Mem) => ptI (13, 157) s3.2 (some 160) 90 ((-1 : Int32)) fun M4 => gtI (13, 157) M4 (some 160) 84 fun x5 => jn (fun (s6 : Int32) => some (.int s6, M4)) fun j141 => if x5 = 0 then ( j141 s3.1) else ( j141 ((-1 : Int32)))) (T := T) (by omega) (by omega) hP hp hqk q2 q3 q4 q5 (by omega) hb hnc hO nc.toNat 0 (zst (rE o (v1p p) (pf q 0 0)) b 0 hs) Mg R2 4294967296 4294967296 (fun _ _ => 0) 0 (by omega) (by omega) (by omega) (by omega) g7 h.2.2.2.2.1.2.2.2.1 ((r1 _ _ (by omega) (by decide) (by decide)).trans h.2.2.2.2.1.2.2.1) hor' (fun k a b => by omega) (fun z c a b t ht => (r1 _ _ (by omega) (by omega) (by omega)).trans (hT z c a b t ht)) (fun _ => rfl) (fun _ => rfl)
  have f0 : Fz (Zkc o bs) Mc Mg := by
    have f1 : Fz (Zkc o bs) Mc Mc' := by rw [hMc]; exact (Fz.r).si (Or.inl (Or.inl ⟨rfl, by decide⟩))
    exact f1.tr ⟨g3, fun a j z => g4 a j fun y => z (Or.inl (by unfold ZM; omega))⟩
  have e0 : Fz (Zkr al) Mr R2 := by
    have f1 : Fz (Zkr al) Mr Mr' := by rw [hMr]; exact (Fz.r).si (Or.inl (Or.inl ⟨rfl, by decide⟩))
    exact f1.tr ⟨g5, fun a j z => g6 a j fun y => z (Or.inl (Zma_R y))⟩
  have cl : runX (dl + 1) 174 [va_rf (some 64), va_rf (some (gX (oP o p))), va_rf (some (gX (oP o p) + 6)), .int (iI nc), .int ((-2 : Int32)), va_rf (some bs)] Mc' = some (.null, Mh) := by
    have k1 : Mc'.2 = Mc.2 := by rw [hMc]; rfl
    have hC' : CT Mc' := hC.1.1.keep k1
    have hCg : CT Mg := hC'.keep g3
    have x1' := x1
    rw [← li_0] at x1'
    rw [r174]; unfold b174; rw [aR_e, aR_e, aR_e, aI_e, aI_e, aR_e, aZ_e]; unfold c174
    rw [gtP_q (ck_64 hC') (cf_64_2 hC'), vC_e (ck_88 hC'), cV_e g1, gtP_q (ck_64 hCg) (cf_64_2 hCg), gtP_q (ck_88 hCg) (cf_88_0 hCg), jn_v, show (-2 : Int32) = iI (-2) from rfl]
    exact x1'
  have k160 := rk_160 hR.1.1
  obtain ⟨R4, hR4⟩ : ∃ X, X = sI R3 160 90 (-1) := ⟨_, rfl⟩
  have e4 : ∀ a j, ¬ (a = 160 ∧ j = 90) → R4.1 a j = R3.1 a j := fun a j z => by
    rw [hR4]
    by_cases y : a = 160
    · exact sI_nej fun w => z ⟨y, w⟩
    · exact sI_ne y
  have e3 : Fz (Zkr al) Mr R4 := by
    rw [hR4]
    exact (e0.tr x4).si (Or.inl (Or.inl ⟨rfl, by decide⟩))
  have rl : ∀ w2 : Int32, (w2 = if R3.1 160 84 = 0 then who else -1) → RT R3 → runX (d + 1) 282 [va_rf (some 160), .int (iI p), .int (iI al)] Mr = some (.int w2, R4) := fun w2 hw2 hR3 => by
    have k3 := rk_160 hR3
    have x2' := x2
    rw [← li_0] at x2'
    have kk : R2.2.2.2[160]? = some (13, 157) := by rw [congrArg (fun z => z.2.2) g5, hMr]; exact k160
    have e84 : R4.1 160 84 = R3.1 160 84 := e4 _ _ (by omega)
    rw [r282]; unfold b282; rw [aR_e, aI_e, aI_e, aZ_e]; unfold c282
    rw [ptI_e k160, ← hMr, vC_e (by rw [hMr]; exact k160), cV_e g2, jn_v, x2', jv_e, ptI_e k3, ← hR4, gtI_q (M := R4) (by rw [hR4]; exact k3) e84, jn_v, hw2]
    by_cases y : R3.1 160 84 = 0
    · rw [if_pos y, if_pos y]; rfl
    · rw [if_neg y, if_neg y]; rfl
  have hr4 : ∀ h3 : hoR o R3, hoR o R4 := fun h3 => by rw [hR4]; exact h3.si (ZR_hr (p := 0) (k := 0) (Or.inl ⟨rfl, by decide⟩))
  have e90 : R4.1 160 90 = iI (-1) := by rw [hR4]; exact sI_eq
  have n90 : ∀ j, j ≠ 90 → R4.1 160 j = R3.1 160 j := fun j z => e4 _ _ (by omega)
  rcases x5 with ⟨y1, ⟨y2, y3, y4⟩, y5, y6, y7, y8⟩ | ⟨y1, y2, y3, u, ⟨y4, y5⟩, y6⟩
  · have ew := rl who (by rw [y5, if_pos (show iI 0 = 0 from rfl)]) y1.1.2.1.1
    obtain ⟨⟨z1, z2⟩, ⟨⟨w1, ⟨w2, w3, w4, w5⟩, w6, w7⟩, z4⟩, -, ⟨z6, z7⟩, ⟨z8, z9, z10, z11, z12, z13⟩, z14⟩ := id y1
    have hd' := y1.hd
    have e10 : Mh.1 88 10 = iI (s'.1 12 0 0) := by
      have := y1.2.2.1.1.2.1
      rw [this]
      unfold zcw
      rw [if_neg (by rw [z8.2]; decide), if_pos y2]
    have b2 := h.2.2.2.2.1.2.2.2.2
    rw [h12] at y3
    refine ⟨Mh, R4, who, cl, ew, f0.tr x3, e3, e90, Or.inl ⟨s'.1 12 0 0, s', U, ⟨⟨z1, hr4 z2⟩, fun al' => ⟨w1, ⟨?_, sI_eq, ?_, ?_⟩, w6, fun z => absurd z v1F⟩, ⟨?_, ?_, ?_, ?_⟩, ?_, ⟨e10, ?_, ?_, y2, by omega⟩, hd'.1, hd'.2.fz fun a j z => e4 a j (by omega), fun D => ?_⟩, fun c a b => ?_, fun z => ?_, y8⟩⟩
    · rw [← q1]; exact (sI_nej (by decide)).trans w2
    · rw [q3, q4] at w4; exact (sI_nej (by decide)).trans w4
    · rw [q5] at w5; exact w5
    · rw [n90 77 (by decide), z7, q1]
    · rw [n90 91 (by decide), z4.2.1.2.1, q3]
    · rw [n90 92 (by decide), z4.2.1.2.2.1, q4]
    · rw [n90 97 (by decide), z4.2.1.2.2.2, q5]
    · rw [n90 78 (by decide)]; exact z6
    · rw [n90 83 (by decide)]; exact y1.2.2.1.2.2.2.1
    · rw [n90 84 (by decide)]; exact y5
    · rw [y4, h17]; exact h.2.2.2.2.2.2.2 D
    · obtain ⟨i, i1, i2, i3⟩ := hO.sur (c := c) ⟨a, by omega⟩
      obtain ⟨t1, t2⟩ := y6 i i1 (by omega)
      rw [i3] at t1 t2
      exact ⟨t1, fun z t ht => (e4 _ _ (by omega)).trans (t2 z t ht)⟩
    · exact (y7 z).trans (hOo (dmk T U))
  · have ew := rl (-1) (by rw [y3, if_neg (show ¬ iI 1 = 0 by decide)]) y1.1.2.1.1
    obtain ⟨⟨z1, z2⟩, ⟨z3, z4⟩, z6, z7⟩ := id y1
    refine ⟨Mh, R4, (-1 : Int32), cl, ew, f0.tr x3, e3, e90, Or.inr ⟨⟨⟨z1, hr4 z2⟩, ⟨?_, ?_, ?_, ?_⟩, ?_, ⟨y2, ?_⟩, u, y4, y5.fz fun a j z => e4 a j (by omega), fun D => ?_⟩, rfl⟩⟩
    · rw [n90 77 (by decide), z7, q1]
    · rw [n90 91 (by decide), z4.2.1.2.1, q3]
    · rw [n90 92 (by decide), z4.2.1.2.2.1, q4]
    · rw [n90 97 (by decide), z4.2.1.2.2.2, q5]
    · rw [n90 78 (by decide)]; exact z6
    · rw [n90 84 (by decide)]; exact y3
    · rw [y6 q4, h17]; exact h.2.2.2.2.2.2.2 D
end S9co
