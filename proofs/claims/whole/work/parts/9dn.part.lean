/-! foretold(), both: all of it -/
section S9dn
variable {d dl : Nat} {o : HO} {g : PG} {M M' Mc Mr Mc' Mr' : Mem} {LL a j N : Nat} {xs : Nat → Int32} {ow : Nat → Int} {c p q i n k m sl nB w : Int} {v v1 v2 : Int32} {B : Int → BG}
theorem foretold_ok (hdl : 25 ≤ dl) (hd : 75 ≤ d) (hP : hoP o) (hC : HC LL xs o ow sl Mc) (hR : HR o sl Mr) (hb : bdC ow o nB B Mc) (hr : bdR nB B Mr) (hi : 0 ≤ i ∧ i < nB) (hk : 0 ≤ k ∧ k < gE (oP o (B i).1.1)) (hv1 : v1 = iI i) (hv2 : v2 = iI k) : ∃ r, runX dl 165 [va_rf (some 64), .int v1, .int v2] Mc = some (.int r, Mc) ∧ runX d 308 [va_rf (some 160), .int v1, .int v2] Mr = some (.int r, Mr) := by
  obtain ⟨dl, rfl⟩ : ∃ e, dl = e + 1 := ⟨dl - 1, by omega⟩
  obtain ⟨d, rfl⟩ : ∃ e, d = e + 1 := ⟨d - 1, by omega⟩
  subst hv1; subst hv2
  obtain ⟨⟨⟨hp, hp2⟩, hb1, hb2⟩, hK, hL⟩ := hb.2 i hi.1 hi.2
  have n8 := hb.1.1.2.2
  have p8 := hP.1
  have cM := hC.1.1.1
  have rM := hR.1.1.1
  have kr := rk_160 rM
  have hg := hP.2.2.1 _ hp.1 hp.2
  have hg2 := hP.2.2.1 _ hp2.1 hp2.2
  have n2 := hg.1.n2
  have n2q := hg2.1.n2
  have hCp := hC.1.2.1 _ hp.1 hp.2
  obtain ⟨r1, r2⟩ := hr.2 i hi.1 hi.2
  obtain ⟨p, hpp⟩ : ∃ p, p = (B i).1.1 := ⟨_, rfl⟩
  obtain ⟨q, hqq⟩ : ∃ q, q = (B i).1.2 := ⟨_, rfl⟩
  obtain ⟨L, hLL⟩ : ∃ L, L = (B i).2.2.1 := ⟨_, rfl⟩
  obtain ⟨lk, hlk⟩ : ∃ lk, lk = (B i).2.2.2 := ⟨_, rfl⟩
  obtain ⟨b, hbb⟩ : ∃ b, b = (B i).2.1 := ⟨_, rfl⟩
  have z307 : ∀ u, 0 ≤ u → u < (gR (oP o p)).1 1 0 0 → runX d 307 [va_rf (some 160), .int (iI i), .int (iI u)] Mr = some (.int (iI (L u)), Mr) := fun u x1 x2 => by
    rw [hLL]
    exact zr307 (d := d) (by omega) hR.1 hP hr hi n8.2 ⟨⟨hp, hp2⟩, hL⟩ ⟨x1, by rw [← hpp]; exact x2⟩ rfl rfl
  have z172 := zc172 (d := dl) (by omega) cM hb (rfl : iI i = iI i) (by omega)
  rw [if_pos hi, ← hbb] at z172
  rw [← hpp] at hp hg n2 hCp hK hL hk r1
  rw [← hqq] at hp2 hg2 n2q hK hL r2
  rw [← hLL, ← hlk] at hK hL
  rw [← hbb] at hK
  have Lb : ∀ u, 0 ≤ u → u < (gR (oP o p)).1 1 0 0 → -1 ≤ L u ∧ L u ≤ 7 := fun u x1 x2 => by
    rcases hL.1 u x1 x2 with ⟨y1, y2, -⟩ | ⟨y1, -⟩
    · omega
    · omega
  -- the code
  obtain ⟨⟨g0a, g0b⟩, ⟨g4a, g4b⟩, -, g13, -⟩ := hg.1.2.2.1 k hk.1 hk.2
  have g37 := hg.1.2.2.2 k hk.1 hk.2
  have g4' : gG (oP o p) 4 k < (gR (oP o p)).1 1 0 0 := hg.1.1.2.2.2.2.2.2 k hk.1 hk.2
  obtain ⟨⟨⟨o1, o2, o3⟩, o4, ⟨o5, o6, o7⟩, -⟩, ⟨⟨a1, a2⟩, ⟨a3, a4⟩, -⟩, -⟩ := hCp
  have z53 := zc53 (d := dl) (v := iI k) (by omega) hg (hC.1.2.1 _ hp.1 hp.2) hk rfl
  have z3 := bc3 (d := dl) (by omega) hK Lb (by omega) ⟨g4a, g4'⟩ (rfl : iI (gG (oP o p) 4 k) = _)
  have op := a2 k.toNat (by omega)
  dsimp only at op
  rw [show ((k.toNat : Nat) : Int) = k by omega] at op
  have od := a4 k.toNat (by omega)
  dsimp only at od
  rw [show ((k.toNat : Nat) : Int) = k by omega, g13] at od
  -- the reference's rows
  obtain ⟨rrp, ⟨⟨k1, -⟩, k3, -⟩⟩ := hR.1.2.1 _ hp.1 hp.2
  have rrq := (hR.1.2.1 _ hp2.1 hp2.2).1
  obtain ⟨k4, k5, k6⟩ := k3 k hk.1 hk.2
  have q1 := rr184 (d := d) (M := Mr) (v1 := iI i) (v2 := 0) (v3 := iI (nB - 1)) (i := i) (b := 0) (c := nB - 1) (by omega) rfl rfl rfl (by omega) (by omega) (by omega)
  rw [if_pos (by omega)] at q1
  have q2 := rr184 (d := d) (M := Mr) (v1 := iI k) (v2 := 0) (v3 := iI (gE (oP o p) - 1)) (i := k) (b := 0) (c := gE (oP o p) - 1) (by omega) rfl rfl rfl (by omega) (by omega) (by omega)
  rw [if_pos (by omega)] at q2
  have n10 : ¬ iI 1 = (0 : Int32) := by decide
  have lk1000 : (1000 : Int32) = iI 1000 := rfl
  have Lq := Lb _ g4a g4'
  have rL : ¬ 0 ≤ L (gG (oP o p) 4 k) → ¬ 0 ≤ iI (L (gG (oP o p) 4 k)) := fun y => leI_n (x := 0) li_0 rfl (by omega)
  by_cases y : 0 ≤ L (gG (oP o p) 4 k)
  · rw [if_pos y] at z3
    refine ⟨-2, ?_, ?_⟩
    · skip
      rw [r165]; unfold b165; rw [aR_e, aI_e, aI_e, aZ_e]; unfold c165
      rw [vC_e (ck_64 cM), cP_e z172, jn_v, if_neg (show ¬ some b = none by simp), if_neg (show ¬ iI k < 0 from lsI_n (y := 0) rfl li_0 (by omega)), gtP_q hK.1.1 hK.2.1.1, gtI_q o1 o3, if_pos (lsI_p rfl rfl (by omega)), gtP_q hK.1.1 hK.2.1.1, vC_e o1, cI_e z53, vC_e hK.1.1, cI_e z3, jn_v]
      rw [if_neg n10, jv_e]
    · skip
      rw [r308]; unfold b308; rw [aR_e, aI_e, aI_e, aZ_e]; unfold c308
      rw [gtI_q kr hr.1, show iI nB - (1 : Int32) = iI (nB - 1) from sbI rfl li_1, cI_e q1, jn_v, if_neg n10, gtP_q kr (rf_29 rM), gtP_q kr (rf_155 rM), alI_q (n := 8) (z := i) (rk_257 rM) rfl (by omega) r1, alI_q (n := 8) (z := p) (rk_188 rM) rfl (by omega) k1, show iI (gE (oP o p)) - (1 : Int32) = iI (gE (oP o p) - 1) from sbI rfl li_1, cI_e q2, if_neg n10, gtP_q kr (rf_155 rM), alI_q (n := 8) (z := i) (rk_257 rM) rfl (by omega) r1, gtP_q kr (rf_30 rM), alI_q (n := 8000) (z := 1000 * p + k) (rk_189 rM) (adI (mlI lk1000 rfl) rfl) (by omega) k4, gtP_q kr (rf_32 rM), alI_q (n := 8000) (z := 1000 * p + k) (rk_191 rM) (adI (mlI lk1000 rfl) rfl) (by omega) k6, vC_e kr, cI_e (z307 _ g4a g4'), jn_v]
      rw [if_pos (show 0 ≤ iI (L (gG (oP o p) 4 k)) from leI_p (x := 0) li_0 rfl (by omega)), jv_e]
  rw [if_neg y] at z3
  by_cases y3 : gG (oP o p) 0 k < 3
  · refine ⟨-2, ?_, ?_⟩
    · skip
      rw [r165]; unfold b165; rw [aR_e, aI_e, aI_e, aZ_e]; unfold c165
      rw [vC_e (ck_64 cM), cP_e z172, jn_v, if_neg (show ¬ some b = none by simp), if_neg (show ¬ iI k < 0 from lsI_n (y := 0) rfl li_0 (by omega)), gtP_q hK.1.1 hK.2.1.1, gtI_q o1 o3, if_pos (lsI_p rfl rfl (by omega)), gtP_q hK.1.1 hK.2.1.1, vC_e o1, cI_e z53, vC_e hK.1.1, cI_e z3, jn_v]
      rw [if_pos (show iI 0 = 0 from rfl), gtP_q hK.1.1 hK.2.1.1, gtP_q o1 o5, alI_q (n := (gE (oP o p)).toNat) (z := k) a1 rfl (by omega) op, if_pos (show iI (gG (oP o p) 0 k) < (3 : Int32) from lsI_p (y := 3) rfl rfl (by omega)), jv_e]
    · skip
      rw [r308]; unfold b308; rw [aR_e, aI_e, aI_e, aZ_e]; unfold c308
      rw [gtI_q kr hr.1, show iI nB - (1 : Int32) = iI (nB - 1) from sbI rfl li_1, cI_e q1, jn_v, if_neg n10, gtP_q kr (rf_29 rM), gtP_q kr (rf_155 rM), alI_q (n := 8) (z := i) (rk_257 rM) rfl (by omega) r1, alI_q (n := 8) (z := p) (rk_188 rM) rfl (by omega) k1, show iI (gE (oP o p)) - (1 : Int32) = iI (gE (oP o p) - 1) from sbI rfl li_1, cI_e q2, if_neg n10, gtP_q kr (rf_155 rM), alI_q (n := 8) (z := i) (rk_257 rM) rfl (by omega) r1, gtP_q kr (rf_30 rM), alI_q (n := 8000) (z := 1000 * p + k) (rk_189 rM) (adI (mlI lk1000 rfl) rfl) (by omega) k4, gtP_q kr (rf_32 rM), alI_q (n := 8000) (z := 1000 * p + k) (rk_191 rM) (adI (mlI lk1000 rfl) rfl) (by omega) k6, vC_e kr, cI_e (z307 _ g4a g4'), jn_v]
      rw [if_neg (rL y), if_pos (show iI (gG (oP o p) 0 k) < (3 : Int32) from lsI_p (y := 3) rfl rfl (by omega)), jv_e]
  have n3 : ¬ iI (gG (oP o p) 0 k) < (3 : Int32) := lsI_n (y := 3) rfl rfl (by omega)
  by_cases y7 : 7 < gG (oP o p) 0 k
  · have n7 : ¬ iI (gG (oP o p) 0 k) ≤ (7 : Int32) := leI_n (y := 7) rfl rfl (by omega)
    refine ⟨-2, ?_, ?_⟩
    · skip
      rw [r165]; unfold b165; rw [aR_e, aI_e, aI_e, aZ_e]; unfold c165
      rw [vC_e (ck_64 cM), cP_e z172, jn_v, if_neg (show ¬ some b = none by simp), if_neg (show ¬ iI k < 0 from lsI_n (y := 0) rfl li_0 (by omega)), gtP_q hK.1.1 hK.2.1.1, gtI_q o1 o3, if_pos (lsI_p rfl rfl (by omega)), gtP_q hK.1.1 hK.2.1.1, vC_e o1, cI_e z53, vC_e hK.1.1, cI_e z3, jn_v]
      rw [if_pos (show iI 0 = 0 from rfl), gtP_q hK.1.1 hK.2.1.1, gtP_q o1 o5, alI_q (n := (gE (oP o p)).toNat) (z := k) a1 rfl (by omega) op, if_neg n3, gtP_q hK.1.1 hK.2.1.1, gtP_q o1 o5, alI_q (n := (gE (oP o p)).toNat) (z := k) a1 rfl (by omega) op, if_neg n7, jv_e]
    · skip
      rw [r308]; unfold b308; rw [aR_e, aI_e, aI_e, aZ_e]; unfold c308
      rw [gtI_q kr hr.1, show iI nB - (1 : Int32) = iI (nB - 1) from sbI rfl li_1, cI_e q1, jn_v, if_neg n10, gtP_q kr (rf_29 rM), gtP_q kr (rf_155 rM), alI_q (n := 8) (z := i) (rk_257 rM) rfl (by omega) r1, alI_q (n := 8) (z := p) (rk_188 rM) rfl (by omega) k1, show iI (gE (oP o p)) - (1 : Int32) = iI (gE (oP o p) - 1) from sbI rfl li_1, cI_e q2, if_neg n10, gtP_q kr (rf_155 rM), alI_q (n := 8) (z := i) (rk_257 rM) rfl (by omega) r1, gtP_q kr (rf_30 rM), alI_q (n := 8000) (z := 1000 * p + k) (rk_189 rM) (adI (mlI lk1000 rfl) rfl) (by omega) k4, gtP_q kr (rf_32 rM), alI_q (n := 8000) (z := 1000 * p + k) (rk_191 rM) (adI (mlI lk1000 rfl) rfl) (by omega) k6, vC_e kr, cI_e (z307 _ g4a g4'), jn_v]
      rw [if_neg (rL y), if_neg n3, if_neg n7, jv_e]
  have n7 : iI (gG (oP o p) 0 k) ≤ (7 : Int32) := leI_p (y := 7) rfl rfl (by omega)
  obtain ⟨⟨m0, m1⟩, -⟩ := g37 (by omega) (by omega)
  obtain ⟨m, hm⟩ : ∃ m, m = gG (oP o p) 3 k := ⟨_, rfl⟩
  rw [← hm] at od k5 m0 m1
  have z4 := bc4 (d := dl) (by omega) hK (by omega) ⟨m0, m1⟩ (rfl : iI m = iI m)
  obtain ⟨-, -, e3, -⟩ := hg.1.1.2.2.2.1 m m0 (by omega)
  have e171 : Mr.1 171 (96 * p + m).toNat = iI ((gR (oP o p)).1 2 1 m) := rrp.at (q := (171, 96, 2, 1)) (by decide) m0 (show m < 96 by omega) rfl
  obtain ⟨x, x1, x2⟩ := a237 (d := d) (p := p) (q := q) (n := m) (L := L ((gR (oP o p)).1 2 1 m)) (v1 := iI p) (v2 := iI m) (v3 := iI q) (v4 := iI (L ((gR (oP o p)).1 2 1 m))) (by omega) rM rrp rrq (by omega) ⟨by omega, by omega, m0, m1⟩ hg.rb hg2.rb rfl rfl rfl rfl
  have Lm := Lb _ e3.1 (show (gR (oP o p)).1 2 1 m < (gR (oP o p)).1 1 0 0 by omega)
  have fin : ∀ r : Int32, (r = if lk m = -2 then -2 else if 0 ≤ lk m then 0 else -iI (lk m)) → (-13 ≤ lk m ∧ lk m ≤ 96) → (L ((gR (oP o p)).1 2 1 m) < 0 → r = -2) → (0 ≤ L ((gR (oP o p)).1 2 1 m) → (if ((0 : Int32)) < (-iI (zLk (gR (oP o p)) (gR (oP o q)) m x)) then (-iI (zLk (gR (oP o p)) (gR (oP o q)) m x)) else ((0 : Int32))) = r) → ∃ r, runX (dl + 1) 165 [va_rf (some 64), .int (iI i), .int (iI k)] Mc = some (.int r, Mc) ∧ runX (d + 1) 308 [va_rf (some 160), .int (iI i), .int (iI k)] Mr = some (.int r, Mr) := fun r hr1 hr2 hr3 hr4 => by
    refine ⟨r, ?_, ?_⟩
    · skip
      rw [r165]; unfold b165; rw [aR_e, aI_e, aI_e, aZ_e]; unfold c165
      rw [vC_e (ck_64 cM), cP_e z172, jn_v, if_neg (show ¬ some b = none by simp), if_neg (show ¬ iI k < 0 from lsI_n (y := 0) rfl li_0 (by omega)), gtP_q hK.1.1 hK.2.1.1, gtI_q o1 o3, if_pos (lsI_p rfl rfl (by omega)), gtP_q hK.1.1 hK.2.1.1, vC_e o1, cI_e z53, vC_e hK.1.1, cI_e z3, jn_v]
      rw [if_pos (show iI 0 = 0 from rfl), gtP_q hK.1.1 hK.2.1.1, gtP_q o1 o5, alI_q (n := (gE (oP o p)).toNat) (z := k) a1 rfl (by omega) op, if_neg n3, gtP_q hK.1.1 hK.2.1.1, gtP_q o1 o5, alI_q (n := (gE (oP o p)).toNat) (z := k) a1 rfl (by omega) op, if_pos n7, gtP_q hK.1.1 hK.2.1.1, gtP_q o1 o6, alI_q (n := (gE (oP o p)).toNat) (z := k) a3 rfl (by omega) od, vC_e hK.1.1, cI_e z4, jn_v]
      by_cases w1 : lk m = -2
      · rw [if_pos (show iI (lk m) = (-2 : Int32) by rw [w1]; rfl), jv_e, hr1, if_pos w1]
      · rw [if_neg (show ¬ iI (lk m) = (-2 : Int32) from eqI_n (y := -2) rfl rfl (by omega))]
        by_cases w2 : 0 ≤ lk m
        · rw [if_pos (show 0 ≤ iI (lk m) from leI_p (x := 0) li_0 rfl (by omega)), jv_e, hr1, if_neg w1, if_pos w2]
        · rw [if_neg (show ¬ 0 ≤ iI (lk m) from leI_n (x := 0) li_0 rfl (by omega)), jv_e, hr1, if_neg w1, if_neg w2]
    · skip
      rw [r308]; unfold b308; rw [aR_e, aI_e, aI_e, aZ_e]; unfold c308
      rw [gtI_q kr hr.1, show iI nB - (1 : Int32) = iI (nB - 1) from sbI rfl li_1, cI_e q1, jn_v, if_neg n10, gtP_q kr (rf_29 rM), gtP_q kr (rf_155 rM), alI_q (n := 8) (z := i) (rk_257 rM) rfl (by omega) r1, alI_q (n := 8) (z := p) (rk_188 rM) rfl (by omega) k1, show iI (gE (oP o p)) - (1 : Int32) = iI (gE (oP o p) - 1) from sbI rfl li_1, cI_e q2, if_neg n10, gtP_q kr (rf_155 rM), alI_q (n := 8) (z := i) (rk_257 rM) rfl (by omega) r1, gtP_q kr (rf_30 rM), alI_q (n := 8000) (z := 1000 * p + k) (rk_189 rM) (adI (mlI lk1000 rfl) rfl) (by omega) k4, gtP_q kr (rf_32 rM), alI_q (n := 8000) (z := 1000 * p + k) (rk_191 rM) (adI (mlI lk1000 rfl) rfl) (by omega) k6, vC_e kr, cI_e (z307 _ g4a g4'), jn_v]
      rw [if_neg (rL y), if_neg n3, if_pos n7, gtP_q kr (rf_31 rM), alI_q (n := 8000) (z := 1000 * p + k) (rk_190 rM) (adI (mlI lk1000 rfl) rfl) (by omega) k5, gtP_q kr (rf_12 rM), alI_q (n := 768) (z := 96 * p + m) (rk_171 rM) (adI (mlI (show (96 : Int32) = iI 96 from rfl) rfl) rfl) (by omega) e171, vC_e kr, cI_e (z307 _ e3.1 (by omega)), jn_v]
      by_cases w1 : 0 ≤ L ((gR (oP o p)).1 2 1 m)
      · rw [if_pos (show 0 ≤ iI (L ((gR (oP o p)).1 2 1 m)) from leI_p (x := 0) li_0 rfl (by omega)), gtP_q kr (rf_156 rM), alI_q (n := 8) (z := i) (rk_258 rM) rfl (by omega) r2, vC_e kr, cI_e x2, hr4 w1, lt_e, jv_e]
      · rw [if_neg (show ¬ 0 ≤ iI (L ((gR (oP o p)).1 2 1 m)) from leI_n (x := 0) li_0 rfl (by omega)), jv_e, hr3 (by omega)]
  rcases hL.2 m m0 m1 with ⟨w1, w2⟩ | ⟨w1, x', w2, w3, w4⟩
  · exact fin (-2) (by rw [if_pos w2]) (by omega) (fun _ => rfl) (fun z => by omega)
  · have ex := w2.one x1
    subst ex
    rcases w4 with ⟨w4, w5, w6⟩ | ⟨w4, w5, w6⟩
    · refine fin 0 (by rw [if_neg (by omega), if_pos w4]) (by omega) (fun z => by omega) (fun _ => ?_)
      rw [w6, show -iI (96 + x') = iI (-(96 + x')) from by rw [iI_neg], if_neg (lsI_n (x := 0) li_0 rfl (by omega))]
    · refine fin (-iI (lk m)) (by rw [if_neg (by omega), if_neg (by omega)]) (by omega) (fun z => by omega) (fun _ => ?_)
      rw [w6, show -iI (lk m) = iI (-(lk m)) from by rw [iI_neg], if_pos (lsI_p (x := 0) li_0 rfl (by omega))]
end S9dn
