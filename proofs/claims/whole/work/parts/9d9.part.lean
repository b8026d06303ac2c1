/-! runCases() of the class beside passesBehind() of the reference -/
section S9d9
variable {d dl : Nat} {o : HO} {v : VR} {q : QN} {P : Nat → Int} {s s' u hs : ZS} {M M' Mc Mr Mc' Mr' X : Mem} {LL a j : Nat} {xs : Nat → Int32} {c p i n st b nc sl al wo wr : Int} {w sd v1 v2 : Int32} {e : ZS} {κ : ZK} {g : PG} {ss : Int → Int}
theorem pass_pair (hdl : 13 ≤ dl) (hd : 64 ≤ d) (hP : hoP o) (hp : 0 ≤ p ∧ p < oN o) (hsl : 1 ≤ sl ∧ sl ≤ 1000) (hnc : nc = (gR (oP o p)).1 3 0 0) (hn : 0 ≤ n ∧ n ≤ 15) (hss : ∀ j, 0 ≤ j → j < n → 0 ≤ ss j ∧ ss j < nc) (hc : 0 ≤ c ∧ c < nc) (hwo : ∀ i, 0 ≤ i → i < n → (wo = i ↔ wr = i)) (hwn : wo ≠ n) (hwb : -1000 ≤ wo ∧ wo ≤ 1000 ∧ -1000 ≤ wr ∧ wr ≤ 1000) (h : KI LL xs o p sl 0 b hs Mc Mr) (h3 : Mc.1 88 3 = iI (-2)) (h90 : Mr.1 160 90 = iI (-1)) (hT : ∀ j : Int, 0 ≤ j → j < n → Mc.1 148 j.toNat = iI (ss j) ∧ Mr.1 256 j.toNat = iI (ss j)) (hTn : Mc.1 148 n.toNat = iI c) (hw : w = iI p) (hv1 : v1 = iI n) (hv2 : v2 = iI c) : ∃ Mc' Mr' V, runX dl 174 [va_rf (some 64), va_rf (some (gX (oP o p))), va_rf (some 148), .int (iI (n + 1)), .int (iI wo), va_rf (some 150)] Mc = some (.null, Mc') ∧ runX d 303 [va_rf (some 160), .int w, .int v1, .int (iI wr), .int v2] Mr = some (.int (iI (if V = iI 1 then 1 else 0)), Mr') ∧ Fz (Zkc o 150) Mc Mc' ∧ Fz (ZR 0 0) Mr Mr' ∧ ((∃ b' hs', KI LL xs o p sl 0 b' hs' Mc' Mr' ∧ b' ≤ b ∧ Mc'.1 88 3 = iI (-2) ∧ Mr'.1 160 90 = iI (-1) ∧ Mc'.1 89 0 = V) ∨ KSx LL xs o p sl 0 Mc' Mr') := by
  obtain ⟨dl, rfl⟩ : ∃ e, dl = e + 1 := ⟨dl - 1, by omega⟩
  obtain ⟨d, rfl⟩ : ∃ e, d = e + 1 := ⟨d - 1, by omega⟩
  subst hw; subst hv1; subst hv2
  have lo := pk_lo hP hp
  have p8 := hP.1
  obtain ⟨q, hq⟩ : ∃ q : QN, q = (sl, -1, 0, 0, 0) := ⟨_, rfl⟩
  have q1 : q.1 = sl := by rw [hq]
  have q2 : q.2.1 = -1 := by rw [hq]
  have q3 : q.2.2.1 = 0 := by rw [hq]
  have q4 : q.2.2.2.1 = 0 := by rw [hq]
  have q5 : q.2.2.2.2 = 0 := by rw [hq]
  have hqk : qOK o (v1p p) q := ⟨by omega, Or.inl q2, Or.inl q3, Or.inl q4, Or.inl q5⟩
  have hu : rPu o (v1p p) q := rPu.one hP hp hqk
  obtain ⟨Mg, Rg, g1, g2, g3, g4, g5, g6, g7⟩ := h.beg (dl := dl) (d := d) (w := iI p) (al := -1) (q := q) (Mc' := Mc) (Mr' := Mr) (by omega) (by omega) hP hp hsl hq hqk (by rw [if_pos (by decide)]; exact (sI_id h3).symm) (sI_id h90).symm rfl 0 (by omega) hs ⟨rfl, fun _ _ => rfl⟩ (fun z => absurd z (by decide))
  obtain ⟨s, hs'⟩ : ∃ s, s = zst (rE o (v1p p) (pf q 0 0)) b 0 hs := ⟨_, rfl⟩
  rw [← hs'] at g7
  have h12 : s.1 12 0 0 = b := by rw [hs']; rfl
  have h17 : s.1 17 = hs.1 17 := by rw [hs']; rfl
  have b0 := h.2.2.2.2.1.2.2.2
  have hC := h.1.1.1.1
  have hR := h.1.2.1.1
  have cG : CT Mg := hC.keep g3
  have rG : RT Rg := hR.keep g5
  have fz : Fz (ZM o 0 0) Mc Mg := ⟨g3, fun a j z => g4 a j fun y => z (by unfold ZM; omega)⟩
  have gz : Fz (ZR 0 0) Mr Rg := ⟨g5, fun a j z => g6 a j fun y => z (Zma_R y)⟩
  have T2 : ∀ j : Int, 0 ≤ j → j < n → Mg.1 148 j.toNat = iI (ss j) ∧ Rg.1 256 j.toNat = iI (ss j) := fun j a b => ⟨(fz.2 _ _ fun y => by have := ZM_x y; omega).trans (hT j a b).1, (gz.2 _ _ fun y => by unfold ZR at y; omega).trans (hT j a b).2⟩
  have T2n : Mg.1 148 n.toNat = iI c := (fz.2 _ _ fun y => by have := ZM_x y; omega).trans hTn
  have g84 : Rg.1 160 84 = iI 0 := (g6 _ _ (by unfold Zma; omega)).trans h.2.2.2.2.1.2.2.1
  obtain ⟨M5, R5, r1, r2, r3, r4, r5⟩ := pass_loop (dl := dl) (d := d) (n := n) (ss := ss) (wo := wo) (wr := wr) (by omega) (by omega) hP hp hsl hq hnc hn.2 hss hwo hwb n.toNat 0 s Mg Rg 4294967296 4294967296 (by omega) (by omega) (by omega) (by omega) g7 (by omega) g84 T2
  have F5 : Fz (Zkc o 150) Mc M5 := (fz.m fun a j z => Or.inl z).tr r1
  have G5 : Fz (ZR 0 0) Mr R5 := gz.tr r2
  -- the ends
  have cl0 : ∀ (Mx : Mem), (∀ J : Mem → XA, lp (c174_19 (runX dl) (some 64) (some (gX (oP o p))) (some 148) (iI (n + 1)) (iI wo) (some 150) J (some 89)) 4294967296 (iI 0, Mg) = J Mx) → runX (dl + 1) 174 [va_rf (some 64), va_rf (some (gX (oP o p))), va_rf (some 148), .int (iI (n + 1)), .int (iI wo), va_rf (some 150)] Mc = some (.null, Mx) := fun Mx hx => by
    rw [r174]; unfold b174; rw [aR_e, aR_e, aR_e, aI_e, aI_e, aR_e, aZ_e]; unfold c174
    rw [gtP_q (ck_64 hC) (cf_64_2 hC), vC_e (ck_88 hC), cV_e g1, gtP_q (ck_64 cG) (cf_64_2 cG), gtP_q (ck_88 cG) (cf_88_0 cG), jn_v, li_0, hx, jv_e]
  have rl0 : ∀ (Ry : Mem), runX d 254 [va_rf (some 160), .int (iI c)] R5 = some (.null, Ry) → RT Ry → runX (d + 1) 303 [va_rf (some 160), .int (iI p), .int (iI n), .int (iI wr), .int (iI c)] Mr = some (.int (iI (if Ry.1 160 101 = iI 1 then 1 else 0)), Ry) := fun Ry hy hRy => by
    have r3' := r3
    rw [← li_0] at r3'
    rw [r303]; unfold b303; rw [aR_e, aI_e, aI_e, aI_e, aI_e, aZ_e]; unfold c303
    rw [vC_e (rk_160 hR), cV_e g2, jn_v, r3', jv_e, vC_e (rk_160 (hR.keep G5.1)), cV_e hy, gtI_q (rk_160 hRy) rfl, jn_v]
    by_cases y : Ry.1 160 101 = iI 1
    · rw [if_pos (show Ry.1 160 101 = (1 : Int32) from y), if_pos y, jv_e]; rfl
    · rw [if_neg (show ¬ Ry.1 160 101 = (1 : Int32) from y), if_neg y, jv_e]; rfl
  rcases r5 with ⟨s', t1, t2, ⟨t3, t4⟩, t5, t6⟩ | ⟨t1, t2, u, Y, t3, ⟨t4, t5⟩, t6, t7⟩
  · have hCg := t2.1.1.1.1
    obtain ⟨⟨⟨o1, o2, o3⟩, o4, -⟩, -, ⟨k1, -⟩, hL, hTT, -⟩ := t2.1.1.2.1 p hp.1 hp.2
    have hcw := t2.2.2.1.1.2.1
    have hwz : zcw s' = s'.1 12 0 0 := by
      unfold zcw
      rw [if_neg (by rw [t2.2.2.2.2.1.1.2]; decide), if_pos t5.1]
    have hb12 := t2.2.2.2.2.1.2.2.2.2.2
    obtain ⟨Mc2, Mr2, x1, x2, x3, x4, x5, x6⟩ := RI.turnS (dl := dl) (d := d) (c := c) (i := n) (w := iI c) (by omega) (by omega) hu t2 (by omega) (by omega) (Or.inl rfl) (Or.inr ⟨rfl, q3⟩) q3 q4 q5 t5.1 (show 0 ≤ c ∧ c < (gR (oP o p)).1 3 0 0 by omega) rfl
    have rs := rs_15 hCg (Or.inl (rfl : 150 = 150))
    have f15 : Fz (ZM o 0 0) M5 Mc2 := ((Fz.r).si (Or.inl ⟨rfl, by decide⟩)).tr ((by rw [← q3]; exact x3.zm : Fz (ZM o p 0) _ _).m fun _ _ z => ZM_0 z)
    have g15 : Fz (ZR 0 0) R5 Mr2 := (x4.zr (p := p) (k := 0) rfl q3).m fun _ _ z => ZR_0 z
    obtain ⟨Mc3, hMc3⟩ : ∃ X, X = wr4 (fun t => 150 + 1 + t) c.toNat Mc2 := ⟨_, rfl⟩
    have n5 : M5.1 148 n.toNat = iI c := (r1.2 _ _ fun y => by
      rcases y with y | y
      · have := ZM_x y; omega
      · omega).trans T2n
    have fc : Fz (fun a j => (150 + 1 ≤ a ∧ a ≤ 150 + 4) ∧ j = c.toNat) Mc2 Mc3 := ⟨by rw [hMc3]; exact wr4_2, fun a j z => by
      rw [hMc3]
      refine wr4_o fun k hk y => z ?_
      have y1 : a = 150 + 1 + k := y.1
      exact ⟨by omega, y.2⟩⟩
    have zc : ∀ a j, ((150 + 1 ≤ a ∧ a ≤ 150 + 4) ∧ j = c.toNat) → hoZ o a j := fun a j z => bs_ho hP (Or.inl rfl) z.1
    have clN : ∀ J : Mem → XA, lp (c174_19 (runX dl) (some 64) (some (gX (oP o p))) (some 148) (iI (n + 1)) (iI wo) (some 150) J (some 89)) 4294967296 (iI 0, Mg) = J Mc3 := fun J => by
      clear x6
      rw [t1 J]
      obtain ⟨N, hN⟩ : ∃ N, 4294967296 - n.toNat = N + 1 + 1 := ⟨4294967296 - n.toNat - 2, by omega⟩
      rw [hN, hMc3]
      refine (c174_t (d := dl) (N := N + 1) (J := J) (M := M5) (r := fun t => 150 + 1 + t) (wo := wo) (len := n + 1) (by omega) hCg (hcw.trans (by rw [hwz])) (n := s'.1 12 0 0) (by omega) (by omega) ⟨ck_148 hCg, by omega, n5⟩ ⟨o1, o4 3 (by decide) (by decide)⟩ (hL 3 (by decide) (by decide)) (by omega) (hTT 3 (by decide) (by decide) c hc.1 (by omega)).1.1 rfl rfl (by omega) rs (by omega) x1 f15.1).trans ?_
      exact c174_e (by omega) (by omega) rfl
    have F6 : Fz (Zkc o 150) Mc Mc3 := F5.tr ((f15.m fun a j z => Or.inl z).tr (fc.m fun a j z => Or.inr z.1))
    have rb3 : RB LL xs o (v1p p) q Mc3 Mr2 := x5.sub (Z' := fun _ _ => False) hP fc (fun a j z => ⟨zc a j z, fun y => by omega, by left; omega⟩) Fz.r (fun a j z => z.elim)
    refine ⟨Mc3, Mr2, Mr2.1 160 101, cl0 Mc3 clN, rl0 Mr2 x2 rb3.1.2.1.1, F6, G5.tr g15, ?_⟩
    rcases x6 with ⟨s2, V, Fa, Wh, y1, y2, y3, y4, y5⟩ | ⟨y1, y2, u, y3, y4, y5, y6⟩
    · have h3' : RI LL xs o (v1p p) q 17 s2 Mc3 Mr2 := by
        refine y1.sub (Z' := fun _ _ => False) hP hu.2.1 fc (fun a j z => ⟨zc a j z, fun y => by omega, by omega, by omega, by omega, ?_, ?_⟩) Fz.r (fun a j z => z.elim)
        · show a < gX (oP o p) + 13 ∨ gX (oP o p) + 15 < a
          omega
        · left; omega
      have e17 : s2.1 17 = hs.1 17 := y2.2.trans (t4.trans h17)
      obtain ⟨k1', k2', k3'⟩ := h3'.ki hq ⟨y3.1, by omega⟩ (y5.trans t6) (fun D => by rw [e17]; exact h.2.2.2.2.2.2.2 D)
      refine Or.inl ⟨_, _, k1', by omega, k2', k3', ?_⟩
      exact (fc.2 _ _ fun z => by omega).trans (y4.1.1.trans y4.2.1.1.symm)
    · have e10 : Mc3.1 88 10 = iI (-1) := (fc.2 _ _ fun z => by omega).trans y1
      have e17 : u.1 17 = hs.1 17 := y4.2.trans (t4.trans h17)
      refine Or.inr (RB.ks (u := u) hq rb3 e10 y2 (fun Q a b => ?_) y3.hd.2 fun D => by rw [e17]; exact h.2.2.2.2.2.2.2 D)
      obtain ⟨z1, z2, z3⟩ := y6 Q a b
      have tz : zTw Q + 3 < 140 := by unfold zTw; omega
      exact ⟨(fc.2 _ _ fun z => by omega).trans z1, fun j m n => (fc.2 _ _ fun z => by omega).trans (z2 j m n), fun j m n => (fc.2 _ _ fun z => by omega).trans (z3 j m n)⟩
  · obtain ⟨Y2, Mr2, s2, y1, y2, y3, y4, y5, y6⟩ := RI.alone (d := d) (c := c) (w := iI c) (by omega) hu t3 (by omega) q3 q4 q5 t6 t2.2 (show 0 ≤ c ∧ c < (gR (oP o p)).1 3 0 0 by omega) rfl
    have g15 : Fz (ZR 0 0) R5 Mr2 := (y2.zr (p := p) (k := 0) rfl q3).m fun _ _ z => ZR_0 z
    refine ⟨M5, Mr2, Mr2.1 160 101, cl0 M5 t1, rl0 Mr2 y1 y3.1.2.1.1, F5, G5.tr g15, Or.inr ?_⟩
    have e17 : s2.1 17 = hs.1 17 := y4.2.trans (t5.trans h17)
    have rb5 : RB LL xs o (v1p p) q M5 Mr2 := ⟨⟨r4.1.1, y3.1.2⟩, ⟨r4.2.1.1, y3.2.1.2⟩, r4.2.2.1.trans ?_, y3.2.2.2.1.2⟩
    · exact RB.ks (u := s2) hq rb5 t2.1 y6 (t7.cg y4.1 y4.2) y3.hd.2 fun D => by rw [e17]; exact h.2.2.2.2.2.2.2 D
    · exact (y2.2.1 _ _ (by decide)).symm
end S9d9
