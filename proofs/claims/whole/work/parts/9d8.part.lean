/-! suspects ahead of a CASE: both -/
section S9d8
variable {d dl : Nat} {o : HO} {v : VR} {q : QN} {P : Nat → Int} {s s' u hs : ZS} {M M' Mc Mr Mc' Mr' X : Mem} {LL a j : Nat} {xs : Nat → Int32} {c p i n st b nc sl al wo wr : Int} {w sd v1 v2 : Int32} {e : ZS} {κ : ZK} {g : PG} {ss : Int → Int}
/-- between runs, out of the lives of a run -/
theorem RI.ki (hq : q = (sl, al, 0, 0, 0)) (h : RI LL xs o (v1p p) q n s Mc Mr) (h12 : 0 ≤ s.1 12 0 0 ∧ s.1 12 0 0 ≤ 40000) (h84 : Mr.1 160 84 = iI 0) (h17 : ∀ D, 0 ≤ s.1 17 D 0 ∧ s.1 17 D 0 ≤ 34000) : KI LL xs o p sl 0 (s.1 12 0 0) s Mc Mr ∧ (Mc.1 88 3 = iI (if al < 0 then -2 else al) ∧ Mr.1 160 90 = iI al) := by
  have q1 : q.1 = sl := by rw [hq]
  have q2 : q.2.1 = al := by rw [hq]
  have q3 : q.2.2.1 = 0 := by rw [hq]
  have q4 : q.2.2.2.1 = 0 := by rw [hq]
  have q5 : q.2.2.2.2 = 0 := by rw [hq]
  obtain ⟨⟨z1, z2⟩, ⟨⟨w1, ⟨w2, w3, w4, w5⟩, w6, w7⟩, z4⟩, -, ⟨z6, z7⟩, ⟨z8, z9, z10, z11, z12, z13⟩, z14⟩ := id h
  have hd' := h.hd
  have e10 : Mc.1 88 10 = iI (s.1 12 0 0) := by
    have := h.2.2.1.1.2.1
    rw [this]
    unfold zcw
    rw [if_neg (by rw [z8.2]; decide), if_pos h12.1]
  refine ⟨⟨⟨z1, z2⟩, fun al' => ⟨w1, ⟨?_, sI_eq, ?_, ?_⟩, w6, fun z => absurd z v1F⟩, ⟨?_, ?_, ?_, ?_⟩, z6, ⟨e10, h.2.2.1.2.2.2.1, h84, h12⟩, hd'.1, hd'.2, h17⟩, ?_, ?_⟩
  · rw [← q1]; exact (sI_nej (by decide)).trans w2
  · rw [q3, q4] at w4; exact (sI_nej (by decide)).trans w4
  · rw [q5] at w5; exact w5
  · rw [z7, q1]
  · rw [z4.2.1.2.1, q3]
  · rw [z4.2.1.2.2.1, q4]
  · rw [z4.2.1.2.2.2, q5]
  · rw [q2] at w3; exact w3
  · rw [z4.2.1.1, q2]
theorem RB.ks (hq : q = (sl, -1, 0, 0, 0)) (h : RB LL xs o (v1p p) q Mc Mr) (h10 : Mc.1 88 10 = iI (-1)) (h84 : Mr.1 160 84 = iI 1) (hc : hdC u Mc) (hr : hdR u Mr) (h17 : ∀ D, 0 ≤ u.1 17 D 0 ∧ u.1 17 D 0 ≤ 34000) : KSx LL xs o p sl 0 Mc Mr := by
  have q1 : q.1 = sl := by rw [hq]
  have q2 : q.2.1 = -1 := by rw [hq]
  have q3 : q.2.2.1 = 0 := by rw [hq]
  have q4 : q.2.2.2.1 = 0 := by rw [hq]
  have q5 : q.2.2.2.2 = 0 := by rw [hq]
  obtain ⟨⟨z1, z2⟩, ⟨z3, z4⟩, z6, z7⟩ := h
  refine ⟨⟨⟨z1, z2⟩, ⟨?_, ?_, ?_, ?_⟩, z6, ⟨h10, h84⟩, u, hc, hr, h17⟩, ?_⟩
  · rw [z7, q1]
  · rw [z4.2.1.2.1, q3]
  · rw [z4.2.1.2.2.1, q4]
  · rw [z4.2.1.2.2.2, q5]
  · rw [z4.2.1.1, q2]
theorem zHw.tr {s1 : ZS} (h : zHw s s1) (g : zHw s1 s') : zHw s s' := ⟨g.1.trans h.1, g.2.trans h.2⟩
theorem hdC.cg (h : hdC s M) (g : zHw s s') (h17 : s'.1 17 = s.1 17) : hdC s' M := fun Q a b => by
  obtain ⟨y1, y2, y3⟩ := h Q a b
  rw [h17, g.1, g.2]
  exact ⟨y1, y2, y3⟩
theorem hdR.cg (h : hdR s M) (g : zHw s s') (h17 : s'.1 17 = s.1 17) : hdR s' M := fun Q a b => by
  obtain ⟨y1, y2, y3⟩ := h Q a b
  rw [h17, g.1, g.2]
  exact ⟨y1, y2, y3⟩
/-- the suspects, one after the other -/
theorem pass_loop (hdl : 12 ≤ dl) (hd : 63 ≤ d) (hP : hoP o) (hp : 0 ≤ p ∧ p < oN o) (hsl : 1 ≤ sl ∧ sl ≤ 1000) (hq : q = (sl, -1, 0, 0, 0)) (hnc : nc = (gR (oP o p)).1 3 0 0) (hn : n ≤ 15) (hss : ∀ j, 0 ≤ j → j < n → 0 ≤ ss j ∧ ss j < nc) (hwo : ∀ i, 0 ≤ i → i < n → (wo = i ↔ wr = i)) (hwb : -1000 ≤ wo ∧ wo ≤ 1000 ∧ -1000 ≤ wr ∧ wr ≤ 1000) : ∀ (m : Nat) (i : Int) (s : ZS) (Mc Mr : Mem) (N N' : Nat), i + m = n → 0 ≤ i → m + 1 < N → m + 1 < N' → RI LL xs o (v1p p) q 17 s Mc Mr → 0 ≤ s.1 12 0 0 → Mr.1 160 84 = iI 0 → (∀ j : Int, 0 ≤ j → j < n → Mc.1 148 j.toNat = iI (ss j) ∧ Mr.1 256 j.toNat = iI (ss j)) → ∃ Mc' Mr', Fz (Zkc o 150) Mc Mc' ∧ Fz (ZR 0 0) Mr Mr' ∧ (∀ J' : Mem → XA, lp (c303_9 (runX d) (some 160) (iI n) (iI wr) J') N' (iI i, Mr) = J' Mr') ∧ RB LL xs o (v1p p) q Mc' Mr' ∧ ((∃ s', (∀ J : Mem → XA, lp (c174_19 (runX dl) (some 64) (some (gX (oP o p))) (some 148) (iI (n + 1)) (iI wo) (some 150) J (some 89)) N (iI i, Mc) = lp (c174_19 (runX dl) (some 64) (some (gX (oP o p))) (some 148) (iI (n + 1)) (iI wo) (some 150) J (some 89)) (N - m) (iI n, Mc')) ∧ RI LL xs o (v1p p) q 17 s' Mc' Mr' ∧ (zHw s s' ∧ s'.1 17 = s.1 17) ∧ (0 ≤ s'.1 12 0 0 ∧ s'.1 12 0 0 ≤ s.1 12 0 0) ∧ Mr'.1 160 84 = iI 0) ∨ ((∀ J : Mem → XA, lp (c174_19 (runX dl) (some 64) (some (gX (oP o p))) (some 148) (iI (n + 1)) (iI wo) (some 150) J (some 89)) N (iI i, Mc) = J Mc') ∧ (Mc'.1 88 10 = iI (-1) ∧ Mr'.1 160 84 = iI 1) ∧ ∃ u X, RI LL xs o (v1p p) q 17 u X Mr' ∧ (zHw s u ∧ u.1 17 = s.1 17) ∧ u.1 12 0 0 = 0 ∧ hdC u Mc')) := by
  have q1 : q.1 = sl := by rw [hq]
  have q2 : q.2.1 = -1 := by rw [hq]
  have q3 : q.2.2.1 = 0 := by rw [hq]
  have q4 : q.2.2.2.1 = 0 := by rw [hq]
  have q5 : q.2.2.2.2 = 0 := by rw [hq]
  have hqk : qOK o (v1p p) q := ⟨by omega, Or.inl q2, Or.inl q3, Or.inl q4, Or.inl q5⟩
  have hu : rPu o (v1p p) q := rPu.one hP hp hqk
  have lo := pk_lo hP hp
  have p8 := hP.1
  intro m
  induction m with
  | zero =>
    intro i s Mc Mr N N' h1 h2 h3 h4 h h12 h84 hT
    obtain ⟨N', rfl⟩ : ∃ e, N' = e + 1 := ⟨N' - 1, by omega⟩
    have e : i = n := by omega
    subst e
    refine ⟨Mc, Mr, Fz.r, Fz.r, fun J' => ?_, h.rb, Or.inl ⟨s, fun J => rfl, h, ⟨⟨rfl, rfl⟩, rfl⟩, ⟨h12, Int.le_refl _⟩, h84⟩⟩
    rw [lp_e]; unfold c303_9
    dsimp only
    rw [if_pos (leI_p rfl rfl (by omega))]
  | succ m ih =>
    intro i s Mc Mr N N' h1 h2 h3 h4 h h12 h84 hT
    obtain ⟨N, rfl⟩ : ∃ e, N = e + 1 := ⟨N - 1, by omega⟩
    obtain ⟨N', rfl⟩ : ∃ e, N' = e + 1 := ⟨N' - 1, by omega⟩
    have hC := h.1.1.1.1
    have hR := h.1.2.1.1
    obtain ⟨⟨⟨o1, o2, o3⟩, o4, -⟩, -, ⟨k1, -⟩, hL, hTT, -⟩ := h.1.1.2.1 p hp.1 hp.2
    have hci := hss i h2 (by omega)
    obtain ⟨c, hcd⟩ : ∃ c, c = ss i := ⟨_, rfl⟩
    obtain ⟨d1, d2⟩ := hT i h2 (by omega)
    rw [← hcd] at hci d1 d2
    have hcw := h.2.2.1.1.2.1
    have hwz : zcw s = s.1 12 0 0 := by
      unfold zcw
      rw [if_neg (by rw [h.2.2.2.2.1.1.2]; decide), if_pos h12]
    have hb12 := h.2.2.2.2.1.2.2.2.2.2
    have Nm : N + 1 - (m + 1) = N - m := by omega
    rw [Nm]
    by_cases hw : wo = i
    · -- left out
      have hw2 := (hwo i h2 (by omega)).1 hw
      have tc : ∀ J, lp (c174_19 (runX dl) (some 64) (some (gX (oP o p))) (some 148) (iI (n + 1)) (iI wo) (some 150) J (some 89)) (N + 1) (iI i, Mc) = lp (c174_19 (runX dl) (some 64) (some (gX (oP o p))) (some 148) (iI (n + 1)) (iI wo) (some 150) J (some 89)) N (iI (i + 1), Mc) := fun J => c174_w (d := dl) (N := N) (J := J) (M := Mc) (len := n + 1) (by omega) hC (hcw.trans (by rw [hwz])) (n := s.1 12 0 0) (by omega) (by omega) ⟨ck_148 hC, by omega, d1⟩ ⟨o1, o4 3 (by decide) (by decide)⟩ (hL 3 (by decide) (by decide)) (by omega) (hTT 3 (by decide) (by decide) c hci.1 (by omega)).1.1 rfl (by rw [hw])
      have tr : ∀ J' go, c303_9 (runX d) (some 160) (iI n) (iI wr) J' (iI i, Mr) go = go (iI (i + 1), Mr) := fun J' go => by
        unfold c303_9
        dsimp only
        rw [if_neg (leI_n rfl rfl (by omega)), gtI_q (rk_160 hR) h84, if_pos (show iI 0 = 0 from rfl), jn_v, if_pos (show iI i = iI wr by rw [hw2]), jv_e]
        exact ltI_q (z := i + 1) (adI rfl li_1)
      obtain ⟨Mc', Mr', r1, r2, r3, r4, r5⟩ := ih (i + 1) s Mc Mr N N' (by omega) (by omega) (by omega) (by omega) h h12 h84 hT
      refine ⟨Mc', Mr', r1, r2, fun J' => ?_, r4, ?_⟩
      · rw [lp_e, tr]; exact r3 J'
      · rcases r5 with ⟨s', t1, t2⟩ | ⟨t1, t2⟩
        · exact Or.inl ⟨s', fun J => (tc J).trans (t1 J), t2⟩
        · exact Or.inr ⟨fun J => (tc J).trans (t1 J), t2⟩
    · have hw2 : wr ≠ i := fun z => hw ((hwo i h2 (by omega)).2 z)
      obtain ⟨Mc2, Mr2, x1, x2, x3, x4, x5, x6⟩ := RI.turnS (dl := dl) (d := d) (c := c) (i := i) (w := iI c) hdl hd hu h (by omega) (by omega) (Or.inl rfl) (Or.inr ⟨rfl, q3⟩) q3 q4 q5 h12 (show 0 ≤ c ∧ c < (gR (oP o p)).1 3 0 0 by omega) rfl
      have rs := rs_15 hC (Or.inl (rfl : 150 = 150))
      have f15 : Fz (ZM o 0 0) Mc Mc2 := ((Fz.r).si (Or.inl ⟨rfl, by decide⟩)).tr ((by rw [← q3]; exact x3.zm : Fz (ZM o p 0) _ _).m fun _ _ z => ZM_0 z)
      have g15 : Fz (ZR 0 0) Mr Mr2 := (x4.zr (p := p) (k := 0) rfl q3).m fun _ _ z => ZR_0 z
      obtain ⟨Mc3, hMc3⟩ : ∃ X, X = wr4 (fun t => 150 + 1 + t) c.toNat Mc2 := ⟨_, rfl⟩
      have tc : ∀ J, lp (c174_19 (runX dl) (some 64) (some (gX (oP o p))) (some 148) (iI (n + 1)) (iI wo) (some 150) J (some 89)) (N + 1) (iI i, Mc) = lp (c174_19 (runX dl) (some 64) (some (gX (oP o p))) (some 148) (iI (n + 1)) (iI wo) (some 150) J (some 89)) N (iI (i + 1), Mc3) := fun J => by
        rw [hMc3]
        exact c174_t (d := dl) (N := N) (J := J) (M := Mc) (r := fun t => 150 + 1 + t) (wo := wo) (len := n + 1) (by omega) hC (hcw.trans (by rw [hwz])) (n := s.1 12 0 0) (by omega) (by omega) ⟨ck_148 hC, by omega, d1⟩ ⟨o1, o4 3 (by decide) (by decide)⟩ (hL 3 (by decide) (by decide)) (by omega) (hTT 3 (by decide) (by decide) c hci.1 (by omega)).1.1 rfl rfl (by omega) rs (by omega) x1 f15.1
      have tr : ∀ J' go, c303_9 (runX d) (some 160) (iI n) (iI wr) J' (iI i, Mr) go = go (iI (i + 1), Mr2) := fun J' go => by
        unfold c303_9
        dsimp only
        rw [if_neg (leI_n rfl rfl (by omega)), gtI_q (rk_160 hR) h84, if_pos (show iI 0 = 0 from rfl), jn_v, if_neg (show ¬ iI i = iI wr from eqI_n rfl rfl (by omega)), gtP_q (rk_160 hR) (rf_153 hR), alI_q (n := 16) (z := i) (rk_256 hR) rfl (by omega) d2, vC_e (rk_160 hR), cV_e x2, jv_e]
        exact ltI_q (z := i + 1) (adI rfl li_1)
      have fc : Fz (fun a j => (150 + 1 ≤ a ∧ a ≤ 150 + 4) ∧ j = c.toNat) Mc2 Mc3 := ⟨by rw [hMc3]; exact wr4_2, fun a j z => by
        rw [hMc3]
        refine wr4_o fun k hk y => z ?_
        have y1 : a = 150 + 1 + k := y.1
        exact ⟨by omega, y.2⟩⟩
      have zc : ∀ a j, ((150 + 1 ≤ a ∧ a ≤ 150 + 4) ∧ j = c.toNat) → hoZ o a j := fun a j z => bs_ho hP (Or.inl rfl) z.1
      have f03 : Fz (Zkc o 150) Mc Mc3 := (f15.m fun a j z => Or.inl z).tr (fc.m fun a j z => Or.inr z.1)
      have rb3 : RB LL xs o (v1p p) q Mc3 Mr2 := x5.sub (Z' := fun _ _ => False) hP fc (fun a j z => ⟨zc a j z, fun y => by omega, by left; omega⟩) Fz.r (fun a j z => z.elim)
      have n148 : ∀ j : Int, 0 ≤ j → j < n → Mc3.1 148 j.toNat = iI (ss j) ∧ Mr2.1 256 j.toNat = iI (ss j) := fun j a b => ⟨(f03.2 _ _ fun y => by
        rcases y with y | y
        · have := ZM_x y; omega
        · omega).trans (hT j a b).1, (g15.2 _ _ fun y => by unfold ZR at y; omega).trans (hT j a b).2⟩
      rcases x6 with ⟨s', V, Fa, Wh, y1, y2, y3, y4, y5⟩ | ⟨y1, y2, u, y3, y4, y5, y6⟩
      · have h3' : RI LL xs o (v1p p) q 17 s' Mc3 Mr2 := by
          refine y1.sub (Z' := fun _ _ => False) hP hu.2.1 fc (fun a j z => ⟨zc a j z, fun y => by omega, by omega, by omega, by omega, ?_, ?_⟩) Fz.r (fun a j z => z.elim)
          · show a < gX (oP o p) + 13 ∨ gX (oP o p) + 15 < a
            omega
          · left; omega
        obtain ⟨Mc', Mr', r1, r2, r3, r4, r5⟩ := ih (i + 1) s' Mc3 Mr2 N N' (by omega) (by omega) (by omega) (by omega) h3' y3.1 (y5.trans h84) n148
        refine ⟨Mc', Mr', f03.tr r1, g15.tr r2, fun J' => ?_, r4, ?_⟩
        · rw [lp_e, tr]; exact r3 J'
        · rcases r5 with ⟨s2, t1, t2, t3, t4, t5⟩ | ⟨t1, t2, u, X, t3, t4, t5⟩
          · exact Or.inl ⟨s2, fun J => (tc J).trans (t1 J), t2, ⟨y2.1.tr t3.1, t3.2.trans y2.2⟩, by omega, t5⟩
          · exact Or.inr ⟨fun J => (tc J).trans (t1 J), t2, u, X, t3, ⟨y2.1.tr t4.1, t4.2.trans y2.2⟩, t5⟩
      · obtain ⟨N, rfl⟩ : ∃ e, N = e + 1 := ⟨N - 1, by omega⟩
        obtain ⟨N', rfl⟩ : ∃ e, N' = e + 1 := ⟨N' - 1, by omega⟩
        have e10 : Mc3.1 88 10 = iI (-1) := (fc.2 _ _ fun z => by omega).trans y1
        have cs : ∀ J : Mem → XA, lp (c174_19 (runX dl) (some 64) (some (gX (oP o p))) (some 148) (iI (n + 1)) (iI wo) (some 150) J (some 89)) (N + 1) (iI (i + 1), Mc3) = J Mc3 := fun J => c174_s (by omega) rb3.1.1.1.1 e10 (by omega) (by omega) rfl
        have r2 : ∀ (J' : Mem → XA) go, c303_9 (runX d) (some 160) (iI n) (iI wr) J' (iI (i + 1), Mr2) go = J' Mr2 := fun J' go => by
          unfold c303_9
          dsimp only
          by_cases y : n ≤ i + 1
          · rw [if_pos (leI_p rfl rfl (by omega))]
          · rw [if_neg (leI_n rfl rfl (by omega)), gtI_q (rk_160 rb3.1.2.1.1) y2, if_neg (show ¬ iI 1 = 0 by decide)]
        exact ⟨Mc3, Mr2, f03, g15, fun J' => by rw [lp_e, tr, lp_e, r2], rb3, Or.inr ⟨fun J => (tc J).trans (cs J), ⟨e10, y2⟩, u, _, y3, y4, y5, fun Q a b => by
          obtain ⟨z1, z2, z3⟩ := y6 Q a b
          have tz : zTw Q + 3 < 140 := by unfold zTw; omega
          exact ⟨(fc.2 _ _ fun z => by omega).trans z1, fun j m n => (fc.2 _ _ fun z => by omega).trans (z2 j m n), fun j m n => (fc.2 _ _ fun z => by omega).trans (z3 j m n)⟩⟩⟩
end S9d8
