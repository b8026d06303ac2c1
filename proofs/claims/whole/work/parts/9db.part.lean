/-! suspects are left out, turn after turn: both -/
section S9db
variable {d dl : Nat} {o : HO} {M M' Mc Mr Mc' Mr' X : Mem} {LL a j N x : Nat} {xs : Nat → Int32} {c p i n st b nc sl al wo wr wi n0 tm : Int} {w sd v1 v2 v3 ch v : Int32} {ss Od : Int → Int}
theorem c162_170s {J : Int32 × Mem → XA} {x2 : Option Nat} (hd : 1 ≤ d) (hC : CT M) (h10 : M.1 88 10 = iI (-1)) : lp (c162_170 (runX d) (some 64) J x2) (N + 2) (v1, v2, v3, M) = J (v1, M) := by
  by_cases y : (16 : Int32) < v3
  · rw [lp_e]; unfold c162_170
    dsimp only
    rw [if_pos y]
  by_cases y2 : v2 = 0
  · rw [lp_e]; unfold c162_170
    dsimp only
    rw [if_neg y, if_pos y2]
  have e1 : ∀ go, c162_170 (runX d) (some 64) J x2 (v1, v2, v3, M) go = go (v1, 0, v3 + 1, M) := fun go => by
    unfold c162_170
    dsimp only
    rw [if_neg y, if_neg y2, jn_v, lp_e, c162_192s hd hC h10, jv_e]
    dsimp only
    rw [jn_v, if_pos (Int32.le_refl _), jv_e, lt_e]
  have e2 : ∀ v3 go, c162_170 (runX d) (some 64) J x2 (v1, 0, v3, M) go = J (v1, M) := fun v3 go => by
    unfold c162_170
    dsimp only
    by_cases y : (16 : Int32) < v3
    · rw [if_pos y]
    · rw [if_neg y, if_pos rfl]
  rw [show N + 2 = N + 1 + 1 from rfl, lp_e, e1, lp_e, e2]
theorem c304_154s {J' : Int32 × Mem → XA} (hR : RT M) (h84 : M.1 160 84 = iI 1) : lp (c304_154 (runX d) (some 160) w v J') (N + 1) (v1, v2, M) = J' (v1, M) := by
  rw [lp_e]; unfold c304_154
  dsimp only
  by_cases y : v2 = 0
  · rw [if_pos y]
  · rw [if_neg y, gtI_q (rk_160 hR) h84, if_neg (show ¬ iI 1 = 0 by decide)]
theorem turn_all (hdl : 13 ≤ dl) (hd : 64 ≤ d) (hP : hoP o) (hp : 0 ≤ p ∧ p < oN o) (hsl : 1 ≤ sl ∧ sl ≤ 1000) (hnc : nc = (gR (oP o p)).1 3 0 0) (hc : 0 ≤ c ∧ c < nc) (hw : w = iI p) (hv2 : v2 = iI c) : ∀ (m : Nat) (n tm b : Int) (ss : Int → Int) (Mc Mr : Mem) (N N' : Nat), n ≤ m → 0 ≤ tm → tm + n ≤ 15 → m + 3 < N → m + 3 < N' → blS LL xs o p sl nc c n b ss Mc Mr → ∃ Mc' Mr' n1 n2, (∀ J : Int32 × Mem → XA, lp (c162_170 (runX dl) (some 64) J (some (gX (oP o p)))) N (iI n, iI 1, iI tm, Mc) = J (iI n1, Mc')) ∧ (∀ J' : Int32 × Mem → XA, lp (c304_154 (runX d) (some 160) w v2 J') N' (iI n, iI 1, Mr) = J' (n2, Mr')) ∧ Fz (Zbc o) Mc Mc' ∧ Fz Zbr Mr Mr' ∧ ((n2 = iI n1 ∧ ∃ b' ss', b' ≤ b ∧ blS LL xs o p sl nc c n1 b' ss' Mc' Mr') ∨ KSx LL xs o p sl 0 Mc' Mr') := by
  have z10 : ¬ (iI 1 = (0 : Int32)) := by decide
  intro m
  induction m using Nat.strongRecOn with
  | _ m ih =>
    intro n tm b ss Mc Mr N N' h1 h2 h3 h4 h5 h
    obtain ⟨N, rfl⟩ : ∃ e, N = e + 2 + 1 := ⟨N - 3, by omega⟩
    obtain ⟨N', rfl⟩ : ∃ e, N' = e + 1 + 1 := ⟨N' - 2, by omega⟩
    obtain ⟨hs, k1, ⟨k2, k2'⟩, ⟨k3, k4, k5, k6⟩⟩ := id h
    have hR := k1.1.2.1.1
    obtain ⟨M1, R1, n1, g1, g2, g3, g4⟩ := turn_in (s42 := (iI n, iI 1, iI tm, Mc)) hdl hd hP hp hsl hnc hc hw hv2 (n0 := n) rfl (by omega) n.toNat n 0 0 b 0 ss Mc Mr 4294967296 4294967296 (by omega) (by omega) (by decide) (by decide) (by omega) (by omega) h
    rw [← li_0] at g3 g4
    have cl : ∀ (J : Int32 × Mem → XA) go, c162_170 (runX dl) (some 64) J (some (gX (oP o p))) (iI n, iI 1, iI tm, Mc) go = go (iI n1, if iI n ≤ iI n1 then 0 else 1, iI (tm + 1), M1) := fun J go => by
      unfold c162_170
      dsimp only
      rw [if_neg (show ¬ (16 : Int32) < iI tm from lsI_n (x := 16) rfl rfl (by omega)), if_neg z10, jn_v, g3, jv_e]
      dsimp only
      rw [jn_v]
      by_cases y : iI n ≤ iI n1
      · rw [if_pos y, if_pos y, jv_e]
        exact ltI_q (z := tm + 1) (adI rfl li_1)
      · rw [if_neg y, if_neg y, jv_e]
        exact ltI_q (z := tm + 1) (adI rfl li_1)
    rcases g4 with ⟨b', ss', t1, t2, t3, t4⟩ | ⟨⟨n2, ch2, t1⟩, t2⟩
    · have rl : ∀ (J' : Int32 × Mem → XA) go, c304_154 (runX d) (some 160) w v2 J' (iI n, iI 1, Mr) go = go (iI n1, (if n1 < n then iI 1 else 0), R1) := fun J' go => by
        unfold c304_154
        dsimp only
        rw [if_neg z10, gtI_q (rk_160 hR) k1.2.2.2.2.1.2.2.1, if_pos (show iI 0 = 0 from rfl), jn_v, t1, jv_e]
      by_cases y : n1 < n
      · rw [if_neg (show ¬ iI n ≤ iI n1 from leI_n rfl rfl (by omega))] at cl
        rw [if_pos y] at rl
        obtain ⟨Mc', Mr', n3, n4, q1, q2, q3, q4, q5⟩ := ih n1.toNat (by omega) n1 (tm + 1) b' ss' M1 R1 (N + 2) (N' + 1) (by omega) (by omega) (by omega) (by omega) (by omega) t4
        refine ⟨Mc', Mr', n3, n4, fun J => ?_, fun J' => ?_, g1.tr q3, g2.tr q4, ?_⟩
        · rw [lp_e, cl, li_1]; exact q1 J
        · rw [lp_e, rl]; exact q2 J'
        · rcases q5 with ⟨e1, b2, ss2, e2, e3⟩ | q5
          · exact Or.inl ⟨e1, b2, ss2, by omega, e3⟩
          · exact Or.inr q5
      · have e1 : n1 = n := by omega
        subst e1
        rw [if_pos (Int32.le_refl _)] at cl
        rw [if_neg y] at rl
        have cl2 : ∀ (J : Int32 × Mem → XA) go, c162_170 (runX dl) (some 64) J (some (gX (oP o p))) (iI n1, 0, iI (tm + 1), M1) go = J (iI n1, M1) := fun J go => by
          unfold c162_170
          dsimp only
          rw [if_neg (show ¬ (16 : Int32) < iI (tm + 1) from lsI_n (x := 16) rfl rfl (by omega)), if_pos rfl]
        have rl2 : ∀ (J' : Int32 × Mem → XA) go, c304_154 (runX d) (some 160) w v2 J' (iI n1, 0, R1) go = J' (iI n1, R1) := fun J' go => by
          unfold c304_154
          dsimp only
          rw [if_pos rfl]
        exact ⟨M1, R1, n1, iI n1, fun J => by rw [lp_e, cl, show N + 2 = N + 1 + 1 from rfl, lp_e, cl2], fun J' => by rw [lp_e, rl, lp_e, rl2], g1, g2, Or.inl ⟨rfl, b', ss', t3, t4⟩⟩
    · have hC1 := t2.1.1.1.1.1
      have hR1 := t2.1.1.2.1.1
      have rl : ∀ (J' : Int32 × Mem → XA) go, c304_154 (runX d) (some 160) w v2 J' (iI n, iI 1, Mr) go = go (n2, ch2, R1) := fun J' go => by
        unfold c304_154
        dsimp only
        rw [if_neg z10, gtI_q (rk_160 hR) k1.2.2.2.2.1.2.2.1, if_pos (show iI 0 = 0 from rfl), jn_v, t1, jv_e]
      exact ⟨M1, R1, n1, n2, fun J => by rw [lp_e, cl]; exact c162_170s (by omega) hC1 t2.1.2.2.2.1.1, fun J' => by rw [lp_e, rl]; exact c304_154s hR1 t2.1.2.2.2.1.2, g1, g2, Or.inr t2⟩
end S9db
