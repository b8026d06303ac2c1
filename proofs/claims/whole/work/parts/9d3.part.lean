/-! a prop is made smaller: both -/
section S9d3
variable {d dl : Nat} {e s s' u hs : ZS} {κ : ZK} {R : Int → RG} {L : Int → Int} {o : HO} {v : VR} {q : QN} {M M' M1 M2 Mc Mr Mc' Mr' : Mem} {LL a j y N bs n kd sw pc : Nat} {xs : Nat → Int32} {ow : Nat → Int} {c p i nc k t b sl al lu mc wk en par tr nT x tm pl z : Int} {w v1 v2 sd f x0 : Int32} {Z Z' : Nat → Nat → Prop} {tv : Int → Int32}
/-- all places, once -/
theorem shr_pl (hdl : 13 ≤ dl) (hd : 64 ≤ d) (hP : hoP o) (hp : 0 ≤ p ∧ p < oN o) (hsl : 1 ≤ sl ∧ sl ≤ 1000) (hk : 0 ≤ k ∧ k < (gR (oP o p)).1 4 0 0) (hpar : par = (gR (oP o p)).1 4 4 k) (hpc : pc = hEC (gH (oP o p)) 4 k) (hw : w = iI p) (hv : v1 = iI k) : ∀ (m : Nat) (pl b : Int) (tv : Int → Int32) (Mc Mr : Mem) (N N' : Nat), pl + m = par → 0 ≤ pl → m < N → m < N' → shO LL xs o p sl par b f tv Mc Mr → ∃ Mc' Mr', Fz (Zoc o) Mc Mc' ∧ Fz Zsr Mr Mr' ∧ (((∀ J65 J86 : Mem → XA, lp (c179_2 (runX dl) (some 64) (some pc) J65 J86) N (iI pl, Mc) = J86 Mc') ∧ (∀ J' : Int32 × Int32 × Mem → XA, lp (c289_207 (runX d) (some 160) w v1 J' (iI par)) N' (f, iI 0, iI pl, Mr) = J' (f, iI 0, Mr')) ∧ ∃ b' tv', b' ≤ b ∧ shO LL xs o p sl par b' f tv' Mc' Mr') ∨ (∃ f', (∀ J65 J86 : Mem → XA, lp (c179_2 (runX dl) (some 64) (some pc) J65 J86) N (iI pl, Mc) = J65 Mc') ∧ (∀ J' : Int32 × Int32 × Mem → XA, lp (c289_207 (runX d) (some 160) w v1 J' (iI par)) N' (f, iI 0, iI pl, Mr) = J' (f', iI 1, Mr')) ∧ ((∃ b' tv', b' < b ∧ shO LL xs o p sl par b' f' tv' Mc' Mr') ∨ KSx LL xs o p sl 0 Mc' Mr'))) := by
  have hg := hP.2.2.1 p hp.1 hp.2
  have n3 := hg.1.n3
  obtain ⟨-, ⟨f1, f4, f5⟩, -, c2, c3⟩ := hg.1.1.2.2.2.2.2.1 k hk.1 (by omega)
  rw [← hpar] at c2
  have z10 : ¬ (iI 1 = (0 : Int32)) := by decide
  have z00 : (iI 0 : Int32) = 0 := rfl
  have p4 : ∀ M, hoC LL xs o M → M.2.2.2[pc]? = some (8, 9) ∧ M.1 pc 4 = iI par := fun M h => by
    obtain ⟨-, -, -, -, hTT, -⟩ := h.2.1 p hp.1 hp.2
    obtain ⟨⟨t1, t2, t3⟩, t4, t5⟩ := hTT 4 (by decide) (by decide) k hk.1 (by omega)
    rw [← hpc] at t1 t4
    exact ⟨t1, by rw [hpar]; exact (t4 4 (by decide) (by decide)).trans (congrArg iI f4)⟩
  intro m
  induction m with
  | zero =>
    intro pl b tv Mc Mr N N' h1 h2 h3 h4 h
    obtain ⟨N, rfl⟩ : ∃ e, N = e + 1 := ⟨N - 1, by omega⟩
    obtain ⟨N', rfl⟩ : ∃ e, N' = e + 1 := ⟨N' - 1, by omega⟩
    obtain ⟨hs, nT, k1, k2, k3, k6, k7⟩ := id h
    obtain ⟨t1, t2⟩ := p4 Mc k1.1.1
    refine ⟨Mc, Mr, Fz.r, Fz.r, Or.inl ⟨fun J65 J86 => ?_, fun J' => ?_, b, tv, Int.le_refl _, h⟩⟩
    · rw [lp_e]; unfold c179_2
      dsimp only
      rw [gtI_q t1 t2, if_pos (leI_p rfl rfl (by omega))]
    · rw [lp_e]; unfold c289_207
      dsimp only
      rw [if_pos (leI_p rfl rfl (by omega))]
  | succ m ih =>
    intro pl b tv Mc Mr N N' h1 h2 h3 h4 h
    obtain ⟨N, rfl⟩ : ∃ e, N = e + 1 := ⟨N - 1, by omega⟩
    obtain ⟨N', rfl⟩ : ∃ e, N' = e + 1 := ⟨N' - 1, by omega⟩
    obtain ⟨hs, nT, k1, k2, k3, k6, k7⟩ := id h
    have hC := k1.1.1.1.1
    have hR := k1.1.2.1.1
    obtain ⟨t1, t2⟩ := p4 Mc k1.1.1
    obtain ⟨z, hz, ez⟩ : ∃ z : Int, (-2147483648 ≤ z ∧ z < 2147483648) ∧ tv pl = iI z := by
      have zz := iI_of (tv pl)
      exact ⟨(tv pl).toInt, by have := zz.2; omega, zz.1⟩
    have e1 := (k7 pl h2 (by omega)).1
    have e2 := (k7 pl h2 (by omega)).2
    rw [ez] at e1 e2
    obtain ⟨dl', rfl⟩ : ∃ e, dl = e + 3 := ⟨dl - 3, by omega⟩
    have ac := a_180 (d := dl') (M := Mc) hz.1 hz.2
    have cb := cnt_b hz.1 hz.2
    obtain ⟨M1, M2, g1, g2, g3⟩ := shr_in (dl := dl' + 3) (d := d) (f := f) (w := w) (v1 := v1) (z := z) (pl := pl) (s3 := (iI pl, Mc)) (s41 := (f, iI 0, iI pl, Mr)) (by omega) (by omega) hP hp hsl hk hpar hpc hw hv hz ⟨h2, by omega⟩ rfl rfl (cnt z).toNat 0 b tv Mc Mr 4294967296 4294967296 (by omega) (by omega) (by omega) (by omega) h
    have C1 : CT M1 := hC.keep g1.1
    have R2 : RT M2 := hR.keep g2.1
    rcases g3 with ⟨r1, r2, b2, x0, r3, r4⟩ | ⟨f', r1, r2, r3⟩
    · rw [← li_0] at r1
      rw [← li_0, ← li_1] at r2
      have k4 : shO LL xs o p sl par b2 f tv (sI M1 146 pl.toNat (iI z)) (sI M2 245 pl.toNat (iI z)) := (r4.set (w := iI z) hP ⟨h2, by omega, by omega⟩ Fz.r).cg fun j _ _ => by
        unfold upv
        by_cases c : j = pl
        · rw [if_pos c, c, ez]
        · rw [if_neg c, if_neg c]
      have cl : ∀ (J65 J86 : Mem → XA) go, c179_2 (runX (dl' + 3)) (some 64) (some pc) J65 J86 (iI pl, Mc) go = go (iI (pl + 1), sI M1 146 pl.toNat (iI z)) := fun J65 J86 go => by
        unfold c179_2
        dsimp only
        rw [gtI_q t1 t2, if_neg (leI_n rfl rfl (by omega)), if_neg (show ¬ (4 : Int32) ≤ iI pl from leI_n (x := 4) rfl rfl (by omega)), gtP_q (ck_64 hC) (cf_64_11 hC), alI_q (n := 6) (z := pl) (ck_146 hC) rfl (by omega) e1, cI_e ac, jn_v, r1, jv_e, gtP_q (ck_64 C1) (cf_64_11 C1), asI_e (z := pl) (n := 6) (ck_146 C1) (by omega) (by omega) (by omega)]
        exact ltI_q (z := pl + 1) (adI rfl li_1)
      have rl : ∀ (J' : Int32 × Int32 × Mem → XA) go, c289_207 (runX d) (some 160) w v1 J' (iI par) (f, iI 0, iI pl, Mr) go = go (f, iI 0, iI (pl + 1), sI M2 245 pl.toNat (iI z)) := fun J' go => by
        unfold c289_207
        dsimp only
        rw [if_neg (leI_n rfl rfl (by omega)), if_pos z00, gtP_q (rk_160 hR) (rf_135 hR), alI_q (n := 4) (z := pl) (rk_245 hR) rfl (by omega) e2, jn_v, ← li_0, r2, jv_e]
        dsimp only
        rw [gtP_q (rk_160 R2) (rf_135 R2), jn_v, if_pos rfl, jv_e, asI_e (z := pl) (n := 4) (rk_245 R2) (by omega) (by omega) (by omega)]
        exact ltI_q (z := pl + 1) (adI rfl rfl)
      obtain ⟨Mc', Mr', q1, q2, q3⟩ := ih (pl + 1) b2 tv _ _ N N' (by omega) (by omega) (by omega) (by omega) k4
      refine ⟨Mc', Mr', (g1.si (Or.inr rfl)).tr q1, (g2.si (Or.inl (Or.inr (Or.inr rfl)))).tr q2, ?_⟩
      rcases q3 with ⟨s1, s2, b3, tv', s3, s4⟩ | ⟨f', s1, s2, s3⟩
      · exact Or.inl ⟨fun J65 J86 => by rw [lp_e, cl]; exact s1 J65 J86, fun J' => by rw [lp_e, rl]; exact s2 J', b3, tv', by omega, s4⟩
      · refine Or.inr ⟨f', fun J65 J86 => by rw [lp_e, cl]; exact s1 J65 J86, fun J' => by rw [lp_e, rl]; exact s2 J', ?_⟩
        rcases s3 with ⟨b3, tv', s3, s4⟩ | s3
        · exact Or.inl ⟨b3, tv', by omega, s4⟩
        · exact Or.inr s3
    · rw [← li_0] at r1
      rw [← li_0, ← li_1] at r2
      obtain ⟨N', rfl⟩ : ∃ e, N' = e + 1 := ⟨N' - 1, by omega⟩
      refine ⟨M1, M2, g1, g2, Or.inr ⟨f', fun J65 J86 => ?_, fun J' => ?_, r3⟩⟩
      · rw [lp_e]
        unfold c179_2
        dsimp only
        rw [gtI_q t1 t2, if_neg (leI_n rfl rfl (by omega)), if_neg (show ¬ (4 : Int32) ≤ iI pl from leI_n (x := 4) rfl rfl (by omega)), gtP_q (ck_64 hC) (cf_64_11 hC), alI_q (n := 6) (z := pl) (ck_146 hC) rfl (by omega) e1, cI_e ac, jn_v, r1]
      · have rl : ∀ go, c289_207 (runX d) (some 160) w v1 J' (iI par) (f, iI 0, iI pl, Mr) go = go (f', iI 1, iI (pl + 1), M2) := fun go => by
          unfold c289_207
          dsimp only
          rw [if_neg (leI_n rfl rfl (by omega)), if_pos z00, gtP_q (rk_160 hR) (rf_135 hR), alI_q (n := 4) (z := pl) (rk_245 hR) rfl (by omega) e2, jn_v, ← li_0, r2, jv_e]
          dsimp only
          rw [gtP_q (rk_160 R2) (rf_135 R2), jn_v, if_neg (by decide), gtP_q (rk_160 R2) (rf_135 R2), alI_q (n := 4) (z := pl) (rk_245 R2) rfl (by omega) rfl, jv_e, asI_e (z := pl) (n := 4) (rk_245 R2) (by omega) (by omega) (by omega), sI_id rfl]
          exact ltI_q (z := pl + 1) (adI rfl rfl)
        have rl2 : ∀ go, c289_207 (runX d) (some 160) w v1 J' (iI par) (f', iI 1, iI (pl + 1), M2) go = J' (f', iI 1, M2) := fun go => by
          unfold c289_207
          dsimp only
          by_cases c : par ≤ pl + 1
          · rw [if_pos (leI_p rfl rfl (by omega))]
          · rw [if_neg (leI_n rfl rfl (by omega)), if_neg z10]
        rw [lp_e, rl, lp_e, rl2]
/-- turn after turn, until nothing smaller fails or no WORK is left -/
theorem shr_all {J : Mem → XA} {J' : Int32 × Mem → XA} {s3 : Option Nat × Mem} (hs3 : s3.1 = some pc) (hdl : 15 ≤ dl) (hd : 65 ≤ d) (hP : hoP o) (hp : 0 ≤ p ∧ p < oN o) (hsl : 1 ≤ sl ∧ sl ≤ 1000) (hk : 0 ≤ k ∧ k < (gR (oP o p)).1 4 0 0) (hpar : par = (gR (oP o p)).1 4 4 k) (hpc : pc = hEC (gH (oP o p)) 4 k) (hw : w = iI p) (hv : v1 = iI k) : ∀ (m : Nat) (b tm : Int) (f : Int32) (tv : Int → Int32) (Mc Mr : Mem) (N N' : Nat), b ≤ m → 0 ≤ tm → tm + m < 1000000 → m + 2 < N → m + 2 < N' → shO LL xs o p sl par b f tv Mc Mr → ∃ Mc' Mr' f', lp (c153_82 (runX dl) (some 64) J s3) N (iI 1, iI tm, Mc) = J Mc' ∧ lp (c289_189 (runX d) (some 160) w v1 J' (iI par)) N' (f, iI 1, Mr) = J' (f', Mr') ∧ Fz (Zoc o) Mc Mc' ∧ Fz Zsr Mr Mr' ∧ ((∃ b' tv', b' ≤ b ∧ shO LL xs o p sl par b' f' tv' Mc' Mr') ∨ KSx LL xs o p sl 0 Mc' Mr') := by
  have z10 : ¬ (iI 1 = (0 : Int32)) := by decide
  have z00 : (iI 0 : Int32) = 0 := rfl
  obtain ⟨s30, s31⟩ := s3
  dsimp only at hs3
  subst hs3
  have hg := hP.2.2.1 p hp.1 hp.2
  have n3 := hg.1.n3
  obtain ⟨-, ⟨f1, f4, f5⟩, -, c2, c3⟩ := hg.1.1.2.2.2.2.2.1 k hk.1 (by omega)
  rw [← hpar] at c2
  obtain ⟨dl, rfl⟩ : ∃ e, dl = e + 1 := ⟨dl - 1, by omega⟩
  intro m
  induction m using Nat.strongRecOn with
  | _ m ih =>
    intro b tm f tv Mc Mr N N' h1 h2 h3 h4 h5 h
    obtain ⟨N, rfl⟩ : ∃ e, N = e + 1 + 1 := ⟨N - 2, by omega⟩
    obtain ⟨N', rfl⟩ : ∃ e, N' = e + 1 + 1 := ⟨N' - 2, by omega⟩
    obtain ⟨hs, nT, k1, k2, k3, k6, k7⟩ := id h
    have hC := k1.1.1.1.1
    have hR := k1.1.2.1.1
    obtain ⟨M1, M2, g1, g2, g3⟩ := shr_pl (dl := dl) (d := d) (f := f) (w := w) (v1 := v1) (by omega) (by omega) hP hp hsl hk hpar hpc hw hv par.toNat 0 b tv Mc Mr 4294967296 4294967296 (by omega) (by omega) (by omega) (by omega) h
    have cs : runX (dl + 1) 22 [va_rf (some 88)] Mc = some (.int 0, Mc) := by
      rw [zc22 (n := b) (by omega) hC k1.2.2.2.2.1.1 (by have := k1.2.2.2.2.1.2.2.2; omega), if_neg (by have := k1.2.2.2.2.1.2.2.2; omega)]; rfl
    have cx : ∀ (xx : Int) go, runX (dl + 1) 179 [va_rf (some 64), va_rf (some pc)] Mc = some (.int (iI xx), M1) → c153_82 (runX (dl + 1)) (some 64) J (some pc, s31) (iI 1, iI tm, Mc) go = go (iI xx, iI (tm + 1), M1) := fun xx go c179 => by
      unfold c153_82
      dsimp only
      rw [if_neg (show ¬ (1000000 : Int32) ≤ iI tm from leI_n (x := 1000000) rfl rfl (by omega)), if_neg z10, gtP_q (ck_64 hC) (cf_64_2 hC), vC_e (ck_88 hC), cI_e cs, if_pos rfl, vC_e (ck_64 hC), cI_e c179]
      exact ltI_q (z := tm + 1) (adI rfl li_1)
    rcases g3 with ⟨r1, r2, b2, tv', r3, r4⟩ | ⟨f', r1, r2, r3⟩
    · rw [← li_0] at r1 r2
      have c179 : runX (dl + 1) 179 [va_rf (some 64), va_rf (some pc)] Mc = some (.int (iI 0), M1) := by
        rw [r179]; unfold b179; rw [aR_e, aR_e, aZ_e]; unfold c179
        rw [jn_v, jn_v, r1, jv_e]
        exact rtZ_q rfl (by omega)
      have cl2 : ∀ go, c153_82 (runX (dl + 1)) (some 64) J (some pc, s31) (iI 0, iI (tm + 1), M1) go = J M1 := fun go => by
        unfold c153_82
        dsimp only
        by_cases c : 1000000 ≤ tm + 1
        · rw [if_pos (show (1000000 : Int32) ≤ iI (tm + 1) from leI_p (x := 1000000) rfl rfl (by omega))]
        · rw [if_neg (show ¬ (1000000 : Int32) ≤ iI (tm + 1) from leI_n (x := 1000000) rfl rfl (by omega)), if_pos z00]
      have rl : ∀ go, c289_189 (runX d) (some 160) w v1 J' (iI par) (f, iI 1, Mr) go = go (f, 0, M2) := fun go => by
        unfold c289_189
        dsimp only
        rw [if_neg z10, gtI_q (rk_160 hR) k1.2.2.2.2.1.2.2.1, if_pos z00, jn_v, r2, jv_e]
      have rl2 : ∀ go, c289_189 (runX d) (some 160) w v1 J' (iI par) (f, 0, M2) go = J' (f, M2) := fun go => by
        unfold c289_189
        dsimp only
        rw [if_pos rfl]
      exact ⟨M1, M2, f, by rw [lp_e, cx 0 _ c179, lp_e, cl2], by rw [lp_e, rl, lp_e, rl2], g1, g2, Or.inl ⟨b2, tv', r3, r4⟩⟩
    · rw [← li_0] at r1 r2
      have c179 : runX (dl + 1) 179 [va_rf (some 64), va_rf (some pc)] Mc = some (.int (iI 1), M1) := by
        rw [r179]; unfold b179; rw [aR_e, aR_e, aZ_e]; unfold c179
        rw [jn_v, jn_v, r1, jv_e]
        exact rtZ_q rfl (by omega)
      have rl : ∀ go, c289_189 (runX d) (some 160) w v1 J' (iI par) (f, iI 1, Mr) go = go (f', iI 1, M2) := fun go => by
        unfold c289_189
        dsimp only
        rw [if_neg z10, gtI_q (rk_160 hR) k1.2.2.2.2.1.2.2.1, if_pos z00, jn_v, r2, jv_e]
      rcases r3 with ⟨b2, tv', r3, r4⟩ | r3
      · have b0 : 0 ≤ b2 := by
          obtain ⟨_, _, q1, -⟩ := r4
          exact q1.2.2.2.2.1.2.2.2.1
        obtain ⟨Mc', Mr', f2, q1, q2, q3, q4, q5⟩ := ih b2.toNat (by omega) b2 (tm + 1) f' tv' M1 M2 (N + 1) (N' + 1) (by omega) (by omega) (by omega) (by omega) (by omega) r4
        refine ⟨Mc', Mr', f2, by rw [lp_e, cx 1 _ c179]; exact q1, by rw [lp_e, rl]; exact q2, g1.tr q3, g2.tr q4, ?_⟩
        rcases q5 with ⟨b3, tv3, q5, q6⟩ | q5
        · exact Or.inl ⟨b3, tv3, by omega, q6⟩
        · exact Or.inr q5
      · have hC1 := r3.1.1.1.1.1
        have hR1 := r3.1.1.2.1.1
        have cs1 : runX (dl + 1) 22 [va_rf (some 88)] M1 = some (.int 1, M1) := by
          rw [zc22 (n := -1) (by omega) hC1 r3.1.2.2.2.1.1 (by omega), if_pos (by decide)]; rfl
        have cl2 : ∀ go, c153_82 (runX (dl + 1)) (some 64) J (some pc, s31) (iI 1, iI (tm + 1), M1) go = J M1 := fun go => by
          unfold c153_82
          dsimp only
          by_cases c : 1000000 ≤ tm + 1
          · rw [if_pos (show (1000000 : Int32) ≤ iI (tm + 1) from leI_p (x := 1000000) rfl rfl (by omega))]
          · rw [if_neg (show ¬ (1000000 : Int32) ≤ iI (tm + 1) from leI_n (x := 1000000) rfl rfl (by omega)), if_neg z10, gtP_q (ck_64 hC1) (cf_64_2 hC1), vC_e (ck_88 hC1), cI_e cs1, if_neg (by decide)]
        have rl2 : ∀ go, c289_189 (runX d) (some 160) w v1 J' (iI par) (f', iI 1, M2) go = J' (f', M2) := fun go => by
          unfold c289_189
          dsimp only
          rw [if_neg z10, gtI_q (rk_160 hR1) r3.1.2.2.2.1.2, if_neg z10]
        exact ⟨M1, M2, f', by rw [lp_e, cx 1 _ c179, lp_e, cl2], by rw [lp_e, rl, lp_e, rl2], g1, g2, Or.inr r3⟩
end S9d3
