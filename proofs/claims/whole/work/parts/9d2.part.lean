/-! smaller numbers of a prop are tried: both -/
def Zsr (a j : Nat) : Prop := Zor a j ∨ (a = 160 ∧ j = 137)
/-- the numbers of both stand; f: how it failed -/
def shO (LL : Nat) (xs : Nat → Int32) (o : HO) (p sl par b : Int) (f : Int32) (tv : Int → Int32) (Mc Mr : Mem) : Prop := ∃ hs nT, KI LL xs o p sl 0 b hs Mc Mr ∧ (Mc.1 88 3 = iI (-2) ∧ Mr.1 160 90 = iI (-1)) ∧ (Mc.1 146 5 = iI nT ∧ Mr.1 160 136 = iI nT) ∧ Mc.1 146 4 = f ∧ ∀ j : Int, 0 ≤ j → j < par → Mc.1 146 j.toNat = tv j ∧ Mr.1 245 j.toNat = tv j
def upv (tv : Int → Int32) (pl : Int) (w : Int32) (j : Int) : Int32 := if j = pl then w else tv j
section S9d2
variable {d dl : Nat} {e s s' u hs : ZS} {κ : ZK} {R : Int → RG} {L : Int → Int} {o : HO} {v : VR} {q : QN} {M M' M1 M2 Mc Mr Mc' Mr' : Mem} {LL a j y N bs n kd sw pc : Nat} {xs : Nat → Int32} {ow : Nat → Int} {c p i nc k t b sl al lu mc wk en par tr nT x tm pl z : Int} {w v1 v2 sd f x0 : Int32} {Z Z' : Nat → Nat → Prop} {tv : Int → Int32}
/-- another number in both; the reference's lesser number -/
theorem shO.set (h : shO LL xs o p sl par b f tv Mc Mr) (hP : hoP o) (hpl : 0 ≤ pl ∧ pl < par ∧ par ≤ 4) (g : Fz (fun a j => a = 160 ∧ j = 137) Mr Mr') : shO LL xs o p sl par b f (upv tv pl w) (sI Mc 146 pl.toNat w) (sI Mr' 245 pl.toNat w) := by
  obtain ⟨hs, nT, h1, ⟨h2, h3⟩, ⟨h4, h5⟩, h6, h7⟩ := h
  have f1 : Fz (fun a j => a = 146 ∧ j = pl.toNat) Mc (sI Mc 146 pl.toNat w) := Fz.r.si ⟨rfl, rfl⟩
  have g1 : Fz (fun a j => (a = 160 ∧ j = 137) ∨ (a = 245 ∧ j = pl.toNat)) Mr (sI Mr' 245 pl.toNat w) := (g.m fun a j z => Or.inl z).si (Or.inr ⟨rfl, rfl⟩)
  refine ⟨hs, nT, h1.sub hP f1 (fun a j z => ⟨ho_14 hP (Or.inl z.1), by omega, by omega⟩) g1 (fun a j z => ⟨⟨fun y q hq => ?_, by omega, by omega, by omega⟩, by omega, by omega⟩), ⟨(f1.2 _ _ (by omega)).trans h2, (g1.2 _ _ (by omega)).trans h3⟩, ⟨(f1.2 _ _ (by omega)).trans h4, (g1.2 _ _ (by omega)).trans h5⟩, (f1.2 _ _ (by omega)).trans h6, fun j a b => ?_⟩
  · have g : ∀ q, q ∈ RFd → q.1 ≠ 137 := by decide
    have := g _ hq
    dsimp only at this
    omega
  · unfold upv
    by_cases c : j = pl
    · rw [if_pos c, c]; exact ⟨sI_eq, sI_eq⟩
    · rw [if_neg c]
      exact ⟨(f1.2 _ _ (by omega)).trans (h7 j a b).1, (g1.2 _ _ (by omega)).trans (h7 j a b).2⟩
theorem shO.cg {tv' : Int → Int32} (h : shO LL xs o p sl par b f tv Mc Mr) (g : ∀ j, 0 ≤ j → j < par → tv' j = tv j) : shO LL xs o p sl par b f tv' Mc Mr := by
  obtain ⟨hs, nT, h1, h2, h3, h6, h7⟩ := h
  exact ⟨hs, nT, h1, h2, h3, h6, fun j a b => by rw [g j a b]; exact h7 j a b⟩
/-- a prop is tried -/
theorem shO.try (hdl : 12 ≤ dl) (hd : 63 ≤ d) (hP : hoP o) (hp : 0 ≤ p ∧ p < oN o) (hsl : 1 ≤ sl ∧ sl ≤ 1000) (hk : 0 ≤ k ∧ k < (gR (oP o p)).1 4 0 0) (hpar : par = (gR (oP o p)).1 4 4 k) (h : shO LL xs o p sl par b f tv Mc Mr) (hw : w = iI p) (hv : v1 = iI k) : ∃ Mc2 Mr2 rc, runX dl 27 [va_rf (some 88), va_rf (some (hEC (gH (oP o p)) 4 k)), va_rf (some 146)] Mc = some (.int (iI rc), Mc2) ∧ runX d 288 [va_rf (some 160), .int w, .int v1] Mr = some (.int (iI (1 - rc)), Mr2) ∧ (rc = 0 ∨ rc = 1) ∧ Fz (Zhc o) Mc Mc2 ∧ Fz Zhr Mr Mr2 ∧ ((∃ b', b' < b ∧ shO LL xs o p sl par b' (if rc = 0 then Mr2.1 160 88 else f) tv Mc2 Mr2) ∨ (KSx LL xs o p sl 0 Mc2 Mr2 ∧ rc = 0)) := by
  have n3 := (hP.2.2.1 p hp.1 hp.2).1.n3
  obtain ⟨-, -, -, c2, c3⟩ := (hP.2.2.1 p hp.1 hp.2).1.1.2.2.2.2.2.1 k hk.1 (by omega)
  rw [← hpar] at c2
  obtain ⟨hs, nT, h1, ⟨h2, h3⟩, ⟨h4, h5⟩, h6, h7⟩ := h
  obtain ⟨Mc2, Mr2, rc, w1, w2, w3, w4, w5, ⟨w6, w7⟩, w8⟩ := hold_pair (tv := tv) hdl hd hP hp hsl hk h1 h2 h3 (by rw [← hpar]; exact h7) h4 h5 hw hv
  refine ⟨Mc2, Mr2, rc, w1, w2, w3, w4, w5, ?_⟩
  rcases w8 with ⟨b', hs2, y1, y2, y3, y4, y5, y6⟩ | y
  · refine Or.inl ⟨b', y2, hs2, nT + 1, y1, ⟨y3, y4⟩, ⟨w6, w7⟩, ?_, fun j q1 q2 => ⟨?_, ?_⟩⟩
    · rcases w3 with z | z
      · rw [if_pos z]; exact y5 z
      · rw [if_neg (by omega)]; exact (y6 z).trans h6
    · refine (w4.2 _ _ fun y => ?_).trans (h7 j q1 q2).1
      rcases y with y | y
      · have := ZM_x y; omega
      · omega
    · refine (w5.2 _ _ fun y => ?_).trans (h7 j q1 q2).2
      rcases y with y | y
      · unfold ZR at y; omega
      · omega
  · exact Or.inr y
theorem sI_sa (h : M.1 a j = w) : sI M a j w = M := sI_id h
/-- the smaller numbers of one place -/
theorem shr_in {s3 : Int32 × Mem} {s41 : Int32 × Int32 × Int32 × Mem} (hdl : 12 ≤ dl) (hd : 63 ≤ d) (hP : hoP o) (hp : 0 ≤ p ∧ p < oN o) (hsl : 1 ≤ sl ∧ sl ≤ 1000) (hk : 0 ≤ k ∧ k < (gR (oP o p)).1 4 0 0) (hpar : par = (gR (oP o p)).1 4 4 k) (hpc : pc = hEC (gH (oP o p)) 4 k) (hw : w = iI p) (hv : v1 = iI k) (hz : -2147483648 ≤ z ∧ z < 2147483648) (hpl : 0 ≤ pl ∧ pl < par) (hs3 : s3.1 = iI pl) (hs4 : s41.2.2.1 = iI pl) : ∀ (m : Nat) (wh b : Int) (tv : Int → Int32) (Mc Mr : Mem) (N N' : Nat), wh + m = cnt z → 0 ≤ wh → m < N → m + 1 < N' → shO LL xs o p sl par b f tv Mc Mr → ∃ Mc' Mr', Fz (Zoc o) Mc Mc' ∧ Fz Zsr Mr Mr' ∧ (((∀ J65 J73 : Mem → XA, lp (c179_31 (runX dl) (some 64) (some pc) J65 J73 s3 (iI z) (iI (cnt z))) N (iI wh, Mc) = J73 Mc') ∧ (∀ J' : Int32 × Int32 × Mem → XA, lp (c289_234 (runX d) (some 160) w v1 J' s41 (iI z)) N' (f, iI 0, iI 1, iI wh, Mr) = J' (f, iI 0, Mr')) ∧ ∃ b' x0, b' ≤ b ∧ shO LL xs o p sl par b' f (upv tv pl x0) Mc' Mr') ∨ (∃ f', (∀ J65 J73 : Mem → XA, lp (c179_31 (runX dl) (some 64) (some pc) J65 J73 s3 (iI z) (iI (cnt z))) N (iI wh, Mc) = J65 Mc') ∧ (∀ J' : Int32 × Int32 × Mem → XA, lp (c289_234 (runX d) (some 160) w v1 J' s41 (iI z)) N' (f, iI 0, iI 1, iI wh, Mr) = J' (f', iI 1, Mr')) ∧ ((∃ b' tv', b' < b ∧ shO LL xs o p sl par b' f' tv' Mc' Mr') ∨ KSx LL xs o p sl 0 Mc' Mr'))) := by
  subst hw; subst hv
  obtain ⟨i3, m3⟩ := s3
  obtain ⟨j1, j2, j3, j4⟩ := s41
  dsimp only at hs3 hs4
  subst hs3; subst hs4
  have n3 := (hP.2.2.1 p hp.1 hp.2).1.n3
  obtain ⟨-, -, -, c2, c3⟩ := (hP.2.2.1 p hp.1 hp.2).1.1.2.2.2.2.2.1 k hk.1 (by omega)
  rw [← hpar] at c2
  have cb := cnt_b hz.1 hz.2
  have z10 : ¬ (iI 1 = (0 : Int32)) := by decide
  have z00 : (iI 0 : Int32) = 0 := rfl
  intro m
  induction m with
  | zero =>
    intro wh b tv Mc Mr N N' h1 h2 h3 h4 h
    obtain ⟨N, rfl⟩ : ∃ e, N = e + 1 := ⟨N - 1, by omega⟩
    obtain ⟨N', rfl⟩ : ∃ e, N' = e + 1 + 1 := ⟨N' - 2, by omega⟩
    obtain ⟨d, rfl⟩ : ∃ e, d = e + 1 := ⟨d - 1, by omega⟩
    obtain ⟨hs, nT, k1, k2, k3, k6, k7⟩ := id h
    have hR := k1.1.2.1.1
    obtain ⟨M1, a1, a2, a3⟩ := q291x (d := d) (n := wh) (rk_160 hR) hz.1 hz.2 h2 (by omega)
    rw [if_neg (by omega)] at a1
    have k1' : shO LL xs o p sl par b f (upv tv pl (tv pl)) (sI Mc 146 pl.toNat (tv pl)) (sI M1 245 pl.toNat (tv pl)) := h.set hP (by omega) a2
    rw [sI_sa (k7 pl hpl.1 hpl.2).1, sI_sa ((a2.2 _ _ (by omega)).trans (k7 pl hpl.1 hpl.2).2)] at k1'
    refine ⟨Mc, M1, Fz.r, a2.m fun a j z => Or.inr z, Or.inl ⟨fun J65 J73 => ?_, fun J' => ?_, b, tv pl, Int.le_refl _, k1'⟩⟩
    · rw [lp_e]; unfold c179_31
      dsimp only
      rw [if_pos (leI_p rfl rfl (by omega))]
    · have e1 : ∀ go, c289_234 (runX (d + 1)) (some 160) (iI p) (iI k) J' (j1, j2, iI pl, j4) (iI z) (f, iI 0, iI 1, iI wh, Mr) go = go (f, iI 0, 0, iI (wh + 1), M1) := fun go => by
        unfold c289_234
        dsimp only
        rw [if_neg z10, if_pos z00, gtI_q (rk_160 hR) k1.2.2.2.2.1.2.2.1, if_pos z00, vC_e (rk_160 hR), cI_e a1, jn_v, if_pos rfl, jv_e]
        exact ltI_q (z := wh + 1) (adI rfl li_1)
      have e2 : ∀ go, c289_234 (runX (d + 1)) (some 160) (iI p) (iI k) J' (j1, j2, iI pl, j4) (iI z) (f, iI 0, 0, iI (wh + 1), M1) go = J' (f, iI 0, M1) := fun go => by
        unfold c289_234
        dsimp only
        rw [if_pos rfl]
      rw [lp_e, e1, lp_e, e2]
  | succ m ih =>
    intro wh b tv Mc Mr N N' h1 h2 h3 h4 h
    obtain ⟨N, rfl⟩ : ∃ e, N = e + 1 := ⟨N - 1, by omega⟩
    obtain ⟨N', rfl⟩ : ∃ e, N' = e + 1 := ⟨N' - 1, by omega⟩
    obtain ⟨dl, rfl⟩ : ∃ e, dl = e + 1 := ⟨dl - 1, by omega⟩
    obtain ⟨d, rfl⟩ : ∃ e, d = e + 1 := ⟨d - 1, by omega⟩
    obtain ⟨hs, nT, k1, k2, k3, k6, k7⟩ := id h
    have hC := k1.1.1.1.1
    have hR := k1.1.2.1.1
    obtain ⟨M1, a1, a2, a3⟩ := q291x (d := d) (n := wh) (rk_160 hR) hz.1 hz.2 h2 (by omega)
    rw [if_pos (by omega)] at a1
    have b1 := a_181 (d := dl) (M := Mc) (n := wh) hz.1 hz.2 h2 (by omega)
    have b2 : (if wh = 0 then 0 else if 0 ≤ z then iI (z - hv z wh.toNat) else if wh = 1 then -iI z else iI (z - hv z (wh - 1).toNat)) = smA z wh := by
      unfold smA
      rw [if_neg (show ¬ wh < 0 by omega), if_pos (show wh < cnt z by omega)]
    rw [b2] at b1
    have a3' := a3 (by omega)
    obtain ⟨Mc1, hMc1⟩ : ∃ X, X = sI Mc 146 pl.toNat (smA z wh) := ⟨_, rfl⟩
    obtain ⟨Mr1, hMr1⟩ : ∃ X, X = sI M1 245 pl.toNat (smA z wh) := ⟨_, rfl⟩
    have k1' : shO LL xs o p sl par b f (upv tv pl (smA z wh)) Mc1 Mr1 := by rw [hMc1, hMr1]; exact h.set hP (by omega) a2
    obtain ⟨Mc2, Mr2, rc, w1, w2, w3, w4, w5, w8⟩ := k1'.try (dl := dl + 1) (d := d + 1) (w := iI p) (v1 := iI k) hdl hd hP hp hsl hk hpar rfl rfl
    rw [← hpc] at w1
    have C1 : CT Mc1 := hC.keep (by rw [hMc1]; rfl)
    have R1 : RT M1 := hR.keep a2.1
    have R2 : RT Mr1 := R1.keep (by rw [hMr1]; rfl)
    have R3 : RT Mr2 := R2.keep w5.1
    have F1 : Fz (Zoc o) Mc Mc2 := by
      have : Fz (Zoc o) Mc Mc1 := by rw [hMc1]; exact Fz.r.si (Or.inr rfl)
      exact this.tr (w4.m fun a j z => z.imp id fun z => z.1)
    have G1 : Fz Zsr Mr Mr2 := by
      have : Fz Zsr Mr Mr1 := by rw [hMr1]; exact (a2.m fun a j z => Or.inr z).si (Or.inl (Or.inr (Or.inr rfl)))
      exact this.tr (w5.m fun a j z => Or.inl (z.imp id Or.inl))
    have cl : ∀ (J65 J73 : Mem → XA) go, c179_31 (runX (dl + 1)) (some 64) (some pc) J65 J73 (iI pl, m3) (iI z) (iI (cnt z)) (iI wh, Mc) go = if rc = 0 then J65 Mc2 else go (iI (wh + 1), Mc2) := fun J65 J73 go => by
      unfold c179_31
      dsimp only
      rw [if_neg (leI_n rfl rfl (by omega)), gtP_q (ck_64 hC) (cf_64_11 hC), cI_e b1, asI_e (z := pl) (n := 6) (ck_146 hC) (by omega) (by omega) (by omega), ← hMc1, gtP_q (ck_64 C1) (cf_64_2 C1), gtP_q (ck_64 C1) (cf_64_11 C1), vC_e (ck_88 C1), cI_e w1]
      rcases w3 with y | y
      · rw [if_pos (show iI rc = 0 by rw [y]; rfl), if_pos y]
      · rw [if_neg (show ¬ iI rc = 0 by rw [y]; decide), if_neg (by omega)]
        exact ltI_q (z := wh + 1) (adI rfl li_1)
    have rl : ∀ (J' : Int32 × Int32 × Mem → XA) go, c289_234 (runX (d + 1)) (some 160) (iI p) (iI k) J' (j1, j2, iI pl, j4) (iI z) (f, iI 0, iI 1, iI wh, Mr) go = go (if rc = 0 then Mr2.1 160 88 else f, iI (1 - rc), iI 1, iI (wh + 1), Mr2) := fun J' go => by
      unfold c289_234
      dsimp only
      rw [if_neg z10, if_pos z00, gtI_q (rk_160 hR) k1.2.2.2.2.1.2.2.1, if_pos z00, vC_e (rk_160 hR), cI_e a1, jn_v, if_neg (by decide), gtP_q (rk_160 R1) (rf_135 R1), gtI_q (rk_160 R1) a3', asI_e (z := pl) (n := 4) (rk_245 R1) (by omega) (by omega) (by omega), ← hMr1, vC_e (rk_160 R2), cI_e w2, jn_v]
      rcases w3 with y | y
      · rw [if_neg (show ¬ iI (1 - rc) = 0 by rw [y]; decide), gtI_q (w := Mr2.1 160 88) (rk_160 R3) rfl, jv_e, jv_e, if_pos y]
        exact ltI_q (z := wh + 1) (adI rfl li_1)
      · rw [if_pos (show iI (1 - rc) = 0 by rw [y]; rfl), jv_e, jv_e, if_neg (by omega)]
        exact ltI_q (z := wh + 1) (adI rfl li_1)
    rcases w3 with y | y
    · subst y
      obtain ⟨N', rfl⟩ : ∃ e, N' = e + 1 := ⟨N' - 1, by omega⟩
      refine ⟨Mc2, Mr2, F1, G1, Or.inr ⟨Mr2.1 160 88, fun J65 J73 => ?_, fun J' => ?_, ?_⟩⟩
      · rw [lp_e, cl, if_pos rfl]
      · rw [lp_e, rl, if_pos rfl, lp_e]
        unfold c289_234
        dsimp only
        rw [if_neg z10, if_neg (show ¬ iI (1 - 0) = 0 by decide)]
        rfl
      · rcases w8 with ⟨b', y1, y2⟩ | ⟨y1, -⟩
        · rw [if_pos rfl] at y2
          exact Or.inl ⟨b', _, y1, y2⟩
        · exact Or.inr y1
    · subst y
      rcases w8 with ⟨b', y1, y2⟩ | ⟨-, y1⟩
      · rw [if_neg (by decide)] at y2
        obtain ⟨Mc', Mr', q1, q2, q3⟩ := ih (wh + 1) b' _ Mc2 Mr2 N N' (by omega) (by omega) (by omega) (by omega) y2
        refine ⟨Mc', Mr', F1.tr q1, G1.tr q2, ?_⟩
        rcases q3 with ⟨r1, r2, b2, x0, r3, r4⟩ | ⟨f', r1, r2, r3⟩
        · refine Or.inl ⟨fun J65 J73 => ?_, fun J' => ?_, b2, x0, by omega, r4.cg fun j _ _ => ?_⟩
          · rw [lp_e, cl, if_neg (by decide)]; exact r1 J65 J73
          · rw [lp_e, rl, if_neg (by decide)]; exact r2 J'
          unfold upv
          by_cases c : j = pl
          · rw [if_pos c, if_pos c]
          · rw [if_neg c, if_neg c, if_neg c]
        · refine Or.inr ⟨f', fun J65 J73 => ?_, fun J' => ?_, ?_⟩
          · rw [lp_e, cl, if_neg (by decide)]; exact r1 J65 J73
          · rw [lp_e, rl, if_neg (by decide)]; exact r2 J'
          rcases r3 with ⟨b2, tv', r3, r4⟩ | r3
          · exact Or.inl ⟨b2, tv', by omega, r4⟩
          · exact Or.inr r3
      · exact absurd y1 (by decide)
end S9d2
