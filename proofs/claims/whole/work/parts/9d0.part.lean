/-! a prop's numbers are drawn, a prop is tried often: both -/
def nxs (sd : Int32) : Int32 := (sd * ((1103515245 : Int32))) + ((12345 : Int32))
def gnv (sd x : Int32) : Int32 := (xrem ((Int32.toUInt32 sd >>> (Int32.toUInt32 ((16 : Int32)) &&& Int32.toUInt32 31)).toInt32) ((((2 : Int32)) * x) + ((1 : Int32)))) - x
def gsd (sd : Int32) : Nat → Int32
  | 0 => sd
  | k + 1 => nxs (gsd sd k)
def gtv (sd x : Int32) (j : Int) : Int32 := gnv (gsd sd (j.toNat + 1)) x
def Zoc (o : HO) (a j : Nat) : Prop := ZM o 0 0 a j ∨ a = 146
def Zor (a j : Nat) : Prop := ZR 0 0 a j ∨ (a = 160 ∧ j = 136) ∨ a = 245
section S9d0
variable {d dl : Nat} {e s s' u hs : ZS} {κ : ZK} {R : Int → RG} {L : Int → Int} {o : HO} {v : VR} {q : QN} {M M' M1 M2 Mc Mr Mc' Mr' : Mem} {LL a j y N bs n kd sw pc : Nat} {xs : Nat → Int32} {ow : Nat → Int} {c p i nc k t b sl al lu mc wk en par tr nT x tm : Int} {w v1 v2 sd : Int32} {Z Z' : Nat → Nat → Prop} {tv : Int → Int32}
theorem gnv_n (hx : 0 ≤ x ∧ x ≤ 60) : ¬ (((2 : Int32)) * iI x) + ((1 : Int32)) = 0 := by
  rw [show (2 : Int32) * iI x = iI (2 * x) from mlI rfl rfl, show iI (2 * x) + (1 : Int32) = iI (2 * x + 1) from adI rfl li_1]
  exact eqI_n (y := 0) rfl rfl (by omega)
theorem c178_61e (hC : CT M) (hp : M.2.2.2[pc]? = some (8, 9)) (hpc : pc ≠ 146) (h4 : M.1 pc 4 = iI par) (hpar : 0 ≤ par ∧ par ≤ 4) (hx : 0 ≤ x ∧ x ≤ 60) : ∃ M', (∀ J : Int32 × Mem → XA, lp (c178_61 (runX d) (some 64) (some pc) J (iI x)) 4294967296 (sd, (0 : Int32), M) = J (gsd sd par.toNat, M')) ∧ Fz (fun a j => a = 146 ∧ (j : Int) < par) M M' ∧ ∀ j : Int, 0 ≤ j → j < par → M'.1 146 j.toNat = gtv sd (iI x) j := by
  refine lp_usej (b := fun J => c178_61 (runX d) (some 64) (some pc) J (iI x)) (R := fun J s => J (s.1, s.2.2)) par.toNat (fun k s => s.1 = gsd sd k ∧ s.2.1 = iI (k : Int) ∧ Fz (fun a j => a = 146 ∧ (j : Int) < par) M s.2.2 ∧ ∀ j : Int, 0 ≤ j → j < k → s.2.2.1 146 j.toNat = gtv sd (iI x) j) (sd, (0 : Int32), M) 4294967296 (by omega) ⟨rfl, li_0, Fz.r, fun q a b => by omega⟩ (fun s' g1 g2 => ?_) (fun k s hk' hI => ?_) (fun s hI J go => ?_)
  · exact ⟨s'.2.2, fun J => (g2 J).trans (by rw [g1.1]), g1.2.2.1, fun q a b => g1.2.2.2 q a (by omega)⟩
  · obtain ⟨i0, i1, Mk⟩ := s
    obtain ⟨u0, u1, u2, u3⟩ := hI
    dsimp only at u0 u1 u2 u3
    subst u1; subst u0
    have Ck : CT Mk := hC.keep u2.1
    have k2 : Mk.2.2.2[pc]? = some (8, 9) := by rw [congrArg (fun z => z.2.2) u2.1]; exact hp
    refine ⟨(gsd sd (k + 1), iI ((k + 1 : Nat) : Int), sI Mk 146 ((k : Int)).toNat (gtv sd (iI x) k)), ⟨rfl, rfl, u2.si ⟨rfl, by omega⟩, fun q a b => ?_⟩, fun J go => ?_⟩
    · dsimp only
      by_cases y : q = (k : Int)
      · rw [y]; exact sI_eq
      · exact (sI_nej (by omega)).trans (u3 q a (by omega))
    · unfold c178_61
      dsimp only
      rw [gtI_q k2 ((u2.2 _ _ fun z => hpc z.1).trans h4), if_neg (leI_n (y := (k : Int)) rfl rfl (by omega)), if_neg (show ¬ (4 : Int32) ≤ iI (k : Int) from leI_n (x := 4) (y := (k : Int)) rfl rfl (by omega)), show (gsd sd k * ((1103515245 : Int32))) + ((12345 : Int32)) = gsd sd (k + 1) from rfl, lt_e, gtP_q (ck_64 Ck) (cf_64_11 Ck), if_neg (gnv_n hx), asI_e (z := (k : Int)) (n := 6) (ck_146 Ck) (by omega) (by omega) (by omega)]
      exact ltI_q (z := ((k + 1 : Nat) : Int)) (cvI (adI rfl li_1) (by omega))
  · obtain ⟨i0, i1, Mk⟩ := s
    obtain ⟨u0, u1, u2, u3⟩ := hI
    dsimp only at u0 u1 u2 u3
    subst u1; subst u0
    have k2 : Mk.2.2.2[pc]? = some (8, 9) := by rw [congrArg (fun z => z.2.2) u2.1]; exact hp
    unfold c178_61
    dsimp only
    rw [gtI_q k2 ((u2.2 _ _ fun z => hpc z.1).trans h4), if_pos (leI_p (y := (par.toNat : Int)) rfl rfl (by omega))]
theorem r289_102e (hR : RT M) (hpar : 0 ≤ par ∧ par ≤ 4) (hx : 0 ≤ x ∧ x ≤ 60) : ∃ M', (∀ J : Int32 × Mem → XA, lp (c289_102 (runX d) (some 160) J (iI par) (iI x)) 4294967296 (sd, (0 : Int32), M) = J (gsd sd par.toNat, M')) ∧ Fz (fun a j => a = 245 ∧ (j : Int) < par) M M' ∧ ∀ j : Int, 0 ≤ j → j < par → M'.1 245 j.toNat = gtv sd (iI x) j := by
  refine lp_usej (b := fun J => c289_102 (runX d) (some 160) J (iI par) (iI x)) (R := fun J s => J (s.1, s.2.2)) par.toNat (fun k s => s.1 = gsd sd k ∧ s.2.1 = iI (k : Int) ∧ Fz (fun a j => a = 245 ∧ (j : Int) < par) M s.2.2 ∧ ∀ j : Int, 0 ≤ j → j < k → s.2.2.1 245 j.toNat = gtv sd (iI x) j) (sd, (0 : Int32), M) 4294967296 (by omega) ⟨rfl, li_0, Fz.r, fun q a b => by omega⟩ (fun s' g1 g2 => ?_) (fun k s hk' hI => ?_) (fun s hI J go => ?_)
  · exact ⟨s'.2.2, fun J => (g2 J).trans (by rw [g1.1]), g1.2.2.1, fun q a b => g1.2.2.2 q a (by omega)⟩
  · obtain ⟨i0, i1, Mk⟩ := s
    obtain ⟨u0, u1, u2, u3⟩ := hI
    dsimp only at u0 u1 u2 u3
    subst u1; subst u0
    have Rk : RT Mk := hR.keep u2.1
    refine ⟨(gsd sd (k + 1), iI ((k + 1 : Nat) : Int), sI Mk 245 ((k : Int)).toNat (gtv sd (iI x) k)), ⟨rfl, rfl, u2.si ⟨rfl, by omega⟩, fun q a b => ?_⟩, fun J go => ?_⟩
    · dsimp only
      by_cases y : q = (k : Int)
      · rw [y]; exact sI_eq
      · exact (sI_nej (by omega)).trans (u3 q a (by omega))
    · unfold c289_102
      dsimp only
      rw [if_neg (leI_n (y := (k : Int)) rfl rfl (by omega)), show (gsd sd k * ((1103515245 : Int32))) + ((12345 : Int32)) = gsd sd (k + 1) from rfl, lt_e, gtP_q (rk_160 Rk) (rf_135 Rk), if_neg (gnv_n hx), asI_e (z := (k : Int)) (n := 4) (rk_245 Rk) (by omega) (by omega) (by omega)]
      exact ltI_q (z := ((k + 1 : Nat) : Int)) (cvI (adI rfl li_1) (by omega))
  · obtain ⟨i0, i1, Mk⟩ := s
    obtain ⟨u0, u1, u2, u3⟩ := hI
    dsimp only at u0 u1 u2 u3
    subst u1; subst u0
    unfold c289_102
    dsimp only
    rw [if_pos (leI_p (y := (par.toNat : Int)) rfl rfl (by omega))]
/-- what stands when a prop was tried -/
def hpO (LL : Nat) (xs : Nat → Int32) (o : HO) (p sl par rc bd : Int) (Mc Mr : Mem) : Prop := (∃ b hs, KI LL xs o p sl 0 b hs Mc Mr ∧ b ≤ bd ∧ Mc.1 88 3 = iI (-2) ∧ Mr.1 160 90 = iI (-1) ∧ (rc = 0 → Mc.1 146 4 = Mr.1 160 88 ∧ ∀ j : Int, 0 ≤ j → j < par → Mc.1 146 j.toNat = Mr.1 245 j.toNat) ∧ (rc = 1 → Mc.1 146 4 = iI 0)) ∨ (KSx LL xs o p sl 0 Mc Mr ∧ rc = 0)
theorem often_pair {J J' : Int32 × Mem → XA} (hdl : 13 ≤ dl) (hd : 64 ≤ d) (hP : hoP o) (hp : 0 ≤ p ∧ p < oN o) (hsl : 1 ≤ sl ∧ sl ≤ 1000) (hk : 0 ≤ k ∧ k < (gR (oP o p)).1 4 0 0) (htm : tm ≤ 200) (hpar : par = (gR (oP o p)).1 4 4 k) (hpc : pc = hEC (gH (oP o p)) 4 k) (hw : w = iI p) (hv : v1 = iI k) : ∀ (m : Nat) (i b nT : Int) (hs : ZS) (sd : Int32) (Mc Mr : Mem) (N N' : Nat), i + m = tm → 0 ≤ i → m < N → m < N' → KI LL xs o p sl 0 b hs Mc Mr → Mc.1 88 3 = iI (-2) → Mr.1 160 90 = iI (-1) → Mc.1 146 5 = iI nT → Mr.1 160 136 = iI nT → Mc.1 146 4 = iI 0 → ∃ Mc' Mr' rc nT', lp (c178_28 (runX dl) (some 64) (some pc) (iI tm) J) N (sd, iI 1, iI i, Mc) = J (iI rc, Mc') ∧ lp (c289_79 (runX d) (some 160) w v1 (iI tm) J' (iI par)) N' (sd, iI 1, iI i, Mr) = J' (iI rc, Mr') ∧ (rc = 0 ∨ rc = 1) ∧ Fz (Zoc o) Mc Mc' ∧ Fz Zor Mr Mr' ∧ (Mc'.1 146 5 = iI nT' ∧ Mr'.1 160 136 = iI nT') ∧ hpO LL xs o p sl par rc b Mc' Mr' := by
  subst hw; subst hv
  have hg := hP.2.2.1 p hp.1 hp.2
  have n3 := hg.1.n3
  obtain ⟨-, ⟨f1, f4, f5⟩, -, c2, c3⟩ := hg.1.1.2.2.2.2.2.1 k hk.1 (by omega)
  rw [← hpar] at c2
  have e1 : ¬ (iI 1 = (0 : Int32)) := by decide
  intro m
  induction m with
  | zero =>
    intro i b nT hs sd Mc Mr N N' h1 h2 h3 h4 h g3 g9 g5 g6 g4
    obtain ⟨N, rfl⟩ : ∃ e, N = e + 1 := ⟨N - 1, by omega⟩
    obtain ⟨N', rfl⟩ : ∃ e, N' = e + 1 := ⟨N' - 1, by omega⟩
    refine ⟨Mc, Mr, 1, nT, ?_, ?_, Or.inr rfl, Fz.r, Fz.r, ⟨g5, g6⟩, Or.inl ⟨b, hs, h, Int.le_refl _, g3, g9, fun z => absurd z (by decide), fun _ => g4⟩⟩
    · rw [lp_e]; unfold c178_28
      dsimp only
      rw [if_pos (leI_p rfl rfl (by omega))]
    · rw [lp_e]; unfold c289_79
      dsimp only
      rw [if_pos (leI_p rfl rfl (by omega))]
  | succ m ih =>
    intro i b nT hs sd Mc Mr N N' h1 h2 h3 h4 h g3 g9 g5 g6 g4
    obtain ⟨N, rfl⟩ : ∃ e, N = e + 1 := ⟨N - 1, by omega⟩
    obtain ⟨N', rfl⟩ : ∃ e, N' = e + 1 := ⟨N' - 1, by omega⟩
    have hC := h.1.1.1.1
    have hR := h.1.2.1.1
    obtain ⟨x, hx, ex⟩ : ∃ x : Int, (0 ≤ x ∧ x ≤ 60) ∧ (if ((60 : Int32)) < iI i then ((60 : Int32)) else iI i) = iI x := by
      by_cases y : 60 < i
      · exact ⟨60, by omega, by rw [if_pos (show (60 : Int32) < iI i from lsI_p (x := 60) rfl rfl (by omega))]; rfl⟩
      · exact ⟨i, by omega, by rw [if_neg (show ¬ (60 : Int32) < iI i from lsI_n (x := 60) rfl rfl (by omega))]⟩
    obtain ⟨-, -, -, -, hTT, -⟩ := h.1.1.2.1 p hp.1 hp.2
    obtain ⟨⟨t1, t2, t3⟩, t4, t5⟩ := hTT 4 (by decide) (by decide) k hk.1 (by omega)
    rw [← hpc] at t1 t2 t3 t4 t5
    have lo := pk_lo hP hp
    have p4 : Mc.1 pc 4 = iI par := by rw [hpar]; exact (t4 4 (by decide) (by decide)).trans (congrArg iI f4)
    obtain ⟨M1, a1, a2, a3⟩ := c178_61e (d := dl) (sd := sd) (M := Mc) (x := x) (par := par) hC t1 (by omega) p4 (by omega) hx
    obtain ⟨M2, b1, b2, b3⟩ := r289_102e (d := d) (sd := sd) (M := Mr) (x := x) (par := par) hR (by omega) hx
    have k1 : KI LL xs o p sl 0 b hs M1 M2 := h.sub hP a2 (fun a j z => ⟨ho_14 hP (Or.inl z.1), by omega, by omega⟩) b2 (fun a j z => ⟨⟨fun y => by omega, by omega, by omega, by omega⟩, by omega, by omega⟩)
    obtain ⟨Mc2, Mr2, rc, w1, w2, w3, w4, w5, ⟨w6, w7⟩, w8⟩ := hold_pair (dl := dl) (d := d) (w := iI p) (v1 := iI k) (tv := gtv sd (iI x)) (nT := nT) (by omega) (by omega) hP hp hsl hk k1 ((a2.2 _ _ (by omega)).trans g3) ((b2.2 _ _ (by omega)).trans g9) (fun j p q => ⟨a3 j p (by omega), b3 j p (by omega)⟩) ((a2.2 _ _ (by omega)).trans g5) ((b2.2 _ _ (by omega)).trans g6) rfl rfl
    rw [← hpc] at w1
    have C1 : CT M1 := hC.keep a2.1
    have F1 : Fz (Zoc o) Mc Mc2 := (a2.m fun a j z => Or.inr z.1).tr (w4.m fun a j z => z.imp id fun z => z.1)
    have G1 : Fz Zor Mr Mr2 := (b2.m fun a j z => Or.inr (Or.inr z.1)).tr (w5.m fun a j z => z.imp id Or.inl)
    have e46 : M1.1 146 4 = iI 0 := (a2.2 _ _ (by omega)).trans g4
    have cl : ∀ go, c178_28 (runX dl) (some 64) (some pc) (iI tm) J (sd, iI 1, iI i, Mc) go = go (gsd sd par.toNat, iI rc, iI (i + 1), Mc2) := fun go => by
      unfold c178_28
      dsimp only
      rw [if_neg (leI_n rfl rfl (by omega)), if_neg e1, gtP_q (ck_64 hC) (cf_64_2 hC), vC_e (ck_88 hC), cI_e (zc22 (n := b) (by omega) hC h.2.2.2.2.1.1 (by have := h.2.2.2.2.1.2.2.2; omega)), if_neg (show ¬ b < 0 by have := h.2.2.2.2.1.2.2.2; omega), if_pos (show iI 0 = 0 from rfl), ltI_q ex, jn_v, a1, jv_e, gtP_q (ck_64 C1) (cf_64_2 C1), gtP_q (ck_64 C1) (cf_64_11 C1), vC_e (ck_88 C1), cI_e w1]
      exact ltI_q (z := i + 1) (adI rfl li_1)
    have rl : ∀ go, c289_79 (runX d) (some 160) (iI p) (iI k) (iI tm) J' (iI par) (sd, iI 1, iI i, Mr) go = go (gsd sd par.toNat, iI rc, iI (i + 1), Mr2) := fun go => by
      unfold c289_79
      dsimp only
      rw [if_neg (leI_n rfl rfl (by omega)), if_neg e1, ltI_q ex, jn_v, b1, jv_e, vC_e (rk_160 (hR.keep b2.1)), cI_e w2, jn_v]
      rcases w3 with z | z
      · rw [if_neg (show ¬ iI (1 - rc) = 0 by rw [z]; decide), jv_e, z]
        exact ltI_q (z := i + 1) (adI rfl li_1)
      · rw [if_pos (show iI (1 - rc) = 0 by rw [z]; rfl), jv_e, z]
        exact ltI_q (z := i + 1) (adI rfl li_1)
    rw [lp_e, lp_e, cl, rl]
    by_cases hz : rc = 0
    · subst hz
      obtain ⟨N, rfl⟩ : ∃ e, N = e + 1 := ⟨N - 1, by omega⟩
      obtain ⟨N', rfl⟩ : ∃ e, N' = e + 1 := ⟨N' - 1, by omega⟩
      refine ⟨Mc2, Mr2, 0, nT + 1, ?_, ?_, Or.inl rfl, F1, G1, ⟨w6, w7⟩, ?_⟩
      · rw [lp_e]; unfold c178_28
        dsimp only
        by_cases y : tm ≤ i + 1
        · rw [if_pos (leI_p rfl rfl (by omega))]
        · rw [if_neg (leI_n rfl rfl (by omega)), if_pos (show iI 0 = 0 from rfl)]
      · rw [lp_e]; unfold c289_79
        dsimp only
        by_cases y : tm ≤ i + 1
        · rw [if_pos (leI_p rfl rfl (by omega))]
        · rw [if_neg (leI_n rfl rfl (by omega)), if_pos (show iI 0 = 0 from rfl)]
      · rcases w8 with ⟨b', hs2, y1, y2, y3, y4, y5, y6⟩ | ⟨y, -⟩
        · refine Or.inl ⟨b', hs2, y1, by omega, y3, y4, fun z => ⟨y5 z, fun j q1 q2 => ?_⟩, fun z => absurd z (by decide)⟩
          have z1 : Mc2.1 146 j.toNat = M1.1 146 j.toNat := w4.2 _ _ fun y => by
            rcases y with y | y
            · have := ZM_x y; omega
            · omega
          have z2 : Mr2.1 245 j.toNat = M2.1 245 j.toNat := w5.2 _ _ fun y => by
            rcases y with y | y
            · unfold ZR at y; omega
            · omega
          rw [z1, z2, a3 j q1 q2, b3 j q1 q2]
        · exact Or.inr ⟨y, rfl⟩
    · have hz1 : rc = 1 := w3.resolve_left hz
      subst hz1
      rcases w8 with ⟨b', hs2, y1, y2, y3, y4, y5, y6⟩ | ⟨-, y⟩
      · obtain ⟨Mc', Mr', rc', nT', v1, v2, v3, v4, v5, v6, v7⟩ := ih (i + 1) b' (nT + 1) hs2 (gsd sd par.toNat) Mc2 Mr2 N N' (by omega) (by omega) (by omega) (by omega) y1 y3 y4 w6 w7 ((y6 rfl).trans e46)
        refine ⟨Mc', Mr', rc', nT', v1, v2, v3, F1.tr v4, G1.tr v5, v6, ?_⟩
        rcases v7 with ⟨b2, hs3, q1, q2, q3⟩ | q
        · exact Or.inl ⟨b2, hs3, q1, by omega, q3⟩
        · exact Or.inr q
      · exact absurd y (by decide)
end S9d0
