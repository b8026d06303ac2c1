/-! kill(): all MUTANTS, both -/
def Zmk (o : HO) (kd a j : Nat) : Prop := ZM o 0 0 a j ∨ (151 ≤ a ∧ a ≤ 159) ∨ a = kd
def Zmr (a j : Nat) : Prop := ZR 0 0 a j ∨ a = 240 ∨ a = 242 ∨ a = 243
section S9cv
variable {d dl : Nat} {o : HO} {v : VR} {q : QN} {s s' u hs : ZS} {M M' M1 M2 Mc Mr Mc' Mr' : Mem} {LL a j x N bs n kd : Nat} {xs : Nat → Int32} {ow : Nat → Int} {c p i nc k t b sl al lu mc : Int} {w v1 v2 : Int32} {Z Z' : Nat → Nat → Prop} {Od : Int → Int} {T U : Nat → Int → Int32}
theorem hdC.sub (h : hdC hs M) (f : Fz Z M M') (z : ∀ a j, Z a j → a < 108 ∨ 140 ≤ a) : hdC hs M' := h.fz fun a j y => f.2 a j fun w => by
  have := z a j w
  omega
theorem hdR.sub (h : hdR hs M) (f : Fz Z M M') (z : ∀ a j, Z a j → a < 235 ∨ 237 < a) : hdR hs M' := h.fz fun a j y => f.2 a j fun w => by
  have := z a j w
  omega
theorem KI.sub (h : KI LL xs o p sl lu b hs Mc Mr) (hP : hoP o) (f : Fz Z Mc Mc') (hz : ∀ a j, Z a j → hoZ o a j ∧ a ≠ 88 ∧ (a < 108 ∨ 140 ≤ a)) (g : Fz Z' Mr Mr') (gz : ∀ a j, Z' a j → hrZ a j ∧ (a = 160 → j ≠ 77 ∧ j ≠ 78 ∧ j ≠ 83 ∧ j ≠ 84 ∧ j ≠ 91 ∧ j ≠ 92 ∧ j ≠ 97) ∧ (a < 235 ∨ 237 < a)) : KI LL xs o p sl lu b hs Mc' Mr' := by
  obtain ⟨⟨h1, h2⟩, h3, ⟨h4, h5, h6, h7⟩, h8, ⟨h9, h10, h11, h12⟩, h14, h15, h16⟩ := h
  have c8 : ∀ j, Mc'.1 88 j = Mc.1 88 j := fun j => f.2 _ _ fun z => (hz _ _ z).2.1 rfl
  have r8 : ∀ j, (j = 77 ∨ j = 78 ∨ j = 83 ∨ j = 84 ∨ j = 91 ∨ j = 92 ∨ j = 97) → Mr'.1 160 j = Mr.1 160 j := fun j y => g.2 _ _ fun z => by
    have := (gz _ _ z).2.1 rfl
    omega
  have p2 : Mc'.2.2.1 = Mc.2.2.1 := congrArg (fun z => z.2.1) f.1
  refine ⟨⟨h1.fg hP (f.fg h1.1.2.2) fun a j z => (hz a j z).1, h2.fg (g.fg h2.1.2) fun a j z => (gz a j z).1⟩, fun al => ?_, ⟨(r8 77 (by decide)).trans h4, (r8 91 (by decide)).trans h5, (r8 92 (by decide)).trans h6, (r8 97 (by decide)).trans h7⟩, (c8 2).trans (h8.trans (r8 78 (by decide)).symm), ⟨(c8 10).trans h9, (r8 83 (by decide)).trans h10, (r8 84 (by decide)).trans h11, h12⟩, h14.sub f fun a j z => (hz a j z).2.2, h15.sub g fun a j z => (gz a j z).2.2, h16⟩
  obtain ⟨w1, ⟨w2, w3, w4, w5⟩, w6, w7⟩ := h3 al
  have e : ∀ j, j ≠ 3 → (sI Mc' 88 3 (iI (if al < 0 then -2 else al))).1 88 j = (sI Mc 88 3 (iI (if al < 0 then -2 else al))).1 88 j := fun j z => (sI_nej z).trans ((c8 j).trans (sI_nej z).symm)
  refine ⟨?_, ⟨(e 1 (by decide)).trans w2, sI_eq, (e 6 (by decide)).trans w4, ?_⟩, ?_, fun z => absurd z v1F⟩
  · show Mc'.2.2.1 91 0 = _ ∧ (_ → Mc'.2.2.1 91 1 = _) ∧ (_ → Mc'.2.2.1 91 1 = none)
    rw [p2]; exact w1
  · show Mc'.2.2.1 88 4 = _
    rw [p2]; exact w5
  · show Mc'.2.2.1 88 9 = _
    rw [p2]; exact w6
theorem KS.sub (h : KS LL xs o p sl lu Mc Mr) (hP : hoP o) (f : Fz Z Mc Mc') (hz : ∀ a j, Z a j → hoZ o a j ∧ a ≠ 88 ∧ (a < 108 ∨ 140 ≤ a)) (g : Fz Z' Mr Mr') (gz : ∀ a j, Z' a j → hrZ a j ∧ (a = 160 → j ≠ 77 ∧ j ≠ 78 ∧ j ≠ 84 ∧ j ≠ 91 ∧ j ≠ 92 ∧ j ≠ 97) ∧ (a < 235 ∨ 237 < a)) : KS LL xs o p sl lu Mc' Mr' := by
  obtain ⟨⟨h1, h2⟩, ⟨h4, h5, h6, h7⟩, h8, ⟨h9, h10⟩, hs, h14, h15, h16⟩ := h
  have c8 : ∀ j, Mc'.1 88 j = Mc.1 88 j := fun j => f.2 _ _ fun z => (hz _ _ z).2.1 rfl
  have r8 : ∀ j, (j = 77 ∨ j = 78 ∨ j = 84 ∨ j = 91 ∨ j = 92 ∨ j = 97) → Mr'.1 160 j = Mr.1 160 j := fun j y => g.2 _ _ fun z => by
    have := (gz _ _ z).2.1 rfl
    omega
  exact ⟨⟨h1.fg hP (f.fg h1.1.2.2) fun a j z => (hz a j z).1, h2.fg (g.fg h2.1.2) fun a j z => (gz a j z).1⟩, ⟨(r8 77 (by decide)).trans h4, (r8 91 (by decide)).trans h5, (r8 92 (by decide)).trans h6, (r8 97 (by decide)).trans h7⟩, (c8 2).trans (h8.trans (r8 78 (by decide)).symm), ⟨(c8 10).trans h9, (r8 84 (by decide)).trans h10⟩, hs, h14.sub f fun a j z => (hz a j z).2.2, h15.sub g fun a j z => (gz a j z).2.2, h16⟩
theorem c150_x {J : Mem → XA} (hd : 1 ≤ d) (hC : CT M) (hx : M.2.2.2[x]? = some (6, 18) ∧ M.2.2.1 x 9 = some (x + 5) ∧ M.2.2.2[x + 5]? = some (100, n)) (h : n ≤ k ∨ M.1 88 10 = iI (-1)) (hk : 0 ≤ k ∧ k ≤ 2000 ∧ n ≤ 1000) (hN : 0 < N) : lp (c150_45 (runX d) (some 64) J (some x)) N (iI k, M) = J M := by
  obtain ⟨N, rfl⟩ : ∃ e, N = e + 1 := ⟨N - 1, by omega⟩
  rw [lp_e]
  unfold c150_45
  dsimp only
  rw [gtP_q hx.1 hx.2.1, aln_q' hx.2.2]
  by_cases y : n ≤ k
  · rw [if_pos (leI_p rfl rfl (by omega))]
  · have z := zc22 (d := d) hd hC (h.resolve_left y) (by decide)
    rw [if_pos (by decide)] at z
    rw [if_neg (leI_n rfl rfl (by omega)), gtP_q (ck_64 hC) (cf_64_2 hC), vC_e (ck_88 hC), cI_e z, if_neg (show ¬ iI 1 = 0 by decide)]
theorem c283_x {J : Mem → XA} (hR : RT M) (hp : 0 ≤ p ∧ p ≤ 7) (h1 : M.1 192 p.toNat = iI mc) (h : mc ≤ k ∨ w = iI (-1)) (hk : 0 ≤ k ∧ k ≤ 2000 ∧ 0 ≤ mc ∧ mc ≤ 1000) (hN : 0 < N) (hv : v1 = iI p) : lp (c283_31 (runX d) (some 160) v1 J) N (w, iI k, M) = J M := by
  obtain ⟨N, rfl⟩ : ∃ e, N = e + 1 := ⟨N - 1, by omega⟩
  rw [lp_e]
  unfold c283_31
  dsimp only
  rw [gtP_q (rk_160 hR) (rf_33 hR), alI_q (rk_192 hR) hv (by omega) h1]
  by_cases y : mc ≤ k
  · rw [if_pos (leI_p rfl rfl (by omega))]
  · rw [if_neg (leI_n rfl rfl (by omega)), if_pos (by rw [h.resolve_left y]; decide)]
theorem kill_all {J J' : Mem → XA} (hdl : 26 ≤ dl) (hd : 75 ≤ d) (hP : hoP o) (hp : 0 ≤ p ∧ p < oN o) (hsl : 1 ≤ sl ∧ sl ≤ 1000) (hnc : nc = (gR (oP o p)).1 3 0 0) (hO : odK Od nc.toNat) (hOo : odO Od nc.toNat) (hmc : mc = gmc (oP o p)) (hkd : kd = gX (oP o p) + 16 ∨ kd = gX (oP o p) + 17) : ∀ (m : Nat) (k b : Int) (hs : ZS) (Mc Mr : Mem) (N N' : Nat) (who : Int32) (km : Int → Nat), k + m = mc → 0 ≤ k → m < N → m < N' → KI LL xs o p sl 0 b hs Mc Mr → orB o p Od Mc Mr → (∀ c, 0 ≤ c → c < nc → vfC 150 T c Mc ∧ vfR T c Mr) → Mc.2.2.1 (gX (oP o p)) 15 = some kd → (∀ j, 0 ≤ j → j < k → Mc.1 kd j.toNat = iI (km j : Int) ∧ Mr.1 240 j.toNat = iI (km j : Int) ∧ km j < 2 ^ nc.toNat) → (∃ w : Nat, who = iI (w : Int) ∧ w < 65536) → ∃ Mc' Mr', lp (c150_45 (runX dl) (some 64) J (some (gX (oP o p)))) N (iI k, Mc) = J Mc' ∧ lp (c283_31 (runX d) (some 160) (iI p) J') N' (who, iI k, Mr) = J' Mr' ∧ Fz (Zmk o kd) Mc Mc' ∧ Fz Zmr Mr Mr' ∧ (Mr.1 160 90 = iI (-1) → Mr'.1 160 90 = iI (-1)) ∧ ((∃ (b' : Int) (hs' : ZS) (km' : Int → Nat), KI LL xs o p sl 0 b' hs' Mc' Mr' ∧ ∀ j, 0 ≤ j → j < mc → Mc'.1 kd j.toNat = iI ((km' j : Nat) : Int) ∧ Mr'.1 240 j.toNat = iI ((km' j : Nat) : Int) ∧ km' j < 2 ^ nc.toNat) ∨ KS LL xs o p sl 0 Mc' Mr') := by
  have lo := pk_lo hP hp
  have p8 := hP.1
  have nE := (hP.2.2.1 p hp.1 hp.2).1.n2
  have mb := mcn_b (gG (oP o p)) (gE (oP o p)).toNat
  have emc : gmc (oP o p) = mcn (gG (oP o p)) (gE (oP o p)).toNat := rfl
  have zc : ∀ a j, a = kd → hoZ o a j ∧ a ≠ 88 ∧ (a < 108 ∨ 140 ≤ a) := fun a j z => ⟨own_ho hP hp (by omega) (by unfold pkZ; omega), by omega, by omega⟩
  have zr : ∀ a j, a = 240 → hrZ a j ∧ (a = 160 → j ≠ 77 ∧ j ≠ 78 ∧ j ≠ 83 ∧ j ≠ 84 ∧ j ≠ 91 ∧ j ≠ 92 ∧ j ≠ 97) ∧ (a < 235 ∨ 237 < a) := fun a j z => ⟨⟨fun y => by omega, by omega, by omega, by omega⟩, fun y => by omega, by omega⟩
  intro m
  induction m with
  | zero =>
    intro k b hs Mc Mr N N' who km h1 h2 h3 h4 h hor hT h15 hkm hwho
    obtain ⟨⟨⟨o1, -⟩, -, -, o9, -⟩, ⟨-, -, -, r4, -⟩, -⟩ := h.1.1.2.1 p hp.1 hp.2
    have e192 : Mr.1 192 p.toNat = iI mc := by rw [hmc]; exact (h.1.2.2.1 p hp.1 hp.2).2.1.2
    exact ⟨Mc, Mr, c150_x (by omega) h.1.1.1.1 ⟨o1, o9, r4.1⟩ (Or.inl (by omega)) (by omega) h3, c283_x h.1.2.1.1 (by omega) e192 (Or.inl (by omega)) (by omega) h4 rfl, Fz.r, Fz.r, fun z => z, Or.inl ⟨b, hs, km, h, fun j a b => hkm j a (by omega)⟩⟩
  | succ m ih =>
    intro k b hs Mc Mr N N' who km h1 h2 h3 h4 h hor hT h15 hkm hwho
    obtain ⟨N, rfl⟩ : ∃ e, N = e + 1 := ⟨N - 1, by omega⟩
    obtain ⟨N', rfl⟩ : ∃ e, N' = e + 1 := ⟨N' - 1, by omega⟩
    obtain ⟨W, hW, hW2⟩ := hwho
    have hC := h.1.1.1.1
    have hR := h.1.2.1.1
    obtain ⟨⟨⟨o1, o2, o3⟩, o4, -, o9, o10, o11, o12⟩, ⟨-, -, -, r4, -⟩, ⟨k1, k2, k3⟩, -⟩ := h.1.1.2.1 p hp.1 hp.2
    obtain ⟨-, t192⟩ := (h.1.2.2.1 p hp.1 hp.2).2.1
    have t192 : Mr.1 192 p.toNat = iI mc := by rw [hmc]; exact t192
    have kdk : Mc.2.2.2[kd]? = some (100, mc.toNat) := by
      rw [hmc]
      rcases hkd with z | z <;> rw [z]
      · exact k2
      · exact k3
    obtain ⟨al, hal⟩ : ∃ al, al = gmt (oP o p) k := ⟨_, rfl⟩
    have mt := mtf_b (gG (oP o p)) (gE (oP o p)).toNat k h2 (by omega)
    have ht : gmt (oP o p) k = mtf (gG (oP o p)) (gE (oP o p)).toNat k := rfl
    rw [← ht, ← hal] at mt
    have c5 : Mc.1 (gX (oP o p) + 5) k.toNat = iI al := by
      have this : Mc.1 (gX (oP o p) + 5) k.toNat = iI (gmt (oP o p) ((k.toNat : Nat) : Int)) := r4.2 k.toNat (by omega)
      rw [this, show ((k.toNat : Nat) : Int) = k by omega, hal]
    have f193 : Mr.1 193 (1000 * p + k).toNat = iI al := by rw [hal]; exact (h.1.2.2.1 p hp.1 hp.2).2.2.2 k h2 (by omega)
    have nal : ¬ al < 0 := by omega
    obtain ⟨Mc1, hMc1⟩ : ∃ X, X = sI Mc 88 3 (iI (if al < 0 then -2 else al)) := ⟨_, rfl⟩
    obtain ⟨Mc2, Mr2, wh, x1, x2, x3, x4, x5, x6⟩ := kill_run (dl := dl) (d := d) (al := al) (bs := 155) (T := T) (Mc' := Mc1) (w := iI p) (v1 := iI al) (by omega) hd hP hp hsl hnc hO hOo h (Or.inr ⟨mt.1, by omega, mt.2.2.2⟩) (Or.inr ⟨rfl, mt.1⟩) hor (fun _ c a b => (hT c a b).2) hMc1 rfl rfl
    have hC2 : hoC LL xs o Mc2 ∧ hoR o Mr2 := by
      rcases x6 with ⟨b', hs2, U, y, -⟩ | ⟨y, -⟩
      · exact y.1
      · exact y.1
    have n2 : ∀ a j, 146 ≤ a → (a < 156 ∨ 159 < a) → Mc2.1 a j = Mc.1 a j := fun a j z z2 => x3.2 _ _ fun y => by
      rcases y with y | y
      · have := ZM_x y
        omega
      · omega
    have r2 : ∀ a j, (a = 183 ∨ a = 242 ∨ a = 243 ∨ a = 240) → Mr2.1 a j = Mr.1 a j := fun a j z => x4.2 _ _ fun y => by
      rcases y with y | y
      · unfold ZR at y; omega
      · omega
    obtain ⟨U, hU⟩ : ∃ U : Nat → Int → Int32, (∀ c, 0 ≤ c → c < nc → vfC 155 U c Mc2) ∧ ((∃ b' hs2, KI LL xs o p sl 0 b' hs2 Mc2 Mr2) → wh = por (dmk T U) nc.toNat) := by
      rcases x6 with ⟨b', hs2, U, y1, y2, y3, -⟩ | ⟨y, y2⟩
      · exact ⟨U, fun c a b => (y2 c a b).1, fun _ => y3 mt.1⟩
      · refine ⟨fun t c => Mc2.1 (155 + 1 + t) c.toNat, fun c a b t ht => rfl, fun ⟨b', hs2, z⟩ => ?_⟩
        have e1 := z.2.2.2.2.1.2.2.1
        have e2 := y.2.2.2.1.2
        rw [e1] at e2
        exact absurd e2 (by decide)
    have hT2 : ∀ c, 0 ≤ c → c < nc → vfC 150 T c Mc2 := fun c a b t ht => (n2 _ _ (by omega) (by omega)).trans ((hT c a b).1 t ht)
    have mN := mask_N (T := T) (U := U) (n := nc.toNat) (by omega)
    have e176 := zc176 (d := dl) (M := Mc2) (n := nc.toNat) (T := T) (U := U) (w := iI ((nc.toNat : Nat) : Int)) (by omega) hC2.1.1.1 (by omega) (fun c a b => ⟨hT2 c a (by omega), hU.1 c a (by omega)⟩) rfl
    have p2 : Mc2.2.2.1 = Mc.2.2.1 := congrArg (fun z => z.2.1) x3.1
    have q2 : Mc2.2.2.2 = Mc.2.2.2 := congrArg (fun z => z.2.2) x3.1
    obtain ⟨Mc3, hMc3⟩ : ∃ X, X = sI Mc2 kd k.toNat (por (dmk T U) nc.toNat) := ⟨_, rfl⟩
    obtain ⟨Mr3, hMr3⟩ : ∃ X, X = sI Mr2 240 k.toNat wh := ⟨_, rfl⟩
    have fc : Fz (fun a j => a = kd ∧ j = k.toNat) Mc2 Mc3 := by rw [hMc3]; exact (Fz.r).si ⟨rfl, rfl⟩
    have fr : Fz (fun a j => a = 240 ∧ j = k.toNat) Mr2 Mr3 := by rw [hMr3]; exact (Fz.r).si ⟨rfl, rfl⟩
    have enc : (((gR (oP o p)).1 3 0 0).toNat : Int) = nc := by omega
    have enc2 : ((nc.toNat : Nat) : Int) = nc := by omega
    have tc : lp (c150_45 (runX dl) (some 64) J (some (gX (oP o p)))) (N + 1) (iI k, Mc) = lp (c150_45 (runX dl) (some 64) J (some (gX (oP o p)))) N (iI (k + 1), Mc3) := by
      have z := zc22 (d := dl) (by omega) hC h.2.2.2.2.1.1 (by have := h.2.2.2.2.1.2.2.2; omega)
      rw [if_neg (by have := h.2.2.2.2.1.2.2.2.1; omega)] at z
      have e1 : Mc1 = sI Mc 88 3 (iI al) := by rw [hMc1, if_neg nal]
      have m1 : Mc1.2 = Mc.2 := by rw [e1]; rfl
      have kk1 : Mc1.2.2.2 = Mc.2.2.2 := congrArg (fun z => z.2.2) m1
      have pp1 : Mc1.2.2.1 = Mc.2.2.1 := congrArg (fun z => z.2.1) m1
      have C1 : CT Mc1 := hC.keep m1
      have a1 : Mc1.2.2.2[gX (oP o p)]? = some (6, 18) := by rw [kk1]; exact o1
      have a2 : Mc1.2.2.1 (gX (oP o p)) 10 = some (gX (oP o p) + 6) := by rw [pp1]; exact o10
      have a3 : Mc1.2.2.2[gX (oP o p) + 6]? = some (100, ((gR (oP o p)).1 3 0 0).toNat) := by rw [kk1]; exact k1
      have b1 : Mc2.2.2.2[gX (oP o p)]? = some (6, 18) := by rw [q2]; exact o1
      have b2 : Mc2.2.2.1 (gX (oP o p)) 15 = some kd := by rw [p2]; exact h15
      have b3 : Mc2.2.2.1 (gX (oP o p)) 10 = some (gX (oP o p) + 6) := by rw [p2]; exact o10
      have b4 : Mc2.2.2.2[gX (oP o p) + 6]? = some (100, ((gR (oP o p)).1 3 0 0).toNat) := by rw [q2]; exact k1
      have b5 : Mc2.2.2.2[kd]? = some (100, mc.toNat) := by rw [q2]; exact kdk
      rw [lp_e]
      generalize lp (c150_45 (runX dl) (some 64) J (some (gX (oP o p)))) N = go
      unfold c150_45
      dsimp only
      rw [gtP_q o1 o9, aln_q' r4.1, if_neg (leI_n rfl rfl (by omega)), gtP_q (ck_64 hC) (cf_64_2 hC), vC_e (ck_88 hC), cI_e z, if_pos (show iI 0 = 0 from rfl), gtP_q (ck_64 hC) (cf_64_2 hC), gtP_q o1 o9, alI_q r4.1 rfl (by omega) c5, ptI_e (ck_88 hC), ← e1, gtP_q a1 a2, gtP_q a1 a2, aln_q' a3, gtP_q (ck_64 C1) (cf_64_18 C1), vC_e (ck_64 C1), enc, cV_e x1]
      rw [gtP_q b1 b2, gtP_q b1 b3, aln_q' b4, enc, vC_e (ck_64 hC2.1.1.1), ← enc2, cI_e e176, asI_e b5 (by omega) (by omega) (by omega), ← hMc3]
      exact ltI_q (adI rfl li_1)
    have tr : lp (c283_31 (runX d) (some 160) (iI p) J') (N' + 1) (who, iI k, Mr) = lp (c283_31 (runX d) (some 160) (iI p) J') N' (wh, iI (k + 1), Mr3) := by
      have i1000 : (1000 : Int32) * iI p + iI k = iI (1000 * p + k) := adI (mlI li_1000 rfl) rfl
      have kr := rk_160 hR
      rw [lp_e]
      generalize lp (c283_31 (runX d) (some 160) (iI p) J') N' = go
      unfold c283_31
      dsimp only
      rw [gtP_q kr (rf_33 hR), alI_q (rk_192 hR) rfl (by omega) t192, if_neg (leI_n rfl rfl (by omega)), if_neg (by rw [hW]; exact lsI_n rfl li_0 (by omega)), gtP_q kr (rf_34 hR), alX_q (rk_193 hR) i1000 (by omega) f193, vC_e kr, cI_e x2, gtP_q (rk_160 hC2.2.1.1) (rf_125 hC2.2.1.1), asI_e (rk_240 hC2.2.1.1) (by omega) (by omega) (by omega), ← hMr3]
      exact ltI_q (adI rfl li_1)
    rw [tc, tr]
    have f03 : Fz (Zmk o kd) Mc Mc3 := by
      refine (x3.m fun a j z => ?_).tr (fc.m fun a j z => Or.inr (Or.inr z.1))
      rcases z with z | z
      · exact Or.inl z
      · exact Or.inr (Or.inl (by omega))
    have g03 : Fz Zmr Mr Mr3 := by
      refine (x4.m fun a j z => ?_).tr (fr.m fun a j z => Or.inr (Or.inl z.1))
      rcases z with z | z
      · exact Or.inl z
      · exact Or.inr (Or.inr z.2)
    have e90 : Mr3.1 160 90 = iI (-1) := by rw [hMr3]; exact (sI_ne (by decide)).trans x5
    rcases x6 with ⟨b', hs2, U', y1, y2, y3, y4⟩ | ⟨y1, y2⟩
    · have ewh := hU.2 ⟨b', hs2, y1⟩
      have y1' : KI LL xs o p sl 0 b' hs2 Mc3 Mr3 := y1.sub hP fc (fun a j z => zc a j z.1) fr (fun a j z => zr a j z.1)
      obtain ⟨km', hkm'⟩ : ∃ X : Int → Nat, X = fun j => if j = k then porN (dmN T U) nc.toNat else km j := ⟨_, rfl⟩
      have hk' : ∀ j, 0 ≤ j → j < k + 1 → Mc3.1 kd j.toNat = iI ((km' j : Nat) : Int) ∧ Mr3.1 240 j.toNat = iI ((km' j : Nat) : Int) ∧ km' j < 2 ^ nc.toNat := fun j a b => by
        by_cases y : j = k
        · have ek : km' j = porN (dmN T U) nc.toNat := by rw [hkm']; exact if_pos y
          rw [ek, y]
          refine ⟨?_, ?_, mN.2⟩
          · rw [hMc3]; exact sI_eq.trans mN.1
          · rw [hMr3]; exact sI_eq.trans (ewh.trans mN.1)
        · have ek : km' j = km j := by rw [hkm']; exact if_neg y
          obtain ⟨z1, z2, z3⟩ := hkm j a (by omega)
          rw [ek]
          exact ⟨(fc.2 _ _ fun z => by omega).trans ((n2 _ _ (by omega) (by omega)).trans z1), (fr.2 _ _ fun z => by omega).trans ((r2 _ _ (by omega)).trans z2), z3⟩
      have hor' : orB o p Od Mc3 Mr3 := fun i a b => by
        obtain ⟨z1, z2⟩ := hor i a b
        exact ⟨(fc.2 _ _ fun z => by omega).trans ((n2 _ _ (by omega) (by omega)).trans z1), (fr.2 _ _ fun z => by omega).trans ((r2 _ _ (by omega)).trans z2)⟩
      have hT' : ∀ c, 0 ≤ c → c < nc → vfC 150 T c Mc3 ∧ vfR T c Mr3 := fun c a b => ⟨fun t ht => (fc.2 _ _ fun z => by omega).trans (hT2 c a b t ht), fun t ht => (fr.2 _ _ fun z => by omega).trans ((r2 _ _ (by omega)).trans ((hT c a b).2 t ht))⟩
      have h15' : Mc3.2.2.1 (gX (oP o p)) 15 = some kd := by
        rw [hMc3]
        show Mc2.2.2.1 (gX (oP o p)) 15 = some kd
        rw [p2]; exact h15
      have pN : 2 ^ nc.toNat ≤ 2 ^ 16 := Nat.pow_le_pow_right (by decide) (show nc.toNat ≤ 16 by omega)
      obtain ⟨Mc', Mr', z1, z2, z3, z4, z5, z6⟩ := ih (k + 1) b' hs2 Mc3 Mr3 N N' wh km' (by omega) (by omega) (by omega) (by omega) y1' hor' hT' h15' hk' ⟨porN (dmN T U) nc.toNat, ewh.trans mN.1, by have := mN.2; omega⟩
      exact ⟨Mc', Mr', z1, z2, f03.tr z3, g03.tr z4, fun _ => z5 e90, z6⟩
    · have y1' : KS LL xs o p sl 0 Mc3 Mr3 := y1.sub hP fc (fun a j z => zc a j z.1) fr (fun a j z => ⟨(zr a j z.1).1, fun y => by have := (zr a j z.1).2.1 y; omega, (zr a j z.1).2.2⟩)
      obtain ⟨⟨⟨o1', -⟩, -, -, o9', -⟩, ⟨-, -, -, r4', -⟩, -⟩ := y1'.1.1.2.1 p hp.1 hp.2
      have t192' : Mr3.1 192 p.toNat = iI mc := by rw [hmc]; exact (y1'.1.2.2.1 p hp.1 hp.2).2.1.2
      exact ⟨Mc3, Mr3, c150_x (by omega) y1'.1.1.1.1 ⟨o1', o9', r4'.1⟩ (Or.inr y1'.2.2.2.1.1) (by omega) (by omega), c283_x y1'.1.2.1.1 (by omega) t192' (Or.inr y2) (by omega) (by omega) rfl, f03, g03, fun _ => e90, Or.inr y1'⟩
end S9cv
