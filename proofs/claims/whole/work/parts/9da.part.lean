/-! suspects are left out, one after the other: both -/
/-- the suspects of both: ss, then the CASE c -/
def sus (nc c n : Int) (ss : Int → Int) (Mc Mr : Mem) : Prop := (0 ≤ n ∧ n ≤ 15) ∧ (∀ j, 0 ≤ j → j < n → (0 ≤ ss j ∧ ss j < nc)) ∧ (∀ j : Int, 0 ≤ j → j < n → Mc.1 148 j.toNat = iI (ss j) ∧ Mr.1 256 j.toNat = iI (ss j)) ∧ Mc.1 148 n.toNat = iI c
def blS (LL : Nat) (xs : Nat → Int32) (o : HO) (p sl nc c n b : Int) (ss : Int → Int) (Mc Mr : Mem) : Prop := ∃ hs, KI LL xs o p sl 0 b hs Mc Mr ∧ (Mc.1 88 3 = iI (-2) ∧ Mr.1 160 90 = iI (-1)) ∧ sus nc c n ss Mc Mr
def Zbc (o : HO) (a j : Nat) : Prop := Zkc o 150 a j ∨ a = 148
def Zbr (a j : Nat) : Prop := ZR 0 0 a j ∨ a = 256
section S9da
variable {d dl : Nat} {o : HO} {v : VR} {q : QN} {P : Nat → Int} {s s' u hs : ZS} {M M' Mc Mr Mc' Mr' X : Mem} {LL a j N : Nat} {xs : Nat → Int32} {c p i n st b nc sl al wo wr wi n0 : Int} {w sd v1 v2 ch : Int32} {e : ZS} {κ : ZK} {g : PG} {ss : Int → Int}
theorem acI_g {a0 x y m N2 : Nat} {k : Mem → XA} {i j w : Int32} (hi : i = iI (x : Int)) (hj : j = iI (y : Int)) (hw : w = iI (m : Int)) (h1 : M.2.2.2[a0]? = some (100, N)) (h2 : M.2.2.2[a]? = some (100, N2)) (hm : x + m ≤ N ∧ y + m ≤ N2 ∧ x + m ≤ 100000 ∧ y + m ≤ 100000) : acI M (some a0) i (some a) j w k = k (cpI M a0 x a y m) := by
  have e0 : i.toNatClampNeg = x := by rw [hi, iI_nat (by omega) (by omega)]; rfl
  have e1 : j.toNatClampNeg = y := by rw [hj, iI_nat (by omega) (by omega)]; rfl
  have e2 : w.toNatClampNeg = m := by rw [hw, iI_nat (by omega) (by omega)]; rfl
  have n0 : ¬ i < 0 := lsI_n hi li_0 (by omega)
  have n1 : ¬ j < 0 := lsI_n hj li_0 (by omega)
  have n2 : ¬ w < 0 := lsI_n hw li_0 (by omega)
  unfold acI
  have g : acOK 100 M a0 i a j w = true := by
    unfold acOK
    rw [h1, h2, e0, e1, e2]
    dsimp only
    rw [decide_eq_false n0, decide_eq_false n1, decide_eq_false n2, decide_eq_true (show x + m ≤ N by omega), decide_eq_true (show y + m ≤ N2 by omega)]
    rfl
  dsimp only
  rw [e0, e1, e2, if_pos g]
theorem cpI_in {x y m a0 : Nat} (h : y ≤ j ∧ j < y + m) : (cpI M a0 x a y m).1 a j = M.1 a0 (x + (j - y)) := by
  show (if a = a then va_cpy _ _ x y m j else _) = _
  rw [if_pos rfl]
  unfold va_cpy
  rw [if_pos h]
theorem cpI_out {x y m a0 : Nat} (h : j < y) : (cpI M a0 x a y m).1 a j = M.1 a j := by
  show (if a = a then va_cpy _ _ x y m j else _) = _
  rw [if_pos rfl]
  unfold va_cpy
  rw [if_neg (by omega)]
theorem r304_217e (hR : RT M) (h1 : 0 ≤ wi ∧ wi < n ∧ n ≤ 15) : ∃ M', (∀ J : Mem → XA, lp (c304_217 (runX d) (some 160) J (iI (n - 1))) 4294967296 (iI wi, M) = J M') ∧ Fz (fun a _ => a = 256) M M' ∧ (∀ j : Int, 0 ≤ j → j < wi → M'.1 256 j.toNat = M.1 256 j.toNat) ∧ ∀ j : Int, wi ≤ j → j < n - 1 → M'.1 256 j.toNat = M.1 256 (j + 1).toNat := by
  refine lp_usej (b := fun J => c304_217 (runX d) (some 160) J (iI (n - 1))) (R := fun J s => J s.2) (n - 1 - wi).toNat (fun k s => s.1 = iI (wi + k) ∧ Fz (fun a _ => a = 256) M s.2 ∧ (∀ j : Int, 0 ≤ j → j < wi → s.2.1 256 j.toNat = M.1 256 j.toNat) ∧ (∀ j : Int, wi ≤ j → j < wi + k → s.2.1 256 j.toNat = M.1 256 (j + 1).toNat) ∧ ∀ j : Int, wi + k ≤ j → s.2.1 256 j.toNat = M.1 256 j.toNat) (iI wi, M) 4294967296 (by omega) ⟨congrArg iI (by omega), Fz.r, fun _ _ _ => rfl, fun j a b => by omega, fun _ _ => rfl⟩ (fun s' g1 g2 => ?_) (fun k s hk' hI => ?_) (fun s hI J go => ?_)
  · exact ⟨s'.2, g2, g1.2.1, g1.2.2.1, fun j a b => g1.2.2.2.1 j a (by omega)⟩
  · obtain ⟨i1, Mk⟩ := s
    obtain ⟨u1, u2, u3, u4, u5⟩ := hI
    dsimp only at u1 u2 u3 u4 u5
    subst u1
    have Rk : RT Mk := hR.keep u2.1
    refine ⟨(iI (wi + ((k + 1 : Nat) : Int)), sI Mk 256 (wi + k).toNat (M.1 256 (wi + k + 1).toNat)), ⟨rfl, u2.si rfl, fun j a b => ?_, fun j a b => ?_, fun j a => ?_⟩, fun J go => ?_⟩
    · exact (sI_nej (by omega)).trans (u3 j a b)
    · dsimp only
      by_cases y : j = wi + k
      · rw [y]; exact sI_eq
      · exact (sI_nej (by omega)).trans (u4 j a (by omega))
    · exact (sI_nej (by omega)).trans (u5 j (by omega))
    · unfold c304_217
      dsimp only
      rw [if_neg (leI_n (y := wi + k) rfl rfl (by omega)), gtP_q (rk_160 Rk) (rf_153 Rk), gtP_q (rk_160 Rk) (rf_153 Rk), alI_q (n := 16) (z := wi + k + 1) (rk_256 Rk) (adI rfl li_1) (by omega) (u5 _ (by omega)), asI_e (z := wi + k) (n := 16) (rk_256 Rk) (by omega) (by omega) (by omega)]
      exact ltI_q (z := wi + ((k + 1 : Nat) : Int)) (cvI (adI rfl li_1) (by omega))
  · obtain ⟨i1, Mk⟩ := s
    obtain ⟨u1, -⟩ := hI
    dsimp only at u1
    subst u1
    unfold c304_217
    dsimp only
    rw [if_pos (leI_p (y := wi + ((n - 1 - wi).toNat : Int)) rfl rfl (by omega))]
theorem ho_148 (hP : hoP o) (ha : a = 148 ∨ a = 149 ∨ (a = 64 ∧ j = 16)) : hoZ o a j := ⟨by omega, fun q hq => by
  have g : ∀ q, q ∈ CFd → q.1 ≠ 148 ∧ q.1 ≠ 149 ∧ ¬ (q.1 = 64 ∧ q.2.1 = 16) := by decide
  have := g _ hq
  dsimp only at this
  omega, fun p x y u z => by have := (hP.2.2.1 p x y).2.2; omega, fun x y => by omega⟩
theorem hr_256 (ha : a = 255 ∨ a = 256 ∨ (a = 160 ∧ j = 151)) : hrZ a j := ⟨fun y q hq => by
  have g : ∀ q, q ∈ RFd → q.1 ≠ 151 := by decide
  have := g _ hq
  dsimp only at this
  omega, by omega, by omega, by omega⟩
theorem ZM_148 (y : Zkc o 150 148 j) : False := by
  rcases y with y | y
  · have := ZM_x y; omega
  · omega
theorem ZR_256 (y : ZR 0 0 256 j) : False := by unfold ZR at y; omega
/-- a turn's beginning when no WORK is left -/
theorem c162_192s {J : Int32 × Mem → XA} {s42 : Int32 × Int32 × Int32 × Mem} {x2 : Option Nat} {v1 v2 v3 : Int32} {go : Int32 × Int32 × Int32 × Mem → XA} (hd : 1 ≤ d) (hC : CT M) (h10 : M.1 88 10 = iI (-1)) : c162_192 (runX d) (some 64) J s42 x2 (v1, v2, v3, M) go = J (v1, M) := by
  have cs := zc22 (d := d) hd hC h10 (by decide)
  rw [if_pos (by decide)] at cs
  unfold c162_192
  dsimp only
  by_cases y : s42.1 ≤ v3
  · rw [if_pos y]
  · rw [if_neg y, gtP_q (ck_64 hC) (cf_64_2 hC), vC_e (ck_88 hC), cI_e cs, if_neg (show ¬ iI 1 = 0 by decide)]
theorem c304_172s {J' : Int32 × Int32 × Mem → XA} {v1 v2 v3 v4 v5 : Int32} {go : Int32 × Int32 × Int32 × Mem → XA} (hR : RT M) (h84 : M.1 160 84 = iI 1) : c304_172 (runX d) (some 160) v4 v5 J' (v1, v2, v3, M) go = J' (v1, v2, M) := by
  unfold c304_172
  dsimp only
  by_cases y : v1 ≤ v3
  · rw [if_pos y]
  · rw [if_neg y, gtI_q (rk_160 hR) h84, if_neg (show ¬ iI 1 = 0 by decide)]
theorem turn_in {s42 : Int32 × Int32 × Int32 × Mem} (hdl : 13 ≤ dl) (hd : 64 ≤ d) (hP : hoP o) (hp : 0 ≤ p ∧ p < oN o) (hsl : 1 ≤ sl ∧ sl ≤ 1000) (hnc : nc = (gR (oP o p)).1 3 0 0) (hc : 0 ≤ c ∧ c < nc) (hw : w = iI p) (hv2 : v2 = iI c) (hs42 : s42.1 = iI n0) (hn0 : n0 ≤ 15) : ∀ (m : Nat) (n wi i b : Int) (ch : Int32) (ss : Int → Int) (Mc Mr : Mem) (N N' : Nat), wi + m = n → i + m = n0 → 0 ≤ wi → wi ≤ i → m + 1 < N → m + 1 < N' → blS LL xs o p sl nc c n b ss Mc Mr → ∃ Mc' Mr' n1, Fz (Zbc o) Mc Mc' ∧ Fz Zbr Mr Mr' ∧ (∀ J : Int32 × Mem → XA, lp (c162_192 (runX dl) (some 64) J s42 (some (gX (oP o p)))) N (iI n, iI wi, iI i, Mc) = J (iI n1, Mc')) ∧ ((∃ b' ss', (∀ J' : Int32 × Int32 × Mem → XA, lp (c304_172 (runX d) (some 160) w v2 J') N' (iI n, ch, iI wi, Mr) = J' (iI n1, if n1 < n then iI 1 else ch, Mr')) ∧ (0 ≤ n1 ∧ n1 ≤ n) ∧ b' ≤ b ∧ blS LL xs o p sl nc c n1 b' ss' Mc' Mr') ∨ ((∃ n2 ch', ∀ J' : Int32 × Int32 × Mem → XA, lp (c304_172 (runX d) (some 160) w v2 J') N' (iI n, ch, iI wi, Mr) = J' (n2, ch', Mr')) ∧ KSx LL xs o p sl 0 Mc' Mr')) := by
  subst hw; subst hv2
  have p8 := hP.1
  intro m
  induction m with
  | zero =>
    intro n wi i b ch ss Mc Mr N N' h1 h2 h3 h4 h5 h6 h
    obtain ⟨N, rfl⟩ : ∃ e, N = e + 1 := ⟨N - 1, by omega⟩
    obtain ⟨N', rfl⟩ : ∃ e, N' = e + 1 := ⟨N' - 1, by omega⟩
    have e : wi = n := by omega
    subst e
    obtain ⟨hs, k1, k2, k3⟩ := id h
    refine ⟨Mc, Mr, wi, Fz.r, Fz.r, fun J => ?_, Or.inl ⟨b, ss, fun J' => ?_, ⟨h3, Int.le_refl _⟩, Int.le_refl _, h⟩⟩
    · rw [lp_e]; unfold c162_192
      dsimp only
      rw [if_pos (show s42.1 ≤ iI i from leI_p hs42 rfl (by omega))]
    · have := k3.1
      rw [lp_e]; unfold c304_172
      dsimp only
      rw [if_pos (leI_p rfl rfl (by omega)), if_neg (by omega)]
  | succ m ih =>
    intro n wi i b ch ss Mc Mr N N' h1 h2 h3 h4 h5 h6 h
    obtain ⟨N, rfl⟩ : ∃ e, N = e + 1 := ⟨N - 1, by omega⟩
    obtain ⟨N', rfl⟩ : ∃ e, N' = e + 1 := ⟨N' - 1, by omega⟩
    obtain ⟨hs, k1, ⟨k2, k2'⟩, ⟨k3, k4, k5, k6⟩⟩ := id h
    have hC := k1.1.1.1.1
    have hR := k1.1.2.1.1
    have bb := k1.2.2.2.2.1.2.2.2
    have cs := zc22 (d := dl) (by omega) hC k1.2.2.2.2.1.1 (by omega)
    rw [if_neg (by omega)] at cs
    obtain ⟨M1, R1, V, w1, w2, w3, w4, w5⟩ := pass_pair (dl := dl) (d := d) (n := n) (c := c) (ss := ss) (wo := wi) (wr := wi) (w := iI p) (v1 := iI n) (v2 := iI c) hdl hd hP hp hsl hnc k3 k4 hc (fun _ _ _ => Iff.rfl) (by omega) (by omega) k1 k2 k2' k5 k6 rfl rfl rfl
    have C1 : CT M1 := hC.keep w3.1
    have R1' : RT R1 := hR.keep w4.1
    have F1 : Fz (Zbc o) Mc M1 := w3.m fun a j z => Or.inl z
    have G1 : Fz Zbr Mr R1 := w4.m fun a j z => Or.inl z
    obtain ⟨Mx, hMx⟩ : ∃ X, X = cpI M1 148 (wi + 1).toNat 148 wi.toNat (n - wi).toNat := ⟨_, rfl⟩
    have ox : ∀ a j, a ≠ 148 → Mx.1 a j = M1.1 a j := fun a j z => by rw [hMx]; exact if_neg z
    have fx : Fz (fun a _ => a = 148) M1 Mx := ⟨by rw [hMx]; rfl, fun a j z => ox a j z⟩
    have cl : ∀ (J : Int32 × Mem → XA) go, c162_192 (runX dl) (some 64) J s42 (some (gX (oP o p))) (iI n, iI wi, iI i, Mc) go = if M1.1 89 0 = iI 1 then go (iI n, iI (wi + 1), iI (i + 1), M1) else go (iI (n - 1), iI wi, iI (i + 1), Mx) := fun J go => by
      unfold c162_192
      dsimp only
      rw [if_neg (show ¬ s42.1 ≤ iI i from leI_n hs42 rfl (by omega)), gtP_q (ck_64 hC) (cf_64_2 hC), vC_e (ck_88 hC), cI_e cs, if_pos (show iI 0 = 0 from rfl), gtP_q (ck_64 hC) (cf_64_14 hC), gtP_q (ck_64 hC) (cf_64_17 hC), vC_e (ck_64 hC), show iI n + (1 : Int32) = iI (n + 1) from adI rfl li_1, cV_e w1, gtP_q (ck_64 C1) (cf_64_2 C1), gtP_q (ck_88 C1) (cf_88_0 C1), gtI_q (ck_89 C1) rfl, jn_v]
      by_cases y : M1.1 89 0 = iI 1
      · rw [if_pos (show M1.1 89 0 = (1 : Int32) from y), if_pos y, show iI wi + (1 : Int32) = iI (wi + 1) from adI rfl li_1, lt_e, jv_e]
        exact ltI_q (z := i + 1) (adI rfl li_1)
      · rw [if_neg (show ¬ M1.1 89 0 = (1 : Int32) from y), if_neg y, gtP_q (ck_64 C1) (cf_64_14 C1), gtP_q (ck_64 C1) (cf_64_14 C1), acI_g (N := 16) (N2 := 16) (x := (wi + 1).toNat) (y := wi.toNat) (m := (n - wi).toNat) (cvI (adI rfl li_1) (by omega)) (congrArg iI (by omega)) (cvI (sbI rfl rfl) (by omega)) (ck_148 C1) (ck_148 C1) (by omega), ← hMx, show iI n + (-1 : Int32) = iI (n - 1) from cvI (adI (y := -1) rfl rfl) (by omega), lt_e, jv_e]
        exact ltI_q (z := i + 1) (adI rfl li_1)
    have k84 := k1.2.2.2.2.1.2.2.1
    have rl1 : V = iI 1 → ∀ (J' : Int32 × Int32 × Mem → XA) go, c304_172 (runX d) (some 160) (iI p) (iI c) J' (iI n, ch, iI wi, Mr) go = go (iI n, ch, iI (wi + 1), R1) := fun y J' go => by
      unfold c304_172
      dsimp only
      rw [if_neg (leI_n rfl rfl (by omega)), gtI_q (rk_160 hR) k84, if_pos (show iI 0 = 0 from rfl), vC_e (rk_160 hR), cI_e w2, if_pos y, if_neg (show ¬ iI 1 = 0 by decide)]
      exact ltI_q (z := wi + 1) (adI rfl li_1)
    have rl2 : ¬ V = iI 1 → R1.1 160 84 = iI 1 → ∀ (J' : Int32 × Int32 × Mem → XA) go, c304_172 (runX d) (some 160) (iI p) (iI c) J' (iI n, ch, iI wi, Mr) go = go (iI n, ch, iI wi, R1) := fun y y2 J' go => by
      unfold c304_172
      dsimp only
      rw [if_neg (leI_n rfl rfl (by omega)), gtI_q (rk_160 hR) k84, if_pos (show iI 0 = 0 from rfl), vC_e (rk_160 hR), cI_e w2, if_neg y, if_pos (show iI 0 = 0 from rfl), gtI_q (rk_160 R1') y2, if_neg (show ¬ iI 1 = 0 by decide)]
    obtain ⟨Ry, e1, e2, e3, e4⟩ := r304_217e (d := d) (M := R1) (wi := wi) (n := n) R1' (by omega)
    have rl3 : ¬ V = iI 1 → R1.1 160 84 = iI 0 → ∀ (J' : Int32 × Int32 × Mem → XA) go, c304_172 (runX d) (some 160) (iI p) (iI c) J' (iI n, ch, iI wi, Mr) go = go (iI (n - 1), iI 1, iI wi, Ry) := fun y y2 J' go => by
      unfold c304_172
      dsimp only
      rw [if_neg (leI_n rfl rfl (by omega)), gtI_q (rk_160 hR) k84, if_pos (show iI 0 = 0 from rfl), vC_e (rk_160 hR), cI_e w2, if_neg y, if_pos (show iI 0 = 0 from rfl), gtI_q (rk_160 R1') y2, if_pos (show iI 0 = 0 from rfl), show iI n + (-1 : Int32) = iI (n - 1) from cvI (adI (y := -1) rfl rfl) (by omega), lt_e, jn_v, e1, jv_e]
      rfl
    rcases w5 with ⟨b', hs', q1, q2, q3, q4, q5⟩ | q
    · by_cases y : V = iI 1
      · have s1 : blS LL xs o p sl nc c n b' ss M1 R1 := ⟨hs', q1, ⟨q3, q4⟩, k3, k4, fun j a b => ⟨(w3.2 _ _ ZM_148).trans (k5 j a b).1, (w4.2 _ _ ZR_256).trans (k5 j a b).2⟩, (w3.2 _ _ ZM_148).trans k6⟩
        obtain ⟨Mc', Mr', n1, r1, r2, r3, r4⟩ := ih n (wi + 1) (i + 1) b' ch ss M1 R1 N N' (by omega) (by omega) (by omega) (by omega) (by omega) (by omega) s1
        refine ⟨Mc', Mr', n1, F1.tr r1, G1.tr r2, fun J => ?_, ?_⟩
        · rw [lp_e, cl, if_pos (q5.trans y)]; exact r3 J
        · rcases r4 with ⟨b2, ss2, t1, t2, t3, t4⟩ | ⟨⟨n2, ch2, t1⟩, t2⟩
          · exact Or.inl ⟨b2, ss2, fun J' => by rw [lp_e, rl1 y]; exact t1 J', t2, by omega, t4⟩
          · exact Or.inr ⟨⟨n2, ch2, fun J' => by rw [lp_e, rl1 y]; exact t1 J'⟩, t2⟩
      · have y84 := q1.2.2.2.2.1.2.2.1
        have s1 : blS LL xs o p sl nc c (n - 1) b' (fun j => if j < wi then ss j else ss (j + 1)) Mx Ry := by
          refine ⟨hs', q1.sub hP fx (fun a j z => ⟨ho_148 hP (Or.inl z), by omega, by omega⟩) e2 (fun a j z => ⟨hr_256 (Or.inr (Or.inl z)), by omega, by omega⟩), ⟨(ox _ _ (by decide)).trans q3, (e2.2 _ _ (by decide)).trans q4⟩, by omega, fun j a b => ?_, fun j a b => ?_, ?_⟩
          · dsimp only
            by_cases z : j < wi
            · rw [if_pos z]; exact k4 j a (by omega)
            · rw [if_neg z]; exact k4 (j + 1) (by omega) (by omega)
          · dsimp only
            by_cases z : j < wi
            · rw [if_pos z]
              refine ⟨?_, (e3 j a z).trans ((w4.2 _ _ ZR_256).trans (k5 j a (by omega)).2)⟩
              rw [hMx, cpI_out (by omega)]
              exact (w3.2 _ _ ZM_148).trans (k5 j a (by omega)).1
            · rw [if_neg z]
              refine ⟨?_, (e4 j (by omega) (by omega)).trans ((w4.2 _ _ ZR_256).trans (k5 (j + 1) (by omega) (by omega)).2)⟩
              rw [hMx, cpI_in (by omega), show (wi + 1).toNat + (j.toNat - wi.toNat) = (j + 1).toNat by omega]
              exact (w3.2 _ _ ZM_148).trans (k5 (j + 1) (by omega) (by omega)).1
          · rw [hMx, cpI_in (by omega), show (wi + 1).toNat + ((n - 1).toNat - wi.toNat) = n.toNat by omega]
            exact (w3.2 _ _ ZM_148).trans k6
        obtain ⟨Mc', Mr', n1, r1, r2, r3, r4⟩ := ih (n - 1) wi (i + 1) b' (iI 1) _ Mx Ry N N' (by omega) (by omega) (by omega) (by omega) (by omega) (by omega) s1
        refine ⟨Mc', Mr', n1, F1.tr ((fx.m fun a j z => Or.inr z).tr r1), G1.tr ((e2.m fun a j z => Or.inr z).tr r2), fun J => ?_, ?_⟩
        · rw [lp_e, cl, if_neg (fun z => y (q5.symm.trans z))]; exact r3 J
        · rcases r4 with ⟨b2, ss2, t1, t2, t3, t4⟩ | ⟨⟨n2, ch2, t1⟩, t2⟩
          · refine Or.inl ⟨b2, ss2, fun J' => ?_, by omega, by omega, t4⟩
            rw [lp_e, rl3 y y84, t1 J', if_pos (show n1 < n by omega)]
            by_cases z : n1 < n - 1
            · rw [if_pos z]
            · rw [if_neg z]
          · exact Or.inr ⟨⟨n2, ch2, fun J' => by rw [lp_e, rl3 y y84]; exact t1 J'⟩, t2⟩
    · obtain ⟨N, rfl⟩ : ∃ e, N = e + 1 := ⟨N - 1, by omega⟩
      obtain ⟨N', rfl⟩ : ∃ e, N' = e + 1 := ⟨N' - 1, by omega⟩
      have q84 := q.1.2.2.2.1.2
      have q10 := q.1.2.2.2.1.1
      have rr : ∀ J' : Int32 × Int32 × Mem → XA, lp (c304_172 (runX d) (some 160) (iI p) (iI c) J') (N' + 1 + 1) (iI n, ch, iI wi, Mr) = J' (iI n, ch, R1) := fun J' => by
        by_cases y : V = iI 1
        · rw [lp_e, rl1 y, lp_e, c304_172s R1' q84]
        · rw [lp_e, rl2 y q84, lp_e, c304_172s R1' q84]
      by_cases y : M1.1 89 0 = iI 1
      · exact ⟨M1, R1, n, F1, G1, fun J => by rw [lp_e, cl, if_pos y, lp_e, c162_192s (by omega) C1 q10], Or.inr ⟨⟨iI n, ch, rr⟩, q⟩⟩
      · have x10 : Mx.1 88 10 = iI (-1) := (ox _ _ (by decide)).trans q10
        exact ⟨Mx, R1, n - 1, F1.tr (fx.m fun a j z => Or.inr z), G1, fun J => by rw [lp_e, cl, if_neg y, lp_e, c162_192s (by omega) (C1.keep fx.1) x10], Or.inr ⟨⟨iI n, ch, rr⟩, KS.sub (Z' := fun _ _ => False) q.1 hP fx (fun a j z => ⟨ho_148 hP (Or.inl z), by omega, by omega⟩) Fz.r (fun a j z => z.elim), q.2⟩⟩
end S9da
