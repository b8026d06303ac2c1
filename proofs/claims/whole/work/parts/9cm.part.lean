/-! a run of kill(), both -/
def Zkc (o : HO) (bs a j : Nat) : Prop := ZM o 0 0 a j ∨ (bs + 1 ≤ a ∧ a ≤ bs + 4)
def Zkr (al : Int) (a j : Nat) : Prop := ZR 0 0 a j ∨ (al < 0 ∧ (a = 242 ∨ a = 243))
/-- VERDICT and FAILURE of a CASE, in the class, in the reference -/
def vfC (bs : Nat) (U : Nat → Int → Int32) (c : Int) (M : Mem) : Prop := ∀ t, t < 2 → M.1 (bs + 1 + t) c.toNat = U t c
def vfR (U : Nat → Int → Int32) (c : Int) (M : Mem) : Prop := ∀ t, t < 2 → M.1 (242 + t) c.toNat = U t c
section S9cm
variable {d dl : Nat} {o : HO} {v : VR} {q : QN} {s s' u hs : ZS} {M M' M1 M2 Mc Mr Mc' Mr' : Mem} {LL a j x N bs n : Nat} {xs : Nat → Int32} {ow : Nat → Int} {c p i nc k t b sl al : Int} {w v1 v2 : Int32} {Z Z' : Nat → Nat → Prop} {Od : Int → Int} {T U : Nat → Int → Int32}
theorem rs_15 (hC : CT M) (hb : bs = 150 ∨ bs = 155) : rsC bs 16 (fun t => bs + 1 + t) M := by
  rcases hb with hb | hb <;> subst hb
  · refine ⟨ck_150 hC, fun k z => ?_, fun k z => by show 150 + 1 + k ≠ 89; omega, fun i k _ _ z => by show 150 + 1 + i ≠ 150 + 1 + k; omega⟩
    have c : k = 0 ∨ k = 1 ∨ k = 2 ∨ k = 3 := by omega
    rcases c with c | c | c | c <;> subst c
    · exact ⟨cf_150_0 hC, ck_151 hC⟩
    · exact ⟨cf_150_1 hC, ck_152 hC⟩
    · exact ⟨cf_150_2 hC, ck_153 hC⟩
    · exact ⟨cf_150_3 hC, ck_154 hC⟩
  · refine ⟨ck_155 hC, fun k z => ?_, fun k z => by show 155 + 1 + k ≠ 89; omega, fun i k _ _ z => by show 155 + 1 + i ≠ 155 + 1 + k; omega⟩
    have c : k = 0 ∨ k = 1 ∨ k = 2 ∨ k = 3 := by omega
    rcases c with c | c | c | c <;> subst c
    · exact ⟨cf_155_0 hC, ck_156 hC⟩
    · exact ⟨cf_155_1 hC, ck_157 hC⟩
    · exact ⟨cf_155_2 hC, ck_158 hC⟩
    · exact ⟨cf_155_3 hC, ck_159 hC⟩
theorem bs_ho (hP : hoP o) (hb : bs = 150 ∨ bs = 155) (h : bs + 1 ≤ a ∧ a ≤ bs + 4) : hoZ o a j := by
  have g : ∀ q, q ∈ CFd → q.1 < 151 ∨ q.1 = 155 ∨ 159 < q.1 := by decide
  refine ⟨by omega, fun q hq => ?_, fun p' x y u w => ?_, fun x y => by omega⟩
  · have := g _ hq
    dsimp only at this
    omega
  · have := pk_lo hP ⟨x, y⟩
    omega
theorem ZM_x (h : ZM o p 0 a j) : a < 146 := by unfold ZM at h; omega
theorem kill_loop {J : Mem → XA} {J' : Int32 × Mem → XA} (hdl : 12 ≤ dl) (hd : 63 ≤ d) (hP : hoP o) (hp : 0 ≤ p ∧ p < oN o) (hq : qOK o (v1p p) q) (q2 : q.2.1 = al) (q3 : q.2.2.1 = 0) (q4 : q.2.2.2.1 = 0) (q5 : q.2.2.2.2 = 0) (hal : -1 ≤ al ∧ al ≤ 1000) (hb : (bs = 150 ∧ al < 0) ∨ (bs = 155 ∧ 0 ≤ al)) (hnc : nc = (gR (oP o p)).1 3 0 0) (hO : odK Od nc.toNat) : ∀ (m : Nat) (i : Int) (s : ZS) (Mc Mr : Mem) (N N' : Nat) (U : Nat → Int → Int32) (who : Int32), i + m = nc → 0 ≤ i → m < N → m < N' → RI LL xs o (v1p p) q 17 s Mc Mr → 0 ≤ s.1 12 0 0 → Mr.1 160 84 = iI 0 → orB o p Od Mc Mr → (∀ k, 0 ≤ k → k < i → vfC bs U (Od k) Mc ∧ (al < 0 → vfR U (Od k) Mr)) → (0 ≤ al → ∀ c, 0 ≤ c → c < nc → vfR T c Mr) → (0 ≤ al → who = por (fun k => dmk T U (Od k)) i.toNat) → (al < 0 → who = 0) → ∃ Mc' Mr' s' U' who', lp (c174_19 (runX dl) (some 64) (some (gX (oP o p))) (some (gX (oP o p) + 6)) (iI nc) (iI (-2)) (some bs) J (some 89)) N (iI i, Mc) = J Mc' ∧ lp (c282_16 (runX d) (some 160) (iI p) (iI al) J') N' (who, iI i, Mr) = J' (who', Mr') ∧ Fz (Zkc o bs) Mc Mc' ∧ Fz (Zkr al) Mr Mr' ∧ ((RI LL xs o (v1p p) q 17 s' Mc' Mr' ∧ (0 ≤ s'.1 12 0 0 ∧ s'.1 12 0 0 ≤ s.1 12 0 0 ∧ s'.1 17 = s.1 17) ∧ Mr'.1 160 84 = iI 0 ∧ (∀ k, 0 ≤ k → k < nc → vfC bs U' (Od k) Mc' ∧ (al < 0 → vfR U' (Od k) Mr')) ∧ (0 ≤ al → who' = por (fun k => dmk T U' (Od k)) nc.toNat) ∧ (al < 0 → who' = 0)) ∨ (RB LL xs o (v1p p) q Mc' Mr' ∧ rvS q s Mc' Mr')) := by
  have hu : rPu o (v1p p) q := rPu.one hP hp hq
  have lo := pk_lo hP hp
  have p8 := hP.1
  have hb' : bs = 150 ∨ bs = 155 := by omega
  intro m
  induction m with
  | zero =>
    intro i s Mc Mr N N' U who h1 h2 h3 h4 h h12 h84 hor hvf hT hw hw0
    have e : i = nc := by omega
    have e176 : Mr.1 176 p.toNat = iI nc := by rw [hnc]; exact hoR.ncs h.1.2 hp
    subst e
    exact ⟨Mc, Mr, s, U, who, c174_e (by omega) h3 rfl, r282_e h.1.2.1.1 (by omega) e176 ⟨Or.inl (Int.le_refl _), by omega⟩ h4 rfl, Fz.r, Fz.r, Or.inl ⟨h, ⟨h12, Int.le_refl _, rfl⟩, h84, hvf, hw, hw0⟩⟩
  | succ m ih =>
    intro i s Mc Mr N N' U who h1 h2 h3 h4 h h12 h84 hor hvf hT hw hw0
    obtain ⟨N, rfl⟩ : ∃ e, N = e + 1 := ⟨N - 1, by omega⟩
    obtain ⟨N', rfl⟩ : ∃ e, N' = e + 1 := ⟨N' - 1, by omega⟩
    have hC := h.1.1.1.1
    have hR := h.1.2.1.1
    have pk := h.1.1.2.1 p hp.1 hp.2
    have e176 : Mr.1 176 p.toNat = iI nc := by rw [hnc]; exact hoR.ncs h.1.2 hp
    obtain ⟨⟨⟨o1, o2, o3⟩, o4, -⟩, -, ⟨k1, -⟩, hL, hTT, -⟩ := pk
    have hci : 0 ≤ Od i ∧ Od i < nc := by
      have := hO.1 i h2 (by omega)
      omega
    obtain ⟨c, hcd⟩ : ∃ c, c = Od i := ⟨_, rfl⟩
    rw [← hcd] at hci
    obtain ⟨d1, d2⟩ := hor i h2 (by omega)
    rw [← hcd] at d1 d2
    have hcw := h.2.2.1.1.2.1
    have hwz : zcw s = s.1 12 0 0 := by
      unfold zcw
      rw [if_neg (by rw [h.2.2.2.2.1.1.2]; decide), if_pos h12]
    have hb12 := h.2.2.2.2.1.2.2.2.2.2
    obtain ⟨Mc2, Mr2, x1, x2, x3, x4, x5, x6⟩ := RI.turn (dl := dl) (d := d) (c := c) (i := i) (w := iI c) hdl hd hu h (by omega) (by omega) (Or.inl rfl) (Or.inr ⟨rfl, q3⟩) (fun z => by omega) (show 0 ≤ c ∧ c < (gR (oP o p)).1 3 0 0 by omega) rfl
    have rs := rs_15 hC hb'
    have f15 : Fz (ZM o 0 0) Mc Mc2 := ((Fz.r).si (Or.inl ⟨rfl, by decide⟩)).tr ((by rw [← q3]; exact x3.zm : Fz (ZM o p 0) _ _).m fun _ _ z => ZM_0 z)
    have g15 : Fz (ZR 0 0) Mr Mr2 := (x4.zr (p := p) (k := 0) rfl q3).m fun _ _ z => ZR_0 z
    have tc := c174_t (d := dl) (N := N) (J := J) (M := Mc) (r := fun t => bs + 1 + t) (wo := -2) (len := nc) (by omega) hC (hcw.trans (by rw [hwz])) (n := s.1 12 0 0) (by omega) (by omega) ⟨k1, by omega, d1⟩ ⟨o1, o4 3 (by decide) (by decide)⟩ (hL 3 (by decide) (by decide)) (by omega) (hTT 3 (by decide) (by decide) c hci.1 (by omega)).1.1 rfl rfl (by omega) rs (by omega) x1 f15.1
    have tr := r282_t (d := d) (N := N') (J := J') (M := Mr) (w := who) hR (by omega) e176 (by omega) h84 d2 (by omega) x2 g15.1 rfl rfl hal
    rw [tc, tr]
    obtain ⟨Mc3, hMc3⟩ : ∃ X, X = wr4 (fun t => bs + 1 + t) c.toNat Mc2 := ⟨_, rfl⟩
    obtain ⟨Mr3, hMr3⟩ : ∃ X, X = if al < 0 then sI (sI Mr2 242 c.toNat (Mr2.1 160 101)) 243 c.toNat (Mr2.1 160 102) else Mr2 := ⟨_, rfl⟩
    obtain ⟨wh, hwh⟩ : ∃ X, X = if al < 0 then who else if Mr2.1 242 c.toNat = Mr2.1 160 101 ∧ Mr2.1 243 c.toNat = Mr2.1 160 102 then who else who ||| ((1 : Int32) <<< (iI c &&& 31)) := ⟨_, rfl⟩
    rw [← hMc3, ← hMr3, ← hwh]
    have fc : Fz (fun a j => (bs + 1 ≤ a ∧ a ≤ bs + 4) ∧ j = c.toNat) Mc2 Mc3 := ⟨by rw [hMc3]; exact wr4_2, fun a j z => by
      rw [hMc3]
      refine wr4_o fun k hk y => z ?_
      have y1 : a = bs + 1 + k := y.1
      exact ⟨by omega, y.2⟩⟩
    have fr : Fz (fun a j => al < 0 ∧ (a = 242 ∨ a = 243) ∧ j = c.toNat) Mr2 Mr3 := by
      rw [hMr3]
      by_cases y : al < 0
      · rw [if_pos y]
        exact ((Fz.r).si ⟨y, Or.inl rfl, rfl⟩).si ⟨y, Or.inr rfl, rfl⟩
      · rw [if_neg y]; exact Fz.r
    have zc : ∀ a j, ((bs + 1 ≤ a ∧ a ≤ bs + 4) ∧ j = c.toNat) → hoZ o a j := fun a j z => bs_ho hP hb' z.1
    have zr : ∀ a j, (al < 0 ∧ (a = 242 ∨ a = 243) ∧ j = c.toNat) → hrZ a j := fun a j z => ⟨fun y => by omega, by omega, by omega, by omega⟩
    have f03 : Fz (Zkc o bs) Mc Mc3 := (f15.m fun a j z => Or.inl z).tr (fc.m fun a j z => Or.inr z.1)
    have g03 : Fz (Zkr al) Mr Mr3 := (g15.m fun a j z => Or.inl z).tr (fr.m fun a j z => Or.inr ⟨z.1, z.2.1⟩)
    rcases x6 with ⟨s', V, Fa, Wh, -, y1', ⟨y2, y3, y4, y5, y6, y7, y8⟩⟩ | ⟨-, ysp⟩
    · have y1 := y1' q4 h12
      obtain ⟨⟨v1, v2, v3⟩, ⟨v4, v5, v6⟩, v7⟩ := y2
      have h3' : RI LL xs o (v1p p) q 17 s' Mc3 Mr3 := by
        refine y1.sub hP hu.2.1 fc (fun a j z => ⟨zc a j z, fun y => by omega, by omega, by omega, by omega, ?_, ?_⟩) fr (fun a j z => ⟨zr a j z, fun y => by omega, by omega, by omega, by omega, by omega⟩)
        · show a < gX (oP o p) + 13 ∨ gX (oP o p) + 15 < a
          omega
        · left; omega
      have ny : ∀ a j, 146 ≤ a → Mc2.1 a j = Mc.1 a j := fun a j z => f15.2 _ _ fun y => by
        have := ZM_x y
        omega
      have nr : ∀ a j, a = 183 ∨ a = 242 ∨ a = 243 → Mr2.1 a j = Mr.1 a j := fun a j z => g15.2 _ _ fun y => by unfold ZR at y; omega
      obtain ⟨U', hU'⟩ : ∃ X : Nat → Int → Int32, X = fun t k => if k = c then Mc2.1 89 t else U t k := ⟨_, rfl⟩
      have U'c : ∀ t, U' t c = Mc2.1 89 t := fun t => by rw [hU']; exact if_pos rfl
      have U'n : ∀ t k, k ≠ c → U' t k = U t k := fun t k z => by rw [hU']; exact if_neg z
      have odn : ∀ k, 0 ≤ k → k < i → Od k ≠ c := fun k a b y => by
        rw [hcd] at y
        have := hO.inj (i := k) (b := i) ⟨a, by omega⟩ ⟨h2, by omega⟩ y
        omega
      obtain ⟨w1, w2, -, -⟩ := wr4_e (M := Mc2) (j := c.toNat) rs.2.2.2
      rw [← hMc3] at w1 w2
      have hvf' : ∀ k, 0 ≤ k → k < i + 1 → vfC bs U' (Od k) Mc3 ∧ (al < 0 → vfR U' (Od k) Mr3) := fun k a b => by
        by_cases y : k = i
        · rw [y, ← hcd]
          refine ⟨fun t ht => ?_, fun z t ht => ?_⟩
          · rw [U'c]
            have ct : t = 0 ∨ t = 1 := by omega
            rcases ct with ct | ct <;> subst ct
            · exact w1
            · exact w2
          · rw [U'c, hMr3, if_pos z]
            have ct : t = 0 ∨ t = 1 := by omega
            rcases ct with ct | ct <;> subst ct
            · exact (sI_ne (by decide)).trans (sI_eq.trans (v4.trans v1.symm))
            · exact sI_eq.trans (v5.trans v2.symm)
        · have nk := odn k a (by omega)
          have bk := hO.1 k a (by omega)
          obtain ⟨z1, z2⟩ := hvf k a (by omega)
          refine ⟨fun t ht => ?_, fun z t ht => ?_⟩
          · rw [U'n t _ nk]
            exact (fc.2 _ _ fun z => by omega).trans ((ny _ _ (by omega)).trans (z1 t ht))
          · rw [U'n t _ nk]
            exact (fr.2 _ _ fun z => by omega).trans ((nr _ _ (by omega)).trans (z2 z t ht))
      have hor' : orB o p Od Mc3 Mr3 := fun k a b => by
        obtain ⟨z1, z2⟩ := hor k a b
        exact ⟨(fc.2 _ _ fun z => by omega).trans ((ny _ _ (by omega)).trans z1), (fr.2 _ _ fun z => by omega).trans ((nr _ _ (by omega)).trans z2)⟩
      have hT' : 0 ≤ al → ∀ c, 0 ≤ c → c < nc → vfR T c Mr3 := fun z c' a b t ht => (fr.2 _ _ fun z2 => by omega).trans ((nr _ _ (by omega)).trans (hT z c' a b t ht))
      have hw' : 0 ≤ al → wh = por (fun k => dmk T U' (Od k)) (i + 1).toNat := fun z => by
        have nz : ¬ al < 0 := by omega
        rw [hwh, if_neg nz, show (i + 1).toNat = i.toNat + 1 by omega]
        show _ = por (fun k => dmk T U' (Od k)) i.toNat ||| dmk T U' (Od (i.toNat : Int))
        rw [por_c (f := fun k => dmk T U' (Od k)) (g := fun k => dmk T U (Od k)) fun k a b => by
          show dmk T U' (Od k) = dmk T U (Od k)
          unfold dmk
          rw [U'n 0 _ (odn k a (by omega)), U'n 1 _ (odn k a (by omega))], show ((i.toNat : Nat) : Int) = i by omega, ← hcd, ← hw z]
        unfold dmk
        have t0 : Mr2.1 242 c.toNat = T 0 c := (nr _ _ (by omega)).trans (hT z c hci.1 hci.2 0 (by decide))
        have t1 : Mr2.1 243 c.toNat = T 1 c := (nr _ _ (by omega)).trans (hT z c hci.1 hci.2 1 (by decide))
        rw [t0, t1, U'c, U'c, v1, v2, v4, v5]
        by_cases y : T 0 c = iI V ∧ T 1 c = Fa
        · rw [if_pos y, if_pos y, Int32.or_zero]
        · rw [if_neg y, if_neg y]
      obtain ⟨n1, n2, n3, n4, n5, n6, n7, n8, n9⟩ := y6
      have n17 : s'.1 17 = s.1 17 := n4 (fun z => by
        have z2 : q.2.2.2.1 = 1 := z
        omega)
      have h84' : Mr3.1 160 84 = iI 0 := (fr.2 _ _ fun z => by omega).trans (y3.trans h84)
      obtain ⟨Mc', Mr', s2, U2, who2, r1, r2, r3, r4, r5⟩ := ih (i + 1) s' Mc3 Mr3 N N' U' wh (by omega) (by omega) (by omega) (by omega) h3' (n7 h12) h84' hor' hvf' hT' hw' (fun z => by rw [hwh, if_pos z]; exact hw0 z)
      refine ⟨Mc', Mr', s2, U2, who2, r1, r2, f03.tr r3, g03.tr r4, ?_⟩
      rcases r5 with ⟨t1, ⟨t2, t3, t4⟩, t5⟩ | ⟨t1, t2, t3, u, t4, t5⟩
      · exact Or.inl ⟨t1, ⟨t2, by omega, t4.trans n17⟩, t5⟩
      · exact Or.inr ⟨t1, t2, t3, u, t4, fun z => (t5 z).trans n17⟩
    · obtain ⟨z1, z2, u, ⟨z3, z4⟩, z5⟩ := ysp
      have e10 : Mc3.1 88 10 = iI (-1) := (fc.2 _ _ fun z => by omega).trans z1
      have e84 : Mr3.1 160 84 = iI 1 := (fr.2 _ _ fun z => by omega).trans z2
      have rb3 : RB LL xs o (v1p p) q Mc3 Mr3 := x5.sub hP fc (fun a j z => ⟨zc a j z, fun y => by omega, by left; omega⟩) fr (fun a j z => ⟨zr a j z, fun y => by omega, by omega⟩)
      have e176' : Mr3.1 176 p.toNat = iI nc := by rw [hnc]; exact hoR.ncs rb3.1.2 hp
      refine ⟨Mc3, Mr3, s, U, wh, c174_s (by omega) rb3.1.1.1.1 e10 (by omega) (by omega) rfl, r282_e rb3.1.2.1.1 (by omega) e176' ⟨Or.inr e84, by omega⟩ (by omega) rfl, f03, g03, Or.inr ⟨rb3, e10, e84, u, ⟨fun Q a b => ?_, fun Q a b => ?_⟩, z5⟩⟩
      · obtain ⟨y1, y2, y3⟩ := z3 Q a b
        have tz : zTw Q + 3 < 140 := by unfold zTw; omega
        exact ⟨(fc.2 _ _ fun z => by omega).trans y1, fun j m n => (fc.2 _ _ fun z => by omega).trans (y2 j m n), fun j m n => (fc.2 _ _ fun z => by omega).trans (y3 j m n)⟩
      · obtain ⟨y1, y2, y3⟩ := z4 Q a b
        exact ⟨(fr.2 _ _ fun z => by omega).trans y1, fun j m n => (fr.2 _ _ fun z => by omega).trans (y2 j m n), fun j m n => (fr.2 _ _ fun z => by omega).trans (y3 j m n)⟩
end S9cm
