/-! a run of all CASES, both -/
/-- what it may change -/
def Zrc (o : HO) (p : Int) (a j : Nat) : Prop := ZM o p 1 a j ∨ (gX (oP o p) + 8 ≤ a ∧ a ≤ gX (oP o p) + 11)
def Zrr (p : Int) (a j : Nat) : Prop := ZR p 1 a j ∨ ((a = 222 ∨ a = 223 ∨ a = 224 ∨ a = 225) ∧ 16 * p ≤ j ∧ (j : Int) < 16 * p + 16)
/-- what is told of CASES of a parcel, both -/
def tlB (o : HO) (p : Int) (T : Nat → Int → Int32) (c : Int) (Mc Mr : Mem) : Prop := ∀ t, t < 4 → Mc.1 (gX (oP o p) + 8 + t) c.toNat = T t c ∧ Mr.1 (222 + t) (16 * p + c).toNat = T t c
/-- the parcel's ORDER, both -/
def orB (o : HO) (p : Int) (Od : Int → Int) (Mc Mr : Mem) : Prop := ∀ k, 0 ≤ k → k < (gR (oP o p)).1 3 0 0 → Mc.1 (gX (oP o p) + 6) k.toNat = iI (Od k) ∧ Mr.1 183 (16 * p + k).toNat = iI (Od k)
def fps (T : Nat → Int → Int32) (Od : Int → Int) : Int → Int := fun k => if T 0 (Od k) = iI 1 then 1 else 0
section S9cd
variable {d dl : Nat} {o : HO} {v : VR} {q : QN} {s s' u : ZS} {M M' M2 Mc Mr Mc' Mr' : Mem} {LL a j : Nat} {xs : Nat → Int32} {c p i n nc k : Int} {w : Int32} {Z Z' : Nat → Nat → Prop} {Od : Int → Int}
theorem pk_lo (hP : hoP o) (hp : 0 ≤ p ∧ p < oN o) : 259 ≤ gL (oP o p) ∧ gL (oP o p) ≤ gX (oP o p) ∧ (0 ≤ (gR (oP o p)).1 3 0 0 ∧ (gR (oP o p)).1 3 0 0 ≤ 16) ∧ hEN (gH (oP o p)) 3 = (gR (oP o p)).1 3 0 0 := by
  have h := hP.2.2.1 p hp.1 hp.2
  have n3 := h.1.n3
  exact ⟨h.2.2.1, h.2.2.2, n3.2.1, n3.1⟩
/-- a parcel's own cell -/
theorem own_ho (hP : hoP o) (hp : 0 ≤ p ∧ p < oN o) (h : gL (oP o p) ≤ a ∧ a < gX (oP o p) + 18) (hz : pkZ (gX (oP o p)) a j) : hoZ o a j := by
  have l := pk_lo hP hp
  refine ⟨by omega, fun r hr => ?_, fun p' x y u z => ?_, fun x y => by omega⟩
  · have g : ∀ q, q ∈ CFd → q.1 < 259 := by decide
    have := g _ hr
    dsimp only at this
    omega
  · by_cases z2 : p' = p
    · subst z2; exact hz
    · have := hP.2.2.2 p' p x y hp.1 hp.2 z2
      have := pk_lo hP ⟨x, y⟩
      omega
theorem hoR.ncs (h : hoR o M) (hp : 0 ≤ p ∧ p < oN o) : M.1 176 p.toNat = iI ((gR (oP o p)).1 3 0 0) := by
  have := (h.2.1 p hp.1 hp.2).1.at (q := (176, 1, 3, 0)) (by decide) (j := 0) (x := p) (by decide) (by decide) (show p = 1 * p + 0 by omega)
  exact this
theorem run_loop {J : Mem → XA} {J' : Int32 × Mem → XA} (hdl : 12 ≤ dl) (hd : 63 ≤ d) (hP : hoP o) (hp : 0 ≤ p ∧ p < oN o) (hq : qOK o (v1p p) q) (hq1 : q.2.2.2.2 = 0) (hq2 : q.2.2.1 = 1) (hnc : nc = (gR (oP o p)).1 3 0 0) (hO : odK Od nc.toNat) : ∀ (m : Nat) (i : Int) (s : ZS) (Mc Mr : Mem) (N N' : Nat) (T : Nat → Int → Int32), i + m = nc → 0 ≤ i → m < N → m < N' → RI LL xs o (v1p p) q i s Mc Mr → s.1 12 0 0 < 0 → orB o p Od Mc Mr → (∀ k, 0 ≤ k → k < i → tlB o p T (Od k) Mc Mr) → ∃ Mc' Mr' s' T', lp (c174_19 (runX dl) (some 64) (some (gX (oP o p))) (some (gX (oP o p) + 6)) (iI nc) (iI (-2)) (some (gX (oP o p) + 7)) J (some 89)) N (iI i, Mc) = J Mc' ∧ lp (c257_83 (runX d) (some 160) (iI p) J') N' (iI (psum (fps T Od) i.toNat), iI i, Mr) = J' (iI (psum (fps T' Od) nc.toNat), Mr') ∧ RI LL xs o (v1p p) q nc s' Mc' Mr' ∧ (∀ k, 0 ≤ k → k < nc → tlB o p T' (Od k) Mc' Mr') ∧ Fz (Zrc o p) Mc Mc' ∧ Fz (Zrr p) Mr Mr' := by
  have hu : rPu o (v1p p) q := rPu.one hP hp hq
  have lo := pk_lo hP hp
  have p8 := hP.1
  intro m
  induction m with
  | zero =>
    intro i s Mc Mr N N' T h1 h2 h3 h4 h h12 hor htl
    have e : i = nc := by omega
    have e176 : Mr.1 176 p.toNat = iI nc := by rw [hnc]; exact hoR.ncs h.1.2 hp
    subst e
    exact ⟨Mc, Mr, s, T, c174_e (by omega) h3 rfl, r257_e h.1.2.1.1 (by omega) e176 (by omega) h4 rfl, h, htl, Fz.r, Fz.r⟩
  | succ m ih =>
    intro i s Mc Mr N N' T h1 h2 h3 h4 h h12 hor htl
    obtain ⟨N, rfl⟩ : ∃ e, N = e + 1 := ⟨N - 1, by omega⟩
    obtain ⟨N', rfl⟩ : ∃ e, N' = e + 1 := ⟨N' - 1, by omega⟩
    have hC := h.1.1.1.1
    have hR := h.1.2.1.1
    have pk := h.1.1.2.1 p hp.1 hp.2
    have e176 : Mr.1 176 p.toNat = iI nc := by rw [hnc]; exact hoR.ncs h.1.2 hp
    obtain ⟨⟨⟨o1, o2, o3⟩, o4, -⟩, ⟨-, -, -, -, ⟨r5, r6⟩, -⟩, ⟨k1, -⟩, hL, hT, -⟩ := pk
    have hci : 0 ≤ Od i ∧ Od i < nc := by
      have := hO.1 i h2 (by omega)
      omega
    obtain ⟨c, hcd⟩ : ∃ c, c = Od i := ⟨_, rfl⟩
    rw [← hcd] at hci
    obtain ⟨d1, d2⟩ := hor i h2 (by omega)
    rw [← hcd] at d1 d2
    have hcw := h.2.2.1.1.2.1
    have hw0 : zcw s = 2147483648 + s.1 12 0 0 := by
      unfold zcw
      rw [if_neg (by rw [h.2.2.2.2.1.1.2]; decide), if_neg (by omega)]
    have hb12 := h.2.2.2.2.1.2.2.2.2.1
    obtain ⟨Mc2, Mr2, x1, x2, x3, x4, x5, x6⟩ := RI.turn (dl := dl) (d := d) (c := c) (i := i) (w := iI c) hdl hd hu h (by omega) (by omega) (Or.inl rfl) (Or.inl rfl) (fun z => by omega) (show 0 ≤ c ∧ c < (gR (oP o p)).1 3 0 0 by omega) rfl
    rcases x6 with ⟨s', V, Fa, Wh, y1, -, ⟨y2, y3, y4, y5, y6, y7, y8⟩⟩ | ⟨z, -⟩
    · obtain ⟨⟨v1, v2, v3⟩, ⟨v4, v5, v6⟩, v7⟩ := y2
      have rs : rsC (gX (oP o p) + 7) nc.toNat (fun t => gX (oP o p) + 8 + t) Mc := ⟨r5, fun k z => by rw [hnc]; exact r6 k z, fun k _ => by show gX (oP o p) + 8 + k ≠ 89; omega, fun i k _ _ z => by show gX (oP o p) + 8 + i ≠ gX (oP o p) + 8 + k; omega⟩
      have f15 : Fz (Zrc o p) Mc Mc2 := ((Fz.r).si (Or.inl (Or.inl ⟨rfl, by decide⟩))).tr ((by rw [← hq2]; exact x3.zm : Fz (ZM o p 1) _ _).m fun _ _ z => Or.inl z)
      have g15 : Fz (Zrr p) Mr Mr2 := ((Fz.r).si (Or.inl (Or.inl ⟨rfl, by decide⟩))).tr ((x4.zr (p := p) (k := 1) rfl hq2).m fun _ _ z => Or.inl z)
      have tc := c174_t (d := dl) (N := N) (J := J) (M := Mc) (r := fun t => gX (oP o p) + 8 + t) (wo := -2) (len := nc) (by omega) hC (hcw.trans (by rw [hw0])) (n := 2147483648 + s.1 12 0 0) (by omega) (by omega) ⟨k1, by omega, d1⟩ ⟨o1, o4 3 (by decide) (by decide)⟩ (hL 3 (by decide) (by decide)) (by omega) (hT 3 (by decide) (by decide) c hci.1 (by omega)).1.1 rfl rfl (by omega) rs (by omega) x1 f15.1
      have tr := r257_t (d := d) (N := N') (J := J') (M := Mr) (pa := psum (fps T Od) i.toNat) hR (by omega) e176 (by omega) d2 (by omega) x2 g15.1 v4 v7 rfl
      rw [tc, tr]
      -- what was written
      obtain ⟨Mc3, hMc3⟩ : ∃ X, X = wr4 (fun t => gX (oP o p) + 8 + t) c.toNat Mc2 := ⟨_, rfl⟩
      obtain ⟨Mr3, hMr3⟩ : ∃ X, X = wv4 (16 * p + c).toNat Mr2 := ⟨_, rfl⟩
      rw [← hMc3, ← hMr3]
      have fc : Fz (fun a j => (gX (oP o p) + 8 ≤ a ∧ a ≤ gX (oP o p) + 11) ∧ j = c.toNat) Mc2 Mc3 := ⟨by rw [hMc3]; exact wr4_2, fun a j z => by
        rw [hMc3]
        refine wr4_o fun k hk y => z ?_
        have y1 : a = gX (oP o p) + 8 + k := y.1
        exact ⟨by omega, y.2⟩⟩
      have fr : Fz (fun a j => (a = 222 ∨ a = 223 ∨ a = 224 ∨ a = 225) ∧ j = (16 * p + c).toNat) Mr2 Mr3 := ⟨by rw [hMr3]; exact wv4_2, fun a j z => by rw [hMr3]; exact wv4_o z⟩
      have h3' : RI LL xs o (v1p p) q (i + 1) s' Mc3 Mr3 := by
        refine y1.sub hP hu.2.1 fc (fun a j z => ⟨own_ho hP hp (by omega) (by unfold pkZ; omega), fun y => by omega, by omega, by omega, by omega, ?_, ?_⟩) fr (fun a j z => ⟨⟨fun y => by omega, by omega, by omega, by omega⟩, fun y => by omega, by omega, by omega, by omega, by omega⟩)
        · show a < gX (oP o p) + 13 ∨ gX (oP o p) + 15 < a
          omega
        · show a < 259 ∨ (gL (oP o p) ≤ a ∧ a < gX (oP o p) + 18)
          omega
      have f03 : Fz (Zrc o p) Mc Mc3 := f15.tr (fc.m fun a j z => Or.inr z.1)
      have g03 : Fz (Zrr p) Mr Mr3 := g15.tr (fr.m fun a j z => Or.inr ⟨z.1, by omega, by omega⟩)
      have ny : ∀ a j, a = gX (oP o p) + 6 ∨ (gX (oP o p) + 8 ≤ a ∧ a ≤ gX (oP o p) + 11) → Mc2.1 a j = Mc.1 a j := fun a j z => by
        refine (x3.2 a j (inW_n (fun z' y => ?_) _) ?_ ?_ ?_).trans (sI_ne (by omega))
        · have g : ∀ z, z ∈ W_y → z.1 < 259 := by decide
          have := g z' y
          omega
        · intro _; show a ≠ gX (oP o p) + 13; omega
        · intro _; show a ≠ gX (oP o p) + 14; omega
        · intro _; show a ≠ gX (oP o p) + 15; omega
      have nr : ∀ a j, a = 183 ∨ (222 ≤ a ∧ a ≤ 225) → Mr2.1 a j = Mr.1 a j := fun a j z => by
        refine (x4.2.1 a j (inW_n (fun z' y => ?_) _)).trans (sI_ne (by omega))
        have g : ∀ z, z ∈ W_l → z.1 ≠ 183 ∧ (z.1 < 222 ∨ 225 < z.1) := by decide
        have := g z' y
        omega
      obtain ⟨T', hT'⟩ : ∃ X : Nat → Int → Int32, X = fun t k => if k = c then Mc2.1 89 t else T t k := ⟨_, rfl⟩
      have T'c : ∀ t, T' t c = Mc2.1 89 t := fun t => by rw [hT']; exact if_pos rfl
      have T'n : ∀ t k, k ≠ c → T' t k = T t k := fun t k z => by rw [hT']; exact if_neg z
      have odn : ∀ k, 0 ≤ k → k < i → Od k ≠ c := fun k a b y => by
        rw [hcd] at y
        have := hO.inj (i := k) (b := i) ⟨a, by omega⟩ ⟨h2, by omega⟩ y
        omega
      obtain ⟨w1, w2, w3, w4⟩ := wr4_e (M := Mc2) (j := c.toNat) rs.2.2.2
      rw [← hMc3] at w1 w2 w3 w4
      obtain ⟨u1, u2, u3, u4⟩ := wv4_e (M := Mr2) (n := (16 * p + c).toNat)
      rw [← hMr3] at u1 u2 u3 u4
      have htl' : ∀ k, 0 ≤ k → k < i + 1 → tlB o p T' (Od k) Mc3 Mr3 := fun k a b t ht => by
        by_cases y : k = i
        · rw [y, ← hcd, T'c]
          have ct : t = 0 ∨ t = 1 ∨ t = 2 ∨ t = 3 := by omega
          rcases ct with ct | ct | ct | ct <;> subst ct
          · exact ⟨w1, u1.trans (v4.trans v1.symm)⟩
          · exact ⟨w2, u2.trans (v5.trans v2.symm)⟩
          · exact ⟨w3, u3.trans (v6.trans v3.symm)⟩
          · exact ⟨w4, u4.trans (y4.2.trans y4.1.symm)⟩
        · have nk := odn k a (by omega)
          have bk := hO.1 k a (by omega)
          rw [T'n t _ nk]
          obtain ⟨z1, z2⟩ := htl k a (by omega) t ht
          exact ⟨(fc.2 _ _ fun z => by omega).trans ((ny _ _ (by omega)).trans z1), (fr.2 _ _ fun z => by omega).trans ((nr _ _ (by omega)).trans z2)⟩
      have hor' : orB o p Od Mc3 Mr3 := fun k a b => by
        obtain ⟨z1, z2⟩ := hor k a b
        exact ⟨(fc.2 _ _ fun z => by omega).trans ((ny _ _ (by omega)).trans z1), (fr.2 _ _ fun z => by omega).trans ((nr _ _ (by omega)).trans z2)⟩
      have ps : psum (fps T Od) i.toNat + (if V = 1 then 1 else 0) = psum (fps T' Od) (i + 1).toNat := by
        rw [show (i + 1).toNat = i.toNat + 1 by omega]
        show _ = psum (fps T' Od) i.toNat + fps T' Od (i.toNat : Int)
        rw [psum_c (f := fps T Od) (g := fps T' Od) fun k a b => by
          unfold fps
          rw [T'n 0 _ (odn k a (by omega))], show ((i.toNat : Nat) : Int) = i by omega]
        congr 1
        unfold fps
        rw [← hcd, T'c, v1]
        by_cases y : V = 1
        · rw [if_pos y, if_pos (by rw [y])]
        · rw [if_neg y, if_neg fun z => y (iI_in z (by omega) (by omega))]
      rw [ps]
      obtain ⟨Mc', Mr', s2, T2, q1, q2, q3, q4, q5, q6⟩ := ih (i + 1) s' Mc3 Mr3 N N' T' (by omega) (by omega) (by omega) (by omega) h3' (y6.2.2.2.2.2.2.2.1 h12) hor' htl'
      exact ⟨Mc', Mr', s2, T2, q1, q2, q3, q4, f03.tr q5, g03.tr q6⟩
    · omega
end S9cd
