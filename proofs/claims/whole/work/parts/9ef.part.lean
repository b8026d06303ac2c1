/-! DOUBLES: twin(), both -/
/-- no CALL of it is heard yet -/
def hdZ (u : ZS) (q : Int) : ZS := (fun k a b => if k = 17 ∧ a = q then 0 else u.1 k a b, u.2)
section S9ef
variable {d dl : Nat} {o : HO} {M M' Mc Mr : Mem} {LL a j b c t x : Nat} {xs : Nat → Int32} {ow : Nat → Int} {p i k sl m n f w q np tm par : Int} {v v1 v2 v3 v4 v5 w1 w2 : Int32} {D : Nat → Int → Int → Int} {W : Nat → Int → Int → Int32} {g : Int → PG} {u : ZS}
theorem dbT_n {k : Nat} {a b : Int} (h : a ≠ q ∨ (k ≠ 0 ∧ k ≠ 1 ∧ k ≠ 2 ∧ k ≠ 3 ∧ k ≠ 12)) : dbT D q tm p m par k a b = D k a b := by
  unfold dbT
  rw [if_neg (by omega), if_neg (by omega), if_neg (by omega), if_neg (by omega), if_neg (by omega)]
theorem dbT_0 {b : Int} : dbT D q tm p m par 0 q b = tm := if_pos ⟨rfl, rfl⟩
theorem dbT_1 {b : Int} : dbT D q tm p m par 1 q b = p := by
  unfold dbT
  rw [if_neg (by omega), if_pos ⟨rfl, rfl⟩]
theorem dbT_2 {b : Int} : dbT D q tm p m par 2 q b = m := by
  unfold dbT
  rw [if_neg (by omega), if_neg (by omega), if_pos ⟨rfl, rfl⟩]
theorem dbT_3 {b : Int} : dbT D q tm p m par 3 q b = par := by
  unfold dbT
  rw [if_neg (by omega), if_neg (by omega), if_neg (by omega), if_pos ⟨rfl, rfl⟩]
theorem dbT_12 {b : Int} : dbT D q tm p m par 12 q b = 0 := by
  unfold dbT
  rw [if_neg (by omega), if_neg (by omega), if_neg (by omega), if_neg (by omega), if_pos ⟨rfl, rfl⟩]
theorem dbP.dt (h : dbP D np g) (hq : 0 ≤ q ∧ q < 8) (ht : 0 ≤ tm ∧ tm ≤ 100000) (hp : 0 ≤ p ∧ p < np ∧ p ≤ 7) (hm : 0 ≤ m ∧ m < (gR (g p)).1 2 0 0 ∧ m ≤ 95) (h4 : (gR (g p)).1 2 2 m = 4) (hr : par = (gR (g p)).1 2 4 m) (hn : ∀ x, 0 ≤ x → x < 8 → ¬ dSt D p m x) : dbP (dbT D q tm p m par) np g := fun a u w => by
  obtain ⟨h1, h2, h3, h4', h5, h6, h7⟩ := h a u w
  have h14 : ∀ r, 0 ≤ r → r < 8 → 0 ≤ dbT D q tm p m par 14 a r ∧ dbT D q tm p m par 14 a r ≤ 1 := fun r x y => by
    rw [dbT_n (k := 14) (Or.inr (by decide))]; exact h5 r x y
  by_cases z : a = q
  · subst z
    rw [dbT_0, dbT_1, dbT_2, dbT_3, dbT_12]
    refine ⟨by omega, by omega, by omega, by omega, h14, fun _ => ⟨hp.2.1, hm.2.1, h4, hr, fun r x y => by omega⟩, fun q' a' b' c e1 e2 e3 => ?_⟩
    by_cases y : q' = a
    · exact y.symm
    · rw [dbT_n (Or.inl y)] at e1 e2 e3
      exact absurd ⟨e1, e2.symm, e3.symm⟩ (hn q' a' b')
  · rw [dbT_n (Or.inl z), dbT_n (Or.inl z), dbT_n (Or.inl z), dbT_n (Or.inl z), dbT_n (Or.inl z)]
    refine ⟨h1, h2, h3, h4', h14, fun z2 => ?_, fun q' a' b' c e1 e2 e3 => ?_⟩
    · obtain ⟨t1, t2, t3, t4, t5⟩ := h6 z2
      exact ⟨t1, t2, t3, t4, fun r x y => by rw [dbT_n (Or.inl z)]; exact t5 r x y⟩
    · by_cases y : q' = q
      · rw [y, dbT_1] at e2
        rw [y, dbT_2] at e3
        exact absurd ⟨c, e2, e3⟩ (hn a u w)
      · rw [dbT_n (Or.inl y)] at e1 e2 e3
        exact h7 q' a' b' c e1 e2 e3
theorem dbI.dt (h : dbI D tm) : dbI (dbT D q tm p m par) (tm + 1) := fun a u w => by
  obtain ⟨h1, h2⟩ := h a u w
  by_cases z : a = q
  · subst z
    rw [dbT_0]
    refine ⟨by omega, fun q' x y c e => ?_⟩
    by_cases y' : q' = a
    · exact y'
    · rw [dbT_n (Or.inl y')] at e
      have := (h q' x y).1
      omega
  · rw [dbT_n (Or.inl z)]
    refine ⟨by omega, fun q' x y c e => ?_⟩
    by_cases y' : q' = q
    · rw [y', dbT_0] at e; omega
    · rw [dbT_n (Or.inl y')] at e
      exact h2 q' x y c e
theorem dbC.dt (h : dbC D W M) (hq : 0 ≤ q ∧ q < 8) (ht : 0 ≤ tm) (h0 : M'.1 (zTw q) 0 = iI tm) (h7 : M'.1 (zTw q) 7 = iI p) (h8 : M'.1 (zTw q) 8 = iI m) (h2 : M'.1 (zTw q) 2 = iI 0) (h1 : M'.1 (zTw q) 1 = iI par) (e : ∀ a j : Nat, a ≠ zTw q → ¬ (a = 64 ∧ j = 3) → M'.1 a j = M.1 a j) : dbC (dbT D q tm p m par) W M' := fun a u w => by
  obtain ⟨⟨g1, g2, g3, g4, g5⟩, g6⟩ := h a u w
  obtain ⟨j1, j2, j3, j4, j5, j6⟩ := zTw_i (q := a) (q' := q) ⟨u, w⟩ hq
  obtain ⟨i1, i2, i3, i4, i5⟩ := zTw_i hq (q' := a) ⟨u, w⟩
  have h13 : ∀ r, dbT D q tm p m par 13 a r = D 13 a r := fun r => dbT_n (Or.inr (by decide))
  have h14 : ∀ r, dbT D q tm p m par 14 a r = D 14 a r := fun r => dbT_n (Or.inr (by decide))
  refine ⟨?_, fun r x y => by
    rw [h13, h14, e _ _ (by omega) (by omega), e _ _ (by omega) (by omega), e _ _ (by omega) (by omega), e _ _ (by omega) (by omega)]
    exact g6 r x y⟩
  by_cases z : a = q
  · subst z
    rw [dbT_0, dbT_1, dbT_2, dbT_3, dbT_12, if_neg (show ¬ tm < 0 by omega)]
    exact ⟨h0, h7, h8, h2, fun _ => h1⟩
  · have ne : zTw a ≠ zTw q := fun y => z (j1.1 y)
    rw [dbT_n (Or.inl z), dbT_n (Or.inl z), dbT_n (Or.inl z), dbT_n (Or.inl z), dbT_n (Or.inl z), e _ _ ne (by omega), e _ _ ne (by omega), e _ _ ne (by omega), e _ _ ne (by omega), e _ _ ne (by omega)]
    exact ⟨g1, g2, g3, g4, g5⟩
theorem dbR.dt (h : dbR D W M) (hq : 0 ≤ q ∧ q < 8) (h0 : M'.1 227 q.toNat = iI tm) (h7 : M'.1 228 q.toNat = iI p) (h8 : M'.1 229 q.toNat = iI m) (h2 : M'.1 230 q.toNat = iI 0) (e : ∀ a j : Nat, ¬ (227 ≤ a ∧ a ≤ 230 ∧ j = q.toNat) → a ≠ 235 → ¬ (a = 160 ∧ j = 111) → M'.1 a j = M.1 a j) : dbR (dbT D q tm p m par) W M' := fun a u w => by
  obtain ⟨⟨g1, g2, g3, g4⟩, g6⟩ := h a u w
  have h13 : ∀ r, dbT D q tm p m par 13 a r = D 13 a r := fun r => dbT_n (Or.inr (by decide))
  have h14 : ∀ r, dbT D q tm p m par 14 a r = D 14 a r := fun r => dbT_n (Or.inr (by decide))
  refine ⟨?_, fun r x y => by
    rw [h13, h14, e _ _ (by omega) (by omega) (by omega), e _ _ (by omega) (by omega) (by omega), e _ _ (by omega) (by omega) (by omega), e _ _ (by omega) (by omega) (by omega)]
    exact g6 r x y⟩
  by_cases z : a = q
  · subst z
    rw [dbT_0, dbT_1, dbT_2, dbT_12]
    exact ⟨h0, h7, h8, h2⟩
  · rw [dbT_n (Or.inl z), dbT_n (Or.inl z), dbT_n (Or.inl z), dbT_n (Or.inl z), e _ _ (by omega) (by omega) (by omega), e _ _ (by omega) (by omega) (by omega), e _ _ (by omega) (by omega) (by omega), e _ _ (by omega) (by omega) (by omega)]
    exact ⟨g1, g2, g3, g4⟩
theorem hdZ_n {a b : Int} (h : a ≠ q) : (hdZ u q).1 17 a b = u.1 17 a b := if_neg fun z => h z.2
theorem hdC.dt (h : hdC u M) (hq : 0 ≤ q ∧ q < 8) (h4 : M'.1 (zTw q) 4 = iI 0) (e : ∀ a j : Nat, a ≠ zTw q → ¬ (a = 64 ∧ j = 3) → M'.1 a j = M.1 a j) : hdC (hdZ u q) M' := fun a x w => by
  obtain ⟨g1, g2, g3⟩ := h a x w
  obtain ⟨j1, j2, j3, j4, j5, j6⟩ := zTw_i (q := a) (q' := q) ⟨x, w⟩ hq
  obtain ⟨i1, i2, i3, i4, i5⟩ := zTw_i hq (q' := a) ⟨x, w⟩
  refine ⟨?_, fun j y z => by rw [e _ _ (by omega) (by omega)]; exact g2 j y z, fun j y z => by rw [e _ _ (by omega) (by omega)]; exact g3 j y z⟩
  by_cases z : a = q
  · rw [z, h4]; exact congrArg iI (if_pos ⟨rfl, rfl⟩).symm
  · rw [hdZ_n z, e _ _ (fun y => z (j1.1 y)) (by omega)]; exact g1
theorem hdR.dt (h : hdR u M) (hq : 0 ≤ q ∧ q < 8) (h4 : M'.1 235 q.toNat = iI 0) (e : ∀ a j : Nat, ¬ (227 ≤ a ∧ a ≤ 230 ∧ j = q.toNat) → ¬ (a = 235 ∧ j = q.toNat) → ¬ (a = 160 ∧ j = 111) → M'.1 a j = M.1 a j) : hdR (hdZ u q) M' := fun a x w => by
  obtain ⟨g1, g2, g3⟩ := h a x w
  refine ⟨?_, fun j y z => by rw [e _ _ (by omega) (by omega) (by omega)]; exact g2 j y z, fun j y z => by rw [e _ _ (by omega) (by omega) (by omega)]; exact g3 j y z⟩
  by_cases z : a = q
  · rw [z, h4]; exact congrArg iI (if_pos ⟨rfl, rfl⟩).symm
  · rw [hdZ_n z, e _ _ (by omega) (by omega) (by omega)]; exact g1
theorem zc121 (hd : 1 ≤ d) (h : M.2.2.2[x]? = some (10, 9)) : runX d 121 [va_rf (some x), .int v1, .int v2, .int v3, .int v4] M = some (.null, sI (sI (sI (sI (sI (sI M x 0 v1) x 7 v2) x 8 v3) x 1 v4) x 2 (iI 0)) x 4 (iI 0)) := by
  obtain ⟨d, rfl⟩ : ∃ e, d = e + 1 := ⟨d - 1, by omega⟩
  rw [r121]; unfold b121; rw [aR_e, aI_e, aI_e, aI_e, aI_e, aZ_e]; unfold c121
  rw [ptI_e h, ptI_e (M := sI M x 0 v1) h, ptI_e (M := sI (sI M x 0 v1) x 7 v2) h, ptI_e (M := sI (sI (sI M x 0 v1) x 7 v2) x 8 v3) h, ptI_e (M := sI (sI (sI (sI M x 0 v1) x 7 v2) x 8 v3) x 1 v4) h, ptI_e (M := sI (sI (sI (sI (sI M x 0 v1) x 7 v2) x 8 v3) x 1 v4) x 2 (0 : Int32)) h]
  rfl
theorem twin_pair (hdl : 7 ≤ dl) (hd : 4 ≤ d) (hP : hoP o) (hC : HC LL xs o ow sl Mc) (hR : HR o sl Mr) (hI : dbI (oD o) tm) (ht : 0 ≤ tm ∧ tm ≤ 100000) (h3 : Mc.1 64 3 = iI tm) (h111 : Mr.1 160 111 = iI tm) (uC : hdC u Mc) (uR : hdR u Mr) (hv1 : v1 = iI p) (hv2 : v2 = iI m) (bp : -2147483648 ≤ p ∧ p ≤ 2147483647) (bm : -2147483648 ≤ m ∧ m ≤ 2147483647) : ∃ r Mc' Mr', runX dl 145 [va_rf (some 64), .int v1, .int v2] Mc = some (.int r, Mc') ∧ runX d 273 [va_rf (some 160), .int v1, .int v2] Mr = some (.int r, Mr') ∧ ((Mc' = Mc ∧ Mr' = Mr) ∨ ∃ q D', (0 ≤ q ∧ q < 8) ∧ (Mc'.2 = Mc.2 ∧ ∀ a j : Nat, a ≠ zTw q → ¬ (a = 64 ∧ j = 3) → Mc'.1 a j = Mc.1 a j) ∧ (Mr'.2 = Mr.2 ∧ ∀ a j : Nat, ¬ (227 ≤ a ∧ a ≤ 230 ∧ j = q.toNat) → ¬ (a = 235 ∧ j = q.toNat) → ¬ (a = 160 ∧ j = 111) → Mr'.1 a j = Mr.1 a j) ∧ (Mc'.1 64 3 = iI (tm + 1) ∧ Mr'.1 160 111 = iI (tm + 1)) ∧ dbP D' (oN o) (oP o) ∧ dbI D' (tm + 1) ∧ dbC D' (oW o) Mc' ∧ dbR D' (oW o) Mr' ∧ hdC (hdZ u q) Mc' ∧ hdR (hdZ u q) Mr') := by
  obtain ⟨dl, rfl⟩ : ∃ e, dl = e + 1 := ⟨dl - 1, by omega⟩
  obtain ⟨d, rfl⟩ : ∃ e, d = e + 1 := ⟨d - 1, by omega⟩
  subst hv1; subst hv2
  have cM := hC.1.1.1
  have rM := hR.1.1.1
  have l96 : (96 : Int32) = iI 96 := rfl
  have n10 : ¬ iI 1 = (0 : Int32) := by decide
  obtain ⟨e1, e2⟩ := pk_two (dl := dl) (d := d) (p := p) (by omega) (by omega) hP hC hR bp
  have eC : runX (dl + 1) 145 [va_rf (some 64), .int (iI p), .int (iI m)] Mc = c145 (runX dl) (some 64) (iI p) (iI m) Mc := by
    rw [r145]; unfold b145; rw [aR_e, aI_e, aI_e, aZ_e]
  have eR : runX (d + 1) 273 [va_rf (some 160), .int (iI p), .int (iI m)] Mr = c273 (runX d) (some 160) (iI p) (iI m) Mr := by
    rw [r273]; unfold b273; rw [aR_e, aI_e, aI_e, aZ_e]
  by_cases hp : 0 ≤ p ∧ p < oN o
  · rw [if_pos hp] at e1 e2
    obtain ⟨⟨⟨o1, o2, o3⟩, o4, -⟩, hPA, -, hLs, hTT, -⟩ := hC.1.2.1 p hp.1 hp.2
    have hg := hP.2.2.1 p hp.1 hp.2
    have nn := hg.1.n2
    obtain ⟨rr, rk⟩ := hR.1.2.1 p hp.1 hp.2
    have p8 := hP.1
    obtain ⟨nm, hnm⟩ : ∃ nm, nm = (gR (oP o p)).1 2 0 0 := ⟨_, rfl⟩
    have e3 := zpartn (d := dl) (M := Mc) (v := iI m) (i := m) (by omega) (hLs 2 (by decide) (by decide)) rfl bm fun j a b => (hTT 2 (by decide) (by decide) j a b).1.1
    rw [nn.1, ← hnm] at e3
    have q5 := r_in (d := d) (M := Mr) (i := m) (k := 0) (m := nm - 1) (by omega) bm (by omega) (by omega)
    rw [← li_0, show iI (nm - 1) = iI nm - (1 : Int32) from (sbI rfl li_1).symm] at q5
    have e169 : Mr.1 169 p.toNat = iI nm := (rr.at (q := (169, 1, 2, 0)) (j := 0) (x := p) (by decide) (by decide) (by decide) (by dsimp only; omega)).trans (by rw [hnm])
    by_cases hm : 0 ≤ m ∧ m < nm
    · rw [if_pos hm] at e3
      rw [if_pos (by omega)] at q5
      have m96 : m < 96 := by omega
      obtain ⟨so, hso⟩ : ∃ so, so = (gR (oP o p)).1 2 2 m := ⟨_, rfl⟩
      have sb := (hg.rb m hm.1 (by omega)).1
      have e172 : Mr.1 172 (96 * p + m).toNat = iI so := (rr.at (q := (172, 96, 2, 2)) (j := m) (x := 96 * p + m) (by decide) hm.1 m96 rfl).trans (by rw [hso])
      obtain ⟨⟨t1, -, -⟩, t4, t5⟩ := hTT 2 (by decide) (by decide) m hm.1 (by omega)
      obtain ⟨-, f5, -⟩ := hg.1.1.2.2.2.1 m hm.1 (by omega)
      have s2 : Mc.1 (hEC (gH (oP o p)) 2 m) 2 = iI so := (t4 2 (by decide) (by decide)).trans (by rw [f5 2 (by decide) (by decide), hso])
      have s4 : Mc.1 (hEC (gH (oP o p)) 2 m) 4 = iI ((gR (oP o p)).1 2 4 m) := (t4 4 (by decide) (by decide)).trans (by rw [f5 4 (by decide) (by decide)])
      have preC : ∀ (X : XA), (if iI so = ((4 : Int32)) then (jn (fun (s6 : Mem) => some (.int ((-2 : Int32)), s6)) fun j71 => jn (fun (s7 : Option Nat × Mem) => if s7.1 = none then ( some (.int ((-3 : Int32)), s7.2)) else ( gtI (12, 19) s7.2 (some 64) 3 fun x8 => gtI (8, 9) s7.2 (some (hEC (gH (oP o p)) 2 m)) 4 fun x9 => vC (10, 9) s7.2 s7.1 <| cV (runX dl 121 [va_rf s7.1, .int x8, .int (iI p), .int (iI m), .int x9] s7.2) fun M10 => gtI (12, 19) M10 (some 64) 3 fun x11 => ptI (12, 19) M10 (some 64) 3 (x11 + ((1 : Int32))) fun M12 => some (.int x11, M12))) fun j108 => lp (c145_46 (runX dl) (some 64) (iI p) (iI m) j71 j108) 4294967296 (none, (0 : Int32), Mc)) else some (.int ((-1 : Int32)), Mc)) = X → runX (dl + 1) 145 [va_rf (some 64), .int (iI p), .int (iI m)] Mc = X := fun X e => by
        rw [← e, eC]
        unfold c145
        rw [vC_e (ck_64 cM), cP_e e1, jn_v, if_neg (show ¬ some (gX (oP o p)) = none by simp), gtP_q o1 (o4 2 (by decide) (by decide)), cP_e e3, jv_e]
        dsimp only
        rw [jn_v, if_neg (show ¬ some (hEC (gH (oP o p)) 2 m) = none by simp), gtI_q t1 s2, jv_e]
      have preR : ∀ (X : XA), (if iI so = ((4 : Int32)) then ( vC (13, 157) Mr (some 160) <| cI (runX d 272 [va_rf (some 160), .int (iI p), .int (iI m)] Mr) fun x11 M10 => if x11 < 0 then ( jn (fun (s12 : Int32) => if s12 = ((8 : Int32)) then ( some (.int ((-3 : Int32)), M10)) else ( gtP (13, 157) M10 (some 160) 112 fun x13 => gtI (13, 157) M10 (some 160) 111 fun x14 => asI 100 M10 x13 s12 x14 fun M15 => gtI (13, 157) M15 (some 160) 111 fun x16 => ptI (13, 157) M15 (some 160) 111 (x16 + ((1 : Int32))) fun M17 => gtP (13, 157) M17 (some 160) 113 fun x18 => asI 100 M17 x18 s12 (iI p) fun M19 => gtP (13, 157) M19 (some 160) 114 fun x20 => asI 100 M19 x20 s12 (iI m) fun M21 => gtP (13, 157) M21 (some 160) 115 fun x22 => asI 100 M21 x22 s12 (((0 : Int32))) fun M23 => gtP (13, 157) M23 (some 160) 120 fun x24 => asI 100 M23 x24 s12 (((0 : Int32))) fun M25 => gtP (13, 157) M25 (some 160) 112 fun x26 => alI 100 M25 x26 s12 fun x27 => some (.int x27, M25))) fun j76 => lp (c273_55 (runX d) (some 160) M10 j76) 4294967296 ((0 : Int32))) else ( some (.int ((-2 : Int32)), M10))) else some (.int ((-1 : Int32)), Mr)) = X → runX (d + 1) 273 [va_rf (some 160), .int (iI p), .int (iI m)] Mr = X := fun X e => by
        rw [← e, eR]
        unfold c273
        rw [vC_e (rk_160 rM), cI_e e2, jn_v, if_neg n10, gtP_q (rk_160 rM) (rf_10 rM), alI_q (n := 8) (z := p) (rk_169 rM) rfl (by omega) e169, cI_e q5, if_neg n10, gtP_q (rk_160 rM) (rf_13 rM), alI_q (n := 768) (z := 96 * p + m) (rk_172 rM) (adI (mlI l96 rfl) rfl) (by omega) e172, jv_e]
      by_cases h4 : so = 4
      · by_cases hst : ∃ x : Int, (0 ≤ x ∧ x < 8) ∧ dSt (oD o) p m x
        · obtain ⟨x, hx, hs⟩ := hst
          refine ⟨-2, Mc, Mr, preC _ ?_, preR _ ?_, Or.inl ⟨rfl, rfl⟩⟩
          · rw [if_pos (show iI so = (4 : Int32) from eqI_p (y := 4) rfl rfl h4), jn_v, jn_v, lp145s (np := oN o) (g := oP o) (by omega) cM hP.2.1 hC.1.2.2 (by omega) (by omega) hx hs, jv_e]
          · rw [if_pos (show iI so = (4 : Int32) from eqI_p (y := 4) rfl rfl h4), vC_e (rk_160 rM), cI_e (rr272d (d := d) (q := x) (by omega) rM hP.2.1 hR.1.2.2 (by omega) (by omega) (Or.inr ⟨hx.1, hx.2, hs⟩)), if_neg (show ¬ iI x < 0 from lsI_n (y := 0) rfl li_0 (by omega))]
        · have hn : ∀ x, 0 ≤ x → x < 8 → ¬ dSt (oD o) p m x := fun x a b c => hst ⟨x, ⟨a, b⟩, c⟩
          have r272 := rr272d (d := d) (q := -1) (by omega) rM hP.2.1 hR.1.2.2 (p := p) (m := m) (by omega) (by omega) (Or.inl ⟨rfl, hn⟩)
          rcases dbF_s (oD o) 8 (by decide) with ⟨f1, f2⟩ | ⟨q, hq, f1, f2, f3⟩
          · refine ⟨-3, Mc, Mr, preC _ ?_, preR _ ?_, Or.inl ⟨rfl, rfl⟩⟩
            · rw [if_pos (show iI so = (4 : Int32) from eqI_p (y := 4) rfl rfl h4), jn_v, jn_v, lp145 (np := oN o) (g := oP o) (by omega) cM hP.2.1 hC.1.2.2 (by omega) (by omega) hn, f1, jv_e, if_pos rfl]
            · rw [if_pos (show iI so = (4 : Int32) from eqI_p (y := 4) rfl rfl h4), vC_e (rk_160 rM), cI_e r272, if_pos (show iI (-1) < 0 by decide), jn_v, lp273 (q := 8) (np := oN o) (g := oP o) rM hP.2.1 hR.1.2.2 (by decide) (fun x a b => f2 x (by omega) b) (fun z => by omega), jv_e, if_pos (show iI 8 = (8 : Int32) from rfl)]
          · have hq' : 0 ≤ q ∧ q < 8 := by omega
            have k1 := (zTw_k cM hq').1.1
            obtain ⟨z1, -, -, -, z5, z6⟩ := zTw_i hq' hq'
            obtain ⟨par, hpar⟩ : ∃ par, par = (gR (oP o p)).1 2 4 m := ⟨_, rfl⟩
            rw [← hpar] at s4
            have e121 := zc121 (d := dl) (M := Mc) (x := zTw q) (v1 := iI tm) (v2 := iI p) (v3 := iI m) (v4 := iI par) (by omega) k1
            obtain ⟨A, hA⟩ : ∃ A, A = sI (sI (sI (sI (sI (sI Mc (zTw q) 0 (iI tm)) (zTw q) 7 (iI p)) (zTw q) 8 (iI m)) (zTw q) 1 (iI par)) (zTw q) 2 (iI 0)) (zTw q) 4 (iI 0) := ⟨_, rfl⟩
            rw [← hA] at e121
            obtain ⟨B, hB⟩ : ∃ B, B = sI A 64 3 (iI (tm + 1)) := ⟨_, rfl⟩
            have cA : CT A := by rw [hA]; exact cM
            have nA : ∀ a j : Nat, a ≠ zTw q → A.1 a j = Mc.1 a j := fun a j h => by
              rw [hA, sI_ne h, sI_ne h, sI_ne h, sI_ne h, sI_ne h, sI_ne h]
            have nB : ∀ a j : Nat, a ≠ zTw q → ¬ (a = 64 ∧ j = 3) → B.1 a j = Mc.1 a j := fun a j h h2 => by
              rw [hB]
              by_cases y : a = 64
              · rw [sI_nej (by omega)]; exact nA a j h
              · rw [sI_ne y]; exact nA a j h
            have b0 : B.1 (zTw q) 0 = iI tm := by
              rw [hB, sI_ne (by omega), hA, sI_nej (by decide), sI_nej (by decide), sI_nej (by decide), sI_nej (by decide), sI_nej (by decide), sI_eq]
            have b7 : B.1 (zTw q) 7 = iI p := by
              rw [hB, sI_ne (by omega), hA, sI_nej (by decide), sI_nej (by decide), sI_nej (by decide), sI_nej (by decide), sI_eq]
            have b8 : B.1 (zTw q) 8 = iI m := by
              rw [hB, sI_ne (by omega), hA, sI_nej (by decide), sI_nej (by decide), sI_nej (by decide), sI_eq]
            have b1 : B.1 (zTw q) 1 = iI par := by
              rw [hB, sI_ne (by omega), hA, sI_nej (by decide), sI_nej (by decide), sI_eq]
            have b2 : B.1 (zTw q) 2 = iI 0 := by
              rw [hB, sI_ne (by omega), hA, sI_nej (by decide), sI_eq]
            have b4 : B.1 (zTw q) 4 = iI 0 := by
              rw [hB, sI_ne (by omega), hA, sI_eq]
            obtain ⟨E1, h1⟩ : ∃ X, X = sI Mr 227 q.toNat (iI tm) := ⟨_, rfl⟩
            obtain ⟨E2, h2⟩ : ∃ X, X = sI E1 160 111 (iI (tm + 1)) := ⟨_, rfl⟩
            obtain ⟨E3, h3'⟩ : ∃ X, X = sI E2 228 q.toNat (iI p) := ⟨_, rfl⟩
            obtain ⟨E4, h4'⟩ : ∃ X, X = sI E3 229 q.toNat (iI m) := ⟨_, rfl⟩
            obtain ⟨E5, h5⟩ : ∃ X, X = sI E4 230 q.toNat (iI 0) := ⟨_, rfl⟩
            obtain ⟨E6, h6⟩ : ∃ X, X = sI E5 235 q.toNat (iI 0) := ⟨_, rfl⟩
            have R1 : RT E1 := by rw [h1]; exact rM
            have R2 : RT E2 := by
              rw [h2]; exact R1
            have R3 : RT E3 := by rw [h3']; exact R2
            have R4 : RT E4 := by rw [h4']; exact R3
            have R5 : RT E5 := by rw [h5]; exact R4
            have R6 : RT E6 := by rw [h6]; exact R5
            have c0 : E6.1 227 q.toNat = iI tm := by
              rw [h6, sI_ne (by decide), h5, sI_ne (by decide), h4', sI_ne (by decide), h3', sI_ne (by decide), h2, sI_ne (by decide), h1, sI_eq]
            have c7 : E6.1 228 q.toNat = iI p := by
              rw [h6, sI_ne (by decide), h5, sI_ne (by decide), h4', sI_ne (by decide), h3', sI_eq]
            have c8 : E6.1 229 q.toNat = iI m := by
              rw [h6, sI_ne (by decide), h5, sI_ne (by decide), h4', sI_eq]
            have c2 : E6.1 230 q.toNat = iI 0 := by
              rw [h6, sI_ne (by decide), h5, sI_eq]
            have c4 : E6.1 235 q.toNat = iI 0 := by rw [h6, sI_eq]
            have c11 : E6.1 160 111 = iI (tm + 1) := by
              rw [h6, sI_ne (by decide), h5, sI_ne (by decide), h4', sI_ne (by decide), h3', sI_ne (by decide), h2, sI_eq]
            have nE : ∀ a j : Nat, ¬ (227 ≤ a ∧ a ≤ 230 ∧ j = q.toNat) → ¬ (a = 235 ∧ j = q.toNat) → ¬ (a = 160 ∧ j = 111) → E6.1 a j = Mr.1 a j := fun a j x y z => by
              have h0 : ∀ (X : Mem) (s t : Nat) (w : Int32), ¬ (a = s ∧ j = t) → (sI X s t w).1 a j = X.1 a j := fun X s t w x1 => by
                by_cases e : a = s
                · exact sI_nej (by omega)
                · exact sI_ne e
              rw [h6, h5, h4', h3', h2, h1, h0 _ _ _ _ y, h0 _ _ _ _ (by omega), h0 _ _ _ _ (by omega), h0 _ _ _ _ (by omega), h0 _ _ _ _ z, h0 _ _ _ _ (by omega)]
            refine ⟨iI tm, B, E6, preC _ ?_, preR _ ?_, Or.inr ⟨q, dbT (oD o) q tm p m par, hq', ⟨by rw [hB, hA]; rfl, nB⟩, ⟨by rw [h6, h5, h4', h3', h2, h1]; rfl, nE⟩, ⟨by rw [hB, sI_eq], c11⟩, hP.2.1.dt hq' ht (by omega) (by omega) (by omega) hpar hn, hI.dt, hC.1.2.2.dt hq' ht.1 b0 b7 b8 b2 b1 nB, hR.1.2.2.dt hq' c0 c7 c8 c2 (fun a j x y z => nE a j x (fun w => y w.1) z), uC.dt hq' b4 nB, uR.dt hq' c4 nE⟩⟩
            · rw [if_pos (show iI so = (4 : Int32) from eqI_p (y := 4) rfl rfl h4), jn_v, jn_v, lp145 (np := oN o) (g := oP o) (by omega) cM hP.2.1 hC.1.2.2 (by omega) (by omega) hn, f1, jv_e, if_neg (show ¬ some (zTw q) = none by simp), gtI_q (ck_64 cM) h3, gtI_q t1 s4, vC_e k1, cV_e e121, gtI_q (ck_64 cA) ((nA 64 3 (by omega)).trans h3), ptI_q (ck_64 cA) (adI rfl li_1), ← hB]
            · have r8 : ¬ iI q = (8 : Int32) := eqI_n (y := 8) rfl rfl (by omega)
              have e111 : E1.1 160 111 = iI tm := by rw [h1, sI_ne (by decide)]; exact h111
              rw [if_pos (show iI so = (4 : Int32) from eqI_p (y := 4) rfl rfl h4), vC_e (rk_160 rM), cI_e r272, if_pos (show iI (-1) < 0 by decide), jn_v, lp273 (q := q) (np := oN o) (g := oP o) rM hP.2.1 hR.1.2.2 (by omega) (fun x a b => f3 x (by omega) b) (fun _ => f2), jv_e, if_neg r8, gtP_q (rk_160 rM) (rf_112 rM), gtI_q (rk_160 rM) h111, asI_e (rk_227 rM) (by omega) (by omega) (by omega), ← h1, gtI_q (rk_160 R1) e111, ptI_q (rk_160 R1) (adI rfl li_1), ← h2, gtP_q (rk_160 R2) (rf_113 R2), asI_e (rk_228 R2) (by omega) (by omega) (by omega), ← h3', gtP_q (rk_160 R3) (rf_114 R3), asI_e (rk_229 R3) (by omega) (by omega) (by omega), ← h4', gtP_q (rk_160 R4) (rf_115 R4), li_0, asI_e (rk_230 R4) (by omega) (by omega) (by omega), ← h5, gtP_q (rk_160 R5) (rf_120 R5), asI_e (rk_235 R5) (by omega) (by omega) (by omega), ← h6, gtP_q (rk_160 R6) (rf_112 R6), alI_q (n := 8) (z := q) (rk_227 R6) rfl (by omega) c0]
      · refine ⟨-1, Mc, Mr, preC _ ?_, preR _ ?_, Or.inl ⟨rfl, rfl⟩⟩
        · rw [if_neg (show ¬ iI so = (4 : Int32) from eqI_n (y := 4) rfl rfl (by omega))]
        · rw [if_neg (show ¬ iI so = (4 : Int32) from eqI_n (y := 4) rfl rfl (by omega))]
    · rw [if_neg hm] at e3
      rw [if_neg (by omega)] at q5
      refine ⟨-1, Mc, Mr, ?_, ?_, Or.inl ⟨rfl, rfl⟩⟩
      · rw [eC]
        unfold c145
        rw [vC_e (ck_64 cM), cP_e e1, jn_v, if_neg (show ¬ some (gX (oP o p)) = none by simp), gtP_q o1 (o4 2 (by decide) (by decide)), cP_e e3, jv_e]
        dsimp only
        rw [jn_v, if_pos rfl, jv_e]
      · rw [eR]
        unfold c273
        rw [vC_e (rk_160 rM), cI_e e2, jn_v, if_neg n10, gtP_q (rk_160 rM) (rf_10 rM), alI_q (n := 8) (z := p) (rk_169 rM) rfl (by omega) e169, cI_e q5, if_pos (show iI 0 = 0 from rfl), jv_e]
  · rw [if_neg hp] at e1 e2
    refine ⟨-1, Mc, Mr, ?_, ?_, Or.inl ⟨rfl, rfl⟩⟩
    · rw [eC]
      unfold c145
      rw [vC_e (ck_64 cM), cP_e e1, jn_v, if_pos rfl, jv_e]
      dsimp only
      rw [jn_v, if_pos rfl, jv_e]
    · rw [eR]
      unfold c273
      rw [vC_e (rk_160 rM), cI_e e2, jn_v, if_pos (show iI 0 = 0 from rfl), jv_e]
end S9ef
