/-! what both know of each other between calls: the books, and what leaves them as they are -/
def iTp (k : Nat) (Mc Mr : Mem) : Prop := (∃ (T : Int → Int) (n : Int), Tp 66 1 67 T n Mc ∧ Tp 160 1 161 T n Mr ∧ n ≤ 20 * (k : Int)) ∧ Mc.2.2.2[2]? = some (210, 0) ∧ (∀ i : Int, 0 ≤ i → i < 28 → Mc.2.1 71 i.toNat = WC i) ∧ (∀ i : Int, 0 ≤ i → i < 28 → Mr.2.1 194 i.toNat = WR i) ∧ (∃ s0 : Int, Mc.1 65 16 = iI s0 ∧ 0 ≤ s0 ∧ s0 ≤ 10) ∧ RM Mr ∧ Mc.1 65 10 = Mr.1 160 65
def rTc (a j : Nat) : Prop := (a = 66 ∧ j = 1) ∨ a = 67 ∨ a = 71 ∨ (a = 65 ∧ (j = 10 ∨ j = 16))
def rTr (a j : Nat) : Prop := (a = 160 ∧ (j = 1 ∨ j = 48 ∨ j = 49 ∨ j = 65)) ∨ a = 161 ∨ a = 194
def iDb (k : Nat) (o : HO) (Mc Mr : Mem) : Prop := ∃ tm : Int, (0 ≤ tm ∧ tm ≤ k) ∧ dbI (oD o) tm ∧ Mc.1 64 3 = iI tm ∧ Mr.1 160 111 = iI tm
def iHd (Mc Mr : Mem) : Prop := ∃ hs, hdC hs Mc ∧ hdR hs Mr ∧ ∀ D, 0 ≤ hs.1 17 D 0 ∧ hs.1 17 D 0 ≤ 34000
def iOr (o : HO) (p : Int) (Mc Mr : Mem) : Prop := ∃ Od, odK Od ((gR (oP o p)).1 3 0 0).toNat ∧ odO Od ((gR (oP o p)).1 3 0 0).toNat ∧ orB o p Od Mc Mr
def iKl (o : HO) (p : Int) (Mc Mr : Mem) : Prop := ∃ wk sw km, klC o p wk sw km Mc ∧ klR o p wk km Mr
def iBd (ow : Nat → Int) (o : HO) (Mc Mr : Mem) : Prop := ∃ (nB : Int) (B : Int → BG), (0 ≤ nB ∧ nB ≤ 8) ∧ bdC ow o nB B Mc ∧ bdR nB B Mr
def iHy (ow : Nat → Int) (Mc Mr : Mem) : Prop := ∃ (nH : Int) (B : Int → HY × Nat), hbC ow nH B Mc ∧ hbR nH B Mr
section S9en
variable {k k' : Nat} {o o' : HO} {M M' Mc Mr Mc' Mr' : Mem} {LL : Nat} {xs : Nat → Int32} {ow ow' : Nat → Int} {p sl : Int} {Zc Zr : Nat → Nat → Prop}
theorem iTp.fg (h : iTp k Mc Mr) (hk : k ≤ k') (fc : FG Zc Mc Mc') (fr : FG Zr Mr Mr') (wc : ∀ a j, Zc a j → ¬ rTc a j) (wr : ∀ a j, Zr a j → ¬ rTr a j) : iTp k' Mc' Mr' := by
  obtain ⟨⟨T, n, ⟨t1, t2, t3, t4, t5, t6⟩, ⟨s1, s2, s3, s4, s5, s6⟩, hn⟩, h2, h3, h4, ⟨s0, h5, h5'⟩, ⟨mu, ut, m1, m2, m3⟩, h7⟩ := h
  have c : ∀ a j, a < 259 → rTc a j → Mc'.1 a j = Mc.1 a j := fun a j l y => fc.i (fc.lw l) fun z => wc a j z y
  have r : ∀ a j, a < 259 → rTr a j → Mr'.1 a j = Mr.1 a j := fun a j l y => fr.i (fr.lw l) fun z => wr a j z y
  refine ⟨⟨T, n, ⟨(c _ _ (by decide) (by unfold rTc; omega)).trans t1, t2, t3, fun i a b => (c _ _ (by decide) (by unfold rTc; omega)).trans (t4 i a b), t5, t6⟩, ⟨(r _ _ (by decide) (by unfold rTr; omega)).trans s1, s2, s3, fun i a b => (r _ _ (by decide) (by unfold rTr; omega)).trans (s4 i a b), s5, s6⟩, by omega⟩, fc.2.1 _ _ h2, fun i a b => (fc.l (fc.lw (by decide)) fun z => wc _ _ z (by unfold rTc; omega)).trans (h3 i a b), fun i a b => (fr.l (fr.lw (by decide)) fun z => wr _ _ z (by unfold rTr; omega)).trans (h4 i a b), ⟨s0, (c _ _ (by decide) (by unfold rTc; omega)).trans h5, h5'⟩, ⟨mu, ut, (r _ _ (by decide) (by unfold rTr; omega)).trans m1, (r _ _ (by decide) (by unfold rTr; omega)).trans m2, m3⟩, (c _ _ (by decide) (by unfold rTc; omega)).trans (h7.trans (r _ _ (by decide) (by unfold rTr; omega)).symm)⟩
theorem iDb.fg (h : iDb k o Mc Mr) (hk : k ≤ k') (e : oD o' = oD o) (fc : FG Zc Mc Mc') (fr : FG Zr Mr Mr') (wc : ¬ Zc 64 3) (wr : ¬ Zr 160 111) : iDb k' o' Mc' Mr' := by
  obtain ⟨tm, h1, h2, h3, h4⟩ := h
  exact ⟨tm, by omega, by rw [e]; exact h2, (fc.i (fc.lw (by decide)) wc).trans h3, (fr.i (fr.lw (by decide)) wr).trans h4⟩
theorem iHd.fg (h : iHd Mc Mr) (fc : FG Zc Mc Mc') (fr : FG Zr Mr Mr') (wc : ∀ a j, Zc a j → ¬ (108 ≤ a ∧ a < 140 ∧ ((a % 4 = 0 ∧ j = 4) ∨ a % 4 = 2 ∨ a % 4 = 3))) (wr : ∀ a j, Zr a j → a < 235 ∨ 237 < a) : iHd Mc' Mr' := by
  obtain ⟨hs, h1, h2, h3⟩ := h
  refine ⟨hs, fun q a b => ?_, fun q a b => ?_, h3⟩
  · obtain ⟨y1, y2, y3⟩ := h1 q a b
    have tz : 108 ≤ zTw q ∧ zTw q + 3 < 140 ∧ zTw q % 4 = 0 := by unfold zTw; omega
    have c : ∀ a j, (108 ≤ a ∧ a < 140 ∧ ((a % 4 = 0 ∧ j = 4) ∨ a % 4 = 2 ∨ a % 4 = 3)) → Mc'.1 a j = Mc.1 a j := fun a j y => fc.i (fc.lw (by omega)) fun z => wc a j z y
    exact ⟨(c _ _ (by omega)).trans y1, fun j m n => (c _ _ (by omega)).trans (y2 j m n), fun j m n => (c _ _ (by omega)).trans (y3 j m n)⟩
  · obtain ⟨y1, y2, y3⟩ := h2 q a b
    have c : ∀ a j, 235 ≤ a → a ≤ 237 → Mr'.1 a j = Mr.1 a j := fun a j y z => fr.i (fr.lw (by omega)) fun w => by have := wr a j w; omega
    exact ⟨(c _ _ (by decide) (by decide)).trans y1, fun j m n => (c _ _ (by decide) (by decide)).trans (y2 j m n), fun j m n => (c _ _ (by decide) (by decide)).trans (y3 j m n)⟩
theorem tdB.fg (h : tdB Mc Mr) (fc : FG Zc Mc Mc') (fr : FG Zr Mr Mr') (wc : ∀ a j, Zc a j → ¬ ((a = 64 ∧ j = 7) ∨ a = 142)) (wr : ∀ a j, Zr a j → ¬ ((a = 160 ∧ j = 109) ∨ a = 226)) : tdB Mc' Mr' := by
  have c : ∀ a j, a < 259 → ((a = 64 ∧ j = 7) ∨ a = 142) → Mc'.1 a j = Mc.1 a j := fun a j l y => fc.i (fc.lw l) fun z => wc a j z y
  have r : ∀ a j, a < 259 → ((a = 160 ∧ j = 109) ∨ a = 226) → Mr'.1 a j = Mr.1 a j := fun a j l y => fr.i (fr.lw l) fun z => wr a j z y
  obtain ⟨h1, h2, h3⟩ := h
  have c7 := c 64 7 (by decide) (by omega)
  have q : ∀ i j, Mc.1 142 i = Mr.1 226 j → Mc'.1 142 i = Mr'.1 226 j := fun i j e => (c _ _ (by decide) (by omega)).trans (e.trans (r _ _ (by decide) (by omega)).symm)
  unfold tdB
  rw [c7]
  exact ⟨h1.trans (r _ _ (by decide) (by omega)).symm, h2, fun z => by
    obtain ⟨y1, y2, y3, y4⟩ := h3 z
    exact ⟨q _ _ y1, q _ _ y2, q _ _ y3, q _ _ y4⟩⟩
theorem smB.fg (h : smB Mc Mr) (fc : FG Zc Mc Mc') (fr : FG Zr Mr Mr') (wc : ∀ a j, Zc a j → ¬ (a = 147 ∨ (a = 64 ∧ j = 13))) (wr : ∀ a j, Zr a j → ¬ ((a = 160 ∧ 129 ≤ j ∧ j ≤ 133) ∨ a = 244)) : smB Mc' Mr' := h.fz (fun a j y => fc.i (fc.lw (by omega)) fun z => wc a j z y) fun a j y => fr.i (fr.lw (by omega)) fun z => wr a j z y
theorem blB.fg (h : blB Mc Mr) (fc : FG Zc Mc Mc') (fr : FG Zr Mr Mr') (wc : ∀ a j, Zc a j → ¬ (a = 149 ∨ (a = 64 ∧ j = 16))) (wr : ∀ a j, Zr a j → ¬ ((a = 160 ∧ j = 151) ∨ a = 255)) : blB Mc' Mr' := h.fz (fun a j y => fc.i (fc.lw (by omega)) fun z => wc a j z y) fun a j y => fr.i (fr.lw (by omega)) fun z => wr a j z y
theorem shB.fg (h : shB Mc Mr) (fc : FG Zc Mc Mc') (fr : FG Zr Mr Mr') (wc : ∀ a j, Zc a j → ¬ (a = 64 ∧ (j = 9 ∨ j = 10))) (wr : ∀ a j, Zr a j → ¬ (a = 160 ∧ (j = 148 ∨ j = 149 ∨ j = 150))) : shB Mc' Mr' := by
  obtain ⟨A, B, h1, ⟨h2, h3⟩, h4, h5⟩ := h
  have c : ∀ j, j = 9 ∨ j = 10 → Mc'.1 64 j = Mc.1 64 j := fun j y => fc.i (fc.lw (by decide)) fun z => wc _ _ z ⟨rfl, y⟩
  have l : ∀ j, j = 149 ∨ j = 150 → Mr'.2.1 160 j = Mr.2.1 160 j := fun j y => fr.l (fr.lw (by decide)) fun z => wr _ _ z ⟨rfl, by omega⟩
  exact ⟨A, B, h1, ⟨(c _ (by decide)).trans h2, (c _ (by decide)).trans h3⟩, (fr.i (fr.lw (by decide)) fun z => wr _ _ z ⟨rfl, by decide⟩).trans h4, fun z => ⟨(l _ (by decide)).trans (h5 z).1, (l _ (by decide)).trans (h5 z).2⟩⟩
theorem iOr.fg (h : iOr o p Mc Mr) (e : oP o' p = oP o p) (hp : 0 ≤ p) (hn : (gR (oP o p)).1 3 0 0 ≤ 16) (hl : gX (oP o p) + 17 < ln Mc) (fc : FG Zc Mc Mc') (fr : FG Zr Mr Mr') (wc : ∀ j, ¬ Zc (gX (oP o p) + 6) j) (wr : ∀ j : Nat, 16 * p ≤ j → (j : Int) < 16 * p + 16 → ¬ Zr 183 j) : iOr o' p Mc' Mr' := by
  obtain ⟨Od, h1, h2, h3⟩ := h
  unfold iOr orB
  rw [e]
  refine ⟨Od, h1, h2, fun k a b => ?_⟩
  obtain ⟨y1, y2⟩ := h3 k a b
  exact ⟨(fc.i (by omega) (wc _)).trans y1, (fr.i (fr.lw (by decide)) (wr _ (by omega) (by omega))).trans y2⟩
theorem rsB.fg (h : rsB o p Mc Mr) (e : oP o' p = oP o p) (hp : 0 ≤ p) (hn : (gR (oP o p)).1 3 0 0 ≤ 16) (hE : gE (oP o p) ≤ 1000) (hl : gX (oP o p) + 17 < ln Mc) (fc : FG Zc Mc Mc') (fr : FG Zr Mr Mr') (wc : ∀ a j, Zc a j → ¬ ((a = gX (oP o p) ∧ j = 13) ∨ (gX (oP o p) + 8 ≤ a ∧ a ≤ gX (oP o p) + 11) ∨ a = gX (oP o p) + 13 ∨ a = gX (oP o p) + 14)) (wr : ∀ a j, Zr a j → ¬ ((a = 221 ∧ j = p.toNat) ∨ (222 ≤ a ∧ a ≤ 225 ∧ 16 * p ≤ j ∧ (j : Int) < 16 * p + 16) ∨ ((a = 216 ∨ a = 217) ∧ 1000 * p ≤ j ∧ (j : Int) < 1000 * p + 1000))) : rsB o' p Mc' Mr' := by
  unfold rsB tlB cvB
  rw [e]
  have c13 : Mc'.1 (gX (oP o p)) 13 = Mc.1 (gX (oP o p)) 13 := fc.i (by omega) fun z => wc _ _ z (Or.inl ⟨rfl, rfl⟩)
  have r221 : Mr'.1 221 p.toNat = Mr.1 221 p.toNat := fr.i (fr.lw (by decide)) fun z => wr _ _ z (Or.inl ⟨rfl, rfl⟩)
  rw [c13, r221]
  rcases h with h | ⟨h1, ⟨T, h2⟩, s, h3⟩
  · exact Or.inl h
  · refine Or.inr ⟨h1, ⟨T, fun c a b t ht => ?_⟩, s, fun j a b => ?_⟩
    · obtain ⟨y1, y2⟩ := h2 c a b t ht
      exact ⟨(fc.i (by omega) fun z => wc _ _ z (Or.inr (Or.inl ⟨by omega, by omega⟩))).trans y1, (fr.i (fr.lw (by omega)) fun z => wr _ _ z (Or.inr (Or.inl ⟨by omega, by omega, by omega, by omega⟩))).trans y2⟩
    · obtain ⟨⟨y1, y2⟩, y3, y4⟩ := h3 j a b
      exact ⟨⟨(fc.i (by omega) fun z => wc _ _ z (Or.inr (Or.inr (Or.inl rfl)))).trans y1, (fc.i (by omega) fun z => wc _ _ z (Or.inr (Or.inr (Or.inr rfl)))).trans y2⟩, (fr.i (fr.lw (by decide)) fun z => wr _ _ z (Or.inr (Or.inr ⟨Or.inl rfl, by omega, by omega⟩))).trans y3, (fr.i (fr.lw (by decide)) fun z => wr _ _ z (Or.inr (Or.inr ⟨Or.inr rfl, by omega, by omega⟩))).trans y4⟩
theorem iKl.fg (h : iKl o p Mc Mr) (e : oP o' p = oP o p) (hp : 0 ≤ p) (hm : gmc (oP o p) ≤ 1000) (hl : gX (oP o p) + 17 < ln Mc) (fc : FG Zc Mc Mc') (fr : FG Zr Mr Mr') (wc : ∀ a j, Zc a j → ¬ ((a = gX (oP o p) ∧ 14 ≤ j ∧ j ≤ 17) ∨ a = gX (oP o p) + 16 ∨ a = gX (oP o p) + 17)) (wr : ∀ a j, Zr a j → ¬ (((a = 238 ∨ a = 241) ∧ j = p.toNat) ∨ (a = 239 ∧ 1000 * p ≤ j ∧ (j : Int) < 1000 * p + 1000))) : iKl o' p Mc' Mr' := by
  obtain ⟨wk, sw, km, ⟨⟨h1, h2, h3, h4, h5⟩, h6⟩, h7, h8⟩ := h
  unfold iKl klC klR
  rw [e]
  have c : ∀ a j, a < ln Mc → ((a = gX (oP o p) ∧ 14 ≤ j ∧ j ≤ 17) ∨ a = gX (oP o p) + 16 ∨ a = gX (oP o p) + 17) → Mc'.1 a j = Mc.1 a j ∧ Mc'.2.2.1 a j = Mc.2.2.1 a j := fun a j l y => ⟨fc.i l fun z => wc a j z y, fc.pt l fun z => wc a j z y⟩
  have r : ∀ a j, a < 259 → (((a = 238 ∨ a = 241) ∧ j = p.toNat) ∨ (a = 239 ∧ 1000 * p ≤ j ∧ (j : Int) < 1000 * p + 1000)) → Mr'.1 a j = Mr.1 a j := fun a j l y => fr.i (fr.lw l) fun z => wr a j z y
  refine ⟨wk, sw, km, ⟨⟨(c _ _ (by omega) (by omega)).1.trans h1, h2, h3, (c _ _ (by omega) (by omega)).2.trans h4, (c _ _ (by omega) (by omega)).2.trans h5⟩, fun z => ?_⟩, (r _ _ (by decide) (by omega)).trans h7, fun z => ?_⟩
  · obtain ⟨g1, g2⟩ := h6 z
    refine ⟨fun j a b => ⟨(c _ _ (by omega) (by omega)).1.trans (g1 j a b).1, (g1 j a b).2⟩, ?_⟩
    rw [(c (gX (oP o p)) 17 (by omega) (by omega)).1]
    exact g2
  · obtain ⟨g1, m, g2, g3⟩ := h8 z
    exact ⟨fun j a b => ⟨(r _ _ (by decide) (by omega)).trans (g1 j a b).1, (g1 j a b).2⟩, m, (r _ _ (by decide) (by omega)).trans g2, g3⟩
theorem bdK.fg {g0 g1 : PG} {b : Nat} {L lk : Int → Int} (h : bdK g0 g1 b L lk M) (f : FG Zc M M') (z : ∀ a j, b ≤ a → a ≤ b + 2 → ¬ Zc a j) : bdK g0 g1 b L lk M' := by
  obtain ⟨⟨h1, h2, h3⟩, ⟨h4, h5, h6, h7⟩, h8, h9⟩ := h
  have l1 := ln_lt h1
  have l2 := ln_lt h2
  have l3 := ln_lt h3
  have z0 := fun j => z b j (Nat.le_refl _) (by omega)
  exact ⟨⟨f.2.1 _ _ h1, f.2.1 _ _ h2, f.2.1 _ _ h3⟩, ⟨(f.pt l1 (z0 _)).trans h4, (f.pt l1 (z0 _)).trans h5, (f.pt l1 (z0 _)).trans h6, (f.pt l1 (z0 _)).trans h7⟩, fun u x1 x2 => (f.i l2 (z _ _ (by omega) (by omega))).trans (h8 u x1 x2), fun m x1 x2 => (f.i l3 (z _ _ (by omega) (by omega))).trans (h9 m x1 x2)⟩
theorem iBd.fg (h : iBd ow o Mc Mr) (hN : oN o ≤ oN o') (e : ∀ q, 0 ≤ q → q < oN o → oP o' q = oP o q) (ho : ∀ a, a < ln Mc → ow' a = ow a) (fc : FG Zc Mc Mc') (fr : FG Zr Mr Mr') (wc : ∀ a j, Zc a j → ¬ (a = 140 ∨ (259 ≤ a ∧ (ow a = 2 ∨ (20 ≤ ow a ∧ ow a < 28))))) (wr : ∀ a j, Zr a j → ¬ ((a = 160 ∧ j = 154) ∨ a = 257 ∨ a = 258)) : iBd ow' o' Mc' Mr' := by
  obtain ⟨nB, B, hn, ⟨h1, h2⟩, h3, h4⟩ := h
  have r : ∀ a j, a < 259 → ((a = 160 ∧ j = 154) ∨ a = 257 ∨ a = 258) → Mr'.1 a j = Mr.1 a j := fun a j l y => fr.i (fr.lw l) fun z => wr a j z y
  refine ⟨nB, B, hn, ⟨h1.fg fc ho (fun j z => wc _ _ z (Or.inl rfl)) fun a j l y z => wc _ _ z (Or.inr ⟨l, Or.inl y⟩), fun k a b => ?_⟩, (r _ _ (by decide) (by omega)).trans h3, fun k a b => ⟨(r _ _ (by decide) (by omega)).trans (h4 k a b).1, (r _ _ (by decide) (by omega)).trans (h4 k a b).2⟩⟩
  obtain ⟨⟨⟨⟨p1, p2⟩, q1, q2⟩, h259, h5⟩, h6, h7⟩ := h2 k a b
  have l3 := ln_lt h6.1.2.2
  rw [e _ p1 p2, e _ q1 q2]
  refine ⟨⟨⟨⟨p1, by omega⟩, q1, by omega⟩, h259, fun a x y => (ho a (by omega)).trans (h5 a x y)⟩, h6.fg fc fun a j x y z => wc _ _ z (Or.inr ⟨by omega, Or.inr ?_⟩), h7⟩
  have := h5 a x y
  omega
theorem hyC.fg {h : HY} {x : Nat} (H : hyC h x M) (f : FG Zc M M') (z : ∀ a j, x ≤ a → a ≤ x + 8 → ¬ Zc a j) : hyC h x M' ∧ ∀ a j, x ≤ a → a ≤ x + 8 → M'.1 a j = M.1 a j := by
  obtain ⟨⟨h1, h2, h3, h4⟩, ⟨h5, h6, h7⟩, h8, ⟨h9, h10⟩, h11⟩ := H
  have l8 := ln_lt h7
  have e : ∀ a j, x ≤ a → a ≤ x + 8 → M'.1 a j = M.1 a j := fun a j y w => f.i (by omega) (z a j y w)
  have ep : ∀ a j, x ≤ a → a ≤ x + 8 → M'.2.2.1 a j = M.2.2.1 a j := fun a j y w => f.pt (by omega) (z a j y w)
  refine ⟨⟨⟨f.2.1 _ _ h1, (ep _ _ (by omega) (by omega)).trans h2, (ep _ _ (by omega) (by omega)).trans h3, (ep _ _ (by omega) (by omega)).trans h4⟩, ⟨f.2.1 _ _ h5, f.2.1 _ _ h6, f.2.1 _ _ h7⟩, fun k y => ⟨(ep _ _ (by omega) (by omega)).trans (h8 k y).1, f.2.1 _ _ (h8 k y).2⟩, ⟨(e _ _ (by omega) (by omega)).trans h9, (e _ _ (by omega) (by omega)).trans h10⟩, fun k y w => ?_⟩, e⟩
  obtain ⟨t1, t2, t3, t4, t5⟩ := h11 k y w
  exact ⟨(e _ _ (by omega) (by omega)).trans t1, (e _ _ (by omega) (by omega)).trans t2, (e _ _ (by omega) (by omega)).trans t3, (e _ _ (by omega) (by omega)).trans t4, (e _ _ (by omega) (by omega)).trans t5⟩
theorem iHy.fg (h : iHy ow Mc Mr) (hR : RT Mr') (ho : ∀ a, a < ln Mc → ow' a = ow a) (fc : FG Zc Mc Mc') (fr : FG Zr Mr Mr') (wc : ∀ a j, Zc a j → ¬ (a = 141 ∨ (259 ≤ a ∧ (ow a = 3 ∨ 30 ≤ ow a)))) (wr : ∀ a j, Zr a j → ¬ ((a = 160 ∧ j = 138) ∨ (246 ≤ a ∧ a ≤ 252))) : iHy ow' Mc' Mr' := by
  obtain ⟨nH, B, ⟨h1, h2⟩, h3, h4⟩ := h
  have r : ∀ a j, a < 259 → ((a = 160 ∧ j = 138) ∨ (246 ≤ a ∧ a ≤ 252)) → Mr'.1 a j = Mr.1 a j := fun a j l y => fr.i (fr.lw l) fun z => wr a j z y
  refine ⟨nH, B, ⟨h1.fg fc ho (fun j z => wc _ _ z (Or.inl rfl)) fun a j l y z => wc _ _ z (Or.inr ⟨l, Or.inl y⟩), fun i a b => ?_⟩, (r _ _ (by decide) (by omega)).trans h3, fun i a b => ?_⟩
  · obtain ⟨g1, g2, ⟨g3, g4⟩, g5⟩ := h2 i a b
    have l8 := ln_lt g2.2.1.2.2
    obtain ⟨y1, y2⟩ := g2.fg fc fun a j x y z => wc _ _ z (Or.inr ⟨by omega, Or.inr (by have := g4 a x y; omega)⟩)
    refine ⟨g1, y1, ⟨g3, fun a x y => (ho a (by omega)).trans (g4 a x y)⟩, ?_⟩
    rw [y2 _ 5 (Nat.le_refl _) (by omega)]
    rcases g5 with g5 | ⟨g5, bb, g6, g7⟩
    · exact Or.inl g5
    · refine Or.inr ⟨g5, bb, (y2 _ 6 (Nat.le_refl _) (by omega)).trans g6, ?_⟩
      rcases g7 with ⟨w1, r', w2, w3⟩ | w
      · exact Or.inl ⟨w1, r', w2, fun j l => (y2 _ _ (by omega) (by omega)).trans (w3 j l)⟩
      · exact Or.inr w
  · obtain ⟨-, g2, ⟨g3, g4⟩, g5⟩ := h4 i a b
    refine ⟨hR, g2, ⟨(r _ _ (by decide) (by omega)).trans g3, (r _ _ (by decide) (by omega)).trans g4⟩, fun k a b => ?_⟩
    obtain ⟨t1, t2, t3, t4, t5⟩ := g5 k a b
    exact ⟨(r _ _ (by decide) (by omega)).trans t1, (r _ _ (by decide) (by omega)).trans t2, (r _ _ (by decide) (by omega)).trans t3, (r _ _ (by decide) (by omega)).trans t4, (r _ _ (by decide) (by omega)).trans t5⟩
end S9en
