/-! runs: what is known between calls stays -/
def pR (p : Int) (a j : Nat) : Prop := (a = 183 ∧ 16 * p ≤ j ∧ (j : Int) < 16 * p + 16) ∨ ((a = 221 ∨ a = 238 ∨ a = 241) ∧ j = p.toNat) ∨ (222 ≤ a ∧ a ≤ 225 ∧ 16 * p ≤ j ∧ (j : Int) < 16 * p + 16) ∨ ((a = 216 ∨ a = 217 ∨ a = 239) ∧ 1000 * p ≤ j ∧ (j : Int) < 1000 * p + 1000)
section S9eq
variable {K L0 T0 qc qr : Nat} {LL : Nat} {xs : Nat → Int32} {as : List Value} {v1 v2 v3 v4 : Int32} {o : HO} {ow : Nat → Int} {sl p : Int} {k : Nat} {Mc Mr Mc' Mr' : Mem} {Zc Zr : Nat → Nat → Prop}
theorem IVx.pkq (h : IVx LL xs L0 T0 o ow sl k Mc Mr) (hp : 0 ≤ p ∧ p < oN o) (fc : FG Zc Mc Mc') (fr : FG Zr Mr Mr') (wc : ∀ a j, Zc a j → ¬ (259 ≤ a ∧ ow a = 10 + p)) (wr : ∀ a j, Zr a j → ¬ pR p a j) : iOr o p Mc' Mr' ∧ rsB o p Mc' Mr' ∧ iKl o p Mc' Mr' := by
  obtain ⟨g1, g2, g3⟩ := h.2.2.2.2.2.2.1 p hp.1 hp.2
  obtain ⟨b1, b2, b3⟩ := h.1.1.bd hp
  have l17 := h.1.2.1.l17 hp
  have g0 := (h.1.1.2.2.1 p hp.1 hp.2).2.2
  have w : ∀ a j, gX (oP o p) ≤ a → a < gX (oP o p) + 18 → ¬ Zc a j := fun a j x y z => wc a j z ⟨by omega, h.1.2.1.2.1.2 p hp.1 hp.2 a (by omega) y⟩
  exact ⟨g1.fg rfl hp.1 b1 l17 fc fr (fun j => w _ j (by omega) (by omega)) (fun j x y z => wr _ _ z (Or.inl ⟨rfl, x, y⟩)), g2.fg rfl hp.1 b1 b2 l17 fc fr (fun a j z y => w a j (by omega) (by omega) z) (fun a j z y => wr a j z (by unfold pR; omega)), g3.fg rfl hp.1 b3 l17 fc fr (fun a j z y => w a j (by omega) (by omega) z) (fun a j z y => wr a j z (by unfold pR; omega))⟩
theorem fz_rm (h : Mr'.2 = Mr.2) : Mr'.2.2.2 = Mr.2.2.2 := by rw [h]
theorem op_15 : OpK LL xs L0 T0 K 143 261 [.int v1, .int v2] := OpK.of fun k Mc Mr o ow sl hk h => by
  obtain ⟨p, p1, p2, e1⟩ := iI_ex v1
  obtain ⟨q, q1, q2, e2⟩ := iI_ex v2
  obtain ⟨hs, u1, u2, u3⟩ := h.2.2.2.2.2.1
  obtain ⟨Mc', Mr', r, x1, x2, x3⟩ := alone_pair (dl := 2040) (d := 2040) (by omega) (by omega) h.1.1 h.1.2.1 h.1.2.2 h.2.1 h.2.2.1 u1 u2 e1 e2 (by omega) (by omega)
  refine ⟨r, Mc', Mr', x1, x2, x3.imp id ?_⟩
  rintro ⟨s', f1, f2, f3, f4, f5, f6, f7⟩
  have fr := f3.fg h.1.2.2.1.1.2
  have wc : ∀ a j, Zlw o a j → ¬ bsC ow a j := fun a j z y => by unfold Zlw ZM at z; unfold bsC rTc at y; omega
  have wr : ∀ a j, Zlr a j → ¬ bsR a j := fun a j z y => by unfold Zlr ZR at z; unfold bsR rTr at y; omega
  obtain ⟨t1, t2, t3, t4⟩ := h.2.2.2.2.2.2.2.1
  refine ⟨f1.m fun a j z => by unfold Zlw ZM at z; unfold Zcl; omega, fr.m fun a j z => by unfold Zlr ZR at z; unfold Zrf; omega, fz_rm f3.1, o, ow, sl, h.lift (by omega) (h.1.2.1.of f4.1 f1 wc) (h.1.2.2.of f4.2 fr wr f7) f1 fr wc wr ⟨s', f6⟩ (fun p a b => h.pkq ⟨a, b⟩ f1 fr (fun a j z y => by unfold Zlw ZM at z; omega) fun a j z y => by unfold Zlr ZR at z; unfold pR at y; omega) f5 (t2.fg f1 fr (fun a j z y => by unfold Zlw ZM at z; omega) fun a j z y => by unfold Zlr ZR at z; omega) (t3.fg f1 fr (fun a j z y => by unfold Zlw ZM at z; omega) fun a j z y => by unfold Zlr ZR at z; omega) (t4.fg f1 fr (fun a j z y => by unfold Zlw ZM at z; omega) fun a j z y => by unfold Zlr ZR at z; omega) f2.1⟩
theorem op_38 : OpK LL xs L0 T0 K 166 309 [.int v1, .int v2] := OpK.of fun k Mc Mr o ow sl hk h => by
  obtain ⟨p, p1, p2, e1⟩ := iI_ex v1
  obtain ⟨q, q1, q2, e2⟩ := iI_ex v2
  obtain ⟨hs, u1, u2, u3⟩ := h.2.2.2.2.2.1
  obtain ⟨nB, B, hn, hb, hr⟩ := h.2.2.2.2.2.2.2.2.1
  by_cases y : ¬ ((0 ≤ p ∧ p < nB) ∧ 0 ≤ q ∧ q < (gR (oP o (B p).1.1)).1 3 0 0)
  · obtain ⟨x1, x2⟩ := touch_no (dl := 2040) (d := 2040) (by omega) (by omega) h.1.1 h.1.2.1 h.1.2.2 hb hr e1 e2 (by omega) (by omega) y
    exact ⟨_, _, _, x1, x2, Or.inl ⟨rfl, rfl⟩⟩
  have y := Classical.not_not.1 y
  obtain ⟨Mc', Mr', r, x1, x2, x3⟩ := touch_ok (dl := 2040) (d := 2040) (by omega) (by omega) h.1.1 h.1.2.1 h.1.2.2 h.2.1 h.2.2.1 u1 u2 hb hr y.1 y.2 e1 e2
  refine ⟨r, Mc', Mr', x1, x2, x3.imp id ?_⟩
  rintro ⟨s', f1, f2, f3, f4, f5, f6, f7⟩
  have fr := f3.fg h.1.2.2.1.1.2
  have wc : ∀ a j, Zlw o a j → ¬ bsC ow a j := fun a j z y => by unfold Zlw ZM at z; unfold bsC rTc at y; omega
  have wr : ∀ a j, Zlr a j → ¬ bsR a j := fun a j z y => by unfold Zlr ZR at z; unfold bsR rTr at y; omega
  obtain ⟨t1, t2, t3, t4⟩ := h.2.2.2.2.2.2.2.1
  refine ⟨f1.m fun a j z => by unfold Zlw ZM at z; unfold Zcl; omega, fr.m fun a j z => by unfold Zlr ZR at z; unfold Zrf; omega, fz_rm f3.1, o, ow, sl, h.lift (by omega) (h.1.2.1.of f4.1 f1 wc) (h.1.2.2.of f4.2 fr wr f7) f1 fr wc wr ⟨s', f6⟩ (fun p a b => h.pkq ⟨a, b⟩ f1 fr (fun a j z y => by unfold Zlw ZM at z; omega) fun a j z y => by unfold Zlr ZR at z; unfold pR at y; omega) f5 (t2.fg f1 fr (fun a j z y => by unfold Zlw ZM at z; omega) fun a j z y => by unfold Zlr ZR at z; omega) (t3.fg f1 fr (fun a j z y => by unfold Zlw ZM at z; omega) fun a j z y => by unfold Zlr ZR at z; omega) (t4.fg f1 fr (fun a j z y => by unfold Zlw ZM at z; omega) fun a j z y => by unfold Zlr ZR at z; omega) f2.1⟩
theorem op_32 : OpK LL xs L0 T0 K 160 301 [.int v1, .int v2] := OpK.of fun k Mc Mr o ow sl hk h => by
  obtain ⟨p, p1, p2, e1⟩ := iI_ex v1
  obtain ⟨q, q1, q2, e2⟩ := iI_ex v2
  obtain ⟨hs, u1, u2, u3⟩ := h.2.2.2.2.2.1
  obtain ⟨t1, t2, t3, t4⟩ := h.2.2.2.2.2.2.2.1
  obtain ⟨Mc', Mr', r, x1, x2, x3⟩ := luck_pair (dl := 2040) (d := 2040) (by omega) (by omega) h.1.1 h.1.2.1 h.1.2.2 h.2.1 h.2.2.1 u1 u2 u3 t3 e1 e2 (by omega) (by omega)
  refine ⟨r, Mc', Mr', x1, x2, x3.imp id ?_⟩
  rintro ⟨f1, f2, fr, f3, f4, f5, f6, f7⟩
  have wc : ∀ a j, Zlu o a j → ¬ bsC ow a j := fun a j z y => by unfold Zlu Zlz Zlc ZM at z; unfold bsC rTc at y; omega
  have wr : ∀ a j, Zlv a j → ¬ bsR a j := fun a j z y => by unfold Zlv ZR at z; unfold bsR rTr at y; omega
  refine ⟨f1.m fun a j z => by unfold Zlu Zlz Zlc ZM at z; unfold Zcl; omega, fr.m fun a j z => by unfold Zlv ZR at z; unfold Zrf; omega, by rw [f3], o, ow, sl, h.lift (by omega) (h.1.2.1.of f4.1 f1 wc) (h.1.2.2.of f4.2 fr wr f7) f1 fr wc wr f6 (fun p a b => h.pkq ⟨a, b⟩ f1 fr (fun a j z y => by unfold Zlu Zlz Zlc ZM at z; omega) fun a j z y => by unfold Zlv ZR at z; unfold pR at y; omega) (t1.fg f1 fr (fun a j z y => by unfold Zlu Zlz Zlc ZM at z; omega) fun a j z y => by unfold Zlv ZR at z; omega) (t2.fg f1 fr (fun a j z y => by unfold Zlu Zlz Zlc ZM at z; omega) fun a j z y => by unfold Zlv ZR at z; omega) f5 (t4.fg f1 fr (fun a j z y => by unfold Zlu Zlz Zlc ZM at z; omega) fun a j z y => by unfold Zlv ZR at z; omega) f2.1⟩
theorem op_25 : OpK LL xs L0 T0 K 153 289 [.int v1, .int v2, .int v3] := OpK.of fun k Mc Mr o ow sl hk h => by
  obtain ⟨p, p1, p2, e1⟩ := iI_ex v1
  obtain ⟨q, q1, q2, e2⟩ := iI_ex v2
  obtain ⟨tm, tm1, tm2, e3⟩ := iI_ex v3
  obtain ⟨hs, u1, u2, u3⟩ := h.2.2.2.2.2.1
  obtain ⟨t1, t2, t3, t4⟩ := h.2.2.2.2.2.2.2.1
  by_cases y : ¬ ((0 ≤ p ∧ p < oN o) ∧ (0 ≤ q ∧ q < (gR (oP o p)).1 4 0 0) ∧ 1 ≤ tm ∧ tm ≤ 200)
  · obtain ⟨x1, x2⟩ := prop_no (dl := 2040) (d := 2040) (by omega) (by omega) h.1.1 h.1.2.1 h.1.2.2 e1 e2 e3 (by omega) (by omega) (by omega) y
    exact ⟨_, _, _, x1, x2, Or.inl ⟨rfl, rfl⟩⟩
  have y := Classical.not_not.1 y
  obtain ⟨Mc', Mr', r, x1, x2, f1, f3, ⟨f2, f4, f6, f7⟩, f5⟩ := prop_ok (dl := 2040) (d := 2040) (by omega) (by omega) h.1.1 y.1 y.2.1 y.2.2 h.1.2.1 h.1.2.2 h.2.1 h.2.2.1 u1 u2 u3 t2 e1 e2 e3
  refine ⟨r, Mc', Mr', x1, x2, Or.inr ?_⟩
  have fr := f3.fg h.1.2.2.1.1.2
  have wc : ∀ a j, Zpc o a j → ¬ bsC ow a j := fun a j z y => by unfold Zpc ZM at z; unfold bsC rTc at y; omega
  have wr : ∀ a j, Zpq a j → ¬ bsR a j := fun a j z y => by unfold Zpq ZR at z; unfold bsR rTr at y; omega
  refine ⟨f1.m fun a j z => by unfold Zpc ZM at z; unfold Zcl; omega, fr.m fun a j z => by unfold Zpq ZR at z; unfold Zrf; omega, fz_rm f3.1, o, ow, sl, h.lift (by omega) (h.1.2.1.of f4.1 f1 wc) (h.1.2.2.of f4.2 fr wr f7) f1 fr wc wr f6 (fun p a b => h.pkq ⟨a, b⟩ f1 fr (fun a j z y => by unfold Zpc ZM at z; omega) fun a j z y => by unfold Zpq ZR at z; unfold pR at y; omega) (t1.fg f1 fr (fun a j z y => by unfold Zpc ZM at z; omega) fun a j z y => by unfold Zpq ZR at z; omega) f5 (t3.fg f1 fr (fun a j z y => by unfold Zpc ZM at z; omega) fun a j z y => by unfold Zpq ZR at z; omega) (t4.fg f1 fr (fun a j z y => by unfold Zpc ZM at z; omega) fun a j z y => by unfold Zpq ZR at z; omega) f2.1⟩
theorem op_34 : OpK LL xs L0 T0 K 162 304 [.int v1, .int v2] := OpK.of fun k Mc Mr o ow sl hk h => by
  obtain ⟨p, p1, p2, e1⟩ := iI_ex v1
  obtain ⟨q, q1, q2, e2⟩ := iI_ex v2
  obtain ⟨hs, u1, u2, u3⟩ := h.2.2.2.2.2.1
  obtain ⟨t1, t2, t3, t4⟩ := h.2.2.2.2.2.2.2.1
  by_cases y : ¬ ((0 ≤ p ∧ p < oN o) ∧ 0 ≤ q ∧ q < (gR (oP o p)).1 3 0 0)
  · obtain ⟨x1, x2⟩ := blame_no (dl := 2040) (d := 2040) (by omega) (by omega) h.1.1 h.1.2.1 h.1.2.2 e1 e2 (by omega) (by omega) y
    exact ⟨_, _, _, x1, x2, Or.inl ⟨rfl, rfl⟩⟩
  have y := Classical.not_not.1 y
  obtain ⟨Od, y1, y2, y3⟩ := (h.2.2.2.2.2.2.1 p y.1.1 y.1.2).1
  obtain ⟨Mc', Mr', r, x1, x2, f1, f3, ⟨f2, f4, f6, f7⟩, f5⟩ := blame_ok (dl := 2040) (d := 2040) (by omega) (by omega) h.1.1 y.1 rfl y.2 h.1.2.1 h.1.2.2 h.2.1 h.2.2.1 u1 u2 u3 y1 y3 t4 e1 e2
  refine ⟨r, Mc', Mr', x1, x2, Or.inr ?_⟩
  have fr := f3.fg h.1.2.2.1.1.2
  have wc : ∀ a j, Zblc o a j → ¬ bsC ow a j := fun a j z y => by unfold Zblc Zbc Zkc ZM at z; unfold bsC rTc at y; omega
  have wr : ∀ a j, Zblr a j → ¬ bsR a j := fun a j z y => by unfold Zblr Zbr ZR at z; unfold bsR rTr at y; omega
  refine ⟨f1.m fun a j z => by unfold Zblc Zbc Zkc ZM at z; unfold Zcl; omega, fr.m fun a j z => by unfold Zblr Zbr ZR at z; unfold Zrf; omega, fz_rm f3.1, o, ow, sl, h.lift (by omega) (h.1.2.1.of f4.1 f1 wc) (h.1.2.2.of f4.2 fr wr f7) f1 fr wc wr f6 (fun p a b => h.pkq ⟨a, b⟩ f1 fr (fun a j z y => by unfold Zblc Zbc Zkc ZM at z; omega) fun a j z y => by unfold Zblr Zbr ZR at z; unfold pR at y; omega) (t1.fg f1 fr (fun a j z y => by unfold Zblc Zbc Zkc ZM at z; omega) fun a j z y => by unfold Zblr Zbr ZR at z; omega) (t2.fg f1 fr (fun a j z y => by unfold Zblc Zbc Zkc ZM at z; omega) fun a j z y => by unfold Zblr Zbr ZR at z; omega) (t3.fg f1 fr (fun a j z y => by unfold Zblc Zbc Zkc ZM at z; omega) fun a j z y => by unfold Zblr Zbr ZR at z; omega) f5 f2.1⟩
end S9eq
