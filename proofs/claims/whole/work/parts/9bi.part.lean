/-! both machines: a code, from the same state -/
/-- between codes -/
def zBt (e s : ZS) : Prop := (s.1 0 0 0 = 0 ∧ s.1 1 0 0 = 0) ∧ zIv e s ∧ (∀ k, s.1 8 k 0 = 0 ∨ s.1 8 k 0 = 1 ∨ s.1 8 k 0 = 2) ∧ 0 ≤ s.1 9 0 0
def znb (u : ZS) : ZS := zi (zi u 0 0 0 0) 1 0 0 0
/-- what is known of the environment -/
def zEv (e : ZS) : Prop := zET e ∧ zEl e ∧ zE8 e ∧ zZ e
/-- both, between codes -/
def zPr (LL : Nat) (xs : Nat → Int32) (e : ZS) (κ : ZK) (R : Int → RG) (L : Int → Int) (s : ZS) (Mc Mr : Mem) : Prop := zBt e s ∧ (CT Mc ∧ zCG e κ s Mc ∧ zCE e κ Mc ∧ OldOK LL xs Mc) ∧ zRG e s Mr ∧ zRE e R L Mr
section S9bi
variable {d dl : Nat} {e s s' t u : ZS} {κ : ZK} {M M' M1 M2 Mc Mr : Mem} {a b j N x y LL : Nat} {xs : Nat → Int32} {v v1 v2 v3 w : Int32} {c k i n m p o q id par en B D r : Int} {R : Int → RG} {L : Int → Int} {Y : Nat → Int → Int}
theorem zBt.kn (h : zBt e s) (he : zEn e en c) (hc : c ≤ par ∧ 0 ≤ par ∧ par ≤ 10) : zKn e (zbeg s en par) := by
  obtain ⟨⟨h0, h1⟩, hI, h8, h9⟩ := h
  obtain ⟨Y, b, hT, y0, y1, y2⟩ := he
  obtain ⟨v0, v1, v2, v3, v4, v5, v6, v7⟩ := zent_v (s := s) (c := en) (m := par) (st := -1) (sb := 0)
  obtain ⟨u, hu⟩ : ∃ u, u = zbeg s en par := ⟨_, rfl⟩
  have hu' : u = zent s en (-1) 0 par := hu
  rw [h0, ← hu'] at v0 v2 v3 v4 v5 v6 v7
  rw [← hu'] at v1
  rw [← hu]
  have m0 : u.1 1 0 0 = 0 := v1.trans h1
  have zf0 : zf u = 0 := by unfold zf; omega
  have pc : zpc u = en := by unfold zpc; rw [zf0]; exact v2
  have hh : zh u = 0 := by unfold zh; rw [zf0]; exact v3
  have uk : ∀ kk, kk = 8 ∨ kk = 9 ∨ kk = 10 ∨ kk = 11 ∨ kk = 12 ∨ kk = 14 ∨ kk = 15 ∨ kk = 17 → u.1 kk = s.1 kk := fun kk z => by rw [hu']; rcases z with z | z | z | z | z | z | z | z <;> subst z <;> rfl
  have ha := hT.1
  refine ⟨⟨⟨⟨by omega, by omega, v5, v6, by rw [uk 9 (by omega)]; exact h9, fun k => by rw [uk 8 (by omega)]; exact h8 k⟩, fun i p q => by omega, fun i j p q r => by omega⟩, Or.inl ⟨Or.inl m0, by omega, ⟨Y, en, b, ⟨hT, ?_, ?_, ?_, ?_, ?_⟩, ?_⟩, fun z => by omega⟩⟩, ?_, fun z => by omega⟩
  · rw [zf0, v2]; omega
  · rw [zf0, v2, v7]; omega
  · rw [zf0, v7]; omega
  · rw [zf0, v2, v4, y2]
  · rw [zf0, v4]; trivial
  · rw [hh, pc, y0]
  · obtain ⟨i1, i2, i3, i4, i5, i6⟩ := hI
    refine ⟨?_, ?_, ?_, fun D => ?_, fun p => ?_, ?_⟩
    · rw [uk 9 (by omega), uk 10 (by omega)]; exact i1
    · rw [uk 11 (by omega), uk 10 (by omega)]; exact i2
    · rw [uk 14 (by omega)]; exact i3
    · have := i4 D
      rw [if_neg (by omega)] at this
      rw [uk 17 (by omega), uk 10 (by omega), if_neg (by omega)]; exact this
    · rw [uk 15 (by omega)]; exact i5 p
    · rw [uk 12 (by omega), uk 9 (by omega)]; exact i6
theorem znb_k {kk : Nat} (h0 : kk ≠ 0) (h1 : kk ≠ 1) : (znb u).1 kk = u.1 kk := by funext x y; exact (zi_k h1).trans (zi_k h0)
theorem zKn.bt (h : zKn e u) : zBt e (znb u) := by
  obtain ⟨hw, ⟨i1, i2, i3, i4, i5, i6⟩, -⟩ := h
  refine ⟨⟨zi_e (s := u) (k := 0) (i := 0) (j := 0) (v := 0), zi_e⟩, ⟨?_, ?_, ?_, fun D => ?_, fun p => ?_, ?_⟩, fun k => ?_, ?_⟩
  · rw [znb_k (by decide) (by decide), znb_k (by decide) (by decide)]; exact i1
  · rw [znb_k (by decide) (by decide), znb_k (by decide) (by decide)]; exact i2
  · rw [znb_k (by decide) (by decide)]; exact i3
  · have := i4 D
    have em : (znb u).1 1 0 0 = 0 := zi_e
    rw [em, znb_k (kk := 17) (by decide) (by decide), znb_k (kk := 10) (by decide) (by decide), if_neg (by decide)]
    refine ⟨this.1, ?_⟩
    by_cases y : u.1 1 0 0 = 1 ∨ u.1 1 0 0 = 2
    · rw [if_pos y] at this; omega
    · rw [if_neg y] at this; exact this.2
  · rw [znb_k (by decide) (by decide)]; exact i5 p
  · rw [znb_k (by decide) (by decide), znb_k (by decide) (by decide)]; exact i6
  · rw [znb_k (by decide) (by decide)]; exact hw.1.1.2.2.2.2.2 k
  · rw [znb_k (by decide) (by decide)]; exact hw.1.1.2.2.2.2.1
theorem zCG.nb (h : zCG e κ u M) (hk : zK8 κ) (hm : u.1 1 0 0 ≠ 6) : zCG e κ (znb u) M := h.ff zFf.r ⟨fun k p => znb_k (by omega) (by omega), fun _ _ _ _ => rfl, by
  have em : (znb u).1 1 0 0 = 0 := zi_e
  rw [em]
  exact ⟨fun z => by omega, fun z => absurd z hm⟩⟩ hk
theorem zRG.nb (h : zRG e u M) : zRG e (znb u) M := h.ff zRw.r ⟨fun k p => znb_k (by omega) (by omega), fun _ _ _ _ => rfl⟩
/-- a code is done -/
def zEx (e s : ZS) (en par : Int) (u : ZS) : Prop := zto e (zbeg s en par) u ∧ zend u
/-- what comes of a code, for both: it answers, or fails; or there is no WORK -/
def zCo (LL : Nat) (xs : Nat → Int32) (e : ZS) (κ : ZK) (R : Int → RG) (L : Int → Int) (s : ZS) (en par : Int) (Mc Mr Mc' Mr' : Mem) (rc rr : Int) : Prop :=
  (∃ u, zEx e s en par u ∧ u.1 1 0 0 ≠ 6 ∧ zPr LL xs e κ R L (znb u) Mc' Mr' ∧ zFo κ Mc Mc' ∧ zRo e Mr Mr' ∧ ((u.1 1 0 0 = 2 ∧ rc = 1 ∧ rr = 0 ∧ Mc'.1 88 19 = iI 0 ∧ Mr'.1 160 85 = iI 0) ∨ (u.1 1 0 0 ≠ 2 ∧ rc = 0 ∧ rr = 1 ∧ (Mc'.1 88 20 = u.2 5 0 0 ∧ Mr'.1 160 88 = u.2 5 0 0) ∧ (Mc'.1 88 21 = iI (u.1 13 0 0) ∧ Mr'.1 160 89 = iI (u.1 13 0 0)) ∧ ((u.1 1 0 0 = 5 ∧ Mc'.1 88 19 = iI 3 ∧ Mr'.1 160 85 = iI 1) ∨ (u.1 1 0 0 ≠ 5 ∧ (Mc'.1 88 19 = iI 1 ∨ Mc'.1 88 19 = iI 2) ∧ Mr'.1 160 85 = iI 0))))) ∨
  (rc = 0 ∧ rr = 1 ∧ (∃ u, zFx e s u ∧ zIv e u ∧ u.1 12 0 0 = 0 ∧ zRH e u Mr' ∧ zCX e κ u Mc') ∧ CT Mc' ∧ OldOK LL xs Mc' ∧ zCE e κ Mc' ∧ Mc'.1 88 19 = iI 3 ∧ Mc'.1 88 10 = iI (-1) ∧ RT Mr' ∧ Mr'.1 160 85 = iI 1 ∧ Mr'.1 160 84 = iI 1 ∧ zFo κ Mc Mc' ∧ Mr'.2 = Mr.2 ∧ (∀ a j, inW W_r a j = false → ¬ (a = 160 ∧ j = 84) → Mr'.1 a j = Mr.1 a j) ∧ ∀ a j : Nat, a = 216 ∨ a = 217 ∨ a = 218 → ((j : Int) < 1000 * e.1 29 0 0 ∨ 1000 * e.1 29 0 0 + 1000 ≤ j ∨ e.1 10 0 0 ≠ 1) → Mr'.1 a j = Mr.1 a j)
theorem code_pair (hdl : 10 ≤ dl) (hd : 61 ≤ d) (hV : zEv e) (h : zPr LL xs e κ R L s Mc Mr) (he : zEn e en c) (hc : c ≤ par ∧ 0 ≤ par ∧ par ≤ 10) (hen : en < 1000) (h73 : Mr.1 160 73 = iI par) (h85 : Mr.1 160 85 = iI 0) (hA : ∀ k, 0 ≤ k → k < par → Mc.1 92 k.toNat = s.2 0 0 k ∧ Mr.1 213 k.toNat = s.2 0 0 k) (hv : v = iI en) (hv1 : v1 = iI en) (hv2 : v2 = iI par) : ∃ Mc' Mr' rc rr, runX dl 28 [va_rf (some 88), .int v] Mc = some (.int (iI rc), Mc') ∧ runX d 252 [va_rf (some 160), .int v1, .int v2] Mr = some (.int (iI rr), Mr') ∧ zCo LL xs e κ R L s en par Mc Mr Mc' Mr' rc rr := by
  obtain ⟨hB, ⟨hC, hG, hE, hO⟩, hRG, hRE⟩ := h
  obtain ⟨hT, hl, h8, hZ⟩ := hV
  have hK := hB.kn he hc
  have hk := hE.2.2.2.2.1.k8
  obtain ⟨Mc', rc, u, x1, x2, x3, x4, x5, x6, x7, x8⟩ := zc28 (d := dl) hdl hT h8 hl hC hG hE hO hB.1.1 hB.1.2 hK (fun k p q => (hA k p q).1) hv hen
  obtain ⟨Mr', rr, u', y1, y2, y3, y4, y5, y6⟩ := rr252 (d := d) hd hT hl h8 hZ hRE hRG hB.1.1 hB.1.2 hK h73 h85 (fun k p q => (hA k p q).2) hv1 hv2
  have eu : u = u' := zto.one x3 y3 x4 y4
  subst eu
  have Ku := zto_kn hT hl hK x3
  obtain ⟨c1, c2, c3, c4⟩ := x5
  have next : u.1 1 0 0 ≠ 6 → zPr LL xs e κ R L (znb u) Mc' Mr' ∧ zFo κ Mc Mc' ∧ zRo e Mr Mr' := fun z => ⟨⟨Ku.bt, ⟨c1, c2.nb hk z, x6, x7⟩, y5.nb, hRE.ro (y2.o z)⟩, x2, y2.o z⟩
  have r1 : ∀ z : Int, rc = iI z → runX dl 28 [va_rf (some 88), .int v] Mc = some (.int (iI z), Mc') := fun z hz => by rw [x1, hz]
  by_cases m2 : u.1 1 0 0 = 2
  · have rc1 : rc = iI 1 := by rcases x8 with ⟨z, -⟩ | ⟨-, z⟩; exact z.trans li_1; exact absurd m2 z
    obtain ⟨n1, n2, n3⟩ := next (by omega)
    have e19 : Mc'.1 88 19 = iI 0 := by rcases c4 with z | z | z | z | z; exact z.2; all_goals omega
    have e85 : rr = 0 ∧ Mr'.1 160 85 = iI 0 := by rcases y6 with z | z | z | z; exact z.2; all_goals omega
    exact ⟨Mc', Mr', 1, rr, r1 1 rc1, y1, Or.inl ⟨u, ⟨x3, x4⟩, by omega, n1, n2, n3, Or.inl ⟨m2, rfl, e85.1, e19, e85.2⟩⟩⟩
  · have rc0 : rc = iI 0 := by rcases x8 with ⟨-, z⟩ | ⟨z, -⟩; exact absurd z m2; exact z.trans li_0
    rcases c4 with ⟨z, -⟩ | ⟨z, z1, z2, z3⟩ | ⟨z, z1, z2, z3⟩ | ⟨z, z1, z2, z3⟩ | ⟨z, z1⟩
    · exact absurd z m2
    · obtain ⟨n1, n2, n3⟩ := next (by omega)
      rcases y6 with w | ⟨w1, w2, w3, w4, w5⟩ | w | w
      · omega
      · exact ⟨Mc', Mr', 0, rr, r1 0 rc0, y1, Or.inl ⟨u, ⟨x3, x4⟩, by omega, n1, n2, n3, Or.inr ⟨m2, rfl, w2, ⟨z2, w4⟩, ⟨z3, w5⟩, Or.inr ⟨by omega, Or.inl z1, w3⟩⟩⟩⟩
      · omega
      · omega
    · obtain ⟨n1, n2, n3⟩ := next (by omega)
      rcases y6 with w | ⟨w1, w2, w3, w4, w5⟩ | w | w
      · omega
      · exact ⟨Mc', Mr', 0, rr, r1 0 rc0, y1, Or.inl ⟨u, ⟨x3, x4⟩, by omega, n1, n2, n3, Or.inr ⟨m2, rfl, w2, ⟨z2, w4⟩, ⟨z3, w5⟩, Or.inr ⟨by omega, Or.inr z1, w3⟩⟩⟩⟩
      · omega
      · omega
    · obtain ⟨n1, n2, n3⟩ := next (by omega)
      rcases y6 with w | w | ⟨w1, w2, w3, w4, w5⟩ | w
      · omega
      · omega
      · exact ⟨Mc', Mr', 0, rr, r1 0 rc0, y1, Or.inl ⟨u, ⟨x3, x4⟩, by omega, n1, n2, n3, Or.inr ⟨m2, rfl, w2, ⟨z2, w4⟩, ⟨z3, w5⟩, Or.inl ⟨z, z1, w3⟩⟩⟩⟩
      · omega
    · rcases y6 with w | w | w | ⟨w1, w2, w3, w4⟩
      · omega
      · omega
      · omega
      · have e10 : Mc'.1 88 10 = iI (-1) := by
          have := c2.2.2.2.1.2.2.2
          rw [this]; unfold zcw; rw [if_pos z]
        exact ⟨Mc', Mr', 0, rr, r1 0 rc0, y1, Or.inr ⟨rfl, w2, ⟨u, zFx.tr (t := zbeg s en par) (zFx.eq rfl rfl rfl rfl ⟨rfl, rfl⟩) x3.fx, Ku.2.1, x3.m6 (by rw [show (zbeg s en par).1 1 0 0 = s.1 1 0 0 from rfl, hB.1.2]; decide) z, y5.rh, c2.cx⟩, c1, x7, x6, z1, e10, y5.1, w3, w4, x2, y2.1, fun a j p q => y2.2.1 a j p fun g => q ⟨g.1, g.2.1⟩, y2.2.2⟩⟩
end S9bi
