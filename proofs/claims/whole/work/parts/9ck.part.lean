/-! alone(), both -/
/-- the house, as most calls find it -/
def HC (LL : Nat) (xs : Nat → Int32) (o : HO) (ow : Nat → Int) (sl : Int) (M : Mem) : Prop := hoC LL xs o M ∧ plC ow o M ∧ M.1 88 1 = iI sl
def HR (o : HO) (sl : Int) (M : Mem) : Prop := hoR o M ∧ M.1 160 2 = iI (oN o) ∧ M.1 160 77 = iI sl ∧ M.1 160 90 = iI (-1) ∧ M.1 160 91 = iI 0 ∧ M.1 160 92 = iI 0 ∧ M.1 160 97 = iI 0
def Zal (o : HO) (a j : Nat) : Prop := Zlw o a j
section S9ck
variable {d dl : Nat} {o : HO} {v : VR} {q : QN} {s s' u hs : ZS} {M M' M2 Mc Mr Mc' Mr' : Mem} {LL a j x N : Nat} {xs : Nat → Int32} {ow : Nat → Int} {c p i n nc k t b sl : Int} {w v1 v2 : Int32} {Z Z' : Nat → Nat → Prop}
theorem ret_i {e : XA} {a b : Int32} {X Y : Mem} (h : e = some (.int a, X)) (g : e = some (.int b, Y)) : a = b ∧ X = Y := by
  rw [h] at g
  cases g
  exact ⟨rfl, rfl⟩
/-- a parcel is prepared for a run without a BUILD: both -/
theorem pr_pair (hdl : 2 ≤ dl) (hd : 3 ≤ d) (hP : hoP o) (hp : 0 ≤ p ∧ p < oN o) (hC : HC LL xs o ow sl Mc) (hR : HR o sl Mr) (hq : qOK o (v1p p) q) (q1 : q.1 = sl) (q2 : q.2.1 = -1) (q5 : q.2.2.2.2 = 0) (q3 : q.2.2.1 = 0) {pv : Int32} (hv : w = iI p) : ∃ Mc' Mr', runX dl 19 [va_rf (some 88), va_rf (some (gX (oP o p))), .int pv] Mc = some (.null, Mc') ∧ runX d 235 [va_rf (some 160), .int w, .int ((-1 : Int32))] Mr = some (.null, Mr') ∧ FG Zpr Mc Mc' ∧ (Mc'.2.2.2 = Mc.2.2.2 ∧ Mc'.2.1 = Mc.2.1) ∧ Fz Zma Mr Mr' ∧ (hoC LL xs o Mc' ∧ hoR o Mr') ∧ Mc'.1 88 10 = pv ∧ (rvW o (v1p p) q (sI Mc' 88 6 (iI (if q.2.2.2.1 = 1 then 1 else 0))) ∧ rvX o (v1p p) q (sI Mr' 160 92 (iI q.2.2.2.1))) ∧ Mc'.1 88 6 = iI 0 ∧ ∀ id, zId (rE o (v1p p) (pf q 0 0)) id → (rE o (v1p p) (pf q 0 0)).1 4 id 0 = 2 → Mr'.1 211 id.toNat = (rE o (v1p p) (pf q 0 0)).2 0 id 0 := by
  obtain ⟨hC1, hC2, hC3⟩ := hC
  obtain ⟨hR1, hR2, hR3, hR4, hR5, hR6, hR7⟩ := hR
  have hu : rPu o (v1p p) q := rPu.one hP hp hq
  obtain ⟨Ma, a1, a2, a3, a4, a5, a6, a7, a8⟩ := zc19 (d := dl) (M := Mc) (x := gX (oP o p)) (v := pv) (by omega) hC1.1.2.2 hC1.1.1 (hC1.ob p hp.1 hp.2)
  obtain ⟨R2, y1, y2, y3, y4, y5, y6, y7⟩ := bg_R (d := d) (M := Mr) (P := pf q 0 0) (v1 := w) (v2 := (-1 : Int32)) (by omega) hP hu.2.1 hu.2.2.2.1 hR1 hv (by rw [if_neg v1F]; rfl)
  refine ⟨Ma, R2, a1, y1, a2, a4, ⟨y2, y3⟩, ⟨hC1.fg hP a2 fun a j z => ZM_ho (k := 0) hP hp (Zpr_M z), y4⟩, a6, ⟨⟨⟨a5.1, fun z => absurd z v1F, fun _ => a5.2.1⟩, ⟨?_, ?_, ?_, ?_⟩, ?_, fun z => absurd z v1F⟩, ⟨⟨(sI_nej (by decide)).trans y5.1, (sI_nej (by decide)).trans y5.2⟩, ⟨?_, ?_, sI_eq, ?_⟩, fun u a b => ⟨(sI_ne (by decide)).trans (y6 u a b).1, (y6 u a b).2⟩⟩⟩, a8, y7⟩
  · rw [q1]; exact (sI_nej (by decide)).trans ((nm hC1 a2 (by decide) (by unfold Zpr; omega)).trans hC3)
  · rw [q2, if_pos (show (-1 : Int) < 0 by decide)]; exact (sI_nej (by decide)).trans a7
  · rw [q3]; exact sI_eq
  · rw [q5, if_neg (show ¬ (0 : Int) = 1 by decide)]; exact a5.2.2.2
  · rw [if_neg v1F]; exact a5.2.2.1
  · rw [q2]; exact (sI_nej (by decide)).trans ((y3 _ _ (by unfold Zma; omega)).trans hR4)
  · rw [q3]; exact (sI_nej (by decide)).trans ((y3 _ _ (by unfold Zma; omega)).trans hR5)
  · rw [q5]; exact (sI_nej (by decide)).trans ((y3 _ _ (by unfold Zma; omega)).trans hR7)
theorem alone_pair (hdl : 25 ≤ dl) (hd : 75 ≤ d) (hP : hoP o) (hC : HC LL xs o ow sl Mc) (hR : HR o sl Mr) (hsl : 1 ≤ sl ∧ sl ≤ 1000) (h78 : Mc.1 88 2 = Mr.1 160 78) (hdc : hdC hs Mc) (hdr : hdR hs Mr) (hv1 : v1 = iI p) (hv2 : v2 = iI c) (bp : -2147483648 ≤ p ∧ p ≤ 2147483647) (bc : -2147483648 ≤ c ∧ c ≤ 2147483647) : ∃ Mc' Mr' r, runX dl 143 [va_rf (some 64), .int v1, .int v2] Mc = some (.int r, Mc') ∧ runX d 261 [va_rf (some 160), .int v1, .int v2] Mr = some (.int r, Mr') ∧ ((Mc' = Mc ∧ Mr' = Mr) ∨ ∃ s', FG (Zlw o) Mc Mc' ∧ (Mc'.2.2.2 = Mc.2.2.2 ∧ Mc'.2.1 = Mc.2.1) ∧ Fz Zlr Mr Mr' ∧ (hoC LL xs o Mc' ∧ hoR o Mr') ∧ tdB Mc' Mr' ∧ (hdC s' Mc' ∧ hdR s' Mr' ∧ ∀ D, 0 ≤ s'.1 17 D 0 ∧ s'.1 17 D 0 ≤ 34000) ∧ Mr'.1 160 90 = iI (-1) ∧ Mr'.1 160 91 = iI 0 ∧ Mr'.1 160 92 = iI 0 ∧ Mr'.1 160 97 = iI 0) := by
  obtain ⟨dl, rfl⟩ : ∃ e, dl = e + 1 := ⟨dl - 1, by omega⟩
  obtain ⟨d, rfl⟩ : ∃ e, d = e + 1 := ⟨d - 1, by omega⟩
  have hC' := hC
  obtain ⟨hC1, hC2, hC3⟩ := hC'
  have hR' := hR
  obtain ⟨hR1, hR2, hR3, hR4, hR5, hR6, hR7⟩ := hR'
  have p8 := hP.1
  subst hv1; subst hv2
  have e167 := zc167 (d := dl) (M := Mc) (v := iI p) (p := p) (by omega) hC1.1.1 hC2 hC1.ob rfl bp
  have e256 := zr256 (d := d) (M := Mr) (v := iI p) (p := p) (w := iI c) (c := c) (n := oN o) (b := if 0 ≤ p ∧ p < oN o then (gR (oP o p)).1 3 0 0 else 0) (by omega) hR1.1.1 hR2 (by omega) rfl bp rfl bc (fun a b => by
    rw [if_pos ⟨a, b⟩]
    have := pk_lo hP ⟨a, b⟩
    exact ⟨hoR.ncs hR1 ⟨a, b⟩, by omega⟩)
  by_cases hp : 0 ≤ p ∧ p < oN o
  · rw [if_pos hp] at e167
    have e169 := zc169 (d := dl) (M := Mc) (v := iI c) (c := c) (by omega) hP hC1 hp rfl bc
    rw [if_pos hp] at e256
    by_cases hc : 0 ≤ c ∧ c < (gR (oP o p)).1 3 0 0
    · rw [if_pos hc] at e169
      rw [if_pos ⟨hp, hc⟩] at e256
      obtain ⟨q, hq⟩ : ∃ q : QN, q = (sl, -1, 0, 1, 0) := ⟨_, rfl⟩
      have hqk : qOK o (v1p p) q := by rw [hq]; exact ⟨hsl, Or.inl rfl, Or.inl rfl, Or.inr rfl, Or.inl rfl⟩
      obtain ⟨Ma, Ra, x1, x2, x3, x4, x5, x6, x7, x8, x9, x10⟩ := pr_pair (dl := dl) (d := d) (w := iI p) (pv := 2147483647) (by omega) (by omega) hP hp hC hR hqk (by rw [hq]) (by rw [hq]) (by rw [hq]) (by rw [hq]) rfl
      have e6 : q.2.2.2.1 = 1 := by rw [hq]
      rw [e6] at x8
      rw [if_pos rfl] at x8
      have hdc' : hdC hs Ma := fun Q u1 u2 => by
        obtain ⟨w1, w2, w3⟩ := hdc Q u1 u2
        have tz : 108 ≤ zTw Q ∧ zTw Q + 3 < 140 := by unfold zTw; omega
        exact ⟨(nm hC1 x3 (by omega) (by unfold Zpr; omega)).trans w1, fun j u w => (nm hC1 x3 (by omega) (by unfold Zpr; omega)).trans (w2 j u w), fun j u w => (nm hC1 x3 (by omega) (by unfold Zpr; omega)).trans (w3 j u w)⟩
      have hdr' : hdR hs Ra := fun Q u1 u2 => by
        obtain ⟨w1, w2, w3⟩ := hdr Q u1 u2
        exact ⟨(x5.2 _ _ (by unfold Zma; omega)).trans w1, fun j u w => (x5.2 _ _ (by unfold Zma; omega)).trans (w2 j u w), fun j u w => (x5.2 _ _ (by unfold Zma; omega)).trans (w3 j u w)⟩
      obtain ⟨Mh, Rh, V, s', y1, y2, y3, y4, y5, y6, y7, y8⟩ := lw_pair (dl := dl) (d := d) (Mc := Ma) (Mr := Ra) (c := c) (w := iI c) (by omega) (by omega) (rPu.one hP hp hqk) hq x6.1 x6.2 x8.1 x8.2 x7 ((nm hC1 x3 (by decide) (by unfold Zpr; omega)).trans (h78.trans (x5.2 _ _ (by unfold Zma; omega)).symm)) ((x5.2 _ _ (by unfold Zma; omega)).trans hR3) x10 hdc' hdr' hc rfl
      have y1' : runX dl 175 [va_rf (some 64), va_rf (some (hEC (gH (oP o p)) 3 c))] Ma = some (.int (iI V), Mh) := y1
      refine ⟨Mh, Rh, iI V, ?_, ?_, Or.inr ⟨s', (x3.m fun a j z => Or.inl (Zpr_M z)).tr (y3.fg x6.1.1.2.2), ⟨(congrArg (fun z => z.2.2) y3.1).trans x4.1, (congrArg (fun z => z.1) y3.1).trans x4.2⟩, (x5.m fun a j z => Or.inl (Zma_R z)).tr y4, y5, y6, y7, y8⟩⟩
      · rw [r143]; unfold b143; rw [aR_e, aI_e, aI_e, aZ_e]; unfold c143
        rw [vC_e (ck_64 hC1.1.1), cP_e e167, cP_e e169, if_neg (show ¬ some (hEC (gH (oP o p)) 3 c) = none by simp), gtP_q (ck_64 hC1.1.1) (cf_64_2 hC1.1.1), vC_e (ck_88 hC1.1.1), cV_e x1, vC_e (ck_64 x6.1.1.1), cI_e y1']
      · rw [r261]; unfold b261; rw [aR_e, aI_e, aI_e, aZ_e]; unfold c261
        rw [vC_e (rk_160 hR1.1.1), cI_e e256, if_neg (show ¬ iI 1 = 0 by decide), vC_e (rk_160 hR1.1.1), cV_e x2, vC_e (rk_160 x6.2.1.1), cI_e y2]
    · rw [if_neg hc] at e169
      rw [if_neg (fun z => hc z.2)] at e256
      refine ⟨Mc, Mr, (-1 : Int32), ?_, ?_, Or.inl ⟨rfl, rfl⟩⟩
      · rw [r143]; unfold b143; rw [aR_e, aI_e, aI_e, aZ_e]; unfold c143
        rw [vC_e (ck_64 hC1.1.1), cP_e e167, cP_e e169, if_pos rfl]
      · rw [r261]; unfold b261; rw [aR_e, aI_e, aI_e, aZ_e]; unfold c261
        rw [vC_e (rk_160 hR1.1.1), cI_e e256, if_pos (show iI 0 = 0 from rfl)]
  · rw [if_neg hp] at e167
    rw [if_neg (fun z => hp z.1)] at e256
    refine ⟨Mc, Mr, (-1 : Int32), ?_, ?_, Or.inl ⟨rfl, rfl⟩⟩
    · rw [r143]; unfold b143; rw [aR_e, aI_e, aI_e, aZ_e]; unfold c143
      rw [vC_e (ck_64 hC1.1.1), cP_e e167, cP_e (zc169n (by omega)), if_pos rfl]
    · rw [r261]; unfold b261; rw [aR_e, aI_e, aI_e, aZ_e]; unfold c261
      rw [vC_e (rk_160 hR1.1.1), cI_e e256, if_pos (show iI 0 = 0 from rfl)]
end S9ck
