/-! the reference's machine: done() -/
section S9bg
variable {d : Nat} {e s s' t u A : ZS} {M M' M1 M2 : Mem} {a b j N x y : Nat} {v v1 v2 v3 w : Int32} {c k i n m p o q id key par NN D r B : Int} {R : Int → RG} {G : RG} {L : Int → Int} {Y : Nat → Int → Int}
theorem zRG.sub (h : zRG e s M) (h2 : M'.2 = M.2) (f : ∀ a j, (a = 160 ∧ (j = 79 ∨ j = 80 ∨ j = 81 ∨ j = 82 ∨ j = 83 ∨ j = 98)) ∨ (210 ≤ a ∧ a ≠ 213 ∧ a ≠ 214 ∧ a ≠ 215) → M'.1 a j = M.1 a j) : zRG e s M' := by
  obtain ⟨g0, g1, g2, g3, ⟨g4, g5, g6, g7, g8⟩, g9, g10, g11⟩ := h
  refine ⟨g0.keep h2, fun id' p z => ?_, fun id' p z z2 i u w => ?_, fun k p z => ?_, ⟨?_, ?_, ?_, ?_, ?_⟩, fun x p u w => ?_, fun q' p z => ?_, fun x => ?_⟩
  · rw [f _ _ (by omega)]; exact g1 id' p z
  · rw [f _ _ (by omega)]; exact g2 id' p z z2 i u w
  · rw [f _ _ (by omega)]; exact g3 k p z
  · rw [f _ _ (by omega)]; exact g4
  · rw [f _ _ (by omega)]; exact g5
  · rw [f _ _ (by omega)]; exact g6
  · rw [f _ _ (by omega)]; exact g7
  · rw [f _ _ (by omega)]; exact g8
  · rw [f _ _ (by omega), f _ _ (by omega), f _ _ (by omega)]; exact g9 x p u w
  · obtain ⟨c1, c2, c3⟩ := g10 q' p z
    rw [f _ _ (by omega)]
    exact ⟨c1, fun j x y => by rw [f _ _ (by omega)]; exact c2 j x y, fun j x y => by rw [f _ _ (by omega)]; exact c3 j x y⟩
  · rw [f _ _ (by omega)]
    exact ⟨(g11 x).1, fun t p r => by rw [f _ _ (by omega), f _ _ (by omega)]; exact (g11 x).2 t p r⟩
/-- no STEP or no WORK is left -/
theorem g89_end {go : Int32 × Int32 × Mem → XA} (hd : 1 ≤ d) (h : zRM e s M) (hm : s.1 1 0 0 = 0) (h9 : 0 ≤ s.1 9 0 0 ∧ s.1 9 0 0 ≤ 1000) (h12 : -2147483648 ≤ s.1 12 0 0 ∧ s.1 12 0 0 ≤ 2147483647) (hc : s.1 9 0 0 = 0 ∨ s.1 12 0 0 = 0) : ∃ r M', c243_89 (runX d) (some 160) (rj142 (iI n) (iI B)) (rj685 d (iI n) (iI B)) (rj142 (iI n) (iI B)) (rj778 (iI n)) (iI n) (iI B) (iI (s.1 4 n 0), iI (zpc s), M) go = some (.int r, M') ∧ zRB e s n M M' r := by
  have k := rk_160 h.1.1
  have e80 : M.1 160 80 = iI (s.1 9 0 0) := h.1.2.2.2.2.1.2.1
  have e83 : M.1 160 83 = iI (s.1 12 0 0) := h.1.2.2.2.2.1.2.2.2.2
  rw [g89, gtI_q k e80]
  by_cases y : s.1 9 0 0 = 0
  · rw [if_pos (show iI (s.1 9 0 0) = 0 from eqI_p rfl li_0 y), ptZ_q (z := 1) k li_1 (by omega), vC_e (M := sI M 160 85 (iI 1)) k, cV_e (mR239 (d := d) (M := sI M 160 85 (iI 1)) hd (h.1.1.keep rfl) (Or.inr rfl))]
    obtain ⟨Mc, hMc⟩ : ∃ X, X = rF (sI M 160 85 (iI 1)) 6 (iI (zpc s)) 1 := ⟨_, rfl⟩
    have st : zstep e s = zerr s 6 5 := by unfold zstep; rw [if_pos hm, if_pos y]
    have o : ∀ a j, ¬ (a = 160 ∧ (j = 85 ∨ j = 86 ∨ j = 87 ∨ j = 88 ∨ j = 89)) → Mc.1 a j = M.1 a j := fun a j z => by
      rw [hMc]; unfold rF
      by_cases y : a = 160
      · subst y
        exact (sI_nej fun w => z ⟨rfl, by omega⟩).trans ((sI_nej fun w => z ⟨rfl, by omega⟩).trans ((sI_nej fun w => z ⟨rfl, by omega⟩).trans ((sI_nej fun w => z ⟨rfl, by omega⟩).trans (sI_nej fun w => z ⟨rfl, by omega⟩))))
      · exact (sI_ne y).trans ((sI_ne y).trans ((sI_ne y).trans ((sI_ne y).trans (sI_ne y))))
    have fo : zRo e M Mc := by
      rw [hMc]
      exact ((((zRo.r.sI (by decide) (by decide)).sI (by decide) (by decide)).sI (by decide) (by decide)).sI (by decide) (by decide)).sI (by decide) (by decide)
    have hZz : zRZ e (zerr s 6 5) Mc := by
      have em : (zerr s 6 5).1 1 0 0 = 5 := zi_e
      refine ⟨?_, ?_, ?_, fun _ => ⟨?_, ?_⟩, fun z => by omega⟩
      · exact (h.1.sub (M' := Mc) (by rw [hMc]; rfl) (fun a j z => o a j (by omega))).ff zRw.r ⟨fun kk p => by rcases p with p | p | p | p | p | p | p | p <;> subst p <;> rfl, fun kk p q r => by funext x y; exact zw_k (by omega)⟩
      · rw [hMc]; exact (sI_nej (by decide)).trans ((sI_nej (by decide)).trans ((sI_nej (by decide)).trans ((sI_nej (by decide)).trans sI_eq)))
      · rw [hMc]; exact (sI_nej (by decide)).trans ((sI_nej (by decide)).trans ((sI_nej (by decide)).trans (sI_eq.trans li_1)))
      · rw [hMc]; exact (sI_nej (by decide)).trans ((sI_nej (by decide)).trans (sI_eq.trans (zw_e (s := s) (k := 5) (i := 0) (j := 0) (w := 6)).symm))
      · rw [hMc]; exact (sI_nej (by decide)).trans (sI_eq.trans (congrArg iI (zi_e (s := zw s 5 0 0 6) (k := 13) (i := 0) (j := 0) (v := zpc s)).symm))
    obtain ⟨M3, q1, q2, q3⟩ := rend (n := n) (B := B) hZz
    refine ⟨0, M3, ?_, _, zto.st (by rw [st]; exact zto.r), (fo.tr q3).q, Or.inr ⟨Or.inl zi_e, q2⟩⟩
    rw [← hMc]
    unfold g24
    rw [gtI_q (rk_160 hZz.1.1) hZz.2.1, if_neg (show ¬ iI 1 = 0 by decide)]
    exact q1
  · have y12 : s.1 12 0 0 = 0 := by omega
    have st : zstep e s = zi s 1 0 0 6 := by unfold zstep; rw [if_pos hm, if_neg y, if_pos y12]
    rw [if_neg (show ¬ iI (s.1 9 0 0) = 0 from eqI_n rfl li_0 (by omega)), gtI_q k e83, if_pos (show iI (s.1 12 0 0) = 0 from eqI_p rfl li_0 y12), ptZ_q (z := 1) k li_1 (by omega), ptZ_q (M := sI M 160 84 (iI 1)) (z := 1) k li_1 (by omega), ptZ_q (M := sI (sI M 160 84 (iI 1)) 160 85 (iI 1)) (z := 1) k li_1 (by omega)]
    obtain ⟨Mc, hMc⟩ : ∃ X, X = sI (sI (sI M 160 84 (iI 1)) 160 85 (iI 1)) 160 86 (iI 1) := ⟨_, rfl⟩
    have o : ∀ a j, ¬ (a = 160 ∧ (j = 84 ∨ j = 85 ∨ j = 86)) → Mc.1 a j = M.1 a j := fun a j z => by
      rw [hMc]
      by_cases y : a = 160
      · subst y
        exact (sI_nej fun w => z ⟨rfl, by omega⟩).trans ((sI_nej fun w => z ⟨rfl, by omega⟩).trans (sI_nej fun w => z ⟨rfl, by omega⟩))
      · exact (sI_ne y).trans ((sI_ne y).trans (sI_ne y))
    have fo : zRq e (zi s 1 0 0 6) M Mc := ⟨by rw [hMc]; rfl, fun a j z z2 => o a j fun q => by
      rcases q with ⟨q, q2 | q2 | q2⟩
      · exact z2 ⟨q, q2, zi_e⟩
      · rw [q, q2] at z; exact absurd z (by decide)
      · rw [q, q2] at z; exact absurd z (by decide), fun a j z _ => o a j (by omega)⟩
    have em : (zi s 1 0 0 6).1 1 0 0 = 6 := zi_e
    have hZz : zRZ e (zi s 1 0 0 6) Mc := by
      refine ⟨?_, ?_, ?_, fun z => by omega, fun _ => ?_⟩
      · exact (h.1.sub (M' := Mc) (by rw [hMc]; rfl) (fun a j z => o a j (by omega))).ff zRw.r ⟨fun kk p => by rcases p with p | p | p | p | p | p | p | p <;> subst p <;> rfl, fun kk p q r => rfl⟩
      · rw [hMc]; exact (sI_nej (by decide)).trans sI_eq
      · rw [hMc]; exact sI_eq
      · rw [hMc]; exact (sI_nej (by decide)).trans ((sI_nej (by decide)).trans sI_eq)
    obtain ⟨M3, q1, q2, q3⟩ := rend (n := n) (B := B) hZz
    refine ⟨0, M3, ?_, _, zto.st (by rw [st]; exact zto.r), fo.post q3, Or.inr ⟨Or.inr zi_e, q2⟩⟩
    rw [← hMc]
    unfold g24
    rw [gtI_q (rk_160 hZz.1.1) hZz.2.1, if_neg (show ¬ iI 1 = 0 by decide)]
    exact q1
theorem r243_lp (hd : 4 * (12 - n) + 12 ≤ d + 1) (hT : zET e) (hl : zEl e) (h8 : zE8 e) (hZ : zZ e) (hD : zRD e R L NN) (h0 : 0 ≤ n ∧ n < 12) : ∀ (m : Nat) (s : ZS) (M : Mem) (N : Nat), s.1 9 0 0 ≤ m → m < N → s.1 9 0 0 ≤ NN + 1 → s.1 0 0 0 = n + 1 → s.1 1 0 0 = 0 → s.1 6 n 0 = B → zKn e s → zRE e R L M → zRM e s M → ∃ r M', lp (c243_89 (runX d) (some 160) (rj142 (iI n) (iI B)) (rj685 d (iI n) (iI B)) (rj142 (iI n) (iI B)) (rj778 (iI n)) (iI n) (iI B)) N (iI (s.1 4 n 0), iI (zpc s), M) = some (.int r, M') ∧ zRB e s n M M' r := by
  intro m
  induction m with
  | zero =>
    intro s M N h1 h2 h3 hn hm hB hK hE h
    have h9 : 0 ≤ s.1 9 0 0 := hK.1.1.1.2.2.2.2.1
    obtain ⟨N, rfl⟩ : ∃ e, N = e + 1 := ⟨N - 1, by omega⟩
    have iv := hK.2.1
    have iv1 := iv.1
    have iv6 := iv.2.2.2.2.2
    have l20 := hl.1
    rw [lp_e]
    exact g89_end (by omega) h hm (by omega) (by omega) (by omega)
  | succ m ih =>
    intro s M N h1 h2 h3 hn hm hB hK hE h
    have h9 : 0 ≤ s.1 9 0 0 := hK.1.1.1.2.2.2.2.1
    obtain ⟨N, rfl⟩ : ∃ e, N = e + 1 := ⟨N - 1, by omega⟩
    have iv := hK.2.1
    have iv1 := iv.1
    have iv6 := iv.2.2.2.2.2
    have l20 := hl.1
    rw [lp_e]
    by_cases y : s.1 9 0 0 = 0 ∨ s.1 12 0 0 = 0
    · exact g89_end (by omega) h hm (by omega) (by omega) y
    have k := rk_160 h.1.1
    have e80 : M.1 160 80 = iI (s.1 9 0 0) := h.1.2.2.2.2.1.2.1
    have e83 : M.1 160 83 = iI (s.1 12 0 0) := h.1.2.2.2.2.1.2.2.2.2
    rw [g89, gtI_q k e80, if_neg (show ¬ iI (s.1 9 0 0) = 0 from eqI_n rfl li_0 (by omega)), gtI_q k e83, if_neg (show ¬ iI (s.1 12 0 0) = 0 from eqI_n rfl li_0 (by omega))]
    have hin := (hK.1.ho (o := zop e (zpc s)) (n := znum e (zpc s)) hm hT rfl rfl).1
    obtain ⟨M1, q1, q2, q3⟩ := g24_tick (d := d) (x1 := iI n) (tr := iI (s.1 4 n 0)) (j142 := rj142 (iI n) (iI B)) (j685 := rj685 d (iI n) (iI B)) (j726 := g726 d (iI n) (iI B) (rj142 (iI n) (iI B)) (rj778 (iI n)) (lp (c243_89 (runX d) (some 160) (rj142 (iI n) (iI B)) (rj685 d (iI n) (iI B)) (rj142 (iI n) (iI B)) (rj778 (iI n)) (iI n) (iI B)) N)) (v := iI (zpc s)) hE h hin (iv.2.2.2.2.1 (zpc s)) rfl
    have E1 := hE.ro q3
    rw [q1, g34_e (by omega) E1 q2.1.1 hin rfl rfl]
    exact g352_go (d := d) (J := lp (c243_89 (runX d) (some 160) (rj142 (iI n) (iI B)) (rj685 d (iI n) (iI B)) (rj142 (iI n) (iI B)) (rj778 (iI n)) (iI n) (iI B)) N) hd hT hl h8 hZ hD hK hm ⟨by omega, h3⟩ (by omega) ⟨hn, h0.1, h0.2⟩ hB.symm E1 q3 q2 (fun t M3 c1 c2 c3 c4 c5 c6 c7 => ih t M3 N (by omega) (by omega) (by omega) c2 c3 c4 c5 (E1.ro c6) c7)
theorem jv_f {σ : Type} {f : σ → XA} : jv f = f := rfl
theorem c243_e {a1 a2 : Int32} : c243 (runX d) (some 160) a1 a2 M = (gtI (13, 157) M (some 160) 76 fun x1 => gtI (13, 157) M (some 160) 76 fun x2 => ptI (13, 157) M (some 160) 76 (x2 + ((1 : Int32))) fun M3 => jn (fun (s4 : Mem) => gtI (13, 157) s4 (some 160) 73 fun x5 => ptI (13, 157) s4 (some 160) 73 (x5 - a2) fun M6 => gtI (13, 157) M6 (some 160) 73 fun x7 => jn (rj142 x1 x7) fun j142 => jn (rj142 x1 x7) fun j733 => jn (rj778 x1) fun j778 => jn (rj685 d x1 x7) fun j685 => lp (c243_89 (runX d) (some 160) j142 j685 j733 j778 x1 x7) 4294967296 ((0 : Int32), a1, M6)) fun j67 => lp (c243_18 (runX d) (some 160) a2 j67 x1) 4294967296 ((0 : Int32), M3) : XA) := rfl
/-- done() with one STEP more -/
theorem zRD_s (hT : zET e) (hl : zEl e) (h8 : zE8 e) (hZ : zZ e) (hD : zRD e R L NN) (hN : -1 ≤ NN) : zRD e R L (NN + 1) := by
  intro d u M n par v1 v2 h0 h12 hd hu hE hK hI hv1 hv2
  obtain ⟨d, rfl⟩ : ∃ e, d = e + 1 := ⟨d - 1, by omega⟩
  subst hv1; subst hv2
  obtain ⟨⟨i0, i1, i2, i3, i4⟩, hG, hF, ⟨c76, c73, c85, c86⟩, ha⟩ := hI
  have k := rk_160 hG.1
  have zfn : zf u = n := by unfold zf; omega
  have hlr := hK.1.lr (Or.inl i1)
  have l6 := hlr.2.1 n h0 (by omega)
  obtain ⟨B, hB⟩ : ∃ B, B = u.1 6 n 0 := ⟨_, rfl⟩
  rw [i4] at l6
  rw [← hB] at l6 c73 ha
  obtain ⟨Ma, hMa⟩ : ∃ X, X = sI M 160 76 (iI (n + 1)) := ⟨_, rfl⟩
  have Ra : RT Ma := by rw [hMa]; exact hG.1.keep rfl
  have ea : Ma.1 160 73 = iI (B + par) := by rw [hMa]; exact (sI_nej (by decide)).trans c73
  obtain ⟨Mb, b1, b2, b3, b4⟩ := r243_18 (rec := runX d) (M := Ma) (n := n) (par := par) (B := B + par) Ra ⟨h0, h12⟩ (by omega) (by omega) ea
  have Rb : RT Mb := Ra.keep b2
  have kb := rk_160 Rb
  have eb73 : Mb.1 160 73 = iI (B + par) := (b3 _ _ (by omega)).trans ea
  obtain ⟨Mc, hMc⟩ : ∃ X, X = sI Mb 160 73 (iI B) := ⟨_, rfl⟩
  have kc : Mc.2.2.2[160]? = some (13, 157) := by rw [hMc]; exact kb
  have w : zRw M Mc := by
    rw [hMc]
    refine zRw.sI ⟨b2.trans (by rw [hMa]; rfl), fun a j z => ?_⟩ (by decide)
    have y : a ≠ 214 := fun y => by rw [y, inW_c (by decide)] at z; cases z
    refine (b3 a j (fun q => y q.1)).trans ?_
    rw [hMa]
    by_cases y2 : a = 160
    · exact sI_nej fun y3 => by rw [y2, y3] at z; exact absurd z (by decide)
    · exact sI_ne y2
  have o214 : ∀ k : Int, 0 ≤ k → k < par → Mc.1 214 (10 * n + k).toNat = u.2 0 n k := fun k x1 x2 => by
    rw [hMc]
    refine (sI_ne (by decide)).trans ((b4 k x1 x2).trans ?_)
    rw [hMa, show B + par - par + k = B + k by omega]
    exact (sI_ne (by decide)).trans (ha k x1 x2)
  have h : zRM e u Mc := by
    refine ⟨hG.ff w ⟨fun _ _ => rfl, fun _ _ _ _ => rfl⟩, fun i x1 x2 => ?_, ?_, ?_, ?_, ?_⟩
    · by_cases y : i = n
      · rw [y]
        exact ⟨fun k z1 z2 => o214 k z1 (by omega), fun k z1 z2 => by omega, fun k z1 z2 => by omega⟩
      · refine (hF i x1 (by omega)).lo (fun k z1 z2 => ?_) (fun k z1 z2 => ?_) (fun k z1 z2 => ?_) rfl rfl rfl rfl (fun _ => rfl) (fun _ => rfl) (fun _ => rfl)
        · have l16 := (hlr.2.1 i x1 (by omega)).2.2.2.1
          rw [hMc]
          refine (sI_ne (by decide)).trans ((b3 _ _ (by omega)).trans ?_)
          rw [hMa]; exact sI_ne (by decide)
        · rw [hMc]
          refine (sI_ne (by decide)).trans ((b3 _ _ (by omega)).trans ?_)
          rw [hMa]; exact sI_ne (by decide)
        · rw [hMc]
          refine (sI_ne (by decide)).trans ((b3 _ _ (by omega)).trans ?_)
          rw [hMa]; exact sI_ne (by decide)
    · rw [i0, hMc]
      refine (sI_nej (by decide)).trans ((b3 _ _ (by omega)).trans ?_)
      rw [hMa]; exact sI_eq
    · have : zsp u = B := by unfold zsp zh; rw [zfn, i2, hB]; omega
      rw [this, hMc]; exact sI_eq
    · rw [w.2 _ _ (by decide)]; exact c85
    · rw [hMc]
      refine (sI_nej (by decide)).trans ((b3 _ _ (by omega)).trans ?_)
      rw [hMa]; exact (sI_nej (by decide)).trans c86
  obtain ⟨r, M', x1, x2⟩ := r243_lp (d := d) (n := n) (B := B) hd hT hl h8 hZ hD ⟨h0, h12⟩ 1000 u Mc 4294967296 (by have := hK.2.1.1; have := hl.1; omega) (by decide) hu i0 i1 hB.symm hK (hE.ro w.ro) h
  refine ⟨r, M', ?_, x2.of zto.r w.ro (fun _ _ _ => zBe.r) rfl rfl⟩
  have ez : zpc u = u.1 2 n 0 := by unfold zpc; rw [zfn]
  rw [i3, ez, ← li_0] at x1
  rw [r243]; unfold b243; rw [aR_e, aI_e, aI_e, aZ_e]; rw [c243_e]
  rw [gtI_q k c76, gtI_q k c76, ptI_q (z := n + 1) k (adI rfl li_1), ← hMa, jn_v]
  refine (b1 _).trans ?_
  rw [jv_e, gtI_q kb eb73, ptI_q (z := B) kb (cvI (sbI rfl rfl) (by omega)), ← hMc, gtI_q (w := iI B) kc (by rw [hMc]; exact sI_eq), jn_v, jn_v, jn_v, jn_v, jv_f, jv_f, jv_f]
  exact x1
/-- done() -/
theorem zRD_all (hT : zET e) (hl : zEl e) (h8 : zE8 e) (hZ : zZ e) : ∀ m : Nat, zRD e R L ((m : Int) - 1)
  | 0 => fun d u M n par v1 v2 h0 h12 hd hu hE hK hI hv1 hv2 => by
    have := hK.1.1.1.2.2.2.2.1
    omega
  | m + 1 => by
    have := zRD_s hT hl h8 hZ (zRD_all hT hl h8 hZ m) (by omega)
    rw [show ((m + 1 : Nat) : Int) - 1 = (m : Int) - 1 + 1 by omega]
    exact this
end S9bg
