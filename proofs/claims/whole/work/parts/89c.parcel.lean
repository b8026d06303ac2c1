/-! a parcel of the first object: its constructor, all of it -/
/-- the rows of a parcel: codes, MUTANTS, ORDER, what is told of runs -/
def PAr (M : Mem) (x e nc mc : Nat) (G : Nat → Int → Int) (mt : Int → Int) : Prop := Ar M (x + 1) e (fun j => iI (G 0 j)) ∧ Ar M (x + 2) e (fun j => iI (G 1 j)) ∧ Ar M (x + 3) e (fun j => iI (G 2 j)) ∧ Ar M (x + 5) mc (fun j => iI (mt j)) ∧ (M.2.2.2[x + 7]? = some (113, 4) ∧ ∀ i, i < 4 → M.2.2.1 (x + 7) i = some (x + 8 + i) ∧ M.2.2.2[x + 8 + i]? = some (100, nc)) ∧ M.2.2.2[x + 12]? = some (113, 3) ∧ ∀ i, i < 3 → M.2.2.1 (x + 12) i = some (x + 13 + i) ∧ M.2.2.2[x + 13 + i]? = some (100, e)
def pcV (id e : Int32) : Nat → Int32 := up0 (up0 (up0 (fun _ => 0) 17 (-2)) 0 id) 5 e
def pcF (H : HG) (x : Nat) : Nat → Option Nat := up0 (up0 (up0 (up0 (up0 (up0 (up0 (up0 (up0 (up0 (up0 (up0 (up0 (fun _ => none) 1 (some (hCL H 1))) 2 (some (hCL H 2))) 3 (some (hCL H 3))) 4 (some (hCL H 4))) 6 (some (x + 1))) 7 (some (x + 2))) 8 (some (x + 3))) 9 (some (x + 5))) 10 (some (x + 6))) 11 (some (x + 7))) 12 (some (x + 12))) 14 (some (x + 16))) 15 (some (x + 17))
theorem Ar.sP {M : Mem} {c n a j : Nat} {f : Nat → Int32} {v : Option Nat} (h : Ar M c n f) : Ar (sP M a j v) c n f := h
section S89c
variable {d N x T ex L : Nat} {M M' : Mem} {v : Int32} {H : HG} {G : Nat → Int → Int} {e : Int} {xs : Nat → Int32}
/-- ORDER: each at its number -/
theorem kp50_123 {n c : Nat} (hk : M.2.2.2[c]? = some (100, n)) (hx : M.2.2.2[x]? = some (6, 18)) (h10 : M.2.2.1 x 10 = some c) (hn : n ≤ 16) (hcx : c ≠ x) {K : Mem → XA} : ∃ M', lp (c50_123 (runX d) (some x) K) 4294967296 ((0 : Int32), M) = K M' ∧ Fo (fun b => b = c) 0 0 M M' ∧ Ar M' c n (fun j => iI j) := by
  refine lp_use (body := c50_123 (runX d) (some x) K) (R := fun s => K s.2) n (fun k s => s.1 = iI k ∧ Fo (fun b => b = c) 0 0 M s.2 ∧ ∀ j : Nat, j < k → s.2.1 c j = iI j) ((0 : Int32), M) 4294967296 (by omega) ⟨li_0, Fo.z, fun j a => by omega⟩ (fun s' h1 h2 => ?_) (fun k s hk' hI => ?_) (fun s hI go => ?_)
  · obtain ⟨g1, g2, g3⟩ := h1
    exact ⟨s'.2, h2, g2, g2.kd hk, g3⟩
  · obtain ⟨i, M1⟩ := s
    obtain ⟨g1, g2, g3⟩ := hI
    dsimp only at g1 g2 g3
    subst g1
    refine ⟨(iI ((k + 1 : Nat) : Int), sI M1 c k (iI k)), ⟨rfl, (g2.tr (Fo.sI rfl)).m (fun _ _ z => z) (by omega) (by omega), fun j p => ?_⟩, fun go => ?_⟩
    · by_cases y : j = k
      · rw [y]; exact sI_eq
      · exact (sI_nej y).trans (g3 j (by omega))
    · unfold c50_123
      have p1 : M1.2.2.1 x 10 = some c := (g2.p (ln_lt hx) (fun z => hcx z.symm) _).trans h10
      refine (gtP_q (g2.kd hx) p1).trans ?_
      refine (aln_q' (g2.kd hk)).trans ?_
      refine (if_neg (leI_n (x := n) (y := k) rfl rfl (by omega))).trans ?_
      refine (gtP_q (g2.kd hx) p1).trans ?_
      refine (asI_q (n := n) (z := k) (y := k) (g2.kd hk) rfl (by omega) rfl).trans ?_
      exact (ltI_q (z := ((k + 1 : Nat) : Int)) (cvI (adI rfl li_1) (by omega)))
  · obtain ⟨i, M1⟩ := s
    obtain ⟨g1, g2, g3⟩ := hI
    dsimp only at g1 g2
    subst g1
    unfold c50_123
    refine (gtP_q (g2.kd hx) ((g2.p (ln_lt hx) (fun z => hcx z.symm) _).trans h10)).trans ?_
    refine (aln_q' (g2.kd hk)).trans ?_
    exact (if_pos (leI_p (x := n) (y := n) rfl rfl (by omega)))
def rest50 (d x : Nat) (M30 : Mem) : XA := gtP (6, 18) M30 (some x) 3 fun x31 => vC (0, 3) M30 x31 <| cI (runX d 346 [va_rf x31] M30) fun x33 M32 => nA 100 M32 x33 fun x34 M35 => ptP (6, 18) M35 (some x) 10 x34 fun M36 => jn (fun (s37 : Mem) => gtP (6, 18) s37 (some x) 10 fun x38 => aln s37 x38 fun x39 => nAA 113 100 s37 ((4 : Int32)) x39 fun x40 M41 => ptP (6, 18) M41 (some x) 11 x40 fun M42 => gtI (6, 18) M42 (some x) 5 fun x43 => nAA 113 100 M42 ((3 : Int32)) x43 fun x44 M45 => ptP (6, 18) M45 (some x) 12 x44 fun M46 => gtP (6, 18) M46 (some x) 9 fun x47 => aln M46 x47 fun x48 => nA 100 M46 x48 fun x49 M50 => ptP (6, 18) M50 (some x) 14 x49 fun M51 => gtP (6, 18) M51 (some x) 9 fun x52 => aln M51 x52 fun x53 => nA 100 M51 x53 fun x54 M55 => ptP (6, 18) M55 (some x) 15 x54 fun M56 => gtP (6, 18) M56 (some x) 2 fun x57 => cV (runX d 52 [va_rf x57] M56) fun M58 => some (.null, M58)) fun j145 => lp (c50_123 (runX d) (some x) j145) 4294967296 ((0 : Int32), M36)
set_option maxHeartbeats 4000000 in
theorem kp50a (hd : 12 ≤ d) (hC : CT M) (hO : OldOK L xs M) (hH : HS N T ex M H) (hx : ln M = x + 1) (h259 : 259 ≤ x) (hX : ObF M x (fun _ => 0) (fun _ => none)) (hr : hOw H x = 0) (he : 0 ≤ e ∧ e ≤ 1000) (hG : OpB G e) (h9 : M.1 65 9 = iI e) (hA : CA1 M G e) (hM : CMK M G e) (hS : ∀ j, 0 ≤ j → j < hEN H 2 → 0 ≤ hEF H 2 2 j ∧ hEF H 2 2 j ≤ 4) (hnc : 0 ≤ hEN H 3 ∧ hEN H 3 ≤ 16) : ∃ Mi, runX (d + 1) 50 [va_rf (some x), va_rf (some 65), .int v] M = rest50 d x Mi ∧ Fo (fun b => b = x) 5 (4 * e.toNat + (mcn G e.toNat).toNat) M Mi ∧ ln Mi = x + 6 ∧ ObF Mi x (pcV v (iI e)) (up0 (up0 (up0 (up0 (up0 (up0 (up0 (up0 (fun _ => none) 1 (some (hCL H 1))) 2 (some (hCL H 2))) 3 (some (hCL H 3))) 4 (some (hCL H 4))) 6 (some (x + 1))) 7 (some (x + 2))) 8 (some (x + 3))) 9 (some (x + 5))) ∧ Ar Mi (x + 1) e.toNat (fun j => iI (G 0 j)) ∧ Ar Mi (x + 2) e.toNat (fun j => iI (G 1 j)) ∧ Ar Mi (x + 3) e.toNat (fun j => iI (G 2 j)) ∧ Ar Mi (x + 5) (mcn G e.toNat).toNat (fun j => iI (mtf G e.toNat j)) := by
  have mb := mcn_b G e.toNat
  have Zx : ∀ b, b < 259 → ¬ (b = x) := fun b p z => by omega
  -- fields
  obtain ⟨Ma, hMa⟩ : ∃ z, z = sI (sP (sP (sP (sP (sI (sI M x 17 (-2)) x 0 v) x 1 (some (hCL H 1))) x 2 (some (hCL H 2))) x 3 (some (hCL H 3))) x 4 (some (hCL H 4))) x 5 (iI e) := ⟨_, rfl⟩
  have fa : Fo (fun b => b = x) 0 0 M Ma := by rw [hMa]; exact (((((((Fo.sI (Z := fun b => b = x) rfl).tr (Fo.sI rfl)).tr (Fo.sP rfl)).tr (Fo.sP rfl)).tr (Fo.sP rfl)).tr (Fo.sP rfl)).tr (Fo.sI rfl)).m (fun _ _ z => z) (by omega) (by omega)
  have xa : ObF Ma x (pcV v (iI e)) (up0 (up0 (up0 (up0 (fun _ => none) 1 (some (hCL H 1))) 2 (some (hCL H 2))) 3 (some (hCL H 3))) 4 (some (hCL H 4))) := by
    rw [hMa]; exact (hX.sI.sI.sP.sP.sP.sP.sI)
  have hL := hH.1.2.2.1
  -- op, operand, catcher
  have low : ∀ {Mq : Mem} {c t : Nat}, Fo (fun b => b = x) c t M Mq → CT Mq ∧ OldOK L xs Mq ∧ (∀ a j, a < 259 → Mq.1 a j = M.1 a j ∧ Mq.2.2.1 a j = M.2.2.1 a j) := fun f => ⟨⟨fun q y => f.kd (hC.1 q y), fun q y => by
    have w : ∀ q, q ∈ CFd → q.1 < 259 := by decide
    have := w q y
    exact (f.p (by omega) (Zx _ this) _).trans (hC.2 q y)⟩, ⟨fun a p => f.kd (hO.1 a p), fun a j p => (f.i (by omega) (Zx _ (by omega)) j).trans (hO.2 a j p)⟩, fun a j p => ⟨f.i (by omega) (Zx _ p) j, f.p (by omega) (Zx _ p) j⟩⟩
  obtain ⟨Ca, Oa, Ia⟩ := low fa
  obtain ⟨Mb, eb, fb, lb, ab⟩ := kp356 (d := d) (a := 72) (N := 4096) (n := e.toNat) (v := iI e) (M := Ma) (by omega) (ck_72 Ca) (by omega) (by congr 1; omega)
  have la : ln Ma = x + 1 := by have := fa.1.1; have := fa.1.2.1; omega
  rw [la] at eb ab
  obtain ⟨Mc, hMc⟩ : ∃ z, z = sP Mb x 6 (some (x + 1)) := ⟨_, rfl⟩
  have fc : Fo (fun b => b = x) 1 e.toNat M Mc := by rw [hMc]; exact ((fa.tr (fb.m (fun _ _ z => z.elim) (Nat.le_refl _) (Nat.le_refl _))).tr (Fo.sP rfl)).m (fun _ _ z => z) (by omega) (by omega)
  have xc := (xa.fo fb id).sP (k := 6) (w := some (x + 1))
  rw [← hMc] at xc
  have ac : Ar Mc (x + 1) e.toNat (fun j => Ma.1 72 j) := by rw [hMc]; exact ab
  obtain ⟨Cc, Oc, Ic⟩ := low fc
  have lc : ln Mc = x + 2 := by rw [hMc]; show ln Mb = _; omega
  obtain ⟨Md, ed, fd, ld, ad⟩ := kp356 (d := d) (a := 73) (N := 4096) (n := e.toNat) (v := iI e) (M := Mc) (by omega) (ck_73 Cc) (by omega) (by congr 1; omega)
  rw [lc] at ed ad
  obtain ⟨Me, hMe⟩ : ∃ z, z = sP Md x 7 (some (x + 2)) := ⟨_, rfl⟩
  have fe : Fo (fun b => b = x) 2 (2 * e.toNat) M Me := by rw [hMe]; exact ((fc.tr (fd.m (fun _ _ z => z.elim) (Nat.le_refl _) (Nat.le_refl _))).tr (Fo.sP rfl)).m (fun _ _ z => z) (by omega) (by omega)
  have xe := (xc.fo fd id).sP (k := 7) (w := some (x + 2))
  rw [← hMe] at xe
  have ae1 : Ar Me (x + 1) e.toNat (fun j => Ma.1 72 j) := by rw [hMe]; exact (ac.fo fd id).sP
  have ae2 : Ar Me (x + 2) e.toNat (fun j => Mc.1 73 j) := by rw [hMe]; exact ad
  obtain ⟨Ce, Oe, Ie⟩ := low fe
  have le' : ln Me = x + 3 := by rw [hMe]; show ln Md = _; omega
  obtain ⟨Mf, ef, ff, lf, af⟩ := kp356 (d := d) (a := 74) (N := 4096) (n := e.toNat) (v := iI e) (M := Me) (by omega) (ck_74 Ce) (by omega) (by congr 1; omega)
  rw [le'] at ef af
  obtain ⟨Mg, hMg⟩ : ∃ z, z = sP Mf x 8 (some (x + 3)) := ⟨_, rfl⟩
  have fg : Fo (fun b => b = x) 3 (3 * e.toNat) M Mg := by rw [hMg]; exact ((fe.tr (ff.m (fun _ _ z => z.elim) (Nat.le_refl _) (Nat.le_refl _))).tr (Fo.sP rfl)).m (fun _ _ z => z) (by omega) (by omega)
  have xg := (xe.fo ff id).sP (k := 8) (w := some (x + 3))
  rw [← hMg] at xg
  have ag1 : Ar Mg (x + 1) e.toNat (fun j => Ma.1 72 j) := by rw [hMg]; exact (ae1.fo ff id).sP
  have ag2 : Ar Mg (x + 2) e.toNat (fun j => Mc.1 73 j) := by rw [hMg]; exact (ae2.fo ff id).sP
  have ag3 : Ar Mg (x + 3) e.toNat (fun j => Me.1 74 j) := by rw [hMg]; exact af
  obtain ⟨Cg, Og, Ig⟩ := low fg
  have lg : ln Mg = x + 4 := by rw [hMg]; show ln Mf = _; omega
  -- MUTANTS
  obtain ⟨Mh, eh, fh, lh, ah⟩ := kp51 (d := d) (M := Mg) (G := G) (e := e) (by omega) Cg Og he hG (by omega) ((Ig 65 9 (by omega)).1.trans h9) (fun j a b => ⟨(Ig 72 _ (by omega)).1.trans (hA j a b).1, (Ig 75 _ (by omega)).1.trans (hM j a b)⟩)
  rw [lg] at eh ah lh
  obtain ⟨Mi, hMi⟩ : ∃ z, z = sP Mh x 9 (some (x + 5)) := ⟨_, rfl⟩
  have fi : Fo (fun b => b = x) 5 (4 * e.toNat + (mcn G e.toNat).toNat) M Mi := by rw [hMi]; exact ((fg.tr (fh.m (fun _ _ z => z.elim) (Nat.le_refl _) (Nat.le_refl _))).tr (Fo.sP rfl)).m (fun _ _ z => z) (by omega) (by omega)
  have xi := (xg.fo fh id).sP (k := 9) (w := some (x + 5))
  rw [← hMi] at xi
  have ai1 : Ar Mi (x + 1) e.toNat (fun j => Ma.1 72 j) := by rw [hMi]; exact (ag1.fo fh id).sP
  have ai2 : Ar Mi (x + 2) e.toNat (fun j => Mc.1 73 j) := by rw [hMi]; exact (ag2.fo fh id).sP
  have ai3 : Ar Mi (x + 3) e.toNat (fun j => Me.1 74 j) := by rw [hMi]; exact (ag3.fo fh id).sP
  have ai5 : Ar Mi (x + 5) (mcn G e.toNat).toNat (fun j => iI (mtf G e.toNat j)) := by rw [hMi]; exact ah
  have li' : ln Mi = x + 6 := by rw [hMi]; show ln Mh = _; omega
  refine ⟨Mi, ?_, fi, li', xi, ⟨ai1.1, fun j p => (ai1.2 j p).trans ?_⟩, ⟨ai2.1, fun j p => (ai2.2 j p).trans ?_⟩, ⟨ai3.1, fun j p => (ai3.2 j p).trans ?_⟩, ai5⟩
  · rw [r50]; unfold b50; rw [aR_e, aR_e, aI_e, aZ_e]; unfold c50
    have kx := hX.1
    have n65 : (65 : Nat) ≠ x := by omega
    have q2 : (sP (sI (sI M x 17 (-2)) x 0 v) x 1 (some (hCL H 1))).2.2.1 65 2 = some (hCL H 2) := (sP_ne n65).trans (hL 2 (by decide) (by decide))
    have q3 : (sP (sP (sI (sI M x 17 (-2)) x 0 v) x 1 (some (hCL H 1))) x 2 (some (hCL H 2))).2.2.1 65 3 = some (hCL H 3) := (sP_ne n65).trans ((sP_ne n65).trans (hL 3 (by decide) (by decide)))
    have q4 : (sP (sP (sP (sI (sI M x 17 (-2)) x 0 v) x 1 (some (hCL H 1))) x 2 (some (hCL H 2))) x 3 (some (hCL H 3))).2.2.1 65 4 = some (hCL H 4) := (sP_ne n65).trans ((sP_ne n65).trans ((sP_ne n65).trans (hL 4 (by decide) (by decide))))
    have q9 : (sP (sP (sP (sP (sI (sI M x 17 (-2)) x 0 v) x 1 (some (hCL H 1))) x 2 (some (hCL H 2))) x 3 (some (hCL H 3))) x 4 (some (hCL H 4))).1 65 9 = iI e := (sI_ne n65).trans ((sI_ne n65).trans h9)
    have l65 := ck_65 hC
    refine (nn_e).trans ?_
    refine (ptI_e kx).trans ?_
    refine (ptI_e (t := (6, 18)) (by exact kx)).trans ?_
    refine (gtP_q (t := (7, 20)) (w := some (hCL H 1)) (by exact l65) (by exact hL 1 (by decide) (by decide))).trans ?_
    refine (ptP_e (t := (6, 18)) (by exact kx)).trans ?_
    refine (gtP_q (t := (7, 20)) (w := some (hCL H 2)) (by exact l65) q2).trans ?_
    refine (ptP_e (t := (6, 18)) (by exact kx)).trans ?_
    refine (gtP_q (t := (7, 20)) (w := some (hCL H 3)) (by exact l65) q3).trans ?_
    refine (ptP_e (t := (6, 18)) (by exact kx)).trans ?_
    refine (gtP_q (t := (7, 20)) (w := some (hCL H 4)) (by exact l65) q4).trans ?_
    refine (ptP_e (t := (6, 18)) (by exact kx)).trans ?_
    refine (gtI_q (t := (7, 20)) (w := iI e) (by exact l65) q9).trans ?_
    refine (ptI_e (t := (6, 18)) (by exact kx)).trans ?_
    rw [← hMa]
    refine (gtP_q (ck_65 Ca) (cf_65_5 Ca)).trans ?_
    refine (gtI_q xa.1 (xa.2.1 5)).trans ?_
    refine (cP_e eb).trans ?_
    refine (ptP_e (xa.fo fb id).1).trans ?_
    rw [← hMc]
    refine (gtP_q (ck_65 Cc) (cf_65_6 Cc)).trans ?_
    refine (gtI_q xc.1 (xc.2.1 5)).trans ?_
    refine (cP_e ed).trans ?_
    refine (ptP_e (xc.fo fd id).1).trans ?_
    rw [← hMe]
    refine (gtP_q (ck_65 Ce) (cf_65_7 Ce)).trans ?_
    refine (gtI_q xe.1 (xe.2.1 5)).trans ?_
    refine (cP_e ef).trans ?_
    refine (ptP_e (xe.fo ff id).1).trans ?_
    rw [← hMg]
    refine (cP_e eh).trans ?_
    refine (ptP_e (xg.fo fh id).1).trans ?_
    rw [← hMi]
    rfl
  · exact (Ia 72 j (by omega)).1.trans (hA j (by omega) (by omega)).1
  · exact (Ic 73 j (by omega)).1.trans (hA j (by omega) (by omega)).2.1
  · exact (Ie 74 j (by omega)).1.trans (hA j (by omega) (by omega)).2.2
set_option maxHeartbeats 4000000 in
theorem kp50b {Mi : Mem} (hd : 12 ≤ d) (hx : ln M = x + 1) (h259 : 259 ≤ x) (hH : HS N T ex M H) (hX : ObF M x (fun _ => 0) (fun _ => none)) (hr : hOw H x = 0) (he : 0 ≤ e ∧ e ≤ 1000) (hS : ∀ j, 0 ≤ j → j < hEN H 2 → 0 ≤ hEF H 2 2 j ∧ hEF H 2 2 j ≤ 4) (hnc : 0 ≤ hEN H 3 ∧ hEN H 3 ≤ 16) (fi : Fo (fun b => b = x) 5 (4 * e.toNat + (mcn G e.toNat).toNat) M Mi) (li' : ln Mi = x + 6) (xi : ObF Mi x (pcV v (iI e)) (up0 (up0 (up0 (up0 (up0 (up0 (up0 (up0 (fun _ => none) 1 (some (hCL H 1))) 2 (some (hCL H 2))) 3 (some (hCL H 3))) 4 (some (hCL H 4))) 6 (some (x + 1))) 7 (some (x + 2))) 8 (some (x + 3))) 9 (some (x + 5)))) (ai1 : Ar Mi (x + 1) e.toNat (fun j => iI (G 0 j))) (ai2 : Ar Mi (x + 2) e.toNat (fun j => iI (G 1 j))) (ai3 : Ar Mi (x + 3) e.toNat (fun j => iI (G 2 j))) (ai5 : Ar Mi (x + 5) (mcn G e.toNat).toNat (fun j => iI (mtf G e.toNat j))) : ∃ M', rest50 d x Mi = some (.null, M') ∧ Fo (fun b => b = x ∨ ∃ j, 0 ≤ j ∧ j < hEN H 2 ∧ b = hEC H 2 j) 17 10200 M M' ∧ ln M' = x + 18 ∧ HS N T (ex + 700) M' (sCl H (hEN H 2)) ∧ ObF M' x (pcV v (iI e)) (pcF H x) ∧ PAr M' x e.toNat (hEN H 3).toNat (mcn G e.toNat).toNat G (mtf G e.toNat) ∧ Ar M' (x + 6) (hEN H 3).toNat (fun j => iI j) ∧ M'.2.2.2[x + 16]? = some (100, (mcn G e.toNat).toNat) ∧ M'.2.2.2[x + 17]? = some (100, (mcn G e.toNat).toNat) := by
  have mb := mcn_b G e.toNat
  have Zx : ∀ b, b < 259 → ¬ (b = x) := fun b p z => by omega
  -- ORDER
  have hi : HS N T (ex + 700) Mi H := hH.keep (ow := hOw H) fi (fun a _ z => by rw [z, hr]; exact fre0 hH) (fun _ _ => rfl) (fun k _ _ => fi.p (by omega) (Zx _ (by omega)) k) (by omega)
  have hl3 := hi.2.1 3 (by decide) (by decide)
  have fj0 : Fo (fun b => b = x) 1 (hEN H 3).toNat Mi (nw Mi 100 (hEN H 3).toNat) := Fo.nw
  obtain ⟨Mj, hMj⟩ : ∃ z, z = sP (nw Mi 100 (hEN H 3).toNat) x 10 (some (x + 6)) := ⟨_, rfl⟩
  have fij : Fo (fun b => b = x) 1 (hEN H 3).toNat Mi Mj := by rw [hMj]; exact (fj0.tr (Fo.sP rfl)).m (fun _ _ z => z) (by omega) (by omega)
  have xj := (xi.fo (Fo.nw (Z := fun _ => False) (u := 100) (m := (hEN H 3).toNat)) id).sP (k := 10) (w := some (x + 6))
  rw [← hMj] at xj
  have kj : Mj.2.2.2[x + 6]? = some (100, (hEN H 3).toNat) := by rw [hMj, ← li']; exact nw_kd
  have lj : ln Mj = x + 7 := by rw [hMj]; show ln (nw Mi 100 _) = _; rw [nw_ln]; omega
  obtain ⟨K, hK⟩ : ∃ z : Mem → XA, z = (jv fun (s37 : Mem) => gtP (6, 18) s37 (some x) 10 fun x38 => aln s37 x38 fun x39 => nAA 113 100 s37 ((4 : Int32)) x39 fun x40 M41 => ptP (6, 18) M41 (some x) 11 x40 fun M42 => gtI (6, 18) M42 (some x) 5 fun x43 => nAA 113 100 M42 ((3 : Int32)) x43 fun x44 M45 => ptP (6, 18) M45 (some x) 12 x44 fun M46 => gtP (6, 18) M46 (some x) 9 fun x47 => aln M46 x47 fun x48 => nA 100 M46 x48 fun x49 M50 => ptP (6, 18) M50 (some x) 14 x49 fun M51 => gtP (6, 18) M51 (some x) 9 fun x52 => aln M51 x52 fun x53 => nA 100 M51 x53 fun x54 M55 => ptP (6, 18) M55 (some x) 15 x54 fun M56 => gtP (6, 18) M56 (some x) 2 fun x57 => cV (runX d 52 [va_rf x57] M56) fun M58 => some (.null, M58)) := ⟨_, rfl⟩
  obtain ⟨Mk, ek, fk, ak⟩ := kp50_123 (d := d) (x := x) (n := (hEN H 3).toNat) (c := x + 6) (M := Mj) kj xj.1 (xj.2.2 10) (by omega) (by omega) (K := K)
  have lk : ln Mk = x + 7 := by have := fk.1.1; have := fk.1.2.1; omega
  have xk := xj.fo fk (by omega)
  -- results, covers
  obtain ⟨Ml, hMl⟩ : ∃ z, z = sP (nwAA Mk 113 100 4 (hEN H 3).toNat) x 11 (some (x + 7)) := ⟨_, rfl⟩
  have fl0 : Fo (fun _ => False) 5 (4 + 4 * (hEN H 3).toNat) Mk (nwAA Mk 113 100 4 (hEN H 3).toNat) := Fo.nAA
  have fl : Fo (fun b => b = x) 5 (4 + 4 * (hEN H 3).toNat) Mk Ml := by rw [hMl]; exact ((fl0.m (Z' := fun b => b = x) (fun _ _ z => z.elim) (Nat.le_refl _) (Nat.le_refl _)).tr (Fo.sP rfl)).m (fun _ _ z => z) (by omega) (by omega)
  have xl := (xk.fo fl0 id).sP (k := 11) (w := some (x + 7))
  rw [← hMl] at xl
  have ll : ln Ml = x + 12 := by rw [hMl]; show ln (nwAA Mk _ _ _ _) = _; rw [nwAA_ln]; omega
  have al7 : Ml.2.2.2[x + 7]? = some (113, 4) ∧ ∀ i, i < 4 → Ml.2.2.1 (x + 7) i = some (x + 8 + i) ∧ Ml.2.2.2[x + 8 + i]? = some (100, (hEN H 3).toNat) := by
    rw [hMl]
    refine ⟨?_, fun i p => ⟨?_, ?_⟩⟩
    · rw [← lk]; exact nwAA_k0
    · refine (sP_ne (by omega)).trans ?_
      rw [← lk, show x + 8 = ln Mk + 1 by omega]; exact nwAA_p p
    · rw [show x + 8 = ln Mk + 1 by omega]; exact nwAA_k1 p
  obtain ⟨Mm, hMm⟩ : ∃ z, z = sP (nwAA Ml 113 100 3 e.toNat) x 12 (some (x + 12)) := ⟨_, rfl⟩
  have fm0 : Fo (fun _ => False) 4 (3 + 3 * e.toNat) Ml (nwAA Ml 113 100 3 e.toNat) := Fo.nAA
  have fm : Fo (fun b => b = x) 4 (3 + 3 * e.toNat) Ml Mm := by rw [hMm]; exact ((fm0.m (Z' := fun b => b = x) (fun _ _ z => z.elim) (Nat.le_refl _) (Nat.le_refl _)).tr (Fo.sP rfl)).m (fun _ _ z => z) (by omega) (by omega)
  have xm := (xl.fo fm0 id).sP (k := 12) (w := some (x + 12))
  rw [← hMm] at xm
  have lm : ln Mm = x + 16 := by rw [hMm]; show ln (nwAA Ml _ _ _ _) = _; rw [nwAA_ln]; omega
  have am12 : Mm.2.2.2[x + 12]? = some (113, 3) ∧ ∀ i, i < 3 → Mm.2.2.1 (x + 12) i = some (x + 13 + i) ∧ Mm.2.2.2[x + 13 + i]? = some (100, e.toNat) := by
    rw [hMm]
    refine ⟨?_, fun i p => ⟨?_, ?_⟩⟩
    · rw [← ll]; exact nwAA_k0
    · refine (sP_ne (by omega)).trans ?_
      rw [← ll, show x + 13 = ln Ml + 1 by omega]; exact nwAA_p p
    · rw [show x + 13 = ln Ml + 1 by omega]; exact nwAA_k1 p
  -- what kills
  obtain ⟨Mn, hMn⟩ : ∃ z, z = sP (nw Mm 100 (mcn G e.toNat).toNat) x 14 (some (x + 16)) := ⟨_, rfl⟩
  have fn0 : Fo (fun _ => False) 1 (mcn G e.toNat).toNat Mm (nw Mm 100 (mcn G e.toNat).toNat) := Fo.nw
  have fn : Fo (fun b => b = x) 1 (mcn G e.toNat).toNat Mm Mn := by rw [hMn]; exact ((fn0.m (Z' := fun b => b = x) (fun _ _ z => z.elim) (Nat.le_refl _) (Nat.le_refl _)).tr (Fo.sP rfl)).m (fun _ _ z => z) (by omega) (by omega)
  have xn := (xm.fo fn0 id).sP (k := 14) (w := some (x + 16))
  rw [← hMn] at xn
  have ln' : ln Mn = x + 17 := by rw [hMn]; show ln (nw Mm _ _) = _; rw [nw_ln]; omega
  have kn : Mn.2.2.2[x + 16]? = some (100, (mcn G e.toNat).toNat) := by rw [hMn, ← lm]; exact nw_kd
  obtain ⟨Mo, hMo⟩ : ∃ z, z = sP (nw Mn 100 (mcn G e.toNat).toNat) x 15 (some (x + 17)) := ⟨_, rfl⟩
  have fo0 : Fo (fun _ => False) 1 (mcn G e.toNat).toNat Mn (nw Mn 100 (mcn G e.toNat).toNat) := Fo.nw
  have fo : Fo (fun b => b = x) 1 (mcn G e.toNat).toNat Mn Mo := by rw [hMo]; exact ((fo0.m (Z' := fun b => b = x) (fun _ _ z => z.elim) (Nat.le_refl _) (Nat.le_refl _)).tr (Fo.sP rfl)).m (fun _ _ z => z) (by omega) (by omega)
  have xo := (xn.fo fo0 id).sP (k := 15) (w := some (x + 17))
  rw [← hMo] at xo
  have lo : ln Mo = x + 18 := by rw [hMo]; show ln (nw Mn _ _) = _; rw [nw_ln]; omega
  have ko : Mo.2.2.2[x + 17]? = some (100, (mcn G e.toNat).toNat) := by rw [hMo, ← ln']; exact nw_kd
  -- all of it
  have fjo : Fo (fun b => b = x ∨ b = x + 6) 11 (7 + 4 * (hEN H 3).toNat + 3 * e.toNat + 2 * (mcn G e.toNat).toNat) Mj Mo := (((((fk.m (Z' := fun b => b = x ∨ b = x + 6) (fun _ _ z => Or.inr z) (Nat.le_refl _) (Nat.le_refl _)).tr (fl.m (fun _ _ z => Or.inl z) (Nat.le_refl _) (Nat.le_refl _))).tr (fm.m (fun _ _ z => Or.inl z) (Nat.le_refl _) (Nat.le_refl _))).tr (fn.m (fun _ _ z => Or.inl z) (Nat.le_refl _) (Nat.le_refl _))).tr (fo.m (fun _ _ z => Or.inl z) (Nat.le_refl _) (Nat.le_refl _))).m (fun _ _ z => z) (by omega) (by omega)
  have fio : Fo (fun b => b = x ∨ b = x + 6) 12 (7 + 5 * (hEN H 3).toNat + 3 * e.toNat + 2 * (mcn G e.toNat).toNat) Mi Mo := ((fij.m (fun _ _ z => Or.inl z) (Nat.le_refl _) (Nat.le_refl _)).tr fjo).m (fun _ _ z => z) (by omega) (by omega)
  have fMo : Fo (fun b => b = x) 17 10200 M Mo := ((fi.m (Z' := fun b => b = x ∨ b = x + 6) (fun _ _ z => Or.inl z) (Nat.le_refl _) (Nat.le_refl _)).tr fio).m (fun a p z => by omega) (by omega) (by omega)
  have hHo : HS N T (ex + 700) Mo H := hH.keep (ow := hOw H) fMo (fun a _ z => by rw [z, hr]; exact fre0 hH) (fun _ _ => rfl) (fun k _ _ => fMo.p (by omega) (Zx _ (by omega)) k) (by omega)
  obtain ⟨M', e', h', f'⟩ := kp52 (d := d) (by omega) hHo hS
  have cx : ∀ b : Nat, x ≤ b → ¬ ∃ j, 0 ≤ j ∧ j < hEN H 2 ∧ b = hEC H 2 j := fun b p ⟨j, q1, q2, q3⟩ => by
    have w := hH.cell (k := 2) (by decide) (by decide) q1 q2
    by_cases y : b = x
    · have w2 := (hH.2.2.1 2 (by decide) (by decide) j q1 q2).1.1
      rw [← q3, y, hX.1] at w2
      cases w2
    · omega
  refine ⟨M', ?_, ?_, by have := f'.1.1; have := f'.1.2.1; omega, h', xo.fo f' (cx _ (Nat.le_refl _)), ⟨?_, ?_, ?_, ?_, ⟨f'.kd ((fo.kd (fn.kd (fm.kd al7.1)))), fun i p => ⟨?_, f'.kd (fo.kd (fn.kd (fm.kd (al7.2 i p).2)))⟩⟩, f'.kd (fo.kd (fn.kd am12.1)), fun i p => ⟨?_, f'.kd (fo.kd (fn.kd (am12.2 i p).2))⟩⟩, ?_, f'.kd (fo.kd kn), f'.kd ko⟩
  · unfold rest50
    refine (gtP_q (w := some (hCL H 3)) xi.1 (xi.2.2 3)).trans ?_
    refine (vC_e hl3.1.2.1).trans ?_
    refine (cI_e (ls_size (d := d) (by omega) hl3)).trans ?_
    refine (nA_e (by omega) (by omega)).trans ?_
    rw [show Mi.2.2.2.length = x + 6 from li']
    refine (ptP_e (xi.fo (Fo.nw (Z := fun _ => False) (u := 100) (m := (hEN H 3).toNat)) id).1).trans ?_
    rw [← hMj]
    refine (jn_v).trans ?_
    rw [← hK]
    refine ek.trans ?_
    rw [hK]
    refine (jv_e).trans ?_
    refine (gtP_q (w := some (x + 6)) xk.1 (xk.2.2 10)).trans ?_
    refine (aln_q' ak.1).trans ?_
    refine (nAA_q (n := 4) (k := (hEN H 3).toNat) rfl rfl (by omega)).trans ?_
    rw [lk]
    refine (ptP_e (xk.fo fl0 id).1).trans ?_
    rw [← hMl]
    refine (gtI_q xl.1 (xl.2.1 5)).trans ?_
    refine (nAA_q (n := 3) (k := e.toNat) rfl (by show iI e = _; congr 1; omega) (by omega)).trans ?_
    rw [ll]
    refine (ptP_e (xl.fo fm0 id).1).trans ?_
    rw [← hMm]
    have a5m : Mm.2.2.2[x + 5]? = some (100, (mcn G e.toNat).toNat) := fm.kd (fl.kd (fk.kd (fij.kd ai5.1)))
    refine (gtP_q (w := some (x + 5)) xm.1 (xm.2.2 9)).trans ?_
    refine (aln_q' a5m).trans ?_
    refine (nA_e (by omega) (by omega)).trans ?_
    rw [show Mm.2.2.2.length = x + 16 from lm, show (((mcn G e.toNat).toNat : Int)).toNat = (mcn G e.toNat).toNat by omega]
    refine (ptP_e (xm.fo fn0 id).1).trans ?_
    rw [← hMn]
    refine (gtP_q (w := some (x + 5)) xn.1 (xn.2.2 9)).trans ?_
    refine (aln_q' (fn.kd a5m)).trans ?_
    refine (nA_e (by omega) (by omega)).trans ?_
    rw [show Mn.2.2.2.length = x + 17 from ln', show (((mcn G e.toNat).toNat : Int)).toNat = (mcn G e.toNat).toNat by omega]
    refine (ptP_e (xn.fo fo0 id).1).trans ?_
    rw [← hMo]
    refine (gtP_q (w := some (hCL H 2)) xo.1 (xo.2.2 2)).trans ?_
    exact (cV_e e')
  · exact ((fMo.m (Z' := fun b => b = x ∨ ∃ j, 0 ≤ j ∧ j < hEN H 2 ∧ b = hEC H 2 j) (fun _ _ z => Or.inl z) (Nat.le_refl _) (Nat.le_refl _)).tr (f'.m (fun _ _ z => Or.inr z) (Nat.le_refl _) (Nat.le_refl _))).m (fun _ _ z => z) (by omega) (by omega)
  · exact ((ai1.fo fij (by omega)).fo fjo (by omega)).fo f' (cx _ (by omega))
  · exact ((ai2.fo fij (by omega)).fo fjo (by omega)).fo f' (cx _ (by omega))
  · exact ((ai3.fo fij (by omega)).fo fjo (by omega)).fo f' (cx _ (by omega))
  · exact ((ai5.fo fij (by omega)).fo fjo (by omega)).fo f' (cx _ (by omega))
  · refine (f'.p (by omega) (cx _ (by omega)) _).trans ?_
    refine (fo.p (by omega) (by omega) _).trans ?_
    refine (fn.p (by omega) (by omega) _).trans ?_
    refine (fm.p (by omega) (by omega) _).trans (al7.2 i p).1
  · refine (f'.p (by omega) (cx _ (by omega)) _).trans ?_
    refine (fo.p (by omega) (by omega) _).trans ?_
    refine (fn.p (by omega) (by omega) _).trans (am12.2 i p).1
  · exact ((((ak.fo fl (by omega)).fo fm (by omega)).fo fn (by omega)).fo fo (by omega)).fo f' (cx _ (by omega))
theorem kp50 (hd : 13 ≤ d) (hC : CT M) (hO : OldOK L xs M) (hH : HS N T ex M H) (hx : ln M = x + 1) (h259 : 259 ≤ x) (hX : ObF M x (fun _ => 0) (fun _ => none)) (hr : hOw H x = 0) (he : 0 ≤ e ∧ e ≤ 1000) (hG : OpB G e) (h9 : M.1 65 9 = iI e) (hA : CA1 M G e) (hM : CMK M G e) (hS : ∀ j, 0 ≤ j → j < hEN H 2 → 0 ≤ hEF H 2 2 j ∧ hEF H 2 2 j ≤ 4) (hnc : 0 ≤ hEN H 3 ∧ hEN H 3 ≤ 16) : ∃ M', runX d 50 [va_rf (some x), va_rf (some 65), .int v] M = some (.null, M') ∧ Fo (fun b => b = x ∨ ∃ j, 0 ≤ j ∧ j < hEN H 2 ∧ b = hEC H 2 j) 17 10200 M M' ∧ ln M' = x + 18 ∧ HS N T (ex + 700) M' (sCl H (hEN H 2)) ∧ ObF M' x (pcV v (iI e)) (pcF H x) ∧ PAr M' x e.toNat (hEN H 3).toNat (mcn G e.toNat).toNat G (mtf G e.toNat) ∧ Ar M' (x + 6) (hEN H 3).toNat (fun j => iI j) ∧ M'.2.2.2[x + 16]? = some (100, (mcn G e.toNat).toNat) ∧ M'.2.2.2[x + 17]? = some (100, (mcn G e.toNat).toNat) := by
  obtain ⟨d, rfl⟩ : ∃ e, d = e + 1 := ⟨d - 1, by omega⟩
  obtain ⟨Mi, e1, f1, f2, f3, f4, f5, f6, f7⟩ := kp50a (d := d) (v := v) (by omega) hC hO hH hx h259 hX hr he hG h9 hA hM hS hnc
  obtain ⟨M', e2, g⟩ := kp50b (d := d) (by omega) hx h259 hH hX hr he hS hnc f1 f2 f3 f4 f5 f6 f7
  exact ⟨M', e1.trans e2, g⟩
end S89c
