/-! the first object's machine: DRAW -/
def W_d : List (Nat × Nat) := [(88, 18), (89, 4), (143, 5), (143, 6), (144, 9999), (145, 9999)]
section S99d
variable {d : Nat} {e s s' u : ZS} {κ : ZK} {M M' M1 M2 : Mem} {a b j : Nat} {v v1 v2 : Int32} {c t k i i' j' w n p o fl ar : Int} {k1 k2 : Nat} {Y : Nat → Int → Int}
/-- what is not of the open codes changes -/
theorem zCM.glob (h : zCM e κ s M) (hG : zCG e κ s' M') (h2 : M'.2 = M.2) (f : ∀ a j, (a = 92 ∨ (94 ≤ a ∧ a < 106) ∨ (a = 88 ∧ (j = 12 ∨ j = 14 ∨ j = 15 ∨ j = 19))) → M'.1 a j = M.1 a j) (g : ∀ k, k = 0 ∨ k = 2 ∨ k = 3 ∨ k = 5 ∨ k = 6 ∨ k = 16 → s'.1 k = s.1 k) (g2 : s'.2 0 = s.2 0 ∧ s'.2 1 = s.2 1) (hn : s.1 0 0 0 ≤ 12) : zCM e κ s' M' := by
  obtain ⟨hC, -, hF, h14, h12, h15, h19⟩ := h
  have e0 : s'.1 0 0 0 = s.1 0 0 0 := by rw [g 0 (by omega)]
  have ef : zf s' = zf s := by unfold zf; rw [e0]
  refine ⟨⟨fun q y => by rw [show M'.2.2.2 = M.2.2.2 from congrArg (fun z => z.2.2) h2]; exact hC.1 q y, fun q y => by rw [show M'.2.2.1 = M.2.2.1 from congrArg (fun z => z.2.1) h2]; exact hC.2 q y⟩, hG, fun i p q => ?_, by rw [f _ _ (by omega), e0]; exact h14, ?_, by rw [f _ _ (by omega)]; exact h15, by rw [f _ _ (by omega)]; exact h19⟩
  · rw [e0] at q
    exact (hF i p q).lo ⟨p, by omega⟩ (fun j => f _ _ (by omega)) (fun k x y => f _ _ (by omega)) (fun k x y => f _ _ (by omega)) (by rw [g 2 (by omega)]) (by rw [g 3 (by omega)]) (by rw [g 5 (by omega)]) (by rw [g 6 (by omega)]) (by rw [g 16 (by omega)]) (fun k => by rw [g2.1]) (fun k => by rw [g2.2])
  · rw [f _ _ (by omega), h12]
    unfold ztp zh
    rw [ef, g 6 (by omega), g 3 (by omega)]
theorem zCG.dr (h : zCG e κ s M) (hk : zK8 κ) (f : ∀ a j, inW W_d a j = false → M'.1 a j = M.1 a j) (g1 : ∀ k, k = 8 ∨ k = 10 ∨ k = 12 ∨ k = 15 ∨ k = 17 → s'.1 k = s.1 k) (g2 : ∀ k, k = 2 ∨ k = 3 ∨ k = 7 ∨ k = 8 ∨ k = 12 ∨ k = 13 → s'.2 k = s.2 k) (g3 : s'.1 1 0 0 = 6 ↔ s.1 1 0 0 = 6) (n1 : M'.1 88 18 = s'.2 4 0 0) (n2 : M'.1 89 4 = iI (s'.1 11 0 0)) (n3 : e.1 10 2 0 = 1 → (M'.1 143 6 = iI (s'.1 11 0 0) ∧ M'.1 143 5 = iI (s'.1 14 0 0) ∧ s'.1 11 0 0 ≤ s'.1 14 0 0) ∧ ∀ t, 0 ≤ t → t < s'.1 14 0 0 → M'.1 144 t.toNat = s'.2 9 t 0 ∧ M'.1 145 t.toNat = s'.2 10 t 0) : zCG e κ s' M' := by
  obtain ⟨h1, h2, h3, ⟨h4, h5, h6, h7⟩, h8, h9, h10⟩ := h
  have ecw : zcw s' = zcw s := by
    unfold zcw
    rw [g1 12 (by omega)]
    by_cases y : s.1 1 0 0 = 6
    · rw [if_pos y, if_pos (g3.2 y)]
    · rw [if_neg y, if_neg fun q => y (g3.1 q)]
  have wk : ∀ a j, 259 ≤ a → inW W_d a j = false := fun a j p => inW_n (fun z y => by
    have g : ∀ z, z ∈ W_d → z.1 < 259 := by decide
    have := g z y
    omega) j
  have wt : ∀ a j, 100 ≤ a → a < 143 → inW W_d a j = false := fun a j p q => inW_n (fun z y => by
    have g : ∀ z, z ∈ W_d → z.1 < 100 ∨ 143 ≤ z.1 := by decide
    have := g z y
    omega) j
  have a0 := hk 0 (by omega)
  have a1 := hk 1 (by omega)
  have a2 := hk 2 (by omega)
  refine ⟨fun id p q => ?_, fun id p q r i u w => ?_, fun k p q => ?_, ⟨n1, ?_, n2, ?_⟩, fun x p u w => ?_, fun q p r => ?_, n3⟩
  · rw [f _ _ (wt _ _ (by omega) (by omega)), g2 2 (by omega)]
    rw [g1 8 (by omega)] at q
    exact h1 id p q
  · rw [f _ _ (wt _ _ (by omega) (by omega)), g2 3 (by omega)]
    rw [g1 8 (by omega)] at r
    exact h2 id p q r i u w
  · rw [f _ _ (wt _ _ (by omega) (by omega)), g1 8 (by omega)]; exact h3 k p q
  · rw [f _ _ (by decide), g1 10 (by omega)]; exact h5
  · rw [f _ _ (by decide), ecw]; exact h7
  · rw [f _ _ (wk _ _ a0), f _ _ (wk _ _ a1), f _ _ (wk _ _ a2), g2 7 (by omega), g2 8 (by omega), g1 15 (by omega)]
    exact h8 x p u w
  · obtain ⟨c1, c2, c3⟩ := h9 q p r
    have t1 : 108 ≤ zTw q ∧ zTw q ≤ 136 := by unfold zTw; omega
    rw [f _ _ (wt _ _ (by omega) (by omega)), g1 17 (by omega), g2 12 (by omega), g2 13 (by omega)]
    exact ⟨c1, fun j x y => by rw [f _ _ (wt _ _ (by omega) (by omega))]; exact c2 j x y, fun j x y => by rw [f _ _ (wt _ _ (by omega) (by omega))]; exact c3 j x y⟩
/-- a DRAW of a row -/
theorem mC14 {q l : Int} (hd : 1 ≤ d) (hC : CT M) (h6 : M.1 143 6 = iI q) (h5 : M.1 143 5 = iI l) (hq : 0 ≤ q ∧ q ≤ l ∧ q < 1000 ∧ l ≤ 1000) : ∃ M' r, runX d 14 [va_rf (some 143), .int v] M = some (.int r, M') ∧ M'.2 = M.2 ∧ (∀ a j, inW W_d a j = false → M'.1 a j = M.1 a j) ∧ (M'.1 88 18 = M.1 88 18 ∧ M'.1 89 4 = M.1 89 4) ∧ M'.1 143 6 = iI (q + 1) ∧ (q < l → r = M.1 144 q.toNat ∧ M'.1 143 5 = iI l ∧ (∀ t : Int, 0 ≤ t → M'.1 144 t.toNat = M.1 144 t.toNat ∧ M'.1 145 t.toNat = M.1 145 t.toNat)) ∧ (q = l → r = 0 ∧ M'.1 143 5 = iI (l + 1) ∧ (∀ t : Int, 0 ≤ t → t ≠ l → M'.1 144 t.toNat = M.1 144 t.toNat ∧ M'.1 145 t.toNat = M.1 145 t.toNat) ∧ M'.1 144 l.toNat = 0 ∧ M'.1 145 l.toNat = v) := by
  obtain ⟨d, rfl⟩ : ∃ e, d = e + 1 := ⟨d - 1, by omega⟩
  have k := ck_143 hC
  have wq : ∀ (M0 : Mem) (a j : Nat) (v : Int32), inW W_d a j = true → ∀ b i, inW W_d b i = false → (sI M0 a j v).1 b i = M0.1 b i := fun M0 a j v h b i p => by
    by_cases c : b = a
    · by_cases c2 : i = j
      · subst c; subst c2; rw [h] at p; exact absurd p (by decide)
      · exact sI_nej c2
    · exact sI_ne c
  have tl : ∀ M0 : Mem, CT M0 → M0.1 143 6 = iI q → (jv (fun (s4 : Mem) => gtI (3, 7) s4 (some 143) 6 fun x5 => ptI (3, 7) s4 (some 143) 6 (x5 + ((1 : Int32))) fun M6 => gtP (3, 7) M6 (some 143) 3 fun x7 => gtI (3, 7) M6 (some 143) 6 fun x8 => alI 100 M6 x7 (x8 - ((1 : Int32))) fun x9 => some (.int x9, M6)) M0 : XA) = some (.int (M0.1 144 q.toNat), sI M0 143 6 (iI (q + 1))) := fun M0 C0 h0 => by
    have k0 := ck_143 C0
    rw [jv_e, gtI_q k0 h0, ptI_q (z := q + 1) k0 (adI rfl li_1), gtP_q (M := sI M0 143 6 (iI (q + 1))) k0 (cf_143_3 C0), gtI_q (M := sI M0 143 6 (iI (q + 1))) k0 sI_eq, alI_q (n := 1000) (z := q) (M := sI M0 143 6 (iI (q + 1))) (w := M0.1 144 q.toNat) (ck_144 C0) (cvI (sbI rfl li_1) (by omega)) (by omega) (sI_ne (by decide))]
  rw [r14]; unfold b14; rw [aR_e, aI_e, aZ_e]; unfold c14
  rw [gtI_q k h6, if_pos (show iI q < 1000 from lsI_p (y := 1000) rfl rfl (by omega)), gtI_q k h6, gtI_q k h5, jn_v]
  by_cases c : q < l
  · rw [if_pos (lsI_p rfl rfl (by omega)), tl M hC h6]
    refine ⟨_, _, rfl, rfl, wq _ _ _ _ (by decide), ⟨sI_ne (by decide), sI_ne (by decide)⟩, sI_eq, fun _ => ⟨rfl, (sI_nej (by decide)).trans h5, fun t p => ⟨sI_ne (by decide), sI_ne (by decide)⟩⟩, fun z => by omega⟩
  · have ql : q = l := by omega
    obtain ⟨Ma, hMa⟩ : ∃ z, z = sI (sI (sI M 144 q.toNat (iI 0)) 145 q.toNat v) 143 5 (iI (q + 1)) := ⟨_, rfl⟩
    have Ca : CT Ma := by rw [hMa]; exact hC
    have a6 : Ma.1 143 6 = iI q := by rw [hMa]; exact (sI_nej (by decide)).trans ((sI_ne (by decide)).trans ((sI_ne (by decide)).trans h6))
    rw [if_neg (lsI_n rfl rfl (by omega)), gtP_q k (cf_143_3 hC), gtI_q k h6, asI_q (n := 1000) (z := q) (y := 0) (ck_144 hC) rfl (by omega) li_0, gtP_q (M := sI M 144 q.toNat (iI 0)) k (cf_143_4 hC), gtI_q (M := sI M 144 q.toNat (iI 0)) (w := iI q) k ((sI_ne (by decide)).trans h6), asI_e (M := sI M 144 q.toNat (iI 0)) (ck_145 hC) (by omega) (by omega) (by omega), gtI_q (M := sI (sI M 144 q.toNat (iI 0)) 145 q.toNat v) (w := iI q) k ((sI_ne (by decide)).trans ((sI_ne (by decide)).trans h6)), ptI_q (M := sI (sI M 144 q.toNat (iI 0)) 145 q.toNat v) (z := q + 1) k (adI rfl li_1), ← hMa, tl Ma Ca a6]
    refine ⟨_, _, rfl, by rw [hMa]; rfl, fun b i p => ?_, ⟨?_, ?_⟩, sI_eq, fun z => by omega, fun _ => ⟨?_, ?_, fun t p r => ⟨?_, ?_⟩, ?_, ?_⟩⟩
    · rw [hMa, wq _ _ _ _ (by decide) b i p, wq _ _ _ _ (by decide) b i p, wq _ _ _ _ (inW_c (by decide) _) b i p, wq _ _ _ _ (inW_c (by decide) _) b i p]
    · rw [hMa]; exact (sI_ne (by decide)).trans ((sI_ne (by decide)).trans ((sI_ne (by decide)).trans (sI_ne (by decide))))
    · rw [hMa]; exact (sI_ne (by decide)).trans ((sI_ne (by decide)).trans ((sI_ne (by decide)).trans (sI_ne (by decide))))
    · rw [hMa]; exact ((sI_ne (by decide)).trans ((sI_ne (by decide)).trans sI_eq)).trans li_0.symm
    · rw [hMa, ← ql]; exact (sI_nej (by decide)).trans sI_eq
    · rw [hMa]; exact (sI_ne (by decide)).trans ((sI_ne (by decide)).trans ((sI_ne (by decide)).trans (sI_nej (by omega))))
    · rw [hMa]; exact (sI_ne (by decide)).trans ((sI_ne (by decide)).trans ((sI_nej (by omega)).trans (sI_ne (by decide))))
    · rw [hMa, ← ql]; exact ((sI_ne (by decide)).trans ((sI_ne (by decide)).trans ((sI_ne (by decide)).trans sI_eq))).trans li_0.symm
    · rw [hMa, ← ql]; exact (sI_ne (by decide)).trans ((sI_ne (by decide)).trans sI_eq)
theorem zi11 : zi (znx (zpush s v)) 11 0 0 c = znx (zpush (zi s 11 0 0 c) v) := by
  have a : zi (zi (zi (zw s 1 (zf s) (zh s) v) 3 (zf s) 0 (zh s + 1)) 2 (zf s) 0 (zpc s + 1)) 11 0 0 c = zi (zi (zi (zw s 1 (zf s) (zh s) v) 3 (zf s) 0 (zh s + 1)) 11 0 0 c) 2 (zf s) 0 (zpc s + 1) := zi_cm (by decide)
  have b : zi (zi (zw s 1 (zf s) (zh s) v) 3 (zf s) 0 (zh s + 1)) 11 0 0 c = zi (zi (zw s 1 (zf s) (zh s) v) 11 0 0 c) 3 (zf s) 0 (zh s + 1) := zi_cm (by decide)
  exact a.trans (congrArg (fun z => zi z 2 (zf s) 0 (zpc s + 1)) b)
/-- DRAW -/
theorem zc39 (hd : 4 ≤ d) (h : zCM e κ s M) (hE : zCE e κ M) (hw : zWT e s) (hm : s.1 1 0 0 = 0) (hl : zLy s) (hh : 1 ≤ zh s) (h27 : zop e (zpc s) ≠ 27) (hs : zpc s + 1 < 1000 ↔ zpc s < 1000) (hb : 0 ≤ s.1 11 0 0 ∧ s.1 11 0 0 < 1000 ∧ s.1 14 0 0 ≤ 1000) (hw' : zWT e (zdraw e s (ztop s 1))) : ∃ M', runX d 39 [va_rf (some 88), va_rf (some (94 + (zf s).toNat))] M = some (.null, M') ∧ zOb e κ (zdraw e s (ztop s 1)) M M' := by
  obtain ⟨d, rfl⟩ : ∃ e, d = e + 1 := ⟨d - 1, by omega⟩
  have hk := hE.2.2.2.2.1.k8
  have h45 := hl.2.2.2
  have n12 := hl.1.2
  have k := ck_88 h.1
  obtain ⟨p1, c1⟩ := zp33 (d := d) (by omega) h hl hk hh
  obtain ⟨M1, hM1⟩ : ∃ z, z = sI M 88 12 (iI (ztp s - 1)) := ⟨_, rfl⟩
  rw [← hM1] at p1 c1
  have l1 := hl.dn (c := 1) (by omega)
  have f1 : zFo κ M M1 := by rw [hM1]; exact (zFf.sI zFf.r (by decide)).fo
  have E1 := hE.fo f1
  have C1 := c1.1
  have k1 := ck_88 C1
  have zfe : zf (zdn s 1) = zf s := rfl
  rw [r39]; unfold b39; rw [aR_e, aR_e, aZ_e]; unfold c39
  rw [vC_e k, cI_e p1]
  by_cases cn : (1 : Int32) ≤ ztop s 1
  · have nz : ¬ ztop s 1 = 0 := fun q => by rw [q] at cn; exact absurd cn (by decide)
    obtain ⟨g4a, g4b, g4c, g4d⟩ := c1.2.1.2.2.2.1
    have g4c : M1.1 89 4 = iI (s.1 11 0 0) := g4c
    have g4a : M1.1 88 18 = s.2 4 0 0 := g4a
    have fin : ∀ (M3 : Mem) (s3 : ZS) (r : Int32), zCM e κ s3 M3 → zf s3 = zf s → zh s3 = zh s - 1 → zpc s3 = zpc s → s3.1 1 0 0 = 0 → zLy s3 → zFo κ M M3 → zdraw e s (ztop s 1) = znx (zpush s3 r) → ∃ M', (vC (4, 22) M3 (some 88) <| cV (runX d 32 [va_rf (some 88), .int r] M3) fun M13 => (jv (fun (s7 : Mem) => alI 100 s7 (some (94 + (zf s).toNat)) ((0 : Int32)) fun x8 => asI 100 s7 (some (94 + (zf s).toNat)) ((0 : Int32)) ((x8 + ((1 : Int32)))) fun M9 => some (.null, M9)) M13) : XA) = some (.null, M') ∧ zOb e κ (zdraw e s (ztop s 1)) M M' := fun M3 s3 r c3 e1 e2 e3 e4 l3 f3 ed => by
      obtain ⟨M4, r4, c4, f4⟩ := zp32 (d := d) (v := r) (by omega) c3 l3 hk (by omega)
      obtain ⟨M5, r5, c5, f5⟩ := zpat c4 (l3.push (by omega)) hk (by show zpc s3 + 1 < 1000 ↔ zpc s3 < 1000; rw [e3]; exact hs)
      rw [ed] at hw' ⊢
      refine ⟨M5, ?_, c5.ob (by show s3.1 1 0 0 = 0; exact e4) hw' (f3.tr (f4.tr f5)) hE⟩
      rw [vC_e (ck_88 c3.1), cV_e r4, jv_e]
      have zz : zf (zpush s3 r) = zf s := e1
      rw [zz] at r5
      exact r5 _
    rw [if_pos cn, gtP_q k1 (cf_88_0 C1), gtI_q (ck_89 C1) g4c, ptI_q (z := s.1 11 0 0 + 1) (ck_89 C1) (adI rfl li_1)]
    obtain ⟨M2, hM2⟩ : ∃ z, z = sI M1 89 4 (iI (s.1 11 0 0 + 1)) := ⟨_, rfl⟩
    rw [← hM2]
    have C2 : CT M2 := by rw [hM2]; exact C1
    have k2 := ck_88 C2
    have f2 : zFo κ M M2 := f1.tr (by rw [hM2]; exact zFo.sI (by decide))
    have lk : M2.2.2.1 88 4 = if e.1 10 2 0 = 1 then some 143 else none := by
      rw [f2.p]; exact hE.2.2.2.2.1.1.2.2.2.2
    by_cases cl : e.1 10 2 0 = 1
    · rw [if_pos cl] at lk
      rw [gtP_q k2 lk, jn_v, if_neg (fun q => nomatch q), gtP_q k2 lk, vC_e (ck_143 C2)]
      obtain ⟨⟨u6, u5, u4⟩, u7⟩ := c1.2.1.2.2.2.2.2.2 cl
      have u6' : M2.1 143 6 = iI (s.1 11 0 0) := by rw [hM2]; exact (sI_ne (by decide)).trans u6
      have u5' : M2.1 143 5 = iI (s.1 14 0 0) := by rw [hM2]; exact (sI_ne (by decide)).trans u5
      have u4' : s.1 11 0 0 ≤ s.1 14 0 0 := u4
      obtain ⟨M3, r, x1, x2, x3, ⟨x4, x5⟩, x6, x7, x8⟩ := mC14 (d := d) (v := ztop s 1) (by omega) C2 u6' u5' (by omega)
      have f3 : zFo κ M2 M3 := ⟨x2, fun a j p _ _ _ => x3 a j (inW_m (L := W_d) (L' := W_x) (by decide) p)⟩
      have a18 : M3.1 88 18 = s.2 4 0 0 := by rw [x4, hM2]; exact (sI_ne (by decide)).trans g4a
      have a4 : M3.1 89 4 = iI (s.1 11 0 0 + 1) := by rw [x5, hM2]; exact sI_eq
      have agree : ∀ a j, inW W_d a j = false → M3.1 a j = M1.1 a j := fun a j p => by
        rw [x3 a j p, hM2]
        by_cases y : a = 89
        · by_cases y2 : j = 4
          · rw [y, y2] at p; exact absurd p (by decide)
          · exact sI_nej y2
        · exact sI_ne y
      have fr : ∀ a j, (a = 92 ∨ (94 ≤ a ∧ a < 106) ∨ (a = 88 ∧ (j = 12 ∨ j = 14 ∨ j = 15 ∨ j = 19))) → M3.1 a j = M1.1 a j := fun a j p => agree a j (by
        rcases p with p | p | ⟨p, q⟩
        · subst p; exact inW_n (by decide) j
        · refine inW_n (fun z y => ?_) j
          have g : ∀ z, z ∈ W_d → z.1 < 94 ∨ 106 ≤ z.1 := by decide
          have := g z y
          omega
        · subst p
          rcases q with q | q | q | q <;> subst q <;> decide)
      have m2e : M3.2 = M1.2 := by rw [x2, hM2]; rfl
      by_cases ct : s.1 11 0 0 = s.1 14 0 0
      · obtain ⟨y1, y2, y3, y4, y5⟩ := x8 ct
        obtain ⟨s3, hs3⟩ : ∃ s3, s3 = zi (zdn (zi (zw (zw s 9 (s.1 14 0 0) 0 0) 10 (s.1 14 0 0) 0 (ztop s 1)) 14 0 0 (s.1 14 0 0 + 1)) 1) 11 0 0 (s.1 11 0 0 + 1) := ⟨_, rfl⟩
        have ed : zdraw e s (ztop s 1) = znx (zpush s3 r) := by
          unfold zdraw
          rw [if_pos cn, if_pos cl, if_pos ct, y1, hs3]
          exact zi11
        have s32 : s3.2 = (zw (zw s 9 (s.1 14 0 0) 0 0) 10 (s.1 14 0 0) 0 (ztop s 1)).2 := by rw [hs3]; rfl
        have G3 : zCG e κ s3 M3 := by
          refine c1.2.1.dr hk agree (fun k p => ?_) (fun k p => ?_) ?_ ?_ ?_ (fun _ => ⟨⟨?_, ?_, ?_⟩, fun t p q => ?_⟩)
          · rw [hs3]; rcases p with p | p | p | p | p <;> subst p <;> rfl
          · rw [s32]; funext x y; exact (zw_k (by omega)).trans (zw_k (by omega))
          · rw [hs3]; exact Iff.rfl
          · rw [hs3]; exact a18
          · rw [hs3]; exact a4.trans (congrArg iI zi_e.symm)
          · rw [hs3]; exact x6.trans (congrArg iI zi_e.symm)
          · rw [hs3, y2]; exact congrArg iI ((zi_k (by decide)).trans ((zi_k (by decide)).trans zi_e)).symm
          · have q1 : s3.1 11 0 0 = s.1 11 0 0 + 1 := by rw [hs3]; exact zi_e
            have q2 : s3.1 14 0 0 = s.1 14 0 0 + 1 := by rw [hs3]; exact (zi_k (by decide)).trans ((zi_k (by decide)).trans zi_e)
            omega
          · have q2 : s3.1 14 0 0 = s.1 14 0 0 + 1 := by rw [hs3]; exact (zi_k (by decide)).trans ((zi_k (by decide)).trans zi_e)
            rw [q2] at q
            by_cases y : t = s.1 14 0 0
            · have e9 : s3.2 9 t 0 = 0 := by rw [s32, y]; exact (zw_k (by decide)).trans zw_e
              have e10 : s3.2 10 t 0 = ztop s 1 := by rw [s32, y]; exact zw_e
              rw [e9, e10, y]
              exact ⟨y4, y5⟩
            · have e9 : s3.2 9 t 0 = s.2 9 t 0 := by rw [s32]; exact (zw_k (by decide)).trans (zw_i y)
              have e10 : s3.2 10 t 0 = s.2 10 t 0 := by rw [s32]; exact (zw_i y).trans (zw_k (by decide))
              rw [e9, e10]
              obtain ⟨v1, v2⟩ := y3 t p y
              have u8 := u7 t p (show t < s.1 14 0 0 by omega)
              rw [v1, v2, hM2]
              exact ⟨(sI_ne (by decide)).trans u8.1, (sI_ne (by decide)).trans u8.2⟩
        have c3 := c1.glob G3 m2e fr (fun k p => by rw [hs3]; rcases p with p | p | p | p | p | p <;> subst p <;> rfl) (by rw [hs3]; exact ⟨rfl, rfl⟩) n12
        obtain ⟨M', z1, z2⟩ := fin M3 s3 r c3 (by rw [hs3]; rfl) (by rw [hs3]; exact zdn_h (s := s) (c := 1)) (by rw [hs3]; rfl) (by rw [hs3]; exact hm) (by rw [hs3]; exact l1) (f2.tr f3) ed
        exact ⟨M', by rw [cI_e x1]; exact z1, z2⟩
      · obtain ⟨y1, y2, y3⟩ := x7 (by omega)
        obtain ⟨s3, hs3⟩ : ∃ s3, s3 = zi (zdn s 1) 11 0 0 (s.1 11 0 0 + 1) := ⟨_, rfl⟩
        have rv : r = s.2 9 (s.1 11 0 0) 0 := by
          have u8 := (u7 (s.1 11 0 0) hb.1 (show s.1 11 0 0 < s.1 14 0 0 by omega)).1
          rw [y1, hM2]
          exact (sI_ne (by decide)).trans u8
        have ed : zdraw e s (ztop s 1) = znx (zpush s3 r) := by
          unfold zdraw
          rw [if_pos cn, if_pos cl, if_neg ct, rv, hs3]
          exact zi11
        have G3 : zCG e κ s3 M3 := by
          refine c1.2.1.dr hk agree (fun k p => ?_) (fun k p => ?_) ?_ ?_ ?_ (fun _ => ⟨⟨?_, ?_, ?_⟩, fun t p q => ?_⟩)
          · rw [hs3]; rcases p with p | p | p | p | p <;> subst p <;> rfl
          · rw [hs3]; rfl
          · rw [hs3]; exact Iff.rfl
          · rw [hs3]; exact a18
          · rw [hs3]; exact a4.trans (congrArg iI zi_e.symm)
          · rw [hs3]; exact x6.trans (congrArg iI zi_e.symm)
          · rw [hs3, y2]; rfl
          · have q1 : s3.1 11 0 0 = s.1 11 0 0 + 1 := by rw [hs3]; exact zi_e
            have q2 : s3.1 14 0 0 = s.1 14 0 0 := by rw [hs3]; rfl
            omega
          · have q' : t < s.1 14 0 0 := by rw [hs3] at q; exact q
            obtain ⟨v1, v2⟩ := y3 t p
            have u8 := u7 t p q'
            rw [v1, v2, hM2, hs3]
            exact ⟨(sI_ne (by decide)).trans u8.1, (sI_ne (by decide)).trans u8.2⟩
        have c3 := c1.glob G3 m2e fr (fun k p => by rw [hs3]; rcases p with p | p | p | p | p | p <;> subst p <;> rfl) (by rw [hs3]; exact ⟨rfl, rfl⟩) n12
        obtain ⟨M', z1, z2⟩ := fin M3 s3 r c3 (by rw [hs3]; rfl) (by rw [hs3]; exact zdn_h (s := s) (c := 1)) (by rw [hs3]; rfl) (by rw [hs3]; exact hm) (by rw [hs3]; exact l1) (f2.tr f3) ed
        exact ⟨M', by rw [cI_e x1]; exact z1, z2⟩
    · rw [if_neg cl] at lk
      rw [gtP_q k2 lk, jn_v, if_pos rfl]
      have a18 : M2.1 88 18 = s.2 4 0 0 := by rw [hM2]; exact (sI_ne (by decide)).trans g4a
      rw [gtI_q k2 a18, ptI_e k2]
      obtain ⟨X, hX⟩ : ∃ X, X = s.2 4 0 0 * (1103515245 : Int32) + 12345 := ⟨_, rfl⟩
      obtain ⟨M3, hM3⟩ : ∃ z, z = sI M2 88 18 X := ⟨_, rfl⟩
      rw [← hX, ← hM3]
      have C3 : CT M3 := by rw [hM3]; exact C2
      rw [gtI_q (w := X) (ck_88 C3) (by rw [hM3]; exact sI_eq), if_neg nz]
      have f3 : zFo κ M M3 := f2.tr (by rw [hM3]; exact zFo.sI (by decide))
      obtain ⟨s3, hs3⟩ : ∃ s3, s3 = zi (zdn (zw s 4 0 0 X) 1) 11 0 0 (s.1 11 0 0 + 1) := ⟨_, rfl⟩
      have ed : zdraw e s (ztop s 1) = znx (zpush s3 (xrem (zsh X) (ztop s 1))) := by
        unfold zdraw
        rw [if_pos cn, if_neg cl, ← hX, hs3]
        exact zi11
      have agree : ∀ a j, inW W_d a j = false → M3.1 a j = M1.1 a j := fun a j p => by
        rw [hM3, hM2]
        have q1 : ¬ (a = 88 ∧ j = 18) := fun z => by rw [z.1, z.2] at p; exact absurd p (by decide)
        have q2 : ¬ (a = 89 ∧ j = 4) := fun z => by rw [z.1, z.2] at p; exact absurd p (by decide)
        by_cases y : a = 88
        · rw [y]
          exact (sI_nej fun z => q1 ⟨y, z⟩).trans (sI_ne (by decide))
        · refine (sI_ne y).trans ?_
          by_cases y2 : a = 89
          · exact sI_nej fun z => q2 ⟨y2, z⟩
          · exact sI_ne y2
      have fr : ∀ a j, (a = 92 ∨ (94 ≤ a ∧ a < 106) ∨ (a = 88 ∧ (j = 12 ∨ j = 14 ∨ j = 15 ∨ j = 19))) → M3.1 a j = M1.1 a j := fun a j p => agree a j (by
        rcases p with p | p | ⟨p, q⟩
        · subst p; exact inW_n (by decide) j
        · refine inW_n (fun z y => ?_) j
          have g : ∀ z, z ∈ W_d → z.1 < 94 ∨ 106 ≤ z.1 := by decide
          have := g z y
          omega
        · subst p
          rcases q with q | q | q | q <;> subst q <;> decide)
      have s32 : s3.2 = (zw s 4 0 0 X).2 := by rw [hs3]; rfl
      have G3 : zCG e κ s3 M3 := by
        refine c1.2.1.dr hk agree (fun k p => ?_) (fun k p => ?_) ?_ ?_ ?_ (fun z => absurd z cl)
        · rw [hs3]; rcases p with p | p | p | p | p <;> subst p <;> rfl
        · rw [s32]; funext x y; exact zw_k (by omega)
        · rw [hs3]; exact Iff.rfl
        · rw [s32, hM3]; exact sI_eq.trans zw_e.symm
        · rw [hs3, hM3, hM2]; exact ((sI_ne (by decide)).trans sI_eq).trans (congrArg iI zi_e.symm)
      have c3 := c1.glob G3 (by rw [hM3, hM2]; rfl) fr (fun k p => by rw [hs3]; rcases p with p | p | p | p | p | p <;> subst p <;> rfl) (by rw [hs3]; exact ⟨rfl, rfl⟩) n12
      exact fin M3 s3 _ c3 (by rw [hs3]; rfl) (by rw [hs3]; exact zdn_h (s := s) (c := 1)) (by rw [hs3]; rfl) (by rw [hs3]; exact hm) (by rw [hs3]; exact l1) f3 ed
  · have ed : zdraw e s (ztop s 1) = zerr (zdn s 1) 3 3 := if_neg cn
    obtain ⟨M', r1, r2⟩ := mC41 (d := d) (s := zdn s 1) (M := M1) (v1 := 3) (v2 := 1) (fl := 1) (m := 3) (by omega) c1 E1 li_1 (Or.inl ⟨rfl, rfl⟩) (zerr_wt hw hm (Or.inl rfl)) h27 (by rw [show (zdn s 1).1 1 0 0 = s.1 1 0 0 from rfl]; omega)
    refine ⟨M', ?_, by rw [ed]; exact (r2.fo f1).ob⟩
    rw [if_neg cn, vC_e k1, cV_e r1]
end S99d
