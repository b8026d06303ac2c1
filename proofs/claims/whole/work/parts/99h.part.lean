/-! the first object's machine: members, rows, links, DOUBLES -/
section S99h
variable {d : Nat} {e s s' u : ZS} {κ : ZK} {M M' M1 M2 : Mem} {a b j N x y : Nat} {v v1 v2 v3 w : Int32} {c t k i n p o q id fl ar st key par r : Int} {Y : Nat → Int → Int}
theorem iI_of (v : Int32) : v = iI v.toInt ∧ -2147483648 ≤ v.toInt ∧ v.toInt ≤ 2147483647 := by
  have h1 := Int32.le_toInt v
  have h2 := Int32.toInt_lt v
  refine ⟨(iI_eta _).symm, by simpa using h1, ?_⟩
  have h3 : v.toInt < 2147483648 := by simpa using h2
  omega
/-- where a member lies -/
theorem zE4.bd (hE : zE4 e) (hi : zId e id) : 0 ≤ e.1 23 id 0 ∧ e.1 23 id 0 + zlen e id ≤ 9600 := by
  have lay := hE.1 id hi
  by_cases y0 : id < 96
  · rw [if_pos y0, if_pos y0] at lay; omega
  · rw [if_neg y0, if_neg y0] at lay; omega
/-- one number of a member changes -/
theorem zCM.cell (h : zCM e κ s M) (hl : zLy s) (hk : zK8 κ) (hE : zE4 e) (hi : zId e id) (hx : 0 ≤ i ∧ i < zlen e id) (hs : s' = zw s 2 id 0 v ∧ e.1 4 id 0 ≠ 3 ∧ i = 0 ∨ s' = zw s 3 id i v ∧ e.1 4 id 0 = 3) : zCM e κ s' (sI M 106 (e.1 23 id 0 + i).toNat v) := by
  have b0 := zE4.bd hE hi
  have n12 := hl.1.2
  have e1 : s'.1 = s.1 := by rcases hs with ⟨z, -⟩ | ⟨z, -⟩ <;> rw [z] <;> rfl
  have far : ∀ id2, zId e id2 → id2 ≠ id → ∀ i2, 0 ≤ i2 → i2 < zlen e id2 → (e.1 23 id2 0 + i2).toNat ≠ (e.1 23 id 0 + i).toNat := fun id2 z1 z2 i2 z3 z4 => by
    have dd := hE.2 id2 id z1 hi z2
    have b2 := zE4.bd hE z1
    omega
  have W : ∀ k, k ≠ 2 → k ≠ 3 → s'.2 k = s.2 k := fun k p q => by
    rcases hs with ⟨z, -⟩ | ⟨z, -⟩ <;> rw [z] <;> (funext x y; exact zw_k (by omega))
  refine h.glob (h.2.1.oth hk (fun a j p q => sI_ne p) (fun k p => by rw [e1]) (fun k p => W k (by omega) (by omega)) (by rw [e1]) (fun id2 z1 z2 => ?_) (fun id2 z1 z2 z3 i2 z4 z5 => ?_) (fun x z1 z2 => ?_)) rfl (fun a j p => sI_ne (by omega)) (fun k p => by rw [e1]) ⟨W 0 (by decide) (by decide), W 1 (by decide) (by decide)⟩ n12
  · rw [e1] at z2
    have s3 : e.1 4 id2 0 ≠ 3 := by omega
    have zl : zlen e id2 = 1 := by unfold zlen; rw [if_neg s3]
    by_cases y : id2 = id
    · rw [y] at s3 ⊢
      rcases hs with ⟨z, -, z0⟩ | ⟨-, z⟩
      · rw [z, z0, Int.add_zero]; exact sI_eq.trans zw_e.symm
      · exact absurd z s3
    · have f0 := far id2 z1 y 0 (by omega) (by omega)
      rw [Int.add_zero] at f0
      refine (sI_nej f0).trans ((h.2.1.1 id2 z1 z2).trans ?_)
      rcases hs with ⟨z, -⟩ | ⟨z, -⟩ <;> rw [z]
      · exact (zw_i y).symm
      · exact (zw_k (by decide)).symm
  · rw [e1] at z3
    have zl : zlen e id2 = e.1 5 id2 0 := by unfold zlen; rw [if_pos z2]
    by_cases y : id2 = id
    · subst y
      rcases hs with ⟨-, z, -⟩ | ⟨z, -⟩
      · exact absurd z2 z
      · rw [z]
        by_cases y2 : i2 = i
        · rw [y2]; exact sI_eq.trans zw_e.symm
        · exact (sI_nej (by omega)).trans ((h.2.1.2.1 id2 z1 z2 z3 i2 z4 z5).trans (zw_j y2).symm)
    · refine (sI_nej (far id2 z1 y i2 z4 (by omega))).trans ((h.2.1.2.1 id2 z1 z2 z3 i2 z4 z5).trans ?_)
      rcases hs with ⟨z, -⟩ | ⟨z, -⟩ <;> rw [z]
      · exact (zw_k (by decide)).symm
      · exact (zw_i y).symm
  · rw [e1]; exact (sI_ne (by decide)).trans (h.2.1.2.2.1 x z1 z2)
/-- useRow() -/
theorem zc43 (hd : 3 ≤ d) (h : zCM e κ s M) (hE : zCE e κ M) (hm : s.1 1 0 0 = 0) (hl : zLy s) (ho : o = 5 ∨ o = 6) (hi : zId e id) (hs3 : e.1 4 id 0 = 3 ∧ 1 ≤ e.1 5 id 0 ∧ e.1 5 id 0 ≤ 50) (h8 : s.1 8 (e.1 3 id 0) 0 = 1) (hh : 1 ≤ zh s ∧ (o = 6 → 2 ≤ zh s)) (hv : v1 = iI o) (hv2 : v2 = iI (e.1 23 id 0)) (hv3 : v3 = iI (e.1 5 id 0)) (h27 : zop e (zpc s) ≠ 27) (hs : zpc s + 1 < 1000 ↔ zpc s < 1000) (hw' : zWT e (zmem e s o id)) : ∃ M', runX d 43 [va_rf (some 88), .int v1, .int v2, .int v3] M = some (.null, M') ∧ zOb e κ (zmem e s o id) M M' := by
  obtain ⟨d, rfl⟩ : ∃ e, d = e + 1 := ⟨d - 1, by omega⟩
  subst hv; subst hv2; subst hv3
  have hk := hE.2.2.2.2.1.k8
  have h45 := hl.2.2.2
  have tp := hl.tp
  have C := h.1
  have kk := ck_88 C
  have zfe : zf s = s.1 0 0 0 - 1 := rfl
  have n12 := hl.1
  have bb := zE4.bd hE.2.2.2.1 hi
  have zl : zlen e id = e.1 5 id 0 := by unfold zlen; rw [if_pos hs3.1]
  have fr : M.2.2.1 93 (s.1 0 0 0 - 1).toNat = some (94 + (zf s).toNat) := by
    rw [← zfe]; exact cf93n C (by omega)
  rw [r43]; unfold b43; rw [aR_e, aI_e, aI_e, aI_e, aZ_e]; unfold c43
  rw [gtP_q kk (cf_88_13 C), gtI_q kk h.2.2.2.1, alP_q (z := s.1 0 0 0 - 1) (ck_93 C) (cvI (sbI rfl li_1) rfl) (by omega) fr, jn_v]
  -- the number that is asked for
  have key : ∀ (s2 : ZS) (M2 : Mem) (v : Int32) (idx : Int32), zCM e κ s2 M2 → zLy s2 → zf s2 = zf s → zpc s2 = zpc s → 1 ≤ zh s2 → zh s2 ≤ 200 → s2.1 1 0 0 = 0 → s2.1 8 (e.1 3 id 0) 0 = 1 → zFo κ M M2 → idx = ztop s2 1 → zmem e s o id = (if idx.toInt < 0 ∨ e.1 5 id 0 ≤ idx.toInt then zerr (zdn s2 1) 2 3 else if o = 6 then zw (znx (zdn s2 1)) 3 id idx.toInt v else znx (zpush (zdn s2 1) (s2.2 3 id idx.toInt))) → ∃ M', (jv (fun (s4 : Int32 × Mem) => vC (4, 22) s4.2 (some 88) <| cI (runX d 33 [va_rf (some 88)] s4.2) fun x6 M5 => jn (fun (s7 : Unit) => vC (4, 22) M5 (some 88) <| cV (runX d 41 [va_rf (some 88), .int ((2 : Int32)), .int ((1 : Int32))] M5) fun M8 => some (.null, M8)) fun j46 => if x6 < 0 then (j46 ()) else (if x6 < iI (e.1 5 id 0) then (jn (fun (s9 : Mem) => alI 100 s9 (some (94 + (zf s).toNat)) ((0 : Int32)) fun x10 => asI 100 s9 (some (94 + (zf s).toNat)) ((0 : Int32)) ((x10 + ((1 : Int32)))) fun M11 => some (.null, M11)) fun j86 => if iI o = ((6 : Int32)) then (gtP (4, 22) M5 (some 88) 16 fun x12 => asI 100 M5 x12 (iI (e.1 23 id 0) + x6) s4.1 fun M13 => j86 M13) else (gtP (4, 22) M5 (some 88) 16 fun x14 => alI 100 M5 x14 (iI (e.1 23 id 0) + x6) fun x15 => vC (4, 22) M5 (some 88) <| cV (runX d 32 [va_rf (some 88), .int x15] M5) fun M16 => j86 M16)) else (j46 ()))) (v, M2) : XA) = some (.null, M') ∧ zOb e κ (zmem e s o id) M M' := fun s2 M2 v idx c2 l2 z1 z2 z3 z3' z4 z5 f2 zi_ hz => by
    rw [hz] at hw' ⊢
    obtain ⟨p3, c3⟩ := zp33 (d := d) (by omega) c2 l2 hk z3
    obtain ⟨M3, hM3⟩ : ∃ z, z = sI M2 88 12 (iI (ztp s2 - 1)) := ⟨_, rfl⟩
    rw [← hM3] at p3 c3
    have f3 : zFo κ M M3 := f2.tr (by rw [hM3]; exact zFo.sI (by decide))
    have l3 := l2.dn (c := 1) (by omega)
    have k3 := ck_88 c3.1
    have hh3 : zh (zdn s2 1) = zh s2 - 1 := zdn_h
    obtain ⟨g1, g2, g3⟩ := iI_of idx
    obtain ⟨I, hI⟩ : ∃ I, I = idx.toInt := ⟨_, rfl⟩
    rw [← hI] at g1 g2 g3 hw' ⊢
    rw [jv_e, vC_e (ck_88 c2.1), cI_e p3, ← zi_, g1, jn_v]
    by_cases y : I < 0 ∨ e.1 5 id 0 ≤ I
    · rw [if_pos y] at hw' ⊢
      obtain ⟨M', r1, r2⟩ := mC41 (d := d) (s := zdn s2 1) (M := M3) (v1 := 2) (v2 := 1) (fl := 1) (m := 3) (by omega) c3 (hE.fo f3) li_1 (Or.inl ⟨rfl, rfl⟩) hw' (by show zop e (zpc s2) ≠ 27; rw [z2]; exact h27) (by show s2.1 1 0 0 ≠ 6; omega)
      refine ⟨M', ?_, (r2.fo f3).ob⟩
      have t : (jv (fun (_ : Unit) => vC (4, 22) M3 (some 88) <| cV (runX d 41 [va_rf (some 88), .int ((2 : Int32)), .int ((1 : Int32))] M3) fun M8 => some (.null, M8)) () : XA) = some (.null, M') := by rw [jv_e, vC_e k3, cV_e r1]
      by_cases y2 : I < 0
      · rw [if_pos (lsI_p rfl li_0 (by omega))]; exact t
      · rw [if_neg (lsI_n rfl li_0 (by omega)), if_neg (lsI_n rfl rfl (by omega))]; exact t
    · rw [if_neg y] at hw' ⊢
      have ad : iI (e.1 23 id 0) + iI I = iI (e.1 23 id 0 + I) := adI rfl rfl
      rw [if_neg (lsI_n rfl li_0 (by omega)), if_pos (lsI_p rfl rfl (by omega)), jn_v]
      by_cases y6 : o = 6
      · rw [if_pos y6] at hw' ⊢
        rw [if_pos (show iI o = 6 from eqI_p (y := 6) rfl rfl y6), gtP_q k3 (cf_88_16 c3.1), ad, asI_e (ck_106 c3.1) (by omega) (by omega) (by omega), jv_e]
        have c4 := c3.cell (s' := zw (zdn s2 1) 3 id I v) (v := v) l3 hk hE.2.2.2.1 hi (i := I) (by omega) (Or.inr ⟨rfl, hs3.1⟩)
        have l4 : zLy (zw (zdn s2 1) 3 id I v) := l3
        obtain ⟨M5, r5, c5, f5⟩ := zpat c4 l4 hk (by show zpc s2 + 1 < 1000 ↔ zpc s2 < 1000; rw [z2]; exact hs)
        have f4 : zFo κ M3 (sI M3 106 (e.1 23 id 0 + I).toNat v) := zFo.sI (inW_c (by decide) _)
        refine ⟨M5, ?_, c5.ob (by show s2.1 1 0 0 = 0; exact z4) hw' (f3.tr (f4.tr f5)) hE⟩
        have zz : zf (zw (zdn s2 1) 3 id I v) = zf s := z1
        rw [zz] at r5
        exact r5 _
      · rw [if_neg y6] at hw' ⊢
        have rd : M3.1 106 (e.1 23 id 0 + I).toNat = s2.2 3 id I := c3.2.1.2.1 id hi hs3.1 z5 I (by omega) (by omega)
        rw [if_neg (show ¬ iI o = 6 from eqI_n (y := 6) rfl rfl (by omega)), gtP_q k3 (cf_88_16 c3.1), alI_q (n := 9600) (z := e.1 23 id 0 + I) (ck_106 c3.1) ad (by omega) rd, vC_e k3]
        obtain ⟨M4, r4, c4, f4⟩ := zp32 (d := d) (v := s2.2 3 id I) (by omega) c3 l3 hk (by omega)
        obtain ⟨M5, r5, c5, f5⟩ := zpat c4 (l3.push (by omega)) hk (by show zpc s2 + 1 < 1000 ↔ zpc s2 < 1000; rw [z2]; exact hs)
        refine ⟨M5, ?_, c5.ob (by show s2.1 1 0 0 = 0; exact z4) hw' (f3.tr (f4.tr f5)) hE⟩
        have zz : zf (zpush (zdn s2 1) (s2.2 3 id I)) = zf s := z1
        rw [zz] at r5
        rw [cV_e r4, jv_e]
        exact r5 _
  by_cases y6 : o = 6
  · have hh2 := hh.2 y6
    obtain ⟨p1, c1⟩ := zp33 (d := d) (by omega) h hl hk (by omega)
    obtain ⟨M1, hM1⟩ : ∃ z, z = sI M 88 12 (iI (ztp s - 1)) := ⟨_, rfl⟩
    rw [← hM1] at p1 c1
    have f1 : zFo κ M M1 := by rw [hM1]; exact zFo.sI (by decide)
    have l1 := hl.dn (c := 1) (by omega)
    have e1 : zh (zdn s 1) = zh s - 1 := zdn_h
    have td : ztop (zdn s 1) 1 = ztop s 2 := zdn_top
    obtain ⟨M', q1, q2⟩ := key (zdn s 1) M1 (ztop s 1) (ztop s 2) c1 l1 rfl rfl (by omega) (by omega) hm h8 f1 td.symm (by
      unfold zmem
      rw [if_neg (by omega), if_neg (by omega), if_neg (by omega), if_pos y6, if_pos y6, zdn_dn]; rfl)
    refine ⟨M', ?_, q2⟩
    rw [if_pos (show iI o = 6 from eqI_p (y := 6) rfl rfl y6), vC_e kk, cI_e p1]
    exact q1
  · obtain ⟨M', q1, q2⟩ := key s M 0 (ztop s 1) h hl rfl rfl (by omega) (by omega) hm h8 zFo.r rfl (by
      unfold zmem
      rw [if_neg (by omega), if_neg (by omega), if_pos (by omega), if_neg y6])
    refine ⟨M', ?_, q2⟩
    rw [if_neg (show ¬ iI o = 6 from eqI_n (y := 6) rfl rfl (by omega))]
    exact q1
/-- linkOf() -/
theorem zc4 (hd : 1 ≤ d) (hE : zE6 e κ M) (h22 : e.1 22 0 0 = 1) (hv : v = iI n) (hn : 0 ≤ n ∧ n < e.1 24 0 0 ∧ e.1 24 0 0 ≤ 96) : runX d 4 [va_rf (some (κ 10 0)), .int v] M = some (.int (iI (e.1 28 n 0)), M) := by
  obtain ⟨d, rfl⟩ : ∃ e, d = e + 1 := ⟨d - 1, by omega⟩
  subst hv
  obtain ⟨a1, a2, a3, a4, a5⟩ := hE.2.1 h22
  rw [r4]; unfold b4; rw [aR_e, aI_e, aZ_e]; unfold c4
  rw [jn_v, jn_v, if_neg (lsI_n rfl li_0 (by omega)), gtP_q a1 a3, aln_q' a4, if_pos (lsI_p rfl rfl (by omega)), gtP_q a1 a3, alI_q (z := n) a4 rfl (by omega) (a5 n hn.1 hn.2.1)]
  rfl
end S99h
