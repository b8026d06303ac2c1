/-! the first object's machine: plain operations, answers -/
section S99c
variable {d : Nat} {e s s' u : ZS} {κ : ZK} {M M' M1 M2 : Mem} {a b j : Nat} {v v1 v2 : Int32} {c t k i i' j' w n p o fl ar : Int} {k1 k2 : Nat} {Y : Nat → Int → Int}
/-- what a plain operation wants -/
def zPl (e s : ZS) (κ : ZK) (M : Mem) (o n : Int) : Prop := (o = 0 ∧ zh s < 200) ∨ (o = 1 ∧ zh s < 200 ∧ 0 ≤ n ∧ n < s.1 16 (zf s) 0) ∨ (o = 2 ∧ 1 ≤ zh s ∧ 0 ≤ n ∧ n ≤ 9 ∧ n ≤ s.1 16 (zf s) 0) ∨ ((o = 9 ∨ o = 21 ∨ o = 22) ∧ 1 ≤ zh s) ∨ (o = 33 ∧ 2 ≤ zh s) ∨ o = 27 ∨ o = 30 ∨ (o = 32 ∧ zId e n ∧ n < 96 ∧ zpc s < 1000 ∧ 0 ≤ e.1 5 n 0 ∧ e.1 5 n 0 ≤ zh s ∧ zh s - e.1 5 n 0 < 200)
/-- a part of a list, or none -/
theorem zpart {ow : Nat → Int} {C : Int → Nat} {L : Nat} {r : Int} (hd : 4 ≤ d) (h : Ls M ow L C t r) (hv : v = iI n) (hn : 0 ≤ n ∧ n < t) (hk : M.2.2.2[C n]? = some (8, 9)) : runX d 168 [va_rf (some L), .int v] M = some (va_rf (some (C n)), M) := by
  obtain ⟨d, rfl⟩ : ∃ e, d = e + 1 := ⟨d - 1, by omega⟩
  subst hv
  have ht : t ≤ 109 := by
    obtain ⟨-, -, -, D, cap, -, h8, h9, -⟩ := h
    omega
  rw [r168]; unfold b168; rw [aR_e, aI_e, aZ_e]; unfold c168
  rw [jn_v, jn_v, if_neg (lsI_n rfl li_0 (by omega)), vC_e h.1.2.1, cI_e (ls_size (by omega) h), if_pos (lsI_p rfl rfl (by omega)), vC_e h.1.2.1, cP_e (ls_get (by omega) h rfl hn), cst_e hk]
  rfl
theorem zc34 (hd : 6 ≤ d) (h : zCM e κ s M) (hE : zCE e κ M) (hm : s.1 1 0 0 = 0) (hl : zLy s) (hv : v = iI o) (hv2 : v1 = iI n) (hp : zPl e s κ M o n) (hs : zpc s + 1 < 1000 ↔ zpc s < 1000) (hw' : zWT e (zex e s o n)) : ∃ M', runX d 34 [va_rf (some 88), .int v, .int v1, va_rf (some (94 + (zf s).toNat))] M = some (.null, M') ∧ zOb e κ (zex e s o n) M M' := by
  obtain ⟨d, rfl⟩ : ∃ e, d = e + 1 := ⟨d - 1, by omega⟩
  subst hv; subst hv2
  have hk := hE.2.2.2.2.1.k8
  have h45 := hl.2.2.2
  have tp := hl.tp
  have zfe : zf s = s.1 0 0 0 - 1 := rfl
  have l2 := hl.2.1 (zf s) (by omega) (by omega)
  have kf : M.2.2.2[94 + (zf s).toNat]? = some (100, 4) := ck94n h.1 (by omega)
  have fb := (h.2.2.1 (zf s) (by omega) (by omega)).1.2.1
  obtain ⟨M1, g1, c1, f1⟩ := zpat h hl hk hs
  have hl1 : zLy (znx s) := hl
  have E1 := hE.fo f1
  have C1 := c1.1
  have kk := ck_88 C1
  rw [r34]; unfold b34; rw [aR_e, aI_e, aI_e, aR_e, aZ_e]; unfold c34
  rw [alI_q (n := 4) (z := 1) kf li_1 (by omega) fb, ltI_q (z := 10 * zf s + s.1 6 (zf s) 0 + n) (adI rfl rfl), g1, jn_v]
  rcases hp with ⟨q, q1⟩ | ⟨q, q1, q2, q3⟩ | ⟨q, q1, q2, q3, q4⟩ | ⟨q | q | q, q1⟩ | ⟨q, q1⟩ | q | q | ⟨q, q1, q2, q3, q4, q5, q6⟩ <;> subst q
  · -- PUSH
    obtain ⟨M2, r2, c2, f2⟩ := zp32 (d := d) (v := iI n) (by omega) c1 hl1 hk q1
    rw [znx_push] at c2
    refine ⟨M2, ?_, c2.ob hm hw' (f1.tr f2) hE⟩
    show (vC (4, 22) M1 (some 88) _ : XA) = _
    rw [vC_e kk, cV_e r2]; rfl
  · -- LOAD
    have val := (c1.2.2.1 (zf s) (by omega) (show zf s < s.1 0 0 0 by omega)).2.1 n q2 q3
    have val' : M1.1 92 (10 * zf s + s.1 6 (zf s) 0 + n).toNat = s.2 0 (zf s) n := val
    obtain ⟨M2, r2, c2, f2⟩ := zp32 (d := d) (v := s.2 0 (zf s) n) (by omega) c1 hl1 hk q1
    rw [znx_push] at c2
    refine ⟨M2, ?_, c2.ob hm hw' (f1.tr f2) hE⟩
    show (if iI (10 * zf s + s.1 6 (zf s) 0 + n) < 0 then _ else _ : XA) = _
    rw [if_neg (lsI_n rfl li_0 (by omega)), gtP_q kk (cf_88_11 C1), aln_q' (ck_92 C1), if_neg (leI_n rfl rfl (by omega)), gtP_q kk (cf_88_11 C1), alI_q (n := 2520) (z := 10 * zf s + s.1 6 (zf s) 0 + n) (ck_92 C1) rfl (by omega) val']
    show (vC (4, 22) M1 (some 88) _ : XA) = _
    rw [vC_e kk, cV_e r2]
    rfl
  · -- STORE
    obtain ⟨p2, c2⟩ := zp33 (d := d) (by omega) c1 hl1 hk q1
    obtain ⟨M2, hM2⟩ : ∃ z, z = sI M1 88 12 (iI (ztp (znx s) - 1)) := ⟨_, rfl⟩
    rw [← hM2] at p2 c2
    have l3 : zLy (zdn (znx s) 1) := hl1.dn (c := 1) ⟨by omega, q1⟩
    have f2 : zFo κ M1 M2 := by rw [hM2]; exact (zFf.sI zFf.r (by decide)).fo
    have c3 := c2.loc (v := ztop s 1) l3 hk (n := n) ⟨q2, q3, q4⟩
    have f3 : zFo κ M2 (sI M2 92 (10 * zf (zdn (znx s) 1) + (zdn (znx s) 1).1 6 (zf (zdn (znx s) 1)) 0 + n).toNat (ztop s 1)) := (zFf.sI zFf.r (inW_c (by decide) _)).fo
    have ee : zi (zw (zdn (znx s) 1) 0 (zf (zdn (znx s) 1)) n (ztop s 1)) 16 (zf (zdn (znx s) 1)) 0 (if n < (zdn (znx s) 1).1 16 (zf (zdn (znx s) 1)) 0 then (zdn (znx s) 1).1 16 (zf (zdn (znx s) 1)) 0 else n + 1) = zex e s 2 n := by
      rw [znx_dn]
      exact zi_cm (s := zw (zdn s 1) 0 (zf s) n (ztop s 1)) (k1 := 2) (k2 := 16) (i := zf s) (k := 0) (t := zpc s + 1) (by decide)
    rw [ee] at c3
    refine ⟨_, ?_, c3.ob hm hw' (f1.tr (f2.tr f3)) hE⟩
    show (vC (4, 22) M1 (some 88) _ : XA) = _
    have kk2 := ck_88 c2.1
    rw [vC_e kk, cI_e p2, if_neg (lsI_n rfl li_0 (by omega)), gtP_q kk2 (cf_88_11 c2.1), aln_q' (ck_92 c2.1), if_neg (leI_n rfl rfl (by omega)), gtP_q kk2 (cf_88_11 c2.1), asI_e (ck_92 c2.1) (by omega) (by omega) (by omega)]
    rfl
  · -- POP
    obtain ⟨p2, c2⟩ := zp33 (d := d) (by omega) c1 hl1 hk q1
    rw [znx_dn] at c2
    refine ⟨_, ?_, c2.ob hm hw' (f1.tr (zFf.sI zFf.r (by decide)).fo) hE⟩
    show (vC (4, 22) M1 (some 88) _ : XA) = _
    rw [vC_e kk, cI_e p2]; rfl
  · -- NOT
    obtain ⟨p2, c2⟩ := zp33 (d := d) (by omega) c1 hl1 hk q1
    obtain ⟨M2, hM2⟩ : ∃ z, z = sI M1 88 12 (iI (ztp (znx s) - 1)) := ⟨_, rfl⟩
    rw [← hM2] at p2 c2
    have l3 : zLy (zdn (znx s) 1) := hl1.dn (c := 1) ⟨by omega, q1⟩
    have f2 : zFo κ M1 M2 := by rw [hM2]; exact (zFf.sI zFf.r (by decide)).fo
    obtain ⟨M3, r3, c3, f3⟩ := zp32 (d := d) (v := if ztop s 1 = 0 then 1 else 0) (by omega) c2 l3 hk (by rw [zdn_h]; show zh s - 1 < 200; omega)
    rw [znx_dn, znx_push] at c3
    refine ⟨M3, ?_, c3.ob hm hw' (f1.tr (f2.tr f3)) hE⟩
    show (vC (4, 22) M1 (some 88) _ : XA) = _
    rw [vC_e kk, cI_e p2, jn_v]
    by_cases y : ztop s 1 = 0
    · have y' : ztop (znx s) 1 = 0 := y
      rw [if_pos y] at r3
      rw [if_pos y', jv_e, vC_e (ck_88 c2.1), cV_e r3]; rfl
    · have y' : ¬ ztop (znx s) 1 = 0 := y
      rw [if_neg y] at r3
      rw [if_neg y', jv_e, vC_e (ck_88 c2.1), cV_e r3]; rfl
  · -- NEG
    obtain ⟨p2, c2⟩ := zp33 (d := d) (by omega) c1 hl1 hk q1
    obtain ⟨M2, hM2⟩ : ∃ z, z = sI M1 88 12 (iI (ztp (znx s) - 1)) := ⟨_, rfl⟩
    rw [← hM2] at p2 c2
    have l3 : zLy (zdn (znx s) 1) := hl1.dn (c := 1) ⟨by omega, q1⟩
    have f2 : zFo κ M1 M2 := by rw [hM2]; exact (zFf.sI zFf.r (by decide)).fo
    obtain ⟨M3, r3, c3, f3⟩ := zp32 (d := d) (v := -(ztop s 1)) (by omega) c2 l3 hk (by rw [zdn_h]; show zh s - 1 < 200; omega)
    rw [znx_dn, znx_push] at c3
    refine ⟨M3, ?_, c3.ob hm hw' (f1.tr (f2.tr f3)) hE⟩
    show (vC (4, 22) M1 (some 88) _ : XA) = _
    rw [vC_e kk, cI_e p2, vC_e (ck_88 c2.1)]
    exact (cV_e r3).trans rfl
  · -- POP2
    obtain ⟨p2, c2⟩ := zp33 (d := d) (by omega) c1 hl1 hk (show 1 ≤ zh s by omega)
    obtain ⟨M2, hM2⟩ : ∃ z, z = sI M1 88 12 (iI (ztp (znx s) - 1)) := ⟨_, rfl⟩
    rw [← hM2] at p2 c2
    have l3 : zLy (zdn (znx s) 1) := hl1.dn (c := 1) ⟨by omega, show 1 ≤ zh s by omega⟩
    have f2 : zFo κ M1 M2 := by rw [hM2]; exact (zFf.sI zFf.r (by decide)).fo
    obtain ⟨p3, c3⟩ := zp33 (d := d) (by omega) c2 l3 hk (by rw [zdn_h]; show 1 ≤ zh s - 1; omega)
    rw [zdn_dn, znx_dn] at c3
    refine ⟨_, ?_, c3.ob hm hw' (f1.tr (f2.tr (zFf.sI zFf.r (by decide)).fo)) hE⟩
    show (vC (4, 22) M1 (some 88) _ : XA) = _
    rw [vC_e kk, cI_e p2, vC_e (ck_88 c2.1), cI_e p3]; rfl
  · exact ⟨M1, rfl, (show zCM e κ (zex e s 27 n) M1 from c1).ob hm hw' f1 hE⟩
  · exact ⟨M1, rfl, c1.ob hm hw' f1 hE⟩
  · -- GONE
    obtain ⟨-, a2, a3, ow, a4⟩ := E1.2.1.1 0 (Or.inl rfl)
    obtain ⟨⟨b1, b2⟩, b3, b4, b5, -⟩ := E1.2.1.2 n q1
    have n0 : 0 ≤ n ∧ n < e.1 24 0 0 := by unfold zId at q1; omega
    have hpt := zpart (d := d) (M := M1) (v := iI n) (n := n) (by omega) a4 rfl n0 (by rw [show (96 : Int) * 0 + n = n by omega]; exact b2)
    rw [show (96 : Int) * 0 + n = n by omega] at hpt
    obtain ⟨⟨x1, x2, -, -, -⟩, -⟩ := E1.1.2.2 0 (Or.inl rfl)
    have f2r := (c1.2.2.1 (zf s) (by omega) (show zf s < s.1 0 0 0 by omega)).1.2.2.1
    have npc : (znx s).1 2 (zf s) 0 < 1000 := by
      have : (znx s).1 2 (zf s) 0 = zpc s + 1 := zi_e
      rw [this]; exact hs.2 q3
    rw [if_pos npc] at f2r
    have top := c1.2.2.2.2.1
    have ztpe : ztp (znx s) = ztp s := rfl
    have c2 := c1.dn hl1 hk (c := e.1 5 n 0) ⟨q4, q5⟩
    obtain ⟨M2, hM2⟩ : ∃ z, z = sI M1 88 12 (iI (ztp (znx s) - e.1 5 n 0)) := ⟨_, rfl⟩
    rw [← hM2] at c2
    have l3 : zLy (zdn (znx s) (e.1 5 n 0)) := hl1.dn ⟨q4, q5⟩
    have f2 : zFo κ M1 M2 := by rw [hM2]; exact (zFf.sI zFf.r (by decide)).fo
    obtain ⟨M3, r3, c3, f3⟩ := zp32 (d := d) (v := 0) (by omega) c2 l3 hk (by rw [zdn_h]; exact q6)
    rw [znx_dn, znx_push] at c3
    refine ⟨M3, ?_, c3.ob hm hw' (f1.tr (f2.tr f3)) hE⟩
    rw [swI_c, if_neg (by decide), swI_c, if_neg (by decide), swI_c, if_neg (by decide), swI_c, if_neg (by decide), swI_c, if_neg (by decide), swI_c, if_neg (by decide), swI_c, if_pos (by decide)]
    rw [gtP_q kk (cf_88_8 C1), alI_q (n := 4) (z := 2) (w := iI 0) (ck94n C1 (by omega)) li_2 (by omega) f2r, alP_q (z := 0) (ck_91 C1) rfl (by omega) x1, gtP_q x2 a2, cP_e hpt, gtI_q kk top, jn_v, if_neg (fun q => nomatch q), gtI_q b2 b5, jv_e, ptI_q (z := ztp (znx s) - e.1 5 n 0) kk (sbI rfl rfl), ← hM2, vC_e (ck_88 c2.1), cV_e r3]
    rfl
/-- behind an answer -/
theorem zWT_ret (h : zWT e s) (hm : s.1 1 0 0 = 2) (h1 : 1 ≤ s.1 0 0 0) : zWT e (zret s) ∧ (s.1 5 (s.1 0 0 0) 0 < 0 → (zpc s + 1 < 1000 ↔ zpc s < 1000) ∧ zh s < 200 ∨ ¬ e.1 21 0 0 ≤ 1000) := by
  obtain ⟨hb, hc⟩ := h
  have hb' : zBs e s := hb
  have hw : zwt e s (zf s) (s.1 5 (s.1 0 0 0) 0) := by
    rcases hc with ⟨z, -⟩ | ⟨z, -⟩ | ⟨-, z⟩ | z | z
    · omega
    · omega
    · exact (z h1).1
    all_goals omega
  clear hc
  obtain ⟨Y, a, c, w, g⟩ := hw
  unfold zret
  rcases g with ⟨g1, g2, g3, g4, g5, g6, g7, g8⟩ | ⟨g1, g2, g3⟩
  · rw [if_pos g1]
    refine ⟨⟨hb'.tp ⟨rfl, fun i hi => ⟨rfl, rfl, rfl, rfl, rfl⟩, fun i => ⟨rfl, rfl⟩, fun k => ⟨hb'.1.2.2.2.2.2 k, id⟩, hb'.1.2.2.2.2.1⟩, Or.inl ⟨Or.inr zi_e, h1, ⟨Y, a, c, w.kp rfl rfl rfl rfl, g3⟩, fun _ => ⟨g4, g5, g6, ?_⟩⟩⟩, fun q => by omega⟩
    have e1 : zpc (zi s 1 0 0 1) = s.1 2 (zf s) 0 := rfl
    rw [e1, g7]
    exact g8
  · rw [if_neg (by omega), if_neg (by omega)]
    have w0 := w.1.2 _ w.2.1.1 w.2.1.2
    have op := w0.2.2
    have nx := (op.2.2.2.2.2.2.2.2.1 (Or.inl g2)).2.2
    have zpe : s.1 2 (zf s) 0 = zpc s := rfl
    have zhe : s.1 3 (zf s) 0 = zh s := rfl
    rw [zpe] at nx g3 g2
    rw [zhe] at g3
    refine ⟨zWT_in hb' h1 w nx ⟨rfl, fun i hi => ⟨?_, ?_, rfl, rfl, rfl⟩, fun i => ⟨rfl, rfl⟩, fun k => ⟨hb'.1.2.2.2.2.2 k, id⟩, hb'.1.2.2.2.2.1⟩ zi_e ?_ ?_ ⟨w.2.2.1, w.2.2.2.1⟩ w.2.2.2.2.1 ?_, fun _ => ?_⟩
    · exact (zi_k (by decide)).trans (zi_i hi)
    · exact (zi_k (by decide)).trans ((zi_k (by decide)).trans (zi_i hi))
    · exact (zi_k (by decide)).trans zi_e
    · exact (zi_k (by decide)).trans ((zi_k (by decide)).trans (zi_e.trans (by omega)))
    · have := w.2.2.2.2.2
      rw [w.2.2.2.2.1] at this
      exact this
    · by_cases y : e.1 21 0 0 ≤ 1000
      · refine Or.inl ⟨w.1.sd y ⟨nx.1, nx.2.1⟩ w.2.1, ?_⟩
        have r := w.1.1
        have b2 := w.1.2 _ nx.1 nx.2.1
        have := nx.2.2.1
        have := nx.1
        have := nx.2.1
        omega
      · exact Or.inr y
/-- a code answers -/
theorem zc40 (hd : 3 ≤ d) (h : zCM e κ (zdn s c) M) (hE : zCE e κ M) (hw : zWT e s) (hm : s.1 1 0 0 = 0) (hw' : zWT e (zi (zi (zw s 6 0 0 v) 0 0 0 (zf s)) 1 0 0 2)) : ∃ M', runX d 40 [va_rf (some 88), .int v, va_rf (some (94 + (zf s).toNat))] M = some (.null, M') ∧ zOb e κ (zi (zi (zw s 6 0 0 v) 0 0 0 (zf s)) 1 0 0 2) M M' := by
  obtain ⟨d, rfl⟩ : ∃ e, d = e + 1 := ⟨d - 1, by omega⟩
  have hk := hE.2.2.2.2.1.k8
  have hl := hw.ly (Or.inl hm)
  have h45 := hl.2.2.2
  have tp := hl.tp
  have hb : zBs e s := hw.1
  have zfe : zf s = s.1 0 0 0 - 1 := rfl
  have l1 := hl.1
  have l2 := hl.2.1 (zf s) (by omega) (by omega)
  obtain ⟨hC, hG', hF', h14', -, h15, h19⟩ := h
  have hG : zCG e κ s M := hG'
  have h14 : M.1 88 14 = iI (s.1 0 0 0) := h14'
  have hF : ∀ i, 0 ≤ i → i < zf s → zCi s M i := fun i p q => (hF' i p (by show i < s.1 0 0 0; omega)).lo ⟨p, by omega⟩ (fun _ => rfl) (fun _ _ _ => rfl) (fun _ _ _ => rfl) rfl (zi_i (by omega)).symm rfl rfl rfl (fun _ => rfl) (fun _ => rfl)
  have k := ck_88 hC
  have kf : M.2.2.2[94 + (zf s).toNat]? = some (100, 4) := ck94n hC (by omega)
  have ff := (hF' (zf s) (by omega) (by show zf s < s.1 0 0 0; omega)).1
  have f1 : M.1 (94 + (zf s).toNat) 1 = iI (10 * zf s + s.1 6 (zf s) 0) := ff.2.1
  have f3 : M.1 (94 + (zf s).toNat) 3 = iI (if s.1 5 (zf s) 0 < 0 then -2 else s.1 5 (zf s) 0) := ff.2.2.2
  obtain ⟨u, hu⟩ : ∃ u, u = zi (zi (zw s 6 0 0 v) 0 0 0 (zf s)) 1 0 0 2 := ⟨_, rfl⟩
  rw [← hu] at hw' ⊢
  have u0 : u.1 0 0 0 = zf s := by rw [hu]; exact (zi_k (by decide)).trans zi_e
  have um : u.1 1 0 0 = 2 := by rw [hu]; exact zi_e
  have u5 : ∀ i, u.1 5 i 0 = s.1 5 i 0 := fun i => by rw [hu]; rfl
  have st : zstep e u = zret u := by
    unfold zstep
    rw [if_neg (by omega), if_neg (by omega), if_pos um]
  obtain ⟨Ma, hMa⟩ : ∃ z, z = sI (sI M 88 14 (iI (zf s))) 88 12 (iI (10 * zf s + s.1 6 (zf s) 0)) := ⟨_, rfl⟩
  have fa : zFf M Ma := by rw [hMa]; exact zFf.sI (zFf.sI zFf.r (by decide)) (by decide)
  have Ca := hC.f fa
  have ka := ck_88 Ca
  have kfa : Ma.2.2.2[94 + (zf s).toNat]? = some (100, 4) := ck94n Ca (by omega)
  have a14 : Ma.1 88 14 = iI (zf s) := by rw [hMa]; exact (sI_nej (by decide)).trans sI_eq
  have a12 : Ma.1 88 12 = iI (10 * zf s + s.1 6 (zf s) 0) := by rw [hMa]; exact sI_eq
  have a15 : Ma.1 88 15 = iI 0 := by rw [hMa]; exact (sI_nej (by decide)).trans ((sI_nej (by decide)).trans h15)
  have a19 : Ma.1 88 19 = iI 0 := by rw [hMa]; exact (sI_nej (by decide)).trans ((sI_nej (by decide)).trans h19)
  have ao : ∀ a j, a ≠ 88 → Ma.1 a j = M.1 a j := fun a j q => by rw [hMa]; exact (sI_ne q).trans (sI_ne q)
  have ea := hE.fo (fa.fo (κ := κ))
  have Ga : ∀ t : ZS, (∀ k, k = 8 ∨ k = 10 ∨ k = 11 ∨ k = 12 ∨ k = 14 ∨ k = 15 ∨ k = 17 → t.1 k = s.1 k) → (∀ k, 2 ≤ k → k ≠ 5 → k ≠ 6 → t.2 k = s.2 k) → t.1 1 0 0 ≠ 6 → zCG e κ t Ma := fun t p q r => hG.ff fa ⟨p, q, by omega⟩ hk
  have Fa : ∀ t : ZS, (∀ i, i < zf s → (∀ k, k = 2 ∨ k = 3 ∨ k = 5 ∨ k = 6 ∨ k = 16 → t.1 k i 0 = s.1 k i 0) ∧ ∀ k, t.2 0 i k = s.2 0 i k ∧ t.2 1 i k = s.2 1 i k) → ∀ i, 0 ≤ i → i < zf s → zCi t Ma i := fun t ht i p q => by
    obtain ⟨q1, q2⟩ := ht i q
    exact (hF i p (by omega)).lo ⟨p, by omega⟩ (fun j => ao _ _ (by omega)) (fun k x y => ao _ _ (by decide)) (fun k x y => ao _ _ (by decide)) (q1 2 (by omega)) (q1 3 (by omega)) (q1 5 (by omega)) (q1 6 (by omega)) (q1 16 (by omega)) (fun k => (q2 k).1) (fun k => (q2 k).2)
  have run : runX (d + 1) 40 [va_rf (some 88), .int v, va_rf (some (94 + (zf s).toNat))] M = (if iI (if s.1 5 (zf s) 0 < 0 then -2 else s.1 5 (zf s) 0) < 0 then (if iI (zf s) ≤ 0 then some (.null, Ma) else (cV (runX d 32 [va_rf (some 88), .int v] Ma) fun M8 => gtP (4, 22) M8 (some 88) 13 fun x9 => gtI (4, 22) M8 (some 88) 14 fun x10 => alP 113 M8 x9 (x10 - ((1 : Int32))) fun x11 => alI 100 M8 x11 ((0 : Int32)) fun x12 => asI 100 M8 x11 ((0 : Int32)) ((x12 + ((1 : Int32)))) fun M13 => some (.null, M13))) else some (.null, sI Ma 88 15 1) : XA) := by
    have k1 : (sI M 88 14 (iI (zf s))).2.2.2[88]? = some (4, 22) := k
    have kf1 : (sI M 88 14 (iI (zf s))).2.2.2[94 + (zf s).toNat]? = some (100, 4) := kf
    rw [r40]; unfold b40; rw [aR_e, aI_e, aR_e, aZ_e]; unfold c40
    refine (gtI_q k h14).trans ?_
    refine (ptI_q (z := zf s) k (cvI (sbI rfl li_1) (by omega))).trans ?_
    refine (alI_q (n := 4) (z := 1) kf1 li_1 (by omega) ((sI_ne (by omega)).trans f1)).trans ?_
    refine (ptI_e k1).trans ?_
    rw [← hMa]
    refine (alI_q (n := 4) (z := 3) kfa rfl (by omega) ((ao _ _ (by omega)).trans f3)).trans ?_
    refine (jn_v).trans ?_
    by_cases y : iI (if s.1 5 (zf s) 0 < 0 then -2 else s.1 5 (zf s) 0) < 0
    · rw [if_pos y, if_pos y]
      refine (gtI_q ka a14).trans ?_
      by_cases z : iI (zf s) ≤ 0
      · rw [if_pos z, if_pos z]; rfl
      · rw [if_neg z, if_neg z]
        exact vC_e ka
    · rw [if_neg y, if_neg y]
      refine (ptZ_e ka (Or.inr rfl)).trans ?_
      rfl
  by_cases c5 : s.1 5 (zf s) 0 < 0
  · rw [if_pos c5, if_pos (lsI_p (x := -2) rfl li_0 (by omega))] at run
    by_cases y : zf s = 0
    · refine ⟨Ma, run.trans (if_pos (leI_p rfl li_0 (by omega))), u, zto.r, fa.fo, ea, hw', ⟨rfl, rfl⟩, Or.inr (Or.inr ⟨Or.inr (Or.inr ⟨by omega, by rw [u5]; rw [y] at c5; exact c5, Or.inl um⟩), Ca, Ga u (fun k p => by rw [hu]; rcases p with p | p | p | p | p | p | p <;> subst p <;> rfl) (fun k p q r => by rw [hu]; funext x z; exact zw_k (by omega)) (by omega), by rw [a14, y], Or.inl ⟨um, a19⟩⟩)⟩
    · rw [if_neg (leI_n rfl li_0 (by omega))] at run
      obtain ⟨wr, nr⟩ := zWT_ret hw' um (by omega)
      have ub := hb.2.1 (zf s - 1) (by omega) (by omega)
      rw [show zf s - 1 + 1 = zf s by omega] at ub
      have uh := ub.1.h
      have nn := (nr (by rw [u0, u5]; exact c5)).resolve_right (fun q => q hE.1.2.1.2.1)
      obtain ⟨u', hu'⟩ : ∃ u', u' = zi u 1 0 0 0 := ⟨_, rfl⟩
      have zfu : zf u' = zf s - 1 := by rw [hu']; show u.1 0 0 0 - 1 = _; rw [u0]
      have e0' : u'.1 0 0 0 = zf s := by rw [hu']; exact (zi_k (by decide)).trans u0
      have e1k : ∀ k i j, k ≠ 0 → k ≠ 1 → u'.1 k i j = s.1 k i j := fun k i j p q => by rw [hu', hu]; exact (zi_k q).trans ((zi_k q).trans (zi_k p))
      have ly : zLy u' := by
        refine ⟨by rw [e0']; omega, fun i p q => ?_, fun i p q => ?_, ?_⟩
        · rw [e0'] at q
          rw [e1k 6 i 0 (by decide) (by decide), e1k 16 i 0 (by decide) (by decide)]
          exact hl.2.1 i p (by omega)
        · rw [zfu] at q ⊢
          rw [e1k 6 i 0 (by decide) (by decide), e1k 3 i 0 (by decide) (by decide), e1k 6 _ 0 (by decide) (by decide)]
          have := hb.ls (zf s - 1).toNat (by omega) i p (by omega)
          rw [show (((zf s - 1).toNat : Nat) : Int) = zf s - 1 by omega] at this
          exact this
        · unfold zh
          rw [zfu, e1k 3 _ 0 (by decide) (by decide)]
          omega
      have cm : zCM e κ u' Ma := by
        refine ⟨Ca, Ga u' (fun k p => by rw [hu', hu]; rcases p with p | p | p | p | p | p | p <;> subst p <;> rfl) (fun k p q r => by rw [hu', hu]; funext x z; exact zw_k (by omega)) (by rw [hu', show (zi u 1 0 0 0).1 1 0 0 = 0 from zi_e]; decide), fun i p q => ?_, by rw [e0']; exact a14, ?_, a15, a19⟩
        · rw [e0'] at q
          exact Fa u' (fun i hi => ⟨fun k p => e1k k i 0 (by omega) (by omega), fun k => by rw [hu', hu]; exact ⟨rfl, rfl⟩⟩) i p q
        · rw [a12]
          congr 1
          unfold ztp zh
          rw [zfu, e1k 6 _ 0 (by decide) (by decide), e1k 3 _ 0 (by decide) (by decide)]
          omega
      have zhu : zh u' = zh u := by rw [hu']; rfl
      have zpu : zpc u' = zpc u := by rw [hu']; rfl
      obtain ⟨M2, r2, c2, g2⟩ := zp32 (d := d) (v := v) (by omega) cm ly hk (by rw [zhu]; exact nn.2)
      obtain ⟨M3, r3, c3, g3⟩ := zpat c2 (ly.push (by rw [zhu]; exact nn.2)) hk (by show zpc u' + 1 < 1000 ↔ zpc u' < 1000; rw [zpu]; exact nn.1)
      have er : zret u = znx (zpush u' v) := by
        unfold zret
        rw [u0, u5, if_neg (by omega), if_neg y, hu', show u.2 6 0 0 = v by rw [hu]; exact zw_e (s := s) (k := 6) (i := 0) (j := 0) (w := v)]
        show zi (zi (zi (zw u 1 (zf u) (zh u) v) 3 (zf u) 0 (zh u + 1)) 2 (zf u) 0 (zpc u + 1)) 1 0 0 0 = zi (zi (zi (zw u 1 (zf u) (zh u) v) 1 0 0 0) 3 (zf u) 0 (zh u + 1)) 2 (zf u) 0 (zpc u + 1)
        rw [zi_cm (k1 := 2) (k2 := 1) (by decide), zi_cm (k1 := 3) (k2 := 1) (by decide)]
      have c14 := c2.2.2.2.1
      have k2 := ck_88 c2.1
      refine ⟨M3, ?_, zret u, zto.st (by rw [st]; exact zto.r), (fa.fo.tr g2).tr g3, hE.fo ((fa.fo.tr g2).tr g3), wr, ?_, Or.inl ⟨by rw [er]; exact c3, ?_⟩⟩
      · refine run.trans ?_
        rw [cV_e r2]
        have p14 : M2.1 88 14 = iI (zf s) := by rw [c14]; show iI (u'.1 0 0 0) = _; rw [e0']
        refine (gtP_q k2 (cf_88_13 c2.1)).trans ?_
        refine (gtI_q k2 p14).trans ?_
        have zfp : zf (zpush u' v) = zf s - 1 := zfu
        rw [zfp] at r3
        refine (alP_q (z := zf s - 1) (ck_93 c2.1) (sbI rfl li_1) (by omega) (cf93n c2.1 (by omega))).trans ?_
        exact r3 _
      · rw [er, hu', hu]; exact ⟨rfl, rfl⟩
      · rw [er, hu']; exact (zi_k (by decide)).trans ((zi_k (by decide)).trans (zi_e (s := u) (k := 1) (i := 0) (j := 0) (v := 0)))
  · rw [if_neg c5, if_neg (lsI_n rfl li_0 (by
      by_cases y : zf s = 0
      · have := hb.1.2.2.1
        rw [y] at c5; omega
      · obtain ⟨Y2, a2, c2, w2, g⟩ := (hb.2.1 (zf s - 1) (by omega) (by omega)).1
        rw [show zf s - 1 + 1 = zf s by omega] at g
        rcases g with g | g <;> omega))] at run
    have y : zf s ≠ 0 := fun q => by
      have := hb.1.2.2.1
      rw [q] at c5; omega
    obtain ⟨wr, -⟩ := zWT_ret hw' um (by omega)
    have er : zret u = zi u 1 0 0 1 := by
      unfold zret
      rw [u0, u5, if_pos (by omega)]
    have ub := hb.2.1 (zf s - 1) (by omega) (by omega)
    rw [show zf s - 1 + 1 = zf s by omega] at ub
    have e1k : ∀ k i j, k ≠ 0 → k ≠ 1 → (zret u).1 k i j = s.1 k i j := fun k i j p q => by rw [er, hu]; exact (zi_k q).trans ((zi_k q).trans (zi_k p))
    have e0' : (zret u).1 0 0 0 = zf s := by rw [er]; exact (zi_k (by decide)).trans u0
    have fz : zFf M (sI Ma 88 15 1) := zFf.sI fa (by decide)
    have zfu : zf (zret u) = zf s - 1 := by unfold zf; rw [e0']; rfl
    refine ⟨_, run, zret u, zto.st (by rw [st]; exact zto.r), fz.fo, hE.fo fz.fo, wr, by rw [er, hu]; exact ⟨rfl, rfl⟩, Or.inr (Or.inl ⟨⟨hC.f fz, hG.ff fz ⟨fun k p => ?_, fun k p q r => ?_, ?_⟩ hk, fun i p q => ?_, ?_, ?_, ?_, ?_⟩, ?_⟩)⟩
    · rw [er, hu]; rcases p with p | p | p | p | p | p | p <;> subst p <;> rfl
    · rw [er, hu]; funext x z; exact zw_k (by omega)
    · rw [er, show (zi u 1 0 0 1).1 1 0 0 = 1 from zi_e, hm]; decide
    · rw [e0'] at q
      have fi := Fa (zret u) (fun i hi => ⟨fun k p => e1k k i 0 (by omega) (by omega), fun k => by rw [er, hu]; exact ⟨rfl, rfl⟩⟩) i p q
      exact fi.lo ⟨p, by omega⟩ (fun j => sI_ne (by omega)) (fun k x y => sI_ne (by decide)) (fun k x y => sI_ne (by decide)) rfl rfl rfl rfl rfl (fun _ => rfl) (fun _ => rfl)
    · rw [e0']; exact (sI_nej (by decide)).trans a14
    · refine (sI_nej (by decide)).trans (a12.trans (congrArg iI ?_))
      unfold ztp zh
      rw [zfu, e1k 6 _ 0 (by decide) (by decide), e1k 3 _ 0 (by decide) (by decide)]
      omega
    · exact sI_eq.trans li_1
    · exact (sI_nej (by decide)).trans a19
    · rw [er]; exact zi_e
end S99c
