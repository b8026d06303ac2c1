/-! the first object's machine: jumps, checks, plain operations -/
section S99b
variable {d : Nat} {e s s' u : ZS} {κ : ZK} {M M' M1 M2 : Mem} {a b j : Nat} {v v1 v2 : Int32} {c t k i i' j' w n p o fl ar : Int} {k1 k2 : Nat} {Y : Nat → Int → Int}
theorem zCM.ob (h : zCM e κ s M') (hm : s.1 1 0 0 = 0) (hw : zWT e s) (f : zFo κ M M') (hE : zCE e κ M) : zOb e κ s M M' := ⟨s, zto.r, f, hE.fo f, hw, ⟨rfl, rfl⟩, Or.inl ⟨h, hm⟩⟩
theorem zOb.fo (h : zOb e κ u M1 M') (f : zFo κ M M1) : zOb e κ u M M' := by
  obtain ⟨t, h1, h2, h3⟩ := h
  exact ⟨t, h1, f.tr h2, h3⟩
/-- another place is written -/
theorem zput (h : zCM e κ s M) (hl : zLy s) (hk : zK8 κ) (hs : t < 1000 ↔ zpc s < 1000) (hv : v = iI (t - zoff t)) : (∀ K : Mem → XA, asI 100 M (some (94 + (zf s).toNat)) ((0 : Int32)) v K = K (sI M (94 + (zf s).toNat) 0 (iI (t - zoff t)))) ∧ zCM e κ (zgo s t) (sI M (94 + (zf s).toNat) 0 (iI (t - zoff t))) ∧ zFo κ M (sI M (94 + (zf s).toNat) 0 (iI (t - zoff t))) := by
  have tp := hl.tp
  have kf : M.2.2.2[94 + (zf s).toNat]? = some (100, 4) := ck94n h.1 (by omega)
  exact ⟨fun K => asI_q (n := 4) (z := 0) (y := t - zoff t) kf li_0 (by omega) hv, h.go hl hk hs, (zFf.sI zFf.r (inW_fx (by omega) _).2).fo⟩
theorem zoff_sd (hs : t < 1000 ↔ p < 1000) : zoff t = zoff p := by
  unfold zoff
  by_cases y : p < 1000
  · rw [if_pos y, if_pos (hs.2 y)]
  · rw [if_neg y, if_neg fun q => y (hs.1 q)]
/-- place and the next -/
theorem zget (h : zCM e κ s M) (hl : zLy s) (K : Int32 → XA) : (alI 100 M (some (94 + (zf s).toNat)) ((0 : Int32)) K) = K (iI (zpc s - zoff (zpc s))) := by
  have tp := hl.tp
  have zfe : zf s = s.1 0 0 0 - 1 := rfl
  have kf : M.2.2.2[94 + (zf s).toNat]? = some (100, 4) := ck94n h.1 (by omega)
  exact alI_q (n := 4) (z := 0) kf li_0 (by omega) (h.2.2.1 (zf s) (by omega) (by omega)).1.1
/-- jumps -/
theorem zc36 (hd : 3 ≤ d) (h : zCM e κ s M) (hE : zCE e κ M) (hm : s.1 1 0 0 = 0) (hl : zLy s) (hv : v = iI o) (hv2 : v1 = iI n) (ho : o = 24 ∨ o = 25 ∨ o = 26 ∨ o = 31) (hh : o = 24 ∨ o = 31 → 1 ≤ zh s) (hs : o ≠ 25 → (zpc s + 1 < 1000 ↔ zpc s < 1000)) (hs2 : n + zoff (zpc s) < 1000 ↔ zpc s < 1000) (hw' : zWT e (zex e s o n)) : ∃ M', runX d 36 [va_rf (some 88), .int v, .int v1, va_rf (some (94 + (zf s).toNat))] M = some (.null, M') ∧ zOb e κ (zex e s o n) M M' := by
  obtain ⟨d, rfl⟩ : ∃ e, d = e + 1 := ⟨d - 1, by omega⟩
  subst hv; subst hv2
  have hk := hE.2.2.2.2.1.k8
  have k := ck_88 h.1
  have zo2 := zoff_sd hs2
  have go2 : ∀ {s0 : ZS} {M0 : Mem}, zCM e κ s0 M0 → zLy s0 → zf s0 = zf s → zpc s0 = zpc s → ∃ M', (∀ K : Mem → XA, asI 100 M0 (some (94 + (zf s).toNat)) ((0 : Int32)) (iI n) K = K M') ∧ zCM e κ (zgo s0 (n + zoff (zpc s))) M' ∧ zFo κ M0 M' := fun h0 l0 e1 e2 => by
    have := zput (t := n + zoff (zpc s)) (v := iI n) h0 l0 hk (by rw [e2]; exact hs2) (by rw [zo2]; congr 1; omega)
    rw [e1] at this
    exact ⟨_, this⟩
  have go1 : ∀ {s0 : ZS} {M0 : Mem}, zCM e κ s0 M0 → zLy s0 → zf s0 = zf s → zpc s0 = zpc s → o ≠ 25 → ∃ M', (∀ K : Mem → XA, (alI 100 M0 (some (94 + (zf s).toNat)) ((0 : Int32)) fun x5 => asI 100 M0 (some (94 + (zf s).toNat)) ((0 : Int32)) (x5 + 1) K) = K M') ∧ zCM e κ (zgo s0 (zpc s + 1)) M' ∧ zFo κ M0 M' := fun h0 l0 e1 e2 e3 => by
    have z1 := zoff_sd (hs e3)
    have := zput (t := zpc s + 1) (v := iI (zpc s - zoff (zpc s)) + 1) h0 l0 hk (by rw [e2]; exact hs e3) (cvI (adI rfl li_1) (by omega))
    have g := fun K => zget h0 l0 K
    rw [e1] at this
    rw [e1, e2] at g
    exact ⟨_, fun K => (g _).trans (this.1 K), this.2⟩
  rw [r36]; unfold b36; rw [aR_e, aI_e, aI_e, aR_e, aZ_e]; unfold c36
  rw [jn_v]
  rcases ho with c | c | c | c <;> subst c
  · -- JUMPZ
    have hh1 := hh (Or.inl rfl)
    have h45 := hl.2.2.2
    obtain ⟨p1, c1⟩ := zp33 (d := d) (by omega) h hl hk hh1
    obtain ⟨M1, hM1⟩ : ∃ z, z = sI M 88 12 (iI (ztp s - 1)) := ⟨_, rfl⟩
    rw [← hM1] at p1 c1
    have l1 := hl.dn (c := 1) (by omega)
    have f1 : zFo κ M M1 := by rw [hM1]; exact (zFf.sI zFf.r (by decide)).fo
    rw [if_neg (by decide), jv_e, jn_v, if_pos (by decide), vC_e k, cI_e p1, jn_v]
    by_cases y : ztop s 1 = 0
    · have ee : zex e s 24 n = zgo (zdn s 1) (n + zoff (zpc s)) := congrArg (zgo (zdn s 1)) (if_pos y)
      obtain ⟨Mz, g1, g2, g3⟩ := go2 c1 l1 rfl rfl
      refine ⟨Mz, ?_, ?_⟩
      · rw [if_pos y, jv_e, jv_e, jn_v, if_neg (show ¬ (1 : Int32) = 0 by decide)]
        exact g1 (fun M4 => some (.null, M4))
      · rw [ee] at hw' ⊢
        exact g2.ob hm hw' (f1.tr g3) hE
    · have ee : zex e s 24 n = zgo (zdn s 1) (zpc s + 1) := congrArg (zgo (zdn s 1)) (if_neg y)
      obtain ⟨Mz, g1, g2, g3⟩ := go1 c1 l1 rfl rfl (by decide)
      refine ⟨Mz, ?_, ?_⟩
      · rw [if_neg y, jv_e, jv_e, jn_v, if_pos rfl]
        exact g1 (fun M4 => some (.null, M4))
      · rw [ee] at hw' ⊢
        exact g2.ob hm hw' (f1.tr g3) hE
  · -- JUMP
    obtain ⟨Mz, g1, g2, g3⟩ := go2 h hl rfl rfl
    refine ⟨Mz, ?_, ?_⟩
    · rw [if_pos (by decide), jv_e, jn_v, if_neg (by decide), if_neg (by decide), jv_e, jn_v, if_neg (show ¬ (1 : Int32) = 0 by decide)]
      exact g1 (fun M4 => some (.null, M4))
    · exact g2.ob hm hw' g3 hE
  · -- TRY
    obtain ⟨Mz, g1, g2, g3⟩ := go1 h hl rfl rfl (by decide)
    refine ⟨Mz, ?_, ?_⟩
    · rw [if_neg (by decide), jv_e, jn_v, if_neg (by decide), if_neg (by decide), jv_e, jn_v, if_pos rfl]
      exact g1 (fun M4 => some (.null, M4))
    · have g4 : zCM e κ (zex e s 26 n) Mz := g2
      exact g4.ob hm hw' g3 hE
  · -- JUMPN
    have hh1 := hh (Or.inr rfl)
    have h45 := hl.2.2.2
    obtain ⟨p1, c1⟩ := zp33 (d := d) (by omega) h hl hk hh1
    obtain ⟨M1, hM1⟩ : ∃ z, z = sI M 88 12 (iI (ztp s - 1)) := ⟨_, rfl⟩
    rw [← hM1] at p1 c1
    have l1 := hl.dn (c := 1) (by omega)
    have f1 : zFo κ M M1 := by rw [hM1]; exact (zFf.sI zFf.r (by decide)).fo
    rw [if_neg (by decide), jv_e, jn_v, if_neg (by decide), if_pos (by decide), vC_e k, cI_e p1, jn_v]
    by_cases y : ztop s 1 = 0
    · have ee : zex e s 31 n = zgo (zdn s 1) (zpc s + 1) := congrArg (zgo (zdn s 1)) (if_pos y)
      obtain ⟨Mz, g1, g2, g3⟩ := go1 c1 l1 rfl rfl (by decide)
      refine ⟨Mz, ?_, ?_⟩
      · rw [if_pos y, jv_e, jv_e, jn_v, if_pos rfl]
        exact g1 (fun M4 => some (.null, M4))
      · rw [ee] at hw' ⊢
        exact g2.ob hm hw' (f1.tr g3) hE
    · have ee : zex e s 31 n = zgo (zdn s 1) (n + zoff (zpc s)) := congrArg (zgo (zdn s 1)) (if_neg y)
      obtain ⟨Mz, g1, g2, g3⟩ := go2 c1 l1 rfl rfl
      refine ⟨Mz, ?_, ?_⟩
      · rw [if_neg y, jv_e, jv_e, jn_v, if_neg (show ¬ (1 : Int32) = 0 by decide)]
        exact g1 (fun M4 => some (.null, M4))
      · rw [ee] at hw' ⊢
        exact g2.ob hm hw' (f1.tr g3) hE
/-- CHECK -/
theorem zc35 (hd : 3 ≤ d) (h : zCM e κ s M) (hE : zCE e κ M) (hw : zWT e s) (hm : s.1 1 0 0 = 0) (hl : zLy s) (hh : 1 ≤ zh s) (h27 : zop e (zpc s) ≠ 27) (hs : zpc s + 1 < 1000 ↔ zpc s < 1000) (hw' : zWT e (zex e s 28 n)) : ∃ M', runX d 35 [va_rf (some 88), va_rf (some (94 + (zf s).toNat))] M = some (.null, M') ∧ zOb e κ (zex e s 28 n) M M' := by
  obtain ⟨d, rfl⟩ : ∃ e, d = e + 1 := ⟨d - 1, by omega⟩
  have hk := hE.2.2.2.2.1.k8
  have k := ck_88 h.1
  have h45 := hl.2.2.2
  obtain ⟨p1, c1⟩ := zp33 (d := d) (by omega) h hl hk hh
  obtain ⟨M1, hM1⟩ : ∃ z, z = sI M 88 12 (iI (ztp s - 1)) := ⟨_, rfl⟩
  rw [← hM1] at p1 c1
  have l1 := hl.dn (c := 1) (by omega)
  have f1 : zFo κ M M1 := by rw [hM1]; exact (zFf.sI zFf.r (by decide)).fo
  rw [r35]; unfold b35; rw [aR_e, aR_e, aZ_e]; unfold c35
  rw [vC_e k, cI_e p1, jn_v]
  by_cases y : ztop s 1 = 0
  · have ee : zex e s 28 n = zerr (zdn s 1) 5 3 := by
      show (if ztop s 1 = 0 then zerr (zdn s 1) 5 3 else znx (zdn s 1)) = _
      rw [if_pos y]
    obtain ⟨M', r1, r2⟩ := mC41 (d := d) (s := zdn s 1) (M := M1) (v1 := 5) (v2 := 1) (fl := 1) (m := 3) (by omega) c1 (hE.fo f1) li_1 (Or.inl ⟨rfl, rfl⟩) (zerr_wt hw hm (Or.inl rfl)) h27 (by rw [show (zdn s 1).1 1 0 0 = s.1 1 0 0 from rfl]; omega)
    refine ⟨M', ?_, ?_⟩
    · rw [if_pos y, vC_e (ck_88 c1.1), cV_e r1, jv_e]
    · rw [ee]; exact (r2.fo f1).ob
  · have ee : zex e s 28 n = znx (zdn s 1) := by
      show (if ztop s 1 = 0 then zerr (zdn s 1) 5 3 else znx (zdn s 1)) = _
      rw [if_neg y]
    obtain ⟨M2, g1, g2, g3⟩ := zpat c1 l1 hk hs
    refine ⟨M2, ?_, ?_⟩
    · rw [if_neg y]
      exact (g1 _).trans rfl
    · rw [ee] at hw' ⊢
      exact g2.ob hm hw' (f1.tr g3) hE
end S99b
