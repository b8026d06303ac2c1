/-! the first object's machine: a STEP begins, or none is left -/
section S99t
variable {d : Nat} {e s s' t u : ZS} {κ : ZK} {M M' M1 M2 : Mem} {a b j N x y T LL : Nat} {xs : Nat → Int32} {v v1 v2 v3 w : Int32} {c k i n m p o q id fl ar st key par r B h D H S P : Int} {Y : Nat → Int → Int} {DT : Option Nat}
def fc30 (a2 : Option Nat) (M0 : Mem) : Int32 → XA := fun (s6 : Int32) =>
 ptI (4, 22) M0 (some 88) 10 s6 fun M7 =>
 ptI (4, 22) M7 (some 88) 19 ((3 : Int32)) fun M8 =>
 ptI (4, 22) M8 (some 88) 20 ((6 : Int32)) fun M9 =>
 alI 100 M9 a2 ((0 : Int32)) fun x10 =>
 alI 100 M9 a2 ((2 : Int32)) fun x11 =>
 ptI (4, 22) M9 (some 88) 21 (x10 + (((1000 : Int32)) * x11)) fun M12 =>
 ptI (4, 22) M12 (some 88) 14 ((0 : Int32)) fun M13 =>
 rtZ ((0 : Int32)) M13
theorem fc30_e (h : zCM e κ s M) (hl : zLy s) (hE : zE1 e κ M) (hin : zIn e (zpc s)) : ∃ M', fc30 (some (94 + (zf s).toNat)) M v = some (.int 0, M') ∧ M'.2 = M.2 ∧ (∀ a j, ¬ (a = 88 ∧ (j = 10 ∨ j = 14 ∨ j = 19 ∨ j = 20 ∨ j = 21)) → M'.1 a j = M.1 a j) ∧ M'.1 88 10 = v ∧ M'.1 88 14 = iI 0 ∧ M'.1 88 19 = iI 3 ∧ M'.1 88 20 = 6 ∧ M'.1 88 21 = iI (zpc s) := by
  have C := h.1
  have k := ck_88 C
  have l1 := hl.1
  have zfe : zf s = s.1 0 0 0 - 1 := rfl
  have kf : M.2.2.2[94 + (zf s).toNat]? = some (100, 4) := ck94n C (by omega)
  obtain ⟨f0, -, f2, -⟩ := (h.2.2.1 (zf s) (by omega) (by omega)).1
  have f0 : M.1 (94 + (zf s).toNat) 0 = iI (zpc s - zoff (zpc s)) := f0
  have f2 : M.1 (94 + (zf s).toNat) 2 = iI (if zpc s < 1000 then 0 else 1) := f2
  obtain ⟨M3, hM3⟩ : ∃ z, z = sI (sI (sI M 88 10 v) 88 19 3) 88 20 6 := ⟨_, rfl⟩
  have o3 : ∀ a j, a ≠ 88 → M3.1 a j = M.1 a j := fun a j p => by rw [hM3]; exact (sI_ne p).trans ((sI_ne p).trans (sI_ne p))
  have k3 : M3.2.2.2[88]? = some (4, 22) := by rw [hM3]; exact k
  have kf3 : M3.2.2.2[94 + (zf s).toNat]? = some (100, 4) := by rw [hM3]; exact kf
  have pcv : iI (zpc s - zoff (zpc s)) + 1000 * iI (if zpc s < 1000 then 0 else 1) = iI (zpc s) := by
    refine cvI (adI rfl (mlI (x := 1000) rfl rfl)) ?_
    unfold zoff
    by_cases y : zpc s < 1000
    · rw [if_pos y, if_pos y]; omega
    · rw [if_neg y, if_neg y]; omega
  refine ⟨sI (sI M3 88 21 (iI (zpc s))) 88 14 (iI 0), ?_, by rw [hM3]; rfl, fun a j p => ?_, ?_, sI_eq, ?_, ?_, ?_⟩
  · unfold fc30
    rw [ptI_e k, ptI_e (M := sI M 88 10 v) k, ptI_e (M := sI (sI M 88 10 v) 88 19 3) k, ← hM3, alI_q (n := 4) (z := 0) kf3 li_0 (by omega) ((o3 _ _ (by omega)).trans f0), alI_q (n := 4) (z := 2) (c := 2) kf3 li_2 (by omega) ((o3 _ _ (by omega)).trans f2), pcv, ptI_e k3, ptI_q (M := sI M3 88 21 (iI (zpc s))) (z := 0) k3 li_0]
    rfl
  · by_cases y : a = 88
    · subst y
      rw [hM3]
      exact (sI_nej (fun z => p ⟨rfl, by omega⟩)).trans ((sI_nej (fun z => p ⟨rfl, by omega⟩)).trans ((sI_nej (fun z => p ⟨rfl, by omega⟩)).trans ((sI_nej (fun z => p ⟨rfl, by omega⟩)).trans (sI_nej (fun z => p ⟨rfl, by omega⟩)))))
    · exact (sI_ne y).trans ((sI_ne y).trans (o3 a j y))
  · rw [hM3]; exact (sI_nej (by decide)).trans ((sI_nej (by decide)).trans ((sI_nej (by decide)).trans ((sI_nej (by decide)).trans sI_eq)))
  · rw [hM3]; exact (sI_nej (by decide)).trans ((sI_nej (by decide)).trans ((sI_nej (by decide)).trans sI_eq))
  · rw [hM3]; exact (sI_nej (by decide)).trans ((sI_nej (by decide)).trans sI_eq)
  · exact (sI_nej (by decide)).trans sI_eq
theorem zcw_p (h : zIv e s) (h9 : 0 ≤ s.1 9 0 0) (hm : s.1 1 0 0 = 0) : (0 < zcw s ↔ s.1 12 0 0 ≠ 0) ∧ 0 ≤ zcw s ∧ zcw s ≤ 2147483647 ∧ (s.1 12 0 0 ≠ 0 → zcw (ztick e s) = zcw s - 1) := by
  have h6 := h.2.2.2.2.2
  have t12 : (ztick e s).1 12 0 0 = s.1 12 0 0 - 1 := rfl
  have t1 : (ztick e s).1 1 0 0 = s.1 1 0 0 := rfl
  unfold zcw
  have m6 : ¬ s.1 1 0 0 = 6 := by omega
  rw [t12, t1, if_neg m6, if_neg m6]
  by_cases y : 0 ≤ s.1 12 0 0
  · rw [if_pos y]
    refine ⟨by omega, by omega, by omega, fun z => ?_⟩
    rw [if_pos (by omega)]
  · rw [if_neg y]
    refine ⟨by omega, by omega, by omega, fun z => ?_⟩
    rw [if_neg (by omega)]; omega
theorem zc30 (hd : 2 ≤ d) (h : zCM e κ s M) (hE : zCE e κ M) (hw : zKn e s) (hm : s.1 1 0 0 = 0) : ∃ M' r, runX d 30 [va_rf (some 88), va_rf (some (κ 0 (zsd (zpc s)))), va_rf (some (94 + (zf s).toNat))] M = some (.int r, M') ∧ zFo κ M M' ∧ ((r = 1 ∧ 0 < s.1 9 0 0 ∧ s.1 12 0 0 ≠ 0 ∧ zCM e κ (ztick e s) M') ∨ (r = 0 ∧ zend (zstep e s) ∧ zCN e κ (zstep e s) M')) := by
  obtain ⟨d, rfl⟩ : ∃ e, d = e + 1 := ⟨d - 1, by omega⟩
  have hl := hw.1.ly (Or.inl hm)
  have hk := hE.2.2.2.2.1.k8
  have C := h.1
  have k := ck_88 C
  have k89 := ck_89 C
  have hb : zBs e s := hw.1.1
  have h9 : 0 ≤ s.1 9 0 0 := hb.1.2.2.2.2.1
  have iv := hw.2.1
  obtain ⟨⟨i1, i1'⟩, -, -, -, i5, i6⟩ := iv
  obtain ⟨w1, w2, w3, w4⟩ := zcw_p hw.2.1 h9 hm
  have pin : zIn e (zpc s) := by
    rcases hw.1.2 with ⟨-, h1, ⟨Y, a, c, w, hh⟩, -⟩ | ⟨z, -⟩ | ⟨z, -⟩ | z | z
    · exact w.1.in _ w.2.1.1 w.2.1.2
    all_goals omega
  obtain ⟨g1, g2, g3, ⟨g4, g5, g6, g7⟩, g8, g9, g10⟩ := h.2.1
  have e5 := hE.2.2.2.2.1
  obtain ⟨⟨x1, -, x5, x6, -⟩, -, -, x20, xc, -⟩ := e5
  have cov : e.1 10 0 0 = 1 → zpc s < 1000 ∧ 0 ≤ zpc s ∧ zpc s < e.1 21 0 0 := fun y => by
    have h22 := (xc y).2.1
    have := hE.1.1
    unfold zIn at pin
    have := hE.1.2.1
    omega
  -- what ends it
  have last : ∀ (v : Int32) (t : ZS), t = zstep e s → (t.1 1 0 0 = 5 ∧ t.2 5 0 0 = 6 ∧ t.1 13 0 0 = zpc s ∨ t.1 1 0 0 = 6) → v = iI (zcw t) → (∀ k, k = 8 ∨ k = 10 ∨ k = 11 ∨ k = 14 ∨ k = 15 ∨ k = 17 → t.1 k = s.1 k) → (∀ k, k ≠ 5 → t.2 k = s.2 k) → ∃ M', fc30 (some (94 + (zf s).toNat)) M v = some (.int 0, M') ∧ zFo κ M M' ∧ zend (zstep e s) ∧ zCN e κ (zstep e s) M' := fun v t et hm' hv q1 q2 => by
    obtain ⟨M', z1, z2, z3, z4, z5, z6, z7, z8⟩ := fc30_e (v := v) h hl hE.1 pin
    have fo : zFo κ M M' := ⟨z2, fun a j p _ _ _ => z3 a j (fun w => by
      obtain ⟨wa, wj⟩ := w
      subst wa
      rcases wj with wj | wj | wj | wj | wj <;> subst wj <;> exact absurd p (by decide))⟩
    rw [← et]
    refine ⟨M', z1, fo, ?_, ⟨⟨fun q y => by rw [fo.kd]; exact C.1 q y, fun q y => by rw [fo.p]; exact C.2 q y⟩, ?_, z5, ?_⟩⟩
    · unfold zend
      rcases hm' with ⟨w, -⟩ | w
      · exact Or.inl w
      · exact Or.inr (Or.inl w)
    · refine h.2.1.cw hk (fun a j p _ _ _ _ => z3 a j p) (fun k p => q1 k (by omega)) (fun k p => q2 k (by omega)) ?_ (z4.trans hv) (fun y p u w => ?_)
      · rw [z3 _ _ (by omega), q1 10 (by omega)]; exact g5
      · have a0 := hk 0 (by omega)
        have a1 := hk 1 (by omega)
        have a2 := hk 2 (by omega)
        rw [z3 _ _ (by omega), z3 _ _ (by omega), z3 _ _ (by omega), q2 7 (by decide), q2 8 (by decide), q1 15 (by omega)]
        exact g8 y p u w
    · rcases hm' with ⟨w, w', w''⟩ | w
      · exact Or.inr (Or.inr (Or.inr (Or.inl ⟨w, z6, by rw [z7, w'], by rw [z8, w'']⟩)))
      · exact Or.inr (Or.inr (Or.inr (Or.inr ⟨w, z6⟩)))
  rw [r30]; unfold b30; rw [aR_e, aR_e, aR_e, aZ_e]; unfold c30
  rw [gtP_q k (cf_88_0 C), gtI_q k89 g5, gtI_q k x1, jn_v]
  by_cases l0 : s.1 9 0 0 = 0
  · have z : zstep e s = zerr s 6 5 := by unfold zstep; rw [if_pos hm, if_pos l0]
    have em : (zerr s 6 5).1 1 0 0 = 5 := zi_e
    have ec : zcw (zerr s 6 5) = zcw s := by
      unfold zcw
      have m6 : ¬ s.1 1 0 0 = 6 := by omega
      rw [em, if_neg (show ¬ (5 : Int) = 6 by decide), if_neg m6]; rfl
    obtain ⟨M', z1, z2, z3, z4⟩ := last (iI (zcw s)) (zerr s 6 5) z.symm (Or.inl ⟨em, zw_e (s := s) (k := 5) (i := 0) (j := 0) (w := 6), zi_e (s := zw s 5 0 0 6) (k := 13) (i := 0) (j := 0) (v := zpc s)⟩) (by rw [ec]) (fun k p => by rcases p with p | p | p | p | p | p <;> subst p <;> rfl) (fun k p => by funext x y; exact zw_k p)
    refine ⟨M', 0, ?_, z2, Or.inr ⟨rfl, z3, z4⟩⟩
    rw [if_neg (lsI_n rfl rfl (by omega)), jv_e, jn_v, if_neg (show ¬ (1 : Int32) = 0 by decide), jv_e, jn_v, if_neg (show ¬ (1 : Int32) = 0 by decide), gtI_q k g7, jv_e]
    exact z1
  rw [if_pos (lsI_p rfl rfl (by omega)), jv_e, jn_v, if_pos rfl, gtI_q k g7]
  by_cases y0 : s.1 12 0 0 = 0
  · have z : zstep e s = zi s 1 0 0 6 := by unfold zstep; rw [if_pos hm, if_neg l0, if_pos y0]
    have em : (zi s 1 0 0 6).1 1 0 0 = 6 := zi_e
    have ec : zcw (zi s 1 0 0 6) = -1 := by unfold zcw; rw [em, if_pos rfl]
    obtain ⟨M', z1, z2, z3, z4⟩ := last (-1) (zi s 1 0 0 6) z.symm (Or.inr em) (by rw [ec]; rfl) (fun k p => by rcases p with p | p | p | p | p | p <;> subst p <;> rfl) (fun k p => rfl)
    refine ⟨M', 0, ?_, z2, Or.inr ⟨rfl, z3, z4⟩⟩
    rw [if_neg (lsI_n li_0 rfl (by omega)), jv_e, jn_v, if_pos rfl, jv_e]
    exact z1
  have wp := w1.2 y0
  obtain ⟨M1, hM1⟩ : ∃ z, z = sI M 89 3 (iI (s.1 10 0 0 + 1)) := ⟨_, rfl⟩
  obtain ⟨M2, hM2⟩ : ∃ z, z = sI M1 88 10 (iI (zcw s - 1)) := ⟨_, rfl⟩
  have C1 : CT M1 := by rw [hM1]; exact C
  have C2 : CT M2 := by rw [hM2]; exact C1
  have g7' : M1.1 88 10 = iI (zcw s) := by rw [hM1]; exact (sI_ne (by decide)).trans g7
  have o2 : ∀ a j, ¬ (a = 88 ∧ j = 10) → ¬ (a = 89 ∧ j = 3) → M2.1 a j = M.1 a j := fun a j p q => by
    rw [hM2, hM1]
    by_cases y : a = 88
    · exact (sI_nej fun z => p ⟨y, z⟩).trans (sI_ne (by omega))
    · refine (sI_ne y).trans ?_
      by_cases y2 : a = 89
      · exact sI_nej fun z => q ⟨y2, z⟩
      · exact sI_ne y2
  have m2e : M2.2 = M.2 := by rw [hM2, hM1]; rfl
  have x6' : M2.1 88 6 = iI (if e.1 10 0 0 = 1 then 2 else if e.1 10 1 0 = 1 then 1 else 0) := (o2 _ _ (by omega) (by omega)).trans x6
  have ec := w4 y0
  have t89 : M2.1 89 3 = iI ((ztick e s).1 10 0 0) := by rw [hM2, hM1]; exact (sI_ne (by decide)).trans sI_eq
  have t88 : M2.1 88 10 = iI (zcw (ztick e s)) := by rw [ec, hM2]; exact sI_eq
  -- what goes on
  have on : ∀ M3 : Mem, M3.2 = M2.2 → (∀ a j, (κ 12 0 = 1 → a ≠ κ 8 0) → (κ 12 0 = 1 → a ≠ κ 8 1) → (κ 12 0 = 1 → a ≠ κ 8 2) → M3.1 a j = M2.1 a j) → (e.1 10 0 0 = 1 → ∀ p, 0 ≤ p → p < e.1 21 0 0 → M3.1 (κ 8 0) p.toNat = (ztick e s).2 7 p 0 ∧ M3.1 (κ 8 1) p.toNat = (ztick e s).2 8 p 0 ∧ M3.1 (κ 8 2) p.toNat = iI ((ztick e s).1 15 p 0 + 1)) → zFo κ M M3 ∧ zCM e κ (ztick e s) M3 := fun M3 q1 q2 q3 => by
    have a0 := hk 0 (by omega)
    have a1 := hk 1 (by omega)
    have a2 := hk 2 (by omega)
    have lo : ∀ a j, a < 259 → M3.1 a j = M2.1 a j := fun a j p => q2 a j (by omega) (by omega) (by omega)
    have ft : ∀ k, k ≠ 9 → k ≠ 10 → k ≠ 12 → k ≠ 15 → (ztick e s).1 k = s.1 k := fun k b1 b2 b3 b4 => by
      funext x y
      show (if k = 9 then _ else if k = 10 then _ else if k = 12 then _ else if k = 15 ∧ e.1 10 0 0 = 1 ∧ x = zpc s then _ else s.1 k x y) = _
      rw [if_neg b1, if_neg b2, if_neg b3, if_neg fun z => b4 z.1]
    have wt : ∀ k, k ≠ 7 → k ≠ 8 → (ztick e s).2 k = s.2 k := fun k b1 b2 => by
      funext x y
      show (if k = 7 ∧ e.1 10 0 0 = 1 ∧ x = zpc s then _ else if k = 8 ∧ e.1 10 0 0 = 1 ∧ x = zpc s ∧ s.1 15 (zpc s) 0 ≠ e.1 16 0 0 then _ else s.2 k x y) = _
      rw [if_neg fun z => b1 z.1, if_neg fun z => b2 z.1]
    refine ⟨⟨q1.trans m2e, fun a j p r0 r1 r2 => (q2 a j r0 r1 r2).trans (o2 a j (fun z => by rw [z.1, z.2] at p; exact absurd p (by decide)) (fun z => by rw [z.1, z.2] at p; exact absurd p (by decide)))⟩, ⟨fun q y => by rw [congrArg (fun z => z.2.2) q1]; exact C2.1 q y, fun q y => by rw [congrArg (fun z => z.2.1) q1]; exact C2.2 q y⟩, ?_, fun i p q => ?_, ?_, ?_, ?_, ?_⟩
    · exact h.2.1.cw hk (fun a j p q r0 r1 r2 => (q2 a j (fun _ => r0) (fun _ => r1) (fun _ => r2)).trans (o2 a j (fun z => p ⟨z.1, by omega⟩) q)) (fun k p => ft k (by omega) (by omega) (by omega) (by omega)) (fun k p => wt k (by omega) (by omega)) ((lo _ _ (by decide)).trans t89) ((lo _ _ (by decide)).trans t88) q3
    · exact (h.2.2.1 i p q).lo ⟨p, by have : i < s.1 0 0 0 := q; have := hl.1; omega⟩ (fun j => (lo _ _ (by have : i < s.1 0 0 0 := q; have := hl.1; omega)).trans (o2 _ _ (by omega) (by omega))) (fun k u w => (lo _ _ (by decide)).trans (o2 _ _ (by omega) (by omega))) (fun k u w => (lo _ _ (by decide)).trans (o2 _ _ (by omega) (by omega))) rfl rfl rfl rfl rfl (fun _ => rfl) (fun _ => rfl)
    · exact ((lo _ _ (by decide)).trans (o2 _ _ (by omega) (by omega))).trans h.2.2.2.1
    · exact ((lo _ _ (by decide)).trans (o2 _ _ (by omega) (by omega))).trans h.2.2.2.2.1
    · exact ((lo _ _ (by decide)).trans (o2 _ _ (by omega) (by omega))).trans h.2.2.2.2.2.1
    · exact ((lo _ _ (by decide)).trans (o2 _ _ (by omega) (by omega))).trans h.2.2.2.2.2.2
  rw [if_pos (lsI_p li_0 rfl (by omega)), gtP_q k (cf_88_0 C), gtI_q k89 g5, ptI_q (z := s.1 10 0 0 + 1) k89 (adI rfl li_1), ← hM1, gtI_q (ck_88 C1) g7', ptI_q (z := zcw s - 1) (ck_88 C1) (sbI rfl li_1), ← hM2, gtI_q (ck_88 C2) x6', jn_v]
  by_cases yc : e.1 10 0 0 = 1
  · obtain ⟨cp1, cp2, cp3⟩ := cov yc
    have zs0 : zsd (zpc s) = 0 := if_pos cp1
    have zo0 : zoff (zpc s) = 0 := if_pos cp1
    have l1 := hl.1
    have zfe : zf s = s.1 0 0 0 - 1 := rfl
    have kf : M2.2.2.2[94 + (zf s).toNat]? = some (100, 4) := ck94n C2 (by omega)
    have f0 : M.1 (94 + (zf s).toNat) 0 = iI (zpc s - zoff (zpc s)) := (h.2.2.1 (zf s) (by omega) (by omega)).1.1
    have x5' : M2.1 88 5 = iI (e.1 16 0 0 + 1) := (o2 _ _ (by omega) (by omega)).trans (x5 yc).1
    have k0 : M.2.2.2[κ 0 0]? = some (6, 18) := (hE.1.2.2 0 (Or.inl rfl)).1.2.1
    have E2 : zE5 e κ M2 := by
      refine hE.2.2.2.2.1.fo ⟨m2e, fun a j p r0 r1 r2 => o2 a j (fun z => by rw [z.1, z.2] at p; exact absurd p (by decide)) (fun z => by rw [z.1, z.2] at p; exact absurd p (by decide))⟩
    have k02 : M2.2.2.2[κ 0 0]? = some (6, 18) := by rw [congrArg (fun z => z.2.2) m2e]; exact k0
    obtain ⟨M3, z1, z2, z3, z4, z5, z6, z7⟩ := zc55 (d := d) (p := zpc s) (v1 := iI (zpc s)) (w := iI (e.1 16 0 0 + 1)) (by omega) k02 E2 ⟨cp2, cp3, hE.1.2.1.2.1⟩ rfl
    have a0 := hk 0 (by omega)
    have a1 := hk 1 (by omega)
    have a2 := hk 2 (by omega)
    have old := g8 yc
    have gg : e.1 10 0 0 = 1 → ∀ p, 0 ≤ p → p < e.1 21 0 0 → M3.1 (κ 8 0) p.toNat = (ztick e s).2 7 p 0 ∧ M3.1 (κ 8 1) p.toNat = (ztick e s).2 8 p 0 ∧ M3.1 (κ 8 2) p.toNat = iI ((ztick e s).1 15 p 0 + 1) := fun _ p u w => by
      obtain ⟨q0, q1, q2⟩ := old p u w
      by_cases y : p = zpc s
      · subst y
        have s7 : (ztick e s).2 7 (zpc s) 0 = s.2 7 (zpc s) 0 + 1 := if_pos ⟨rfl, yc, rfl⟩
        have s15 : (ztick e s).1 15 (zpc s) 0 = e.1 16 0 0 := if_pos ⟨rfl, yc, rfl⟩
        have b0 := z5
        rw [o2 _ _ (by omega) (by omega), q0] at b0
        rw [o2 _ _ (by omega) (by omega), o2 _ _ (by omega) (by omega), q1, q2] at z7
        rw [s7, s15]
        refine ⟨b0, ?_, z6⟩
        rw [z7]
        have i15 := i5 (zpc s)
        have c16 := (xc yc).2.2
        by_cases y3 : s.1 15 (zpc s) 0 = e.1 16 0 0
        · have s8 : (ztick e s).2 8 (zpc s) 0 = s.2 8 (zpc s) 0 := if_neg fun z => z.2.2.2 y3
          rw [s8, if_pos (by rw [y3])]
        · have s8 : (ztick e s).2 8 (zpc s) 0 = s.2 8 (zpc s) 0 + 1 := if_pos ⟨rfl, yc, rfl, y3⟩
          rw [s8, if_neg (eqI_n rfl rfl (by omega))]
      · have s7 : (ztick e s).2 7 p 0 = s.2 7 p 0 := if_neg fun z => y z.2.2
        have s8 : (ztick e s).2 8 p 0 = s.2 8 p 0 := if_neg fun z => y z.2.2.1
        have s15 : (ztick e s).1 15 p 0 = s.1 15 p 0 := if_neg fun z => y z.2.2
        obtain ⟨b0, b1, b2⟩ := z4 p.toNat (by omega)
        rw [s7, s8, s15, b0, b1, b2, o2 _ _ (by omega) (by omega), o2 _ _ (by omega) (by omega), o2 _ _ (by omega) (by omega)]
        exact ⟨q0, q1, q2⟩
    obtain ⟨y1, y2⟩ := on M3 z2 (fun a j r0 r1 r2 => z3 a j (r0 (x5 yc).2) (r1 (x5 yc).2) (r2 (x5 yc).2)) gg
    refine ⟨M3, 1, ?_, y1, Or.inl ⟨rfl, by omega, y0, y2⟩⟩
    rw [zs0, if_pos (show iI (if e.1 10 0 0 = 1 then 2 else if e.1 10 1 0 = 1 then 1 else 0) = 2 from eqI_p (y := 2) rfl rfl (by rw [if_pos yc])), alI_q (n := 4) (z := 0) kf li_0 (by omega) ((o2 _ _ (by omega) (by omega)).trans f0), gtI_q (ck_88 C2) x5', zo0, Int.sub_zero, vC_e k02, cV_e z1]
    rfl
  · obtain ⟨y1, y2⟩ := on M2 rfl (fun _ _ _ _ _ => rfl) (fun z => absurd z yc)
    refine ⟨M2, 1, ?_, y1, Or.inl ⟨rfl, by omega, y0, y2⟩⟩
    rw [if_neg (show ¬ iI (if e.1 10 0 0 = 1 then 2 else if e.1 10 1 0 = 1 then 1 else 0) = 2 from eqI_n (y := 2) rfl rfl (by rw [if_neg yc]; split <;> omega))]
    rfl
end S99t
