/-! the first object's machine: all its turns -/
section S99v
variable {d : Nat} {e s s' t u : ZS} {κ : ZK} {M M' M1 M2 : Mem} {a b j N x y T LL : Nat} {xs : Nat → Int32} {v v1 v2 v3 w : Int32} {c k i n m p o q id fl ar st key par r B h D H S P : Int} {Y : Nat → Int → Int} {DT : Option Nat}
theorem zCM.p15 (hC : CT M) (hG : zCG e κ s M) (hF : ∀ i, 0 ≤ i → i < s.1 0 0 0 → zCi s M i) (h14 : M.1 88 14 = iI (s.1 0 0 0)) (h12 : M.1 88 12 = iI (ztp s)) (h19 : M.1 88 19 = iI 0) (hk : zK8 κ) (n12 : s.1 0 0 0 ≤ 12) (g1 : ∀ k, k ≠ 1 → s'.1 k = s.1 k) (g2 : s'.2 = s.2) (g6 : s'.1 1 0 0 ≠ 6 ∧ s.1 1 0 0 ≠ 6) : zCM e κ s' (sI M 88 15 (iI 0)) ∧ zFo κ M (sI M 88 15 (iI 0)) := by
  have f : zFf M (sI M 88 15 (iI 0)) := zFf.sI zFf.r (by decide)
  have e0 : s'.1 0 0 0 = s.1 0 0 0 := by rw [g1 0 (by decide)]
  have ef : zf s' = zf s := by unfold zf; rw [e0]
  refine ⟨⟨hC.f f, hG.ff f ⟨fun k p => g1 k (by omega), fun k p q r => by rw [g2], by omega⟩ hk, fun i p q => ?_, ?_, ?_, sI_eq, (sI_nej (by decide)).trans h19⟩, f.fo⟩
  · rw [e0] at q
    exact (hF i p q).lo ⟨p, by omega⟩ (fun j => sI_ne (by omega)) (fun k x y => sI_ne (by decide)) (fun k x y => sI_ne (by decide)) (by rw [g1 2 (by decide)]) (by rw [g1 3 (by decide)]) (by rw [g1 5 (by decide)]) (by rw [g1 6 (by decide)]) (by rw [g1 16 (by decide)]) (fun k => by rw [g2]) (fun k => by rw [g2])
  · rw [e0]; exact (sI_nej (by decide)).trans h14
  · have : ztp s' = ztp s := by unfold ztp zh; rw [ef, g1 6 (by decide), g1 3 (by decide)]
    rw [this]; exact (sI_nej (by decide)).trans h12
theorem exec_x {J : Mem → XA} (hC : CT M) (h14 : M.1 88 14 = iI 0) (ht : 0 ≤ m ∧ m < 1000000) (hN : 0 < N) : lp (c28_26 (runX d) (some 88) J) N (iI m, M) = J M := by
  obtain ⟨N, rfl⟩ : ∃ e, N = e + 1 := ⟨N - 1, by omega⟩
  rw [lp_e]
  unfold c28_26
  dsimp only
  rw [if_neg (show ¬ (1000000 : Int32) ≤ iI m from leI_n (x := 1000000) rfl rfl (by omega)), gtI_q (ck_88 hC) h14, if_pos (leI_p rfl li_0 (by omega))]
theorem exec_lp {J : Mem → XA} (hd : 9 ≤ d) (hT : zET e) (h8 : zE8 e) (hEl : zEl e) : ∀ (m : Nat) (s : ZS) (M : Mem) (t : Int) (N : Nat), 2 * s.1 9 0 0 + (if s.1 1 0 0 = 1 then 1 else 0) ≤ m → zKn e s → zCE e κ M → OldOK LL xs M → ((zCM e κ s M ∧ s.1 1 0 0 = 0) ∨ (zCR e κ s M ∧ s.1 1 0 0 = 1)) → 0 ≤ t → t + m < 100000 → m + 3 < N → ∃ M' u, lp (c28_26 (runX d) (some 88) J) N (iI t, M) = J M' ∧ zto e s u ∧ zend u ∧ zCN e κ u M' ∧ zFo κ M M' := by
  intro m
  induction m with
  | zero =>
    intro s M t N h1 hK hE hO hC t0 t1 hN
    have h9 : 0 ≤ s.1 9 0 0 := hK.1.1.1.2.2.2.2.1
    rcases hC with ⟨hC, hm⟩ | ⟨-, hm⟩
    · obtain ⟨N, rfl⟩ : ∃ e, N = e + 1 := ⟨N - 1, by omega⟩
      have hl := hK.1.ly (Or.inl hm)
      have zfb : 0 ≤ zf s ∧ zf s < s.1 0 0 0 := by have := hl.1; unfold zf; omega
      have hin : zIn e (zpc s) := by
        rcases hK.1.2 with ⟨-, h1, ⟨Y, a, c, w, hh⟩, -⟩ | ⟨z, -⟩ | ⟨z, -⟩ | z | z
        · exact w.1.in _ w.2.1.1 w.2.1.2
        all_goals omega
      obtain ⟨M1, r, z1, z2, z3⟩ := zc30 (d := d) (by omega) hC hE hK hm
      rw [if_neg (by omega)] at h1
      rcases z3 with ⟨-, z3, -⟩ | ⟨r0, z3, z4⟩
      · omega
      · refine ⟨M1, zstep e s, ?_, zto.st zto.r, z3, z4, z2⟩
        rw [lp_e, exec_hd (s := s) (ar := 0) hC.1 hE.1 (by omega) hC.2.2.2.1 hl (hC.2.2.1 _ zfb.1 zfb.2) hin hC.2.2.2.2.2.1 (Or.inl rfl), jn_v, jn_v, if_pos rfl, cI_e z1, r0, if_pos rfl, jv_e]
        have ik : iI t + (1 : Int32) = iI (t + 1) := adI rfl li_1
        rw [ltI_q ik]
        exact exec_x z4.1 z4.2.2.1 (by omega) (by omega)
    · rw [if_pos hm] at h1; omega
  | succ m ih =>
    intro s M t N h1 hK hE hO hC t0 t1 hN
    obtain ⟨N, rfl⟩ : ∃ e, N = e + 1 := ⟨N - 1, by omega⟩
    have h9 : 0 ≤ s.1 9 0 0 := hK.1.1.1.2.2.2.2.1
    have hk := hE.2.2.2.2.1.k8
    have hm01 : s.1 1 0 0 = 0 ∨ s.1 1 0 0 = 1 := by
      rcases hC with ⟨-, z⟩ | ⟨-, z⟩
      · exact Or.inl z
      · exact Or.inr z
    have hl := hK.1.ly hm01
    have n12 := hl.1.2
    have zfb : 0 ≤ zf s ∧ zf s < s.1 0 0 0 := by have := hl.1; unfold zf; omega
    have hin : zIn e (zpc s) := by
      rcases hK.1.2 with ⟨-, h1, ⟨Y, a, c, w, hh⟩, -⟩ | ⟨z, -⟩ | ⟨z, -⟩ | z | z
      · exact w.1.in _ w.2.1.1 w.2.1.2
      all_goals omega
    have ik : iI t + (1 : Int32) = iI (t + 1) := adI rfl li_1
    obtain ⟨-, -, i3, i4, -, -⟩ := hK.2.1
    obtain ⟨⟨i1, i1'⟩, ⟨i2, i2'⟩, -⟩ := hK.2.1
    have l20 := hEl.1
    have l30 := hEl.2.2
    -- what comes behind an instruction
    have next : ∀ M2 : Mem, zOb e κ (zstep e s) M M2 → (∀ t', zto e (zstep e s) t' → t'.1 10 0 0 = (zstep e s).1 10 0 0 → t'.1 1 0 0 = 1 → 2 * (zstep e s).1 9 0 0 + 1 ≤ m) → 2 * (zstep e s).1 9 0 0 ≤ m → ∃ M' u, lp (c28_26 (runX d) (some 88) J) N (iI (t + 1), M2) = J M' ∧ zto e s u ∧ zend u ∧ zCN e κ u M' ∧ zFo κ M M' := fun M2 ob h12 h02 => by
      obtain ⟨t', q1, q2, q3, q4, ⟨q5, q6⟩, q7⟩ := ob
      have toS : zto e s t' := zto.st q1
      have K' := zto_kn hT hEl hK toS
      rcases q7 with q7 | q7 | ⟨q7, q8⟩
      · obtain ⟨M', u, y1, y2, y3, y4, y5⟩ := ih t' M2 (t + 1) N (by rw [if_neg (by have := q7.2; omega), q5]; omega) K' q3 (hO.zfo q2 hk) (Or.inl q7) (by omega) (by omega) (by omega)
        exact ⟨M', u, y1, toS.tr y2, y3, y4, q2.tr y5⟩
      · have := h12 t' q1 q6 q7.2
        obtain ⟨M', u, y1, y2, y3, y4, y5⟩ := ih t' M2 (t + 1) N (by rw [if_pos q7.2, q5]; omega) K' q3 (hO.zfo q2 hk) (Or.inr q7) (by omega) (by omega) (by omega)
        exact ⟨M', u, y1, toS.tr y2, y3, y4, q2.tr y5⟩
      · exact ⟨M2, t', exec_x q8.1 q8.2.2.1 (by omega) (by omega), toS, q7, q8, q2⟩
    rcases hC with ⟨hC, hm⟩ | ⟨hC, hm⟩
    · obtain ⟨M1, r, z1, z2, z3⟩ := zc30 (d := d) (by omega) hC hE hK hm
      rw [if_neg (by omega)] at h1
      rw [lp_e, exec_hd (s := s) (ar := 0) hC.1 hE.1 (by omega) hC.2.2.2.1 hl (hC.2.2.1 _ zfb.1 zfb.2) hin hC.2.2.2.2.2.1 (Or.inl rfl), jn_v, jn_v, if_pos rfl, cI_e z1]
      rcases z3 with ⟨r1, l9, w0, c1⟩ | ⟨r0, z3, z4⟩
      · -- a STEP
        rw [r1, if_neg (by decide), jv_e]
        have wt := ztick_b hK.1 hm l9
        obtain ⟨c2, f2⟩ := zCM.p15 (s' := ztick e s) c1.1 c1.2.1 c1.2.2.1 c1.2.2.2.1 c1.2.2.2.2.1 c1.2.2.2.2.2.2 hk n12 (fun _ _ => rfl) rfl (by show s.1 1 0 0 ≠ 6 ∧ s.1 1 0 0 ≠ 6; omega)
        have fo := z2.tr f2
        have st : zstep e s = zex e (ztick e s) (zop e (zpc s)) (znum e (zpc s)) := by unfold zstep; rw [if_pos hm, if_neg (by omega), if_neg w0]
        have t10 : (ztick e s).1 10 0 0 = s.1 10 0 0 + 1 := rfl
        have t9 : (ztick e s).1 9 0 0 = s.1 9 0 0 - 1 := rfl
        have t11 : (ztick e s).1 11 0 0 = s.1 11 0 0 := rfl
        have t14 : (ztick e s).1 14 0 0 = s.1 14 0 0 := rfl
        have s9 : (zstep e s).1 9 0 0 = s.1 9 0 0 - 1 := by rw [st, zex_k (by decide), t9]
        obtain ⟨M2, y1, y2⟩ := zc31 (d := d) (s := ztick e s) hd c2 (hE.fo fo) hT h8 (hO.zfo fo hk) wt hm (fun _ => by rw [t11, t14]; omega) (fun D _ _ => by
          have := i4 D
          rw [if_neg (by omega)] at this
          show 0 ≤ s.1 17 D 0 ∧ s.1 17 D 0 ≤ 100000
          omega)
        have y2' : zOb e κ (zstep e s) M M2 := by rw [st]; exact y2.fo fo
        obtain ⟨M', u, x1, x2⟩ := next M2 y2' (fun _ _ _ _ => by omega) (by omega)
        refine ⟨M', u, ?_, x2⟩
        rw [ptZ_q (z := 0) (ck_88 c1.1) li_0 (by omega), vC_e (ck_88 c2.1)]
        refine (cV_e y1).trans ?_
        rw [jv_e, ltI_q ik]
        exact x1
      · refine ⟨M1, zstep e s, ?_, zto.st zto.r, z3, z4, z2⟩
        rw [r0, if_pos rfl, jv_e, ltI_q ik]
        exact exec_x z4.1 z4.2.2.1 (by omega) (by omega)
    · -- behind a START
      rw [if_pos hm] at h1
      obtain ⟨hC1, hG, hF, h14, h12, h15, h19⟩ := hC
      have em : (zi s 1 0 0 0).1 1 0 0 = 0 := zi_e
      obtain ⟨c2, f2⟩ := zCM.p15 (s' := zi s 1 0 0 0) hC1 hG hF h14 h12 h19 hk n12 (fun k p => by funext x y; exact zi_k p) rfl (by rw [em]; omega)
      have hc : 1 ≤ s.1 0 0 0 ∧ (∃ Y a c, zwf e s (zf s) Y a c ∧ zh s = Y 0 (zpc s)) ∧ 3 ≤ zop e (zpc s) ∧ zop e (zpc s) ≤ 7 := by
        rcases hK.1.2 with ⟨-, h1, w, hh⟩ | ⟨z, -⟩ | ⟨z, -⟩ | z | z
        · exact ⟨h1, w, (hh hm).1, (hh hm).2.1⟩
        all_goals omega
      obtain ⟨n1, ⟨Y, a, c, w, hh⟩, o3, o7⟩ := hc
      have wt : zWT e (zi s 1 0 0 0) := ⟨hK.1.1, Or.inl ⟨Or.inl em, n1, ⟨Y, a, c, w, hh⟩, fun z => by omega⟩⟩
      have st : zstep e s = zex e (zi s 1 0 0 0) (zop e (zpc s)) (znum e (zpc s)) := by unfold zstep; rw [if_neg (by omega), if_pos hm]
      have s9 : (zstep e s).1 9 0 0 = s.1 9 0 0 := by rw [st, zex_k (by decide)]; rfl
      have pe : zop e (zpc (zi s 1 0 0 0)) = zop e (zpc s) := rfl
      obtain ⟨M2, y1, y2⟩ := zc31 (d := d) (s := zi s 1 0 0 0) hd c2 (hE.fo f2) hT h8 (hO.zfo f2 hk) wt em (fun z => by omega) (fun D _ _ => by
        have := i4 D
        rw [if_pos (Or.inl hm)] at this
        show 0 ≤ s.1 17 D 0 ∧ s.1 17 D 0 ≤ 100000
        omega)
      have y2' : zOb e κ (zstep e s) M M2 := by rw [st]; exact y2.fo f2
      obtain ⟨M', u, x1, x2⟩ := next M2 y2' (fun t' q1 q6 q7 => by
        exfalso
        have mz : (zstep e s).1 1 0 0 ≠ 1 ∧ (zstep e s).1 1 0 0 ≠ 2 := by
          rw [st]
          rcases zex_m (e := e) (s := zi s 1 0 0 0) (o := zop e (zpc s)) (n := znum e (zpc s)) em with ⟨z, -⟩ | ⟨z, -⟩ <;> omega
        rcases zto_12 mz rfl q1 with z | z <;> omega) (by omega)
      refine ⟨M', u, ?_, x2⟩
      rw [lp_e, exec_hd (s := s) (ar := 1) hC1 hE.1 (by omega) h14 hl (hF _ zfb.1 zfb.2) hin h15 (Or.inr rfl), jn_v, jn_v, if_neg (by decide), jv_e, ptZ_q (z := 0) (ck_88 hC1) li_0 (by omega), vC_e (ck_88 c2.1)]
      refine (cV_e y1).trans ?_
      rw [jv_e, ltI_q ik]
      exact x1
end S99v
