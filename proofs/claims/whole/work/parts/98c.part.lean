/-! the first object's machine: fail -/
section S98c
variable {d : Nat} {e s s' u : ZS} {κ : ZK} {M M' M1 M2 : Mem} {a j : Nat} {v : Int32} {c t k i n p fl ar : Int} {Y : Nat → Int → Int}
theorem CT.f (h : CT M) (f : zFf M M') : CT M' := ⟨fun q y => by rw [congrArg (fun z => z.2.2) f.1]; exact h.1 q y, fun q y => by rw [congrArg (fun z => z.2.1) f.1]; exact h.2 q y⟩
theorem zFf.tr (h : zFf M M1) (g : zFf M1 M2) : zFf M M2 := ⟨g.1.trans h.1, fun a j p => (g.2 a j p).trans (h.2 a j p)⟩
/-- caught: the code on top goes on there -/
theorem f41_ct (h : zCL e κ u M fl ar) (hE : zCE e κ M) (hw : zWT e u) (hm : u.1 1 0 0 = 3) (hfl : fl = 1) (ho : zop e (zpc u) ≠ 27) (hc : 0 ≤ e.1 19 (zpc u) 0) (ht : 0 < u.1 4 (zf u) 0) (go : Int32 × Mem → XA) (har : ar = 0 ∨ ar = 1) : ∃ M', fb41 d (zf u).toNat (iI (e.1 19 (zpc u) 0)) (iI (10 * zf u + u.1 6 (zf u) 0 + 10)) (M21 u M ar) go = some (.null, M') ∧ zFin e κ u M M' := by
  have hwt := hw
  obtain ⟨hC, hG, hF, h14, h15, h19, h20, h21, h22⟩ := h
  obtain ⟨h1, Y, a, c, w⟩ := hw.m3 (Or.inl hm)
  have hb : zBs e u := hw.1
  have hb12 := hb.1.2.1
  have zfe : zf u = u.1 0 0 0 - 1 := rfl
  have sb := hb.sb (zf u).toNat (by omega)
  rw [show (((zf u).toNat : Nat) : Int) = zf u by omega] at sb
  have f21 := M21_f (u := u) (M := M) (ar := ar)
  have C1 := hC.f f21
  have k1 := ck_88 C1
  have h19' := (M21_i (u := u) (M := M) (ar := ar) (a := 88) (j := 19) (by omega)).trans h19
  have h20' := (M21_i (u := u) (M := M) (ar := ar) (a := 88) (j := 20) (by omega)).trans h20
  have bnd : e.1 19 (zpc u) 0 ≤ 2000 := by
    rcases w.ct ho with ⟨z, -⟩ | ⟨-, z1, z2, q, z3, -⟩
    · omega
    · have zz : e.1 19 (zpc u) 0 + zoff (zpc u) = u.1 7 (zf u) (u.1 4 (zf u) 0 - 1) := z2
      have := w.1.1
      have := hE.1.2.1
      have := z3.2.1
      unfold zoff at zz
      split at zz <;> omega
  obtain ⟨B, hB⟩ : ∃ B, B = 10 * zf u + u.1 6 (zf u) 0 + 10 := ⟨_, rfl⟩
  rw [← hB]
  obtain ⟨M', hM'⟩ : ∃ z, z = sI (sI (sI (sI (M21 u M ar) (94 + (zf u).toNat) 0 (iI (e.1 19 (zpc u) 0))) 92 B.toNat ((M21 u M ar).1 88 20)) 88 12 (iI (B + 1))) 88 19 (iI 0) := ⟨_, rfl⟩
  have ff : zFf M M' := by
    rw [hM']
    exact zFf.sI (zFf.sI (zFf.sI (zFf.sI f21 (inW_fx (by omega) _).2) (inW_c (by decide) _)) (by decide)) (by decide)
  have run : fb41 d (zf u).toNat (iI (e.1 19 (zpc u) 0)) (iI B) (M21 u M ar) go = some (.null, M') := by
    unfold fb41
    refine (gtI_q k1 h19').trans ?_
    refine (jn_v).trans ?_
    refine (if_pos (eqI_p (x := fl) rfl li_1 hfl)).trans ?_
    refine (if_neg (lsI_n rfl li_0 (by omega))).trans ?_
    refine (gtP_q k1 (cf_88_11 C1)).trans ?_
    refine (aln_q' (ck_92 C1)).trans ?_
    refine (if_neg (leI_n rfl rfl (by omega))).trans ?_
    rw [hM']
    exact mfj104 (a := 0) C1 (by omega) rfl (by omega)
  have hk := hE.2.2.2.2.1.k8
  -- the state
  rcases w.ct ho with ⟨z, -⟩ | ⟨-, z1, z2, q, z3, z4⟩
  · omega
  have zz : e.1 19 (zpc u) 0 + zoff (zpc u) = u.1 7 (zf u) (u.1 4 (zf u) 0 - 1) := z2
  have thr : zthr u (u.1 1 0 0) = zi (zi (zi (zi (zw u 1 (zf u) 0 (u.2 5 0 0)) 3 (zf u) 0 1) 2 (zf u) 0 (u.1 7 (zf u) (u.1 4 (zf u) 0 - 1))) 4 (zf u) 0 (u.1 4 (zf u) 0 - 1)) 1 0 0 0 := if_pos ⟨hm, ht⟩
  obtain ⟨t, hT⟩ : ∃ t, t = zthr u (u.1 1 0 0) := ⟨_, rfl⟩
  have wt : zWT e t := by rw [hT]; exact zWT_thr hwt (Or.inl hm) ho
  rw [thr] at hT
  have e0 : t.1 0 0 0 = u.1 0 0 0 := by rw [hT]; rfl
  have em : t.1 1 0 0 = 0 := by rw [hT]; exact zi_e
  have ef : zf t = zf u := by unfold zf; rw [e0]
  have t2 : t.1 2 (zf u) 0 = u.1 7 (zf u) (u.1 4 (zf u) 0 - 1) := by rw [hT]; exact (zi_k (by decide)).trans ((zi_k (by decide)).trans zi_e)
  have t3 : t.1 3 (zf u) 0 = 1 := by rw [hT]; exact (zi_k (by decide)).trans ((zi_k (by decide)).trans ((zi_k (by decide)).trans zi_e))
  have sameside : zoff (u.1 7 (zf u) (u.1 4 (zf u) 0 - 1)) = zoff (zpc u) ∧ (u.1 7 (zf u) (u.1 4 (zf u) 0 - 1) < 1000 ↔ zpc u < 1000) := by
    have sd := w.1.sd hE.1.2.1.2.1 (p := u.1 7 (zf u) (u.1 4 (zf u) 0 - 1)) (q := zpc u) ⟨z3.1, z3.2.1⟩ w.2.1
    refine ⟨?_, sd⟩
    unfold zoff
    by_cases y : zpc u < 1000
    · rw [if_pos y, if_pos (sd.2 y)]
    · rw [if_neg y, if_neg fun r => y (sd.1 r)]
  have fo : zFo κ M M' := ff.fo
  refine ⟨M', run, t, ?_, fo, hE.fo fo, wt, by rw [hT]; exact ⟨rfl, rfl⟩, Or.inl ⟨⟨hC.f ff, hG.ff ff ⟨fun k p => ?_, fun k p q r => ?_, ?_⟩ hk, fun i p q => ?_, ?_, ?_, ?_, ?_⟩, em⟩⟩
  · have : zstep e u = t := by rw [zst_thr (Or.inl hm), hT, thr]
    exact zto.st (by rw [this]; exact zto.r)
  · rw [hT]
    rcases p with p | p | p | p | p | p | p <;> subst p <;> rfl
  · rw [hT]; funext x y; exact zw_k (by omega)
  · rw [em, hm]; omega
  · rw [e0] at q
    have hFi := hF i p q
    by_cases y : i = zf u
    · subst y
      have zpe : u.1 2 (zf u) 0 = zpc u := rfl
      obtain ⟨⟨f0, f1, f2, f3⟩, f4, f5⟩ := hFi
      refine ⟨⟨?_, ?_, ?_, ?_⟩, fun k x y => ?_, fun k x y => ?_⟩
      · rw [t2, sameside.1, hM']
        refine (sI_ne (by omega)).trans ((sI_ne (by omega)).trans ((sI_ne (by omega)).trans (sI_eq.trans (congrArg iI ?_))))
        omega
      · rw [show t.1 6 (zf u) 0 = u.1 6 (zf u) 0 by rw [hT]; rfl, hM']
        exact (sI_ne (by omega)).trans ((sI_ne (by omega)).trans ((sI_ne (by omega)).trans ((sI_nej (by decide)).trans ((M21_i (by omega)).trans f1))))
      · rw [t2, hM']
        refine (sI_ne (by omega)).trans ((sI_ne (by omega)).trans ((sI_ne (by omega)).trans ((sI_nej (by decide)).trans ((M21_i (by omega)).trans (f2.trans (congrArg iI ?_))))))
        rw [zpe]
        by_cases g : zpc u < 1000
        · rw [if_pos g, if_pos (sameside.2.2 g)]
        · rw [if_neg g, if_neg fun r => g (sameside.2.1 r)]
      · rw [show t.1 5 (zf u) 0 = u.1 5 (zf u) 0 by rw [hT]; rfl, hM']
        exact (sI_ne (by omega)).trans ((sI_ne (by omega)).trans ((sI_ne (by omega)).trans ((sI_nej (by decide)).trans ((M21_i (by omega)).trans f3))))
      · have e16 : t.1 16 (zf u) 0 = u.1 16 (zf u) 0 := by rw [hT]; rfl
        have e6 : t.1 6 (zf u) 0 = u.1 6 (zf u) 0 := by rw [hT]; rfl
        have w16 := w.2.2.2.1
        rw [e16] at y
        rw [e6, show t.2 0 (zf u) k = u.2 0 (zf u) k by rw [hT]; rfl, hM']
        exact (sI_ne (by decide)).trans ((sI_ne (by decide)).trans ((sI_nej (by omega)).trans ((sI_ne (by omega)).trans ((M21_i (by omega)).trans (f4 k x y)))))
      · rw [t3] at y
        have k0 : k = 0 := by omega
        subst k0
        rw [show t.1 6 (zf u) 0 = u.1 6 (zf u) 0 by rw [hT]; rfl, show t.2 1 (zf u) 0 = u.2 5 0 0 by rw [hT]; exact zw_e, hM']
        refine (sI_ne (by decide)).trans ((sI_ne (by decide)).trans ((sI_eqj (by omega)).trans ?_))
        exact h20'
    · have lt : i < zf u := by omega
      have l3 := hb.ls (zf u).toNat (by omega) i p (by omega)
      rw [show (((zf u).toNat : Nat) : Int) = zf u by omega] at l3
      have sbi := hb.sb i.toNat (by omega)
      rw [show ((i.toNat : Nat) : Int) = i by omega] at sbi
      have l16 := (hb.2.1 i p (by omega)).1.h
      have o : ∀ a j, a ≠ 88 → a ≠ 94 + (zf u).toNat → ¬ (a = 92 ∧ j = B.toNat) → M'.1 a j = M.1 a j := fun a j p q r => by
        rw [hM']
        refine (sI_ne p).trans ((sI_ne p).trans ?_)
        have m := M21_i (u := u) (M := M) (ar := ar) (a := a) (j := j) (fun z => p z.1)
        by_cases x : a = 92
        · exact (sI_nej fun z => r ⟨x, z⟩).trans ((sI_ne q).trans m)
        · exact (sI_ne x).trans ((sI_ne q).trans m)
      refine hFi.lo ⟨p, by omega⟩ (fun j => o _ _ (by omega) (by omega) (by omega)) (fun k x y => o _ _ (by decide) (by omega) (by omega)) (fun k x y => o _ _ (by decide) (by omega) (by omega)) ?_ ?_ ?_ ?_ ?_ ?_ ?_
      · rw [hT]; exact (zi_k (by decide)).trans ((zi_k (by decide)).trans (zi_i y))
      · rw [hT]; exact (zi_k (by decide)).trans ((zi_k (by decide)).trans ((zi_k (by decide)).trans (zi_i y)))
      · rw [hT]; rfl
      · rw [hT]; rfl
      · rw [hT]; rfl
      · intro k; rw [hT]; rfl
      · intro k; rw [hT]; exact zw_i y
  · rw [e0, hM']; exact (sI_nej (by decide)).trans ((sI_nej (by decide)).trans ((sI_ne (by decide)).trans ((sI_ne (by omega)).trans ((M21_i (by omega)).trans h14))))
  · rw [hM']
    refine (sI_nej (by decide)).trans (sI_eq.trans (congrArg iI ?_))
    unfold ztp zh
    rw [ef, t3, show t.1 6 (zf u) 0 = u.1 6 (zf u) 0 by rw [hT]; rfl]
    omega
  · rw [hM']; exact (sI_nej (by decide)).trans ((sI_nej (by decide)).trans ((sI_ne (by decide)).trans ((sI_ne (by omega)).trans ((M21_i (by omega)).trans h15))))
  · rw [hM']; exact sI_eq
end S98c
