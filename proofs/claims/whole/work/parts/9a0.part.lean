/-! the reference's machine: DRAW, done -/
section S9a0
variable {d : Nat} {e s s' t u A : ZS} {M M' M1 M2 : Mem} {a b j N x y : Nat} {v v1 v2 v3 w : Int32} {c k i n m p o q id : Int} {Y : Nat → Int → Int}
theorem zSa.as (h : zSa s t) (g : ∀ k, k = 0 ∨ k = 2 ∨ k = 3 ∨ k = 4 ∨ k = 5 ∨ k = 6 ∨ k = 7 ∨ k = 16 → u.1 k = t.1 k) (g2 : u.2 0 = t.2 0 ∧ u.2 1 = t.2 1) : zSa s u := by
  obtain ⟨h1, h2, h3, h4⟩ := h
  refine ⟨by rw [g 0 (by omega)]; exact h1, fun i p q => ?_, fun k w => by rw [g k (by omega)]; exact h3 k w, fun x => by rw [g 7 (by omega)]; exact h4 x⟩
  obtain ⟨a1, a2, a3⟩ := h2 i p q
  exact ⟨fun k w => by rw [g k (by omega)]; exact a1 k w, fun x => by rw [g 7 (by omega)]; exact a2 x, fun x => by rw [g2.1, g2.2]; exact a3 x⟩
/-- behind a DRAW -/
theorem zRM.dd (h : zRM e A M) (hc : e.1 10 2 0 = 1 → c ≤ A.1 14 0 0) : zRM e (zi (znx A) 11 0 0 c) (sI M 160 82 (iI c)) ∧ zRo e M (sI M 160 82 (iI c)) := by
  obtain ⟨z1, z2⟩ := h.d82 (c := c) hc
  refine ⟨?_, z2⟩
  have e1 : zi (znx A) 11 0 0 c = zgo (zi A 11 0 0 c) (zpc A + 1) := zi_cm (by decide)
  rw [e1]
  exact z1.at _
theorem rr248 (hd : 2 ≤ d) (h : zRM e (zdn s 1) M) (hm : s.1 1 0 0 = 0) (hl : zLr (zdn s 1)) (hh : zh s ≤ 200) (h97 : M.1 160 97 = iI (e.1 10 2 0)) (hf : e.1 10 2 0 = 0 ∨ e.1 10 2 0 = 1) (hb : 0 ≤ s.1 11 0 0 ∧ s.1 11 0 0 < 1000 ∧ s.1 14 0 0 ≤ 1000) (hv : v1 = ztop s 1) (hp : v2 = iI (zpc s)) : ∃ M', runX d 248 [va_rf (some 160), .int v1, .int v2] M = some (.null, M') ∧ zRA e s (zdraw e s (ztop s 1)) M M' := by
  obtain ⟨d, rfl⟩ : ∃ e, d = e + 1 := ⟨d - 1, by omega⟩
  subst hv; subst hp
  have hR := h.1.1
  have k := rk_160 hR
  have e1 : zh (zdn s 1) = zh s - 1 := zdn_h
  have sp := hl.sp
  have h82 : M.1 160 82 = iI (s.1 11 0 0) := h.1.2.2.2.2.1.2.2.2.1
  rw [r248]; unfold b248; rw [aR_e, aI_e, aI_e, aZ_e]; unfold c248
  by_cases cn : (1 : Int32) ≤ ztop s 1
  · have nz : ¬ ztop s 1 = 0 := fun q => by rw [q] at cn; exact absurd cn (by decide)
    rw [if_pos cn, gtI_q k h97, jn_v]
    -- the number comes, and it is counted
    have fin : ∀ (A : ZS) (M2 : Mem) (r : Int32), zRM e A M2 → zLr A → zh A < 200 → A.1 11 0 0 = s.1 11 0 0 → (e.1 10 2 0 = 1 → s.1 11 0 0 + 1 ≤ A.1 14 0 0) → zRo e M M2 → zSa s (zi (znx (zpush A r)) 11 0 0 (s.1 11 0 0 + 1)) → (zi (znx (zpush A r)) 11 0 0 (s.1 11 0 0 + 1)).1 1 0 0 = 0 → zpc A = zpc s → zdraw e s (ztop s 1) = zi (znx (zpush A r)) 11 0 0 (s.1 11 0 0 + 1) → ∃ M', (vC (13, 157) M2 (some 160) <| cV (runX d 241 [va_rf (some 160), .int r] M2) fun M8 => (jv (fun (s2 : Mem) => gtI (13, 157) s2 (some 160) 82 fun x3 => ptI (13, 157) s2 (some 160) 82 (x3 + ((1 : Int32))) fun M4 => some (.null, M4)) M8) : XA) = some (.null, M') ∧ zRA e s (zdraw e s (ztop s 1)) M M' := fun A M2 r c2 l2 hA a11 a14 f2 sa am ap ed => by
      obtain ⟨M3, r3, c3, f3⟩ := rq1 (d := d) (v := r) (by omega) c2 l2 hA
      have k3 := rk_160 c3.1.1
      have g82 : M3.1 160 82 = iI (s.1 11 0 0) := by
        have := c3.1.2.2.2.2.1.2.2.2.1
        rw [this]; show iI (A.1 11 0 0) = _; rw [a11]
      obtain ⟨z1, z2⟩ := c3.dd (c := s.1 11 0 0 + 1) (fun z => a14 z)
      rw [ed]
      refine ⟨sI M3 160 82 (iI (s.1 11 0 0 + 1)), ?_, _, zto.r, (f2.tr (f3.tr z2)).q, Or.inl ⟨am, sa, ?_, z1⟩⟩
      · rw [vC_e (rk_160 c2.1.1), cV_e r3, jv_e, gtI_q k3 g82, ptI_q (z := s.1 11 0 0 + 1) k3 (adI rfl li_1)]
      · show zpc (znx (zpush A r)) = _
        rw [znx_pc, ← ap]; rfl
    by_cases cl : e.1 10 2 0 = 1
    · have h98 := (h.1.2.2.2.2.2.2.2 cl).1
      have h98a : M.1 160 98 = iI (s.1 14 0 0) := h98.1
      have h98b : s.1 11 0 0 ≤ s.1 14 0 0 := h98.2
      rw [if_neg (show ¬ iI (e.1 10 2 0) = 0 from eqI_n rfl li_0 (by omega)), gtI_q k h82, gtI_q k h98a, jn_v]
      by_cases ct : s.1 11 0 0 = s.1 14 0 0
      · obtain ⟨z1, z2⟩ := h.told (c := s.1 14 0 0) (v := ztop s 1) ⟨by omega, rfl, ct.symm⟩
        obtain ⟨A, hA⟩ : ∃ A, A = zi (zw (zw (zdn s 1) 9 (s.1 14 0 0) 0 0) 10 (s.1 14 0 0) 0 (ztop s 1)) 14 0 0 (s.1 14 0 0 + 1) := ⟨_, rfl⟩
        obtain ⟨M2, hM2⟩ : ∃ z, z = sI (sI (sI M 219 (s.1 14 0 0).toNat 0) 220 (s.1 14 0 0).toNat (ztop s 1)) 160 98 (iI (s.1 14 0 0 + 1)) := ⟨_, rfl⟩
        rw [← hA, ← hM2] at z1
        rw [← hM2] at z2
        have k2 := rk_160 z1.1.1
        have aA : A = zdn (zi (zw (zw s 9 (s.1 14 0 0) 0 0) 10 (s.1 14 0 0) 0 (ztop s 1)) 14 0 0 (s.1 14 0 0 + 1)) 1 := by rw [hA]; exact zi_cm (s := zw (zw s 9 (s.1 14 0 0) 0 0) 10 (s.1 14 0 0) 0 (ztop s 1)) (k1 := 3) (k2 := 14) (by decide)
        have a14 : A.1 14 0 0 = s.1 14 0 0 + 1 := by rw [hA]; exact zi_e
        have g82 : M2.1 160 82 = iI (s.1 11 0 0) := by rw [hM2]; exact (sI_nej (by decide)).trans ((sI_ne (by decide)).trans ((sI_ne (by decide)).trans h82))
        have g219 : M2.1 219 (s.1 11 0 0).toNat = 0 := by rw [hM2, ct]; exact (sI_ne (by decide)).trans ((sI_ne (by decide)).trans sI_eq)
        obtain ⟨M', y1, y2⟩ := fin A M2 0 z1 (by rw [hA]; exact hl) (by rw [hA]; show zh (zdn s 1) < 200; omega) (by rw [hA]; rfl) (fun _ => by rw [a14]; omega) z2 ((zSa.pd (s := s) (c := 1) (v := 0)).as (fun k p => by rw [hA]; rcases p with p | p | p | p | p | p | p | p <;> subst p <;> rfl) (by rw [hA]; exact ⟨rfl, rfl⟩)) (by rw [hA]; exact hm) (by rw [hA]; rfl) (by
          unfold zdraw
          rw [if_pos cn, if_pos cl, if_pos ct, ← aA])
        refine ⟨M', ?_, y2⟩
        rw [if_pos (eqI_p rfl rfl ct), gtP_q k (rf_99 hR), gtI_q k h98a, asI_e (rk_219 hR) (by omega) (by omega) (by omega), gtP_q (M := sI M 219 (s.1 14 0 0).toNat 0) k (rf_100 hR), gtI_q (M := sI M 219 (s.1 14 0 0).toNat 0) (w := iI (s.1 14 0 0)) k ((sI_ne (by decide)).trans h98a), asI_e (M := sI M 219 (s.1 14 0 0).toNat 0) (rk_220 hR) (by omega) (by omega) (by omega), gtI_q (M := sI (sI M 219 (s.1 14 0 0).toNat 0) 220 (s.1 14 0 0).toNat (ztop s 1)) (w := iI (s.1 14 0 0)) k ((sI_ne (by decide)).trans ((sI_ne (by decide)).trans h98a)), ptI_q (M := sI (sI M 219 (s.1 14 0 0).toNat 0) 220 (s.1 14 0 0).toNat (ztop s 1)) (z := s.1 14 0 0 + 1) k (adI rfl li_1), ← hM2, jv_e, gtP_q k2 (rf_99 z1.1.1), gtI_q k2 g82, alI_q (n := 1001) (z := s.1 11 0 0) (rk_219 z1.1.1) rfl (by omega) g219]
        exact y1
      · have rd : M.1 219 (s.1 11 0 0).toNat = s.2 9 (s.1 11 0 0) 0 := ((h.1.2.2.2.2.2.2.2 cl).2 (s.1 11 0 0) hb.1 (show s.1 11 0 0 < s.1 14 0 0 by omega)).1
        obtain ⟨M', y1, y2⟩ := fin (zdn s 1) M (s.2 9 (s.1 11 0 0) 0) h hl (by omega) rfl (fun _ => by show s.1 11 0 0 + 1 ≤ s.1 14 0 0; omega) zRo.r ((zSa.pd (s := s) (c := 1) (v := s.2 9 (s.1 11 0 0) 0)).as (fun k p => by rcases p with p | p | p | p | p | p | p | p <;> subst p <;> rfl) ⟨rfl, rfl⟩) hm rfl (by
          unfold zdraw
          rw [if_pos cn, if_pos cl, if_neg ct])
        refine ⟨M', ?_, y2⟩
        rw [if_neg (eqI_n rfl rfl (by omega)), jv_e, gtP_q k (rf_99 hR), gtI_q k h82, alI_q (n := 1001) (z := s.1 11 0 0) (rk_219 hR) rfl (by omega) rd]
        exact y1
    · have h79 : M.1 160 79 = s.2 4 0 0 := h.1.2.2.2.2.1.1
      obtain ⟨X, hX⟩ : ∃ X, X = s.2 4 0 0 * (1103515245 : Int32) + 12345 := ⟨_, rfl⟩
      obtain ⟨z1, z2⟩ := h.d79 (v := X)
      obtain ⟨M2, hM2⟩ : ∃ z, z = sI M 160 79 X := ⟨_, rfl⟩
      rw [← hM2] at z1 z2
      have k2 := rk_160 z1.1.1
      obtain ⟨M', y1, y2⟩ := fin (zw (zdn s 1) 4 0 0 X) M2 (xrem (zsh X) (ztop s 1)) z1 hl (by show zh (zdn s 1) < 200; omega) rfl (fun z => absurd z cl) z2 ((zSa.pd (s := s) (c := 1) (v := xrem (zsh X) (ztop s 1))).as (fun k p => by rcases p with p | p | p | p | p | p | p | p <;> subst p <;> rfl) ⟨rfl, rfl⟩) hm rfl (by
        unfold zdraw
        rw [if_pos cn, if_neg cl, ← hX]; rfl)
      refine ⟨M', ?_, y2⟩
      rw [if_pos (show iI (e.1 10 2 0) = 0 from eqI_p rfl li_0 (by omega)), gtI_q k h79, ptI_e k, ← hX, ← hM2, gtI_q (w := X) k2 (by rw [hM2]; exact sI_eq), if_neg nz]
      exact y1
  · have ed : zdraw e s (ztop s 1) = zerr (zdn s 1) 3 3 := if_neg cn
    obtain ⟨M', z1, z2, z3⟩ := rfl9 (d := d) (e := e) (s := zdn s 1) (M := M) (v1 := 3) (v2 := iI (zpc s)) (v3 := 0) (m := 3) (by omega) h rfl (Or.inl ⟨rfl, rfl⟩)
    refine ⟨M', ?_, by rw [ed]; exact ⟨_, zto.r, (z3).q, Or.inr (Or.inl ⟨Or.inl zi_e, zSa.er, rfl, z2⟩)⟩⟩
    rw [if_neg cn, vC_e k, cV_e z1]
end S9a0
