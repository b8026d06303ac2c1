/-! the reference's machine: the other operations -/
section S9a1
variable {d : Nat} {e s s' t u A : ZS} {M M' M1 M2 : Mem} {a b j N x y : Nat} {v v1 v2 v3 w : Int32} {c k i n m p o q id : Int} {Y : Nat → Int → Int}
/-- what one asks of the heights, and of what is skipped -/
def zR1 (e s : ZS) (M : Mem) (o n : Int) : Prop := ((o = 9 ∨ o = 21 ∨ o = 22 ∨ o = 23 ∨ o = 28 ∨ o = 29) ∧ 1 ≤ zh s) ∨ o = 30 ∨ (o = 33 ∧ 2 ≤ zh s) ∨ (o = 32 ∧ 0 ≤ e.1 5 n 0 ∧ e.1 5 n 0 ≤ zh s ∧ zh s - e.1 5 n 0 < 200 ∧ (0 ≤ n ∧ n < 96) ∧ (0 ≤ e.1 29 0 0 ∧ e.1 29 0 0 < 8 ∧ M.1 160 66 = iI (e.1 29 0 0)) ∧ M.1 174 (96 * e.1 29 0 0 + n).toNat = iI (e.1 5 n 0))
theorem r244_1 (hR : RT M) (ho : o = 9 ∨ (21 ≤ o ∧ o ≤ 34)) : runX (d + 1) 244 [va_rf (some 160), .int (iI o), .int v2, .int v3] M = cV (runX d 247 [va_rf (some 160), .int (iI o), .int v2, .int v3] M) fun M5 => some (.null, M5) := by
  rw [r244]; unfold b244; rw [aR_e, aI_e, aI_e, aI_e, aZ_e]; unfold c244
  rw [jn_v, if_neg (show ¬ iI o = 0 from eqI_n rfl li_0 (by omega)), jn_v]
  have t1 : ∀ j49 : Unit → XA, ∀ X, (if iI o < 10 then j49 () else if (20 : Int32) < iI o then j49 () else X) = j49 () := fun j49 X => by
    by_cases y : o < 10
    · rw [if_pos (show iI o < 10 from lsI_p (y := 10) rfl rfl (by omega))]
    · rw [if_neg (show ¬ iI o < 10 from lsI_n (y := 10) rfl rfl (by omega)), if_pos (show (20 : Int32) < iI o from lsI_p (x := 20) rfl rfl (by omega))]
  rw [t1, jv_e, jn_v, if_neg (show ¬ iI o < 3 from lsI_n (y := 3) rfl rfl (by omega)), if_pos (show (7 : Int32) < iI o from lsI_p (x := 7) rfl rfl (by omega)), jv_e, vC_e (rk_160 hR)]
  rfl
theorem rr1 (hd : 4 ≤ d) (h : zRM e s M) (hm : s.1 1 0 0 = 0) (hl : zLr s) (hv : v1 = iI o) (hv2 : v2 = iI n) (hp : v3 = iI (zpc s)) (hz : zR1 e s M o n) (h97 : o = 23 → M.1 160 97 = iI (e.1 10 2 0) ∧ (e.1 10 2 0 = 0 ∨ e.1 10 2 0 = 1) ∧ 0 ≤ s.1 11 0 0 ∧ s.1 11 0 0 < 1000 ∧ s.1 14 0 0 ≤ 1000) : ∃ M', runX d 244 [va_rf (some 160), .int v1, .int v2, .int v3] M = some (.null, M') ∧ zRA e s (zex e s o n) M M' := by
  obtain ⟨d, rfl⟩ : ∃ e, d = e + 2 := ⟨d - 2, by omega⟩
  subst hv; subst hv2; subst hp
  have hR := h.1.1
  have k := rk_160 hR
  have l45 := hl.2.2.2
  have sp := hl.sp
  have h73 := h.2.2.2.1
  have oc : o = 9 ∨ (21 ≤ o ∧ o ≤ 34) := by unfold zR1 at hz; omega
  suffices g : ∃ M', runX (d + 1) 247 [va_rf (some 160), .int (iI o), .int (iI n), .int (iI (zpc s))] M = some (.null, M') ∧ zRA e s (zex e s o n) M M' by
    obtain ⟨M', g1, g2⟩ := g
    exact ⟨M', by rw [r244_1 hR oc, cV_e g1], g2⟩
  rw [r247]; unfold b247; rw [aR_e, aI_e, aI_e, aI_e, aZ_e]; unfold c247
  rw [jn_v]
  -- numbers that go
  have drop : ∀ c : Int, 0 ≤ c → c ≤ zh s → zRM e (znx (zdn s c)) (sI M 160 73 (iI (zsp s - c))) ∧ zRo e M (sI M 160 73 (iI (zsp s - c))) := fun c p q => ⟨(h.dn hl ⟨p, q⟩).at _, (zRw.sI zRw.r (by decide)).ro⟩
  have pc1 : ∀ X : ZS, zpc X = zpc s → zpc (znx X) = zpc s + 1 := fun X hX => by rw [znx_pc, hX]
  rcases hz with ⟨oo, hh⟩ | oo | ⟨oo, hh⟩ | ⟨oo, z1, z2, z3, z4, ⟨z5, z6, z7⟩, z8⟩
  · -- one number goes
    obtain ⟨M1, q1, c1, f1⟩ := rq2 (d := d) (by omega)
      h hl hh
    have k1 := rk_160 c1.1.1
    have l1 := hl.dn (c := 1) (by omega)
    have e1 : zh (zdn s 1) = zh s - 1 := zdn_h
    rcases oo with oo | oo | oo | oo | oo | oo <;> subst oo
    · obtain ⟨y1, y2⟩ := drop 1 (by omega) hh
      refine ⟨sI M 160 73 (iI (zsp s - 1)), ?_, _, zto.r, (y2).q, Or.inl ⟨hm, zSa.dx, pc1 _ rfl, y1⟩⟩
      show (gtI (13, 157) M (some 160) 73 fun x2 => ptI (13, 157) M (some 160) 73 (x2 - ((1 : Int32))) fun M3 => (jv (fun (s1 : Mem) => some (.null, s1)) M3) : XA) = _
      rw [gtI_q k h73, ptI_q (z := zsp s - 1) k (sbI rfl li_1)]
      rfl
    · obtain ⟨M2, q2, c2, f2⟩ := rq1 (d := d) (v := if ztop s 1 = 0 then 1 else 0) (by omega) c1 l1 (by omega)
      refine ⟨M2, ?_, _, zto.r, (f1.tr f2).q, Or.inl ⟨hm, zSa.pd, pc1 _ rfl, c2.at _⟩⟩
      show (vC (13, 157) M (some 160) _ : XA) = _
      rw [vC_e k, cI_e q1, jn_v]
      by_cases y : ztop s 1 = 0
      · rw [if_pos y] at q2
        rw [if_pos y, jv_e, cI_e (mR245 (by omega) (Or.inr rfl)), vC_e k1, cV_e q2]; rfl
      · rw [if_neg y] at q2
        rw [if_neg y, jv_e, cI_e (mR245 (by omega) (Or.inl rfl)), vC_e k1, cV_e q2]; rfl
    · obtain ⟨M2, q2, c2, f2⟩ := rq1 (d := d) (v := -(ztop s 1)) (by omega) c1 l1 (by omega)
      refine ⟨M2, ?_, _, zto.r, (f1.tr f2).q, Or.inl ⟨hm, zSa.pd, pc1 _ rfl, c2.at _⟩⟩
      show (vC (13, 157) M (some 160) _ : XA) = _
      rw [vC_e k, cI_e q1, vC_e k1, cV_e q2]; rfl
    · obtain ⟨g1, g2, g3, g4, g5⟩ := h97 rfl
      have g97 : M1.1 160 97 = iI (e.1 10 2 0) := (f1.2.1 _ _ (by decide)).trans g1
      obtain ⟨M2, y1, t, y2, y3, y4⟩ := rr248 (d := d) (by omega) c1 hm l1 (by omega) g97 g2 ⟨g3, g4, g5⟩ rfl rfl
      refine ⟨M2, ?_, t, y2, y3.pre f1, y4⟩
      show (vC (13, 157) M (some 160) _ : XA) = _
      rw [vC_e k, cI_e q1, vC_e k1, cV_e y1]; rfl
    · by_cases y : ztop s 1 = 0
      · obtain ⟨M2, y1, y2, y3⟩ := rfl9 (d := d) (e := e) (s := zdn s 1) (M := M1) (v1 := 5) (v2 := iI (zpc s)) (v3 := 0) (m := 3) (by omega) c1 rfl (Or.inl ⟨rfl, rfl⟩)
        have zx : zex e s 28 n = zerr (zdn s 1) 5 3 := if_pos y
        refine ⟨M2, ?_, by rw [zx]; exact ⟨_, zto.r, (f1.tr y3).q, Or.inr (Or.inl ⟨Or.inl zi_e, zSa.er, rfl, y2⟩)⟩⟩
        show (vC (13, 157) M (some 160) _ : XA) = _
        rw [vC_e k, cI_e q1, if_pos y, vC_e k1, cV_e y1]; rfl
      · have zx : zex e s 28 n = znx (zdn s 1) := if_neg y
        refine ⟨M1, ?_, by rw [zx]; exact ⟨_, zto.r, (f1).q, Or.inl ⟨hm, zSa.dx, pc1 _ rfl, c1.at _⟩⟩⟩
        show (vC (13, 157) M (some 160) _ : XA) = _
        rw [vC_e k, cI_e q1, if_neg y]; rfl
    · obtain ⟨M2, y1, y2, y3⟩ := rfl9 (d := d) (e := e) (s := zdn s 1) (M := M1) (v1 := ztop s 1) (v2 := iI (zpc s)) (v3 := 0) (m := 3) (by omega) c1 rfl (Or.inl ⟨rfl, rfl⟩)
      refine ⟨M2, ?_, _, zto.r, (f1.tr y3).q, Or.inr (Or.inl ⟨Or.inl zi_e, zSa.er, rfl, y2⟩)⟩
      show (vC (13, 157) M (some 160) _ : XA) = _
      rw [vC_e k, cI_e q1, vC_e k1, cV_e y1]; rfl
  · subst oo
    refine ⟨M, rfl, _, zto.r, (zRo.r).q, Or.inl ⟨hm, ?_, pc1 _ rfl, h.at _⟩⟩
    have := zSa.dx (s := s) (c := 0)
    rw [zdn_0] at this
    exact this
  · subst oo
    obtain ⟨y1, y2⟩ := drop 2 (by omega) hh
    refine ⟨sI M 160 73 (iI (zsp s - 2)), ?_, _, zto.r, (y2).q, Or.inl ⟨hm, zSa.dx, pc1 _ rfl, y1⟩⟩
    show (gtI (13, 157) M (some 160) 73 fun x2 => ptI (13, 157) M (some 160) 73 (x2 - ((2 : Int32))) fun M3 => (jv (fun (s1 : Mem) => some (.null, s1)) M3) : XA) = _
    rw [gtI_q k h73, ptI_q (z := zsp s - 2) k (sbI rfl li_2)]
    rfl
  · subst oo
    obtain ⟨M1, hM1⟩ : ∃ z, z = sI M 160 73 (iI (zsp s - e.1 5 n 0)) := ⟨_, rfl⟩
    have c1 := h.dn hl (c := e.1 5 n 0) ⟨z1, z2⟩
    rw [← hM1] at c1
    have f1 : zRo e M M1 := by rw [hM1]; exact (zRw.sI zRw.r (by decide)).ro
    have l1 := hl.dn (c := e.1 5 n 0) ⟨z1, z2⟩
    have e1 : zh (zdn s (e.1 5 n 0)) = zh s - e.1 5 n 0 := zdn_h
    obtain ⟨M2, q2, c2, f2⟩ := rq1 (d := d) (v := 0) (by omega) c1 l1 (by omega)
    refine ⟨M2, ?_, _, zto.r, (f1.tr f2).q, Or.inl ⟨hm, zSa.pd, pc1 _ rfl, c2.at _⟩⟩
    show (gtI (13, 157) M (some 160) 73 fun x22 => gtP (13, 157) M (some 160) 15 fun x23 => gtI (13, 157) M (some 160) 66 fun x24 => alI 100 M x23 ((((96 : Int32)) * x24) + iI n) fun x25 => ptI (13, 157) M (some 160) 73 (x22 - x25) fun M26 => vC (13, 157) M26 (some 160) <| cV (runX d 241 [va_rf (some 160), .int ((0 : Int32))] M26) fun M27 => (jv (fun (s1 : Mem) => some (.null, s1)) M27) : XA) = _
    have ei : (96 : Int32) * iI (e.1 29 0 0) + iI n = iI (96 * e.1 29 0 0 + n) := adI (mlI (x := 96) rfl rfl) rfl
    rw [gtI_q k h73, gtP_q k (rf_15 hR), gtI_q k z7, alI_q (n := 768) (z := 96 * e.1 29 0 0 + n) (rk_174 hR) ei (by omega) z8, ptI_q (z := zsp s - e.1 5 n 0) k (sbI rfl rfl), ← hM1, vC_e (rk_160 c1.1.1), cV_e q2]
    rfl
end S9a1
