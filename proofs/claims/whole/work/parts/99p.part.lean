/-! the first object's machine: each instruction -/
section S99p
variable {d : Nat} {e s s' u : ZS} {κ : ZK} {M M' M1 M2 : Mem} {a b j N x y T LL : Nat} {xs : Nat → Int32} {v v1 v2 v3 w : Int32} {c t k i n m p o q id fl ar st key par r B h D H S P : Int} {Y : Nat → Int → Int} {DT : Option Nat}
theorem iw_r {z : Int} (h : iw z ≠ -1) : 0 ≤ z ∧ z ≤ 29 := by
  by_cases y : 0 ≤ z ∧ z ≤ 29
  · exact y
  · exfalso
    apply h
    unfold iw
    repeat rw [if_neg (by omega)]
theorem zc31_h (h : zCM e κ s M) (hE : zCE e κ M) (hO : OldOK LL xs M) (hin : zIn e (zpc s)) (hl : zLy s) : runX (d + 1) 31 [va_rf (some 88), va_rf (some (κ 0 (zsd (zpc s)))), va_rf (some (94 + (zf s).toNat))] M = fc31 d (some (94 + (zf s).toNat)) M (iI (zop e (zpc s)), iI (znum e (zpc s))) := by
  obtain ⟨p, hp⟩ : ∃ p, p = zpc s := ⟨_, rfl⟩
  have C := h.1
  have kk := ck_88 C
  obtain ⟨s1, s2, s3, s4⟩ := hin.sd hE.1
  obtain ⟨a1, a2, a3⟩ := hE.1.at hin
  obtain ⟨⟨x1, x2, -, -, -⟩, ⟨x6, x7, -⟩, xk, -⟩ := hE.1.2.2 _ s1
  have k1 := (xk 1 (by omega)).1
  have k2 := (xk 2 (by omega)).1
  have b21 := hE.1.2.1
  have zs01 : zsd (zpc s) = 0 ∨ zsd (zpc s) = 1 := by unfold zsd; split <;> omega
  have bd : e.1 21 (zsd (zpc s)) 0 ≤ 1000 := by rcases zs01 with z | z <;> rw [z] <;> omega
  have h3 := hE.2.2.2.2.1.1.2.1
  obtain ⟨-, -, -, -, -, h8⟩ := hE.2.2.2.2.1
  rw [r31]; unfold b31; rw [aR_e, aR_e, aR_e, aZ_e]; unfold c31
  rw [zget h hl, gtP_q x2 x6, alI_q (n := (e.1 21 (zsd (zpc s)) 0).toNat) (z := zpc s - zoff (zpc s)) k1 rfl (by omega) a1, gtP_q x2 x7, alI_q (n := (e.1 21 (zsd (zpc s)) 0).toNat) (z := zpc s - zoff (zpc s)) k2 rfl (by omega) a2, gtI_q kk h3, jn_v]
  by_cases y : zpc s = e.1 8 0 0
  · -- what is altered
    have pin : 0 ≤ zpc s := by have := hin; unfold zIn at this; omega
    obtain ⟨z1, z2, z3⟩ := h8 (by omega)
    have zo : zoff (zpc s) = 0 := by unfold zoff; rw [if_pos (by omega)]
    rw [← y] at z2 z3
    have eo : zop e (zpc s) = iw (e.1 0 (zpc s) 0) := by unfold zop; rw [if_pos y]
    have r0 := iw_r z3
    have in1 := ins1 hO r0
    rw [if_neg z3] at in1
    have kin : M.2.2.2[1]? = some (200, 30) := hO.1 1 (by decide)
    rw [if_pos (eqI_p rfl rfl (by rw [zo, ← y, if_neg (by omega)]; omega)), jn_v]
    have fin : ∀ nn : Int32, iI (e.1 1 (zpc s) 0) + nn = iI (znum e (zpc s)) → (jv (fun (s27 : Int32) => lt (iI (e.1 1 (zpc s) 0) + s27) fun (x28 : Int32) => alI 100 M ((some 1)) (iI (e.1 0 (zpc s) 0)) fun x29 => (jv (fc31 d (some (94 + (zf s).toNat)) M)) (x29, x28)) nn : XA) = fc31 d (some (94 + (zf s).toNat)) M (iI (zop e (zpc s)), iI (znum e (zpc s))) := fun nn hn => by
      rw [jv_e, ltI_q hn, alO_q (n := 30) (u := 100) (z := e.1 0 (zpc s) 0) kin rfl (by omega) in1, jv_e, eo]
    by_cases y2 : e.1 0 (zpc s) 0 = 0
    · have en : znum e (zpc s) = e.1 1 (zpc s) 0 + 1 := by unfold znum; rw [if_pos ⟨y, y2⟩]
      rw [if_pos (show iI (e.1 0 (zpc s) 0) = 0 from eqI_p rfl li_0 y2)]
      exact fin 1 (by rw [en]; exact adI rfl li_1)
    · have en : znum e (zpc s) = e.1 1 (zpc s) 0 := by unfold znum; rw [if_neg fun z => y2 z.2]
      rw [if_neg (show ¬ iI (e.1 0 (zpc s) 0) = 0 from eqI_n rfl li_0 (by omega))]
      exact fin 0 (by rw [en]; exact cvI (adI rfl li_0) (by omega))
  · have eo : zop e (zpc s) = e.1 0 (zpc s) 0 := by unfold zop; rw [if_neg y]
    have en : znum e (zpc s) = e.1 1 (zpc s) 0 := by unfold znum; rw [if_neg fun z => y z.1]
    have ne : ¬ iI (zpc s - zoff (zpc s)) = iI (if e.1 8 0 0 < 0 then -2 else e.1 8 0 0) := by
      refine eqI_n rfl rfl ?_
      by_cases y3 : e.1 8 0 0 < 0
      · rw [if_pos y3]; omega
      · rw [if_neg y3]
        obtain ⟨z1, z2, z3⟩ := h8 (by omega)
        have zo : zoff (zpc s) = 0 := by
          unfold zoff
          rw [if_pos]
          unfold zIn at hin
          rcases hE.1.1 with z | z <;> omega
        rw [zo] at s2 s3 ⊢
        omega
    rw [if_neg ne, jv_e, eo, en]
    rfl
/-- an instruction is done -/
theorem zc31 (hd : 9 ≤ d) (h : zCM e κ s M) (hE : zCE e κ M) (hT : zET e) (h8 : zE8 e) (hO : OldOK LL xs M) (hw : zWT e s) (hm : s.1 1 0 0 = 0) (hdr : zop e (zpc s) = 23 → 0 ≤ s.1 11 0 0 ∧ s.1 11 0 0 < 1000 ∧ s.1 14 0 0 ≤ 1000) (hb : ∀ D, 0 ≤ D → D < 8 → 0 ≤ s.1 17 D 0 ∧ s.1 17 D 0 ≤ 100000) : ∃ M', runX d 31 [va_rf (some 88), va_rf (some (κ 0 (zsd (zpc s)))), va_rf (some (94 + (zf s).toNat))] M = some (.null, M') ∧ zOb e κ (zex e s (zop e (zpc s)) (znum e (zpc s))) M M' := by
  obtain ⟨d, rfl⟩ : ∃ e, d = e + 1 := ⟨d - 1, by omega⟩
  have hl := hw.ly (Or.inl hm)
  have kk := ck_88 h.1
  have hbs : zBs e s := hw.1
  have q : ∃ Y a c, 1 ≤ s.1 0 0 0 ∧ zwf e s (zf s) Y a c ∧ zh s = Y 0 (zpc s) := by
    rcases hw.2 with ⟨-, h1, ⟨Y, a, c, w, hh⟩, -⟩ | ⟨z, -⟩ | ⟨z, -⟩ | z | z
    · exact ⟨Y, a, c, h1, w, hh⟩
    all_goals omega
  obtain ⟨Y, a, c, h1, w, hh⟩ := q
  have hin : zIn e (zpc s) := w.1.in _ w.2.1.1 w.2.1.2
  have e21 := hE.1.2.1.2.1
  have pc : a ≤ zpc s ∧ zpc s < c := w.2.1
  have op := (w.1.2 (zpc s) pc.1 pc.2).2.2
  have hca := w.1.1.2.2.1
  have sd : ∀ t, a ≤ t → t < c → (t < 1000 ↔ zpc s < 1000) := fun t p r => w.1.sd e21 ⟨p, r⟩ pc
  have nx : ∀ {t H S T P : Int}, zNx Y a c t H S T P → (t < 1000 ↔ zpc s < 1000) ∧ 0 ≤ H ∧ H ≤ 199 := fun {t H S T P} z => by
    obtain ⟨z1, z2, z3, -⟩ := z
    have := (w.1.2 t z1 z2).1
    exact ⟨sd t z1 z2, by omega, by omega⟩
  rw [zc31_h (d := d) h hE hO hin hl]
  obtain ⟨o, ho⟩ : ∃ o, o = zop e (zpc s) := ⟨_, rfl⟩
  obtain ⟨n, hn⟩ : ∃ n, n = znum e (zpc s) := ⟨_, rfl⟩
  have zne : zn e (zpc s) = if o = 24 ∨ o = 25 ∨ o = 26 ∨ o = 31 then n + zoff (zpc s) else n := by unfold zn; rw [← ho, ← hn]
  rw [← ho] at op
  rw [← ho, ← hn]
  obtain ⟨oo, p0, p1, p2, p3, p4, p5, p6, p7, p10, p8, p24, p25, p26, p27, p30⟩ := op
  by_cases u : 3 ≤ o ∧ o ≤ 7
  · -- a member
    rw [fc31_use kk u]
    have zx : zex e s o n = zuse e s o (e.1 2 (zpc s) 0) (e.1 3 (e.1 2 (zpc s) 0) 0) := by
      unfold zex
      rw [if_neg (by omega), if_neg (by omega), if_neg (by omega), if_pos u.2]
    have en : n = e.1 1 (zpc s) 0 := by
      rw [hn]
      unfold znum
      rw [if_neg]
      intro z
      have : zop e (zpc s) = 0 := by unfold zop; rw [if_pos z.1, z.2]; rfl
      omega
    have wt := zWT_use hbs hm h1 w hh hT (by rw [← ho]; exact u)
    rw [← ho] at wt
    have ns : zpc s + 1 < 1000 ↔ zpc s < 1000 := by
      have c5 : o = 3 ∨ o = 4 ∨ o = 5 ∨ o = 6 ∨ o = 7 := by omega
      rcases c5 with z | z | z | z | z
      · exact (nx (p3 z)).1
      · exact (nx (p4 (by omega)).2).1
      · exact (nx (p5 (by omega)).2).1
      · exact (nx (p6 (by omega)).2).1
      · exact (nx (p7 (by omega)).2.2).1
    have us : 0 ≤ e.1 2 (zpc s) 0 → zUs e s o (e.1 2 (zpc s) 0) := fun z0 => by
      rcases hT.2.1 (zpc s) hin (by omega) (by omega) with z | ⟨-, -, -, t3, t5, t7⟩
      · omega
      · rw [← ho] at t3 t5 t7
        have c5 : o = 3 ∨ o = 4 ∨ o = 5 ∨ o = 6 ∨ o = 7 := by omega
        rcases c5 with z | z | z | z | z
        · exact Or.inl ⟨z, by have := (nx (p3 z)).2; omega, t3 (Or.inl z)⟩
        · exact Or.inr (Or.inl ⟨z, by have := (p4 (by omega)).1; omega, t3 (Or.inr z)⟩)
        · exact Or.inr (Or.inr (Or.inl ⟨Or.inl z, ⟨by have := (p5 (by omega)).1; omega, fun y => by omega⟩, t5 (Or.inl z)⟩))
        · exact Or.inr (Or.inr (Or.inl ⟨Or.inr z, ⟨by have := (p6 (by omega)).1; omega, fun y => by have := (p6 (by omega)).1; omega⟩, t5 (Or.inr z)⟩))
        · obtain ⟨w1, w2, w3, w4, -⟩ := t7 z
          obtain ⟨y1, y2, y3⟩ := p7 (by omega)
          have y4 := (nx y3).2
          exact Or.inr (Or.inr (Or.inr ⟨z, w1, by omega, by omega⟩))
    obtain ⟨M', z1, z2⟩ := zc42 (d := d) (o := o) (v1 := iI o) (v2 := iI n) (by omega) h hE hbs.1.2.2.2.2.2 hm hl hin ⟨ho, u⟩ us hb (by omega) ns rfl (by rw [en]) wt
    exact ⟨M', by rw [cV_e z1], by rw [zx]; exact z2⟩
  by_cases c23 : o = 23
  · -- DRAW
    rw [fc31_o kk (by omega), if_neg (by omega), if_pos c23]
    have zx : zex e s o n = zdraw e s (ztop s 1) := by
      unfold zex
      rw [if_neg (by omega), if_neg (by omega), if_neg (by omega), if_neg (by omega), if_neg (by omega), if_neg (by omega), if_neg (by omega), if_neg (by omega), if_neg (by omega), if_neg (by omega), if_neg (by omega), if_pos c23]
    have wt := zWT_draw hbs hm h1 w hh (by rw [← ho]; exact c23)
    obtain ⟨y1, y2⟩ := p5 (by omega)
    obtain ⟨M', z1, z2⟩ := zc39 (d := d) (by omega) h hE hw hm hl (by omega) (by omega) (nx y2).1 (hdr (by rw [← ho]; exact c23)) wt
    exact ⟨M', by rw [cV_e z1], by rw [zx]; exact z2⟩
  have wt := zWT_ex hbs hm h1 w hh hT (by rw [← ho]; exact u) (by rw [← ho]; exact c23)
  rw [← ho, ← hn] at wt
  by_cases c20 : 10 ≤ o ∧ o ≤ 20
  · rw [fc31_two kk c20]
    have zx : zex e s o n = (if ztop s 1 = 0 ∧ (o = 13 ∨ o = 14) then zerr (zdn s 2) 1 3 else znx (zpush (zdn s 2) (ztwo o (ztop s 2) (ztop s 1)))) := by
      unfold zex
      rw [if_neg (by omega), if_neg (by omega), if_neg (by omega), if_neg (by omega), if_neg (by omega), if_neg (by omega), if_neg (by omega), if_neg (by omega), if_pos c20.2]
    rw [zx] at wt ⊢
    obtain ⟨y1, y2⟩ := p10 c20
    obtain ⟨M', z1, z2⟩ := zc37 (d := d) (v := iI o) (by omega) h hE hw hm hl rfl c20 (by omega) (by omega) (nx y2).1 (fun z => by rw [if_neg z] at wt; exact wt)
    exact ⟨M', by rw [cV_e z1], z2⟩
  by_cases cj : o = 24 ∨ o = 25 ∨ o = 26 ∨ o = 31
  · rw [fc31_j kk cj]
    rw [if_pos cj] at zne
    have t2 : n + zoff (zpc s) < 1000 ↔ zpc s < 1000 := by
      rw [← zne]
      rcases cj with z | z | z | z
      · exact (nx (p24 (by omega)).2.2).1
      · exact (nx (p25 z)).1
      · exact (nx (p26 z).2.2).1
      · exact (nx (p24 (by omega)).2.2).1
    have t1 : o ≠ 25 → (zpc s + 1 < 1000 ↔ zpc s < 1000) := fun y => by
      rcases cj with z | z | z | z
      · exact (nx (p24 (by omega)).2.1).1
      · omega
      · exact (nx (p26 z).2.1).1
      · exact (nx (p24 (by omega)).2.1).1
    obtain ⟨M', z1, z2⟩ := zc36 (d := d) (v := iI o) (v1 := iI n) (by omega) h hE hm hl rfl rfl cj (fun y => by have := (p24 y).1; omega) t1 t2 wt
    exact ⟨M', by rw [cV_e z1], z2⟩
  rw [fc31_o kk (by omega)]
  by_cases c8 : o = 8
  · have zx : zex e s o n = zi (zi (zw s 6 0 0 (ztop s 1)) 0 0 0 (zf s)) 1 0 0 2 := by
      unfold zex
      rw [if_neg (by omega), if_neg (by omega), if_neg (by omega), if_neg (by omega), if_pos c8]
    rw [zx] at wt ⊢
    have hh1 := p8 (Or.inl c8)
    obtain ⟨y1, y2⟩ := zp33 (d := d) (by omega) h hl hE.2.2.2.2.1.k8 (by omega)
    have f1 : zFo κ M (sI M 88 12 (iI (ztp s - 1))) := zFo.sI (by decide)
    obtain ⟨M', z1, z2⟩ := zc40 (d := d) (by omega) y2 (hE.fo f1) hw hm wt
    refine ⟨M', ?_, z2.fo f1⟩
    rw [if_pos (Or.inl c8), if_neg (by omega), cI_e y1, vC_e (ck_88 y2.1), cV_e z1]
  by_cases c34 : o = 34
  · have zx : zex e s o n = zi (zi (zw s 6 0 0 0) 0 0 0 (zf s)) 1 0 0 2 := by
      unfold zex
      rw [if_neg (by omega), if_neg (by omega), if_neg (by omega), if_neg (by omega), if_neg c8, if_pos c34]
    rw [zx] at wt ⊢
    obtain ⟨M', z1, z2⟩ := zc40 (d := d) (c := 0) (by omega) (by rw [zdn_0]; exact h) hE hw hm wt
    refine ⟨M', ?_, z2⟩
    rw [if_pos (show o = 8 ∨ o = 34 from Or.inr c34), if_pos c34, cV_e z1]
  rw [if_neg (show ¬ (o = 8 ∨ o = 34) by omega), if_neg c23]
  by_cases c29 : o = 29
  · have zx : zex e s o n = zerr (zdn s 1) (ztop s 1) 3 := by
      unfold zex
      rw [if_neg (by omega), if_neg (by omega), if_neg (by omega), if_neg (by omega), if_neg (by omega), if_neg (by omega), if_neg (by omega), if_neg (by omega), if_neg (by omega), if_neg (by omega), if_neg (by omega), if_neg (by omega), if_neg (by omega), if_neg (by omega), if_neg (by omega), if_neg (by omega), if_neg (by omega), if_neg (by omega), if_pos c29]
    rw [zx] at wt ⊢
    have hh1 := (p4 (by omega)).1
    obtain ⟨y1, y2⟩ := zp33 (d := d) (by omega) h hl hE.2.2.2.2.1.k8 (by omega)
    have f1 : zFo κ M (sI M 88 12 (iI (ztp s - 1))) := zFo.sI (by decide)
    obtain ⟨M', z1, z2⟩ := mC41 (d := d) (s := zdn s 1) (v1 := ztop s 1) (v2 := 1) (fl := 1) (m := 3) (by omega) y2 (hE.fo f1) li_1 (Or.inl ⟨rfl, rfl⟩) wt (by show zop e (zpc s) ≠ 27; omega) (by show s.1 1 0 0 ≠ 6; omega)
    refine ⟨M', ?_, (z2.fo f1).ob⟩
    rw [if_pos c29, cI_e y1, vC_e (ck_88 y2.1), cV_e z1]
  rw [if_neg c29]
  by_cases c28 : o = 28
  · subst c28
    obtain ⟨y1, y2⟩ := p4 (by omega)
    obtain ⟨M', z1, z2⟩ := zc35 (d := d) (n := n) (by omega) h hE hw hm hl (by omega) (by omega) (nx y2).1 wt
    exact ⟨M', by rw [if_pos rfl, cV_e z1], z2⟩
  rw [if_neg c28]
  rw [if_neg cj] at zne
  have w3 := w.2.2.1
  have w16 := w.2.2.2.1
  have w3' : Y 1 (zpc s) ≤ s.1 16 (zf s) 0 := w3
  have pl : zPl e s κ M o n ∧ (zpc s + 1 < 1000 ↔ zpc s < 1000) := by
    have cs : o = 0 ∨ o = 1 ∨ o = 2 ∨ o = 9 ∨ o = 21 ∨ o = 22 ∨ o = 27 ∨ o = 30 ∨ o = 32 ∨ o = 33 := by omega
    unfold zPl
    rcases cs with z | z | z | z | z | z | z | z | z | z
    · have := nx (p0 z)
      exact ⟨Or.inl ⟨z, by omega⟩, this.1⟩
    · obtain ⟨y1, y2, y3⟩ := p1 z
      have := nx y3
      exact ⟨Or.inr (Or.inl ⟨z, by omega, by omega, by omega⟩), this.1⟩
    · obtain ⟨y1, y2, y3, y4, y5⟩ := p2 z
      have := nx y5
      exact ⟨Or.inr (Or.inr (Or.inl ⟨z, by omega, by omega, by omega, by omega⟩)), this.1⟩
    · obtain ⟨y1, y2⟩ := p4 (by omega)
      exact ⟨Or.inr (Or.inr (Or.inr (Or.inl ⟨Or.inl z, by omega⟩))), (nx y2).1⟩
    · obtain ⟨y1, y2⟩ := p5 (by omega)
      exact ⟨Or.inr (Or.inr (Or.inr (Or.inl ⟨Or.inr (Or.inl z), by omega⟩))), (nx y2).1⟩
    · obtain ⟨y1, y2⟩ := p5 (by omega)
      exact ⟨Or.inr (Or.inr (Or.inr (Or.inl ⟨Or.inr (Or.inr z), by omega⟩))), (nx y2).1⟩
    · obtain ⟨y1, y2, y3, y4⟩ := p27 z
      exact ⟨Or.inr (Or.inr (Or.inr (Or.inr (Or.inr (Or.inl z))))), (nx y4).1⟩
    · exact ⟨Or.inr (Or.inr (Or.inr (Or.inr (Or.inr (Or.inr (Or.inl z)))))), (nx (p30 z)).1⟩
    · obtain ⟨y1, y2, y3⟩ := p7 (by omega)
      have y4 := nx y3
      obtain ⟨x1, x2, x3⟩ := h8 (zpc s) hin (by omega)
      have x4 := hT.2.2.1 (zpc s) hin (by omega)
      rw [← hn] at x2 x3 x4
      have b24 := (hE.2.1.1 0 (Or.inl rfl)).1
      exact ⟨Or.inr (Or.inr (Or.inr (Or.inr (Or.inr (Or.inr (Or.inr ⟨z, Or.inl ⟨x2, x3⟩, by omega, x1, by omega, by omega, by omega⟩)))))), y4.1⟩
    · obtain ⟨y1, y2⟩ := p6 (by omega)
      exact ⟨Or.inr (Or.inr (Or.inr (Or.inr (Or.inl ⟨z, by omega⟩)))), (nx y2).1⟩
  obtain ⟨M', z1, z2⟩ := zc34 (d := d) (v := iI o) (v1 := iI n) (by omega) h hE hm hl rfl rfl pl.1 pl.2 wt
  exact ⟨M', by rw [cV_e z1], z2⟩
end S99p
