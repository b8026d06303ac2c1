/-! the reference's machine: a CALL -/
section S9b7
variable {d : Nat} {e s s' t u A : ZS} {M M' M1 M2 : Mem} {a b j N x y : Nat} {v v1 v2 v3 w : Int32} {c k i n m p o q id key par NN D r : Int} {R : Int → RG} {G : RG} {L : Int → Int} {Y : Nat → Int → Int}
theorem zSa.tr (h : zSa s t) (g : zSa t u) : zSa s u := by
  obtain ⟨h1, h2, h3, h4⟩ := h
  obtain ⟨g1, g2, g3, g4⟩ := g
  have ef : zf t = zf s := by unfold zf; rw [h1]
  rw [ef] at g2 g3 g4
  exact ⟨g1.trans h1, fun i p q => ⟨fun k w => ((g2 i p q).1 k w).trans ((h2 i p q).1 k w), fun x => ((g2 i p q).2.1 x).trans ((h2 i p q).2.1 x), fun x => ⟨((g2 i p q).2.2 x).1.trans ((h2 i p q).2.2 x).1, ((g2 i p q).2.2 x).2.trans ((h2 i p q).2.2 x).2⟩⟩, fun k w => (g3 k w).trans (h3 k w), fun x => (g4 x).trans (h4 x)⟩
theorem zSa.ar : zSa s (zdn (zarg s par) par) := by
  have zfe : zf s = s.1 0 0 0 - 1 := rfl
  refine ⟨rfl, fun i p q => ⟨fun k w => ?_, fun _ => rfl, fun x => ⟨?_, rfl⟩⟩, fun k w => by rcases w with w | w | w <;> subst w <;> rfl, fun _ => rfl⟩
  · rcases w with w | w | w | w | w | w <;> subst w
    · rfl
    · exact zi_i (s := zarg s par) (show i ≠ zf s by omega)
    · rfl
    · rfl
    · rfl
    · rfl
  · show (if (0 : Nat) = 0 ∧ i = s.1 0 0 0 ∧ 0 ≤ x ∧ x < par then s.2 1 (zf s) (zh s - par + x) else s.2 0 i x) = _
    rw [if_neg (by omega)]
/-- what stands on the stack -/
theorem zRM.tops (h : zRM e s M) (hl : zLr s) (hp : par ≤ zh s) : ∀ x, 0 ≤ x → x < par → M.1 213 (zsp s - par + x).toNat = s.2 1 (zf s) (zh s - par + x) := fun x p q => by
  have l1 := hl.1
  have := (h.2.1 (zf s) (by unfold zf; omega) (by unfold zf; omega)).2.2 (zh s - par + x) (by omega) (by show _ < zh s; omega)
  rw [← this]
  exact congrArg (fun z : Int => M.1 213 z.toNat) (by unfold zsp; omega)
/-- what is behind the CALL is heard -/
def fr250 (d : Nat) (D id : Int) (pc3 : Int32) (par r : Int) (s6 : Mem) : XA :=
 jn (fun (s7 : Mem) =>
 some (.null, s7)) fun j226 =>
 jn (fun (s8 : Unit) =>
 if iI r < 0 then (
 gtI (13, 157) s6 (some 160) 76 fun x9 =>
 if x9 = ((12 : Int32)) then (
 vC (13, 157) s6 (some 160) <|
 cV (runX d 239 [va_rf (some 160), .int ((7 : Int32)), .int pc3, .int ((1 : Int32))] s6) fun M10 =>
 j226 M10) else (
 gtP (13, 157) s6 (some 160) 16 fun x11 =>
 vC (13, 157) s6 (some 160) <|
 cI (runX d 236 [va_rf (some 160), .int (iI id)] s6) fun x13 M12 =>
 alI 100 M12 x11 x13 fun x14 =>
 jn (fun (s15 : Int32) =>
 vC (13, 157) M12 (some 160) <|
 cI (runX d 243 [va_rf (some 160), .int (x14 + s15), .int (iI par)] M12) fun x17 M16 =>
 gtI (13, 157) M16 (some 160) 86 fun x18 =>
 if x18 = 0 then (
 gtI (13, 157) M16 (some 160) 85 fun x19 =>
 if x19 = 0 then (
 vC (13, 157) M16 (some 160) <|
 cV (runX d 241 [va_rf (some 160), .int x17] M16) fun M20 =>
 j226 M20) else (
 j226 M16)) else (
 j226 M16)) fun j199 =>
 if ((96 : Int32)) ≤ iI id then (
 j199 ((1000 : Int32))) else (
 j199 ((0 : Int32))))) else (
 gtI (13, 157) s6 (some 160) 73 fun x21 =>
 ptI (13, 157) s6 (some 160) 73 (x21 - iI par) fun M22 =>
 gtP (13, 157) M22 (some 160) 119 fun x23 =>
 alI 100 M22 x23 ((((8 : Int32)) * iI D) + iI r) fun x24 =>
 vC (13, 157) M22 (some 160) <|
 cV (runX d 241 [va_rf (some 160), .int x24] M22) fun M25 =>
 j226 M25)) fun j120 =>
 if iI r < 0 then (
 j120 ()) else (
 gtP (13, 157) s6 (some 160) 118 fun x26 =>
 alX 102 s6 x26 ((((8 : Int32)) * iI D) + iI r) fun x27 =>
 if x27 = 0 then (
 j120 ()) else (
 gtP (13, 157) s6 (some 160) 119 fun x28 =>
 alI 100 s6 x28 ((((8 : Int32)) * iI D) + iI r) fun x29 =>
 vC (13, 157) s6 (some 160) <|
 cV (runX d 239 [va_rf (some 160), .int x29, .int pc3, .int ((0 : Int32))] s6) fun M30 =>
 j226 M30))
theorem fr250_e (hd : 4 * (12 - s.1 0 0 0) + 12 ≤ d ∧ 12 ≤ d) (hT : zET e) (hl : zEl e) (hD : zRD e R L NN) (hE : zRE e R L M) (h : zRM e s M) (hm : s.1 1 0 0 = 0) (hlr : zLr s) (hi : zId e id) (h4 : e.1 4 id 0 = 4) (hp : 0 ≤ par ∧ par ≤ zh s ∧ par ≤ 4) (hr : r = -2 ∨ (0 ≤ r ∧ 0 ≤ D ∧ D < 8 ∧ r < 8)) (hK : zKn e (zcall e s id D par r)) (hN : s.1 9 0 0 ≤ NN) (hv : v1 = iI (zpc s)) : ∃ M', fr250 d D id v1 par r M = some (.null, M') ∧ zRA e s (zcall e s id D par r) M M' := by
  subst hv
  have hR := h.1.1
  have k := rk_160 hR
  have l1 := hlr.1
  have sp := hlr.sp
  have zfe : zf s = s.1 0 0 0 - 1 := rfl
  unfold fr250
  rw [jn_v, jn_v]
  rcases hr with hr | ⟨r0, D0, D8, r8⟩
  · -- no RULE
    have zc : zcall e s id D par r = if s.1 0 0 0 = 12 then zerr s 7 7 else zent (zdn (zarg s par) par) (e.1 6 id 0) (-1) (s.1 6 (zf s) 0 + (zh s - par)) par := by unfold zcall; rw [if_neg (by omega)]
    rw [if_pos (lsI_p rfl li_0 (by omega)), jv_e, if_pos (lsI_p rfl li_0 (by omega)), gtI_q k h.2.2.1]
    by_cases y : s.1 0 0 0 = 12
    · rw [if_pos y] at zc
      obtain ⟨M', z1, z2, z3⟩ := rfl9 (d := d) (e := e) (s := s) (M := M) (v1 := 7) (v2 := iI (zpc s)) (v3 := 1) (m := 7) (by omega) h rfl (Or.inr ⟨rfl, rfl⟩)
      have sa : zSa s (zerr s 7 7) := by
        have := zSa.er (s := s) (c := 0) (v := 7) (m := 7)
        rw [zdn_0] at this
        exact this
      refine ⟨M', ?_, by rw [zc]; exact ⟨_, zto.r, (z3).q, Or.inr (Or.inl ⟨Or.inr zi_e, sa, rfl, z2⟩)⟩⟩
      rw [if_pos (show iI (s.1 0 0 0) = 12 from eqI_p (y := 12) rfl rfl y), vC_e k, cV_e z1]; rfl
    · rw [if_neg y] at zc
      obtain ⟨b1, b2, m171, m172, m174, m175⟩ := hE.mb hi
      rw [if_neg (show ¬ iI (s.1 0 0 0) = 12 from eqI_n (y := 12) rfl rfl (by omega)), gtP_q k (rf_16 hR), vC_e k, cI_e (hE.r236 (d := d) (by omega) hR hi rfl), alI_q (n := 768) (z := zrm e id) (rk_175 hR) rfl (by omega) (m175 h4), jn_v, zq_if (f := jv _) (x := 1000) (y := 0) (a := 1000) rfl li_0 b1, jv_e, vC_e k]
      obtain ⟨A, hA⟩ : ∃ A, A = zdn (zarg s par) par := ⟨_, rfl⟩
      obtain ⟨v0, v1', v2', v3', v4', v5', v6', v7'⟩ := zent_v (s := A) (c := e.1 6 id 0) (m := par) (st := -1) (sb := s.1 6 (zf s) 0 + (zh s - par))
      have A0 : A.1 0 0 0 = s.1 0 0 0 := by rw [hA]; rfl
      rw [A0] at v0 v2' v3' v4' v5' v6' v7'
      have hI := h.ica (c := e.1 6 id 0) (par := par) hm hlr ⟨hp.1, hp.2.1⟩
      rw [zc] at hK
      rw [← hA] at hI hK zc
      obtain ⟨u, hu⟩ : ∃ u, u = zent A (e.1 6 id 0) (-1) (s.1 6 (zf s) 0 + (zh s - par)) par := ⟨_, rfl⟩
      rw [← hu] at v0 v1' v2' v3' v4' v5' v6' v7' hI hK zc
      have u9 : u.1 9 0 0 = s.1 9 0 0 := by rw [hu, hA]; rfl
      obtain ⟨r', M2, z1, t, z2, z3, z4⟩ := hD d u M (s.1 0 0 0) par (iI (e.1 6 id 0 - 1000 * zq id) + iI (1000 * zq id)) (iI par) (by omega) (by omega) (by omega) (by rw [u9]; exact hN) hE hK hI (by rw [v2']; exact cvI (adI rfl rfl) (by omega)) rfl
      have R2 : RT M2 := hR.keep z3.1
      have k2 := rk_160 R2
      have B : ∀ i, 0 ≤ i → i < s.1 0 0 0 → zBe A u i := fun i x1 x2 => by
        rw [hu]
        exact zent_be (by rw [A0]; omega)
      have Ah : zh A = zh s - par := by rw [hA]; exact zi_e
      have Af : zf A = zf s := by rw [hA]; rfl
      have Ap : zpc A = zpc s := by rw [hA]; rfl
      have As : zSa s A := by rw [hA]; exact zSa.ar
      have Al : zLr A := by rw [hA]; exact hlr.dn ⟨hp.1, hp.2.1⟩
      rw [zc]
      rcases z4 with ⟨c1, c2, c3, ⟨c4, c5, c6⟩, c7⟩ | ⟨c1, c2⟩
      · obtain ⟨sa, sp', sh, sf⟩ := c1.sa B A0.symm (by omega)
        have t5 : t.1 5 (t.1 0 0 0) 0 = -1 := by rw [c1.1, c1.2.2.1, v5']
        have t0 := c1.1
        have tl : zLr t := Al.cg (c1.1.trans A0.symm) fun i x1 x2 kk x3 => ((c1.2.1 i x1 (by omega)).1 kk (by omega)).trans ((B i x1 (by omega)).1 kk (by omega))
        rcases c7 with ⟨d1, d2, d3⟩ | ⟨d1, d2, d3, d4, d5⟩
        · have t1 : zstep e t = zi (znx (zpush t (t.2 6 0 0))) 1 0 0 0 := by
            unfold zstep
            rw [if_neg (by omega), if_neg (by omega), if_pos d1]
            unfold zret
            rw [if_neg (by omega), if_neg (by omega)]
          have to1 : zto e u (zi (znx (zpush t (t.2 6 0 0))) 1 0 0 0) := z2.tr (zto.st (by rw [t1]; exact zto.r))
          have K1 := zto_kn hT hl hK to1
          have hm1 : (zi (znx (zpush t (t.2 6 0 0))) 1 0 0 0).1 1 0 0 = 0 := zi_e
          have l2 := (K1.1.lr (Or.inl hm1)).2.2.2.2
          have l3 : zh (zi (znx (zpush t (t.2 6 0 0))) 1 0 0 0) = zh t + 1 := zi_e
          have zt : zRM e t M2 := ⟨c2, by rw [c1.1]; exact c3, by rw [c4, c1.1], by
            rw [c5, v6']
            have e6 := ((c1.2.1 (zf s) (by omega) (by omega)).1 6 (by omega)).trans ((B (zf s) (by omega) (by omega)).1 6 (by omega))
            unfold zsp
            rw [sh, Ah, sf, Af, e6, show A.1 6 (zf s) 0 = s.1 6 (zf s) 0 by rw [hA]; rfl], c6, d2⟩
          obtain ⟨M3, q1, q2, q3⟩ := rq1 (d := d) (v := r') (by omega) zt tl (by omega)
          rw [d3] at q2
          refine ⟨M3, ?_, _, to1, ((z3.o (by omega)).tr q3).q, Or.inl ⟨hm1, As.tr (sa.tr ((zSa.px (s := t) (v := t.2 6 0 0)).as (fun kk z => by funext x y; exact zi_k (by omega)) ⟨rfl, rfl⟩)), ?_, ?_⟩⟩
          · rw [cI_e z1, gtI_q k2 d2, if_pos (show iI 0 = 0 from rfl), gtI_q k2 c6, if_pos (show iI 0 = 0 from rfl), vC_e k2, cV_e q1]; rfl
          · show zpc (znx (zpush t (t.2 6 0 0))) = _
            rw [znx_pc, ← Ap, ← sp']; rfl
          · exact (q2.at (zpc t + 1)).glob (q2.at (zpc t + 1)).1 (fun _ _ _ => rfl) (fun kk z => by funext x y; exact zi_k (by omega)) ⟨rfl, rfl⟩
        · have t1 : zstep e t = zi t 1 0 0 (t.1 1 0 0 - 1) := by
            have : zstep e t = zunw t (t.1 1 0 0) := by
              unfold zstep
              rw [if_neg (by omega), if_neg (by omega), if_neg (by omega), if_neg (by omega), if_pos (by omega)]
            rw [this]
            unfold zunw
            rw [if_neg (by omega), if_neg (by omega)]
          have me : (zi t 1 0 0 (t.1 1 0 0 - 1)).1 1 0 0 = t.1 1 0 0 - 1 := zi_e
          have tk : ∀ kk, kk ≠ 1 → (zi t 1 0 0 (t.1 1 0 0 - 1)).1 kk = t.1 kk := fun kk z => by funext x y; exact zi_k z
          refine ⟨M2, ?_, _, z2.tr (zto.st (by rw [t1]; exact zto.r)), (z3.o (by omega)).q, Or.inr (Or.inl ⟨by rw [me]; omega, As.tr (sa.as (fun kk z => tk kk (by omega)) ⟨rfl, rfl⟩), ?_, ?_⟩)⟩
          · rw [cI_e z1, gtI_q k2 d2, if_neg (show ¬ iI 1 = 0 by decide)]; rfl
          · show zpc t = _
            rw [sp', Ap]
          · refine ⟨c2.ff zRw.r ⟨fun kk z => tk kk (by omega), fun _ _ _ _ => rfl⟩, fun i x1 x2 => ?_, c6, d2, ?_, d4, d5⟩
            · have x2' : i < s.1 0 0 0 := by rw [← c1.1]; exact x2
              exact (c3 i x1 x2').lo (fun _ _ _ => rfl) (fun _ _ _ => rfl) (fun _ _ _ => rfl) rfl rfl rfl rfl (fun _ => rfl) (fun _ => rfl) (fun _ => rfl)
            · rw [d3, me]
              by_cases y8 : t.1 1 0 0 = 8
              · rw [if_pos y8, if_pos (by omega)]
              · rw [if_neg y8, if_neg (by omega)]
      · refine ⟨M2, ?_, t, z2, z3, Or.inr (Or.inr ⟨c1, c2⟩)⟩
        rw [cI_e z1, gtI_q k2 c2.2.2.1, if_neg (show ¬ iI 1 = 0 by decide)]; rfl
  · -- a RULE
    have zc : zcall e s id D par r = if e.1 14 D r = 1 then zerr s (e.2 2 D r) 3 else znx (zpush (zdn s par) (e.2 2 D r)) := by unfold zcall; rw [if_pos r0]
    obtain ⟨-, -, -, a4⟩ := hE.2.2.2.2.2.2.2.1 D D0 D8
    obtain ⟨-, -, c3, c4, c5⟩ := a4 r r0 r8
    have e8 : (8 : Int32) * iI D + iI r = iI (8 * D + r) := adI (mlI (x := 8) rfl rfl) rfl
    rw [if_neg (lsI_n rfl li_0 (by omega)), gtP_q k (rf_118 hR), alX_q (n := 64) (z := 8 * D + r) (rk_233 hR) e8 (by omega) c3]
    by_cases y : e.1 14 D r = 1
    · rw [if_pos y] at zc
      obtain ⟨M', z1, z2, z3⟩ := rfl9 (d := d) (e := e) (s := s) (M := M) (v1 := e.2 2 D r) (v2 := iI (zpc s)) (v3 := 0) (m := 3) (by omega) h rfl (Or.inl ⟨rfl, rfl⟩)
      have sa : zSa s (zerr s (e.2 2 D r) 3) := by
        have := zSa.er (s := s) (c := 0) (v := e.2 2 D r) (m := 3)
        rw [zdn_0] at this
        exact this
      refine ⟨M', ?_, by rw [zc]; exact ⟨_, zto.r, (z3).q, Or.inr (Or.inl ⟨Or.inl zi_e, sa, rfl, z2⟩)⟩⟩
      rw [if_neg (eqI_n rfl li_0 (by omega)), gtP_q k (rf_119 hR), alI_q (n := 64) (z := 8 * D + r) (rk_234 hR) e8 (by omega) c4, vC_e k, cV_e z1]; rfl
    · rw [if_neg y] at zc
      have c2 := h.dn hlr (c := par) ⟨hp.1, hp.2.1⟩
      have f2 : zRo e M (sI M 160 73 (iI (zsp s - par))) := (zRw.sI zRw.r (by decide)).ro
      obtain ⟨M1, hM1⟩ : ∃ z, z = sI M 160 73 (iI (zsp s - par)) := ⟨_, rfl⟩
      have l2 := hlr.dn (c := par) ⟨hp.1, hp.2.1⟩
      have e2 : zh (zdn s par) = zh s - par := zdn_h
      rw [← hM1] at c2 f2
      have hm1 : (znx (zpush (zdn s par) (e.2 2 D r))).1 1 0 0 = 0 := hm
      rw [zc] at hK
      have l3 := (hK.1.lr (Or.inl hm1)).2.2.2.2
      have l4 : zh (znx (zpush (zdn s par) (e.2 2 D r))) = zh (zdn s par) + 1 := zi_e
      obtain ⟨M2, q1, q2, q3⟩ := rq1 (d := d) (v := e.2 2 D r) (by omega) c2 l2 (by omega)
      have R1 := c2.1.1
      have k1 := rk_160 R1
      have c4' : M1.1 234 (8 * D + r).toNat = e.2 2 D r := by rw [hM1]; exact (sI_ne (by decide)).trans c4
      refine ⟨M2, ?_, by rw [zc]; exact ⟨_, zto.r, (f2.tr q3).q, Or.inl ⟨hm, zSa.pd, znx_pc, q2.at _⟩⟩⟩
      rw [if_pos (eqI_p rfl li_0 (by omega)), jv_e, if_neg (lsI_n rfl li_0 (by omega)), gtI_q k h.2.2.2.1, ptI_q (z := zsp s - par) k (sbI rfl rfl), ← hM1, gtP_q k1 (rf_119 R1), alI_q (n := 64) (z := 8 * D + r) (rk_234 R1) e8 (by omega) c4', vC_e k1, cV_e q1]; rfl
end S9b7
