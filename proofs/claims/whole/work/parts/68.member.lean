/-! a member: both -/
def m77 (rec : Nat → List Value → Mem → XA) (x : Int32) : Mem → XA := fun s3 => gtI (7, 20) s3 (some 65) 13 fun x4 => jn (fun (s5 : Mem) => some (.null, s5)) fun j285 => jn (fun (s6 : Unit) => vC (7, 20) s3 (some 65) <| cV (rec 79 [va_rf (some 65), .int x] s3) fun M7 => j285 M7) fun j54 => if x4 = ((202 : Int32)) then ( j54 ()) else ( gtI (7, 20) s3 (some 65) 13 fun x8 => if x8 = ((203 : Int32)) then ( j54 ()) else ( gtI (7, 20) s3 (some 65) 13 fun x9 => if x9 = ((204 : Int32)) then ( j54 ()) else ( gtI (7, 20) s3 (some 65) 13 fun x10 => if x10 = ((205 : Int32)) then ( vC (7, 20) s3 (some 65) <| cV (rec 80 [va_rf (some 65), .int x] s3) fun M11 => j285 M11) else ( jn (fun (s12 : Unit) => gtI (7, 20) s3 (some 65) 9 fun x13 => ptI (7, 20) s3 (some 65) 14 x13 fun M14 => ptI (7, 20) M14 (some 65) 16 ((0 : Int32)) fun M15 => gtI (7, 20) M15 (some 65) 13 fun x16 => jn (fun (s17 : Int32) => gtI (7, 20) M15 (some 65) 13 fun x18 => jn (fun (s19 : Mem) => vC (7, 20) s19 (some 65) <| cV (rec 89 [va_rf (some 65), .int ((0 : Int32))] s19) fun M20 => gtI (7, 20) M20 (some 65) 14 fun x21 => lp (c77_264 rec (some 65) j285 s17) 4294967296 (x21, M20)) fun j254 => if x18 = ((207 : Int32)) then ( vC (7, 20) M15 (some 65) <| cV (rec 81 [va_rf (some 65), .int x] M15) fun M27 => j254 M27) else ( gtI (7, 20) M15 (some 65) 13 fun x28 => jn (fun (s29 : Unit) => gtP (7, 20) M15 (some 65) 1 fun x30 => gtP (7, 20) M15 (some 65) 1 fun x31 => vC (0, 3) M15 x31 <| cI (rec 346 [va_rf x31] M15) fun x33 M32 => vC (0, 3) M32 x30 <| cP (rec 348 [va_rf x30, .int (x33 - ((1 : Int32)))] M32) fun x35 M34 => cst (11, 10) M34 x35 <| vC (7, 20) M34 (some 65) <| cV (rec 83 [va_rf (some 65), va_rf x35] M34) fun M36 => j254 M36) fun j189 => if x28 = ((206 : Int32)) then ( j189 ()) else ( gtI (7, 20) M15 (some 65) 13 fun x37 => if x37 = ((208 : Int32)) then ( j189 ()) else ( gtI (7, 20) M15 (some 65) 13 fun x38 => if x38 = ((209 : Int32)) then ( j189 ()) else ( gtI (7, 20) M15 (some 65) 13 fun x39 => if x39 = ((210 : Int32)) then ( vC (7, 20) M15 (some 65) <| cV (rec 84 [va_rf (some 65)] M15) fun M40 => j254 M40) else ( gtI (7, 20) M15 (some 65) 13 fun x41 => if x41 = ((214 : Int32)) then ( vC (7, 20) M15 (some 65) <| cV (rec 86 [va_rf (some 65)] M15) fun M42 => j254 M42) else ( vC (7, 20) M15 (some 65) <| cV (rec 62 [va_rf (some 65), .int ((2 : Int32))] M15) fun M43 => j254 M43))))))) fun j140 => jn (fun (s44 : Unit) => j140 ((1 : Int32))) fun j135 => if x16 = ((207 : Int32)) then ( j135 ()) else ( gtI (7, 20) M15 (some 65) 13 fun x45 => if x45 = ((206 : Int32)) then ( j135 ()) else ( j140 ((0 : Int32))))) fun j102 => if x = 0 then ( j102 ()) else ( gtI (7, 20) s3 (some 65) 13 fun x46 => if x46 = ((207 : Int32)) then ( j102 ()) else ( vC (7, 20) s3 (some 65) <| cV (rec 62 [va_rf (some 65), .int ((2 : Int32))] s3) fun M47 => j285 M47))))))
def m221 (rec : Nat → List Value → Mem → XA) (v x : Int32) : Mem → XA := fun s3 => gtI (13, 157) s3 (some 160) 41 fun x4 => if x4 = 0 then ( gtI (13, 157) s3 (some 160) 36 fun x5 => cI (rec 184 [.int x5, .int ((403 : Int32)), .int ((407 : Int32))] s3) fun x7 M6 => jn (fun (s8 : Mem) => some (.null, s8)) fun j340 => if x7 = 0 then ( jn (fun (s9 : Int32 × Mem) => vC (13, 157) s9.2 (some 160) <| cI (rec 193 [va_rf (some 160), .int s9.1] s9.2) fun x11 M10 => if x11 = 0 then ( j340 M10) else ( gtI (13, 157) M10 (some 160) 36 fun x12 => gtI (13, 157) M10 (some 160) 49 fun x13 => lt ((((8 : Int32)) * v) + x13) fun (x14 : Int32) => ptI (13, 157) M10 (some 160) 51 ((0 : Int32)) fun M15 => if x12 = ((408 : Int32)) then ( gtP (13, 157) M15 (some 160) 5 fun x16 => alI 100 M15 x16 x14 fun x17 => jn (fun (s18 : Int32) => vC (13, 157) M15 (some 160) <| cI (rec 194 [va_rf (some 160), .int s18, .int ((6 : Int32))] M15) fun x20 M19 => if x20 = 0 then ( j340 M19) else ( vC (13, 157) M19 (some 160) <| cV (rec 191 [va_rf (some 160)] M19) fun M21 => gtP (13, 157) M21 (some 160) 5 fun x22 => gtI (13, 157) M21 (some 160) 43 fun x23 => asI 100 M21 x22 x14 x23 fun M24 => vC (13, 157) M24 (some 160) <| cI (rec 218 [va_rf (some 160), .int ((1 : Int32))] M24) fun x26 M25 => j340 M25)) fun j143 => if 0 ≤ x17 then ( j143 ((0 : Int32))) else ( j143 ((1 : Int32)))) else ( if x12 = ((409 : Int32)) then ( gtP (13, 157) M15 (some 160) 6 fun x27 => alI 100 M15 x27 x14 fun x28 => jn (fun (s29 : Int32) => vC (13, 157) M15 (some 160) <| cI (rec 194 [va_rf (some 160), .int s29, .int ((6 : Int32))] M15) fun x31 M30 => if x31 = 0 then ( j340 M30) else ( vC (13, 157) M30 (some 160) <| cV (rec 191 [va_rf (some 160)] M30) fun M32 => gtP (13, 157) M32 (some 160) 7 fun x33 => gtP (13, 157) M32 (some 160) 6 fun x34 => alI 100 M32 x34 x14 fun x35 => vC (13, 157) M32 (some 160) <| cI (rec 218 [va_rf (some 160), .int ((0 : Int32))] M32) fun x37 M36 => asI 100 M36 x33 ((((3 : Int32)) * x14) + x35) x37 fun M38 => gtP (13, 157) M38 (some 160) 6 fun x39 => alI 100 M38 x39 x14 fun x40 => asI 100 M38 x39 x14 ((x40 + ((1 : Int32)))) fun M41 => j340 M41)) fun j200 => if ((3 : Int32)) ≤ x28 then ( j200 ((0 : Int32))) else ( j200 ((1 : Int32)))) else ( if x12 = ((410 : Int32)) then ( gtP (13, 157) M15 (some 160) 8 fun x42 => alI 100 M15 x42 x14 fun x43 => jn (fun (s44 : Int32) => vC (13, 157) M15 (some 160) <| cI (rec 194 [va_rf (some 160), .int s44, .int ((6 : Int32))] M15) fun x46 M45 => if x46 = 0 then ( j340 M45) else ( vC (13, 157) M45 (some 160) <| cV (rec 191 [va_rf (some 160)] M45) fun M47 => gtP (13, 157) M47 (some 160) 9 fun x48 => gtP (13, 157) M47 (some 160) 8 fun x49 => alI 100 M47 x49 x14 fun x50 => vC (13, 157) M47 (some 160) <| cI (rec 218 [va_rf (some 160), .int ((0 : Int32))] M47) fun x52 M51 => asI 100 M51 x48 ((((3 : Int32)) * x14) + x50) x52 fun M53 => gtP (13, 157) M53 (some 160) 8 fun x54 => alI 100 M53 x54 x14 fun x55 => asI 100 M53 x54 x14 ((x55 + ((1 : Int32)))) fun M56 => j340 M56)) fun j272 => if ((3 : Int32)) ≤ x43 then ( j272 ((0 : Int32))) else ( j272 ((1 : Int32)))) else ( if x12 = ((411 : Int32)) then ( vC (13, 157) M15 (some 160) <| cV (rec 225 [va_rf (some 160), .int v] M15) fun M57 => j340 M57) else ( vC (13, 157) M15 (some 160) <| cV (rec 226 [va_rf (some 160), .int v] M15) fun M58 => j340 M58)))))) fun j93 => jn (fun (s59 : Mem) => j93 ((0 : Int32), s59)) fun j92 => if x = 0 then ( gtI (13, 157) M6 (some 160) 36 fun x60 => cI (rec 184 [.int x60, .int ((408 : Int32)), .int ((411 : Int32))] M6) fun x62 M61 => jn (fun (s63 : Unit) => j93 ((1 : Int32), M61)) fun j88 => if x62 = 0 then ( gtI (13, 157) M61 (some 160) 36 fun x64 => if x64 = ((415 : Int32)) then ( j88 ()) else ( j92 M61)) else ( j88 ())) else ( j92 M6)) else ( vC (13, 157) M6 (some 160) <| cV (rec 222 [va_rf (some 160), .int v, .int x] M6) fun M65 => j340 M65)) else ( some (.null, s3))
section S68
variable {dl d : Nat} {T : Int → Int} {n m i i0 b e s u uc dq p r ut cnt lo : Int} {kd pl E : Int → Int} {tx : Int → Int64} {M0c M0r Mc Mr M0 M1 M : Mem} {R : RG} {L : Int → Int64} {N TT ex : Nat} {H : HG} {G U : Nat → Int → Int} {X : Nat → Int → Int64} {v x x2 : Int32}
theorem MOQ.lt (h : MOQ T n m kd pl E tx N TT ex M0c M0r p ut i Mc Mr) (hi : i0 ≤ i) : MOQ T n m kd pl E tx N TT ex M0c M0r p ut i0 Mc Mr := by
  rcases h with ⟨i', G, U, X, L, H, R, e, s, u, uc, cnt, dq, a, b⟩ | h
  · exact Or.inl ⟨i', G, U, X, L, H, R, e, s, u, uc, cnt, dq, by omega, b⟩
  · exact Or.inr h
/-- before a code: where it begins, no LOCALS -/
theorem CQ.c14 (h : CQ m kd pl tx N TT ex M0 M1 e s uc M H (i, 0, 0)) : CQ m kd pl tx N TT ex M0 (sI (sI M 65 14 (iI e)) 65 16 (iI 0)) e 0 uc (sI (sI M 65 14 (iI e)) 65 16 (iI 0)) H (i, 0, 0) := by
  have f : Fr [(65, 14), (65, 16)] M (sI (sI M 65 14 (iI e)) 65 16 (iI 0)) := Fr.sI (by decide) (Fr.sI (by decide) Fr.r)
  obtain ⟨⟨a1, a2, a3, a4, a5, a6⟩, b⟩ := h.sc rfl
  refine ⟨⟨h.1.1.fr f, h.1.2.fr f (by decide)⟩, ⟨h.2.1.1.tr ((f.n h.nn (by decide)).m (by decide)), rfl⟩, fun _ => FN.z ⟨h.nn.1, by rw [f.lq]; exact h.nn.2⟩, h.2.2.2.1.fr f (by decide), Or.inl ⟨rfl, ⟨(f.i _ _ (by decide)).trans a1, (f.i _ _ (by decide)).trans a2, (f.i _ _ (by decide)).trans a3, (f.i _ _ (by decide)).trans a4, sI_eq, (f.i _ _ (by decide)).trans a6⟩, b⟩⟩
/-- what both know, before a code -/
theorem MO.c14 (mo : MO T n m kd pl E tx N TT ex M0c M0r p ut i Mc Mr G U X L H R e s u uc cnt dq) : CQ m kd pl tx N TT ex M0c (sI (sI Mc 65 14 (iI e)) 65 16 (iI 0)) e 0 uc (sI (sI Mc 65 14 (iI e)) 65 16 (iI 0)) H (i, 0, 0) ∧ RW (sI (sI Mc 65 14 (iI e)) 65 16 (iI 0)) Mr G U L X e 0 u uc ∧ CMK (sI (sI Mc 65 14 (iI e)) 65 16 (iI 0)) G e ∧ (sI (sI Mc 65 14 (iI e)) 65 16 (iI 0)).1 65 14 = iI e ∧ RW (sI (sI Mc 65 14 (iI e)) 65 16 (iI 0)) (sI Mr 160 51 (iI 0)) G U L X e 0 u uc := by
  obtain ⟨g, ⟨sr, q⟩, ⟨r1, r2, r3, r4, r5, r6⟩, hbd, hE, hH, hG, hM⟩ := mo
  have f : Fr [(65, 14), (65, 16)] Mc (sI (sI Mc 65 14 (iI e)) 65 16 (iI 0)) := Fr.sI (by decide) (Fr.sI (by decide) Fr.r)
  have f2 : Fr [(160, 51)] Mr (sI Mr 160 51 (iI 0)) := Fr.sI (by decide) Fr.r
  refine ⟨g.c14, ⟨r1.fr f (by decide), r2, r3.fr f (by decide), r4, r5.fr f (by decide), r6⟩, fun j a b => (f.c 75 (by decide) _).trans (hM j a b), (sI_nej (by decide)).trans sI_eq, ⟨r1.fr f (by decide), r2.fr f2 (by decide), r3.fr f (by decide), r4.fr f2 (by decide), r5.fr f (by decide), r6.fr f2 (by decide)⟩⟩
theorem Rs_r {k : Mem → XA} {x y : XA} {P Q : Value → Mem → Value → Mem → Prop} (h : Rs x y P) (g : ∀ v M w N, P v M w N → Rs (some (v, M)) (cV (some (w, N)) k) Q) : Rs x (cV y k) Q := by
  obtain ⟨v, M, w, N, h1, h2, h3⟩ := h
  rw [h1, h2]
  exact g v M w N h3
theorem mem2 (hdl : 940 ≤ dl) (hd : 940 ≤ d) (hS : TkS T n m kd pl E tx) (mo : MO T n m kd pl E tx N TT ex M0c M0r p ut i Mc Mr G U X L H R e s u uc cnt dq) (hp : 0 ≤ p ∧ p ≤ 7) (hv : v = iI p) (hx : x = iI lo) (hx2 : x2 = iI lo) (hlo : 0 ≤ lo ∧ lo ≤ 1) : Rs (m77 (runX dl) x Mc) (m221 (runX d) v x2 Mr) (fun _ Mc' _ Mr' => MOQ T n m kd pl E tx N TT ex M0c M0r p ut i Mc' Mr') := by
  obtain ⟨nB, n1, n2, n3, n4, n5⟩ := mo.nb
  have mo0 := mo
  obtain ⟨gE, hwE, hME, g14, hwF⟩ := mo.c14
  obtain ⟨g, ⟨sr, q⟩, hw, hbd, hE, hH, hG, hM⟩ := mo
  have hub : hEN H 1 - 1 = ut := by omega
  obtain ⟨hc, hi⟩ := g.sc rfl
  obtain ⟨hr, hm, hi9⟩ := q.sr rfl
  dsimp only at hc hr hi hi9
  have hok : KdOK (kd i) := hS.ok i hi.1 hi.2
  have hkb : 0 ≤ kd i ∧ kd i < 300 := by have := hok; unfold KdOK sgk at this; omega
  have hkr := kr_r hok
  unfold m77 m221
  refine rsl (gtI_q (ck_65 g.1.1) hc.2.1) ?_
  refine rsl (jn_v) ?_
  refine rsl (jn_v) ?_
  refine rsr (gtI_q (rk_160 q.1.1) hr.2.2.2.1) ?_
  refine rsr (if_pos (eqI_p rfl li_0 rfl)) ?_
  refine rsr (gtI_q (rk_160 q.1.1) hr.1) ?_
  by_cases c202 : kd i = 202
  ·
    refine rsl (if_pos (eqI_p rfl li_202 c202)) ?_
    have pk : kr (kd i) = 403 := by rw [c202]; decide +kernel
    refine rsl (jv_e) ?_
    refine rsl (vC_e (ck_65 g.1.1)) ?_
    refine rsr (cI_e (z184_1 (by omega) rfl li_403 li_407 (by omega))) ?_
    refine rsr (jn_v) ?_
    refine rsr (if_neg (eqI_n (x := 1) (y := 0) rfl li_0 (by omega))) ?_
    refine rsr (vC_e (rk_160 q.1.1)) ?_
    refine Rb_VV (thing_v (ki := 0) (by omega) (by omega) hS mo0 hp (by omega) hx hlo hv hx2) fun v M1 w M2 hq => ?_
    refine rsl ((cV_e rfl).trans jv_e) ?_
    refine rsr ((cV_e rfl).trans jv_e) ?_
    exact Rs.seq (Rt.ok (Rt.ok hq))
  ·
    refine rsl (if_neg (eqI_n rfl li_202 (by omega))) ?_
    have k202 : kr (kd i) ≠ 403 := kr_n hok (by unfold KdOK; omega) (by decide +kernel) c202
    refine rsl (gtI_q (ck_65 g.1.1) hc.2.1) ?_
    by_cases c203 : kd i = 203
    ·
      refine rsl (if_pos (eqI_p rfl li_203 c203)) ?_
      have pk : kr (kd i) = 404 := by rw [c203]; decide +kernel
      refine rsl (jv_e) ?_
      refine rsl (vC_e (ck_65 g.1.1)) ?_
      refine rsr (cI_e (z184_1 (by omega) rfl li_403 li_407 (by omega))) ?_
      refine rsr (jn_v) ?_
      refine rsr (if_neg (eqI_n (x := 1) (y := 0) rfl li_0 (by omega))) ?_
      refine rsr (vC_e (rk_160 q.1.1)) ?_
      refine Rb_VV (thing_v (ki := 1) (by omega) (by omega) hS mo0 hp (by omega) hx hlo hv hx2) fun v M1 w M2 hq => ?_
      refine rsl ((cV_e rfl).trans jv_e) ?_
      refine rsr ((cV_e rfl).trans jv_e) ?_
      exact Rs.seq (Rt.ok (Rt.ok hq))
    ·
      refine rsl (if_neg (eqI_n rfl li_203 (by omega))) ?_
      have k203 : kr (kd i) ≠ 404 := kr_n hok (by unfold KdOK; omega) (by decide +kernel) c203
      refine rsl (gtI_q (ck_65 g.1.1) hc.2.1) ?_
      by_cases c204 : kd i = 204
      ·
        refine rsl (if_pos (eqI_p rfl li_204 c204)) ?_
        have pk : kr (kd i) = 405 := by rw [c204]; decide +kernel
        refine rsl (jv_e) ?_
        refine rsl (vC_e (ck_65 g.1.1)) ?_
        refine rsr (cI_e (z184_1 (by omega) rfl li_403 li_407 (by omega))) ?_
        refine rsr (jn_v) ?_
        refine rsr (if_neg (eqI_n (x := 1) (y := 0) rfl li_0 (by omega))) ?_
        refine rsr (vC_e (rk_160 q.1.1)) ?_
        refine Rb_VV (thing_v (ki := 2) (by omega) (by omega) hS mo0 hp (by omega) hx hlo hv hx2) fun v M1 w M2 hq => ?_
        refine rsl ((cV_e rfl).trans jv_e) ?_
        refine rsr ((cV_e rfl).trans jv_e) ?_
        exact Rs.seq (Rt.ok (Rt.ok hq))
      ·
        refine rsl (if_neg (eqI_n rfl li_204 (by omega))) ?_
        have k204 : kr (kd i) ≠ 405 := kr_n hok (by unfold KdOK; omega) (by decide +kernel) c204
        refine rsl (gtI_q (ck_65 g.1.1) hc.2.1) ?_
        by_cases c205 : kd i = 205
        ·
          refine rsl (if_pos (eqI_p rfl li_205 c205)) ?_
          have pk : kr (kd i) = 406 := by rw [c205]; decide +kernel
          refine rsl (vC_e (ck_65 g.1.1)) ?_
          refine rsr (cI_e (z184_1 (by omega) rfl li_403 li_407 (by omega))) ?_
          refine rsr (jn_v) ?_
          refine rsr (if_neg (eqI_n (x := 1) (y := 0) rfl li_0 (by omega))) ?_
          refine rsr (vC_e (rk_160 q.1.1)) ?_
          refine Rb_VV (thing_r (by omega) (by omega) hS mo0 hp c205 hx hlo hv hx2) fun v M1 w M2 hq => ?_
          refine rsl ((cV_e rfl).trans jv_e) ?_
          refine rsr ((cV_e rfl).trans jv_e) ?_
          exact Rs.seq (Rt.ok (Rt.ok hq))
        ·
          refine rsl (if_neg (eqI_n rfl li_205 (by omega))) ?_
          have k205 : kr (kd i) ≠ 406 := kr_n hok (by unfold KdOK; omega) (by decide +kernel) c205
          refine rsl (jn_v) ?_
          by_cases co : lo = 1 ∧ kd i ≠ 207
          ·
            have k207 : kr (kd i) ≠ 407 := kr_n hok (by unfold KdOK; omega) (by decide +kernel) co.2
            refine rsl (if_neg (eqI_n hx li_0 (by omega))) ?_
            refine rsl (gtI_q (ck_65 g.1.1) hc.2.1) ?_
            refine rsl (if_neg (eqI_n rfl li_207 (by omega))) ?_
            refine rsl (vC_e (ck_65 g.1.1)) ?_
            refine Rs.seq (Rc_V (cq62 (by omega) hS g.1.1 g.1.2 g.2.2.2.2 nB li_2 (by omega)) fun v M1 p1 => ?_)
            have g1 := g.cp p1 tX_s
            refine rs1 (cV_e rfl) ?_
            refine rs1 (jv_e) ?_
            refine Rt.ok ?_
            refine rs1 (cI_e (z184_0 (by omega) rfl li_403 li_407 (by omega))) ?_
            refine rs1 (jn_v) ?_
            refine rs1 (if_pos (eqI_p rfl li_0 rfl)) ?_
            refine rs1 (jn_v) ?_
            refine rs1 (jn_v) ?_
            refine rs1 (if_neg (eqI_n hx2 li_0 (by omega))) ?_
            refine rs1 (jv_e) ?_
            refine rs1 (jv_e) ?_
            refine rs1 (vC_e (rk_160 q.1.1)) ?_
            obtain ⟨Mq, q1, q2⟩ := q193n (d := d) (b := 2500) (by omega) hS q.1.1 hr hm (by omega) hi9 li_0
            have hq := q.rp q2 (fun _ => rfl)
            rw [show ((i, if kd i = 1 then 1 else 2, pl i) : TS) = tX kd pl 2 (i, 0, 0) from (if_pos rfl).symm] at hq
            refine rs1 (cI_e q1) ?_
            refine rs1 (if_pos (eqI_p rfl li_0 rfl)) ?_
            refine rs1 (jv_e) ?_
            exact Rt.ok (MOQ.ft g1 (g1.pos (tX_n (by omega))) n2.1 hq (by omega))
          ·
            have on : ∀ {k : Unit → XA} {y : XA}, Rs (k ()) y (fun _ Mc' _ Mr' => MOQ T n m kd pl E tx N TT ex M0c M0r p ut i Mc' Mr') → Rs (if x = 0 then k () else gtI (7, 20) Mc (some 65) 13 fun x46 => if x46 = ((207 : Int32)) then k () else vC (7, 20) Mc (some 65) <| cV (runX dl 62 [va_rf (some 65), .int ((2 : Int32))] Mc) fun M47 => jv (fun s5 => some (.null, s5)) M47) y (fun _ Mc' _ Mr' => MOQ T n m kd pl E tx N TT ex M0c M0r p ut i Mc' Mr') := fun {k y} hk => by
              by_cases z : lo = 0
              · exact rsl (if_pos (eqI_p hx li_0 z)) hk
              · exact rsl (if_neg (eqI_n hx li_0 (by omega))) (rsl (gtI_q (ck_65 g.1.1) hc.2.1) (rsl (if_pos (eqI_p rfl li_207 (by omega))) hk))
            refine on ?_
            refine rsl (jv_e) ?_
            refine rsl (gtI_q (ck_65 g.1.1) hc.2.2.2.1) ?_
            refine rsl (ptI_q (z := e) (ck_65 g.1.1) rfl) ?_
            have gC : CT (sI Mc 65 14 (iI e)) := g.1.1.fr (W := [(65, 14)]) (Fr.sI (by decide) Fr.r)
            refine rsl (ptI_q (z := 0) (ck_65 gC) li_0) ?_
            obtain ⟨hcE, hiE⟩ := gE.sc rfl
            dsimp only at hcE hiE
            obtain ⟨ME, hMEq⟩ : ∃ z, z = sI (sI Mc 65 14 (iI e)) 65 16 (iI 0) := ⟨_, rfl⟩
            rw [← hMEq] at gE hwE hME g14 hwF hcE ⊢
            refine rsl (gtI_q (ck_65 gE.1.1) hcE.2.1) ?_
            refine rsl (jn_v) ?_
            refine rsl (jn_v) ?_
            have mutq : ∀ {k : Int32 → XA} {y : XA}, (∀ w, w = iI (if kd i = 207 ∨ kd i = 206 then 1 else 0) → Rs (k w) y (fun _ Mc' _ Mr' => MOQ T n m kd pl E tx N TT ex M0c M0r p ut i Mc' Mr')) → Rs (if iI (kd i) = ((207 : Int32)) then jv (fun s44 => k ((1 : Int32))) () else gtI (7, 20) ME (some 65) 13 fun x45 => if x45 = ((206 : Int32)) then jv (fun s44 => k ((1 : Int32))) () else k ((0 : Int32))) y (fun _ Mc' _ Mr' => MOQ T n m kd pl E tx N TT ex M0c M0r p ut i Mc' Mr') := fun {k y} hk => by
              by_cases z : kd i = 207
              · exact rsl (if_pos (eqI_p rfl li_207 z)) (rsl (jv_e) (hk _ (by rw [if_pos (Or.inl z)]; exact li_1)))
              · refine rsl (if_neg (eqI_n rfl li_207 (by omega))) ?_
                refine rsl (gtI_q (ck_65 gE.1.1) hcE.2.1) ?_
                by_cases z2 : kd i = 206
                · exact rsl (if_pos (eqI_p rfl li_206 z2)) (rsl (jv_e) (hk _ (by rw [if_pos (Or.inr z2)]; exact li_1)))
                · exact rsl (if_neg (eqI_n rfl li_206 (by omega))) (hk _ (by rw [if_neg (by omega)]; exact li_0))
            refine mutq fun x0 hx0 => ?_
            refine rsl (jv_e) ?_
            refine rsl (gtI_q (ck_65 gE.1.1) hcE.2.1) ?_
            refine rsl (jn_v) ?_
            have q0 : RQ T n 2500 m kd pl E tx M0r Mr p ut cnt e sr u dq Mr R (i, 0, 0) := q.re
            by_cases c207 : kd i = 207
            ·
              refine rsl (if_pos (eqI_p rfl li_207 c207)) ?_
              have pk : kr (kd i) = 407 := by rw [c207]; decide +kernel
              refine rsl (vC_e (ck_65 gE.1.1)) ?_
              refine rsr (cI_e (z184_1 (by omega) rfl li_403 li_407 (by omega))) ?_
              refine rsr (jn_v) ?_
              refine rsr (if_neg (eqI_n (x := 1) (y := 0) rfl li_0 (by omega))) ?_
              refine rsr (vC_e (rk_160 q.1.1)) ?_
              rw [if_pos (Or.inl c207)] at hx0
              refine Rs_r (fun_pair (lo := lo) (by omega) (by omega) hS gE q0 rfl hwE g14 hE hH hG hME (by unfold CB at nB ⊢; omega) (by dsimp only; omega) n2 n3 n4 n5 hp hv hx0 c207 hx hx2 hlo) fun v M w N hq => ?_
              refine rsr ((cV_e rfl).trans jv_e) ?_
              exact Rs.seq (Rt.ok (Rt.ok hq))
            ·
              refine rsl (if_neg (eqI_n rfl li_207 (by omega))) ?_
              have k207 : kr (kd i) ≠ 407 := kr_n hok (by unfold KdOK; omega) (by decide +kernel) c207
              refine rsl (gtI_q (ck_65 gE.1.1) hcE.2.1) ?_
              refine rsl (jn_v) ?_
              have lo0 : lo = 0 := by omega
              refine rsr (cI_e (z184_0 (by omega) rfl li_403 li_407 (by omega))) ?_
              refine rsr (jn_v) ?_
              refine rsr (if_pos (eqI_p rfl li_0 rfl)) ?_
              refine rsr (jn_v) ?_
              refine rsr (jn_v) ?_
              refine rsr (if_pos (eqI_p hx2 li_0 lo0)) ?_
              refine rsr (gtI_q (rk_160 q.1.1) hr.1) ?_
              obtain ⟨h51, hh51⟩ : ∃ z, z = sI Mr 160 51 (iI 0) := ⟨_, rfl⟩
              have qF : RQ T n 2500 m kd pl E tx M0r h51 p ut cnt e 0 u dq h51 R (i, 0, 0) := by rw [hh51]; exact (q.s51 (s2 := 0) (L := L)).re
              rw [← hh51] at hwF
              by_cases c206 : kd i = 206
              ·
                refine rsl (if_pos (eqI_p rfl li_206 c206)) ?_
                have pk : kr (kd i) = 408 := by rw [c206]; decide +kernel
                refine rsl (jv_e) ?_
                have hs := gE.2.2.2.1
                have lu := hs.2.1 1 (by omega) (by omega)
                have p1 := hs.1.2.2.1 1 (by omega) (by omega)
                have n109 := hs.n109 (k := 1) (by omega) (by omega)
                refine rsl (gtP_q (ck_65 gE.1.1) p1) ?_
                refine rsl (gtP_q (ck_65 gE.1.1) p1) ?_
                refine rsl (vC_e lu.1.2.1) ?_
                refine rsl (cI_e (ls_size (by omega) lu)) ?_
                refine rsl (vC_e lu.1.2.1) ?_
                refine rsl (cP_e (ls_get (j := hEN H 1 - 1) (by omega) lu (sbI rfl li_1) (by omega))) ?_
                obtain ⟨⟨u1, u2, u3⟩, u4, u5, u6⟩ := hs.2.2.2 (hEN H 1 - 1) (by omega) (by omega)
                refine rsl (cst_e u1) ?_
                refine rsl (vC_e (ck_65 gE.1.1)) ?_
                rw [hub]
                refine rsr (cI_e (z184_1 (by omega) rfl li_408 li_411 (by omega))) ?_
                refine rsr (jn_v) ?_
                refine rsr (if_neg (eqI_n (x := 1) (y := 0) rfl li_0 (by omega))) ?_
                refine rsr (jv_e) ?_
                refine rsr (jv_e) ?_
                refine rsr (vC_e (rk_160 q.1.1)) ?_
                refine rsr (cI_e (ar193_p (by omega) hS q.1.1 hr.1 hr.2.1 hr.2.2.2.1 li_1 ⟨hi9.1, hi9.2, by omega, rfl⟩)) ?_
                refine rsr (if_neg (eqI_n (x := 1) (y := 0) rfl li_0 (by omega))) ?_
                refine rsr (gtI_q (rk_160 q.1.1) hr.1) ?_
                refine rsr (gtI_q (rk_160 q.1.1) q.2.2.2.2.2.1) ?_
                refine rsr (ltI_q (z := 8 * p + ut) (adI (mlI li_8 hv) rfl)) ?_
                refine rsr (ptI_q (z := 0) (rk_160 q.1.1) li_0) ?_
                rw [← hh51]
                refine rsr (if_pos (eqI_p rfl li_408 pk)) ?_
                rw [show (if kd i = 207 ∨ kd i = 206 then (1 : Int) else 0) = 1 from if_pos (Or.inr c206)] at hx0
                exact start_pair (fun M => jv_e) rfl (by omega) (by omega) hS gE qF rfl hwF g14 hE hH hG hME (by unfold CB at nB ⊢; omega) (by dsimp only; omega) n2 n3 n4 n5 hp hv hx0 c206
              ·
                refine rsl (if_neg (eqI_n rfl li_206 (by omega))) ?_
                have k206 : kr (kd i) ≠ 408 := kr_n hok (by unfold KdOK; omega) (by decide +kernel) c206
                refine rsl (gtI_q (ck_65 gE.1.1) hcE.2.1) ?_
                by_cases c208 : kd i = 208
                ·
                  refine rsl (if_pos (eqI_p rfl li_208 c208)) ?_
                  have pk : kr (kd i) = 409 := by rw [c208]; decide +kernel
                  refine rsl (jv_e) ?_
                  have hs := gE.2.2.2.1
                  have lu := hs.2.1 1 (by omega) (by omega)
                  have p1 := hs.1.2.2.1 1 (by omega) (by omega)
                  have n109 := hs.n109 (k := 1) (by omega) (by omega)
                  refine rsl (gtP_q (ck_65 gE.1.1) p1) ?_
                  refine rsl (gtP_q (ck_65 gE.1.1) p1) ?_
                  refine rsl (vC_e lu.1.2.1) ?_
                  refine rsl (cI_e (ls_size (by omega) lu)) ?_
                  refine rsl (vC_e lu.1.2.1) ?_
                  refine rsl (cP_e (ls_get (j := hEN H 1 - 1) (by omega) lu (sbI rfl li_1) (by omega))) ?_
                  obtain ⟨⟨u1, u2, u3⟩, u4, u5, u6⟩ := hs.2.2.2 (hEN H 1 - 1) (by omega) (by omega)
                  refine rsl (cst_e u1) ?_
                  refine rsl (vC_e (ck_65 gE.1.1)) ?_
                  rw [hub]
                  refine rsr (cI_e (z184_1 (by omega) rfl li_408 li_411 (by omega))) ?_
                  refine rsr (jn_v) ?_
                  refine rsr (if_neg (eqI_n (x := 1) (y := 0) rfl li_0 (by omega))) ?_
                  refine rsr (jv_e) ?_
                  refine rsr (jv_e) ?_
                  refine rsr (vC_e (rk_160 q.1.1)) ?_
                  refine rsr (cI_e (ar193_p (by omega) hS q.1.1 hr.1 hr.2.1 hr.2.2.2.1 li_1 ⟨hi9.1, hi9.2, by omega, rfl⟩)) ?_
                  refine rsr (if_neg (eqI_n (x := 1) (y := 0) rfl li_0 (by omega))) ?_
                  refine rsr (gtI_q (rk_160 q.1.1) hr.1) ?_
                  refine rsr (gtI_q (rk_160 q.1.1) q.2.2.2.2.2.1) ?_
                  refine rsr (ltI_q (z := 8 * p + ut) (adI (mlI li_8 hv) rfl)) ?_
                  refine rsr (ptI_q (z := 0) (rk_160 q.1.1) li_0) ?_
                  rw [← hh51]
                  refine rsr (if_neg (eqI_n rfl li_408 (by omega))) ?_
                  refine rsr (if_pos (eqI_p rfl li_409 pk)) ?_
                  rw [show (if kd i = 207 ∨ kd i = 206 then (1 : Int) else 0) = 0 from if_neg (by omega)] at hx0
                  exact before_pair (fun M => jv_e) rfl (by omega) (by omega) hS gE qF rfl hwF g14 hE hH hG hME (by unfold CB at nB ⊢; omega) (by dsimp only; omega) n2 n3 n4 n5 hp hv hx0 c208
                ·
                  refine rsl (if_neg (eqI_n rfl li_208 (by omega))) ?_
                  have k208 : kr (kd i) ≠ 409 := kr_n hok (by unfold KdOK; omega) (by decide +kernel) c208
                  refine rsl (gtI_q (ck_65 gE.1.1) hcE.2.1) ?_
                  by_cases c209 : kd i = 209
                  ·
                    refine rsl (if_pos (eqI_p rfl li_209 c209)) ?_
                    have pk : kr (kd i) = 410 := by rw [c209]; decide +kernel
                    refine rsl (jv_e) ?_
                    have hs := gE.2.2.2.1
                    have lu := hs.2.1 1 (by omega) (by omega)
                    have p1 := hs.1.2.2.1 1 (by omega) (by omega)
                    have n109 := hs.n109 (k := 1) (by omega) (by omega)
                    refine rsl (gtP_q (ck_65 gE.1.1) p1) ?_
                    refine rsl (gtP_q (ck_65 gE.1.1) p1) ?_
                    refine rsl (vC_e lu.1.2.1) ?_
                    refine rsl (cI_e (ls_size (by omega) lu)) ?_
                    refine rsl (vC_e lu.1.2.1) ?_
                    refine rsl (cP_e (ls_get (j := hEN H 1 - 1) (by omega) lu (sbI rfl li_1) (by omega))) ?_
                    obtain ⟨⟨u1, u2, u3⟩, u4, u5, u6⟩ := hs.2.2.2 (hEN H 1 - 1) (by omega) (by omega)
                    refine rsl (cst_e u1) ?_
                    refine rsl (vC_e (ck_65 gE.1.1)) ?_
                    rw [hub]
                    refine rsr (cI_e (z184_1 (by omega) rfl li_408 li_411 (by omega))) ?_
                    refine rsr (jn_v) ?_
                    refine rsr (if_neg (eqI_n (x := 1) (y := 0) rfl li_0 (by omega))) ?_
                    refine rsr (jv_e) ?_
                    refine rsr (jv_e) ?_
                    refine rsr (vC_e (rk_160 q.1.1)) ?_
                    refine rsr (cI_e (ar193_p (by omega) hS q.1.1 hr.1 hr.2.1 hr.2.2.2.1 li_1 ⟨hi9.1, hi9.2, by omega, rfl⟩)) ?_
                    refine rsr (if_neg (eqI_n (x := 1) (y := 0) rfl li_0 (by omega))) ?_
                    refine rsr (gtI_q (rk_160 q.1.1) hr.1) ?_
                    refine rsr (gtI_q (rk_160 q.1.1) q.2.2.2.2.2.1) ?_
                    refine rsr (ltI_q (z := 8 * p + ut) (adI (mlI li_8 hv) rfl)) ?_
                    refine rsr (ptI_q (z := 0) (rk_160 q.1.1) li_0) ?_
                    rw [← hh51]
                    refine rsr (if_neg (eqI_n rfl li_408 (by omega))) ?_
                    refine rsr (if_neg (eqI_n rfl li_409 (by omega))) ?_
                    refine rsr (if_pos (eqI_p rfl li_410 pk)) ?_
                    rw [show (if kd i = 207 ∨ kd i = 206 then (1 : Int) else 0) = 0 from if_neg (by omega)] at hx0
                    exact after_pair (fun M => jv_e) rfl (by omega) (by omega) hS gE qF rfl hwF g14 hE hH hG hME (by unfold CB at nB ⊢; omega) (by dsimp only; omega) n2 n3 n4 n5 hp hv hx0 c209
                  ·
                    refine rsl (if_neg (eqI_n rfl li_209 (by omega))) ?_
                    have k209 : kr (kd i) ≠ 410 := kr_n hok (by unfold KdOK; omega) (by decide +kernel) c209
                    rw [show (if kd i = 207 ∨ kd i = 206 then (1 : Int) else 0) = 0 from if_neg (by omega)] at hx0
                    refine rsl (gtI_q (ck_65 gE.1.1) hcE.2.1) ?_
                    by_cases c210 : kd i = 210
                    ·
                      refine rsl (if_pos (eqI_p rfl li_210 c210)) ?_
                      have pk : kr (kd i) = 411 := by rw [c210]; decide +kernel
                      refine rsl (vC_e (ck_65 gE.1.1)) ?_
                      refine rsr (cI_e (z184_1 (by omega) rfl li_408 li_411 (by omega))) ?_
                      refine rsr (jn_v) ?_
                      refine rsr (if_neg (eqI_n (x := 1) (y := 0) rfl li_0 (by omega))) ?_
                      refine rsr (jv_e) ?_
                      refine rsr (jv_e) ?_
                      refine rsr (vC_e (rk_160 q.1.1)) ?_
                      refine rsr (cI_e (ar193_p (by omega) hS q.1.1 hr.1 hr.2.1 hr.2.2.2.1 li_1 ⟨hi9.1, hi9.2, by omega, rfl⟩)) ?_
                      refine rsr (if_neg (eqI_n (x := 1) (y := 0) rfl li_0 (by omega))) ?_
                      refine rsr (gtI_q (rk_160 q.1.1) hr.1) ?_
                      refine rsr (gtI_q (rk_160 q.1.1) q.2.2.2.2.2.1) ?_
                      refine rsr (ltI_q (z := 8 * p + ut) (adI (mlI li_8 hv) rfl)) ?_
                      refine rsr (ptI_q (z := 0) (rk_160 q.1.1) li_0) ?_
                      rw [← hh51]
                      refine rsr (if_neg (eqI_n rfl li_408 (by omega))) ?_
                      refine rsr (if_neg (eqI_n rfl li_409 (by omega))) ?_
                      refine rsr (if_neg (eqI_n rfl li_410 (by omega))) ?_
                      refine rsr (if_pos (eqI_p rfl li_411 pk)) ?_
                      refine rsr (vC_e (rk_160 qF.1.1)) ?_
                      refine Rs_r (test_pair (by omega) (by omega) hS gE qF rfl hwF g14 hE hH hG hME (by unfold CB at nB ⊢; omega) (by dsimp only; omega) n2 n3 n4 n5 hp hv hx0 c210) fun v M w N hq => ?_
                      refine rsr ((cV_e rfl).trans jv_e) ?_
                      exact Rs.seq (Rt.ok (Rt.ok hq))
                    ·
                      refine rsl (if_neg (eqI_n rfl li_210 (by omega))) ?_
                      have k210 : kr (kd i) ≠ 411 := kr_n hok (by unfold KdOK; omega) (by decide +kernel) c210
                      refine rsl (gtI_q (ck_65 gE.1.1) hcE.2.1) ?_
                      by_cases c214 : kd i = 214
                      ·
                        refine rsl (if_pos (eqI_p rfl li_214 c214)) ?_
                        have pk : kr (kd i) = 415 := by rw [c214]; decide +kernel
                        refine rsl (vC_e (ck_65 gE.1.1)) ?_
                        refine rsr (cI_e (z184_0 (by omega) rfl li_408 li_411 (by omega))) ?_
                        refine rsr (jn_v) ?_
                        refine rsr (if_pos (eqI_p rfl li_0 rfl)) ?_
                        refine rsr (gtI_q (rk_160 q.1.1) hr.1) ?_
                        refine rsr (if_pos (eqI_p rfl li_415 pk)) ?_
                        refine rsr (jv_e) ?_
                        refine rsr (jv_e) ?_
                        refine rsr (vC_e (rk_160 q.1.1)) ?_
                        refine rsr (cI_e (ar193_p (by omega) hS q.1.1 hr.1 hr.2.1 hr.2.2.2.1 li_1 ⟨hi9.1, hi9.2, by omega, rfl⟩)) ?_
                        refine rsr (if_neg (eqI_n (x := 1) (y := 0) rfl li_0 (by omega))) ?_
                        refine rsr (gtI_q (rk_160 q.1.1) hr.1) ?_
                        refine rsr (gtI_q (rk_160 q.1.1) q.2.2.2.2.2.1) ?_
                        refine rsr (ltI_q (z := 8 * p + ut) (adI (mlI li_8 hv) rfl)) ?_
                        refine rsr (ptI_q (z := 0) (rk_160 q.1.1) li_0) ?_
                        rw [← hh51]
                        refine rsr (if_neg (eqI_n rfl li_408 (by omega))) ?_
                        refine rsr (if_neg (eqI_n rfl li_409 (by omega))) ?_
                        refine rsr (if_neg (eqI_n rfl li_410 (by omega))) ?_
                        refine rsr (if_neg (eqI_n rfl li_411 (by omega))) ?_
                        refine rsr (vC_e (rk_160 qF.1.1)) ?_
                        refine Rs_r (prop_pair (by omega) (by omega) hS gE qF rfl hwF g14 hE hH hG hME (by unfold CB at nB ⊢; omega) (by dsimp only; omega) n2 n3 n4 n5 hp hv hx0 c214) fun v M w N hq => ?_
                        refine rsr ((cV_e rfl).trans jv_e) ?_
                        exact Rs.seq (Rt.ok (Rt.ok hq))
                      ·
                        refine rsl (if_neg (eqI_n rfl li_214 (by omega))) ?_
                        have k214 : kr (kd i) ≠ 415 := kr_n hok (by unfold KdOK; omega) (by decide +kernel) c214
                        refine rsl (vC_e (ck_65 gE.1.1)) ?_
                        refine Rs.seq (Rc_V (cq62 (by omega) hS gE.1.1 gE.1.2 gE.2.2.2.2 (by unfold CB at nB ⊢; omega) li_2 (by omega)) fun v M1 p1 => ?_)
                        have g1 := gE.cp p1 tX_s
                        have g1p := g1.pos (tX_n (by omega))
                        refine rs1 (cV_e rfl) ?_
                        refine rs1 (jv_e) ?_
                        refine (ftail (by omega) g1 g1p (g1.2.1.2.trans g14) (by omega) hx0 (by omega)).mono fun v Mz ⟨_, hz⟩ => ?_
                        refine rs1 (cI_e (z184_0 (by omega) rfl li_408 li_411 (by omega))) ?_
                        refine rs1 (jn_v) ?_
                        refine rs1 (if_pos (eqI_p rfl li_0 rfl)) ?_
                        refine rs1 (gtI_q (rk_160 q.1.1) hr.1) ?_
                        refine rs1 (if_neg (eqI_n rfl li_415 (by omega))) ?_
                        refine rs1 (jv_e) ?_
                        refine rs1 (jv_e) ?_
                        refine rs1 (vC_e (rk_160 q.1.1)) ?_
                        obtain ⟨Mq, q1, q2⟩ := q193n (d := d) (b := 2500) (by omega) hS q.1.1 hr hm (by omega) hi9 li_0
                        have hq := q.rp q2 (fun _ => rfl)
                        rw [show ((i, if kd i = 1 then 1 else 2, pl i) : TS) = tX kd pl 2 (i, 0, 0) from (if_pos rfl).symm] at hq
                        refine rs1 (cI_e q1) ?_
                        refine rs1 (if_pos (eqI_p rfl li_0 rfl)) ?_
                        refine rs1 (jv_e) ?_
                        exact Rt.ok (MOQ.ft hz g1p n2.1 hq (by omega))
theorem member_pair (hdl : 941 ≤ dl) (hd : 941 ≤ d) (hS : TkS T n m kd pl E tx) (mo : MO T n m kd pl E tx N TT ex M0c M0r p ut i Mc Mr G U X L H R e s u uc cnt dq) (hp : 0 ≤ p ∧ p ≤ 7) (hv : v = iI p) : Rs (runX dl 77 [va_rf (some 65)] Mc) (runX d 221 [va_rf (some 160), .int v] Mr) (fun _ Mc' _ Mr' => MOQ T n m kd pl E tx N TT ex M0c M0r p ut i Mc' Mr') := by
  have mo0 := mo
  obtain ⟨nB, n1, n2, n3, n4, n5⟩ := mo.nb
  obtain ⟨g, ⟨sr, q⟩, hw, hbd, hE, hH, hG, hM⟩ := mo
  obtain ⟨hc, hi⟩ := g.sc rfl
  obtain ⟨hr, hm, hi9⟩ := q.sr rfl
  dsimp only at hc hr hi hi9
  have hok : KdOK (kd i) := hS.ok i hi.1 hi.2
  have hkb : 0 ≤ kd i ∧ kd i < 300 := by have := hok; unfold KdOK sgk at this; omega
  obtain ⟨dl, rfl⟩ : ∃ e, dl = e + 1 := ⟨dl - 1, by omega⟩
  obtain ⟨d, rfl⟩ : ∃ e, d = e + 1 := ⟨d - 1, by omega⟩
  rw [r77, r221]; unfold b77 b221; rw [aR_e, aZ_e, aR_e, aI_e, aZ_e]; unfold c77 c221
  refine rsl (gtI_q (ck_65 g.1.1) hc.2.1) ?_
  refine rsl (jn_v) ?_
  refine rsr (gtI_q (rk_160 q.1.1) hr.1) ?_
  refine rsr (jn_v) ?_
  by_cases c : kd i = 201
  · refine rsl (if_pos (eqI_p rfl li_201 c)) ?_
    refine rsl (jv_e) ?_
    refine rsl (jn_v) ?_
    refine rsl (if_neg (eqI_n li_1 li_0 (by omega))) ?_
    refine rsl (vC_e (ck_65 g.1.1)) ?_
    refine rsr (if_pos (krI_p (k := 201) rfl li_402 c (by decide +kernel))) ?_
    refine rsr (jv_e) ?_
    refine rsr (jn_v) ?_
    refine rsr (if_neg (eqI_n li_1 li_0 (by omega))) ?_
    refine rsr (vC_e (rk_160 q.1.1)) ?_
    obtain ⟨vl, M3, e3, p3⟩ := cq63 (d := dl) (by omega) hS g.1.1 g.1.2 g.2.2.2.2 (fun _ => hS.more i hi.1 hi.2 ⟨by omega, by omega⟩)
    refine rsl (cV_e e3) ?_
    refine RrV (q191 (by omega) hS q.1 q.2.2.2.2.1 (by omega) (fun _ => by dsimp only; omega)) fun w M4 p4 => ?_
    refine rsr (cV_e rfl) ?_
    have g3 := g.cp p3 tA_s
    have q4 := q.rp p4 tA_s
    rw [show tA ((i, 0, 0) : TS) = (i + 1, 0, 0) from if_pos rfl] at g3 q4
    have fc := g3.2.2.1 rfl
    obtain ⟨-, i1, i2⟩ := g3.sc rfl
    dsimp only at i1 i2
    have hb' := hbd
    unfold BD at hb'
    have mo4 : MO T n m kd pl E tx N TT ex M0c M0r p ut (i + 1) M3 M4 G U X L H R e s u uc cnt dq := ⟨g3.re, ⟨_, q4.re⟩, hw.mv fc (q4.2.2.1 rfl) (fun jj p1 p2 => absurd p2 (by omega)) (fun jj p1 p2 => absurd p2 (by omega)), by unfold BD; omega, hE, hH, hG, fun j a b => (fc.c 75 ⟨by decide, by omega⟩ _).trans (hM j a b)⟩
    refine rsl (jv_e) ?_
    refine rsr (jv_e) ?_
    exact Rs.mono (mem2 (lo := 1) (by omega) (by omega) hS mo4 hp hv li_1 li_1 (by omega)) fun _ _ _ _ h => h.lt (by omega)
  · refine rsl (if_neg (eqI_n rfl li_201 (by omega))) ?_
    refine rsl (jv_e) ?_
    refine rsl (jn_v) ?_
    refine rsl (if_pos (eqI_p li_0 li_0 rfl)) ?_
    refine rsl (jv_e) ?_
    refine rsr (if_neg (krI_n (k := 201) rfl li_402 hok (by unfold KdOK; omega) (by decide +kernel) c (by omega))) ?_
    refine rsr (jv_e) ?_
    refine rsr (jn_v) ?_
    refine rsr (if_pos (eqI_p li_0 li_0 rfl)) ?_
    refine rsr (jv_e) ?_
    exact mem2 (lo := 0) (by omega) (by omega) hS mo0 hp hv li_0 li_0 (by omega)
end S68
