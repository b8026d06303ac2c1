/-! a member's code: both -/
def tail77 (rec : Nat → List Value → Mem → XA) (x : Int32) : Mem → XA := fun s19 => vC (7, 20) s19 (some 65) <| cV (rec 89 [va_rf (some 65), .int ((0 : Int32))] s19) fun M20 => gtI (7, 20) M20 (some 65) 14 fun x21 => lp (c77_264 rec (some 65) (jv fun s5 => some (.null, s5)) x) 4294967296 (x21, M20)
/-- a FAULT: the first object, the reference -/
def CFt (m : Int) (kd pl : Int → Int) (tx : Int → Int64) (N TT ex : Nat) (M0c : Mem) (ut F P : Int) (Mc : Mem) : Prop := ∃ (H : HG) (t : TS) (e s uc : Int), (t.2.1 = F ∧ t.2.2 = P ∧ 1 ≤ F) ∧ hEN H 1 = ut + 1 ∧ CQ m kd pl tx N TT ex M0c Mc e s uc Mc H t
def RFt (T : Int → Int) (n p : Int) (M0r : Mem) (F P : Int) (Mr : Mem) : Prop := RX T n Mr ∧ Fr W_mr M0r Mr ∧ KP p M0r Mr ∧ FTr 2510 F P Mr
/-- a member has been read by both, behind token i0 -/
def MO (T : Int → Int) (n m : Int) (kd pl E : Int → Int) (tx : Int → Int64) (N TT ex : Nat) (M0c M0r : Mem) (p ut i : Int) (Mc Mr : Mem) (G U : Nat → Int → Int) (X : Nat → Int → Int64) (L : Int → Int64) (H : HG) (R : RG) (e s u uc cnt dq : Int) : Prop := CQ m kd pl tx N TT ex M0c Mc e s uc Mc H (i, 0, 0) ∧ (∃ sr, RQ T n 2500 m kd pl E tx M0r Mr p ut cnt e sr u dq Mr R (i, 0, 0)) ∧ RW Mc Mr G U L X e 0 u uc ∧ BD m i e s u uc 0 ∧ e ≤ 1000 ∧ HRK G e H R ut cnt ∧ DGK G U X e u ∧ CMK Mc G e
def MOQ (T : Int → Int) (n m : Int) (kd pl E : Int → Int) (tx : Int → Int64) (N TT ex : Nat) (M0c M0r : Mem) (p ut i0 : Int) (Mc Mr : Mem) : Prop := (∃ (i : Int) (G U : Nat → Int → Int) (X : Nat → Int → Int64) (L : Int → Int64) (H : HG) (R : RG) (e s u uc cnt dq : Int), i0 < i ∧ MO T n m kd pl E tx N TT ex M0c M0r p ut i Mc Mr G U X L H R e s u uc cnt dq) ∨ ∃ F P : Int, CFt m kd pl tx N TT ex M0c ut F P Mc ∧ RFt T n p M0r F P Mr
section S59
variable {d d' : Nat} {T : Int → Int} {n m b b2 a e s u uc dp dq i i0 f K c lo ki r v j p ut cnt cn0 j0 z F P mu cb : Int} {kd pl E : Int → Int} {tx : Int → Int64} {M0 M1 M M2 M0c M0r Mc Mr M1c M1r : Mem} {R R' R0 : RG} {t t2 : TS} {v0 v1 v2 w0 x : Int32} {L : Int → Int64} {k : Nat} {W : List (Nat × Nat)} {N TT ex : Nat} {H H0 : HG} {G U : Nat → Int → Int} {X : Nat → Int → Int64}
theorem CQ.al75 (h : CQ m kd pl tx N TT ex M0 M1 e s uc M H t) (f : Fr [(75, 9999)] M M2) : CQ m kd pl tx N TT ex M0 M2 e s uc M2 H t := by
  have g : ∀ j, M2.1 65 j = M.1 65 j := fun j => f.i 65 j (by rfl)
  refine ⟨⟨h.1.1.fr f, h.1.2.fr f (by decide)⟩, ⟨h.2.1.1.tr ((f.n h.nn (by decide)).m (by decide)), rfl⟩, fun _ => FN.z ⟨h.nn.1, by rw [f.lq]; exact h.nn.2⟩, h.2.2.2.1.fr f (by decide), ?_⟩
  rcases h.2.2.2.2 with ⟨h0, ⟨a1, a2, a3, a4, a5, a6⟩, hb⟩ | ⟨h1, i, sz, sn, u2, b1, b2, b3, b4, b5, b6, b7, b8⟩
  · exact Or.inl ⟨h0, ⟨(g _).trans a1, (g _).trans a2, (g _).trans a3, (g _).trans a4, (g _).trans a5, (g _).trans a6⟩, hb⟩
  · exact Or.inr ⟨h1, i, sz, sn, u2, (g _).trans b1, (g _).trans b2, (g _).trans b3, (g _).trans b4, (g _).trans b5, (g _).trans b6, (g _).trans b7, b8⟩
/-- which codes may be altered -/
theorem alt77 (hC : CT M) (h9 : M.1 65 9 = iI e) (he : 0 ≤ e ∧ e ≤ 4096) (hb : 0 ≤ b ∧ b ≤ 4096) (hx : x = iI mu) (hmu : 0 ≤ mu ∧ mu ≤ 1) {Q : Value → Mem → Prop} (hk : ∀ M2, Fr [(75, 9999)] M M2 → (∀ j, b ≤ j → j < e → M2.1 75 j.toNat = iI mu) → (∀ j, 0 ≤ j → j < b → M2.1 75 j.toNat = M.1 75 j.toNat) → Rt (some (.null, M2)) Q) {w : Int32} (hw : w = iI b) : Rt (lp (c77_264 (runX d) (some 65) (jv fun s5 => some (.null, s5)) x) 4294967296 (w, M)) Q := by
  refine Rt.lp (fun mm q => ∃ i : Int, q.1 = iI i ∧ (b ≤ i ∧ (i ≤ e ∨ i = b)) ∧ Fr [(75, 9999)] M q.2 ∧ (∀ j, b ≤ j → j < i → q.2.1 75 j.toNat = iI mu) ∧ (∀ j, 0 ≤ j → j < b → q.2.1 75 j.toNat = M.1 75 j.toNat) ∧ mm = (e - i).toNat) (fun mm q go hq hgo => ?_) (e - b).toNat _ _ (by omega) ⟨b, hw, by omega, Fr.r, fun j p q => by omega, fun _ _ _ => rfl, rfl⟩
  obtain ⟨q1, M3⟩ := q
  obtain ⟨i, hi, ib, f, h1, h2, hm⟩ := hq
  dsimp only at hi f h1 h2
  unfold c77_264
  dsimp only
  have hC3 := hC.fr f
  refine rs1 (gtI_q (ck_65 hC3) ((f.i _ _ (by decide)).trans h9)) ?_
  by_cases c : e ≤ i
  · refine rs1 (if_pos (leI_p rfl hi (by omega))) ?_
    refine rs1 (jv_e) ?_
    exact hk _ f (fun j p q => h1 j p (by omega)) h2
  · refine rs1 (if_neg (leI_n rfl hi (by omega))) ?_
    refine rs1 (gtP_q (w := some 75) (ck_65 hC3) (cf_65_8 hC3)) ?_
    refine rs1 (asI_q (n := 4096) (z := i) (y := mu) (ck_75 hC3) hi (by omega) (znar_e hx hmu)) ?_
    refine rs1 (ltI_q (z := i + 1) (adI hi li_1)) ?_
    refine hgo (e - (i + 1)).toNat _ (by omega) ⟨i + 1, rfl, by omega, Fr.sI (inW_c (by decide) _) f, fun j p q => ?_, fun j p q => (sI_nej (by omega)).trans (h2 j p q), rfl⟩
    by_cases y : j = i
    · rw [y]; exact sI_eq
    · exact (sI_nej (by omega)).trans (h1 j p (by omega))
theorem ftail (hd : 5 ≤ d) (h : CQ m kd pl tx N TT ex M0c M1c e s uc Mc H t) (h1 : 1 ≤ t.2.1) (h14 : Mc.1 65 14 = iI cb) (hcb : 0 ≤ cb ∧ cb ≤ 4096) (hx : x = iI mu) (hmu : 0 ≤ mu ∧ mu ≤ 1) : Rt (tail77 (runX d) x Mc) (fun v M2 => v = .null ∧ CQ m kd pl tx N TT ex M0c M2 e s uc M2 H t) := by
  unfold tail77
  refine rs1 (vC_e (ck_65 h.1.1)) ?_
  obtain ⟨z, -⟩ | ⟨-, i5, sz, sn, u5, b13, b10, b11, b12, b9, b16, b19, bb⟩ := h.2.2.2.2
  · omega
  · refine Rc_V (y89 (by omega) h.1.1 h.1.2 b12 b13 b10 b11 b9 b16 b19 li_0 (by omega)) fun v M3 p3 => ?_
    have g3 := h.ff (e2 := e) (s2 := s) (uc2 := uc) h1 (CP.flt h1 (by omega) p3)
    refine rs1 (cV_e rfl) ?_
    obtain ⟨x1, x2, x3, f3, x5, x6, x7, x8, x9, x10, x11, y1, -⟩ := p3
    refine rs1 (gtI_q (ck_65 g3.1.1) ((f3.i _ _ (by decide)).trans h14)) ?_
    exact alt77 g3.1.1 x5 y1 hcb hx hmu (fun M2 f _ _ => Rt.ok ⟨rfl, g3.al75 f⟩) rfl
theorem RQ.fl (h : RQ T n b m kd pl E tx M0 M1 p ut cnt e s u dp M R t) (h1 : 1 ≤ t.2.1) (hb : b ≤ 2510) : RFt T n p M0 t.2.1 t.2.2 M := by
  obtain ⟨g1, g2, -, ⟨-, g5⟩, g6, -⟩ := h
  rcases g6 with z | ⟨-, -, em, sn, us, mu, ut, b1, b2, b3, b4, b5, b6, b7, b8⟩
  · exact absurd z.1 (by omega)
  · exact ⟨g1, g2, g5, em, sn, us, mu, ut, b1, b2, b3, b4, b5, b6, b7, by omega⟩
/-- the reference's code behind a FAULT -/
theorem r218f (hd : 2 ≤ d) (q : RQ T n b m kd pl E tx M0r M1r p ut cnt e s u dp Mr R t) (h1 : 1 ≤ t.2.1) (hb : b ≤ 2500) (hw0 : w0 = iI mu) (hmu : 0 ≤ mu ∧ mu ≤ 1) : Rt (runX d 218 [va_rf (some 160), .int w0] Mr) (fun v M2 => ∃ rv, v = .int (iI rv) ∧ RQ T n 2510 m kd pl E tx M0r M2 p ut cnt e s u dp M2 R t) := by
  obtain ⟨z, -⟩ | ⟨-, h6, em, sn, us, mu2, ut2, g41, g42, g43, g51, g53, g48, g49, gb⟩ := q.2.2.2.2.1
  · omega
  · refine (x218_s hd q.1.1 g41 g42 g43 g51 g53 g48 g49 hw0 (by omega)).mono fun v M2 ⟨rv, emq, muq, e1, f, c43, c48, c41, c42, c51, c53, c1, c2⟩ => ⟨rv, e1, ?_⟩
    obtain ⟨a1, a2, a3, ⟨a4, a5⟩, a6, a7, a8⟩ := q
    exact ⟨a1.fr f (by decide), Fr.t a2 (Fr.m f (by decide)), fun z => absurd z (by omega), ⟨a4.fr f (by decide), a5.fr f (by decide)⟩, Or.inr ⟨h1, h6, emq, sn, us, muq, ut2, c41, c42, c43, c51, c53, c48, (f.i _ _ (by decide)).trans g49, by omega⟩, (f.i _ _ (by decide)).trans a7, (f.i _ _ (by decide)).trans a8⟩
theorem blk {Kr : Int32 → Mem → XA} {Q : Value → Mem → Value → Mem → Prop} (hd : 912 ≤ d) (hd' : 912 ≤ d') (hS : TkS T n m kd pl E tx) (g : CQ m kd pl tx N TT ex M0c M1c e s uc Mc H (i, 0, 0)) (q : RQ T n 2500 m kd pl E tx M0r M1r p ut cnt e s u dp Mr R (i, 0, 0)) (hw : RW Mc Mr G U L X e s u uc) (hbd : BD m i e s u uc 0) (h14 : Mc.1 65 14 = iI e) (hmu : 0 ≤ mu ∧ mu ≤ 1) (hx : x = iI mu) (hw0 : w0 = iI mu) (hu1 : hEN H 1 = ut + 1) (hut : 0 ≤ ut ∧ ut ≤ 7) (hE : e ≤ 1000) (hH : HRK G e H0 R0 ut cn0) (hG : DGK G U X e u) (hM : CMK Mc G e) (hok : ∀ Mc' Mr' G' U' X' i' e' u' uc', i < i' → CQ m kd pl tx N TT ex M0c Mc' e' s uc' Mc' H (i', 0, 0) → RQ T n 2500 m kd pl E tx M0r Mr' p ut cnt e' s u' 0 Mr' R (i', 0, 0) → RW Mc' Mr' G' U' L X' e' s u' uc' → BD m i' e' s u' uc' 0 → e ≤ e' ∧ e' ≤ 1000 → EnT G' e' e s → HRK G' e' H0 R0 ut cn0 → DGK G' U' X' e' u' → CMK Mc' G' e' → Rt (Kr (iI e) Mr') (fun w Mr2 => Q .null Mc' w Mr2)) (hft : ∀ Mc' Mr' (t : TS), 1 ≤ t.2.1 → CQ m kd pl tx N TT ex M0c Mc' e s uc Mc' H t → RQ T n 2510 m kd pl E tx M0r Mr' p ut cnt e s u dp Mr' R t → Rt (Kr (iI e) Mr') (fun w Mr2 => Q .null Mc' w Mr2)) : Rs (tail77 (runX d) x Mc) (cI (runX d' 218 [va_rf (some 160), .int w0] Mr) Kr) Q := by
  obtain ⟨hc, hi⟩ := g.sc rfl
  obtain ⟨hr, hm, -⟩ := q.sr rfl
  have hs1 := g.2.2.2.1
  have l1 := hs1.2.1 1 (by omega) (by omega)
  have hbd' := hbd
  unfold BD at hbd'
  unfold tail77
  refine rsl (vC_e (ck_65 g.1.1)) ?_
  have hcx : Cx0 T n m kd pl tx (hCL H 1) ut Mc Mr := ⟨g.1.1, q.1.1, g.1.2, q.1.2.1, q.1.2.2, ⟨l1.1.1, hs1.1.2.2.1 1 (by omega) (by omega), l1.1.2.1, by rw [← hu1]; exact l1.2.1⟩, q.2.2.2.2.2.1, hut⟩
  refine Rb_VI (pairs_M d d' hd hd' T n m kd pl E tx (hCL H 1) ut mu Mc Mr G U L X i e s u uc dp _ _ hS hcx hmu hc hr hw hbd h14 li_0 hw0) fun v Mc1 w Mr1 ⟨hwe, hpm⟩ => ?_
  subst hwe
  refine rsl (cV_e rfl) ?_
  refine rsr (cI_e rfl) ?_
  rcases hpm with ⟨i', e', u', uc', G', U', X', fc, fr, sc, sr, rw', bd, ⟨mv1, mv2, mv3, mv4, mv5, mv6⟩, ag, au, ax, ty, du, ku, ⟨z1, z2, z3, z4, z5, z6, z7, z8, z9, z10⟩⟩ | ⟨F, P, fc, fr, tc, tr⟩
  · have bd' := bd
    unfold BD at bd'
    have hC1 := g.1.1.fr fc
    refine rsl (gtI_q (ck_65 hC1) ((fc.i _ _ (by decide)).trans h14)) ?_
    refine Rs.seq (alt77 hC1 sc.2.2.2.1 (by omega) (by omega) hx hmu (fun M2 f75 n1 n2 => Rt.ok ?_) rfl)
    have g1 : CQ m kd pl tx N TT ex M0c Mc1 e' s uc' Mc1 H (i', 0, 0) := ⟨⟨hC1, g.1.2.fr fc (by decide)⟩, ⟨g.2.1.1.tr ((fc.n g.nn (by decide)).m Wcp_m), rfl⟩, fun _ => FN.z ⟨g.nn.1, by rw [fc.lq]; exact g.nn.2⟩, hs1.fr fc (by decide), Or.inl ⟨rfl, sc, by omega⟩⟩
    have g2 := g1.al75 f75
    obtain ⟨a1, a2, a3, ⟨a4, a5⟩, a6, a7, a8⟩ := q
    have q2 : RQ T n 2500 m kd pl E tx M0r Mr1 p ut cnt e' s u' 0 Mr1 R (i', 0, 0) := ⟨a1.fr fr (by decide), Fr.t a2 (Fr.m fr (by decide)), fun _ => Fr.r, ⟨a4.fr fr (by decide), a5.fr fr (by decide)⟩, Or.inl ⟨rfl, sr, ⟨mu, ut, z10, (fr.i _ _ (by decide)).trans a7, by omega⟩, by omega⟩, (fr.i _ _ (by decide)).trans a7, (fr.i _ _ (by decide)).trans a8⟩
    obtain ⟨r1, r2, r3, r4, r5, r6⟩ := rw'
    refine hok M2 Mr1 G' U' X' i' e' u' uc' mv1 g2 q2 ⟨r1.fr f75 (by decide), r2, r3.fr f75 (by decide), r4, r5.fr f75 (by decide), r6⟩ bd ⟨mv2, z3⟩ (EnT.of ty (by omega) (by omega) (by omega) z4 z5 z6 z7) (hH.gr ag mv2 fun k p q => (du.2.2 k p q).1.1) (hG.gr ag au ax (by omega) du (by omega) ty (by omega) z4 z6 z9) fun j p q => ?_
    by_cases y : j < e
    · rw [n2 j p y, ag 5 j y]
      exact (fc.c _ (by decide) _).trans (hM j p y)
    · rw [n1 j (by omega) q, (du.2.2 j (by omega) q).1.2]
  · have hC1 := g.1.1.fr fc
    refine rsl (gtI_q (ck_65 hC1) ((fc.i _ _ (by decide)).trans h14)) ?_
    obtain ⟨ti, tz, tn, tu, t1, t2, t3, t4, t5, t6, t7, tb⟩ := tc
    refine Rs.seq (alt77 hC1 t5 (by omega) (by omega) hx hmu (fun M2 f75 n1 n2 => Rt.ok ?_) rfl)
    have g1 : CQ m kd pl tx N TT ex M0c Mc1 e s uc Mc1 H (0, F, P) := ⟨⟨hC1, g.1.2.fr fc (by decide)⟩, ⟨g.2.1.1.tr ((fc.n g.nn (by decide)).m Wcp_m), rfl⟩, fun _ => FN.z ⟨g.nn.1, by rw [fc.lq]; exact g.nn.2⟩, hs1.fr fc (by decide), Or.inr ⟨tb.2.2.2.1, ti, tz, tn, tu, t1, t2, t3, t4, t5, t6, t7, tb⟩⟩
    have g2 := g1.al75 f75
    obtain ⟨a1, a2, a3, ⟨a4, a5⟩, a6, a7, a8⟩ := q
    obtain ⟨em, rn, us, rm, ru, s1, s2, s3, s4, s5, s6, s7, sb⟩ := tr
    have q2 : RQ T n 2510 m kd pl E tx M0r Mr1 p ut cnt e s u dp Mr1 R (0, F, P) := ⟨a1.fr fr (by decide), Fr.t a2 (Fr.m fr (by decide)), fun _ => Fr.r, ⟨a4.fr fr (by decide), a5.fr fr (by decide)⟩, Or.inr ⟨tb.2.2.2.1, tb.2.2.2.2.1, em, rn, us, rm, ru, s1, s2, s3, s4, s5, s6, s7, by omega⟩, (fr.i _ _ (by decide)).trans a7, (fr.i _ _ (by decide)).trans a8⟩
    exact hft M2 Mr1 (0, F, P) tb.2.2.2.1 g2 q2
end S59
