/-! members: the reference's side -/
def W_mr : List (Nat × Nat) := [(160, 36), (160, 37), (160, 38), (160, 39), (160, 40), (160, 41), (160, 42), (160, 43), (160, 48), (160, 50), (160, 51), (160, 53), (160, 62), (195, 9999), (196, 9999), (197, 9999), (198, 9999), (199, 9999), (200, 9999), (201, 9999), (202, 9999), (203, 9999), (204, 9999), (205, 9999), (206, 9999), (207, 9999), (160, 49), (160, 64), (162, 9999), (163, 9999), (164, 9999), (165, 9999), (166, 9999), (167, 9999), (168, 9999), (169, 9999), (170, 9999), (171, 9999), (172, 9999), (173, 9999), (174, 9999), (175, 9999), (176, 9999), (177, 9999), (178, 9999), (179, 9999), (180, 9999), (181, 9999), (182, 9999), (184, 9999), (185, 9999), (186, 9999), (187, 9999), (208, 9999)]
def W_mk : List (Nat × Nat) := [(160, 36), (160, 37), (160, 38), (160, 39), (160, 40), (160, 41), (160, 42), (160, 62), (160, 49), (160, 51), (160, 64), (199, 9999), (162, 9999), (163, 9999), (164, 9999), (165, 9999), (166, 9999), (167, 9999), (168, 9999), (169, 9999), (170, 9999), (171, 9999), (172, 9999), (173, 9999), (174, 9999), (175, 9999), (176, 9999), (177, 9999), (178, 9999), (179, 9999), (180, 9999), (181, 9999), (182, 9999), (184, 9999), (185, 9999), (186, 9999), (187, 9999), (208, 9999)]
def RQ (T : Int → Int) (n b m : Int) (kd pl E : Int → Int) (tx : Int → Int64) (M0 M1 : Mem) (p ut cnt e s u dp : Int) (M : Mem) (R : RG) (t : TS) : Prop := RX T n M ∧ Fr W_mr M0 M ∧ (t.2.1 = 0 → Fr W_mk M1 M) ∧ (RR M p R ∧ KP p M0 M) ∧ RS b m kd pl E tx e s u dp M t ∧ M.1 160 49 = iI ut ∧ M.1 160 64 = iI cnt
section S57
variable {d : Nat} {T : Int → Int} {n m b a e s u dp i f K c lo ki r v j p ut cnt st j0 z : Int} {kd pl E : Int → Int} {tx : Int → Int64} {M0 M1 M M2 : Mem} {R R' : RG} {t t2 : TS} {v0 v1 v2 : Int32} {L : Int → Int64} {k : Nat} {W : List (Nat × Nat)} {X : Int64}
theorem rsF_p {f k : Nat} : (rsF R k f j v).1 k f j = v := if_pos ⟨rfl, rfl, rfl⟩
theorem rsF_n {f k f' k' : Nat} {j' : Int} (h : ¬ (k' = k ∧ f' = f ∧ j' = j)) : (rsF R k f j v).1 k' f' j' = R.1 k' f' j' := if_neg h
theorem rsX_p {k : Nat} : (rsX R k j X).2 k j = X := if_pos ⟨rfl, rfl⟩
theorem rsX_n {k k' : Nat} {j' : Int} (h : ¬ (k' = k ∧ j' = j)) : (rsX R k j X).2 k' j' = R.2 k' j' := if_neg h
theorem frone {a i : Nat} {v : Int32} : Fr [(a, 9999)] M (sI M a i v) := Fr.sI (inW_c (List.mem_singleton.mpr rfl) _) Fr.r
theorem fronl {a i : Nat} {v : Int64} : Fr [(a, 9999)] M (sL M a i v) := Fr.sL (inW_c (List.mem_singleton.mpr rfl) _) Fr.r
/-- rows apart from 160 -/
theorem RS.fr (h : RS b m kd pl E tx e s u dp M t) (f : Fr W M M2) (w : ∀ z, z ∈ W → z.1 ≠ 160) : RS b m kd pl E tx e s u dp M2 t := by
  have g : ∀ j, M2.1 160 j = M.1 160 j := fun j => f.c 160 w j
  have gl : ∀ j, M2.2.1 160 j = M.2.1 160 j := fun j => f.lc 160 w j
  rcases h with ⟨h0, ⟨a1, a2, a3, a4, a5, a6, a7, a8, a9, a10⟩, ⟨mu, ut, c1, c2, c3⟩, hb⟩ | ⟨h1, h6, em, sn, us, mu, ut, b1, b2, b3, b4, b5, b6, b7, b8⟩
  · exact Or.inl ⟨h0, ⟨(g _).trans a1, (g _).trans a2, (g _).trans a3, (g _).trans a4, (g _).trans a5, (g _).trans a6, (g _).trans a7, (g _).trans a8, fun z => (gl _).trans (a9 z), fun z => (g _).trans (a10 z)⟩, ⟨mu, ut, (g _).trans c1, (g _).trans c2, c3⟩, hb⟩
  · exact Or.inr ⟨h1, h6, em, sn, us, mu, ut, (g _).trans b1, (g _).trans b2, (g _).trans b3, (g _).trans b4, (g _).trans b5, (g _).trans b6, (g _).trans b7, b8⟩
theorem rTI_w : ∀ q, q ∈ rTI → q.1 ≠ 160 ∧ q.1 ≠ 161 ∧ q.1 ≠ 194 ∧ (q.1, 9999) ∈ W_mr ∧ (q.1, 9999) ∈ W_mk := by decide
theorem rTL_w : ∀ q, q ∈ rTL → q.1 ≠ 160 ∧ q.1 ≠ 161 ∧ q.1 ≠ 194 ∧ (q.1, 9999) ∈ W_mr ∧ (q.1, 9999) ∈ W_mk := by decide
theorem RX.one {a : Nat} (h : RX T n M) (f : Fr [(a, 9999)] M M2) (w : a ≠ 160 ∧ a ≠ 161 ∧ a ≠ 194) : RX T n M2 := h.fr f ⟨fun z y e => (by rw [List.mem_singleton.mp y] at e; cases e), fun z y => by rw [List.mem_singleton.mp y]; exact ⟨w.2.1, w.2.2⟩, fun z y e => by rw [List.mem_singleton.mp y] at e; cases e; exact w.1 rfl⟩
/-- a number of a row is written -/
theorem RQ.si {cc st f k : Nat} (h : RQ T n b m kd pl E tx M0 M1 p ut cnt e s u dp M R t) (hp : 0 ≤ p) (w : (cc, (st : Int), k, f) ∈ rTI) (hj : 0 ≤ j0 ∧ j0 < st) (hi : i = st * p + j0) : RQ T n b m kd pl E tx M0 M1 p ut cnt e s u dp (sI M cc i.toNat (iI v)) (rsF R k f j0 v) t := by
  obtain ⟨h1, h2, h3, ⟨h4, h5⟩, h6, h7, h8⟩ := h
  have q := rTI_w _ w
  dsimp only at q
  exact ⟨h1.one frone ⟨q.1, q.2.1, q.2.2.1⟩, Fr.sI (inW_c q.2.2.2.1 _) h2, fun z => Fr.sI (inW_c q.2.2.2.2 _) (h3 z), ⟨h4.sI hp w hj hi, h5.sI hp w hj hi⟩, h6.fr (W := [(cc, 9999)]) (frone (v := iI v)) (fun z y => by rw [List.mem_singleton.mp y]; exact q.1), (sI_ne (Ne.symm q.1)).trans h7, (sI_ne (Ne.symm q.1)).trans h8⟩
theorem RQ.sl {cc st k : Nat} (h : RQ T n b m kd pl E tx M0 M1 p ut cnt e s u dp M R t) (hp : 0 ≤ p) (w : (cc, (st : Int), k) ∈ rTL) (hj : 0 ≤ j0 ∧ j0 < st) (hi : i = st * p + j0) : RQ T n b m kd pl E tx M0 M1 p ut cnt e s u dp (sL M cc i.toNat X) (rsX R k j0 X) t := by
  obtain ⟨h1, h2, h3, ⟨h4, h5⟩, h6, h7, h8⟩ := h
  have q := rTL_w _ w
  dsimp only at q
  exact ⟨h1.one fronl ⟨q.1, q.2.1, q.2.2.1⟩, Fr.sL (inW_c q.2.2.2.1 _) h2, fun z => Fr.sL (inW_c q.2.2.2.2 _) (h3 z), ⟨h4.sL hp w hj hi, h5.sL hp w hj hi⟩, h6.fr (W := [(cc, 9999)]) (fronl (v := X)) (fun z y => by rw [List.mem_singleton.mp y]; exact q.1), h7, h8⟩
theorem RQ.rp (h : RQ T n b m kd pl E tx M0 M1 p ut cnt e s u dp M R t) (q : RP b m kd pl E tx e s u dp M t2 M2) (hs : t2.2.1 = 0 → t.2.1 = 0) : RQ T n b m kd pl E tx M0 M1 p ut cnt e s u dp M2 R t2 := by
  obtain ⟨h1, h2, h3, ⟨h4, h5⟩, h6, h7, h8⟩ := h
  exact ⟨h1.fr q.2.1 (by decide), Fr.t h2 (Fr.m q.2.1 (by decide)), fun z => Fr.t (h3 (hs z)) (Fr.m (q.2.2 z) (by decide)), ⟨h4.fr q.2.1 (by decide), h5.fr q.2.1 (by decide)⟩, q.1, (q.2.1.i _ _ (by decide)).trans h7, (q.2.1.i _ _ (by decide)).trans h8⟩
theorem RQ.sr (h : RQ T n b m kd pl E tx M0 M1 p ut cnt e s u dp M R t) (h0 : t.2.1 = 0) : SR M kd pl E tx t.1 e s u dp ∧ RM M ∧ 0 ≤ t.1 ∧ t.1 < m := by
  rcases h.2.2.2.2.1 with z | z
  · exact z.2
  · exact absurd z.1 (by omega)
theorem RQ.pos (h : RQ T n b m kd pl E tx M0 M1 p ut cnt e s u dp M R t) (h0 : ¬ t.2.1 = 0) : 1 ≤ t.2.1 := by
  rcases h.2.2.2.2.1 with z | z
  · exact absurd z.1 h0
  · exact z.1
/-- what is the FAULT, in numbers -/
theorem RQ.n41 (h : RQ T n b m kd pl E tx M0 M1 p ut cnt e s u dp M R t) : ∃ F : Int, M.1 160 41 = iI F ∧ 0 ≤ F ∧ F ≤ 6 ∧ (F = 0 ↔ t.2.1 = 0) := by
  rcases h.2.2.2.2.1 with ⟨h0, a, -⟩ | ⟨h1, h6, em, sn, us, mu, ut, b1, -⟩
  · exact ⟨0, a.2.2.2.1, by omega, by omega, by omega⟩
  · exact ⟨t.2.1, b1, by omega, h6, by omega⟩
/-- how many members the unit has -/
theorem RQ.c64 (h : RQ T n b m kd pl E tx M0 M1 p ut cnt e s u dp M R t) : RQ T n b m kd pl E tx M0 M1 p ut c e s u dp (sI M 160 64 (iI c)) R t := by
  obtain ⟨h1, h2, h3, ⟨h4, h5⟩, h6, h7, h8⟩ := h
  have f : Fr [(160, 64)] M (sI M 160 64 (iI c)) := Fr.sI (by decide) Fr.r
  refine ⟨h1.fr f (by decide), Fr.t h2 (Fr.m f (by decide)), fun z => Fr.t (h3 z) (Fr.m f (by decide)), ⟨h4.fr f (by decide), h5.fr f (by decide)⟩, ?_, (sI_nej (by decide)).trans h7, sI_eq⟩
  rcases h6 with ⟨h0, ⟨a1, a2, a3, a4, a5, a6, a7, a8, a9, a10⟩, ⟨mu, ut, c1, c2, c3⟩, hb⟩ | ⟨h1, h6, em, sn, us, mu, ut, b1, b2, b3, b4, b5, b6, b7, b8⟩
  · exact Or.inl ⟨h0, ⟨(f.i _ _ (by decide)).trans a1, (f.i _ _ (by decide)).trans a2, (f.i _ _ (by decide)).trans a3, (f.i _ _ (by decide)).trans a4, (f.i _ _ (by decide)).trans a5, (f.i _ _ (by decide)).trans a6, (f.i _ _ (by decide)).trans a7, (f.i _ _ (by decide)).trans a8, a9, fun z => (f.i _ _ (by decide)).trans (a10 z)⟩, ⟨mu, ut, (f.i _ _ (by decide)).trans c1, (f.i _ _ (by decide)).trans c2, c3⟩, hb⟩
  · exact Or.inr ⟨h1, h6, em, sn, us, mu, ut, (f.i _ _ (by decide)).trans b1, (f.i _ _ (by decide)).trans b2, (f.i _ _ (by decide)).trans b3, (f.i _ _ (by decide)).trans b4, (f.i _ _ (by decide)).trans b5, (f.i _ _ (by decide)).trans b6, (f.i _ _ (by decide)).trans b7, b8⟩
/-- LOCALS from none on -/
theorem RQ.s51 {s2 : Int} {L : Int → Int64} (h : RQ T n b m kd pl E tx M0 M1 p ut cnt e s u dp M R t) : RQ T n b m kd pl E tx M0 M1 p ut cnt e s2 u dp (sI M 160 51 (iI s2)) R t := by
  obtain ⟨h1, h2, h3, ⟨h4, h5⟩, h6, h7, h8⟩ := h
  have f : Fr [(160, 51)] M (sI M 160 51 (iI s2)) := Fr.sI (by decide) Fr.r
  refine ⟨h1.fr f (by decide), Fr.t h2 (Fr.m f (by decide)), fun z => Fr.t (h3 z) (Fr.m f (by decide)), ⟨h4.fr f (by decide), h5.fr f (by decide)⟩, ?_, (sI_nej (by decide)).trans h7, (sI_nej (by decide)).trans h8⟩
  rcases h6 with ⟨h0, ⟨a1, a2, a3, a4, a5, a6, a7, a8, a9, a10⟩, ⟨mu, ut, c1, c2, c3⟩, hb⟩ | ⟨h1, h6, em, sn, us, mu, ut, b1, b2, b3, b4, b5, b6, b7, b8⟩
  · exact Or.inl ⟨h0, ⟨(f.i _ _ (by decide)).trans a1, (f.i _ _ (by decide)).trans a2, (f.i _ _ (by decide)).trans a3, (f.i _ _ (by decide)).trans a4, (f.i _ _ (by decide)).trans a5, sI_eq, (f.i _ _ (by decide)).trans a7, (f.i _ _ (by decide)).trans a8, a9, fun z => (f.i _ _ (by decide)).trans (a10 z)⟩, ⟨mu, ut, (f.i _ _ (by decide)).trans c1, (f.i _ _ (by decide)).trans c2, c3⟩, hb⟩
  · exact Or.inr ⟨h1, h6, em, s2, us, mu, ut, (f.i _ _ (by decide)).trans b1, (f.i _ _ (by decide)).trans b2, (f.i _ _ (by decide)).trans b3, sI_eq, (f.i _ _ (by decide)).trans b5, (f.i _ _ (by decide)).trans b6, (f.i _ _ (by decide)).trans b7, b8⟩
/-- what a new member is in the rows -/
def rM (R : RG) (x : Int64) (ut ki lo : Int) : RG := rsF (rsF (rsF (rsF (rsX (rsF R 2 0 0 (R.1 2 0 0 + 1)) 2 (R.1 2 0 0) x) 2 1 (R.1 2 0 0) ut) 2 2 (R.1 2 0 0) ki) 2 3 (R.1 2 0 0) lo) 2 5 (R.1 2 0 0) (-2)
theorem TdR.bd {y : Int64} (h : TdR R u y r) : r = 0 ∨ r = 1 := by
  rcases h with ⟨h, -⟩ | ⟨h, -⟩ <;> omega
theorem mr222v {bb : Int} (hd : 8 ≤ d) (hS : TkS T n m kd pl E tx) (h : RQ T n b m kd pl E tx M0 M1 p ut cnt e s u dp M R t) (h0 : t.2.1 = 0) (hv1 : v1 = iI p) (hp : 0 ≤ p ∧ p ≤ 7) (he : 0 ≤ e ∧ e ≤ b) (hb3 : b ≤ 3000) (hm14 : m ≤ 1400) (hcn : (0 ≤ R.1 2 0 0 ∧ R.1 2 0 0 ≤ 96) ∧ (0 ≤ R.1 3 0 0 ∧ R.1 3 0 0 ≤ 16) ∧ 0 ≤ R.1 4 0 0 ∧ R.1 4 0 0 ≤ 6) (htd : TdR R ut (tx (t.1 + 1)) r) (hk : kd t.1 = 202 + ki ∧ 0 ≤ ki ∧ ki ≤ 2) (hv2 : v2 = iI lo) (hlo : 0 ≤ lo ∧ lo ≤ 1) (hcb : 0 ≤ cnt ∧ cnt ≤ 12) (hb : (bb = 0 ∧ cnt < 12) ∨ (bb = 1 ∧ 12 ≤ cnt)) (hc96 : cnt < 12 → R.1 2 0 0 < 96) : Rt (runX d 222 [va_rf (some 160), .int v1, .int v2] M) (fun _ M2 => ∃ R2 cn2, RQ T n b m kd pl E tx M0 M1 p ut cn2 e s u dp M2 R2 (tE kd pl 59 (tS kd pl (tE kd pl 61 (tN kd pl r bb (t.1 + 1, 0, 0))))) ∧ (((tE kd pl 59 (tS kd pl (tE kd pl 61 (tN kd pl r bb (t.1 + 1, 0, 0)))))).2.1 = 0 → cn2 = cnt + 1 ∧ R2 = rsF (rM R (tx (t.1 + 1)) ut ki lo) 2 4 (R.1 2 0 0) (vSg kd tx (tE kd pl 61 (tN kd pl r bb (t.1 + 1, 0, 0)))))) := by
  have hkr : kr (kd t.1) = 403 + ki := by unfold kr wp; rw [if_neg (by omega), if_neg (by omega), if_neg (by omega), if_neg (by omega), if_pos (by omega), if_neg (by omega), if_neg (by omega)]; omega
  obtain ⟨d, rfl⟩ : ∃ e, d = e + 1 := ⟨d - 1, by omega⟩
  obtain ⟨hr, hm, hi⟩ := h.sr h0
  have hmo := hS.more t.1 hi.1 hi.2 ⟨by omega, by omega⟩
  rw [r222]; unfold b222; rw [aR_e, aI_e, aI_e, aZ_e]; unfold c222
  refine rs1 (gtI_q (rk_160 h.1.1) hr.1) ?_
  refine rs1 (ltI_q (z := ki) (cvI (sbI rfl li_403) (by omega))) ?_
  refine rs1 (vC_e (rk_160 h.1.1)) ?_
  refine Rc_V (q191 (by omega) hS h.1 h.2.2.2.2.1 hb3 (fun _ => ⟨by omega, by omega⟩)) fun v Mp p1 => ?_
  have h1 := h.rp p1 tA_s
  rw [show tA t = (t.1 + 1, 0, 0) from if_pos h0] at h1
  obtain ⟨hr1, hm1, hi1⟩ := h1.sr rfl
  refine rs1 (cV_e rfl) ?_
  refine rs1 (gtI_q (rk_160 h1.1.1) hr1.2.2.2.1) ?_
  refine rs1 (jn_v) ?_
  refine rs1 (if_pos (eqI_p rfl li_0 rfl)) ?_
  refine rs1 (gtI_q (rk_160 h1.1.1) hr1.1) ?_
  refine rs1 (jn_v) ?_
  by_cases k3 : kd (t.1 + 1) = 3
  ·
    refine rs1 (if_pos (krI_p (k := 3) rfl li_1 k3 (by decide +kernel))) ?_
    refine rs1 (jv_e) ?_
    refine rs1 (vC_e (rk_160 h1.1.1)) ?_
    refine rs1 (cI_e (ar193_p (by omega) hS h1.1.1 hr1.1 hr1.2.1 hr1.2.2.2.1 li_1 ⟨hi1.1, hi1.2, by dsimp only; omega, rfl⟩)) ?_
    refine rs1 (if_neg (eqI_n (x := 1) (y := 0) rfl li_0 (by omega))) ?_
    refine rs1 (gtL_q (rk_160 h1.1.1) (hr1.2.2.2.2.2.2.2.2.1 k3)) ?_
    refine rs1 (vC_e (rk_160 h1.1.1)) ?_
    refine Rc_I (a220 (by omega) h1.1.1 h1.2.2.2.1.1 hv1 hp hcn h1.2.2.2.2.2.1) fun v Mx ⟨r1, hvx, hMx, hrx⟩ => ?_
    have er := hrx.one htd
    subst hvx
    subst er
    rw [hMx]
    refine rs1 (cI_e rfl) ?_
    refine rs1 (jn_v) ?_
    by_cases cr : r1 = 1
    ·
      refine rs1 (if_neg (eqI_n rfl li_0 (by omega))) ?_
      refine rs1 (jv_e) ?_
      refine rs1 (vC_e (rk_160 h1.1.1)) ?_
      obtain ⟨Mq, q1, q2⟩ := q194n (d := d) (b := b) (f := 3) (by omega) hS h1.1.1 hr1 hm1 he hi1 li_0 li_3 (by omega)
      refine rs1 (cI_e q1) ?_
      refine rs1 (if_pos (eqI_p rfl li_0 rfl)) ?_
      refine rs1 (jv_e) ?_
      have hq := h1.rp q2 (fun _ => rfl)
      have hx : RQ T n b m kd pl E tx M0 M1 p ut cnt e s u dp Mq R (tN kd pl r1 bb (t.1 + 1, 0, 0)) := by rw [show tN kd pl r1 bb (t.1 + 1, 0, 0) = _ from (if_pos ⟨rfl, k3⟩).trans (if_pos cr)]; exact hq
      have hxn : ¬ (tN kd pl r1 bb (t.1 + 1, 0, 0)).2.1 = 0 := fun z => by rw [show tN kd pl r1 bb (t.1 + 1, 0, 0) = _ from (if_pos ⟨rfl, k3⟩).trans (if_pos cr)] at z; dsimp only at z; (try split at z) <;> omega
      have h1x := hx.pos hxn
      have fx : (tE kd pl 59 (tS kd pl (tE kd pl 61 (tN kd pl r1 bb (t.1 + 1, 0, 0))))) = (tN kd pl r1 bb (t.1 + 1, 0, 0)) := by rw [tE_f h1x, tS_f h1x, tE_f h1x]
      exact Rt.ok ⟨R, cnt, by rw [fx]; exact hx, fun z => absurd (by rw [← fx]; exact z) hxn⟩
    ·
      have r0 : r1 = 0 := by have := hrx.bd; omega
      refine rs1 (if_pos (eqI_p rfl li_0 r0)) ?_
      refine rs1 (jv_e) ?_
      refine rs1 (vC_e (rk_160 h1.1.1)) ?_
      refine rs1 (cI_e (ar194_p (by omega) hS h1.1.1 hr1.1 hr1.2.1 hr1.2.2.2.1 li_1 li_3 ⟨hi1.1, hi1.2, rfl⟩)) ?_
      refine rs1 (if_neg (eqI_n (x := 1) (y := 0) rfl li_0 (by omega))) ?_
      refine rs1 (gtI_q (rk_160 h1.1.1) h1.2.2.2.2.2.2) ?_
      refine rs1 (jn_v) ?_
      by_cases cb : 12 ≤ cnt
      ·
        refine rs1 (if_pos (leI_p li_12 rfl (by omega))) ?_
        refine rs1 (jv_e) ?_
        refine rs1 (vC_e (rk_160 h1.1.1)) ?_
        obtain ⟨Mq, q1, q2⟩ := q194n (d := d) (b := b) (f := 6) (by omega) hS h1.1.1 hr1 hm1 he hi1 li_0 li_6 (by omega)
        refine rs1 (cI_e q1) ?_
        refine rs1 (if_pos (eqI_p rfl li_0 rfl)) ?_
        refine rs1 (jv_e) ?_
        have hq := h1.rp q2 (fun _ => rfl)
        have hx : RQ T n b m kd pl E tx M0 M1 p ut cnt e s u dp Mq R (tN kd pl r1 bb (t.1 + 1, 0, 0)) := by rw [show tN kd pl r1 bb (t.1 + 1, 0, 0) = _ from (if_pos ⟨rfl, k3⟩).trans ((if_neg cr).trans (if_pos (by omega)))]; exact hq
        have hxn : ¬ (tN kd pl r1 bb (t.1 + 1, 0, 0)).2.1 = 0 := fun z => by rw [show tN kd pl r1 bb (t.1 + 1, 0, 0) = _ from (if_pos ⟨rfl, k3⟩).trans ((if_neg cr).trans (if_pos (by omega)))] at z; dsimp only at z; (try split at z) <;> omega
        have h1x := hx.pos hxn
        have fx : (tE kd pl 59 (tS kd pl (tE kd pl 61 (tN kd pl r1 bb (t.1 + 1, 0, 0))))) = (tN kd pl r1 bb (t.1 + 1, 0, 0)) := by rw [tE_f h1x, tS_f h1x, tE_f h1x]
        exact Rt.ok ⟨R, cnt, by rw [fx]; exact hx, fun z => absurd (by rw [← fx]; exact z) hxn⟩
      ·
        refine rs1 (if_neg (leI_n li_12 rfl (by omega))) ?_
        refine rs1 (jv_e) ?_
        refine rs1 (vC_e (rk_160 h1.1.1)) ?_
        refine rs1 (cI_e (ar194_p (by omega) hS h1.1.1 hr1.1 hr1.2.1 hr1.2.2.2.1 li_1 li_6 ⟨hi1.1, hi1.2, rfl⟩)) ?_
        refine rs1 (if_neg (eqI_n (x := 1) (y := 0) rfl li_0 (by omega))) ?_
        have eN : tN kd pl r1 bb (t.1 + 1, 0, 0) = (t.1 + 1 + 1, 0, 0) := (if_pos ⟨rfl, k3⟩).trans ((if_neg cr).trans (if_neg (by omega)))
        obtain ⟨c, hcE⟩ : ∃ c, c = R.1 2 0 0 := ⟨_, rfl⟩
        refine rs1 (gtP_q (w := some 169) (rk_160 h1.1.1) (rf_10 h1.1.1)) ?_
        refine rs1 (alI_q (n := 8) (z := p) (w := iI (R.1 2 0 0)) (rk_169 h1.1.1) hv1 (by omega) (h1.2.2.2.1.1.gi (st := 1) (by decide) ⟨by omega, by omega⟩ (by omega))) ?_
        refine rs1 (ltI_q (z := 96 * p + R.1 2 0 0) (adI (mlI li_96 hv1) rfl)) ?_
        refine rs1 (gtP_q (w := some 169) (rk_160 h1.1.1) (rf_10 h1.1.1)) ?_
        refine rs1 (alI_q (n := 8) (z := p) (w := iI (R.1 2 0 0)) (rk_169 h1.1.1) hv1 (by omega) (h1.2.2.2.1.1.gi (st := 1) (by decide) ⟨by omega, by omega⟩ (by omega))) ?_
        refine rs1 (asI_q (u := 100) (n := 8) (z := p) (y := (R.1 2 0 0 + 1)) (rk_169 h1.1.1) hv1 (by omega) (adI rfl li_1)) ?_
        have h2 := h1.si (cc := 169) (st := 1) (k := 2) (f := 0) (j0 := 0) (v := (R.1 2 0 0 + 1)) (i := p) hp.1 (by decide) (by omega) (by omega)
        refine rs1 (gtI_q (rk_160 h2.1.1) h2.2.2.2.2.2.2) ?_
        refine rs1 (ptI_q (z := cnt + 1) (rk_160 h2.1.1) (adI rfl li_1)) ?_
        have h3 := h2.c64 (c := cnt + 1)
        refine rs1 (gtP_q (w := some 170) (rk_160 h3.1.1) (rf_11 h3.1.1)) ?_
        refine rs1 (gtL_q (rk_160 h3.1.1) ((h3.sr rfl).1.2.2.2.2.2.2.2.2.1 k3)) ?_
        refine rs1 (asL_q (n := 768) (z := 96 * p + R.1 2 0 0) (w := tx (t.1 + 1)) (rk_170 h3.1.1) rfl (by omega) rfl) ?_
        have h4 := h3.sl (cc := 170) (st := 96) (k := 2) (j0 := R.1 2 0 0) (X := tx (t.1 + 1)) (i := 96 * p + R.1 2 0 0) hp.1 (by decide) (by omega) (by omega)
        refine rs1 (gtP_q (w := some 171) (rk_160 h4.1.1) (rf_12 h4.1.1)) ?_
        refine rs1 (gtI_q (rk_160 h4.1.1) h4.2.2.2.2.2.1) ?_
        refine rs1 (asI_q (u := 100) (n := 768) (z := 96 * p + R.1 2 0 0) (y := ut) (rk_171 h4.1.1) rfl (by omega) (rfl)) ?_
        have h5 := h4.si (cc := 171) (st := 96) (k := 2) (f := 1) (j0 := R.1 2 0 0) (v := ut) (i := 96 * p + R.1 2 0 0) hp.1 (by decide) (by omega) (by omega)
        refine rs1 (gtP_q (w := some 172) (rk_160 h5.1.1) (rf_13 h5.1.1)) ?_
        refine rs1 (asI_q (u := 100) (n := 768) (z := 96 * p + R.1 2 0 0) (y := ki) (rk_172 h5.1.1) rfl (by omega) (rfl)) ?_
        have h6 := h5.si (cc := 172) (st := 96) (k := 2) (f := 2) (j0 := R.1 2 0 0) (v := ki) (i := 96 * p + R.1 2 0 0) hp.1 (by decide) (by omega) (by omega)
        refine rs1 (gtP_q (w := some 173) (rk_160 h6.1.1) (rf_14 h6.1.1)) ?_
        refine rs1 (asI_q (u := 102) (n := 768) (z := 96 * p + R.1 2 0 0) (y := lo) (rk_173 h6.1.1) rfl (by omega) (znar_e hv2 hlo)) ?_
        have h7 := h6.si (cc := 173) (st := 96) (k := 2) (f := 3) (j0 := R.1 2 0 0) (v := lo) (i := 96 * p + R.1 2 0 0) hp.1 (by decide) (by omega) (by omega)
        refine rs1 (gtP_q (w := some 175) (rk_160 h7.1.1) (rf_16 h7.1.1)) ?_
        refine rs1 (asI_q (u := 100) (n := 768) (z := 96 * p + R.1 2 0 0) (y := (-2)) (rk_175 h7.1.1) rfl (by omega) (li_m2)) ?_
        have h8 := h7.si (cc := 175) (st := 96) (k := 2) (f := 5) (j0 := R.1 2 0 0) (v := (-2)) (i := 96 * p + R.1 2 0 0) hp.1 (by decide) (by omega) (by omega)
        refine rs1 (vC_e (rk_160 h8.1.1)) ?_
        refine Rc_V (q191 (by omega) hS h8.1 h8.2.2.2.2.1 hb3 (fun _ => ⟨by dsimp only; omega, by dsimp only; omega⟩)) fun v M9 p9 => ?_
        have h9 := h8.rp p9 tA_s
        rw [show tA ((t.1 + 1, 0, 0) : TS) = (t.1 + 1 + 1, 0, 0) from if_pos rfl, ← eN] at h9
        change RQ T n b m kd pl E tx M0 M1 p ut (cnt + 1) e s u dp M9 (rM R (tx (t.1 + 1)) ut ki lo) _ at h9
        refine rs1 (cV_e rfl) ?_
        refine rs1 (jn_v) ?_
        refine rs1 (if_neg (leI_n li_3 rfl (by omega))) ?_
        refine rs1 (vC_e (rk_160 h9.1.1)) ?_
        refine Rc_I (q195 (K := 61) (by omega) hS h9.1 h9.2.2.2.2.1 ⟨he.1, he.2, hb3⟩ li_61 (by unfold KdOK sgk; omega) (by decide +kernel) (by omega)) fun v Mha_ ⟨x_ha, hx_ha, q_ha⟩ => ?_
        subst hx_ha
        refine rs1 (cI_e rfl) ?_
        have ha := h9.rp q_ha tE_s
        refine rs1 (vC_e (rk_160 ha.1.1)) ?_
        refine Rc_V (q219 (by omega) hS ha.1 ha.2.2.2.2.1 ⟨he.1, he.2, hb3⟩ hm14) fun v Mb ⟨zb, q_b⟩ => ?_
        refine rs1 (cV_e rfl) ?_
        have hb_ := ha.rp q_b tS_s
        obtain ⟨z, hz62, hzv⟩ : ∃ z : Int, Mb.1 160 62 = iI z ∧ ((tS kd pl (tE kd pl 61 (tN kd pl r1 bb (t.1 + 1, 0, 0)))).2.1 = 0 → z = vSg kd tx (tE kd pl 61 (tN kd pl r1 bb (t.1 + 1, 0, 0)))) := by
          by_cases y : (tS kd pl (tE kd pl 61 (tN kd pl r1 bb (t.1 + 1, 0, 0)))).2.1 = 0
          · exact ⟨_, zb y, fun _ => rfl⟩
          · exact ⟨_, eV, fun w => absurd w y⟩
        refine rs1 (gtP_q (w := some 174) (rk_160 hb_.1.1) (rf_15 hb_.1.1)) ?_
        refine rs1 (gtI_q (rk_160 hb_.1.1) hz62) ?_
        refine rs1 (asI_q (u := 100) (n := 768) (z := 96 * p + R.1 2 0 0) (y := z) (rk_174 hb_.1.1) rfl (by omega) (rfl)) ?_
        have hc := hb_.si (cc := 174) (st := 96) (k := 2) (f := 4) (j0 := R.1 2 0 0) (v := z) (i := 96 * p + R.1 2 0 0) hp.1 (by decide) (by omega) (by omega)
        refine rs1 (vC_e (rk_160 hc.1.1)) ?_
        refine Rc_I (q195 (K := 59) (by omega) hS hc.1 hc.2.2.2.2.1 ⟨he.1, he.2, hb3⟩ li_59 (by unfold KdOK sgk; omega) (by decide +kernel) (by omega)) fun v Mhd__ ⟨x_hd_, hx_hd_, q_hd_⟩ => ?_
        subst hx_hd_
        refine rs1 (cI_e rfl) ?_
        have hd_ := hc.rp q_hd_ tE_s
        refine rs1 (jv_e) ?_
        exact Rt.ok ⟨_, _, hd_, fun y => ⟨rfl, by rw [hzv (tE_s y)]⟩⟩
  ·
    refine rs1 (if_neg (krI_n (k := 3) rfl li_1 (hS.ok (t.1 + 1) hi1.1 hi1.2) (by unfold KdOK; omega) (by decide +kernel) k3 (by omega))) ?_
    refine rs1 (jv_e) ?_
    refine rs1 (vC_e (rk_160 h1.1.1)) ?_
    obtain ⟨Mq, q1, q2⟩ := q193n (d := d) (b := b) (by omega) hS h1.1.1 hr1 hm1 he hi1 li_0
    refine rs1 (cI_e q1) ?_
    refine rs1 (if_pos (eqI_p rfl li_0 rfl)) ?_
    refine rs1 (jv_e) ?_
    have hq := h1.rp q2 (fun _ => rfl)
    have hx : RQ T n b m kd pl E tx M0 M1 p ut cnt e s u dp Mq R (tN kd pl r bb (t.1 + 1, 0, 0)) := by rw [show tN kd pl r bb (t.1 + 1, 0, 0) = _ from (if_neg fun z => k3 z.2).trans (if_pos rfl)]; exact hq
    have hxn : ¬ (tN kd pl r bb (t.1 + 1, 0, 0)).2.1 = 0 := fun z => by rw [show tN kd pl r bb (t.1 + 1, 0, 0) = _ from (if_neg fun z => k3 z.2).trans (if_pos rfl)] at z; dsimp only at z; (try split at z) <;> omega
    have h1x := hx.pos hxn
    have fx : (tE kd pl 59 (tS kd pl (tE kd pl 61 (tN kd pl r bb (t.1 + 1, 0, 0))))) = (tN kd pl r bb (t.1 + 1, 0, 0)) := by rw [tE_f h1x, tS_f h1x, tE_f h1x]
    exact Rt.ok ⟨R, cnt, by rw [fx]; exact hx, fun z => absurd (by rw [← fx]; exact z) hxn⟩
theorem mr222r {bb : Int} (hd : 8 ≤ d) (hS : TkS T n m kd pl E tx) (h : RQ T n b m kd pl E tx M0 M1 p ut cnt e s u dp M R t) (h0 : t.2.1 = 0) (hv1 : v1 = iI p) (hp : 0 ≤ p ∧ p ≤ 7) (he : 0 ≤ e ∧ e ≤ b) (hb3 : b ≤ 3000) (hm14 : m ≤ 1400) (hcn : (0 ≤ R.1 2 0 0 ∧ R.1 2 0 0 ≤ 96) ∧ (0 ≤ R.1 3 0 0 ∧ R.1 3 0 0 ≤ 16) ∧ 0 ≤ R.1 4 0 0 ∧ R.1 4 0 0 ≤ 6) (htd : TdR R ut (tx (t.1 + 1)) r) (hk : kd t.1 = 205 ∧ ki = 3) (hv2 : v2 = iI lo) (hlo : 0 ≤ lo ∧ lo ≤ 1) (hcb : 0 ≤ cnt ∧ cnt ≤ 12) (hb : (bb = 0 ∧ cnt < 12) ∨ (bb = 1 ∧ 12 ≤ cnt)) (hc96 : cnt < 12 → R.1 2 0 0 < 96) : Rt (runX d 222 [va_rf (some 160), .int v1, .int v2] M) (fun _ M2 => ∃ R2 cn2, RQ T n b m kd pl E tx M0 M1 p ut cn2 e s u dp M2 R2 (tE kd pl 59 (tE kd pl 93 (tM kd pl tx 1 50 (tE kd pl 91 (tN kd pl r bb (t.1 + 1, 0, 0)))))) ∧ (((tE kd pl 59 (tE kd pl 93 (tM kd pl tx 1 50 (tE kd pl 91 (tN kd pl r bb (t.1 + 1, 0, 0))))))).2.1 = 0 → cn2 = cnt + 1 ∧ R2 = rsF (rM R (tx (t.1 + 1)) ut ki lo) 2 4 (R.1 2 0 0) (nb tx (tE kd pl 91 (tN kd pl r bb (t.1 + 1, 0, 0))).1))) := by
  have hkr : kr (kd t.1) = 403 + ki := by unfold kr wp; rw [if_neg (by omega), if_neg (by omega), if_neg (by omega), if_neg (by omega), if_pos (by omega), if_neg (by omega), if_neg (by omega)]; omega
  obtain ⟨d, rfl⟩ : ∃ e, d = e + 1 := ⟨d - 1, by omega⟩
  obtain ⟨hr, hm, hi⟩ := h.sr h0
  have hmo := hS.more t.1 hi.1 hi.2 ⟨by omega, by omega⟩
  rw [r222]; unfold b222; rw [aR_e, aI_e, aI_e, aZ_e]; unfold c222
  refine rs1 (gtI_q (rk_160 h.1.1) hr.1) ?_
  refine rs1 (ltI_q (z := ki) (cvI (sbI rfl li_403) (by omega))) ?_
  refine rs1 (vC_e (rk_160 h.1.1)) ?_
  refine Rc_V (q191 (by omega) hS h.1 h.2.2.2.2.1 hb3 (fun _ => ⟨by omega, by omega⟩)) fun v Mp p1 => ?_
  have h1 := h.rp p1 tA_s
  rw [show tA t = (t.1 + 1, 0, 0) from if_pos h0] at h1
  obtain ⟨hr1, hm1, hi1⟩ := h1.sr rfl
  refine rs1 (cV_e rfl) ?_
  refine rs1 (gtI_q (rk_160 h1.1.1) hr1.2.2.2.1) ?_
  refine rs1 (jn_v) ?_
  refine rs1 (if_pos (eqI_p rfl li_0 rfl)) ?_
  refine rs1 (gtI_q (rk_160 h1.1.1) hr1.1) ?_
  refine rs1 (jn_v) ?_
  by_cases k3 : kd (t.1 + 1) = 3
  ·
    refine rs1 (if_pos (krI_p (k := 3) rfl li_1 k3 (by decide +kernel))) ?_
    refine rs1 (jv_e) ?_
    refine rs1 (vC_e (rk_160 h1.1.1)) ?_
    refine rs1 (cI_e (ar193_p (by omega) hS h1.1.1 hr1.1 hr1.2.1 hr1.2.2.2.1 li_1 ⟨hi1.1, hi1.2, by dsimp only; omega, rfl⟩)) ?_
    refine rs1 (if_neg (eqI_n (x := 1) (y := 0) rfl li_0 (by omega))) ?_
    refine rs1 (gtL_q (rk_160 h1.1.1) (hr1.2.2.2.2.2.2.2.2.1 k3)) ?_
    refine rs1 (vC_e (rk_160 h1.1.1)) ?_
    refine Rc_I (a220 (by omega) h1.1.1 h1.2.2.2.1.1 hv1 hp hcn h1.2.2.2.2.2.1) fun v Mx ⟨r1, hvx, hMx, hrx⟩ => ?_
    have er := hrx.one htd
    subst hvx
    subst er
    rw [hMx]
    refine rs1 (cI_e rfl) ?_
    refine rs1 (jn_v) ?_
    by_cases cr : r1 = 1
    ·
      refine rs1 (if_neg (eqI_n rfl li_0 (by omega))) ?_
      refine rs1 (jv_e) ?_
      refine rs1 (vC_e (rk_160 h1.1.1)) ?_
      obtain ⟨Mq, q1, q2⟩ := q194n (d := d) (b := b) (f := 3) (by omega) hS h1.1.1 hr1 hm1 he hi1 li_0 li_3 (by omega)
      refine rs1 (cI_e q1) ?_
      refine rs1 (if_pos (eqI_p rfl li_0 rfl)) ?_
      refine rs1 (jv_e) ?_
      have hq := h1.rp q2 (fun _ => rfl)
      have hx : RQ T n b m kd pl E tx M0 M1 p ut cnt e s u dp Mq R (tN kd pl r1 bb (t.1 + 1, 0, 0)) := by rw [show tN kd pl r1 bb (t.1 + 1, 0, 0) = _ from (if_pos ⟨rfl, k3⟩).trans (if_pos cr)]; exact hq
      have hxn : ¬ (tN kd pl r1 bb (t.1 + 1, 0, 0)).2.1 = 0 := fun z => by rw [show tN kd pl r1 bb (t.1 + 1, 0, 0) = _ from (if_pos ⟨rfl, k3⟩).trans (if_pos cr)] at z; dsimp only at z; (try split at z) <;> omega
      have h1x := hx.pos hxn
      have fx : (tE kd pl 59 (tE kd pl 93 (tM kd pl tx 1 50 (tE kd pl 91 (tN kd pl r1 bb (t.1 + 1, 0, 0)))))) = (tN kd pl r1 bb (t.1 + 1, 0, 0)) := by rw [tE_f h1x, tM_f h1x, tE_f h1x, tE_f h1x]
      exact Rt.ok ⟨R, cnt, by rw [fx]; exact hx, fun z => absurd (by rw [← fx]; exact z) hxn⟩
    ·
      have r0 : r1 = 0 := by have := hrx.bd; omega
      refine rs1 (if_pos (eqI_p rfl li_0 r0)) ?_
      refine rs1 (jv_e) ?_
      refine rs1 (vC_e (rk_160 h1.1.1)) ?_
      refine rs1 (cI_e (ar194_p (by omega) hS h1.1.1 hr1.1 hr1.2.1 hr1.2.2.2.1 li_1 li_3 ⟨hi1.1, hi1.2, rfl⟩)) ?_
      refine rs1 (if_neg (eqI_n (x := 1) (y := 0) rfl li_0 (by omega))) ?_
      refine rs1 (gtI_q (rk_160 h1.1.1) h1.2.2.2.2.2.2) ?_
      refine rs1 (jn_v) ?_
      by_cases cb : 12 ≤ cnt
      ·
        refine rs1 (if_pos (leI_p li_12 rfl (by omega))) ?_
        refine rs1 (jv_e) ?_
        refine rs1 (vC_e (rk_160 h1.1.1)) ?_
        obtain ⟨Mq, q1, q2⟩ := q194n (d := d) (b := b) (f := 6) (by omega) hS h1.1.1 hr1 hm1 he hi1 li_0 li_6 (by omega)
        refine rs1 (cI_e q1) ?_
        refine rs1 (if_pos (eqI_p rfl li_0 rfl)) ?_
        refine rs1 (jv_e) ?_
        have hq := h1.rp q2 (fun _ => rfl)
        have hx : RQ T n b m kd pl E tx M0 M1 p ut cnt e s u dp Mq R (tN kd pl r1 bb (t.1 + 1, 0, 0)) := by rw [show tN kd pl r1 bb (t.1 + 1, 0, 0) = _ from (if_pos ⟨rfl, k3⟩).trans ((if_neg cr).trans (if_pos (by omega)))]; exact hq
        have hxn : ¬ (tN kd pl r1 bb (t.1 + 1, 0, 0)).2.1 = 0 := fun z => by rw [show tN kd pl r1 bb (t.1 + 1, 0, 0) = _ from (if_pos ⟨rfl, k3⟩).trans ((if_neg cr).trans (if_pos (by omega)))] at z; dsimp only at z; (try split at z) <;> omega
        have h1x := hx.pos hxn
        have fx : (tE kd pl 59 (tE kd pl 93 (tM kd pl tx 1 50 (tE kd pl 91 (tN kd pl r1 bb (t.1 + 1, 0, 0)))))) = (tN kd pl r1 bb (t.1 + 1, 0, 0)) := by rw [tE_f h1x, tM_f h1x, tE_f h1x, tE_f h1x]
        exact Rt.ok ⟨R, cnt, by rw [fx]; exact hx, fun z => absurd (by rw [← fx]; exact z) hxn⟩
      ·
        refine rs1 (if_neg (leI_n li_12 rfl (by omega))) ?_
        refine rs1 (jv_e) ?_
        refine rs1 (vC_e (rk_160 h1.1.1)) ?_
        refine rs1 (cI_e (ar194_p (by omega) hS h1.1.1 hr1.1 hr1.2.1 hr1.2.2.2.1 li_1 li_6 ⟨hi1.1, hi1.2, rfl⟩)) ?_
        refine rs1 (if_neg (eqI_n (x := 1) (y := 0) rfl li_0 (by omega))) ?_
        have eN : tN kd pl r1 bb (t.1 + 1, 0, 0) = (t.1 + 1 + 1, 0, 0) := (if_pos ⟨rfl, k3⟩).trans ((if_neg cr).trans (if_neg (by omega)))
        obtain ⟨c, hcE⟩ : ∃ c, c = R.1 2 0 0 := ⟨_, rfl⟩
        refine rs1 (gtP_q (w := some 169) (rk_160 h1.1.1) (rf_10 h1.1.1)) ?_
        refine rs1 (alI_q (n := 8) (z := p) (w := iI (R.1 2 0 0)) (rk_169 h1.1.1) hv1 (by omega) (h1.2.2.2.1.1.gi (st := 1) (by decide) ⟨by omega, by omega⟩ (by omega))) ?_
        refine rs1 (ltI_q (z := 96 * p + R.1 2 0 0) (adI (mlI li_96 hv1) rfl)) ?_
        refine rs1 (gtP_q (w := some 169) (rk_160 h1.1.1) (rf_10 h1.1.1)) ?_
        refine rs1 (alI_q (n := 8) (z := p) (w := iI (R.1 2 0 0)) (rk_169 h1.1.1) hv1 (by omega) (h1.2.2.2.1.1.gi (st := 1) (by decide) ⟨by omega, by omega⟩ (by omega))) ?_
        refine rs1 (asI_q (u := 100) (n := 8) (z := p) (y := (R.1 2 0 0 + 1)) (rk_169 h1.1.1) hv1 (by omega) (adI rfl li_1)) ?_
        have h2 := h1.si (cc := 169) (st := 1) (k := 2) (f := 0) (j0 := 0) (v := (R.1 2 0 0 + 1)) (i := p) hp.1 (by decide) (by omega) (by omega)
        refine rs1 (gtI_q (rk_160 h2.1.1) h2.2.2.2.2.2.2) ?_
        refine rs1 (ptI_q (z := cnt + 1) (rk_160 h2.1.1) (adI rfl li_1)) ?_
        have h3 := h2.c64 (c := cnt + 1)
        refine rs1 (gtP_q (w := some 170) (rk_160 h3.1.1) (rf_11 h3.1.1)) ?_
        refine rs1 (gtL_q (rk_160 h3.1.1) ((h3.sr rfl).1.2.2.2.2.2.2.2.2.1 k3)) ?_
        refine rs1 (asL_q (n := 768) (z := 96 * p + R.1 2 0 0) (w := tx (t.1 + 1)) (rk_170 h3.1.1) rfl (by omega) rfl) ?_
        have h4 := h3.sl (cc := 170) (st := 96) (k := 2) (j0 := R.1 2 0 0) (X := tx (t.1 + 1)) (i := 96 * p + R.1 2 0 0) hp.1 (by decide) (by omega) (by omega)
        refine rs1 (gtP_q (w := some 171) (rk_160 h4.1.1) (rf_12 h4.1.1)) ?_
        refine rs1 (gtI_q (rk_160 h4.1.1) h4.2.2.2.2.2.1) ?_
        refine rs1 (asI_q (u := 100) (n := 768) (z := 96 * p + R.1 2 0 0) (y := ut) (rk_171 h4.1.1) rfl (by omega) (rfl)) ?_
        have h5 := h4.si (cc := 171) (st := 96) (k := 2) (f := 1) (j0 := R.1 2 0 0) (v := ut) (i := 96 * p + R.1 2 0 0) hp.1 (by decide) (by omega) (by omega)
        refine rs1 (gtP_q (w := some 172) (rk_160 h5.1.1) (rf_13 h5.1.1)) ?_
        refine rs1 (asI_q (u := 100) (n := 768) (z := 96 * p + R.1 2 0 0) (y := ki) (rk_172 h5.1.1) rfl (by omega) (rfl)) ?_
        have h6 := h5.si (cc := 172) (st := 96) (k := 2) (f := 2) (j0 := R.1 2 0 0) (v := ki) (i := 96 * p + R.1 2 0 0) hp.1 (by decide) (by omega) (by omega)
        refine rs1 (gtP_q (w := some 173) (rk_160 h6.1.1) (rf_14 h6.1.1)) ?_
        refine rs1 (asI_q (u := 102) (n := 768) (z := 96 * p + R.1 2 0 0) (y := lo) (rk_173 h6.1.1) rfl (by omega) (znar_e hv2 hlo)) ?_
        have h7 := h6.si (cc := 173) (st := 96) (k := 2) (f := 3) (j0 := R.1 2 0 0) (v := lo) (i := 96 * p + R.1 2 0 0) hp.1 (by decide) (by omega) (by omega)
        refine rs1 (gtP_q (w := some 175) (rk_160 h7.1.1) (rf_16 h7.1.1)) ?_
        refine rs1 (asI_q (u := 100) (n := 768) (z := 96 * p + R.1 2 0 0) (y := (-2)) (rk_175 h7.1.1) rfl (by omega) (li_m2)) ?_
        have h8 := h7.si (cc := 175) (st := 96) (k := 2) (f := 5) (j0 := R.1 2 0 0) (v := (-2)) (i := 96 * p + R.1 2 0 0) hp.1 (by decide) (by omega) (by omega)
        refine rs1 (vC_e (rk_160 h8.1.1)) ?_
        refine Rc_V (q191 (by omega) hS h8.1 h8.2.2.2.2.1 hb3 (fun _ => ⟨by dsimp only; omega, by dsimp only; omega⟩)) fun v M9 p9 => ?_
        have h9 := h8.rp p9 tA_s
        rw [show tA ((t.1 + 1, 0, 0) : TS) = (t.1 + 1 + 1, 0, 0) from if_pos rfl, ← eN] at h9
        change RQ T n b m kd pl E tx M0 M1 p ut (cnt + 1) e s u dp M9 (rM R (tx (t.1 + 1)) ut ki lo) _ at h9
        refine rs1 (cV_e rfl) ?_
        refine rs1 (jn_v) ?_
        refine rs1 (if_pos (leI_p li_3 rfl (by omega))) ?_
        refine rs1 (if_pos (eqI_p rfl li_3 (by omega))) ?_
        refine rs1 (vC_e (rk_160 h9.1.1)) ?_
        refine Rc_I (q195 (K := 91) (by omega) hS h9.1 h9.2.2.2.2.1 ⟨he.1, he.2, hb3⟩ li_91 (by unfold KdOK sgk; omega) (by decide +kernel) (by omega)) fun v Mha_ ⟨x_ha, hx_ha, q_ha⟩ => ?_
        subst hx_ha
        refine rs1 (cI_e rfl) ?_
        have ha := h9.rp q_ha tE_s
        obtain ⟨F, f41, fr1, fr2, fr3⟩ := ha.n41
        refine rs1 (gtI_q (rk_160 ha.1.1) f41) ?_
        refine rs1 (jn_v) ?_
        obtain ⟨t9, ht9⟩ : ∃ z, z = (tE kd pl 91 (tN kd pl r1 bb (t.1 + 1, 0, 0))) := ⟨_, rfl⟩
        rw [← ht9] at ha fr3
        -- ] and ;
        have fin : ∀ Mf R3, RQ T n b m kd pl E tx M0 M1 p ut (cnt + 1) e s u dp Mf R3 (tM kd pl tx 1 50 t9) → ((tM kd pl tx 1 50 t9).2.1 = 0 → R3 = rsF (rM R (tx (t.1 + 1)) ut ki lo) 2 4 (R.1 2 0 0) (nb tx t9.1)) → Rt (vC (13, 157) Mf (some 160) <| cI (runX d 195 [va_rf (some 160), .int ((93 : Int32))] Mf) fun x47 M46 => vC (13, 157) M46 (some 160) <| cI (runX d 195 [va_rf (some 160), .int ((59 : Int32))] M46) fun x49 M48 => some (.null, M48)) (fun _ M2 => ∃ R2 cn2, RQ T n b m kd pl E tx M0 M1 p ut cn2 e s u dp M2 R2 (tE kd pl 59 (tE kd pl 93 (tM kd pl tx 1 50 t9))) ∧ ((tE kd pl 59 (tE kd pl 93 (tM kd pl tx 1 50 t9))).2.1 = 0 → cn2 = cnt + 1 ∧ R2 = rsF (rM R (tx (t.1 + 1)) ut ki lo) 2 4 (R.1 2 0 0) (nb tx t9.1))) := fun Mf R3 hf hR3 => by
          refine rs1 (vC_e (rk_160 hf.1.1)) ?_
          refine Rc_I (q195 (K := 93) (by omega) hS hf.1 hf.2.2.2.2.1 ⟨he.1, he.2, hb3⟩ li_93 (by unfold KdOK sgk; omega) (by decide +kernel) (by omega)) fun v Mhg_ ⟨x_hg, hx_hg, q_hg⟩ => ?_
          subst hx_hg
          refine rs1 (cI_e rfl) ?_
          have hg := hf.rp q_hg tE_s
          refine rs1 (vC_e (rk_160 hg.1.1)) ?_
          refine Rc_I (q195 (K := 59) (by omega) hS hg.1 hg.2.2.2.2.1 ⟨he.1, he.2, hb3⟩ li_59 (by unfold KdOK sgk; omega) (by decide +kernel) (by omega)) fun v Mhh_ ⟨x_hh, hx_hh, q_hh⟩ => ?_
          subst hx_hh
          refine rs1 (cI_e rfl) ?_
          have hh := hg.rp q_hh tE_s
          exact Rt.ok ⟨R3, _, hh, fun y => ⟨rfl, hR3 (tE_s (tE_s y))⟩⟩
        rw [ht9] at fin
        by_cases c9 : t9.2.1 = 0
        ·
          obtain ⟨hrA, hmA, hiA⟩ := ha.sr c9
          refine rs1 (if_pos (eqI_p rfl li_0 (fr3.2 c9))) ?_
          refine rs1 (gtI_q (rk_160 ha.1.1) hrA.1) ?_
          refine rs1 (jn_v) ?_
          by_cases k4 : kd t9.1 = 4
          ·
            refine rs1 (if_pos (krI_p (k := 4) rfl li_2 k4 (by decide +kernel))) ?_
            refine rs1 (jv_e) ?_
            refine rs1 (vC_e (rk_160 ha.1.1)) ?_
            refine rs1 (cI_e (ar193_p (by omega) hS ha.1.1 hrA.1 hrA.2.1 hrA.2.2.2.1 li_1 ⟨hiA.1, hiA.2, by omega, rfl⟩)) ?_
            refine rs1 (if_neg (eqI_n (x := 1) (y := 0) rfl li_0 (by omega))) ?_
            have n40 : (_ : Mem).1 160 40 = iI (nb tx t9.1) := (hrA.2.2.2.2.2.2.2.2.2 k4).trans nb_e
            have nbr := nb_r hS ⟨hiA.1, hiA.2, k4⟩
            refine rs1 (gtI_q (rk_160 ha.1.1) n40) ?_
            by_cases cR : 1 ≤ nb tx t9.1 ∧ nb tx t9.1 ≤ 50
            ·
              refine rs1 (cI_e (z184_1 (by omega) (rfl) (li_1) (li_50) (by omega))) ?_
              refine rs1 (vC_e (rk_160 ha.1.1)) ?_
              refine rs1 (cI_e (ar194_p (by omega) hS ha.1.1 hrA.1 hrA.2.1 hrA.2.2.2.1 rfl li_5 ⟨hiA.1, hiA.2, rfl⟩)) ?_
              refine rs1 (if_neg (eqI_n (x := 1) (y := 0) rfl li_0 (by omega))) ?_
              refine rs1 (gtP_q (w := some 174) (rk_160 ha.1.1) (rf_15 ha.1.1)) ?_
              refine rs1 (gtI_q (rk_160 ha.1.1) n40) ?_
              refine rs1 (asI_q (u := 100) (n := 768) (z := 96 * p + R.1 2 0 0) (y := (nb tx t9.1)) (rk_174 ha.1.1) rfl (by omega) (rfl)) ?_
              have hb_ := ha.si (cc := 174) (st := 96) (k := 2) (f := 4) (j0 := R.1 2 0 0) (v := (nb tx t9.1)) (i := 96 * p + R.1 2 0 0) hp.1 (by decide) (by omega) (by omega)
              refine rs1 (vC_e (rk_160 hb_.1.1)) ?_
              refine Rc_V (q191 (by omega) hS hb_.1 hb_.2.2.2.2.1 hb3 (fun _ => ⟨by omega, by omega⟩)) fun v Mc pc => ?_
              have hc := hb_.rp pc tA_s
              refine rs1 (cV_e rfl) ?_
              refine rs1 (jv_e) ?_
              have eM : tM kd pl tx 1 50 t9 = tA t9 := ((if_pos ⟨c9, k4⟩).trans (if_pos cR)).trans (if_pos c9 : tA t9 = _).symm
              rw [← eM] at hc
              rw [ht9] at hc
              exact fin _ _ hc fun _ => rfl
            ·
              refine rs1 (cI_e (z184_0 (by omega) (rfl) (li_1) (li_50) (by omega))) ?_
              refine rs1 (vC_e (rk_160 ha.1.1)) ?_
              obtain ⟨Mq, q1, q2⟩ := q194n (d := d) (b := b) (f := 5) (by omega) hS ha.1.1 hrA hmA he hiA rfl li_5 (by omega)
              refine rs1 (cI_e q1) ?_
              refine rs1 (if_pos (eqI_p rfl li_0 rfl)) ?_
              refine rs1 (jv_e) ?_
              have hq := ha.rp q2 (fun _ => c9)
              have eM : tM kd pl tx 1 50 t9 = (t9.1, 5, pl t9.1) := (if_pos ⟨c9, k4⟩).trans (if_neg cR)
              rw [← eM] at hq
              have nM : ¬ (tM kd pl tx 1 50 t9).2.1 = 0 := fun z => by rw [eM] at z; dsimp only at z; omega
              rw [ht9] at hq nM
              exact fin _ _ hq fun z => absurd z nM
          ·
            refine rs1 (if_neg (krI_n (k := 4) rfl li_2 (hS.ok t9.1 hiA.1 hiA.2) (by unfold KdOK; omega) (by decide +kernel) k4 (by omega))) ?_
            refine rs1 (jv_e) ?_
            refine rs1 (vC_e (rk_160 ha.1.1)) ?_
            obtain ⟨Mq, q1, q2⟩ := q193n (d := d) (b := b) (by omega) hS ha.1.1 hrA hmA he hiA li_0
            refine rs1 (cI_e q1) ?_
            refine rs1 (if_pos (eqI_p rfl li_0 rfl)) ?_
            refine rs1 (jv_e) ?_
            have hq := ha.rp q2 (fun _ => c9)
            have eM : tM kd pl tx 1 50 t9 = (t9.1, if kd t9.1 = 1 then 1 else 2, pl t9.1) := (if_neg fun z => k4 z.2).trans (if_pos c9)
            rw [← eM] at hq
            have nM : ¬ (tM kd pl tx 1 50 t9).2.1 = 0 := fun z => by rw [eM] at z; dsimp only at z; split at z <;> omega
            rw [ht9] at hq nM
            exact fin _ _ hq fun z => absurd z nM
        ·
          refine rs1 (if_neg (eqI_n rfl li_0 (by omega))) ?_
          refine rs1 (jv_e) ?_
          have eM : tM kd pl tx 1 50 t9 = t9 := tM_f (ha.pos c9)
          rw [← eM] at ha
          have nM : ¬ (tM kd pl tx 1 50 t9).2.1 = 0 := fun z => by rw [eM] at z; exact c9 z
          rw [ht9] at ha nM
          exact fin _ _ ha fun z => absurd z nM
  ·
    refine rs1 (if_neg (krI_n (k := 3) rfl li_1 (hS.ok (t.1 + 1) hi1.1 hi1.2) (by unfold KdOK; omega) (by decide +kernel) k3 (by omega))) ?_
    refine rs1 (jv_e) ?_
    refine rs1 (vC_e (rk_160 h1.1.1)) ?_
    obtain ⟨Mq, q1, q2⟩ := q193n (d := d) (b := b) (by omega) hS h1.1.1 hr1 hm1 he hi1 li_0
    refine rs1 (cI_e q1) ?_
    refine rs1 (if_pos (eqI_p rfl li_0 rfl)) ?_
    refine rs1 (jv_e) ?_
    have hq := h1.rp q2 (fun _ => rfl)
    have hx : RQ T n b m kd pl E tx M0 M1 p ut cnt e s u dp Mq R (tN kd pl r bb (t.1 + 1, 0, 0)) := by rw [show tN kd pl r bb (t.1 + 1, 0, 0) = _ from (if_neg fun z => k3 z.2).trans (if_pos rfl)]; exact hq
    have hxn : ¬ (tN kd pl r bb (t.1 + 1, 0, 0)).2.1 = 0 := fun z => by rw [show tN kd pl r bb (t.1 + 1, 0, 0) = _ from (if_neg fun z => k3 z.2).trans (if_pos rfl)] at z; dsimp only at z; (try split at z) <;> omega
    have h1x := hx.pos hxn
    have fx : (tE kd pl 59 (tE kd pl 93 (tM kd pl tx 1 50 (tE kd pl 91 (tN kd pl r bb (t.1 + 1, 0, 0)))))) = (tN kd pl r bb (t.1 + 1, 0, 0)) := by rw [tE_f h1x, tM_f h1x, tE_f h1x, tE_f h1x]
    exact Rt.ok ⟨R, cnt, by rw [fx]; exact hx, fun z => absurd (by rw [← fx]; exact z) hxn⟩
end S57
