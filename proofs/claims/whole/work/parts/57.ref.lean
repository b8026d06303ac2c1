/-! members: the reference's side -/
def W_mr : List (Nat × Nat) := [(160, 36), (160, 37), (160, 38), (160, 39), (160, 40), (160, 41), (160, 42), (160, 43), (160, 48), (160, 50), (160, 51), (160, 53), (160, 62), (195, 9999), (196, 9999), (197, 9999), (198, 9999), (199, 9999), (200, 9999), (201, 9999), (202, 9999), (203, 9999), (204, 9999), (205, 9999), (206, 9999), (207, 9999), (160, 49), (160, 64), (162, 9999), (163, 9999), (164, 9999), (165, 9999), (166, 9999), (167, 9999), (168, 9999), (169, 9999), (170, 9999), (171, 9999), (172, 9999), (173, 9999), (174, 9999), (175, 9999), (176, 9999), (177, 9999), (178, 9999), (179, 9999), (180, 9999), (181, 9999), (182, 9999), (184, 9999), (185, 9999), (186, 9999), (187, 9999), (208, 9999)]
def W_mk : List (Nat × Nat) := [(160, 36), (160, 37), (160, 38), (160, 39), (160, 40), (160, 41), (160, 42), (160, 62), (160, 49), (160, 51), (160, 64), (199, 9999), (162, 9999), (163, 9999), (164, 9999), (165, 9999), (166, 9999), (167, 9999), (168, 9999), (169, 9999), (170, 9999), (171, 9999), (172, 9999), (173, 9999), (174, 9999), (175, 9999), (176, 9999), (177, 9999), (178, 9999), (179, 9999), (180, 9999), (181, 9999), (182, 9999), (184, 9999), (185, 9999), (186, 9999), (187, 9999), (208, 9999)]
def RQ (T : Int → Int) (n b m : Int) (kd pl E : Int → Int) (tx : Int → Int64) (M0 M1 : Mem) (p ut cnt e s u dp : Int) (M : Mem) (R : RG) (t : TS) : Prop := RX T n M ∧ Fr W_mr M0 M ∧ (t.2.1 = 0 → Fr W_mk M1 M) ∧ (RR M p R ∧ KP p M0 M) ∧ RS b m kd pl E tx e s u dp M t ∧ M.1 160 49 = iI ut ∧ M.1 160 64 = iI cnt
section S57
variable {d : Nat} {T : Int → Int} {n m b a e s u dp i f K c lo ki r v j p ut cnt st j0 z : Int} {kd pl E : Int → Int} {tx : Int → Int64} {M0 M1 M M2 : Mem} {R R' : RG} {t t2 : TS} {v0 v1 v2 : Int32} {L : Int → Int64} {k : Nat} {W : List (Nat × Nat)} {X : Int64}
theorem rsF_p {f k : Nat} : (rsF R k f j v).1 k f j = v := if_pos ⟨rfl, rfl, rfl⟩
theorem rsF_n {f k f' k' : Nat} {j' : Int} (h : ¬ (k' = k ∧ f' = f ∧ j' = j)) : (rsF R k f j v).1 k' f' j' = R.1 k' f' j' := if_neg h
theorem rsX_p {k : Nat} : (rsX R k j X).2 k j = X := if_pos ⟨rfl, rfl⟩
theorem rsX_n {k k' : Nat} {j' : Int} (h : ¬ (k' = k ∧ j' = j)) : (rsX R k j X).2 k' j' = R.2 k' j' := if_neg h
theorem frone {a i : Nat} {v : Int32} : Fr [(a, 9999)] M (sI M a i v) := Fr.sI (inW_c (List.mem_singleton.mpr rfl) _) Fr.r
theorem fronl {a i : Nat} {v : Int64} : Fr [(a, 9999)] M (sL M a i v) := Fr.sL (inW_c (List.mem_singleton.mpr rfl) _) Fr.r
/-- rows apart from 160 -/
theorem RS.fr (h : RS b m kd pl E tx e s u dp M t) (f : Fr W M M2) (w : ∀ z, z ∈ W → z.1 ≠ 160) : RS b m kd pl E tx e s u dp M2 t := by
  have g : ∀ j, M2.1 160 j = M.1 160 j := fun j => f.c 160 w j
  have gl : ∀ j, M2.2.1 160 j = M.2.1 160 j := fun j => f.lc 160 w j
  rcases h with ⟨h0, ⟨a1, a2, a3, a4, a5, a6, a7, a8, a9, a10⟩, ⟨mu, ut, c1, c2, c3⟩, hb⟩ | ⟨h1, h6, em, sn, us, mu, ut, b1, b2, b3, b4, b5, b6, b7, b8⟩
  · exact Or.inl ⟨h0, ⟨(g _).trans a1, (g _).trans a2, (g _).trans a3, (g _).trans a4, (g _).trans a5, (g _).trans a6, (g _).trans a7, (g _).trans a8, fun z => (gl _).trans (a9 z), fun z => (g _).trans (a10 z)⟩, ⟨mu, ut, (g _).trans c1, (g _).trans c2, c3⟩, hb⟩
  · exact Or.inr ⟨h1, h6, em, sn, us, mu, ut, (g _).trans b1, (g _).trans b2, (g _).trans b3, (g _).trans b4, (g _).trans b5, (g _).trans b6, (g _).trans b7, b8⟩
theorem rTI_w : ∀ q, q ∈ rTI → q.1 ≠ 160 ∧ q.1 ≠ 161 ∧ q.1 ≠ 194 ∧ (q.1, 9999) ∈ W_mr ∧ (q.1, 9999) ∈ W_mk := by decide
theorem rTL_w : ∀ q, q ∈ rTL → q.1 ≠ 160 ∧ q.1 ≠ 161 ∧ q.1 ≠ 194 ∧ (q.1, 9999) ∈ W_mr ∧ (q.1, 9999) ∈ W_mk := by decide
theorem RX.one {a : Nat} (h : RX T n M) (f : Fr [(a, 9999)] M M2) (w : a ≠ 160 ∧ a ≠ 161 ∧ a ≠ 194) : RX T n M2 := h.fr f ⟨fun z y e => by rw [List.mem_singleton.mp y] at e; cases e; exact w.1 rfl, fun z y => by rw [List.mem_singleton.mp y]; exact ⟨w.2.1, w.2.2⟩, fun z y e => by rw [List.mem_singleton.mp y] at e; cases e; exact w.1 rfl⟩
/-- a number of a row is written -/
theorem RQ.si {cc st f k : Nat} (h : RQ T n b m kd pl E tx M0 M1 p ut cnt e s u dp M R t) (hp : 0 ≤ p) (w : (cc, (st : Int), k, f) ∈ rTI) (hj : 0 ≤ j0 ∧ j0 < st) (hi : i = st * p + j0) : RQ T n b m kd pl E tx M0 M1 p ut cnt e s u dp (sI M cc i.toNat (iI v)) (rsF R k f j0 v) t := by
  obtain ⟨h1, h2, h3, ⟨h4, h5⟩, h6, h7, h8⟩ := h
  have q := rTI_w _ w
  dsimp only at q
  exact ⟨h1.one frone ⟨q.1, q.2.1, q.2.2.1⟩, Fr.sI (inW_c q.2.2.2.1 _) h2, fun z => Fr.sI (inW_c q.2.2.2.2 _) (h3 z), ⟨h4.sI hp w hj hi, h5.sI hp w hj hi⟩, h6.fr (W := [(cc, 9999)]) (frone (v := iI v)) (fun z y => by rw [List.mem_singleton.mp y]; exact q.1), (sI_ne (Ne.symm q.1)).trans h7, (sI_ne (Ne.symm q.1)).trans h8⟩
theorem RQ.sl {cc st k : Nat} (h : RQ T n b m kd pl E tx M0 M1 p ut cnt e s u dp M R t) (hp : 0 ≤ p) (w : (cc, (st : Int), k) ∈ rTL) (hj : 0 ≤ j0 ∧ j0 < st) (hi : i = st * p + j0) : RQ T n b m kd pl E tx M0 M1 p ut cnt e s u dp (sL M cc i.toNat X) (rsX R k j0 X) t := by
  obtain ⟨h1, h2, h3, ⟨h4, h5⟩, h6, h7, h8⟩ := h
  have q := rTL_w _ w
  dsimp only at q
  exact ⟨h1.one fronl ⟨q.1, q.2.1, q.2.2.1⟩, Fr.sL (inW_c q.2.2.2.1 _) h2, fun z => Fr.sL (inW_c q.2.2.2.2 _) (h3 z), ⟨h4.sL hp w hj hi, h5.sL hp w hj hi⟩, h6.fr (W := [(cc, 9999)]) (fronl (v := X)) (fun z y => by rw [List.mem_singleton.mp y]; exact q.1), h7, h8⟩
theorem RQ.rp (h : RQ T n b m kd pl E tx M0 M1 p ut cnt e s u dp M R t) (q : RP b m kd pl E tx e s u dp M t2 M2) (hs : t2.2.1 = 0 → t.2.1 = 0) : RQ T n b m kd pl E tx M0 M1 p ut cnt e s u dp M2 R t2 := by
  obtain ⟨h1, h2, h3, ⟨h4, h5⟩, h6, h7, h8⟩ := h
  exact ⟨h1.fr q.2.1 (by decide), Fr.t h2 (Fr.m q.2.1 (by decide)), fun z => Fr.t (h3 (hs z)) (Fr.m (q.2.2 z) (by decide)), ⟨h4.fr q.2.1 (by decide), h5.fr q.2.1 (by decide)⟩, q.1, (q.2.1.i _ _ (by decide)).trans h7, (q.2.1.i _ _ (by decide)).trans h8⟩
theorem RQ.sr (h : RQ T n b m kd pl E tx M0 M1 p ut cnt e s u dp M R t) (h0 : t.2.1 = 0) : SR M kd pl E tx t.1 e s u dp ∧ RM M ∧ 0 ≤ t.1 ∧ t.1 < m := by
  rcases h.2.2.2.2.1 with z | z
  · exact z.2
  · exact absurd z.1 (by omega)
theorem RQ.pos (h : RQ T n b m kd pl E tx M0 M1 p ut cnt e s u dp M R t) (h0 : ¬ t.2.1 = 0) : 1 ≤ t.2.1 := by
  rcases h.2.2.2.2.1 with z | z
  · exact absurd z.1 h0
  · exact z.1
/-- what is the FAULT, in numbers -/
theorem RQ.n41 (h : RQ T n b m kd pl E tx M0 M1 p ut cnt e s u dp M R t) : ∃ F : Int, M.1 160 41 = iI F ∧ 0 ≤ F ∧ F ≤ 6 ∧ (F = 0 ↔ t.2.1 = 0) := by
  rcases h.2.2.2.2.1 with ⟨h0, a, -⟩ | ⟨h1, h6, em, sn, us, mu, ut, b1, -⟩
  · exact ⟨0, a.2.2.2.1, by omega, by omega, by omega⟩
  · exact ⟨t.2.1, b1, by omega, h6, by omega⟩
/-- how many members the unit has -/
theorem RQ.c64 (h : RQ T n b m kd pl E tx M0 M1 p ut cnt e s u dp M R t) : RQ T n b m kd pl E tx M0 M1 p ut c e s u dp (sI M 160 64 (iI c)) R t := by
  obtain ⟨h1, h2, h3, ⟨h4, h5⟩, h6, h7, h8⟩ := h
  have f : Fr [(160, 64)] M (sI M 160 64 (iI c)) := Fr.sI (by decide) Fr.r
  refine ⟨h1.fr f (by decide), Fr.t h2 (Fr.m f (by decide)), fun z => Fr.t (h3 z) (Fr.m f (by decide)), ⟨h4.fr f (by decide), h5.fr f (by decide)⟩, ?_, (sI_nej (by decide)).trans h7, sI_eq⟩
  rcases h6 with ⟨h0, ⟨a1, a2, a3, a4, a5, a6, a7, a8, a9, a10⟩, ⟨mu, ut, c1, c2, c3⟩, hb⟩ | ⟨h1, h6, em, sn, us, mu, ut, b1, b2, b3, b4, b5, b6, b7, b8⟩
  · exact Or.inl ⟨h0, ⟨(f.i _ _ (by decide)).trans a1, (f.i _ _ (by decide)).trans a2, (f.i _ _ (by decide)).trans a3, (f.i _ _ (by decide)).trans a4, (f.i _ _ (by decide)).trans a5, (f.i _ _ (by decide)).trans a6, (f.i _ _ (by decide)).trans a7, (f.i _ _ (by decide)).trans a8, a9, fun z => (f.i _ _ (by decide)).trans (a10 z)⟩, ⟨mu, ut, (f.i _ _ (by decide)).trans c1, (f.i _ _ (by decide)).trans c2, c3⟩, hb⟩
  · exact Or.inr ⟨h1, h6, em, sn, us, mu, ut, (f.i _ _ (by decide)).trans b1, (f.i _ _ (by decide)).trans b2, (f.i _ _ (by decide)).trans b3, (f.i _ _ (by decide)).trans b4, (f.i _ _ (by decide)).trans b5, (f.i _ _ (by decide)).trans b6, (f.i _ _ (by decide)).trans b7, b8⟩
/-- LOCALS from none on -/
theorem RQ.s51 {s2 : Int} {L : Int → Int64} (h : RQ T n b m kd pl E tx M0 M1 p ut cnt e s u dp M R t) : RQ T n b m kd pl E tx M0 M1 p ut cnt e s2 u dp (sI M 160 51 (iI s2)) R t := by
  obtain ⟨h1, h2, h3, ⟨h4, h5⟩, h6, h7, h8⟩ := h
  have f : Fr [(160, 51)] M (sI M 160 51 (iI s2)) := Fr.sI (by decide) Fr.r
  refine ⟨h1.fr f (by decide), Fr.t h2 (Fr.m f (by decide)), fun z => Fr.t (h3 z) (Fr.m f (by decide)), ⟨h4.fr f (by decide), h5.fr f (by decide)⟩, ?_, (sI_nej (by decide)).trans h7, (sI_nej (by decide)).trans h8⟩
  rcases h6 with ⟨h0, ⟨a1, a2, a3, a4, a5, a6, a7, a8, a9, a10⟩, ⟨mu, ut, c1, c2, c3⟩, hb⟩ | ⟨h1, h6, em, sn, us, mu, ut, b1, b2, b3, b4, b5, b6, b7, b8⟩
  · exact Or.inl ⟨h0, ⟨(f.i _ _ (by decide)).trans a1, (f.i _ _ (by decide)).trans a2, (f.i _ _ (by decide)).trans a3, (f.i _ _ (by decide)).trans a4, (f.i _ _ (by decide)).trans a5, sI_eq, (f.i _ _ (by decide)).trans a7, (f.i _ _ (by decide)).trans a8, a9, fun z => (f.i _ _ (by decide)).trans (a10 z)⟩, ⟨mu, ut, (f.i _ _ (by decide)).trans c1, (f.i _ _ (by decide)).trans c2, c3⟩, hb⟩
  · exact Or.inr ⟨h1, h6, em, s2, us, mu, ut, (f.i _ _ (by decide)).trans b1, (f.i _ _ (by decide)).trans b2, (f.i _ _ (by decide)).trans b3, sI_eq, (f.i _ _ (by decide)).trans b5, (f.i _ _ (by decide)).trans b6, (f.i _ _ (by decide)).trans b7, b8⟩
/-- what a new member is in the rows -/
def rM (R : RG) (x : Int64) (ut ki lo : Int) : RG := rsF (rsF (rsF (rsF (rsX (rsF R 2 0 0 (R.1 2 0 0 + 1)) 2 (R.1 2 0 0) x) 2 1 (R.1 2 0 0) ut) 2 2 (R.1 2 0 0) ki) 2 3 (R.1 2 0 0) lo) 2 5 (R.1 2 0 0) (-2)
end S57
