/-! the members of a unit, and its end: both -/
def tail61 (rec : Nat → List Value → Mem → XA) (K : Mem → XA) : Mem → XA := fun s35 => vC (7, 20) s35 (some 65) <| cV (rec 64 [va_rf (some 65), .int ((125 : Int32))] s35) fun M36 => gtP (7, 20) M36 (some 65) 1 fun x37 => gtP (7, 20) M36 (some 65) 1 fun x38 => vC (0, 3) M36 x38 <| cI (rec 346 [va_rf x38] M36) fun x40 M39 => vC (0, 3) M39 x37 <| cP (rec 348 [va_rf x37, .int (x40 - ((1 : Int32)))] M39) fun x42 M41 => cst (11, 10) M41 x42 <| gtP (7, 20) M41 (some 65) 2 fun x43 => vC (0, 3) M41 x43 <| cI (rec 346 [va_rf x43] M41) fun x45 M44 => ptI (11, 10) M44 x42 2 x45 fun M46 => gtI (7, 20) M46 (some 65) 9 fun x47 => ptI (11, 10) M46 x42 4 x47 fun M48 => K M48
/-- a FAULT of both: the first object, the reference -/
def UFt (T : Int → Int) (n m : Int) (kd pl : Int → Int) (tx : Int → Int64) (N TT ex : Nat) (M0c M0r : Mem) (p : Int) (Mc Mr : Mem) : Prop := ∃ F P ut : Int, 0 ≤ ut ∧ CFt m kd pl tx N TT ex M0c ut F P Mc ∧ RFt T n p M0r F P Mr
section S71
variable {dl d : Nat} {T : Int → Int} {n m i b e s u uc dq p r ut cnt c F P : Int} {kd pl E : Int → Int} {tx : Int → Int64} {M0c M0r Mc Mr M0 M1 M M2 : Mem} {R : RG} {L : Int → Int64} {N TT ex : Nat} {H : HG} {G U : Nat → Int → Int} {X : Nat → Int → Int64} {v : Int32} {t : TS} {Q : Value → Mem → Value → Mem → Prop}
theorem tail61_l {K : Mem → XA} {y : XA} (hd : 4 ≤ d) (hS : TkS T n m kd pl E tx) (h : CQ m kd pl tx N TT ex M0 M1 e s uc M H t) (hB : CB m e s uc) (hu : 1 ≤ hEN H 1) (hK : ∀ M2 e9, ((tE kd pl 125 t).2.1 = 0 → e9 = e) → CQ m kd pl tx N TT ex M0 M1 e s uc M2 (sF (sF H 1 2 (hEN H 1 - 1) (hEN H 2)) 1 4 (hEN H 1 - 1) e9) (tE kd pl 125 t) → Rs (K M2) y Q) : Rs (tail61 (runX d) K M) y Q := by
  unfold tail61
  refine rsl (vC_e (ck_65 h.1.1)) ?_
  obtain ⟨v, M3, e3, p3⟩ := cq64 (d := d) (K := 125) (by omega) hS h.1.1 h.1.2 h.2.2.2.2 hB li_125 (by omega)
  refine rsl (cV_e e3) ?_
  have g := h.cp p3 tE_s
  have hs := g.2.2.2.1
  have n1 := hs.n109 (k := 1) (by omega) (by omega)
  have n2 := hs.n109 (k := 2) (by omega) (by omega)
  have l1 := hs.2.1 1 (by omega) (by omega)
  have l2 := hs.2.1 2 (by omega) (by omega)
  have p1 := hs.1.2.2.1 1 (by omega) (by omega)
  have p2 := hs.1.2.2.1 2 (by omega) (by omega)
  refine rsl (gtP_q (ck_65 g.1.1) p1) ?_
  refine rsl (gtP_q (ck_65 g.1.1) p1) ?_
  refine rsl (vC_e l1.1.2.1) ?_
  refine rsl (cI_e (ls_size (by omega) l1)) ?_
  refine rsl (vC_e l1.1.2.1) ?_
  refine rsl (cP_e (ls_get (j := hEN H 1 - 1) (by omega) l1 (sbI rfl li_1) (by omega))) ?_
  obtain ⟨⟨u1, u2, u3⟩, u4, u5, u6⟩ := hs.2.2.2 (hEN H 1 - 1) (by omega) (by omega)
  refine rsl (cst_e u1) ?_
  refine rsl (gtP_q (ck_65 g.1.1) p2) ?_
  refine rsl (vC_e l2.1.2.1) ?_
  refine rsl (cI_e (ls_size (by omega) l2)) ?_
  refine rsl (ptI_q (z := hEN H 2) u1 rfl) ?_
  have g4 := g.put (hs.setu (W := []) (j := hEN H 1 - 1) (f := 2) (v := hEN H 2) (by omega) (by omega) (by omega))
  obtain ⟨s5, b9, k5, m16, m9, m13, mb1, mb2, mok, mft⟩ := g4.2.2.2.2.nm hB
  refine rsl (gtI_q (ck_65 g4.1.1) m9) ?_
  refine rsl (ptI_q (z := b9) u1 rfl) ?_
  have g5 := g4.put (g4.2.2.2.1.setu (W := []) (j := hEN H 1 - 1) (f := 4) (v := b9) (by omega) (by show hEN H 1 - 1 < hEN H 1; omega) (by omega))
  exact hK _ b9 (fun z => (mok z).2.1) g5
theorem RFt.rp {M' : Mem} (h : RFt T n p M0r F P M) (f : Fr W_rp M M') (g : FTr 2510 F P M') : RFt T n p M0r F P M' := ⟨h.1.fr f (by decide), Fr.t h.2.1 (Fr.m f (by decide)), h.2.2.1.fr f (by decide), g⟩
/-- under a call of the right side -/
theorem rsq {x y y' : XA} {K : Mem → XA} (h : y = y') (k : Rs x (cV y' K) Q) : Rs x (cV y K) Q := by rw [h]; exact k
theorem RqV {x y : XA} {P1 : Value → Mem → Prop} {k K : Mem → XA} (h : Rt y P1) (g : ∀ v M, P1 v M → Rs x (cV (cV (some (v, M)) k) K) Q) : Rs x (cV (cV y k) K) Q := by
  obtain ⟨v, M, h1, h2⟩ := h
  rw [h1]
  exact g v M h2
theorem RqI {x y : XA} {P1 : Value → Mem → Prop} {k : Int32 → Mem → XA} {K : Mem → XA} (h : Rt y P1) (g : ∀ v M, P1 v M → Rs x (cV (cI (some (v, M)) k) K) Q) : Rs x (cV (cI y k) K) Q := by
  obtain ⟨v, M, h1, h2⟩ := h
  rw [h1]
  exact g v M h2
theorem Rq_VV {x y : XA} {P : Value → Mem → Value → Mem → Prop} {k k' K : Mem → XA} (h : Rs x y P) (g : ∀ v M w N, P v M w N → Rs (cV (some (v, M)) k) (cV (cV (some (w, N)) k') K) Q) : Rs (cV x k) (cV (cV y k') K) Q := by
  obtain ⟨v, M, w, N, h1, h2, h3⟩ := h
  rw [h1, h2]
  exact g v M w N h3
theorem Rq_lp {σ τ : Type} {K : Mem → XA} {bl : σ → (σ → XA) → XA} {br : τ → (τ → XA) → XA} (A : Nat → σ → τ → Prop) (hb : ∀ m s t (gl : σ → XA) (gr : τ → XA), A m s t → (∀ m' s' t', m' < m → A m' s' t' → Rs (gl s') (cV (gr t') K) Q) → Rs (bl s gl) (cV (br t gr) K) Q) : ∀ m s t n n', m < n → m < n' → A m s t → Rs (lp bl n s) (cV (lp br n' t) K) Q := by
  intro m
  induction m using Nat.strongRecOn with
  | _ m ih =>
    intro s t n n' hn hn' hA
    obtain ⟨n, rfl⟩ : ∃ e, n = e + 1 := ⟨n - 1, by omega⟩
    obtain ⟨n', rfl⟩ : ∃ e, n' = e + 1 := ⟨n' - 1, by omega⟩
    rw [lp_e, lp_e]
    exact hb m s t _ _ hA fun m' s' t' h1 h2 => ih m' h1 s' t' n n' (by omega) (by omega) h2
/-- the members -/
theorem mems {jl jr K : Mem → XA} (hdl : 942 ≤ dl) (hd : 942 ≤ d) (hS : TkS T n m kd pl E tx) (mo : MO T n m kd pl E tx N TT ex M0c M0r p ut i Mc Mr G U X L H R e s u uc cnt dq) (hp : 0 ≤ p ∧ p ≤ 7) (hv : v = iI p) (hj : ∀ i' Mc' Mr' G' U' X' L' H' R' e' s' u' uc' cnt' dq', i ≤ i' → kd i' = 125 → MO T n m kd pl E tx N TT ex M0c M0r p ut i' Mc' Mr' G' U' X' L' H' R' e' s' u' uc' cnt' dq' → Rs (jl Mc') (cV (jr Mr') K) Q) (hf : ∀ F P Mc' Mr', CFt m kd pl tx N TT ex M0c ut F P Mc' → RFt T n p M0r F P Mr' → Rs (jl Mc') (cV (jr Mr') K) Q) : Rs (lp (c61_113 (runX dl) (some 65) jl) 4294967296 ((0 : Int32), Mc)) (cV (lp (c229_159 (runX d) (some 160) v jr) 4294967296 Mr) K) Q := by
  have hi0 := mo.nb.2.1
  refine Rq_lp (fun mm q q2 => ∃ c : Int, q.1 = iI c ∧ ((∃ i' G' U' X' L' H' R' e' s' u' uc' cnt' dq', i ≤ i' ∧ 0 ≤ c ∧ c ≤ i' ∧ MO T n m kd pl E tx N TT ex M0c M0r p ut i' q.2 q2 G' U' X' L' H' R' e' s' u' uc' cnt' dq' ∧ mm = (m - i').toNat) ∨ (∃ F P, CFt m kd pl tx N TT ex M0c ut F P q.2 ∧ RFt T n p M0r F P q2 ∧ 0 ≤ c ∧ c ≤ 1400 ∧ mm = 0))) (fun mm q q2 gl gr hq hgo => ?_) (m - i).toNat _ _ _ _ (by omega) (by omega) ⟨0, li_0, Or.inl ⟨i, G, U, X, L, H, R, e, s, u, uc, cnt, dq, Int.le_refl _, Int.le_refl _, by omega, mo, rfl⟩⟩
  obtain ⟨q1, M3⟩ := q
  obtain ⟨c, hc, hq⟩ := hq
  dsimp only at hc hq
  unfold c61_113 c229_159
  dsimp only
  rcases hq with ⟨i', G', U', X', L', H', R', e', s', u', uc', cnt', dq', k1, k2, k3, mo', k4⟩ | ⟨F, P, cf, rf, k2, k3, k4⟩
  · have hi := mo'.nb.2.1
    have mo0 := mo'
    obtain ⟨g, ⟨sr, q⟩, -⟩ := mo'
    obtain ⟨hc', -⟩ := g.sc rfl
    obtain ⟨hr', -⟩ := q.sr rfl
    dsimp only at hc' hr'
    have hok : KdOK (kd i') := hS.ok i' (by omega) (by omega)
    have hkb : 0 ≤ kd i' ∧ kd i' < 300 ∧ kd i' ≠ 2 := by have := hok; unfold KdOK sgk at this; omega
    refine rsl (if_neg (leI_n li_3000 hc (by omega))) ?_
    refine rsl (gtI_q (ck_65 g.1.1) hc'.2.1) ?_
    refine rsq (gtI_q (rk_160 q.1.1) hr'.2.2.2.1) ?_
    refine rsq (if_pos (eqI_p rfl li_0 rfl)) ?_
    refine rsq (gtI_q (rk_160 q.1.1) hr'.1) ?_
    by_cases k125 : kd i' = 125
    · refine rsl (if_pos (eqI_p rfl li_125 k125)) ?_
      refine rsq (if_pos (krI_p (k := 125) rfl li_125 k125 (by decide +kernel))) ?_
      exact hj i' _ _ _ _ _ _ _ _ _ _ _ _ _ _ k1 k125 mo0
    · refine rsl (if_neg (eqI_n rfl li_125 (by omega))) ?_
      refine rsl (gtI_q (ck_65 g.1.1) hc'.2.1) ?_
      refine rsl (if_neg (eqI_n rfl li_2 (by omega))) ?_
      refine rsl (vC_e (ck_65 g.1.1)) ?_
      refine rsq (if_neg (krI_n (k := 125) rfl li_125 hok (by unfold KdOK sgk; omega) (by decide +kernel) k125 (by omega))) ?_
      refine rsq (vC_e (rk_160 q.1.1)) ?_
      refine Rq_VV (member_pair (by omega) (by omega) hS mo0 hp hv) fun _ M4 _ M5 hq2 => ?_
      refine rsl (cV_e rfl) ?_
      refine rsq (cV_e rfl) ?_
      refine rsl (ltI_q (z := c + 1) (cvI (adI hc li_1) (by omega))) ?_
      rcases hq2 with ⟨i2, G2, U2, X2, L2, H2, R2, e2, s2, u2, uc2, cnt2, dq2, z1, mo2⟩ | ⟨F, P, z1, z2⟩
      · have hi2 := mo2.nb.2.1
        exact hgo (m - i2).toNat _ _ (by omega) ⟨c + 1, rfl, Or.inl ⟨i2, G2, U2, X2, L2, H2, R2, e2, s2, u2, uc2, cnt2, dq2, by omega, by omega, by omega, mo2, rfl⟩⟩
      · exact hgo 0 _ _ (by omega) ⟨c + 1, rfl, Or.inr ⟨F, P, z1, z2, by omega, by omega, rfl⟩⟩
  · have cf0 := cf
    have rf0 := rf
    obtain ⟨H', t', e', s', uc', ⟨w1, w2, w3⟩, w4, g⟩ := cf
    obtain ⟨x1, x2, x3, em, sn, us, mu, ut', y1, -⟩ := rf
    have h13 : M3.1 65 13 = iI 2 := by
      rcases g.2.2.2.2 with z | ⟨-, i, sz, sn, u2, b1, -⟩
      · exact absurd z.1 (by omega)
      · exact b1
    have hF : 1 ≤ F ∧ F ≤ 6 := by
      rcases g.2.2.2.2 with z | ⟨-, i, sz, sn, u2, b1, b2, b3, b4, b5, b6, b7, b8⟩
      · exact absurd z.1 (by omega)
      · omega
    refine rsl (if_neg (leI_n li_3000 hc (by omega))) ?_
    refine rsl (gtI_q (ck_65 g.1.1) h13) ?_
    refine rsl (if_neg (eqI_n rfl li_125 (by omega))) ?_
    refine rsl (gtI_q (ck_65 g.1.1) h13) ?_
    refine rsl (if_pos (eqI_p rfl li_2 rfl)) ?_
    refine rsq (gtI_q (rk_160 x1.1) y1) ?_
    refine rsq (if_neg (eqI_n rfl li_0 (by omega))) ?_
    exact hf F P _ _ cf0 rf0
end S71
