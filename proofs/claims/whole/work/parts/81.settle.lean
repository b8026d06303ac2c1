/-! the words of a text are settled: the reference -/
section S81
variable {d k : Nat} {T : Int → Int} {n m n1 n2 i b e s uc u un r j p ut cnt dp : Int} {kd pl E : Int → Int} {tx : Int → Int64} {M0 M1 M M2 : Mem} {R : RG} {t : TS} {G G1 G2 U B : Nat → Int → Int} {X : Nat → Int → Int64} {X1 X2 : Int → Int64} {v1 : Int32}
theorem SetU.op : ∀ {k : Nat} {G1 : Nat → Int → Int}, SetU X1 X2 n1 n2 B U X G k G1 → ∀ i, 0 ≤ G 0 i ∧ G 0 i ≤ 29 → 0 ≤ G1 0 i ∧ G1 0 i ≤ 29
  | 0, _, h, i, q => by rw [h]; exact q
  | k + 1, _, ⟨Ga, un, r, a1, a2, a3, a4⟩, i, q => by
    have := SetU.op a1 i q
    rw [a4]
    show 0 ≤ (if i = U 2 k then (if B 2 r = 0 then 0 else Ga 0 i) else Ga 0 i) ∧ (if i = U 2 k then (if B 2 r = 0 then 0 else Ga 0 i) else Ga 0 i) ≤ 29
    split
    · split <;> omega
    · exact this
theorem RQ.a195 (h : RQ T n b m kd pl E tx M0 M1 p ut cnt e s u dp M R t) (f : Fr [(195, 9999), (196, 9999)] M M2) : RQ T n b m kd pl E tx M0 M2 p ut cnt e s u dp M2 R t := by
  obtain ⟨h1, h2, h3, ⟨h4, h5⟩, h6, h7, h8⟩ := h
  exact ⟨h1.fr f (by decide), Fr.t h2 (Fr.m f (by decide)), fun _ => Fr.r, ⟨h4.fr f (by decide), h5.fr f (by decide)⟩, h6.fr f (by decide), (f.i _ _ (by decide)).trans h7, (f.i _ _ (by decide)).trans h8⟩
theorem a230 (hd : 5 ≤ d) (hS : TkS T n m kd pl E tx) (h : RQ T n b m kd pl E tx M0 M1 p ut cnt e s u dp M R t) (h0 : t.2.1 = 0) (hv1 : v1 = iI p) (hp : 0 ≤ p ∧ p ≤ 7) (hc : RA1 M G e) (hU : RU M U X u) (he : 0 ≤ e ∧ e ≤ 4000) (hu0 : 0 ≤ u ∧ u ≤ 1400) (hn : 0 ≤ R.1 1 0 0 ∧ R.1 1 0 0 ≤ 8 ∧ 0 ≤ R.1 2 0 0 ∧ R.1 2 0 0 ≤ 96) (hG : ∀ i, 0 ≤ i → i < e → 0 ≤ G 0 i ∧ G 0 i ≤ 29) (hu : ∀ q, 0 ≤ q → q < u → (0 ≤ U 6 q ∧ U 6 q ≤ 7) ∧ (0 ≤ U 1 q ∧ U 1 q ≤ 4) ∧ (U 1 q < 3 ∧ U 7 q = U 1 q + 1 ∨ 3 ≤ U 1 q ∧ U 7 q = U 1 q) ∧ (0 ≤ U 2 q ∧ U 2 q < e)) (hb : ∀ r, 0 ≤ r → r < R.1 2 0 0 → (0 ≤ R.1 2 1 r ∧ R.1 2 1 r ≤ 7) ∧ (0 ≤ R.1 2 2 r ∧ R.1 2 2 r ≤ 4) ∧ (0 ≤ R.1 2 3 r ∧ R.1 2 3 r ≤ 1)) : Rt (runX d 230 [va_rf (some 160), .int v1] M) (fun v M2 => v = .null ∧ ((∃ G', SetU (R.2 1) (R.2 2) (R.1 1 0 0) (R.1 2 0 0) (R.1 2) U X G u.toNat G' ∧ RA1 M2 G' e ∧ RQ T n b m kd pl E tx M0 M2 p ut cnt e s u dp M2 R t) ∨ (∃ (k : Nat) (G' : Nat → Int → Int) (un r : Int), (k : Int) < u ∧ SetU (R.2 1) (R.2 2) (R.1 1 0 0) (R.1 2 0 0) (R.1 2) U X G k G' ∧ UsL (R.2 1) (R.2 2) (R.1 1 0 0) (R.1 2 0 0) (R.1 2) U X k un r ∧ ¬ UsO (R.1 2) U k un r ∧ M2.1 160 41 = iI 4 ∧ M2.1 160 42 = iI (if 0 ≤ un then U 4 k else U 3 k) ∧ Fr [(195, 9999), (196, 9999), (160, 41), (160, 42)] M M2))) := by
  obtain ⟨d, rfl⟩ : ∃ e, d = e + 1 := ⟨d - 1, by omega⟩
  rw [r230]; unfold b230; rw [aR_e, aI_e, aZ_e]; unfold c230
  refine rs1 (jn_v) ?_
  refine rs1 (jn_v) ?_
  refine rs1 (jn_v) ?_
  refine Rt.lp (fun mm q => ∃ (k : Nat) (G' : Nat → Int → Int), q.1 = iI k ∧ (k : Int) ≤ u ∧ SetU (R.2 1) (R.2 2) (R.1 1 0 0) (R.1 2 0 0) (R.1 2) U X G k G' ∧ RA1 q.2 G' e ∧ RQ T n b m kd pl E tx M0 q.2 p ut cnt e s u dp q.2 R t ∧ Fr [(195, 9999), (196, 9999)] M q.2 ∧ mm = (u - k).toNat) (fun mm q go hq hgo => ?_) u.toNat _ _ (by omega) ⟨0, G, li_0, hu0.1, rfl, hc, h.re, Fr.r, by omega⟩
  obtain ⟨q1, M3⟩ := q
  obtain ⟨k, G', e1, ku, st, ra, g, fr, mmE⟩ := hq
  unfold c230_2
  dsimp only at e1 ra g fr ⊢
  obtain ⟨hr, hm, hi⟩ := g.sr h0
  refine rs1 (gtI_q (rk_160 g.1.1) hr.2.2.2.2.2.2.1) ?_
  by_cases cx : u ≤ k
  · refine rs1 (if_pos (leI_p rfl e1 (by omega))) ?_
    refine rs1 (jv_e) ?_
    have : k = u.toNat := by omega
    subst this
    exact Rt.ok ⟨rfl, Or.inl ⟨G', st, ra, g⟩⟩
  refine rs1 (if_neg (leI_n rfl e1 (by omega))) ?_
  refine rs1 (gtI_q (rk_160 g.1.1) hr.2.2.2.1) ?_
  refine rs1 (if_pos (eqI_p rfl li_0 rfl)) ?_
  obtain ⟨d200, d201, d202, d203, d204, d205, d206, d207⟩ := hU k (by omega) (by omega)
  obtain ⟨b6, b1, b7, b2⟩ := hu k (by omega) (by omega)
  have R0 := g.1.1
  refine rs1 (gtP_q (w := some 202) (rk_160 R0) (rf_56 R0)) ?_
  refine rs1 (alL_q (n := 2000) (z := k) (w := X 0 k) (rk_202 R0) e1 (by omega) ((fr.lc 202 (by decide) _).trans d202)) ?_
  refine Rt.jn (fun q => ∃ un, q = (iI un, M3) ∧ UnF (R.2 1) (R.1 1 0 0) (U 6 k) (X 0 k) un ∧ -1 ≤ un ∧ un ≤ 8) (fun q hq => ?_) (fun j48 hj48 => ?_)
  · obtain ⟨un, rfl, hun, bun⟩ := hq
    dsimp only
    by_cases cu : 0 ≤ un
    · refine rs1 (if_pos (leI_p li_0 rfl (by omega))) ?_
      refine rs1 (gtP_q (w := some 204) (rk_160 R0) (rf_58 R0)) ?_
      refine rs1 (alL_q (n := 2000) (z := k) (w := X 1 k) (rk_204 R0) e1 (by omega) ((fr.lc 204 (by decide) _).trans d204)) ?_
      refine rs1 (vC_e (rk_160 R0)) ?_
      refine Rc_I (a228 (y := X 1 k) (u := un) (by omega) R0 g.2.2.2.1.1 hv1 rfl hp ⟨hn.2.2.1, hn.2.2.2⟩) fun v Mx ⟨r, hv, hMx, mb⟩ => ?_
      subst hv
      rw [hMx]
      refine rs1 (cI_e rfl) ?_
      have hrb : (0 ≤ r ∧ r < R.1 2 0 0) ∨ r = -1 := by rcases mb with z | z <;> omega
      have ul : UsL (R.2 1) (R.2 2) (R.1 1 0 0) (R.1 2 0 0) (R.1 2) U X k un r := ⟨hun, by rw [if_neg (by omega)]; exact mb⟩
      refine rs1 (ltI_q (z := 96 * p + r) (adI (mlI li_96 hv1) rfl)) ?_
      -- what is seen
      refine Rt.jn (fun w => ∃ vis : Int, w = iI vis ∧ ((vis = 1 ∧ 0 ≤ r ∧ (R.1 2 3 r = 0 ∨ un = U 6 k)) ∨ (vis = 0 ∧ ¬ (0 ≤ r ∧ (R.1 2 3 r = 0 ∨ un = U 6 k))))) (fun w hw => ?_) (fun j118 hj118 => ?_)
      · obtain ⟨vis, hw, hvis⟩ := hw
        refine Rt.jn (fun w2 => ∃ kk : Int, w2 = iI kk ∧ ((vis = 1 ∧ kk = R.1 2 2 r) ∨ (vis = 0 ∧ kk = -1))) (fun w2 hw2 => ?_) (fun j136 hj136 => ?_)
        · obtain ⟨kk, hw2, hkk⟩ := hw2
          have bkk : -1 ≤ kk ∧ kk ≤ 4 ∧ (vis = 1 → 0 ≤ kk) := by
            rcases hkk with ⟨z, z2⟩ | ⟨z, z2⟩
            · have := hb r (by omega) (by omega); omega
            · omega
          refine rs1 (gtP_q (w := some 201) (rk_160 R0) (rf_55 R0)) ?_
          refine rs1 (alI_q (n := 2000) (z := k) (w := iI (U 1 k)) (rk_201 R0) e1 (by omega) ((fr.c 201 (by decide) _).trans d201)) ?_
          refine Rt.jn (fun q => ∃ ok : Int, q = (iI ok, M3) ∧ ((ok = 1 ∧ UsO (R.1 2) U k un r) ∨ (ok = 0 ∧ ¬ UsO (R.1 2) U k un r))) (fun q hq => ?_) (fun j245 hj245 => ?_)
          · obtain ⟨ok, rfl, hok⟩ := hq
            dsimp only
            rcases hok with ⟨rfl, uo⟩ | ⟨rfl, uo⟩
            · refine rs1 (if_neg (eqI_n (x := 1) (y := 0) rfl li_0 (by omega))) ?_
              have r0 : 0 ≤ r := uo.1
              have kk2 : kk = R.1 2 2 r := by
                rcases hkk with ⟨z, z2⟩ | ⟨z, z2⟩
                · exact z2
                · rcases hvis with w | w
                  · omega
                  · exact absurd ⟨uo.1, uo.2.1⟩ w.2
              have opb := SetU.op st (U 2 k) (hG _ b2.1 b2.2)
              obtain ⟨ra1, ra2, ra3, ra4⟩ := ra (U 2 k) b2.1 b2.2
              refine Rt.jn (fun w => w = iI (if kk = 0 then 1 else 0)) (fun w5 hw5 => ?_) (fun j272 hj272 => ?_)
              · refine rs1 (gtP_q (w := some 200) (rk_160 R0) (rf_54 R0)) ?_
                refine rs1 (alI_q (n := 2000) (z := k) (w := iI (U 2 k)) (rk_200 R0) e1 (by omega) ((fr.c 200 (by decide) _).trans d200)) ?_
                refine rs1 (gtP_q (w := some 195) (rk_160 R0) (rf_44 R0)) ?_
                refine Rt.jn (fun w => w = iI (if R.1 2 2 r = 0 then 0 else G' 0 (U 2 k))) (fun w6 hw6 => ?_) (fun j304 hj304 => ?_)
                · refine rs1 (asI_q (u := 101) (n := 4000) (z := U 2 k) (y := if R.1 2 2 r = 0 then 0 else G' 0 (U 2 k)) (rk_195 R0) rfl (by omega) (b8_e hw6 (by split <;> omega))) ?_
                  have f1 : Fr [(195, 9999), (196, 9999)] M3 (sI M3 195 (U 2 k).toNat (iI (if R.1 2 2 r = 0 then 0 else G' 0 (U 2 k)))) := Fr.sI (inW_c (by decide) _) Fr.r
                  have g1 := g.a195 f1
                  refine rs1 (gtP_q (w := some 196) (rk_160 g1.1.1) (rf_45 g1.1.1)) ?_
                  refine Rt.jn (fun w => w = iI (if R.1 2 2 r = 0 then R.1 2 4 r else r)) (fun w7 hw7 => ?_) (fun j328 hj328 => ?_)
                  · refine rs1 (asI_q (u := 100) (n := 4000) (z := U 2 k) (y := if R.1 2 2 r = 0 then R.1 2 4 r else r) (rk_196 g1.1.1) rfl (by omega) hw7) ?_
                    obtain ⟨M5, hM5⟩ : ∃ z, z = sI (sI M3 195 (U 2 k).toNat (iI (if R.1 2 2 r = 0 then 0 else G' 0 (U 2 k)))) 196 (U 2 k).toNat (iI (if R.1 2 2 r = 0 then R.1 2 4 r else r)) := ⟨_, rfl⟩
                    rw [← hM5]
                    have f5 : Fr [(195, 9999), (196, 9999)] M3 M5 := by rw [hM5]; exact Fr.sI (inW_c (by decide) _) f1
                    refine rs1 (ltI_q (z := ((k + 1 : Nat) : Int)) (cvI (adI e1 li_1) (by omega))) ?_
                    refine hgo (u - ((k + 1 : Nat) : Int)).toNat _ (by omega) ⟨k + 1, sU U (R.1 2) G' k r, rfl, by omega, ⟨G', un, r, st, ul, uo, rfl⟩, fun i a b => ?_, g.a195 f5, Fr.t fr f5, rfl⟩
                    obtain ⟨w1, w2, w3, w4⟩ := ra i a b
                    show M5.1 195 i.toNat = iI (if i = U 2 k then (if R.1 2 2 r = 0 then 0 else G' 0 i) else G' 0 i) ∧ M5.1 196 i.toNat = iI (if i = U 2 k then (if R.1 2 2 r = 0 then R.1 2 4 r else r) else G' 3 i) ∧ M5.1 197 i.toNat = iI (if i = U 2 k then G' 4 i else G' 4 i) ∧ M5.1 198 i.toNat = iI (if i = U 2 k then G' 5 i else G' 5 i)
                    rw [ite_self, ite_self]
                    refine ⟨?_, ?_, (f5.c 197 (by decide) _).trans w3, (f5.c 198 (by decide) _).trans w4⟩
                    · by_cases y : i = U 2 k
                      · rw [if_pos y, hM5, y]; exact (sI_ne (by decide)).trans sI_eq
                      · rw [if_neg y, hM5]; exact (sI_ne (by decide)).trans ((sI_nej (by omega)).trans w1)
                    · by_cases y : i = U 2 k
                      · rw [if_pos y, hM5, y]; exact sI_eq
                      · rw [if_neg y, hM5]; exact (sI_nej (by omega)).trans ((sI_ne (by decide)).trans w2)
                  · by_cases c0 : kk = 0
                    · rw [if_pos c0] at hw5
                      refine rs1 (if_neg (eqI_n hw5 li_0 (by omega))) ?_
                      refine rs1 (gtP_q (w := some 174) (rk_160 g1.1.1) (rf_15 g1.1.1)) ?_
                      refine rs1 (alI_q (n := 768) (z := 96 * p + r) (w := iI (R.1 2 4 r)) (rk_174 g1.1.1) rfl (by omega) (g1.2.2.2.1.1.gi (st := 96) (by decide) ⟨by omega, by omega⟩ (by omega))) ?_
                      exact hj328 _ (by rw [if_pos (by omega)])
                    · rw [if_neg c0] at hw5
                      refine rs1 (if_pos (eqI_p hw5 li_0 rfl)) ?_
                      exact hj328 _ (by rw [if_neg (by omega)])
                · by_cases c0 : kk = 0
                  · rw [if_pos c0] at hw5
                    refine rs1 (if_neg (eqI_n hw5 li_0 (by omega))) ?_
                    exact hj304 _ (by rw [if_pos (by omega)]; exact li_0)
                  · rw [if_neg c0] at hw5
                    refine rs1 (if_pos (eqI_p hw5 li_0 rfl)) ?_
                    refine rs1 (gtP_q (w := some 195) (rk_160 R0) (rf_44 R0)) ?_
                    refine rs1 (alI_q (n := 4000) (z := U 2 k) (w := iI (G' 0 (U 2 k))) (rk_195 R0) rfl (by omega) ra1) ?_
                    exact hj304 _ (by rw [if_neg (by omega)])
              · by_cases c0 : kk = 0
                · refine rs1 (if_pos (eqI_p hw2 li_0 c0)) ?_
                  exact hj272 _ (by rw [if_pos c0]; exact li_1)
                · refine rs1 (if_neg (eqI_n hw2 li_0 (by omega))) ?_
                  exact hj272 _ (by rw [if_neg c0]; exact li_0)
            · refine rs1 (if_pos (eqI_p rfl li_0 rfl)) ?_
              refine rs1 (jv_e) ?_
              refine rs1 (gtP_q (w := some 205) (rk_160 R0) (rf_59 R0)) ?_
              refine rs1 (alI_q (n := 2000) (z := k) (w := iI (U 4 k)) (rk_205 R0) e1 (by omega) ((fr.c 205 (by decide) _).trans d205)) ?_
              refine rs1 (vC_e (rk_160 R0)) ?_
              refine rs1 (cV_e (ar192 (by omega) hS R0 hr.1 hr.2.1 hr.2.2.2.1 li_4 rfl hi)) ?_
              refine Rt.ok ⟨rfl, Or.inr ⟨k, G', un, r, by omega, st, ul, uo, (sI_nej (by decide)).trans sI_eq, ?_, Fr.sI (by decide) (Fr.sI (by decide) (Fr.m fr (by decide)))⟩⟩
              rw [if_pos cu]; exact sI_eq
          · -- may it stand there
            have go1 : UsO (R.1 2) U k un r → Rt (j245 (iI 1, M3)) _ := fun z => hj245 _ ⟨1, rfl, Or.inl ⟨rfl, z⟩⟩
            have go0 : ¬ UsO (R.1 2) U k un r → Rt (j245 (iI 0, M3)) _ := fun z => hj245 _ ⟨0, rfl, Or.inr ⟨rfl, z⟩⟩
            have vis1 : vis = 1 ∨ vis = 0 := by omega
            have uoI : ∀ (P : Prop), (vis = 1 → (P ↔ KdU (U 7 k) (R.1 2 2 r) (R.1 2 4 r) (U 5 k))) → (vis = 0 → ¬ P) → (P ↔ UsO (R.1 2) U k un r) := fun P h1 h2 => by
              unfold UsO OkU
              rcases hvis with ⟨z, z1, z2⟩ | ⟨z, z1⟩
              · rw [h1 z]; exact ⟨fun w => ⟨z1, z2, w⟩, fun w => w.2.2⟩
              · exact ⟨fun w => absurd w (h2 z), fun w => absurd ⟨w.1, w.2.1⟩ z1⟩
            refine rs1 (swI_c) ?_
            by_cases k0 : U 1 k = 0
            · refine rs1 (if_pos (eqI_p rfl li_0 k0)) ?_
              have q := uoI (0 ≤ kk ∧ kk ≤ 2) (fun z => by have := bkk.2.2 z; unfold KdU; omega) (fun z => by omega)
              by_cases y : 0 ≤ kk ∧ kk ≤ 2
              · refine rs1 (cI_e (z184_1 (by omega) hw2 li_0 li_2 (by omega))) ?_
                exact go1 (q.1 y)
              · refine rs1 (cI_e (z184_0 (by omega) hw2 li_0 li_2 (by omega))) ?_
                exact go0 fun w => y (q.2 w)
            refine rs1 (if_neg (eqI_n rfl li_0 (by omega))) ?_
            refine rs1 (swI_c) ?_
            by_cases k1 : U 1 k = 1
            · refine rs1 (if_pos (eqI_p rfl li_1 k1)) ?_
              have q := uoI (1 ≤ kk ∧ kk ≤ 2) (fun z => by have := bkk.2.2 z; unfold KdU; omega) (fun z => by omega)
              by_cases y : 1 ≤ kk ∧ kk ≤ 2
              · refine rs1 (cI_e (z184_1 (by omega) hw2 li_1 li_2 (by omega))) ?_
                exact go1 (q.1 y)
              · refine rs1 (cI_e (z184_0 (by omega) hw2 li_1 li_2 (by omega))) ?_
                exact go0 fun w => y (q.2 w)
            refine rs1 (if_neg (eqI_n rfl li_1 (by omega))) ?_
            refine rs1 (swI_c) ?_
            have q3 := fun (z : U 1 k = 2 ∨ U 1 k = 3) => uoI (kk = 3) (fun z => by have := bkk.2.2 z; unfold KdU; omega) (fun z => by omega)
            by_cases k2 : U 1 k = 2
            · refine rs1 (if_pos (eqI_p rfl li_2 k2)) ?_
              refine rs1 (jn_v) ?_
              by_cases y : kk = 3
              · refine rs1 (if_pos (eqI_p hw2 li_3 y)) ?_
                refine rs1 (jv_e) ?_
                rw [li_1]; exact go1 ((q3 (Or.inl k2)).1 y)
              · refine rs1 (if_neg (eqI_n hw2 li_3 (by omega))) ?_
                refine rs1 (jv_e) ?_
                rw [li_0]; exact go0 fun w => y ((q3 (Or.inl k2)).2 w)
            refine rs1 (if_neg (eqI_n rfl li_2 (by omega))) ?_
            refine rs1 (swI_c) ?_
            by_cases k3 : U 1 k = 3
            · refine rs1 (if_pos (eqI_p rfl li_3 k3)) ?_
              refine rs1 (jn_v) ?_
              by_cases y : kk = 3
              · refine rs1 (if_pos (eqI_p hw2 li_3 y)) ?_
                refine rs1 (jv_e) ?_
                rw [li_1]; exact go1 ((q3 (Or.inr k3)).1 y)
              · refine rs1 (if_neg (eqI_n hw2 li_3 (by omega))) ?_
                refine rs1 (jv_e) ?_
                rw [li_0]; exact go0 fun w => y ((q3 (Or.inr k3)).2 w)
            refine rs1 (if_neg (eqI_n rfl li_3 (by omega))) ?_
            refine rs1 (swI_n) ?_
            refine rs1 (jn_v) ?_
            refine rs1 (jn_v) ?_
            have q := uoI (kk = 4 ∧ iI (R.1 2 4 r) = iI (U 5 k)) (fun z => ⟨fun w => Or.inr (Or.inr (Or.inr ⟨by omega, by omega, w.2⟩)), fun w => by rcases w with w | w | w | w; omega; omega; omega; exact ⟨by omega, w.2.2⟩⟩) (fun z w => by omega)
            by_cases y : kk = 4
            · have r0 : 0 ≤ r ∧ r < R.1 2 0 0 := by
                rcases hkk with ⟨z, z2⟩ | ⟨z, z2⟩
                · rcases hvis with w | w <;> omega
                · omega
              refine rs1 (if_pos (eqI_p hw2 li_4 y)) ?_
              refine rs1 (gtP_q (w := some 174) (rk_160 R0) (rf_15 R0)) ?_
              refine rs1 (alI_q (n := 768) (z := 96 * p + r) (w := iI (R.1 2 4 r)) (rk_174 R0) rfl (by omega) (g.2.2.2.1.1.gi (st := 96) (by decide) ⟨by omega, by omega⟩ (by omega))) ?_
              refine rs1 (gtP_q (w := some 206) (rk_160 R0) (rf_60 R0)) ?_
              refine rs1 (alI_q (n := 2000) (z := k) (w := iI (U 5 k)) (rk_206 R0) e1 (by omega) ((fr.c 206 (by decide) _).trans d206)) ?_
              have hbr := hb r r0.1 r0.2
              by_cases y2 : iI (R.1 2 4 r) = iI (U 5 k)
              · refine rs1 (if_pos y2) ?_
                refine rs1 (jv_e) ?_
                rw [li_1]; exact go1 (q.1 ⟨y, y2⟩)
              · refine rs1 (if_neg y2) ?_
                refine rs1 (jv_e) ?_
                refine rs1 (jv_e) ?_
                rw [li_0]; exact go0 fun w => y2 (q.2 w).2
            · refine rs1 (if_neg (eqI_n hw2 li_4 (by omega))) ?_
              refine rs1 (jv_e) ?_
              refine rs1 (jv_e) ?_
              rw [li_0]; exact go0 fun w => y (q.2 w).1
        · rcases hvis with ⟨z, z1, z2⟩ | ⟨z, z1⟩
          · refine rs1 (if_neg (eqI_n hw li_0 (by omega))) ?_
            refine rs1 (gtP_q (w := some 172) (rk_160 R0) (rf_13 R0)) ?_
            refine rs1 (alI_q (n := 768) (z := 96 * p + r) (w := iI (R.1 2 2 r)) (rk_172 R0) rfl (by omega) (g.2.2.2.1.1.gi (st := 96) (by decide) ⟨by omega, by omega⟩ (by omega))) ?_
            exact hj136 _ ⟨_, rfl, Or.inl ⟨z, rfl⟩⟩
          · refine rs1 (if_pos (eqI_p hw li_0 z)) ?_
            exact hj136 _ ⟨-1, li_m1, Or.inr ⟨z, rfl⟩⟩
      · refine rs1 (jn_v) ?_
        rcases hrb with r0 | r0
        · have hbr := hb r r0.1 r0.2
          refine rs1 (if_neg (lsI_n rfl li_0 (by omega))) ?_
          refine rs1 (gtP_q (w := some 173) (rk_160 R0) (rf_14 R0)) ?_
          refine rs1 (alX_q (n := 768) (z := 96 * p + r) (w := iI (R.1 2 3 r)) (rk_173 R0) rfl (by omega) (g.2.2.2.1.1.gi (st := 96) (by decide) ⟨by omega, by omega⟩ (by omega))) ?_
          refine rs1 (jn_v) ?_
          by_cases c3 : R.1 2 3 r = 0
          · refine rs1 (if_pos (eqI_p rfl li_0 c3)) ?_
            refine rs1 (jv_e) ?_
            exact hj118 _ ⟨1, li_1, Or.inl ⟨rfl, r0.1, Or.inl c3⟩⟩
          · refine rs1 (if_neg (eqI_n rfl li_0 (by omega))) ?_
            refine rs1 (gtP_q (w := some 207) (rk_160 R0) (rf_61 R0)) ?_
            refine rs1 (alI_q (n := 2000) (z := k) (w := iI (U 6 k)) (rk_207 R0) e1 (by omega) ((fr.c 207 (by decide) _).trans d207)) ?_
            by_cases c6 : un = U 6 k
            · refine rs1 (if_pos (eqI_p rfl rfl c6)) ?_
              refine rs1 (jv_e) ?_
              exact hj118 _ ⟨1, li_1, Or.inl ⟨rfl, r0.1, Or.inr c6⟩⟩
            · refine rs1 (if_neg (eqI_n rfl rfl (by omega))) ?_
              refine rs1 (jv_e) ?_
              exact hj118 _ ⟨0, li_0, Or.inr ⟨rfl, fun w => by omega⟩⟩
        · refine rs1 (if_pos (lsI_p rfl li_0 (by omega))) ?_
          refine rs1 (jv_e) ?_
          exact hj118 _ ⟨0, li_0, Or.inr ⟨rfl, fun w => by omega⟩⟩
    · refine rs1 (if_neg (leI_n li_0 rfl (by omega))) ?_
      refine rs1 (jv_e) ?_
      refine rs1 (gtP_q (w := some 203) (rk_160 R0) (rf_57 R0)) ?_
      refine rs1 (alI_q (n := 2000) (z := k) (w := iI (U 3 k)) (rk_203 R0) e1 (by omega) ((fr.c 203 (by decide) _).trans d203)) ?_
      refine rs1 (vC_e (rk_160 R0)) ?_
      refine rs1 (cV_e (ar192 (by omega) hS R0 hr.1 hr.2.1 hr.2.2.2.1 li_4 rfl hi)) ?_
      refine Rt.ok ⟨rfl, Or.inr ⟨k, G', un, -1, by omega, st, ⟨hun, Or.inr ⟨rfl, fun j a b w => ?_⟩⟩, fun w => absurd w.1 (by omega), (sI_nej (by decide)).trans sI_eq, ?_, Fr.sI (by decide) (Fr.sI (by decide) (Fr.m fr (by decide)))⟩⟩
      · have h1 := hb j a b
        rw [if_pos (by omega)] at w
        exact eqI_n (x := R.1 2 1 j) (y := -2) rfl rfl (by omega) w.1
      · rw [if_neg cu]; exact sI_eq
  · by_cases cw : X 0 k = 0
    · refine rs1 (if_pos (lgc_p rfl rfl cw)) ?_
      refine rs1 (gtP_q (w := some 207) (rk_160 R0) (rf_61 R0)) ?_
      refine rs1 (alI_q (n := 2000) (z := k) (w := iI (U 6 k)) (rk_207 R0) e1 (by omega) ((fr.c 207 (by decide) _).trans d207)) ?_
      exact hj48 _ ⟨U 6 k, rfl, Or.inl ⟨cw, rfl⟩, by omega, by omega⟩
    · refine rs1 (if_neg (lgc_n rfl rfl cw)) ?_
      refine rs1 (gtP_q (w := some 202) (rk_160 R0) (rf_56 R0)) ?_
      refine rs1 (alL_q (n := 2000) (z := k) (w := X 0 k) (rk_202 R0) e1 (by omega) ((fr.lc 202 (by decide) _).trans d202)) ?_
      refine rs1 (vC_e (rk_160 R0)) ?_
      refine Rc_I (a227 (y := X 0 k) (by omega) R0 g.2.2.2.1.1 hv1 hp ⟨hn.1, hn.2.1⟩) fun v Mx ⟨r, hv, hMx, lc⟩ => ?_
      subst hv
      rw [hMx]
      refine rs1 (cI_e rfl) ?_
      have := lc.bd
      exact hj48 _ ⟨r, rfl, Or.inr ⟨cw, lc⟩, by omega, by omega⟩
end S81
