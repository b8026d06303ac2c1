/-! the words of a text are settled: the first object -/
/-- use j stands for r -/
def sU (U B : Nat → Int → Int) (G : Nat → Int → Int) (j r : Int) : Nat → Int → Int := fun f i => if i = U 2 j then (if f = 0 then (if B 2 r = 0 then 0 else G 0 i) else if f = 1 ∨ f = 3 then (if B 2 r = 0 then B 4 r else r) else G f i) else G f i
/-- what use j is looked up as -/
def UsL (X1 X2 : Int → Int64) (n1 n2 : Int) (B U : Nat → Int → Int) (X : Nat → Int → Int64) (j un r : Int) : Prop := UnF X1 n1 (U 6 j) (X 0 j) un ∧ MbF (B 1) X2 n2 (if un = -1 then -2 else un) (X 1 j) r
def UsO (B U : Nat → Int → Int) (j un r : Int) : Prop := OkU (B 3 r) (B 2 r) (B 4 r) un (U 6 j) (U 7 j) (U 5 j) r
/-- k uses are settled -/
def SetU (X1 X2 : Int → Int64) (n1 n2 : Int) (B U : Nat → Int → Int) (X : Nat → Int → Int64) (G : Nat → Int → Int) : Nat → (Nat → Int → Int) → Prop
  | 0, G' => G' = G
  | k + 1, G' => ∃ G1 un r, SetU X1 X2 n1 n2 B U X G k G1 ∧ UsL X1 X2 n1 n2 B U X k un r ∧ UsO B U k un r ∧ G' = sU U B G1 k r
section S80
variable {d k : Nat} {n m n1 n2 i e s uc u un r j : Int} {kd pl E : Int → Int} {tx : Int → Int64} {M0 M1 M M2 : Mem} {N TT ex : Nat} {H : HG} {t : TS} {G G1 G2 U B : Nat → Int → Int} {X : Nat → Int → Int64} {X1 X2 : Int → Int64}
theorem UnF.one {u6 : Int} {w : Int64} {un2 : Int} (h : UnF X1 n1 u6 w un) (g : UnF X1 n1 u6 w un2) : un = un2 := by
  rcases h with ⟨a, b⟩ | ⟨a, b⟩
  · rcases g with ⟨c, d⟩ | ⟨c, d⟩
    · omega
    · exact absurd a c
  · rcases g with ⟨c, d⟩ | ⟨c, d⟩
    · exact absurd c a
    · exact b.one d
theorem UsL.one {un2 r2 : Int} (h : UsL X1 X2 n1 n2 B U X j un r) (g : UsL X1 X2 n1 n2 B U X j un2 r2) : un = un2 ∧ r = r2 := by
  have := h.1.one g.1
  subst this
  exact ⟨rfl, h.2.one g.2⟩
theorem SetU.one : ∀ {k : Nat} {G1 G2 : Nat → Int → Int}, SetU X1 X2 n1 n2 B U X G k G1 → SetU X1 X2 n1 n2 B U X G k G2 → G1 = G2
  | 0, _, _, h, g => Eq.trans h (Eq.symm g)
  | k + 1, _, _, ⟨Ga, un, r, a1, a2, a3, a4⟩, ⟨Gb, un2, r2, b1, b2, b3, b4⟩ => by
    have e := SetU.one a1 b1
    obtain ⟨rfl, rfl⟩ := a2.one b2
    rw [a4, b4, e]
theorem CQ.a72 (h : CQ m kd pl tx N TT ex M0 M1 e s uc M H t) (f : Fr [(72, 9999), (73, 9999)] M M2) : CQ m kd pl tx N TT ex M0 M2 e s uc M2 H t := by
  have g : ∀ j, M2.1 65 j = M.1 65 j := fun j => f.i 65 j (by rfl)
  refine ⟨⟨h.1.1.fr f, h.1.2.fr f (by decide)⟩, ⟨h.2.1.1.tr ((f.n h.nn (by decide)).m (by decide)), rfl⟩, fun _ => FN.z ⟨h.nn.1, by rw [f.lq]; exact h.nn.2⟩, h.2.2.2.1.fr f (by decide), ?_⟩
  rcases h.2.2.2.2 with ⟨h0, ⟨a1, a2, a3, a4, a5, a6⟩, hb⟩ | ⟨h1, i, sz, sn, u2, b1, b2, b3, b4, b5, b6, b7, b8⟩
  · exact Or.inl ⟨h0, ⟨(g _).trans a1, (g _).trans a2, (g _).trans a3, (g _).trans a4, (g _).trans a5, (g _).trans a6⟩, hb⟩
  · exact Or.inr ⟨h1, i, sz, sn, u2, (g _).trans b1, (g _).trans b2, (g _).trans b3, (g _).trans b4, (g _).trans b5, (g _).trans b6, (g _).trans b7, b8⟩
theorem SetU.k2 : ∀ {k : Nat} {G1 : Nat → Int → Int}, SetU X1 X2 n1 n2 B U X G k G1 → ∀ f i, f ≠ 0 ∧ f ≠ 1 ∧ f ≠ 3 → G1 f i = G f i
  | 0, _, h, f, i, _ => by rw [h]
  | k + 1, _, ⟨Ga, un, r, a1, a2, a3, a4⟩, f, i, q => by
    rw [a4]
    show (if i = U 2 k then (if f = 0 then _ else if f = 1 ∨ f = 3 then _ else Ga f i) else Ga f i) = _
    rw [if_neg (show ¬ f = 0 by omega), if_neg (show ¬ (f = 1 ∨ f = 3) by omega)]
    split <;> exact SetU.k2 a1 f i q
/-- all uses of a text, in the first object -/
theorem a107 (hd : 9 ≤ d) (h : CQ m kd pl tx N TT ex M0 M1 e s uc M H t) (h0 : t.2.1 = 0) (hc : CA1 M G e) (hU : CU M U X u uc) (he : 0 ≤ e ∧ e ≤ 4000) (huc : 0 ≤ u ∧ 0 ≤ uc ∧ uc ≤ 1400) (hu : ∀ q, 0 ≤ q → q < u → (0 ≤ U 6 q ∧ U 6 q ≤ 7) ∧ (1 ≤ U 7 q ∧ U 7 q ≤ 4) ∧ U 8 q = U 2 q ∧ (0 ≤ U 2 q ∧ U 2 q < e) ∧ (U 7 q = 4 → U 9 q = U 5 q)) (hb : ∀ r, 0 ≤ r → r < hEN H 2 → (0 ≤ hEF H 2 2 r ∧ hEF H 2 2 r ≤ 4) ∧ (0 ≤ hEF H 2 3 r ∧ hEF H 2 3 r ≤ 1)) : Rt (runX d 107 [va_rf (some 65)] M) (fun v M2 => v = .null ∧ ((∃ G', SetU (hEX H 1) (hEX H 2) (hEN H 1) (hEN H 2) (hEF H 2) U X G u.toNat G' ∧ CA1 M2 G' e ∧ CQ m kd pl tx N TT ex M0 M2 e s uc M2 H t ∧ Fr [(72, 9999), (73, 9999)] M M2) ∨ (∃ (k : Nat) (G' : Nat → Int → Int) (un r : Int), (k : Int) < u ∧ SetU (hEX H 1) (hEX H 2) (hEN H 1) (hEN H 2) (hEF H 2) U X G k G' ∧ UsL (hEX H 1) (hEX H 2) (hEN H 1) (hEN H 2) (hEF H 2) U X k un r ∧ ¬ UsO (hEF H 2) U k un r ∧ M2.1 65 10 = iI 4 ∧ M2.1 65 11 = iI (if 0 ≤ un then U 4 k else U 10 k) ∧ Fr [(72, 9999), (73, 9999), (65, 10), (65, 11)] M M2))) := by
  obtain ⟨d, rfl⟩ : ∃ e, d = e + 1 := ⟨d - 1, by omega⟩
  rw [r107]; unfold b107; rw [aR_e, aZ_e]; unfold c107
  refine rs1 (jn_v) ?_
  refine Rt.lp (fun mm q => (∃ (x : Int) (k : Nat) (G' : Nat → Int → Int), q.1 = iI x ∧ 0 ≤ x ∧ x ≤ uc ∧ (k : Int) ≤ u ∧ (∀ q' : Int, 0 ≤ q' → q' < (k : Int) → U 0 q' < x) ∧ (∀ q', (k : Int) ≤ q' → q' < u → x ≤ U 0 q') ∧ SetU (hEX H 1) (hEX H 2) (hEN H 1) (hEN H 2) (hEF H 2) U X G k G' ∧ CA1 q.2 G' e ∧ CQ m kd pl tx N TT ex M0 q.2 e s uc q.2 H t ∧ Fr [(72, 9999), (73, 9999)] M q.2 ∧ mm = (uc - x).toNat + 1) ∨ (∃ (x : Int) (k : Nat) (G' : Nat → Int → Int) (un r : Int), q.1 = iI x ∧ 0 ≤ x ∧ x ≤ uc ∧ (k : Int) < u ∧ SetU (hEX H 1) (hEX H 2) (hEN H 1) (hEN H 2) (hEF H 2) U X G k G' ∧ UsL (hEX H 1) (hEX H 2) (hEN H 1) (hEN H 2) (hEF H 2) U X k un r ∧ ¬ UsO (hEF H 2) U k un r ∧ q.2.1 65 10 = iI 4 ∧ q.2.1 65 11 = iI (if 0 ≤ un then U 4 k else U 10 k) ∧ Fr [(72, 9999), (73, 9999), (65, 10), (65, 11)] M q.2 ∧ mm = 0)) (fun mm q go hq hgo => ?_) (uc.toNat + 1) _ _ (by omega) (Or.inl ⟨0, 0, G, li_0, Int.le_refl _, huc.2.1, huc.1, fun q' a b => absurd b (by omega), fun q' a b => ((hU.1 q' (by omega) b).1).1, rfl, hc, h.re, Fr.r, by omega⟩)
  obtain ⟨q1, M3⟩ := q
  unfold c107_2
  dsimp only at hq ⊢
  rcases hq with ⟨x, k, G', e1, x0, x1, ku, lo, hi, st, ca, g, fr, mmE⟩ | ⟨x, k, G', un, r, e1, x0, x1, ku, st, ul, uo, m10, m11, fr, mmE⟩
  · obtain ⟨⟨c1, c2, c3, c4, c5, c6⟩, -⟩ := g.sc h0
    refine rs1 (gtI_q (ck_65 g.1.1) c6) ?_
    by_cases cx : uc ≤ x
    · refine rs1 (if_pos (leI_p rfl e1 (by omega))) ?_
      refine rs1 (jv_e) ?_
      have : k = u.toNat := by
        rcases Int.lt_or_le (k : Int) u with w | w
        · have := hi k (Int.le_refl _) w
          have := ((hU.1 k (by omega) w).1).2
          omega
        · omega
      subst this
      exact Rt.ok ⟨rfl, Or.inl ⟨G', st, ca, g, fr⟩⟩
    · refine rs1 (if_neg (leI_n rfl e1 (by omega))) ?_
      refine rs1 (gtI_q (ck_65 g.1.1) c3) ?_
      refine rs1 (if_pos (eqI_p rfl li_0 rfl)) ?_
      refine rs1 (gtP_q (w := some 77) (ck_65 g.1.1) (cf_65_17 g.1.1)) ?_
      refine rs1 (alP_q (n := 6) (z := 0) (w := some 78) (ck_77 g.1.1) li_0 (by omega) (cf_77_0 g.1.1)) ?_
      by_cases ex_ : (k : Int) < u ∧ U 0 k = x
      · obtain ⟨ku2, eU⟩ := ex_
        obtain ⟨-, d78, d79, d80, d81, d82, d83, d85, d86⟩ := hU.1 k (by omega) ku2
        obtain ⟨b6, b7, b8, b2, b9⟩ := hu k (by omega) ku2
        rw [eU] at d78 d79 d80 d81 d82 d83 d85 d86
        refine rs1 (alI_q (n := 1500) (z := x) (w := iI (U 7 k)) (ck_78 g.1.1) e1 (by omega) ((fr.c 78 (by decide) _).trans d78)) ?_
        refine rs1 (jn_v) ?_
        refine rs1 (if_neg (eqI_n rfl li_0 (by omega))) ?_
        refine rs1 (vC_e (ck_65 g.1.1)) ?_
        refine Rc_V (a108 (c := U 2 k) (by omega) g.1.1 g.2.2.2.1 e1 (by omega) ((fr.c 78 (by decide) _).trans d78) ((fr.c 79 (by decide) _).trans (by rw [d79, b8])) ((fr.c 80 (by decide) _).trans d80) ((fr.c 81 (by decide) _).trans d81) ((fr.c 82 (by decide) _).trans d82) ((fr.c 83 (by decide) _).trans d83) ((fr.lc 85 (by decide) _).trans d85) ((fr.lc 86 (by decide) _).trans d86) b7 (by omega) b6 hb) fun v M5 ⟨un, r, hun, hr, hq⟩ => ?_
        have oq : OkU (hEF H 2 3 r) (hEF H 2 2 r) (hEF H 2 4 r) un (U 6 k) (U 7 k) (U 9 k) r ↔ UsO (hEF H 2) U k un r := by
          unfold UsO OkU KdU
          by_cases z : U 7 k = 4
          · rw [b9 z]
          · constructor <;> intro w <;> exact ⟨w.1, w.2.1, by have := w.2.2; omega⟩
        refine rs1 (cV_e rfl) ?_
        refine rs1 (jv_e) ?_
        refine rs1 (ltI_q (z := x + 1) (cvI (adI e1 li_1) (by omega))) ?_
        rcases hq with ⟨nok, hM5⟩ | ⟨ok, hM5⟩
        · refine hgo 0 _ (by omega) (Or.inr ⟨x + 1, k, G', un, r, rfl, by omega, by omega, ku2, st, ⟨hun, hr⟩, fun w => nok (oq.2 w), ?_, ?_, ?_, rfl⟩)
          · show M5.1 65 10 = _
            rw [hM5]; exact (sI_nej (by decide)).trans sI_eq
          · show M5.1 65 11 = _
            rw [hM5]; exact sI_eq
          · show Fr _ M M5
            rw [hM5]; exact Fr.sI (by decide) (Fr.sI (by decide) (Fr.m fr (by decide)))
        · have f5 : Fr [(72, 9999), (73, 9999)] M3 M5 := by
            rcases hM5 with ⟨-, z⟩ | ⟨-, z⟩
            · rw [z]; exact Fr.sI (inW_c (by decide) _) (Fr.sI (inW_c (by decide) _) Fr.r)
            · rw [z]; exact Fr.sI (inW_c (by decide) _) Fr.r
          refine hgo ((uc - (x + 1)).toNat + 1) _ (by omega) (Or.inl ⟨x + 1, k + 1, sU U (hEF H 2) G' k r, rfl, by omega, by omega, by omega, fun q' a b => ?_, fun q' a b => ?_, ⟨G', un, r, st, ⟨hun, hr⟩, oq.1 ok, rfl⟩, fun i a b => ?_, g.a72 f5, Fr.t fr f5, rfl⟩)
          · by_cases w : q' = k
            · rw [w]; omega
            · have := lo q' a (by omega); omega
          · have := hU.2.1 k q' (by omega) (by omega) b
            omega
          · obtain ⟨w1, w2, w3⟩ := ca i a b
            show M5.1 72 i.toNat = iI (if i = U 2 k then (if hEF H 2 2 r = 0 then 0 else G' 0 i) else G' 0 i) ∧ M5.1 73 i.toNat = iI (if i = U 2 k then (if hEF H 2 2 r = 0 then hEF H 2 4 r else r) else G' 1 i) ∧ M5.1 74 i.toNat = iI (if i = U 2 k then G' 2 i else G' 2 i)
            rw [ite_self]
            refine ⟨?_, ?_, (f5.c 74 (by decide) _).trans w3⟩
            · by_cases y : i = U 2 k
              · rw [if_pos y]
                rcases hM5 with ⟨z1, z⟩ | ⟨z1, z⟩
                · rw [z, if_pos z1, y]; exact (sI_ne (by decide)).trans sI_eq
                · rw [z, if_neg z1]; exact (sI_ne (by decide)).trans w1
              · rw [if_neg y]
                rcases hM5 with ⟨z1, z⟩ | ⟨z1, z⟩
                · rw [z]; exact (sI_ne (by decide)).trans ((sI_nej (by omega)).trans w1)
                · rw [z]; exact (sI_ne (by decide)).trans w1
            · by_cases y : i = U 2 k
              · rw [if_pos y]
                rcases hM5 with ⟨z1, z⟩ | ⟨z1, z⟩
                · rw [z, if_pos z1, y]; exact sI_eq
                · rw [z, if_neg z1, y]; exact sI_eq
              · rw [if_neg y]
                rcases hM5 with ⟨z1, z⟩ | ⟨z1, z⟩
                · rw [z]; exact (sI_nej (by omega)).trans ((sI_ne (by decide)).trans w2)
                · rw [z]; exact (sI_nej (by omega)).trans w2
      · have no : ∀ q', 0 ≤ q' → q' < u → U 0 q' ≠ x := fun q' a b w => by
          rcases Int.lt_or_le q' (k : Int) with y | y
          · have := lo q' a y; omega
          · by_cases y2 : q' = k
            · rw [y2] at w b; exact ex_ ⟨b, w⟩
            · have h1 := hU.2.1 k q' (by omega) (by omega) b
              have h2 := hi k (Int.le_refl _) (by omega)
              omega
        refine rs1 (alI_q (n := 1500) (z := x) (w := iI 0) (ck_78 g.1.1) e1 (by omega) ((fr.c 78 (by decide) _).trans (hU.2.2 x x0 (by omega) no))) ?_
        refine rs1 (jn_v) ?_
        refine rs1 (if_pos (eqI_p rfl li_0 rfl)) ?_
        refine rs1 (jv_e) ?_
        refine rs1 (ltI_q (z := x + 1) (cvI (adI e1 li_1) (by omega))) ?_
        refine hgo ((uc - (x + 1)).toNat + 1) _ (by omega) (Or.inl ⟨x + 1, k, G', rfl, by omega, by omega, ku, fun q' a b => by have := lo q' a b; omega, fun q' a b => by have := hi q' a b; have := no q' (by omega) b; omega, st, ca, g, fr, rfl⟩)
  · have hC := h.1.1.fr fr
    obtain ⟨⟨c1, c2, c3, c4, c5, c6⟩, -⟩ := h.sc h0
    refine rs1 (gtI_q (ck_65 hC) ((fr.i _ _ (by decide)).trans c6)) ?_
    have done : Rt ((jv fun s1 => some (.null, s1)) M3) (fun v M2 => v = .null ∧ ((∃ G', SetU (hEX H 1) (hEX H 2) (hEN H 1) (hEN H 2) (hEF H 2) U X G u.toNat G' ∧ CA1 M2 G' e ∧ CQ m kd pl tx N TT ex M0 M2 e s uc M2 H t ∧ Fr [(72, 9999), (73, 9999)] M M2) ∨ (∃ (k : Nat) (G' : Nat → Int → Int) (un r : Int), (k : Int) < u ∧ SetU (hEX H 1) (hEX H 2) (hEN H 1) (hEN H 2) (hEF H 2) U X G k G' ∧ UsL (hEX H 1) (hEX H 2) (hEN H 1) (hEN H 2) (hEF H 2) U X k un r ∧ ¬ UsO (hEF H 2) U k un r ∧ M2.1 65 10 = iI 4 ∧ M2.1 65 11 = iI (if 0 ≤ un then U 4 k else U 10 k) ∧ Fr [(72, 9999), (73, 9999), (65, 10), (65, 11)] M M2))) := by
      refine rs1 (jv_e) ?_
      exact Rt.ok ⟨rfl, Or.inr ⟨k, G', un, r, ku, st, ul, uo, m10, m11, fr⟩⟩
    by_cases cx : uc ≤ x
    · refine rs1 (if_pos (leI_p rfl e1 (by omega))) ?_
      exact done
    · refine rs1 (if_neg (leI_n rfl e1 (by omega))) ?_
      refine rs1 (gtI_q (ck_65 hC) m10) ?_
      refine rs1 (if_neg (eqI_n rfl li_0 (by omega))) ?_
      exact done
end S80
