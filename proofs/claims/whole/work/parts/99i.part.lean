/-! the first object's machine: DOUBLES -/
section S99i
variable {d : Nat} {e s s' u : ZS} {κ : ZK} {M M' M1 M2 : Mem} {a b j N x y T : Nat} {v v1 v2 v3 w : Int32} {c t k i n p o q id fl ar st key par r B h : Int} {Y : Nat → Int → Int}
theorem zTw_k (hC : CT M) (hq : 0 ≤ q ∧ q < 8) : (M.2.2.2[zTw q]? = some (10, 9) ∧ M.2.2.2[zTw q + 1]? = some (100, 32) ∧ M.2.2.2[zTw q + 2]? = some (100, 200) ∧ M.2.2.2[zTw q + 3]? = some (100, 50)) ∧ (M.2.2.1 (zTw q) 3 = some (zTw q + 1) ∧ M.2.2.1 (zTw q) 5 = some (zTw q + 2) ∧ M.2.2.1 (zTw q) 6 = some (zTw q + 3)) ∧ M.2.2.1 90 (7 - q).toNat = some (zTw q) := by
  have c : q = 0 ∨ q = 1 ∨ q = 2 ∨ q = 3 ∨ q = 4 ∨ q = 5 ∨ q = 6 ∨ q = 7 := by omega
  rcases c with c | c | c | c | c | c | c | c <;> subst c
  · exact ⟨⟨ck_136 hC, ck_137 hC, ck_138 hC, ck_139 hC⟩, ⟨cf_136_3 hC, cf_136_5 hC, cf_136_6 hC⟩, cf_90_7 hC⟩
  · exact ⟨⟨ck_132 hC, ck_133 hC, ck_134 hC, ck_135 hC⟩, ⟨cf_132_3 hC, cf_132_5 hC, cf_132_6 hC⟩, cf_90_6 hC⟩
  · exact ⟨⟨ck_128 hC, ck_129 hC, ck_130 hC, ck_131 hC⟩, ⟨cf_128_3 hC, cf_128_5 hC, cf_128_6 hC⟩, cf_90_5 hC⟩
  · exact ⟨⟨ck_124 hC, ck_125 hC, ck_126 hC, ck_127 hC⟩, ⟨cf_124_3 hC, cf_124_5 hC, cf_124_6 hC⟩, cf_90_4 hC⟩
  · exact ⟨⟨ck_120 hC, ck_121 hC, ck_122 hC, ck_123 hC⟩, ⟨cf_120_3 hC, cf_120_5 hC, cf_120_6 hC⟩, cf_90_3 hC⟩
  · exact ⟨⟨ck_116 hC, ck_117 hC, ck_118 hC, ck_119 hC⟩, ⟨cf_116_3 hC, cf_116_5 hC, cf_116_6 hC⟩, cf_90_2 hC⟩
  · exact ⟨⟨ck_112 hC, ck_113 hC, ck_114 hC, ck_115 hC⟩, ⟨cf_112_3 hC, cf_112_5 hC, cf_112_6 hC⟩, cf_90_1 hC⟩
  · exact ⟨⟨ck_108 hC, ck_109 hC, ck_110 hC, ck_111 hC⟩, ⟨cf_108_3 hC, cf_108_5 hC, cf_108_6 hC⟩, cf_90_0 hC⟩
/-- standsFor() -/
theorem zc122 (hd : 1 ≤ d) (hC : CT M) (hE : zE7 e M) (hq : 0 ≤ q ∧ q < 8) (hv1 : v1 = iI p) (hv2 : v2 = iI n) (hp : 0 ≤ p ∧ p ≤ 1000) (hn : 0 ≤ n ∧ n ≤ 1000) : ∃ r, runX d 122 [va_rf (some (zTw q)), .int v1, .int v2] M = some (.int r, M) ∧ (r = 1 ∧ zStd M q p n ∨ r = 0 ∧ ¬ zStd M q p n) := by
  obtain ⟨d, rfl⟩ : ∃ e, d = e + 1 := ⟨d - 1, by omega⟩
  subst hv1; subst hv2
  obtain ⟨⟨k1, -⟩, -⟩ := zTw_k hC hq
  obtain ⟨m, pp, mm, a0, b1, b2, a7, b3, b4, a8, b5, b6⟩ := (hE.1 q hq.1 hq.2).1
  have un : zStd M q p n ↔ 0 ≤ m ∧ pp = p ∧ mm = n := by
    unfold zStd
    rw [a0, a7, a8]
    constructor
    · rintro ⟨z, c1, c2, c3, c4, c5⟩
      have q1 := V_i (M := M) (a := zTw q) (j := 0) a0 (by omega)
      have q2 := V_i (M := M) (a := zTw q) (j := 0) (z := z) (a0.trans c1) (by omega)
      have q3 := V_i (M := M) (a := zTw q) (j := 7) a7 (by omega)
      have q4 := V_i (M := M) (a := zTw q) (j := 7) (z := p) (a7.trans c4) (by omega)
      have q5 := V_i (M := M) (a := zTw q) (j := 8) a8 (by omega)
      have q6 := V_i (M := M) (a := zTw q) (j := 8) (z := n) (a8.trans c5) (by omega)
      omega
    · rintro ⟨z1, z2, z3⟩
      exact ⟨m, rfl, z1, b2, by rw [z2], by rw [z3]⟩
  rw [r122]; unfold b122; rw [aR_e, aI_e, aI_e, aZ_e]; unfold c122
  rw [gtI_q k1 a0, jn_v, jn_v]
  by_cases y1 : m < 0
  · exact ⟨0, by rw [if_pos (lsI_p rfl li_0 (by omega))]; rfl, Or.inr ⟨rfl, fun z => by have := un.1 z; omega⟩⟩
  rw [if_neg (lsI_n rfl li_0 (by omega)), gtI_q k1 a7]
  by_cases y2 : pp = p
  · rw [if_pos (eqI_p rfl rfl y2), gtI_q k1 a8]
    by_cases y3 : mm = n
    · exact ⟨1, by rw [if_pos (eqI_p rfl rfl y3)]; rfl, Or.inl ⟨rfl, un.2 ⟨by omega, y2, y3⟩⟩⟩
    · exact ⟨0, by rw [if_neg (eqI_n rfl rfl (by omega))]; rfl, Or.inr ⟨rfl, fun z => y3 (un.1 z).2.2⟩⟩
  · exact ⟨0, by rw [if_neg (eqI_n rfl rfl (by omega))]; rfl, Or.inr ⟨rfl, fun z => y2 (un.1 z).2.1⟩⟩
/-- the RULE that fits -/
theorem fit_lp {rec : Nat → List Value → Mem → XA} (hC : CT M) (hE : zE7 e M) (hq : 0 ≤ q ∧ q < 8) (hB : 0 ≤ B ∧ B + par ≤ 2520) (hp : ∀ r, 0 ≤ r → r < e.1 12 q 0 → -1 ≤ e.1 13 q r ∧ e.1 13 q r < par) (hS : ∀ x, 0 ≤ x → x < par → M.1 92 (B + x).toNat = s.2 1 (zf s) (zh s - par + x)) : ∀ (k : Nat) (N : Nat), k < N → (k : Int) ≤ e.1 12 q 0 → lp (c124_7 rec (some (zTw q)) (some 92) (iI B) M (jv fun (s3 : Int32) => some (.int s3, M)) (jv fun (_ : Unit) => some (.int ((-2 : Int32)), M))) N (iI ((k : Int) - 1)) = some (.int (iI (zrl e s q par k)), M)
  | 0, N, h1, h2 => by
    obtain ⟨N, rfl⟩ : ∃ e, N = e + 1 := ⟨N - 1, by omega⟩
    rw [lp_e]
    unfold c124_7
    rw [if_pos (lsI_p rfl li_0 (by omega))]
    rfl
  | k + 1, N, h1, h2 => by
    obtain ⟨N, rfl⟩ : ∃ e, N = e + 1 := ⟨N - 1, by omega⟩
    obtain ⟨⟨k1, k2, -, -⟩, ⟨f3, -, -⟩, -⟩ := zTw_k hC hq
    obtain ⟨-, a2, a3, a4⟩ := hE.1 q hq.1 hq.2
    obtain ⟨c1, c2, -, -, -⟩ := a4 k (by omega) (by omega)
    have p1 := hp k (by omega) (by omega)
    have ih := fit_lp (rec := rec) hC hE hq hB hp hS k N (by omega) (by omega)
    have ek : (((k + 1 : Nat) : Int) - 1) = (k : Int) := by omega
    rw [lp_e, ek]
    unfold c124_7
    have e0 : iI (k : Int) * 4 + 0 = iI (4 * (k : Int)) := cvI (adI (mlI (y := 4) rfl rfl) li_0) (by omega)
    have e1 : iI (k : Int) * 4 + 1 = iI (4 * (k : Int) + 1) := cvI (adI (mlI (y := 4) rfl rfl) li_1) (by omega)
    rw [if_neg (lsI_n rfl li_0 (by omega)), gtP_q k1 f3, alI_q (n := 32) (z := 4 * (k : Int)) k2 e0 (by omega) c1, jn_v, jn_v]
    have no : (jv (fun (s8 : Int32) => if s8 = 0 then (lt (iI (k : Int) + (-1 : Int32)) fun (x9 : Int32) => lp (c124_7 rec (some (zTw q)) (some 92) (iI B) M (jv fun (s3 : Int32) => some (.int s3, M)) (jv fun (_ : Unit) => some (.int ((-2 : Int32)), M))) N x9) else ((jv fun (s3 : Int32) => some (.int s3, M)) (iI (k : Int)))) 0 : XA) = some (.int (iI (zrl e s q par k)), M) := by
      have em : iI (k : Int) + (-1 : Int32) = iI ((k : Int) - 1) := cvI (adI (y := -1) rfl rfl) (by omega)
      rw [jv_e, if_pos rfl, ltI_q em]
      exact ih
    by_cases y1 : e.1 13 q k < 0
    · rw [if_pos (lsI_p rfl li_0 (by omega))]
      have z : zrl e s q par (k + 1) = k := if_pos (Or.inl y1)
      rw [z]; rfl
    · rw [if_neg (lsI_n rfl li_0 (by omega)), aln_q' (ck_92 hC), jn_v, if_neg (leI_n rfl (adI rfl rfl) (by omega)), alI_q (n := 2520) (z := B + e.1 13 q k) (ck_92 hC) (adI rfl rfl) (by omega) (hS _ (by omega) p1.2), gtP_q k1 f3, alI_q (n := 32) (z := 4 * (k : Int) + 1) k2 e1 (by omega) c2]
      by_cases y2 : s.2 1 (zf s) (zh s - par + e.1 13 q k) = e.2 1 q k
      · have z : zrl e s q par (k + 1) = k := if_pos (Or.inr y2)
        rw [if_pos y2, z]; rfl
      · have z : zrl e s q par (k + 1) = zrl e s q par k := if_neg (fun w => w.elim y1 y2)
        rw [if_neg y2, z]
        exact no
theorem zc124 (hd : 1 ≤ d) (hC : CT M) (hE : zE7 e M) (hq : 0 ≤ q ∧ q < 8) (hB : 0 ≤ B ∧ B + par ≤ 2520) (hv : v = iI B) (hp : ∀ r, 0 ≤ r → r < e.1 12 q 0 → -1 ≤ e.1 13 q r ∧ e.1 13 q r < par) (hS : ∀ x, 0 ≤ x → x < par → M.1 92 (B + x).toNat = s.2 1 (zf s) (zh s - par + x)) : runX d 124 [va_rf (some (zTw q)), va_rf (some 92), .int v] M = some (.int (iI (zrl e s q par (e.1 12 q 0).toNat)), M) := by
  obtain ⟨d, rfl⟩ : ∃ e, d = e + 1 := ⟨d - 1, by omega⟩
  subst hv
  obtain ⟨⟨k1, -⟩, -⟩ := zTw_k hC hq
  obtain ⟨-, a2, a3, -⟩ := hE.1 q hq.1 hq.2
  have lpx := fit_lp (rec := runX d) hC hE hq hB hp hS (e.1 12 q 0).toNat 4294967296 (by omega) (by omega)
  rw [r124]; unfold b124; rw [aR_e, aR_e, aI_e, aZ_e]; unfold c124
  rw [gtI_q k1 a2, ltI_q (z := (((e.1 12 q 0).toNat : Nat) : Int) - 1) (cvI (sbI rfl li_1) (by omega)), jn_v, jn_v]
  exact lpx
theorem zrl_b : ∀ k : Nat, -2 ≤ zrl e s q par k ∧ zrl e s q par k < k ∧ (zrl e s q par k < 0 → zrl e s q par k = -2)
  | 0 => by
    have z : zrl e s q par 0 = -2 := rfl
    rw [z]; omega
  | k + 1 => by
    have := zrl_b k
    by_cases y : e.1 13 q k < 0 ∨ s.2 1 (zf s) (zh s - par + e.1 13 q k) = e.2 1 q k
    · rw [show zrl e s q par (k + 1) = k from if_pos y]; omega
    · rw [show zrl e s q par (k + 1) = zrl e s q par k from if_neg y]; omega
end S99i
