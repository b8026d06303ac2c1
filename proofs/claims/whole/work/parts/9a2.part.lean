/-! the reference's machine: DOUBLES -/
def zRst (M : Mem) (q pid m : Int) : Prop := ∃ n, M.1 227 q.toNat = iI n ∧ 0 ≤ n ∧ n ≤ 100000 ∧ M.1 228 q.toNat = iI pid ∧ M.1 229 q.toNat = iI m
def zR7 (e : ZS) (M : Mem) : Prop := (∀ q, 0 ≤ q → q < 8 → (∃ n pp mm, M.1 227 q.toNat = iI n ∧ -2 ≤ n ∧ n ≤ 100000 ∧ M.1 228 q.toNat = iI pp ∧ 0 ≤ pp ∧ pp ≤ 100 ∧ M.1 229 q.toNat = iI mm ∧ 0 ≤ mm ∧ mm ≤ 1000) ∧ M.1 230 q.toNat = iI (e.1 12 q 0) ∧ (0 ≤ e.1 12 q 0 ∧ e.1 12 q 0 ≤ 8) ∧ ∀ r, 0 ≤ r → r < 8 → M.1 231 (8 * q + r).toNat = iI (e.1 13 q r) ∧ M.1 232 (8 * q + r).toNat = e.2 1 q r ∧ M.1 233 (8 * q + r).toNat = iI (e.1 14 q r) ∧ M.1 234 (8 * q + r).toNat = e.2 2 q r ∧ (0 ≤ e.1 14 q r ∧ e.1 14 q r ≤ 1)) ∧ (0 ≤ e.1 29 0 0 ∧ e.1 29 0 0 < 8 ∧ 0 ≤ e.1 29 1 0 ∧ e.1 29 1 0 < 8) ∧ ∀ id, zId e id → e.1 4 id 0 = 4 → (e.1 11 id 0 = -1 ∧ ∀ q, 0 ≤ q → q < 8 → ¬ zRst M q (e.1 29 (if id < 96 then 0 else 1) 0) (if id < 96 then id else id - 96)) ∨ (0 ≤ e.1 11 id 0 ∧ e.1 11 id 0 < 8 ∧ zRst M (e.1 11 id 0) (e.1 29 (if id < 96 then 0 else 1) 0) (if id < 96 then id else id - 96) ∧ (∀ r, 0 ≤ r → r < e.1 12 (e.1 11 id 0) 0 → -1 ≤ e.1 13 (e.1 11 id 0) r ∧ e.1 13 (e.1 11 id 0) r < e.1 5 id 0) ∧ ∀ q, 0 ≤ q → q < 8 → q ≠ e.1 11 id 0 → ¬ zRst M q (e.1 29 (if id < 96 then 0 else 1) 0) (if id < 96 then id else id - 96))
section S9a2
variable {d : Nat} {e s s' t u A : ZS} {M M' M1 M2 : Mem} {a b j N x y : Nat} {v v1 v2 v3 w : Int32} {c k i n m p o q id par B D h : Int} {Y : Nat → Int → Int}
/-- whose DOUBLE it is -/
theorem rr272 (hd : 1 ≤ d) (hR : RT M) (hE : zR7 e M) (hi : zId e id) (h4 : e.1 4 id 0 = 4) (hv : v1 = iI (e.1 29 (if id < 96 then 0 else 1) 0)) (hv2 : v2 = iI (if id < 96 then id else id - 96)) (h24 : e.1 24 0 0 ≤ 96 ∧ e.1 24 1 0 ≤ 96) : runX d 272 [va_rf (some 160), .int v1, .int v2] M = some (.int (iI (e.1 11 id 0)), M) := by
  obtain ⟨d, rfl⟩ : ∃ e, d = e + 1 := ⟨d - 1, by omega⟩
  subst hv; subst hv2
  obtain ⟨D, hD⟩ : ∃ D, D = e.1 11 id 0 := ⟨_, rfl⟩
  obtain ⟨P, hP⟩ : ∃ P, P = e.1 29 (if id < 96 then 0 else 1) 0 := ⟨_, rfl⟩
  obtain ⟨m, hm⟩ : ∃ m, m = (if id < 96 then id else id - 96) := ⟨_, rfl⟩
  have h7 := hE.2.2 id hi h4
  have h2 := hE.2.1
  rw [← hP, ← hm, ← hD] at h7
  rw [← hP, ← hm, ← hD]
  have mb : 0 ≤ m ∧ m ≤ 1000 := by
    unfold zId at hi
    by_cases y : id < 96
    · rw [if_pos y] at hm; omega
    · rw [if_neg y] at hm; omega
  have pb : 0 ≤ P ∧ P ≤ 100 := by
    by_cases y : id < 96
    · rw [if_pos y] at hP; omega
    · rw [if_neg y] at hP; omega
  have D8 : D = -1 ∨ 0 ≤ D ∧ D < 8 := by
    rcases h7 with z | z
    · exact Or.inl z.1
    · exact Or.inr ⟨z.1, z.2.1⟩
  have iff : ∀ x, 0 ≤ x → x < 8 → (zRst M x P m ↔ x = D) := fun x p r => by
    rcases h7 with z | z
    · exact ⟨fun w => absurd w (z.2 x p r), fun w => by have := z.1; omega⟩
    · refine ⟨fun w => ?_, fun w => by rw [w]; exact z.2.2.1⟩
      by_cases y : x = D
      · exact y
      · exact absurd w (z.2.2.2.2 x p r y)
  clear h7
  have k := rk_160 hR
  rw [r272]; unfold b272; rw [aR_e, aI_e, aI_e, aZ_e]; unfold c272
  rw [jn_v]
  refine lp_use (body := c272_5 (runX d) (some 160) (iI P) (iI m) M (jv fun (s1 : Int32) => some (.int s1, M))) (R := fun s => some (.int s.1, M)) 8 (fun k s => s.1 = iI (if 0 ≤ D ∧ D < k then D else -1) ∧ s.2 = iI (k : Int)) ((-1 : Int32), (0 : Int32)) 4294967296 (by omega) ⟨by rw [if_neg (by omega)]; rfl, li_0⟩ (fun s' g1 g2 => ?_) (fun k' s hk hI => ?_) (fun s hI go => ?_)
  · obtain ⟨u1, -⟩ := g1
    rw [g2, u1]
    by_cases y : 0 ≤ D
    · rw [if_pos ⟨y, by omega⟩]
    · rw [if_neg (fun z => y z.1), show D = -1 by omega]
  · obtain ⟨i1, i2⟩ := s
    obtain ⟨u1, u2⟩ := hI
    dsimp only at u1 u2
    subst u2
    obtain ⟨n, pp, mm, a0, b1, b2, a7, b3, b4, a8, b5, b6⟩ := (hE.1 (k' : Int) (by omega) (by omega)).1
    have un : zRst M (k' : Int) P m ↔ 0 ≤ n ∧ pp = P ∧ mm = m := by
      unfold zRst
      rw [a0, a7, a8]
      constructor
      · rintro ⟨z, c1, c2, c3, c4, c5⟩
        have q1 := V_i (M := M) a0 (by omega)
        have q2 := V_i (M := M) (z := z) (a0.trans c1) (by omega)
        have q3 := V_i (M := M) a7 (by omega)
        have q4 := V_i (M := M) (z := P) (a7.trans c4) (by omega)
        have q5 := V_i (M := M) a8 (by omega)
        have q6 := V_i (M := M) (z := m) (a8.trans c5) (by omega)
        omega
      · rintro ⟨z1, z2, z3⟩
        exact ⟨n, rfl, z1, b2, by rw [z2], by rw [z3]⟩
    have fi := iff (k' : Int) (by omega) (by omega)
    rw [un] at fi
    have ik : iI (k' : Int) + (1 : Int32) = iI ((k' + 1 : Nat) : Int) := cvI (adI rfl li_1) (by omega)
    refine ⟨(iI (if 0 ≤ D ∧ D < ((k' + 1 : Nat) : Int) then D else -1), iI ((k' + 1 : Nat) : Int)), ⟨rfl, rfl⟩, fun go => ?_⟩
    unfold c272_5
    dsimp only
    rw [if_neg (show ¬ (8 : Int32) ≤ iI (k' : Int) from leI_n (x := 8) rfl rfl (by omega)), gtP_q k (rf_112 hR), alI_q (n := 8) (z := (k' : Int)) (rk_227 hR) rfl (by omega) a0, jn_v, jn_v]
    have nx : ∀ z : Int32, (jv (fun (s5 : Int32) => lt (iI (k' : Int) + (1 : Int32)) fun (x6 : Int32) => go (s5, x6)) z : XA) = go (z, iI ((k' + 1 : Nat) : Int)) := fun z => by rw [jv_e, ltI_q ik]
    have no : ¬ (k' : Int) = D → i1 = iI (if 0 ≤ D ∧ D < ((k' + 1 : Nat) : Int) then D else -1) := fun z => by
      rw [u1]
      by_cases y : 0 ≤ D ∧ D < (k' : Int)
      · rw [if_pos y, if_pos ⟨y.1, by omega⟩]
      · rw [if_neg y, if_neg (by omega)]
    by_cases y1 : n < 0
    · rw [if_pos (lsI_p rfl li_0 (by omega)), jv_e, nx, no (by omega)]
    rw [if_neg (lsI_n rfl li_0 (by omega)), gtP_q k (rf_113 hR), alI_q (n := 8) (z := (k' : Int)) (rk_228 hR) rfl (by omega) a7]
    by_cases y2 : pp = P
    · rw [if_pos (eqI_p rfl rfl y2), gtP_q k (rf_114 hR), alI_q (n := 8) (z := (k' : Int)) (rk_229 hR) rfl (by omega) a8]
      by_cases y3 : mm = m
      · have e1 := fi.1 ⟨by omega, y2, y3⟩
        rw [if_pos (eqI_p rfl rfl y3), nx, if_pos ⟨by omega, by omega⟩, e1]
      · rw [if_neg (eqI_n rfl rfl (by omega)), jv_e, nx, no (fun z => y3 (fi.2 z).2.2)]
    · rw [if_neg (eqI_n rfl rfl (by omega)), jv_e, nx, no (fun z => y2 (fi.2 z).2.1)]
  · obtain ⟨i1, i2⟩ := s
    obtain ⟨u1, u2⟩ := hI
    dsimp only at u1 u2
    subst u2
    unfold c272_5
    dsimp only
    rw [if_pos (show (8 : Int32) ≤ iI ((8 : Nat) : Int) from leI_p (x := 8) rfl rfl (by omega))]
    rfl
/-- the RULE that answers -/
theorem rr277 (hd : 1 ≤ d) (hR : RT M) (hE : zR7 e M) (hq : 0 ≤ q ∧ q < 8) (h73 : M.1 160 73 = iI (zsp s)) (hB : par ≤ zsp s ∧ zsp s ≤ 2500 ∧ 0 ≤ par) (hv : v1 = iI q) (hv2 : v2 = iI par) (hp : ∀ r, 0 ≤ r → r < e.1 12 q 0 → -1 ≤ e.1 13 q r ∧ e.1 13 q r < par) (hS : ∀ x, 0 ≤ x → x < par → M.1 213 (zsp s - par + x).toNat = s.2 1 (zf s) (zh s - par + x)) : runX d 277 [va_rf (some 160), .int v1, .int v2] M = some (.int (iI (zrl e s q par (e.1 12 q 0).toNat)), M) := by
  obtain ⟨d, rfl⟩ : ∃ e, d = e + 1 := ⟨d - 1, by omega⟩
  subst hv; subst hv2
  have k := rk_160 hR
  obtain ⟨-, a2, a3, a4⟩ := hE.1 q hq.1 hq.2
  rw [r277]; unfold b277; rw [aR_e, aI_e, aI_e, aZ_e]; unfold c277
  rw [jn_v]
  refine lp_use (body := c277_6 (runX d) (some 160) (iI q) (iI par) M (jv fun (s1 : Int32) => some (.int s1, M))) (R := fun s => some (.int s.1, M)) (e.1 12 q 0).toNat (fun k s' => s'.1 = iI (zrl e s q par k) ∧ s'.2 = iI (k : Int)) ((-2 : Int32), (0 : Int32)) 4294967296 (by omega) ⟨rfl, li_0⟩ (fun s' g1 g2 => ?_) (fun k' s' hk hI => ?_) (fun s' hI go => ?_)
  · rw [g2, g1.1]
  · obtain ⟨i1, i2⟩ := s'
    obtain ⟨u1, u2⟩ := hI
    dsimp only at u1 u2
    subst u2; subst u1
    obtain ⟨c1, c2, -, -, -⟩ := a4 (k' : Int) (by omega) (by omega)
    have p1 := hp (k' : Int) (by omega) (by omega)
    have ik : iI (k' : Int) + (1 : Int32) = iI ((k' + 1 : Nat) : Int) := cvI (adI rfl li_1) (by omega)
    have e8 : (8 : Int32) * iI q + iI (k' : Int) = iI (8 * q + (k' : Int)) := adI (mlI (x := 8) rfl rfl) rfl
    refine ⟨(iI (zrl e s q par (k' + 1)), iI ((k' + 1 : Nat) : Int)), ⟨rfl, rfl⟩, fun go => ?_⟩
    unfold c277_6
    dsimp only
    rw [gtP_q k (rf_115 hR), alI_q (n := 8) (z := q) (rk_230 hR) rfl (by omega) a2, if_neg (leI_n rfl rfl (by omega)), gtP_q k (rf_116 hR), alI_q (n := 64) (z := 8 * q + (k' : Int)) (rk_231 hR) e8 (by omega) c1, jn_v, jn_v]
    have nx : ∀ z : Int32, (jv (fun (s7 : Int32) => lt (iI (k' : Int) + (1 : Int32)) fun (x8 : Int32) => go (s7, x8)) z : XA) = go (z, iI ((k' + 1 : Nat) : Int)) := fun z => by rw [jv_e, ltI_q ik]
    by_cases y1 : e.1 13 q (k' : Int) < 0
    · have z : zrl e s q par (k' + 1) = k' := if_pos (Or.inl y1)
      rw [if_pos (lsI_p rfl li_0 (by omega)), jv_e, nx, z]
    · have es : iI (zsp s) - iI par + iI (e.1 13 q (k' : Int)) = iI (zsp s - par + e.1 13 q (k' : Int)) := adI (sbI rfl rfl) rfl
      rw [if_neg (lsI_n rfl li_0 (by omega)), gtP_q k (rf_72 hR), gtI_q k h73, alI_q (n := 3000) (z := zsp s - par + e.1 13 q (k' : Int)) (rk_213 hR) es (by omega) (hS _ (by omega) p1.2), gtP_q k (rf_117 hR), alI_q (n := 64) (z := 8 * q + (k' : Int)) (rk_232 hR) e8 (by omega) c2]
      by_cases y2 : s.2 1 (zf s) (zh s - par + e.1 13 q (k' : Int)) = e.2 1 q (k' : Int)
      · have z : zrl e s q par (k' + 1) = k' := if_pos (Or.inr y2)
        rw [if_pos y2, jv_e, nx, z]
      · have z : zrl e s q par (k' + 1) = zrl e s q par k' := if_neg (fun w => w.elim y1 y2)
        rw [if_neg y2, nx, z]
  · obtain ⟨i1, i2⟩ := s'
    obtain ⟨u1, u2⟩ := hI
    dsimp only at u1 u2
    subst u2
    unfold c277_6
    dsimp only
    rw [gtP_q k (rf_115 hR), alI_q (n := 8) (z := q) (rk_230 hR) rfl (by omega) a2, if_pos (leI_p rfl rfl (by omega))]
    rfl
end S9a2
