/-! DOUBLES: twin(): what is there, the free seat -/
/-- a DOUBLE is made -/
def dbT (D : Nat → Int → Int → Int) (q tm p m par : Int) : Nat → Int → Int → Int := fun k a b => if a = q ∧ k = 0 then tm else if a = q ∧ k = 1 then p else if a = q ∧ k = 2 then m else if a = q ∧ k = 3 then par else if a = q ∧ k = 12 then 0 else D k a b
/-- the free seat the class has found -/
def dbF (D : Nat → Int → Int → Int) : Nat → Option Nat
  | 0 => none
  | k + 1 => if D 0 (7 - (k : Int)) 0 < 0 then some (zTw (7 - (k : Int))) else dbF D k
section S9ee
variable {d dl : Nat} {o : HO} {M M' Mc Mr : Mem} {LL a j b c t x : Nat} {xs : Nat → Int32} {ow : Nat → Int} {p i k sl m n f w q np tm par : Int} {v v1 v2 v3 v4 v5 w1 w2 : Int32} {D : Nat → Int → Int → Int} {W : Nat → Int → Int → Int32} {g : Int → PG} {u : ZS}
theorem zc122d (hd : 1 ≤ d) (cM : CT M) (hD : dbP D np g) (hC : dbC D W M) (hq : 0 ≤ q ∧ q < 8) (hp : 0 ≤ p ∧ p ≤ 1000) (hm : 0 ≤ m ∧ m ≤ 1000) : runX d 122 [va_rf (some (zTw q)), .int (iI p), .int (iI m)] M = some (.int (iI (if 0 ≤ D 0 q 0 ∧ D 1 q 0 = p ∧ D 2 q 0 = m then 1 else 0)), M) := by
  obtain ⟨d, rfl⟩ : ∃ e, d = e + 1 := ⟨d - 1, by omega⟩
  have k1 := (zTw_k cM hq).1.1
  obtain ⟨⟨h0, h7, h8, -⟩, -⟩ := hC q hq.1 hq.2
  obtain ⟨b0, b1, b2, -⟩ := hD q hq.1 hq.2
  rw [r122]; unfold b122; rw [aR_e, aI_e, aI_e, aZ_e]; unfold c122
  rw [gtI_q k1 h0, jn_v, jn_v]
  by_cases y0 : D 0 q 0 < 0
  · rw [if_pos y0, if_pos (show iI (-2) < 0 by decide), jv_e, jv_e, if_neg (show ¬ (0 ≤ D 0 q 0 ∧ D 1 q 0 = p ∧ D 2 q 0 = m) by omega)]
    exact rtZ_q (z := 0) rfl (by decide)
  rw [if_neg y0, if_neg (show ¬ iI (D 0 q 0) < 0 from lsI_n (y := 0) rfl li_0 (by omega)), gtI_q k1 h7]
  by_cases y1 : D 1 q 0 = p
  · rw [if_pos (show iI (D 1 q 0) = iI p by rw [y1]), gtI_q k1 h8]
    by_cases y2 : D 2 q 0 = m
    · rw [if_pos (show iI (D 2 q 0) = iI m by rw [y2]), jv_e, if_pos (show 0 ≤ D 0 q 0 ∧ D 1 q 0 = p ∧ D 2 q 0 = m by omega)]
      exact rtZ_q (z := 1) rfl (by decide)
    · rw [if_neg (show ¬ iI (D 2 q 0) = iI m from eqI_n rfl rfl (by omega)), jv_e, jv_e, if_neg (show ¬ (0 ≤ D 0 q 0 ∧ D 1 q 0 = p ∧ D 2 q 0 = m) by omega)]
      exact rtZ_q (z := 0) rfl (by decide)
  · rw [if_neg (show ¬ iI (D 1 q 0) = iI p from eqI_n rfl rfl (by omega)), jv_e, jv_e, if_neg (show ¬ (0 ≤ D 0 q 0 ∧ D 1 q 0 = p ∧ D 2 q 0 = m) by omega)]
    exact rtZ_q (z := 0) rfl (by decide)
theorem rr272d (hd : 1 ≤ d) (rM : RT M) (hD : dbP D np g) (hR : dbR D W M) (hp : 0 ≤ p ∧ p ≤ 1000) (hm : 0 ≤ m ∧ m ≤ 1000) (h7 : (q = -1 ∧ ∀ x, 0 ≤ x → x < 8 → ¬ dSt D p m x) ∨ (0 ≤ q ∧ q < 8 ∧ dSt D p m q)) : runX d 272 [va_rf (some 160), .int (iI p), .int (iI m)] M = some (.int (iI q), M) := by
  obtain ⟨d, rfl⟩ : ∃ e, d = e + 1 := ⟨d - 1, by omega⟩
  have k := rk_160 rM
  have qb : -1 ≤ q ∧ q < 8 := by
    rcases h7 with z | z
    · have := z.1; omega
    · have := z.1; have := z.2.1; omega
  have iff : ∀ x : Int, 0 ≤ x → x < 8 → ((0 ≤ D 0 x 0 ∧ D 1 x 0 = p ∧ D 2 x 0 = m) ↔ x = q) := fun x a b => by
    rcases h7 with z | z
    · exact ⟨fun w => absurd w (z.2 x a b), fun w => by have := z.1; omega⟩
    · obtain ⟨z1, z2, z3, z4, z5⟩ := z
      refine ⟨fun w => ?_, fun w => by rw [w]; exact ⟨z3, z4, z5⟩⟩
      exact ((hD q z1 z2).2.2.2.2.2.2 x a b z3 w.1 (by omega) (by omega)).symm
  clear h7
  rw [r272]; unfold b272; rw [aR_e, aI_e, aI_e, aZ_e]; unfold c272
  rw [jn_v]
  refine lp_use (body := c272_5 (runX d) (some 160) (iI p) (iI m) M (jv fun (s1 : Int32) => some (.int s1, M))) (R := fun s => some (.int s.1, M)) 8 (fun k s => s.1 = iI (if 0 ≤ q ∧ q < k then q else -1) ∧ s.2 = iI (k : Int)) ((-1 : Int32), (0 : Int32)) 4294967296 (by omega) ⟨by rw [if_neg (by omega)]; rfl, li_0⟩ (fun s' g1 g2 => ?_) (fun k' s hk hI => ?_) (fun s hI go => ?_)
  · rw [g2, g1.1]
    by_cases y : 0 ≤ q
    · rw [if_pos (by omega)]
    · rw [if_neg (by omega), show q = -1 by omega]
  · obtain ⟨i1, i2⟩ := s
    obtain ⟨u1, u2⟩ := hI
    dsimp only at u1 u2
    subst u2
    obtain ⟨⟨a0, a7, a8, -⟩, -⟩ := hR (k' : Int) (by omega) (by omega)
    obtain ⟨b0, b1, b2, -⟩ := hD (k' : Int) (by omega) (by omega)
    have fi := iff (k' : Int) (by omega) (by omega)
    have ik : iI (k' : Int) + (1 : Int32) = iI ((k' + 1 : Nat) : Int) := cvI (adI rfl li_1) (by omega)
    refine ⟨(iI (if 0 ≤ q ∧ q < ((k' + 1 : Nat) : Int) then q else -1), iI ((k' + 1 : Nat) : Int)), ⟨rfl, rfl⟩, fun go => ?_⟩
    unfold c272_5
    dsimp only
    rw [if_neg (show ¬ (8 : Int32) ≤ iI (k' : Int) from leI_n (x := 8) rfl rfl (by omega)), gtP_q k (rf_112 rM), alI_q (n := 8) (z := (k' : Int)) (rk_227 rM) rfl (by omega) a0, jn_v, jn_v]
    have nx : ∀ z : Int32, (jv (fun (s5 : Int32) => lt (iI (k' : Int) + (1 : Int32)) fun (x6 : Int32) => go (s5, x6)) z : XA) = go (z, iI ((k' + 1 : Nat) : Int)) := fun z => by rw [jv_e, ltI_q ik]
    have no : ¬ (k' : Int) = q → i1 = iI (if 0 ≤ q ∧ q < ((k' + 1 : Nat) : Int) then q else -1) := fun z => by
      rw [u1]
      by_cases y : 0 ≤ q ∧ q < (k' : Int)
      · rw [if_pos y, if_pos ⟨y.1, by omega⟩]
      · rw [if_neg y, if_neg (by omega)]
    by_cases y1 : D 0 (k' : Int) 0 < 0
    · rw [if_pos (lsI_p rfl li_0 (by omega)), jv_e, nx, no (by omega)]
    rw [if_neg (lsI_n rfl li_0 (by omega)), gtP_q k (rf_113 rM), alI_q (n := 8) (z := (k' : Int)) (rk_228 rM) rfl (by omega) a7]
    by_cases y2 : D 1 (k' : Int) 0 = p
    · rw [if_pos (eqI_p rfl rfl y2), gtP_q k (rf_114 rM), alI_q (n := 8) (z := (k' : Int)) (rk_229 rM) rfl (by omega) a8]
      by_cases y3 : D 2 (k' : Int) 0 = m
      · have e1 := fi.1 ⟨by omega, y2, y3⟩
        rw [if_pos (eqI_p rfl rfl y3), nx, if_pos ⟨by omega, by omega⟩, e1]
      · rw [if_neg (eqI_n rfl rfl (by omega)), jv_e, nx, no (fun z => y3 (fi.2 z).2.2)]
    · rw [if_neg (eqI_n rfl rfl (by omega)), jv_e, nx, no (fun z => y2 (fi.2 z).2.1)]
  · obtain ⟨i1, i2⟩ := s
    obtain ⟨u1, u2⟩ := hI
    dsimp only at u1 u2
    subst u2
    unfold c272_5
    dsimp only
    rw [if_pos (show (8 : Int32) ≤ iI ((8 : Nat) : Int) from leI_p (x := 8) rfl rfl (by omega))]
    rfl
theorem dbF_s (D : Nat → Int → Int → Int) : ∀ k : Nat, k ≤ 8 → (dbF D k = none ∧ ∀ x : Int, 8 - (k : Int) ≤ x → x < 8 → 0 ≤ D 0 x 0) ∨ ∃ q : Int, (8 - (k : Int) ≤ q ∧ q < 8) ∧ dbF D k = some (zTw q) ∧ D 0 q 0 < 0 ∧ ∀ x : Int, 8 - (k : Int) ≤ x → x < q → 0 ≤ D 0 x 0
  | 0, _ => Or.inl ⟨rfl, fun x a b => by omega⟩
  | k + 1, hk => by
    by_cases y : D 0 (7 - (k : Int)) 0 < 0
    · exact Or.inr ⟨7 - (k : Int), by omega, if_pos y, y, fun x a b => by omega⟩
    · have e : dbF D (k + 1) = dbF D k := if_neg y
      rcases dbF_s D k (by omega) with ⟨a, b⟩ | ⟨q, a, b, c, f⟩
      · refine Or.inl ⟨e.trans a, fun x h1 h2 => ?_⟩
        by_cases z : x = 7 - (k : Int)
        · rw [z]; omega
        · exact b x (by omega) h2
      · refine Or.inr ⟨q, by omega, e.trans b, c, fun x h1 h2 => ?_⟩
        by_cases z : x = 7 - (k : Int)
        · rw [z]; omega
        · exact f x (by omega) h2
/-- the class looks through the DOUBLES -/
theorem lp145 {j71 : Mem → XA} {j108 : Option Nat × Mem → XA} (hd : 1 ≤ d) (cM : CT M) (hD : dbP D np g) (hC : dbC D W M) (hp : 0 ≤ p ∧ p ≤ 1000) (hm : 0 ≤ m ∧ m ≤ 1000) (hn : ∀ x, 0 ≤ x → x < 8 → ¬ dSt D p m x) : lp (c145_46 (runX d) (some 64) (iI p) (iI m) j71 j108) 4294967296 (none, (0 : Int32), M) = j108 (dbF D 8, M) := by
  have c64 := ck_64 cM
  have c88 := ck_88 cM
  have f7 : M.2.2.1 88 7 = some 90 := cf_88_7 cM
  have c90 := ck_90 cM
  refine lp_use (body := c145_46 (runX d) (some 64) (iI p) (iI m) j71 j108) (R := fun s => j108 (s.1, s.2.2)) 8 (fun k s => s = (dbF D k, iI (k : Int), M)) ((none, (0 : Int32), M) : Option Nat × Int32 × Mem) 4294967296 (by omega) (by rw [li_0]; rfl) (fun s' g1 g2 => by rw [g2, g1]) (fun k s hk hs => ?_) (fun s hs go => ?_)
  · subst hs
    refine ⟨(dbF D (k + 1), iI ((k + 1 : Nat) : Int), M), rfl, fun go => ?_⟩
    have hq : 0 ≤ 7 - (k : Int) ∧ 7 - (k : Int) < 8 := by omega
    have tk := (zTw_k cM hq).2.2
    rw [show (7 - (7 - (k : Int))) = (k : Int) by omega] at tk
    have k1 := (zTw_k cM hq).1.1
    have e0 := (hC _ hq.1 hq.2).1.1
    have b0 := (hD _ hq.1 hq.2).1
    have e1 := zc122d (d := d) (M := M) (p := p) (m := m) hd cM hD hC hq hp hm
    rw [if_neg (show ¬ (0 ≤ D 0 (7 - (k : Int)) 0 ∧ D 1 (7 - (k : Int)) 0 = p ∧ D 2 (7 - (k : Int)) 0 = m) from hn _ hq.1 hq.2)] at e1
    unfold c145_46
    dsimp only
    rw [if_neg (show ¬ (8 : Int32) ≤ iI (k : Int) from leI_n (x := 8) rfl rfl (by omega)), gtP_q c64 (cf_64_2 cM), gtP_q c88 f7, alP_q (z := (k : Int)) c90 rfl (by omega) tk, vC_e k1, cI_e e1, if_pos (show iI 0 = 0 from rfl), gtP_q c64 (cf_64_2 cM), gtP_q c88 f7, alP_q (z := (k : Int)) c90 rfl (by omega) tk, gtI_q k1 e0, jn_v]
    by_cases y : D 0 (7 - (k : Int)) 0 < 0
    · rw [if_pos y, if_neg (show ¬ 0 ≤ iI (-2) by decide), gtP_q c64 (cf_64_2 cM), gtP_q c88 f7, alP_q (z := (k : Int)) c90 rfl (by omega) tk, jv_e, ltI_q (z := ((k + 1 : Nat) : Int)) (cvI (adI rfl li_1) (by omega)), show dbF D (k + 1) = some (zTw (7 - (k : Int))) from if_pos y]
    · rw [if_neg y, if_pos (show 0 ≤ iI (D 0 (7 - (k : Int)) 0) from leI_p (x := 0) li_0 rfl (by omega)), jv_e, ltI_q (z := ((k + 1 : Nat) : Int)) (cvI (adI rfl li_1) (by omega)), show dbF D (k + 1) = dbF D k from if_neg y]
  · subst hs
    unfold c145_46
    dsimp only
    rw [if_pos (show (8 : Int32) ≤ iI ((8 : Nat) : Int) from leI_p (x := 8) rfl rfl (by omega))]
theorem lp145s {j71 : Mem → XA} {j108 : Option Nat × Mem → XA} (hd : 1 ≤ d) (cM : CT M) (hD : dbP D np g) (hC : dbC D W M) (hp : 0 ≤ p ∧ p ≤ 1000) (hm : 0 ≤ m ∧ m ≤ 1000) (hq : 0 ≤ q ∧ q < 8) (hn : dSt D p m q) : lp (c145_46 (runX d) (some 64) (iI p) (iI m) j71 j108) 4294967296 (none, (0 : Int32), M) = j71 M := by
  have c64 := ck_64 cM
  have c88 := ck_88 cM
  have f7 : M.2.2.1 88 7 = some 90 := cf_88_7 cM
  have c90 := ck_90 cM
  refine lp_use (body := c145_46 (runX d) (some 64) (iI p) (iI m) j71 j108) (R := fun _ => j71 M) (7 - q).toNat (fun k s => s = (dbF D k, iI (k : Int), M)) ((none, (0 : Int32), M) : Option Nat × Int32 × Mem) 4294967296 (by omega) (by rw [li_0]; rfl) (fun s' g1 g2 => g2) (fun k s hk hs => ?_) (fun s hs go => ?_)
  · subst hs
    refine ⟨(dbF D (k + 1), iI ((k + 1 : Nat) : Int), M), rfl, fun go => ?_⟩
    have hq' : 0 ≤ 7 - (k : Int) ∧ 7 - (k : Int) < 8 := by omega
    have tk := (zTw_k cM hq').2.2
    rw [show (7 - (7 - (k : Int))) = (k : Int) by omega] at tk
    have k1 := (zTw_k cM hq').1.1
    have e0 := (hC _ hq'.1 hq'.2).1.1
    have b0 := (hD _ hq'.1 hq'.2).1
    have e1 := zc122d (d := d) (M := M) (p := p) (m := m) hd cM hD hC hq' hp hm
    rw [if_neg (fun z => by
      have := (hD q hq.1 hq.2).2.2.2.2.2.2 _ hq'.1 hq'.2 hn.1 z.1 (by rw [hn.2.1, z.2.1]) (by rw [hn.2.2, z.2.2])
      omega)] at e1
    unfold c145_46
    dsimp only
    rw [if_neg (show ¬ (8 : Int32) ≤ iI (k : Int) from leI_n (x := 8) rfl rfl (by omega)), gtP_q c64 (cf_64_2 cM), gtP_q c88 f7, alP_q (z := (k : Int)) c90 rfl (by omega) tk, vC_e k1, cI_e e1, if_pos (show iI 0 = 0 from rfl), gtP_q c64 (cf_64_2 cM), gtP_q c88 f7, alP_q (z := (k : Int)) c90 rfl (by omega) tk, gtI_q k1 e0, jn_v]
    by_cases y : D 0 (7 - (k : Int)) 0 < 0
    · rw [if_pos y, if_neg (show ¬ 0 ≤ iI (-2) by decide), gtP_q c64 (cf_64_2 cM), gtP_q c88 f7, alP_q (z := (k : Int)) c90 rfl (by omega) tk, jv_e, ltI_q (z := ((k + 1 : Nat) : Int)) (cvI (adI rfl li_1) (by omega)), show dbF D (k + 1) = some (zTw (7 - (k : Int))) from if_pos y]
    · rw [if_neg y, if_pos (show 0 ≤ iI (D 0 (7 - (k : Int)) 0) from leI_p (x := 0) li_0 rfl (by omega)), jv_e, ltI_q (z := ((k + 1 : Nat) : Int)) (cvI (adI rfl li_1) (by omega)), show dbF D (k + 1) = dbF D k from if_neg y]
  · subst hs
    have j7 : (((7 - q).toNat : Nat) : Int) = 7 - q := by omega
    have tk := (zTw_k cM hq).2.2
    have k1 := (zTw_k cM hq).1.1
    have e1 := zc122d (d := d) (M := M) (p := p) (m := m) hd cM hD hC hq hp hm
    rw [if_pos (show 0 ≤ D 0 q 0 ∧ D 1 q 0 = p ∧ D 2 q 0 = m from hn)] at e1
    unfold c145_46
    dsimp only
    rw [j7, if_neg (show ¬ (8 : Int32) ≤ iI (7 - q) from leI_n (x := 8) rfl rfl (by omega)), gtP_q c64 (cf_64_2 cM), gtP_q c88 f7, alP_q (z := 7 - q) c90 rfl (by omega) tk, vC_e k1, cI_e e1, if_neg (show ¬ iI 1 = 0 by decide)]
/-- the reference's free seat -/
theorem lp273 {j76 : Int32 → XA} (rM : RT M) (hD : dbP D np g) (hR : dbR D W M) (hq : 0 ≤ q ∧ q ≤ 8) (hn : ∀ x : Int, 0 ≤ x → x < q → 0 ≤ D 0 x 0) (hf : q < 8 → D 0 q 0 < 0) : lp (c273_55 (runX d) (some 160) M j76) 4294967296 (0 : Int32) = j76 (iI q) := by
  refine lp_use (body := c273_55 (runX d) (some 160) M j76) (R := fun _ => j76 (iI q)) q.toNat (fun k s => s = iI (k : Int)) (0 : Int32) 4294967296 (by omega) li_0 (fun s' g1 g2 => g2) (fun k s hk hs => ?_) (fun s hs go => ?_)
  · subst hs
    refine ⟨iI ((k + 1 : Nat) : Int), rfl, fun go => ?_⟩
    have e0 := (hR (k : Int) (by omega) (by omega)).1.1
    have b0 := (hD (k : Int) (by omega) (by omega)).1
    have := hn (k : Int) (by omega) (by omega)
    unfold c273_55
    rw [if_neg (show ¬ (8 : Int32) ≤ iI (k : Int) from leI_n (x := 8) rfl rfl (by omega)), gtP_q (rk_160 rM) (rf_112 rM), alI_q (n := 8) (z := (k : Int)) (rk_227 rM) rfl (by omega) e0, if_neg (show ¬ iI (D 0 (k : Int) 0) < 0 from lsI_n (y := 0) rfl li_0 (by omega))]
    exact ltI_q (z := ((k + 1 : Nat) : Int)) (cvI (adI rfl li_1) (by omega))
  · subst hs
    rw [show ((q.toNat : Nat) : Int) = q by omega]
    unfold c273_55
    by_cases y : q = 8
    · rw [if_pos (show (8 : Int32) ≤ iI q from leI_p (x := 8) rfl rfl (by omega))]
    · have e0 := (hR q (by omega) (by omega)).1.1
      have b0 := (hD q (by omega) (by omega)).1
      have := hf (by omega)
      rw [if_neg (show ¬ (8 : Int32) ≤ iI q from leI_n (x := 8) rfl rfl (by omega)), gtP_q (rk_160 rM) (rf_112 rM), alI_q (n := 8) (z := q) (rk_227 rM) rfl (by omega) e0, if_pos (show iI (D 0 q 0) < 0 from lsI_p (y := 0) rfl li_0 (by omega))]
end S9ee
