/-! the first object's machine: a CALL -/
section S99k
variable {d : Nat} {e s s' u : ZS} {κ : ZK} {M M' M1 M2 : Mem} {a b j N x y T : Nat} {v v1 v2 v3 w : Int32} {c t k i n m p o q id fl ar st key par r B h D : Int} {Y : Nat → Int → Int} {DT : Option Nat}
def fc46 (d : Nat) (a3 DT : Option Nat) (B q r : Int32) : Mem → XA := fun (s6 : Mem) =>
 jn (fun (s7 : Mem) =>
 some (.null, s7)) fun j239 =>
 jn (fun (s8 : Unit) =>
 if r < 0 then (
 gtI (4, 22) s6 (some 88) 14 fun x9 =>
 if x9 < ((12 : Int32)) then (
 gtI (8, 9) s6 a3 5 fun x10 =>
 vC (4, 22) s6 (some 88) <|
 cV (runX d 29 [va_rf (some 88), .int x10, .int B, .int q, .int ((-2 : Int32))] s6) fun M11 =>
 j239 M11) else (
 vC (4, 22) s6 (some 88) <|
 cV (runX d 41 [va_rf (some 88), .int ((7 : Int32)), .int ((2 : Int32))] s6) fun M12 =>
 j239 M12)) else (
 ptI (4, 22) s6 (some 88) 12 B fun M13 =>
 gtP (10, 9) M13 DT 3 fun x14 =>
 alI 100 M13 x14 ((r * ((4 : Int32))) + ((3 : Int32))) fun x15 =>
 vC (4, 22) M13 (some 88) <|
 cV (runX d 32 [va_rf (some 88), .int x15] M13) fun M16 =>
 gtP (4, 22) M16 (some 88) 13 fun x17 =>
 gtI (4, 22) M16 (some 88) 14 fun x18 =>
 alP 113 M16 x17 (x18 - ((1 : Int32))) fun x19 =>
 alI 100 M16 x19 ((0 : Int32)) fun x20 =>
 asI 100 M16 x19 ((0 : Int32)) ((x20 + ((1 : Int32)))) fun M21 =>
 j239 M21)) fun j160 =>
 if r < 0 then (
 j160 ()) else (
 gtP (10, 9) s6 DT 3 fun x22 =>
 alI 100 s6 x22 ((r * ((4 : Int32))) + ((2 : Int32))) fun x23 =>
 if x23 = ((1 : Int32)) then (
 gtP (10, 9) s6 DT 3 fun x24 =>
 alI 100 s6 x24 ((r * ((4 : Int32))) + ((3 : Int32))) fun x25 =>
 vC (4, 22) s6 (some 88) <|
 cV (runX d 41 [va_rf (some 88), .int x25, .int ((1 : Int32))] s6) fun M26 =>
 j239 M26) else (
 j160 ()))
theorem zst0 (hE : zCE e κ M) (hi : zId e id) (h4 : e.1 4 id 0 = 4) : M.2.2.2[κ 6 id]? = some (8, 9) ∧ M.1 (κ 6 id) 4 = iI (e.1 5 id 0) ∧ M.1 (κ 6 id) 5 = iI (e.1 6 id 0 - (if id < 96 then 0 else 1000)) ∧ zIn e (e.1 6 id 0) ∧ (e.1 6 id 0 < 1000 ↔ id < 96) ∧ 0 ≤ e.1 5 id 0 ∧ e.1 5 id 0 ≤ 4 := by
  obtain ⟨⟨b1, b2⟩, b3, b4, b5, b6, b7, b8, b9, b10, b11, b12⟩ := hE.2.1.2 id hi
  obtain ⟨c1, c2, c3⟩ := b7 h4
  exact ⟨b2, b5, c1, c2, c3, b12 h4⟩
theorem fc46_e (hd : 3 ≤ d) (h : zCM e κ s M) (hE : zCE e κ M) (hm : s.1 1 0 0 = 0) (hl : zLy s) (hi : zId e id) (h4 : e.1 4 id 0 = 4) (hpar : par = e.1 5 id 0 ∧ par ≤ zh s ∧ zh s - par < 200) (hq : v2 = iI (if id < 96 then 0 else 1)) (hB : v1 = iI (ztp s - par)) (hr : v3 = iI r) (hrd : r < 0 ∧ r = -2 ∨ 0 ≤ r ∧ DT = some (zTw D) ∧ 0 ≤ D ∧ D < 8 ∧ r < e.1 12 D 0) (h27 : zop e (zpc s) ≠ 27) (hs : zpc s + 1 < 1000 ↔ zpc s < 1000) (hw' : zWT e (zcall e s id D par r)) : ∃ M', fc46 d (some (κ 6 id)) DT v1 v2 v3 M = some (.null, M') ∧ zOb e κ (zcall e s id D par r) M M' := by
  subst hq; subst hB; subst hr
  have hk := hE.2.2.2.2.1.k8
  have C := h.1
  have kk := ck_88 C
  have h45 := hl.2.2.2
  have n12 := hl.1
  have tp := hl.tp
  have zfe : zf s = s.1 0 0 0 - 1 := rfl
  obtain ⟨g1, g2, g3, g4, g5, g6⟩ := zst0 hE hi h4
  unfold fc46
  rw [jn_v, jn_v]
  unfold zcall at hw' ⊢
  rcases hrd with ⟨r0, r1⟩ | ⟨r0, r1, D0, D1, r2⟩
  · rw [if_neg (show ¬ 0 ≤ r by omega)] at hw' ⊢
    rw [if_pos (lsI_p (x := r) rfl li_0 (by omega)), jv_e, if_pos (lsI_p (x := r) rfl li_0 (by omega)), gtI_q kk h.2.2.2.1]
    by_cases y : s.1 0 0 0 = 12
    · rw [if_pos y] at hw' ⊢
      rw [if_neg (show ¬ iI (s.1 0 0 0) < 12 from lsI_n (y := 12) rfl rfl (by omega)), vC_e kk]
      obtain ⟨M', z1, z2⟩ := mC41 (d := d) (s := s) (M := M) (v1 := 7) (v2 := 2) (fl := 2) (m := 7) (by omega) h hE li_2 (Or.inr ⟨rfl, rfl⟩) hw' h27 (by omega)
      exact ⟨M', by rw [cV_e z1]; rfl, z2.ob⟩
    · rw [if_neg y] at hw' ⊢
      rw [if_pos (show iI (s.1 0 0 0) < 12 from lsI_p (y := 12) rfl rfl (by omega)), gtI_q g1 g3, vC_e kk]
      obtain ⟨s0, hs0⟩ : ∃ s0, s0 = zdn (zarg s par) par := ⟨_, rfl⟩
      rw [← hs0] at hw' ⊢
      have f0 : ∀ k, k ≠ 3 → s0.1 k = s.1 k := fun k p => by rw [hs0]; funext x y; exact zi_k p
      have f3 : ∀ i, i ≠ zf s → s0.1 3 i 0 = s.1 3 i 0 := fun i p => by rw [hs0]; exact zi_i p
      have f3' : s0.1 3 (zf s) 0 = zh s - par := by rw [hs0]; exact zi_e
      have n0 : s0.1 0 0 0 = s.1 0 0 0 := by rw [f0 0 (by decide)]
      have w0 : ∀ k, k ≠ 0 → s0.2 k = s.2 k := fun k p => by
        rw [hs0]; funext x y
        show (if k = 0 ∧ _ then _ else _) = _
        rw [if_neg fun z => p z.1]
      have w00 : ∀ i k, i ≠ s.1 0 0 0 → s0.2 0 i k = s.2 0 i k := fun i k p => by
        rw [hs0]
        show (if (0 : Nat) = 0 ∧ i = s.1 0 0 0 ∧ 0 ≤ k ∧ k < par then _ else _) = _
        rw [if_neg fun z => p z.2.1]
      have w01 : ∀ k, 0 ≤ k → k < par → s0.2 0 (s.1 0 0 0) k = s.2 1 (zf s) (zh s - par + k) := fun k p q => by
        rw [hs0]
        show (if (0 : Nat) = 0 ∧ s.1 0 0 0 = s.1 0 0 0 ∧ 0 ≤ k ∧ k < par then s.2 1 (zf s) (zh s - par + k) else _) = _
        rw [if_pos ⟨rfl, rfl, p, q⟩]
      obtain ⟨S, hS⟩ : ∃ S, S = zent s0 (e.1 6 id 0) (-1) (s.1 6 (zf s) 0 + (zh s - par)) par := ⟨_, rfl⟩
      have zn := zent_n (s := s0) (t := e.1 6 id 0) (st := -1) (k := s.1 6 (zf s) 0 + (zh s - par)) (c := par)
      rw [← hS] at zn hw' ⊢
      rw [n0] at zn
      obtain ⟨z1, z2, z3, z5, z6, z16, zo⟩ := zn
      have Sw : S.2 = s0.2 := by rw [hS]; rfl
      have Sm : S.1 1 0 0 = 0 := by rw [hS]; show s0.1 1 0 0 = 0; rw [f0 1 (by decide)]; exact hm
      have Sk : ∀ k, k ≠ 0 → k ≠ 2 → k ≠ 3 → k ≠ 4 → k ≠ 5 → k ≠ 6 → k ≠ 16 → S.1 k = s.1 k := fun k p0 p2 p3 p4 p5 p6 p16 => by
        rw [← f0 k p3, hS]
        funext x y
        exact (zi_k p0).trans ((zi_k p16).trans ((zi_k p6).trans ((zi_k p5).trans ((zi_k p4).trans ((zi_k p3).trans (zi_k p2))))))
      have gs : zGs s S := ⟨fun k p => Sk k (by omega) (by omega) (by omega) (by omega) (by omega) (by omega) (by omega), fun k p q r => by rw [Sw]; exact w0 k (by omega), by rw [Sk 1 (by decide) (by decide) (by decide) (by decide) (by decide) (by decide) (by decide)]⟩
      obtain ⟨M', y1, y2, y3⟩ := zc29 (d := d) (s := s) (s' := S) (M := M) (v1 := iI (e.1 6 id 0 - (if id < 96 then 0 else 1000))) (v2 := iI (ztp s - par)) (v3 := iI (if id < 96 then 0 else 1)) (v4 := -2) (t := e.1 6 id 0) (st := -1) (par := par) (by omega) h hl hk (by omega) (by omega) (congrArg iI (by
        unfold zoff
        by_cases y : id < 96
        · rw [if_pos y, if_pos (g5.2 y)]
        · rw [if_neg y, if_neg fun q => y (g5.1 q)])) rfl (congrArg iI (by
        by_cases y : id < 96
        · rw [if_pos y, if_pos (g5.2 y)]
        · rw [if_neg y, if_neg fun q => y (g5.1 q)])) rfl gs z1 (fun i p => ⟨fun k r => by rw [zo k (by omega) i p, f0 k (by omega)], fun r => by rw [zo 3 (by omega) i p, f3 i r], fun k => ⟨by rw [Sw]; exact w00 i k p, by rw [Sw, w0 1 (by decide)]⟩⟩) (by rw [zo 3 (by omega) (zf s) (by omega)]; exact f3') z2 z3 z5 z6 z16 (fun k p q => by rw [Sw]; exact w01 k p q)
      exact ⟨M', by rw [cV_e y1]; rfl, y3.ob Sm hw' y2 hE⟩
  · subst r1
    rw [if_pos r0] at hw' ⊢
    obtain ⟨⟨k1, k2, -, -⟩, ⟨f3, -, -⟩, -⟩ := zTw_k C ⟨D0, D1⟩
    obtain ⟨-, -, a3, a4⟩ := hE.2.2.2.2.2.2.1 D D0 D1
    obtain ⟨-, -, c3, c4, c5⟩ := a4 r r0 (by omega)
    have e2 : iI r * 4 + 2 = iI (4 * r + 2) := cvI (adI (mlI (y := 4) rfl rfl) li_2) (by omega)
    have e3 : iI r * 4 + 3 = iI (4 * r + 3) := cvI (adI (y := 3) (mlI (y := 4) rfl rfl) rfl) (by omega)
    rw [if_neg (lsI_n (x := r) rfl li_0 (by omega)), gtP_q k1 f3, alI_q (n := 32) (z := 4 * r + 2) k2 e2 (by omega) c3]
    by_cases y : e.1 14 D r = 1
    · rw [if_pos y] at hw' ⊢
      rw [if_pos (eqI_p rfl li_1 y), gtP_q k1 f3, alI_q (n := 32) (z := 4 * r + 3) k2 e3 (by omega) c4, vC_e kk]
      obtain ⟨M', z1, z2⟩ := mC41 (d := d) (s := s) (M := M) (v1 := e.2 2 D r) (v2 := 1) (fl := 1) (m := 3) (by omega) h hE li_1 (Or.inl ⟨rfl, rfl⟩) hw' h27 (by omega)
      exact ⟨M', by rw [cV_e z1]; rfl, z2.ob⟩
    · rw [if_neg y] at hw' ⊢
      obtain ⟨M1, hM1⟩ : ∃ z, z = sI M 88 12 (iI (ztp s - par)) := ⟨_, rfl⟩
      have c1 := h.dn hl hk (c := par) (by omega)
      rw [← hM1] at c1
      have f1 : zFo κ M M1 := by rw [hM1]; exact zFo.sI (by decide)
      have l1 := hl.dn (c := par) (by omega)
      have hh1 : zh (zdn s par) = zh s - par := zdn_h
      have k1' : M1.2.2.2[zTw D]? = some (10, 9) := by rw [f1.kd]; exact k1
      have k2' : M1.2.2.2[zTw D + 1]? = some (100, 32) := by rw [f1.kd]; exact k2
      have f3' : M1.2.2.1 (zTw D) 3 = some (zTw D + 1) := by rw [f1.p]; exact f3
      have tb : 108 ≤ zTw D ∧ zTw D ≤ 136 := by unfold zTw; omega
      have c4' : M1.1 (zTw D + 1) (4 * r + 3).toNat = e.2 2 D r := by rw [hM1]; exact (sI_ne (by omega)).trans c4
      obtain ⟨M2, q2, c2, f2⟩ := zp32 (d := d) (v := e.2 2 D r) (by omega) c1 l1 hk (by rw [hh1]; exact hpar.2.2)
      obtain ⟨M3, q3, c3', f3''⟩ := zpat c2 (l1.push (by rw [hh1]; omega)) hk hs
      have fr : M2.2.2.1 93 (s.1 0 0 0 - 1).toNat = some (94 + (zf s).toNat) := by
        rw [← zfe]; exact cf93n c2.1 (by omega)
      have e14 : M2.1 88 14 = iI (s.1 0 0 0) := c2.2.2.2.1
      refine ⟨M3, ?_, c3'.ob hm hw' (f1.tr (f2.tr f3'')) hE⟩
      rw [if_neg (eqI_n rfl li_1 (by omega)), jv_e, if_neg (lsI_n (x := r) rfl li_0 (by omega)), ptI_q kk rfl, ← hM1, gtP_q k1' f3', alI_q (n := 32) (z := 4 * r + 3) k2' e3 (by omega) c4', vC_e (ck_88 c1.1), cV_e q2, gtP_q (ck_88 c2.1) (cf_88_13 c2.1), gtI_q (ck_88 c2.1) e14, alP_q (z := s.1 0 0 0 - 1) (ck_93 c2.1) (cvI (sbI rfl li_1) rfl) (by omega) fr]
      exact q3 _
theorem zTw_xx {q : Int} (h : 0 ≤ q ∧ q < 8) : inW W_x (zTw q) 4 = true ∧ (∀ j, inW W_x (zTw q + 2) j = true) ∧ ∀ j, inW W_x (zTw q + 3) j = true := by
  have c : q = 0 ∨ q = 1 ∨ q = 2 ∨ q = 3 ∨ q = 4 ∨ q = 5 ∨ q = 6 ∨ q = 7 := by omega
  rcases c with c | c | c | c | c | c | c | c <;> subst c <;> exact ⟨by decide, inW_c (by decide), inW_c (by decide)⟩
/-- the DOUBLE that is asked -/
theorem zc46_lp {j71 : Option Nat × Mem → XA} (hd : 1 ≤ d) (hC : CT M) (hE : zCE e κ M) (hi : zId e id) (h4 : e.1 4 id 0 = 4) (hq : zSd e q) (hid : id = 96 * q + m) (hm : 0 ≤ m ∧ m < e.1 24 q 0) : lp (c46_21 (runX d) (some 88) (iI q) (iI m) j71) 4294967296 (none, (0 : Int32), M) = j71 (if 0 ≤ e.1 11 id 0 then some (zTw (e.1 11 id 0)) else none, M) := by
  obtain ⟨D, hD⟩ : ∃ D, D = e.1 11 id 0 := ⟨_, rfl⟩
  have h7 := hE.2.2.2.2.2.2.2.2 id hi h4
  have q01 : 0 ≤ q ∧ q ≤ 1 := by rcases hq with q0 | ⟨q0, -⟩ <;> omega
  have b24 := (hE.2.1.1 q hq).1
  obtain ⟨⟨x1, x2, -, -, x5⟩, -⟩ := hE.1.2.2 q hq
  have eq1 : (if id < 96 then (0 : Int) else 1) = q := by
    by_cases y : id < 96
    · rw [if_pos y]; omega
    · rw [if_neg y]; omega
  have eq2 : (if id < 96 then id else id - 96) = m := by
    by_cases y : id < 96
    · rw [if_pos y]; omega
    · rw [if_neg y]; omega
  rw [eq1, eq2, ← hD] at h7
  rw [← hD]
  have p01 : 0 ≤ e.1 29 q 0 ∧ e.1 29 q 0 < 8 := by
    have := hE.2.2.2.2.2.2.2.1
    rcases hq with q0 | ⟨q0, -⟩ <;> subst q0 <;> omega
  have D8 : D = -1 ∨ 0 ≤ D ∧ D < 8 := by
    rcases h7 with z | z
    · exact Or.inl z.1
    · exact Or.inr ⟨z.1, z.2.1⟩
  have iff : ∀ x, 0 ≤ x → x < 8 → (zStd M x (e.1 29 q 0) m ↔ x = D) := fun x p r => by
    rcases h7 with z | z
    · exact ⟨fun w => absurd w (z.2 x p r), fun w => by have := z.1; omega⟩
    · refine ⟨fun w => ?_, fun w => by rw [w]; exact z.2.2.1⟩
      by_cases y : x = D
      · exact y
      · exact absurd w (z.2.2.2.2.2 x p r y)
  clear h7
  have kk := ck_88 hC
  refine lp_use (body := c46_21 (runX d) (some 88) (iI q) (iI m) j71) (R := fun s => j71 (s.1, s.2.2)) 8 (fun k s => s.1 = (if 0 ≤ D ∧ 7 - D < k then some (zTw D) else none) ∧ s.2.1 = iI (k : Int) ∧ s.2.2 = M) (none, (0 : Int32), M) 4294967296 (by omega) ⟨by rw [if_neg (by omega)], li_0, rfl⟩ (fun s' g1 g2 => ?_) (fun k s hk hI => ?_) (fun s hI go => ?_)
  · obtain ⟨i1, i2, Mk⟩ := s'
    obtain ⟨u1, u2, u3⟩ := g1
    dsimp only at u1 u2 u3 g2
    rw [g2, u1, u3]
    by_cases y : 0 ≤ D
    · rw [if_pos ⟨y, by omega⟩, if_pos y]
    · rw [if_neg (fun z => y z.1), if_neg y]
  · obtain ⟨i1, i2, Mk⟩ := s
    obtain ⟨u1, u2, u3⟩ := hI
    dsimp only at u1 u2 u3
    subst u3; subst u2
    obtain ⟨t1, -, t3⟩ := zTw_k hC (q := 7 - (k : Int)) (by omega)
    have ek : (7 - (7 - (k : Int))).toNat = (k : Int).toNat := by omega
    rw [ek] at t3
    obtain ⟨r, r1, r2⟩ := zc122 (d := d) hd hC hE.2.2.2.2.2.2 (q := 7 - (k : Int)) (by omega) (v1 := iI (e.1 29 q 0)) (v2 := iI m) rfl rfl (by omega) (by omega)
    have fi := iff (7 - (k : Int)) (by omega) (by omega)
    refine ⟨(if 0 ≤ D ∧ 7 - D < ((k + 1 : Nat) : Int) then some (zTw D) else none, iI ((k + 1 : Nat) : Int), Mk), ⟨rfl, rfl, rfl⟩, fun go => ?_⟩
    unfold c46_21
    refine (if_neg (leI_n (x := 8) rfl rfl (by omega))).trans ?_
    refine (gtP_q kk (cf_88_7 hC)).trans ?_
    refine (alP_q (z := (k : Int)) (ck_90 hC) rfl (by omega) t3).trans ?_
    refine (gtP_q kk (cf_88_8 hC)).trans ?_
    refine (alP_q (z := q) (ck_91 hC) rfl (by omega) x1).trans ?_
    refine (gtI_q x2 x5).trans ?_
    refine (vC_e t1.1).trans ?_
    refine (cI_e r1).trans ?_
    refine (jn_v).trans ?_
    have nx : ∀ z : Option Nat, (jv (fun (s41 : Option Nat) => lt (iI (k : Int) + (1 : Int32)) fun (x42 : Int32) => go (s41, x42, Mk)) z : XA) = go (z, iI ((k + 1 : Nat) : Int), Mk) := fun z => by
      have ik : iI (k : Int) + (1 : Int32) = iI ((k + 1 : Nat) : Int) := cvI (adI rfl li_1) (by omega)
      rw [jv_e, ltI_q ik]
    rcases r2 with ⟨z1, z2⟩ | ⟨z1, z2⟩
    · subst z1
      have e1 := fi.1 z2
      refine (if_neg (by decide)).trans ?_
      refine (gtP_q kk (cf_88_7 hC)).trans ?_
      refine (alP_q (z := (k : Int)) (ck_90 hC) rfl (by omega) t3).trans ?_
      refine (nx _).trans ?_
      rw [if_pos ⟨by omega, by omega⟩, e1]
    · subst z1
      have e1 : ¬ 7 - (k : Int) = D := fun w => z2 (fi.2 w)
      refine (if_pos rfl).trans ?_
      refine (nx _).trans ?_
      rw [u1]
      by_cases y : 0 ≤ D ∧ 7 - D < k
      · rw [if_pos y, if_pos ⟨y.1, by omega⟩]
      · rw [if_neg y, if_neg (by omega)]
  · obtain ⟨i1, i2, Mk⟩ := s
    obtain ⟨u1, u2, u3⟩ := hI
    dsimp only at u1 u2 u3
    subst u2
    unfold c46_21
    exact if_pos (leI_p (x := 8) rfl rfl (by omega))
end S99k
