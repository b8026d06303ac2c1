/-! luck in the class: rows of DRAWS, the sum of shares -/
def lkC (t : Int) (D N : Int → Int32) (M : Mem) : Prop := M.1 143 5 = iI t ∧ ∀ z : Int, 0 ≤ z → z < t → M.1 144 z.toNat = D z ∧ M.1 145 z.toNat = N z
def lkR (t : Int) (D N : Int → Int32) (M : Mem) : Prop := M.1 160 98 = iI t ∧ ∀ z : Int, 0 ≤ z → z < t → M.1 219 z.toNat = D z ∧ M.1 220 z.toNat = N z
/-- the sum so far, whether it is too fine: what becomes of it with a row of P -/
def lkS (A B : Nat) (f : Int) (P : Nat) : Nat × Nat × Int := if f = 1 ∨ 1000000000 < P then (A, B, 1) else ((A * P + B) / Nat.gcd (A * P + B) (B * P), B * P / Nat.gcd (A * P + B) (B * P), if 1000000000 < B * P / Nat.gcd (A * P + B) (B * P) then 1 else 0)
section S9dx
variable {d : Nat} {M M' M2 : Mem} {rec : Nat → List Value → Mem → XA} {D N D' N' : Int → Int32} {t f : Int} {T A B P k m : Nat} {LL : Nat} {xs : Nat → Int32}
theorem lkC.cg (h : lkC t D N M) (g : ∀ z : Int, 0 ≤ z → z < t → D' z = D z ∧ N' z = N z) : lkC t D' N' M := ⟨h.1, fun z a b => by rw [(g z a b).1, (g z a b).2]; exact h.2 z a b⟩
theorem lkR.cg (h : lkR t D N M) (g : ∀ z : Int, 0 ≤ z → z < t → D' z = D z ∧ N' z = N z) : lkR t D' N' M := ⟨h.1, fun z a b => by rw [(g z a b).1, (g z a b).2]; exact h.2 z a b⟩
theorem zc12 (hd : 1 ≤ d) (hC : CT M) : runX d 12 [va_rf (some 143)] M = some (.null, sI (sI (sL (sL M 143 0 (iL 0)) 143 1 (iL 1)) 143 2 0) 143 5 0) := by
  obtain ⟨d, rfl⟩ : ∃ e, d = e + 1 := ⟨d - 1, by omega⟩
  have k := ck_143 hC
  rw [r12]; unfold b12; rw [aR_e, aZ_e]; unfold c12
  rw [iL_0, iL_1, ptL_e k, ptL_e (M := sL M 143 0 (iL 0)) k, ptZ_e (M := sL (sL M 143 0 (iL 0)) 143 1 (iL 1)) k (Or.inl rfl), ptI_e (M := sI (sL (sL M 143 0 (iL 0)) 143 1 (iL 1)) 143 2 0) k]
theorem zc13 (hd : 1 ≤ d) (hC : CT M) : runX d 13 [va_rf (some 143)] M = some (.null, sI M 143 6 0) := by
  obtain ⟨d, rfl⟩ : ∃ e, d = e + 1 := ⟨d - 1, by omega⟩
  rw [r13]; unfold b13; rw [aR_e, aZ_e]; unfold c13
  rw [ptI_e (ck_143 hC)]
theorem zc15_pop {J : Mem → XA} : ∀ (T : Nat) (M : Mem) (Nf : Nat), CT M → T ≤ 1000 → lkC T D N M → lkD D N T → T < Nf → ∃ M', lp (c15_0 rec (some 143) J) Nf M = J M' ∧ Fz (fun a j => a = 143 ∧ j = 5) M M' ∧ M'.1 143 5 = iI (lkT D N T : Nat)
  | 0, M, Nf, hC, hT, h, hD, hN => by
    obtain ⟨Nf, rfl⟩ : ∃ e, Nf = e + 1 := ⟨Nf - 1, by omega⟩
    refine ⟨M, ?_, Fz.r, h.1⟩
    rw [lp_e]; unfold c15_0
    rw [gtI_q (ck_143 hC) h.1, if_pos (show iI ((0 : Nat) : Int) ≤ 0 from leI_p (y := 0) rfl li_0 (by omega))]
  | T + 1, M, Nf, hC, hT, h, hD, hN => by
    obtain ⟨Nf, rfl⟩ : ∃ e, Nf = e + 1 := ⟨Nf - 1, by omega⟩
    have k := ck_143 hC
    obtain ⟨h1, h2⟩ := h.2 (T : Int) (by omega) (by omega)
    have hd := hD T (by omega)
    have nb : (N (T : Int)).toInt < 2147483648 := by simpa using Int32.toInt_lt (N (T : Int))
    have eD : D (T : Int) = iI (D (T : Int)).toInt := (iI_eta _).symm
    have eN : N (T : Int) = iI (N (T : Int)).toInt := (iI_eta _).symm
    have e : lkT D N (T + 1) = if (N (T : Int)).toInt ≤ (D (T : Int)).toInt + 1 then lkT D N T else T + 1 := rfl
    have ei : iI ((T + 1 : Nat) : Int) - (1 : Int32) = iI (T : Int) := cvI (sbI rfl li_1) (by omega)
    have pre : c15_0 rec (some 143) J M (lp (c15_0 rec (some 143) J) Nf) = if (D (T : Int) + ((1 : Int32))) < N (T : Int) then J M else gtI (3, 7) M (some 143) 5 fun x18 => ptI (3, 7) M (some 143) 5 (x18 - ((1 : Int32))) fun M19 => lp (c15_0 rec (some 143) J) Nf M19 := by
      unfold c15_0
      rw [gtI_q k h.1, if_neg (show ¬ iI ((T + 1 : Nat) : Int) ≤ 0 from leI_n (y := 0) rfl li_0 (by omega)), gtP_q k (cf_143_3 hC), gtI_q k h.1, ei, alI_q (n := 1000) (z := (T : Int)) (ck_144 hC) rfl (by omega) h1, gtP_q k (cf_143_4 hC), gtI_q k h.1, ei, alI_q (n := 1000) (z := (T : Int)) (ck_145 hC) rfl (by omega) h2]
    by_cases y : (N (T : Int)).toInt ≤ (D (T : Int)).toInt + 1
    · obtain ⟨M', q1, q2, q3⟩ := zc15_pop (J := J) T (sI M 143 5 (iI (T : Int))) Nf (hC.keep rfl) (by omega) ⟨sI_eq, fun z a b => ⟨(sI_ne (by decide)).trans (h.2 z a (by omega)).1, (sI_ne (by decide)).trans (h.2 z a (by omega)).2⟩⟩ (hD.lo (by omega)) (by omega)
      refine ⟨M', ?_, Fz.tr ((Fz.r).si ⟨rfl, rfl⟩) q2, ?_⟩
      · rw [lp_e, pre, if_neg (show ¬ (D (T : Int) + ((1 : Int32))) < N (T : Int) from by rw [eD, eN]; exact lsI_n (adI rfl li_1) rfl (by omega)), gtI_q k h.1, ei, ptI_e k]
        exact q1
      · rw [q3, e, if_pos y]
    · refine ⟨M, ?_, Fz.r, ?_⟩
      · rw [lp_e, pre, if_pos (show (D (T : Int) + ((1 : Int32))) < N (T : Int) from by rw [eD, eN]; exact lsI_p (adI rfl li_1) rfl (by omega))]
      · rw [e, if_neg y]; exact h.1
theorem zc15 (hd : 1 ≤ d) (hC : CT M) (hT : T ≤ 1000) (h : lkC T D N M) (hD : lkD D N T) : ∃ M', runX d 15 [va_rf (some 143)] M = some (.int (iI (if lkT D N T = 0 then 0 else 1)), M') ∧ Fz (fun a j => (a = 143 ∧ j = 5) ∨ a = 144) M M' ∧ lkC (lkT D N T : Nat) (lkU D (lkT D N T)) N M' := by
  obtain ⟨d, rfl⟩ : ∃ e, d = e + 1 := ⟨d - 1, by omega⟩
  obtain ⟨J, hJ⟩ : ∃ J : Mem → XA, J = jv fun (s1 : Mem) => gtI (3, 7) s1 (some 143) 5 fun x2 => jn (fun (s3 : Mem) => gtI (3, 7) s3 (some 143) 5 fun x4 => jn (fun (s5 : Int32) => rtZ s5 s3) fun j81 => if x4 ≤ 0 then ( j81 ((0 : Int32))) else ( j81 ((1 : Int32)))) fun j69 => if x2 ≤ 0 then ( j69 s1) else ( gtP (3, 7) s1 (some 143) 3 fun x6 => gtI (3, 7) s1 (some 143) 5 fun x7 => alI 100 s1 x6 (x7 - ((1 : Int32))) fun x8 => asI 100 s1 x6 (x7 - ((1 : Int32))) ((x8 + ((1 : Int32)))) fun M9 => j69 M9) := ⟨_, rfl⟩
  obtain ⟨M1, q1, q2, q3⟩ := zc15_pop (rec := runX d) (J := J) T M 4294967296 hC hT h hD (by omega)
  have C1 : CT M1 := hC.keep q2.1
  have k1 := ck_143 C1
  have le := lkT_le (D := D) (N := N) T
  have st : runX (d + 1) 15 [va_rf (some 143)] M = J M1 := by
    rw [r15]; unfold b15; rw [aR_e, aZ_e]; unfold c15
    rw [jn_v, ← hJ]
    exact q1
  have o1 : ∀ z : Int, 0 ≤ z → z < (T : Int) → M1.1 144 z.toNat = D z ∧ M1.1 145 z.toNat = N z := fun z a b => ⟨(q2.2 _ _ (by omega)).trans (h.2 z a b).1, (q2.2 _ _ (by omega)).trans (h.2 z a b).2⟩
  by_cases y : lkT D N T = 0
  · refine ⟨M1, ?_, q2.m fun _ _ z => Or.inl z, ⟨q3, fun z a b => by omega⟩⟩
    rw [y] at q3
    rw [st, hJ, jv_e, if_pos y, gtI_q k1 q3, jn_v, if_pos (show iI ((0 : Nat) : Int) ≤ 0 from leI_p (y := 0) rfl li_0 (by omega)), jv_e, gtI_q k1 q3, jn_v, if_pos (show iI ((0 : Nat) : Int) ≤ 0 from leI_p (y := 0) rfl li_0 (by omega)), jv_e, rtZ_e (Or.inl rfl), li_0]
  · have tp : ((lkT D N T : Nat) : Int) - 1 < (T : Int) := by omega
    obtain ⟨a1, a2⟩ := o1 ((lkT D N T : Nat) - 1 : Int) (by omega) tp
    have ei : iI ((lkT D N T : Nat) : Int) - (1 : Int32) = iI ((lkT D N T : Nat) - 1 : Int) := sbI rfl li_1
    obtain ⟨M2, hM2⟩ : ∃ X, X = sI M1 144 (((lkT D N T : Nat) : Int) - 1).toNat (D ((lkT D N T : Nat) - 1 : Int) + 1) := ⟨_, rfl⟩
    have C2 : CT M2 := C1.keep (by rw [hM2]; rfl)
    have q4 : M2.1 143 5 = iI (lkT D N T : Nat) := by rw [hM2]; exact (sI_ne (by decide)).trans q3
    refine ⟨M2, ?_, ?_, ⟨q4, fun z a b => ⟨?_, ?_⟩⟩⟩
    · rw [st, hJ, jv_e, if_neg y, gtI_q k1 q3, jn_v, if_neg (show ¬ iI ((lkT D N T : Nat) : Int) ≤ 0 from leI_n (y := 0) rfl li_0 (by omega)), gtP_q k1 (cf_143_3 C1), gtI_q k1 q3, ei, alI_q (n := 1000) (z := ((lkT D N T : Nat) - 1 : Int)) (ck_144 C1) rfl (by omega) a1, asI_e (n := 1000) (z := ((lkT D N T : Nat) - 1 : Int)) (ck_144 C1) (by omega) (by omega) (by omega), ← hM2, jv_e, gtI_q (ck_143 C2) q4, jn_v, if_neg (show ¬ iI ((lkT D N T : Nat) : Int) ≤ 0 from leI_n (y := 0) rfl li_0 (by omega)), jv_e, rtZ_e (Or.inr rfl), li_1]
    · rw [hM2]
      exact (q2.m fun _ _ z => Or.inl z).si (Or.inr rfl)
    · rw [hM2]
      unfold lkU
      by_cases w : z = ((lkT D N T : Nat) : Int) - 1
      · rw [if_pos w, w]; exact sI_eq
      · rw [if_neg w]; exact (sI_nej (by omega)).trans (o1 z a (by omega)).1
    · rw [hM2]; exact (sI_ne (by decide)).trans (o1 z a (by omega)).2
theorem lzC_st (h : 1000000000 < lzC N k) : ∀ m : Nat, lzC N (k + m) = lzC N k
  | 0 => rfl
  | m + 1 => by
    show (if 1000000000 < lzC N (k + m) then lzC N (k + m) else lzC N (k + m) * lqN N (k + m)) = _
    rw [lzC_st h m, if_pos h]
theorem zc16_4 {J : Int64 → XA} (hC : CT M) (hT : T ≤ 1000) (h : lkC T D N M) (hD : lkD D N T) : ∀ (m k Nf : Nat), k + m = T → m < Nf → lp (c16_4 rec (some 143) M J) Nf (iL (lzC N k), iI (k : Int)) = J (iL (lzC N T))
  | 0, k, Nf, e, hN => by
    obtain ⟨Nf, rfl⟩ : ∃ e, Nf = e + 1 := ⟨Nf - 1, by omega⟩
    rw [lp_e]; unfold c16_4
    dsimp only
    rw [gtI_q (ck_143 hC) h.1, if_pos (leI_p rfl rfl (by omega)), show k = T by omega]
  | m + 1, k, Nf, e, hN => by
    obtain ⟨Nf, rfl⟩ : ∃ e, Nf = e + 1 := ⟨Nf - 1, by omega⟩
    have b := lzC_b (N := N) k
    rw [lp_e]; unfold c16_4
    dsimp only
    rw [gtI_q (ck_143 hC) h.1, if_neg (leI_n rfl rfl (by omega)), iL_f]
    by_cases y : 1000000000 < lzC N k
    · rw [if_pos ((lgL_gt (by omega) (by omega)).mpr y), ← e, lzC_st y]
    · have hk := hD k (by omega)
      have nb : (N (k : Int)).toInt < 2147483648 := by simpa using Int32.toInt_lt (N (k : Int))
      rw [if_neg (fun z => y ((lgL_gt (by omega) (by omega)).mp z)), gtP_q (ck_143 hC) (cf_143_4 hC), alI_q (n := 1000) (z := (k : Int)) (ck_145 hC) rfl (by omega) (h.2 (k : Int) (by omega) (by omega)).2]
      have ih := zc16_4 (J := J) hC hT h hD m (k + 1) Nf (by omega) (by omega)
      have e1 : lzC N (k + 1) = lzC N k * lqN N k := by
        show (if 1000000000 < lzC N k then lzC N k else lzC N k * lqN N k) = _
        rw [if_neg y]
      have e2 : (N (k : Int)).toInt64 = iL (lqN N k) := by
        have q := li64 (z := (N (k : Int)).toInt) (by omega)
        rw [iI_eta] at q
        exact q
      rw [← ih, e1, ← iL_mul, ← e2, ← (show iI (k : Int) + (1 : Int32) = iI ((k + 1 : Nat) : Int) from cvI (adI rfl li_1) (by omega))]
      rfl
/-- a share comes to the sum -/
theorem zc16 (hd : 2 ≤ d) (hC : CT M) (hT : T ≤ 1000) (h : lkC T D N M) (hD : lkD D N T) (h0 : M.2.1 143 0 = iL A) (h1 : M.2.1 143 1 = iL B) (h2 : M.1 143 2 = iI f) (hf : f = 0 ∨ f = 1) (hb : f = 0 → A ≤ B ∧ 1 ≤ B ∧ B ≤ 1000000000) : ∃ M', runX d 16 [va_rf (some 143)] M = some (.null, M') ∧ M'.2.2 = M.2.2 ∧ (∀ a j, ¬ (a = 143 ∧ j = 2) → M'.1 a j = M.1 a j) ∧ (∀ a j, ¬ (a = 143 ∧ j < 2) → M'.2.1 a j = M.2.1 a j) ∧ M'.2.1 143 0 = iL (lkS A B f (lzC N T)).1 ∧ M'.2.1 143 1 = iL (lkS A B f (lzC N T)).2.1 ∧ M'.1 143 2 = iI (lkS A B f (lzC N T)).2.2 := by
  obtain ⟨d, rfl⟩ : ∃ e, d = e + 1 := ⟨d - 1, by omega⟩
  have k := ck_143 hC
  have b := lzC_b (N := N) T
  have pp := lzP_pos T hD
  obtain ⟨P, hP⟩ : ∃ P, P = lzC N T := ⟨_, rfl⟩
  obtain ⟨J, hJ⟩ : ∃ J : Int32 → XA, J = jv fun (s3 : Int32) => ptZ (3, 7) M (some 143) 2 s3 fun M4 => gtI (3, 7) M4 (some 143) 2 fun x5 => if x5 = 0 then ( gtL (3, 7) M4 (some 143) 0 fun x6 => gtL (3, 7) M4 (some 143) 1 fun x7 => lt ((x6 * iL P) + x7) fun (x8 : Int64) => gtL (3, 7) M4 (some 143) 1 fun x9 => lt (x9 * iL P) fun (x10 : Int64) => cL (runX d 17 [.long x8, .long x10] M4) fun x12 M11 => jn (fun (s13 : Int64) => ptL (3, 7) M11 (some 143) 0 s13 fun M14 => jn (fun (s15 : Int64) => ptL (3, 7) M14 (some 143) 1 s15 fun M16 => gtL (3, 7) M16 (some 143) 1 fun x17 => jn (fun (s18 : Int32) => ptZ (3, 7) M16 (some 143) 2 s18 fun M19 => some (.null, M19)) fun j153 => if (lg_cmp x17 ((1000000000 : Int64))) ≤ 0 then ( j153 ((0 : Int32))) else ( j153 ((1 : Int32)))) fun j133 => if (lg_cmp x12 ((0 : Int64))) = 0 then ( j133 x10) else ( if x12 = 0 then none else j133 (x10 / x12))) fun j112 => if (lg_cmp x12 ((0 : Int64))) = 0 then ( j112 x8) else ( if x12 = 0 then none else j112 (x8 / x12))) else ( some (.null, M4)) := ⟨_, rfl⟩
  have st : runX (d + 1) 16 [va_rf (some 143)] M = if iI f = 0 then (if (lg_cmp (iL P) ((1000000000 : Int64))) ≤ 0 then J ((0 : Int32)) else J ((1 : Int32))) else J ((1 : Int32)) := by
    rw [r16]; unfold b16; rw [aR_e, aZ_e]; unfold c16
    rw [jn_v, show ((1 : Int64), (0 : Int32)) = (iL (lzC N 0), iI ((0 : Nat) : Int)) by rw [iL_1, li_0]; rfl, zc16_4 hC hT h hD T 0 4294967296 (by omega) (by omega), jv_e, gtI_q k h2, jn_v, ← hP, ← hJ]
    rfl
  have Jone : J ((1 : Int32)) = some (.null, sI M 143 2 1) := by
    rw [hJ, jv_e, ptZ_e k (Or.inr rfl), gtI_q (M := sI M 143 2 1) k sI_eq, if_neg (show ¬ ((1 : Int32) = 0) by decide)]
  have one : runX (d + 1) 16 [va_rf (some 143)] M = some (.null, sI M 143 2 1) → lkS A B f P = (A, B, 1) → ∃ M', runX (d + 1) 16 [va_rf (some 143)] M = some (.null, M') ∧ M'.2.2 = M.2.2 ∧ (∀ a j, ¬ (a = 143 ∧ j = 2) → M'.1 a j = M.1 a j) ∧ (∀ a j, ¬ (a = 143 ∧ j < 2) → M'.2.1 a j = M.2.1 a j) ∧ M'.2.1 143 0 = iL (lkS A B f P).1 ∧ M'.2.1 143 1 = iL (lkS A B f P).2.1 ∧ M'.1 143 2 = iI (lkS A B f P).2.2 := fun e1 e2 => by
    rw [e2]
    refine ⟨_, e1, rfl, fun a j z => ?_, fun a j z => rfl, h0, h1, sI_eq.trans li_1⟩
    by_cases y : a = 143
    · exact sI_nej fun w => z ⟨y, w⟩
    · exact sI_ne y
  rw [← hP]
  rcases hf with f0 | f1
  · obtain ⟨b1, b2, b3⟩ := hb f0
    by_cases y : 1000000000 < P
    · refine one ?_ (by unfold lkS; rw [if_pos (Or.inr y)])
      rw [st, if_pos (show iI f = 0 by rw [f0]; rfl), iL_f, if_neg (fun z => by have := (lgL_le (by omega) (by omega)).mp z; omega), Jone]
    · have eP : P = lzP N T := by rw [hP]; exact lzC_le T (by omega)
      have m1 : A * P ≤ 1000000000 * 1000000000 := Nat.mul_le_mul (by omega) (by omega)
      have m2 : B * P ≤ 1000000000 * 1000000000 := Nat.mul_le_mul (by omega) (by omega)
      have m3 : 0 < B * P := Nat.mul_pos b2 (by omega)
      obtain ⟨g, hg⟩ : ∃ g, g = Nat.gcd (A * P + B) (B * P) := ⟨_, rfl⟩
      have g0 : 0 < g := by rw [hg]; exact Nat.gcd_pos_of_pos_right _ m3
      have g1 : g ≤ B * P := by rw [hg]; exact Nat.le_of_dvd m3 (Nat.gcd_dvd_right _ _)
      have q1 : (A * P + B) / g ≤ A * P + B := Nat.div_le_self _ _
      have q2 : B * P / g ≤ B * P := Nat.div_le_self _ _
      have eS : lkS A B f P = ((A * P + B) / g, B * P / g, if 1000000000 < B * P / g then 1 else 0) := by
        unfold lkS
        rw [if_neg (by omega), ← hg]
      obtain ⟨f', hf'⟩ : ∃ f' : Int, f' = if 1000000000 < B * P / g then 1 else 0 := ⟨_, rfl⟩
      rw [eS, ← hf']
      obtain ⟨M1, hM1⟩ : ∃ X, X = sI M 143 2 0 := ⟨_, rfl⟩
      have C1 : CT M1 := hC.keep (by rw [hM1]; rfl)
      have k1 := ck_143 C1
      obtain ⟨M2, hM2⟩ : ∃ X, X = sL M1 143 0 (iL ((A * P + B) / g)) := ⟨_, rfl⟩
      have k2 : M2.2.2.2[143]? = some (3, 7) := by rw [hM2]; exact k1
      obtain ⟨M3, hM3⟩ : ∃ X, X = sL M2 143 1 (iL (B * P / g)) := ⟨_, rfl⟩
      have k3 : M3.2.2.2[143]? = some (3, 7) := by rw [hM3]; exact k2
      have l0 : M1.2.1 143 0 = iL A := by rw [hM1]; exact h0
      have l1 : M1.2.1 143 1 = iL B := by rw [hM1]; exact h1
      have z0 : ¬ lg_cmp (iL g) (0 : Int64) = 0 := fun z => by have := (lgL_z (by omega)).mp z; omega
      have z1 : ¬ iL g = 0 := fun z => by have := (iL_z (by omega)).mp z; omega
      have fin : J ((0 : Int32)) = some (.null, sI M3 143 2 (iI f')) := by
        rw [hJ, jv_e, ptZ_e k (Or.inl rfl), ← hM1, gtI_q (M := M1) (w := 0) k1 (by rw [hM1]; exact sI_eq), if_pos rfl, gtL_q k1 l0, gtL_q k1 l1, lt_e, gtL_q k1 l1, lt_e, iL_mul, iL_mul, iL_add, cL_e (zc17 (by omega) (by omega) (by omega)), ← hg]
        rw [jn_v, if_neg z0, if_neg z1, jv_e, iL_div (by omega) (by omega), ptL_e k1, ← hM2, jn_v, if_neg z0, if_neg z1, jv_e, iL_div (by omega) (by omega), ptL_e k2, ← hM3, gtL_q k3 (w := iL (B * P / g)) (by rw [hM3]; exact sL_eq), jn_v, iL_f]
        by_cases w : 1000000000 < B * P / g
        · rw [if_neg (fun z => by have := (lgL_le (by omega) (by omega)).mp z; omega), jv_e, ptZ_e k3 (Or.inr rfl), hf', if_pos w]
          rfl
        · rw [if_pos ((lgL_le (by omega) (by omega)).mpr (by omega)), jv_e, ptZ_e k3 (Or.inl rfl), hf', if_neg w]
          rfl
      refine ⟨sI M3 143 2 (iI f'), ?_, ?_, fun a j z => ?_, fun a j z => ?_, ?_, ?_, sI_eq⟩
      · rw [st, if_pos (show iI f = 0 by rw [f0]; rfl), iL_f, if_pos ((lgL_le (by omega) (by omega)).mpr (by omega)), fin]
      · rw [hM3, hM2, hM1]; rfl
      · have w1 : (sI M3 143 2 (iI f')).1 a j = M3.1 a j := by
          by_cases y : a = 143
          · exact sI_nej fun w => z ⟨y, w⟩
          · exact sI_ne y
        rw [w1, hM3, hM2, hM1]
        show (sI M 143 2 0).1 a j = _
        by_cases y : a = 143
        · exact sI_nej fun w => z ⟨y, w⟩
        · exact sI_ne y
      · show M3.2.1 a j = _
        have w1 : M3.2.1 a j = M2.2.1 a j := by
          rw [hM3]
          by_cases y : a = 143
          · exact sL_nej (by omega)
          · exact sL_ne y
        have w2 : M2.2.1 a j = M1.2.1 a j := by
          rw [hM2]
          by_cases y : a = 143
          · exact sL_nej (by omega)
          · exact sL_ne y
        rw [w1, w2, hM1]
        rfl
      · show M3.2.1 143 0 = _
        rw [hM3, sL_nej (by decide), hM2]
        exact sL_eq
      · show M3.2.1 143 1 = _
        rw [hM3]
        exact sL_eq
  · refine one ?_ (by unfold lkS; rw [if_pos (Or.inl f1)])
    rw [st, if_neg (show ¬ iI f = 0 by rw [f1]; decide), Jone]
end S9dx
