/-! luck in the reference: a row -/
section S9dy
variable {d : Nat} {M M' Mr Mr1 Mr2 : Mem} {rec : Nat → List Value → Mem → XA} {D N : Int → Int32} {f p c V k : Int} {T A B P Nf : Nat}
theorem r301_pop : ∀ (T : Nat) (M : Mem) (Nf : Nat), RT M → T ≤ 1000 → lkR T D N M → T < Nf → ∃ (M' : Mem) (T' : Nat), (∀ J : Mem → XA, lp (c301_242 rec (some 160) J) Nf M = J M') ∧ Fz (fun a j => a = 160 ∧ j = 98) M M' ∧ M'.1 160 98 = iI (T' : Int) ∧ T' ≤ T ∧ (lkD D N T → T' = lkT D N T)
  | 0, M, Nf, hR, hT, h, hN => by
    obtain ⟨Nf, rfl⟩ : ∃ e, Nf = e + 1 := ⟨Nf - 1, by omega⟩
    refine ⟨M, 0, fun J => ?_, Fz.r, h.1, Nat.le_refl _, fun _ => rfl⟩
    rw [lp_e]; unfold c301_242
    rw [gtI_q (rk_160 hR) h.1, if_pos (show iI ((0 : Nat) : Int) ≤ 0 from leI_p (y := 0) rfl li_0 (by omega))]
  | T + 1, M, Nf, hR, hT, h, hN => by
    obtain ⟨Nf, rfl⟩ : ∃ e, Nf = e + 1 := ⟨Nf - 1, by omega⟩
    have k := rk_160 hR
    obtain ⟨h1, h2⟩ := h.2 (T : Int) (by omega) (by omega)
    have e : lkT D N (T + 1) = if (N (T : Int)).toInt ≤ (D (T : Int)).toInt + 1 then lkT D N T else T + 1 := rfl
    have ei : iI ((T + 1 : Nat) : Int) - (1 : Int32) = iI (T : Int) := cvI (sbI rfl li_1) (by omega)
    have cn : lkD D N (T + 1) → ((D (T : Int) + ((1 : Int32))) < N (T : Int) ↔ ¬ (N (T : Int)).toInt ≤ (D (T : Int)).toInt + 1) := fun hD => by
      have hd := hD T (by omega)
      have nb : (N (T : Int)).toInt < 2147483648 := by simpa using Int32.toInt_lt (N (T : Int))
      have eD : D (T : Int) = iI (D (T : Int)).toInt := (iI_eta _).symm
      have eN : N (T : Int) = iI (N (T : Int)).toInt := (iI_eta _).symm
      have e3 : D (T : Int) + ((1 : Int32)) = iI ((D (T : Int)).toInt + 1) := adI eD li_1
      rw [e3]
      constructor
      · intro z w
        exact lsI_n (v := iI ((D (T : Int)).toInt + 1)) (w := N (T : Int)) rfl eN (by omega) z
      · intro z
        exact lsI_p (v := iI ((D (T : Int)).toInt + 1)) (w := N (T : Int)) rfl eN (by omega)
    have pre : ∀ J : Mem → XA, c301_242 rec (some 160) J M (lp (c301_242 rec (some 160) J) Nf) = if (D (T : Int) + ((1 : Int32))) < N (T : Int) then J M else gtI (13, 157) M (some 160) 98 fun x40 => ptI (13, 157) M (some 160) 98 (x40 - ((1 : Int32))) fun M41 => lp (c301_242 rec (some 160) J) Nf M41 := fun J => by
      unfold c301_242
      rw [gtI_q k h.1, if_neg (show ¬ iI ((T + 1 : Nat) : Int) ≤ 0 from leI_n (y := 0) rfl li_0 (by omega)), gtP_q k (rf_99 hR), gtI_q k h.1, ei, alI_q (n := 1001) (z := (T : Int)) (rk_219 hR) rfl (by omega) h1, gtP_q k (rf_100 hR), gtI_q k h.1, ei, alI_q (n := 1001) (z := (T : Int)) (rk_220 hR) rfl (by omega) h2]
    by_cases y : (D (T : Int) + ((1 : Int32))) < N (T : Int)
    · refine ⟨M, T + 1, fun J => ?_, Fz.r, h.1, Nat.le_refl _, fun hD => ?_⟩
      · rw [lp_e, pre, if_pos y]
      · rw [e, if_neg ((cn hD).mp y)]
    · obtain ⟨M', T', q1, q2, q3, q4, q5⟩ := r301_pop T (sI M 160 98 (iI (T : Int))) Nf (hR.keep rfl) (by omega) ⟨sI_eq, fun z a b => ⟨(sI_ne (by decide)).trans (h.2 z a (by omega)).1, (sI_ne (by decide)).trans (h.2 z a (by omega)).2⟩⟩ (by omega)
      refine ⟨M', T', fun J => ?_, Fz.tr ((Fz.r).si ⟨rfl, rfl⟩) q2, q3, by omega, fun hD => ?_⟩
      · rw [lp_e, pre, if_neg y, gtI_q k h.1, ei, ptI_e k]
        exact q1 J
      · rw [q5 (hD.lo (by omega)), e, if_pos (Classical.byContradiction fun w => y ((cn hD).mpr w))]
theorem r301_99 {J : Int64 → XA} (hR : RT M) (hT : T ≤ 1000) (h : lkR T D N M) (h82 : M.1 160 82 = iI (T : Int)) (hD : lkD D N T) : ∀ (m k Nf : Nat), k + m = T → m < Nf → lp (c301_99 rec (some 160) M J) Nf (iL (lzC N k), iI (k : Int)) = J (iL (lzC N T))
  | 0, k, Nf, e, hN => by
    obtain ⟨Nf, rfl⟩ : ∃ e, Nf = e + 1 := ⟨Nf - 1, by omega⟩
    rw [lp_e]; unfold c301_99
    dsimp only
    rw [gtI_q (rk_160 hR) h82, if_pos (leI_p rfl rfl (by omega)), show k = T by omega]
  | m + 1, k, Nf, e, hN => by
    obtain ⟨Nf, rfl⟩ : ∃ e, Nf = e + 1 := ⟨Nf - 1, by omega⟩
    have b := lzC_b (N := N) k
    have ih := r301_99 (J := J) hR hT h h82 hD m (k + 1) Nf (by omega) (by omega)
    rw [lp_e]; unfold c301_99
    dsimp only
    rw [gtI_q (rk_160 hR) h82, if_neg (leI_n rfl rfl (by omega)), iL_f, jn_v]
    have e1 : lzC N (k + 1) = if 1000000000 < lzC N k then lzC N k else lzC N k * lqN N k := rfl
    have ek : iI (k : Int) + (1 : Int32) = iI ((k + 1 : Nat) : Int) := cvI (adI rfl li_1) (by omega)
    by_cases y : 1000000000 < lzC N k
    · rw [if_neg (fun z => by have := (lgL_le (by omega) (by omega)).mp z; omega), jv_e]
      rw [← ih, e1, if_pos y, ← ek]
      rfl
    · have hk := hD k (by omega)
      have e2 : (N (k : Int)).toInt64 = iL (lqN N k) := by
        have nb : (N (k : Int)).toInt < 2147483648 := by simpa using Int32.toInt_lt (N (k : Int))
        have q := li64 (z := (N (k : Int)).toInt) (by omega)
        rw [iI_eta] at q
        exact q
      rw [if_pos ((lgL_le (by omega) (by omega)).mpr (by omega)), gtP_q (rk_160 hR) (rf_100 hR), alI_q (n := 1001) (z := (k : Int)) (rk_220 hR) rfl (by omega) (h.2 (k : Int) (by omega) (by omega)).2, jv_e]
      rw [← ih, e1, if_neg y, ← iL_mul, ← e2, ← ek]
      rfl
/-- what is behind the life of a row -/
def zj242 (d : Nat) (p c : Int) (J : Int32 × Int64 × Int64 × Int32 × Mem → XA) (Nf : Nat) (k : Int) : Int64 × Int64 × Int32 × Mem → XA := jv fun (s20 : Int64 × Int64 × Int32 × Mem) =>
 jn (fun (s21 : Mem) =>
 gtI (13, 157) s21 (some 160) 98 fun x22 =>
 jn (fun (s23 : Int32) =>
 if s23 = 0 then (
 lp (c301_47 (runX d) (some 160) (iI p) (iI c) J) Nf (iI k, s20.1, s20.2.1, s20.2.2.1, s23, s21)) else (
 gtP (13, 157) s21 (some 160) 99 fun x24 =>
 gtI (13, 157) s21 (some 160) 98 fun x25 =>
 alI 100 s21 x24 (x25 - ((1 : Int32))) fun x26 =>
 asI 100 s21 x24 (x25 - ((1 : Int32))) ((x26 + ((1 : Int32)))) fun M27 =>
 gtI (13, 157) M27 (some 160) 84 fun x28 =>
 jn (fun (s29 : Int32) =>
 ptZ (13, 157) M27 (some 160) 84 s29 fun M30 =>
 lp (c301_47 (runX d) (some 160) (iI p) (iI c) J) Nf (iI k, s20.1, s20.2.1, s20.2.2.1, s23, M30)) fun j343 =>
 jn (fun (s31 : Unit) =>
 j343 ((1 : Int32))) fun j338 =>
 if x28 = 0 then (
 if iI k = ((400 : Int32)) then (
 j338 ()) else (
 j343 ((0 : Int32)))) else (
 j338 ()))) fun j301 =>
 if x22 ≤ 0 then (
 j301 ((0 : Int32))) else (
 j301 ((1 : Int32)))) fun j289 =>
 lp (c301_242 (runX d) (some 160) j289) 4294967296 s20.2.2.2
theorem zj242_e {J : Int32 × Int64 × Int64 × Int32 × Mem → XA} {a b : Int64} {w : Int32} {s : Int} (hR : RT M) (hT : T ≤ 1000) (h : lkR T D N M) (h84 : M.1 160 84 = iI s) (hs : s = 0 ∨ s = 1) (hk : 0 ≤ k ∧ k ≤ 1000) : ∃ (M' : Mem) (T' : Nat), zj242 d p c J Nf k (a, b, w, M) = lp (c301_47 (runX d) (some 160) (iI p) (iI c) J) Nf (iI k, a, b, w, iI (if T' = 0 then 0 else 1), M') ∧ T' ≤ T ∧ Fz (fun a j => (a = 160 ∧ (j = 98 ∨ j = 84)) ∨ a = 219) M M' ∧ lkR T' (lkU D T') N M' ∧ M'.1 160 84 = iI (if T' = 0 then s else if s = 0 ∧ k ≠ 400 then 0 else 1) ∧ (lkD D N T → T' = lkT D N T) := by
  obtain ⟨M1, T', q1, q2, q3, q4, q5⟩ := r301_pop (rec := runX d) T M 4294967296 hR hT h (by omega)
  have R1 : RT M1 := hR.keep q2.1
  have k1 := rk_160 R1
  have o1 : ∀ z : Int, 0 ≤ z → z < (T : Int) → M1.1 219 z.toNat = D z ∧ M1.1 220 z.toNat = N z := fun z a b => ⟨(q2.2 _ _ (by omega)).trans (h.2 z a b).1, (q2.2 _ _ (by omega)).trans (h.2 z a b).2⟩
  have e84 : M1.1 160 84 = iI s := (q2.2 _ _ (by omega)).trans h84
  unfold zj242
  rw [jv_e, jn_v, q1, jv_e, gtI_q k1 q3, jn_v]
  by_cases y : T' = 0
  · refine ⟨M1, 0, ?_, by omega, q2.m fun _ _ z => Or.inl ⟨z.1, Or.inl z.2⟩, ⟨by rw [q3, y], fun z a b => by omega⟩, by rw [if_pos rfl]; exact e84, fun z => by rw [← y]; exact q5 z⟩
    rw [if_pos (show iI (T' : Int) ≤ 0 from leI_p (y := 0) rfl li_0 (by omega)), jv_e, if_pos rfl, if_pos rfl]
    rfl
  · obtain ⟨a1, a2⟩ := o1 ((T' : Int) - 1) (by omega) (by omega)
    have ei : iI (T' : Int) - (1 : Int32) = iI ((T' : Int) - 1) := sbI rfl li_1
    obtain ⟨M2, hM2⟩ : ∃ X, X = sI M1 219 ((T' : Int) - 1).toNat (D ((T' : Int) - 1) + 1) := ⟨_, rfl⟩
    have R2 : RT M2 := R1.keep (by rw [hM2]; rfl)
    have k2 := rk_160 R2
    have w84 : M2.1 160 84 = iI s := by rw [hM2]; exact (sI_ne (by decide)).trans e84
    obtain ⟨sn, hsn⟩ : ∃ sn : Int, sn = if s = 0 ∧ k ≠ 400 then 0 else 1 := ⟨_, rfl⟩
    have nz : ¬ ((1 : Int32) = 0) := by decide
    have end' : ∀ w2 : Int32, w2 = iI sn → (ptZ (13, 157) M2 (some 160) 84 w2 fun M30 => lp (c301_47 (runX d) (some 160) (iI p) (iI c) J) Nf (iI k, a, b, w, (1 : Int32), M30)) = lp (c301_47 (runX d) (some 160) (iI p) (iI c) J) Nf (iI k, a, b, w, iI 1, sI M2 160 84 (iI sn)) := fun w2 hw => by
      rw [ptZ_q k2 hw (by rw [hsn]; split <;> omega), li_1]
    refine ⟨sI M2 160 84 (iI sn), T', ?_, q4, ?_, ⟨(sI_nej (by decide)).trans (by rw [hM2]; exact (sI_ne (by decide)).trans q3), fun z u v => ⟨(sI_ne (by decide)).trans ?_, (sI_ne (by decide)).trans ?_⟩⟩, ?_, q5⟩
    · rw [if_neg (show ¬ iI (T' : Int) ≤ 0 from leI_n (y := 0) rfl li_0 (by omega)), jv_e, if_neg nz, gtP_q k1 (rf_99 R1), gtI_q k1 q3, ei, alI_q (n := 1001) (z := (T' : Int) - 1) (rk_219 R1) rfl (by omega) a1, asI_e (n := 1001) (z := (T' : Int) - 1) (rk_219 R1) (by omega) (by omega) (by omega), ← hM2, gtI_q k2 w84, jn_v, jn_v, if_neg y]
      rcases hs with s0 | s1
      · rw [if_pos (show iI s = 0 by rw [s0]; rfl)]
        by_cases y4 : k = 400
        · rw [if_pos (show iI k = (400 : Int32) by rw [y4]; rfl), jv_e, jv_e]
          exact end' 1 (by rw [hsn, if_neg (by omega)]; exact li_1)
        · rw [if_neg (show ¬ iI k = (400 : Int32) from eqI_n (y := 400) rfl rfl (by omega)), jv_e]
          exact end' 0 (by rw [hsn, if_pos ⟨s0, y4⟩]; exact li_0)
      · rw [if_neg (show ¬ iI s = 0 by rw [s1]; decide), jv_e, jv_e]
        exact end' 1 (by rw [hsn, if_neg (by omega)]; exact li_1)
    · refine Fz.si ?_ (Or.inl ⟨rfl, Or.inr rfl⟩)
      rw [hM2]
      exact (q2.m fun _ _ z => Or.inl ⟨z.1, Or.inl z.2⟩).si (Or.inr rfl)
    · rw [hM2]
      unfold lkU
      by_cases w : z = (T' : Int) - 1
      · rw [if_pos w, w]; exact sI_eq
      · rw [if_neg w]; exact (sI_nej (by omega)).trans (o1 z u (by omega)).1
    · rw [hM2]; exact (sI_ne (by decide)).trans (o1 z u (by omega)).2
    · rw [if_neg y, ← hsn]; exact sI_eq
/-- a turn up to where the life is done -/
def zj301 (d : Nat) (A B : Nat) (f : Int) (M17 : Mem) (j242 : Int64 × Int64 × Int32 × Mem → XA) (x19 : Int32) : XA := if x19 = ((1 : Int32)) then (
 if iI f = 0 then (
 gtI (13, 157) M17 (some 160) 84 fun x42 =>
 if x42 = 0 then (
 jn (fun (s43 : Int64) =>
 jn (fun (s44 : Int32) =>
 if s44 = 0 then (
 cL ((runX d) 300 [.long (iL B), .long s43] M17) fun x46 M45 =>
 if x46 = 0 then none else
 cL ((runX d) 300 [.long (iL B), .long s43] M45) fun x48 M47 =>
 if x48 = 0 then none else
 lt ((iL A * (s43 / x46)) + (iL B / x48)) fun (x49 : Int64) =>
 cL ((runX d) 300 [.long (iL B), .long s43] M47) fun x51 M50 =>
 if x51 = 0 then none else
 lt ((iL B / x51) * s43) fun (x52 : Int64) =>
 cL ((runX d) 300 [.long x49, .long x52] M50) fun x54 M53 =>
 if x54 = 0 then none else
 lt (x49 / x54) fun (x55 : Int64) =>
 if x54 = 0 then none else
 lt (x52 / x54) fun (x56 : Int64) =>
 jn (fun (s57 : Int32) =>
 j242 (x55, x56, s57, M53)) fun j240 =>
 if (lg_cmp x56 ((1000000000 : Int64))) ≤ 0 then (
 j240 ((0 : Int32))) else (
 j240 ((1 : Int32)))) else (
 j242 (iL A, iL B, s44, M17))) fun j155 =>
 if (lg_cmp s43 ((1000000000 : Int64))) ≤ 0 then (
 j155 ((0 : Int32))) else (
 j155 ((1 : Int32)))) fun j141 =>
 lp (c301_99 (runX d) (some 160) M17 j141) 4294967296 ((1 : Int64), (0 : Int32))) else (
 j242 (iL A, iL B, iI f, M17))) else (
 j242 (iL A, iL B, iI f, M17))) else (
 j242 (iL A, iL B, iI f, M17))
theorem zj301_e {j242 : Int64 × Int64 × Int32 × Mem → XA} (hd : 1 ≤ d) (hR : RT M) (hT : T ≤ 1000) (h : lkR T D N M) (hD : lkD D N T) (h82 : M.1 160 82 = iI (T : Int)) (h84 : M.1 160 84 = iI 0) (hf : f = 0 ∨ f = 1) (hb : f = 0 → A ≤ B ∧ 1 ≤ B ∧ B ≤ 1000000000) (hV : 1 ≤ V ∧ V ≤ 5) (S : Nat × Nat × Int) (hS : S = if V = 1 then lkS A B f (lzC N T) else (A, B, f)) : zj301 d A B f M j242 (iI V) = j242 (iL S.1, iL S.2.1, iI S.2.2, M) := by
  have b := lzC_b (N := N) T
  have pp := lzP_pos T hD
  unfold zj301
  by_cases v1 : V = 1
  · rw [if_pos (show iI V = (1 : Int32) by rw [v1]; rfl)]
    rw [if_pos v1] at hS
    rcases hf with f0 | f1
    · obtain ⟨b1, b2, b3⟩ := hb f0
      rw [if_pos (show iI f = 0 by rw [f0]; rfl), gtI_q (rk_160 hR) h84, if_pos (show iI 0 = 0 from rfl), jn_v, show ((1 : Int64), (0 : Int32)) = (iL (lzC N 0), iI ((0 : Nat) : Int)) by rw [iL_1, li_0]; rfl, r301_99 hR hT h h82 hD T 0 4294967296 (by omega) (by omega), jv_e, jn_v]
      obtain ⟨P, hP⟩ : ∃ P, P = lzC N T := ⟨_, rfl⟩
      rw [← hP] at hS b ⊢
      rw [iL_f]
      by_cases y : 1000000000 < P
      · rw [if_neg (fun z => by have := (lgL_le (by omega) (by omega)).mp z; omega), jv_e, if_neg (show ¬ ((1 : Int32) = 0) by decide), hS]
        unfold lkS
        rw [if_pos (Or.inr y), li_1]
      · have eP : P = lzP N T := by rw [hP]; exact lzC_le T (by omega)
        have P1 : 1 ≤ P := by omega
        have m1 : A * P ≤ 1000000000 * 1000000000 := Nat.mul_le_mul (by omega) (by omega)
        have m2 : B * P ≤ 1000000000 * 1000000000 := Nat.mul_le_mul (by omega) (by omega)
        have m3 : 0 < B * P := Nat.mul_pos b2 (by omega)
        obtain ⟨g, hg⟩ : ∃ g, g = Nat.gcd B P := ⟨_, rfl⟩
        have g0 : 0 < g := by rw [hg]; exact Nat.gcd_pos_of_pos_right _ P1
        have gB : g ≤ B := by rw [hg]; exact Nat.le_of_dvd b2 (Nat.gcd_dvd_left _ _)
        have q1 : P / g ≤ P := Nat.div_le_self _ _
        have q2 : B / g ≤ B := Nat.div_le_self _ _
        have q3 : 0 < B / g := Nat.div_pos gB g0
        have m4 : A * (P / g) ≤ 1000000000 * 1000000000 := Nat.mul_le_mul (by omega) (by omega)
        have m5 : B / g * P ≤ 1000000000 * 1000000000 := Nat.mul_le_mul (by omega) (by omega)
        have m6 : 0 < B / g * P := Nat.mul_pos q3 P1
        obtain ⟨two1, two2⟩ := lk_two (A := A) b2 P1 hg
        obtain ⟨h2, hh2⟩ : ∃ h2, h2 = Nat.gcd (A * (P / g) + B / g) (B / g * P) := ⟨_, rfl⟩
        have g2 : 0 < h2 := by rw [hh2]; exact Nat.gcd_pos_of_pos_right _ m6
        have g3 : h2 ≤ B / g * P := by rw [hh2]; exact Nat.le_of_dvd m6 (Nat.gcd_dvd_right _ _)
        rw [← hh2] at two1 two2
        have z1 : ¬ iL g = 0 := fun z => by have := (iL_z (by omega)).mp z; omega
        have z2 : ¬ iL h2 = 0 := fun z => by have := (iL_z (by omega)).mp z; omega
        have q4 : B / g * P / h2 ≤ B / g * P := Nat.div_le_self _ _
        have c1 : runX d 300 [.long (iL B), .long (iL P)] M = some (.long (iL g), M) := by rw [hg]; exact zr300 hd (by omega) (by omega)
        have c2 : runX d 300 [.long (iL (A * (P / g) + B / g)), .long (iL (B / g * P))] M = some (.long (iL h2), M) := by rw [hh2]; exact zr300 hd (by omega) (by omega)
        rw [if_pos ((lgL_le (by omega) (by omega)).mpr (by omega)), jv_e, if_pos rfl, cL_e c1, if_neg z1, cL_e c1, if_neg z1, iL_div (by omega) (by omega), iL_div (by omega) (by omega), iL_mul, iL_add, lt_e, cL_e c1, if_neg z1, iL_div (by omega) (by omega), iL_mul, lt_e, cL_e c2, if_neg z2, iL_div (by omega) (by omega), lt_e, if_neg z2, iL_div (by omega) (by omega), lt_e]
        have eS : S = ((A * P + B) / Nat.gcd (A * P + B) (B * P), B * P / Nat.gcd (A * P + B) (B * P), if 1000000000 < B * P / Nat.gcd (A * P + B) (B * P) then 1 else 0) := by
          rw [hS]; unfold lkS
          rw [if_neg (by omega)]
        rw [← two1, ← two2] at eS
        rw [jn_v, eS]
        by_cases w : 1000000000 < B / g * P / h2
        · rw [if_neg (fun z => by have := (lgL_le (by omega) (by omega)).mp z; omega), jv_e, if_pos w, li_1]
        · rw [if_pos ((lgL_le (by omega) (by omega)).mpr (by omega)), jv_e, if_neg w, li_0]
    · rw [if_neg (show ¬ iI f = 0 by rw [f1]; decide), hS]
      unfold lkS
      rw [if_pos (Or.inl f1), f1]
  · rw [if_neg (show ¬ iI V = (1 : Int32) from eqI_n (y := 1) rfl rfl (by omega)), hS, if_neg v1]
theorem zj301_s {j242 : Int64 × Int64 × Int32 × Mem → XA} {v : Int32} (hR : RT M) (h84 : M.1 160 84 = iI 1) : zj301 d A B f M j242 v = j242 (iL A, iL B, iI f, M) := by
  unfold zj301
  by_cases v1 : v = 1
  · rw [if_pos v1]
    by_cases f0 : iI f = 0
    · rw [if_pos f0, gtI_q (rk_160 hR) h84, if_neg (show ¬ iI 1 = 0 by decide)]
    · rw [if_neg f0]
  · rw [if_neg v1]
/-- a turn -/
theorem r301_b {J : Int32 × Int64 × Int64 × Int32 × Mem → XA} (hR : RT Mr) (h84 : Mr.1 160 84 = iI 0) (hR1 : RT Mr1) (e1 : runX d 235 [va_rf (some 160), .int (iI p), .int ((-1 : Int32))] Mr = some (.null, Mr1)) (e2 : runX d 254 [va_rf (some 160), .int (iI c)] Mr1 = some (.null, Mr2)) (hR2 : RT Mr2) : lp (c301_47 (runX d) (some 160) (iI p) (iI c) J) (Nf + 1) (iI k, iL A, iL B, iI f, iI 1, Mr) = zj301 d A B f Mr2 (zj242 d p c J Nf (k + 1)) (Mr2.1 160 101) := by
  rw [lp_e]; unfold c301_47
  dsimp only
  rw [if_neg (show ¬ iI 1 = 0 by decide), gtI_q (rk_160 hR) h84, if_pos (show iI 0 = 0 from rfl), vC_e (rk_160 hR), cV_e e1, vC_e (rk_160 hR1), cV_e e2, ltI_q (z := k + 1) (adI rfl li_1), gtI_q (rk_160 hR2) rfl, jn_v]
  rfl
end S9dy
