/-! the reference's machine: a code -/
section S9bf
variable {d : Nat} {e s s' t u A : ZS} {M M' M1 M2 : Mem} {a b j N x y : Nat} {v v1 v2 v3 w : Int32} {c k i n m p o q id key par NN D r B : Int} {R : Int → RG} {G : RG} {L : Int → Int} {Y : Nat → Int → Int}
/-- what an instruction uses is a member -/
def zZ (e : ZS) : Prop := ∀ p, zIn e p → 3 ≤ zop e p → zop e p ≤ 7 → 0 ≤ e.1 2 p 0 → zId e (e.1 2 p 0)
/-- an operation, and what comes of the code behind it -/
theorem g352_go {J : Int32 × Int32 × Mem → XA} (hd : 4 * (12 - n) + 12 ≤ d + 1) (hT : zET e) (hl : zEl e) (h8 : zE8 e) (hZ : zZ e) (hD : zRD e R L NN) (hK : zKn e s) (hm : s.1 1 0 0 = 0) (h9 : 0 < s.1 9 0 0 ∧ s.1 9 0 0 ≤ NN + 1) (h12 : s.1 12 0 0 ≠ 0) (hn : s.1 0 0 0 = n + 1 ∧ 0 ≤ n ∧ n < 12) (hB : B = s.1 6 n 0) (hE : zRE e R L M1) (f : zRo e M M1) (h : zRM e (ztick e s) M1)
    (ih : ∀ (t : ZS) (M3 : Mem), t.1 9 0 0 ≤ s.1 9 0 0 - 1 → t.1 0 0 0 = n + 1 → t.1 1 0 0 = 0 → t.1 6 n 0 = B → zKn e t → zRo e M1 M3 → zRM e t M3 → ∃ r M', J (iI (t.1 4 n 0), iI (zpc t), M3) = some (.int r, M') ∧ zRB e t n M3 M' r) :
    ∃ r M', g352 d (iI n) (rj685 d (iI n) (iI B)) (g726 d (iI n) (iI B) (rj142 (iI n) (iI B)) (rj778 (iI n)) J) (iI (s.1 4 n 0)) (iI (zpc s)) (iI (zpc s + 1)) (iI (zop e (zpc s))) M1 (iI (znum e (zpc s))) = some (.int r, M') ∧ zRB e s n M M' r := by
  obtain ⟨T, hTk⟩ : ∃ T, T = ztick e s := ⟨_, rfl⟩
  obtain ⟨o, ho⟩ : ∃ o, o = zop e (zpc s) := ⟨_, rfl⟩
  obtain ⟨nn, hnn⟩ : ∃ x, x = znum e (zpc s) := ⟨_, rfl⟩
  have st : zstep e s = zex e T o nn := by unfold zstep; rw [if_pos hm, if_neg (by omega), if_neg h12, hTk, ho, hnn]
  have gS : zto e s (zstep e s) := zto.st zto.r
  have K1 := zto_kn hT hl hK gS
  rw [st] at gS K1
  rw [← hTk] at h
  have t12 : ∀ kk, kk ≠ 9 → kk ≠ 10 → kk ≠ 12 → kk ≠ 15 → T.1 kk = s.1 kk := fun kk z1 z2 z3 z4 => by
    rw [hTk]; funext x y
    show (if kk = 9 then _ else if kk = 10 then _ else if kk = 12 then _ else if kk = 15 ∧ _ then _ else _) = _
    rw [if_neg z1, if_neg z2, if_neg z3, if_neg fun z => z4 z.1]
  have tw : ∀ kk, kk ≠ 7 → kk ≠ 8 → T.2 kk = s.2 kk := fun kk z1 z2 => by
    rw [hTk]; funext x y
    show (if kk = 7 ∧ _ then _ else if kk = 8 ∧ _ then _ else _) = _
    rw [if_neg fun z => z1 z.1, if_neg fun z => z2 z.1]
  have T0 : T.1 0 0 0 = s.1 0 0 0 := by rw [t12 0 (by decide) (by decide) (by decide) (by decide)]
  have Tf : zf T = n := by unfold zf; omega
  have sf : zf s = n := by unfold zf; omega
  have Tp : zpc T = zpc s := by rw [hTk]; rfl
  have Thh : zh T = zh s := by rw [hTk]; rfl
  have Tm : T.1 1 0 0 = 0 := by rw [t12 1 (by decide) (by decide) (by decide) (by decide)]; exact hm
  have T9 : T.1 9 0 0 = s.1 9 0 0 - 1 := by rw [hTk]; rfl
  have wT : zWT e T := by rw [hTk]; exact ztick_b hK.1 hm h9.1
  have Tl := wT.lr (Or.inl Tm)
  have A9 : (zex e T o nn).1 9 0 0 = s.1 9 0 0 - 1 := by rw [zex_k (by decide), T9]
  have Tbe : ∀ i, zBe s T i := fun i => by
    rw [hTk]
    exact ⟨fun kk z => by rcases z with z | z | z | z | z | z <;> subst z <;> rfl, fun _ => rfl, fun _ => ⟨rfl, rfl⟩⟩
  obtain ⟨hin, p0, hho⟩ := hK.1.ho (o := o) (n := nn) hm hT ho hnn
  have pb : 0 ≤ zpc s ∧ zpc s < 2000 := by
    have := hE.2.2.2.2.1.2.2.2.1
    unfold zIn at hin
    omega
  have iv := hK.2.1
  have l20 := hl.1
  have l30 := hl.2.2
  have iv1 := iv.1
  have iv2 := iv.2.1
  have iv3 := iv.2.2.1
  have m1000 : s.1 10 0 0 < 1000 := by omega
  have k := rk_160 h.1.1
  rw [← ho, ← hnn]
  have e4 : T.1 4 n 0 = s.1 4 n 0 := by rw [t12 4 (by decide) (by decide) (by decide) (by decide)]
  have e16 : T.1 16 n 0 = s.1 16 n 0 := by rw [t12 16 (by decide) (by decide) (by decide) (by decide)]
  have e6 : T.1 6 n 0 = s.1 6 n 0 := by rw [t12 6 (by decide) (by decide) (by decide) (by decide)]
  have e5 : T.1 5 n 0 = s.1 5 n 0 := by rw [t12 5 (by decide) (by decide) (by decide) (by decide)]
  have mid : ∀ (A' : ZS) (M3 : Mem), zex e T o nn = A' → A'.1 1 0 0 = 0 → A'.1 0 0 0 = n + 1 → (∀ i, 0 ≤ i → i < n → zBe T A' i) → A'.1 5 n 0 = s.1 5 n 0 → A'.1 6 n 0 = s.1 6 n 0 → zRM e A' M3 → zRo e M1 M3 → ∃ r M', g726 d (iI n) (iI B) (rj142 (iI n) (iI B)) (rj778 (iI n)) J (iI (A'.1 4 n 0), iI (zpc A'), M3) = some (.int r, M') ∧ zRB e s n M M' r := fun A' M3 c0 c1 c2 c3 c4 c5 c6 c7 => by
    rw [c0] at K1 gS A9
    obtain ⟨r, M', x1, x2⟩ := ih A' M3 (by omega) c2 c1 (by omega) K1 c7 c6
    refine ⟨r, M', ?_, x2.of gS (f.tr c7) (fun i p q => (Tbe i).tr (c3 i p q)) c4 c5⟩
    have k := rk_160 c6.1.1
    unfold g726
    rw [gtI_q k c6.2.2.2.2.1, if_pos (show iI 0 = 0 from rfl), gtI_q k c6.2.2.2.2.2, jn_v, if_pos (show iI 0 = 0 from rfl), jv_e]
    exact x1
  have out : ¬ (o = 1 ∨ o = 2 ∨ o = 8 ∨ o = 34 ∨ o = 24 ∨ o = 25 ∨ o = 26 ∨ o = 27 ∨ o = 31) → (∃ M2, runX d 244 [va_rf (some 160), .int (iI o), .int (iI nn), .int (iI (zpc s))] M1 = some (.null, M2) ∧ zRA e T (zex e T o nn) M1 M2) → ∃ r M', g352 d (iI n) (rj685 d (iI n) (iI B)) (g726 d (iI n) (iI B) (rj142 (iI n) (iI B)) (rj778 (iI n)) J) (iI (s.1 4 n 0)) (iI (zpc s)) (iI (zpc s + 1)) (iI o) M1 (iI nn) = some (.int r, M') ∧ zRB e s n M M' r := fun z1 z2 => by
    obtain ⟨M2, q1, q2⟩ := z2
    have m12 : (zex e T o nn).1 1 0 0 ≠ 1 ∧ (zex e T o nn).1 1 0 0 ≠ 2 := by
      rcases zex_m (e := e) (s := T) (o := o) (n := nn) Tm with ⟨z, -⟩ | ⟨z, -⟩ <;> omega
    rw [hTk] at q2
    obtain ⟨r, M', x1, x2⟩ := g726_go (d := d) (J := J) (v := iI (zpc s + 1)) (w := iI (s.1 4 n 0)) (by omega) hT hl K1 m12 hn hB gS f (by rw [hTk]; exact q2) rfl rfl (fun t M3 c1 => ih t M3 (by omega))
    refine ⟨r, M', ?_, x2⟩
    rw [g352_o ⟨p0.1, p0.2, z1⟩, vC_e k, cV_e q1]
    exact x1
  have c : (3 ≤ o ∧ o ≤ 7) ∨ o = 0 ∨ (10 ≤ o ∧ o ≤ 20) ∨ (o = 9 ∨ o = 21 ∨ o = 22 ∨ o = 23 ∨ o = 28 ∨ o = 29 ∨ o = 30 ∨ o = 32 ∨ o = 33) ∨ o = 1 ∨ o = 2 ∨ (o = 8 ∨ o = 34) ∨ o = 24 ∨ o = 31 ∨ o = 25 ∨ o = 26 ∨ o = 27 := by omega
  rcases c with c | c | c | c | c | c | c | c | c | c | c | c
  · -- a member
    have zx : zex e T o nn = zuse e T o (e.1 2 (zpc T) 0) (e.1 3 (e.1 2 (zpc T) 0) 0) := by
      unfold zex
      rw [if_neg (by omega), if_neg (by omega), if_neg (by omega), if_pos c.2]
    refine out (by omega) ?_
    rw [zx] at K1 ⊢
    exact rr244u (d := d) (NN := NN) (by rw [T0]; omega) hT hl hD hE h Tm wT ⟨by rw [Tp]; exact ho, c⟩ rfl (by rw [Tp]; exact hZ _ hin (by omega) (by omega)) rfl K1 (by omega) (fun D => by
      have i4 := iv.2.2.2.1 D
      rw [if_neg (by omega)] at i4
      rw [t12 17 (by decide) (by decide) (by decide) (by decide)]
      omega) rfl (by rw [Tp])
  · -- a number
    have zx : zex e T o nn = zex e T 0 nn := by rw [c]
    refine out (by omega) ?_
    have hm1 : (zex e T 0 nn).1 1 0 0 = 0 := Tm
    rw [zx] at K1 ⊢
    have l3 := (K1.1.lr (Or.inl hm1)).2.2.2.2
    have l4 : zh (zex e T 0 nn) = zh T + 1 := by
      show zh (znx (zpush T (iI nn))) = _
      exact zi_e (s := zw T 1 (zf T) (zh T) (iI nn)) (k := 3) (i := zf T) (j := 0) (v := zh T + 1)
    exact rr0 (d := d) (by omega) h Tm Tl (by omega) (by rw [c]) rfl
  · -- two numbers
    have zx : zex e T o nn = (if ztop T 1 = 0 ∧ (o = 13 ∨ o = 14) then zerr (zdn T 2) 1 3 else znx (zpush (zdn T 2) (ztwo o (ztop T 2) (ztop T 1)))) := by
      unfold zex
      rw [if_neg (by omega), if_neg (by omega), if_neg (by omega), if_neg (by omega), if_neg (by omega), if_neg (by omega), if_neg (by omega), if_neg (by omega), if_pos c.2]
    refine out (by omega) ?_
    rw [zx]
    exact rr2 (d := d) (by omega) h Tm Tl rfl c (by rw [Thh]; exact hho.2.2.2.2.2.2.1 c) (by rw [Tp])
  · -- one number
    refine out (by omega) ?_
    refine rr1 (d := d) (by omega) h Tm Tl rfl rfl (by rw [Tp]) ?_ (fun z => ⟨hE.2.2.2.1.2.2.2.1, hE.2.2.2.2.1.2.1 2 (by omega), ?_, ?_, ?_⟩)
    · have p4 := hho.2.2.1
      have p5 := hho.2.2.2.1
      have p6 := hho.2.2.2.2.1
      have p7 := hho.2.2.2.2.2.1
      unfold zR1
      rw [Thh]
      rcases c with c | c | c | c | c | c | c | c | c
      · exact Or.inl ⟨by omega, p4 (by omega)⟩
      · exact Or.inl ⟨by omega, p5 (by omega)⟩
      · exact Or.inl ⟨by omega, p5 (by omega)⟩
      · exact Or.inl ⟨by omega, p5 (by omega)⟩
      · exact Or.inl ⟨by omega, p4 (by omega)⟩
      · exact Or.inl ⟨by omega, p4 (by omega)⟩
      · exact Or.inr (Or.inl c)
      · refine Or.inr (Or.inr (Or.inr ⟨c, ?_⟩))
        have x1 := hT.2.2.1 (zpc s) hin (by omega)
        have x2 := h8 (zpc s) hin (by omega)
        rw [← hnn] at x1 x2
        have x3 := p7 (Or.inr c)
        have a0 := hE.1 0 (Or.inl rfl)
        have x4 := a0.2.2.2.1
        obtain ⟨-, -, -, b3, -, -, -⟩ := a0.2.2.2.2.2.2.1 nn x2.2.1 x2.2.2
        have e174 : M1.1 174 (96 * e.1 29 0 0 + nn).toNat = iI (e.1 5 nn 0) := by
          have b3' : e.1 5 nn 0 = (R 0).1 2 4 nn := by rw [show (96 * 0 + nn : Int) = nn by omega] at b3; exact b3
          rw [b3']
          exact a0.2.2.1.gi (c := 174) (st := 96) (k := 2) (f := 4) (by decide) (by omega) rfl
        have zx : zex e T o nn = znx (zpush (zdn T (e.1 5 nn 0)) 0) := by
          unfold zex
          rw [if_neg (by omega), if_neg (by omega), if_neg (by omega), if_neg (by omega), if_neg (by omega), if_neg (by omega), if_neg (by omega), if_neg (by omega), if_neg (by omega), if_neg (by omega), if_neg (by omega), if_neg (by omega), if_neg (by omega), if_neg (by omega), if_neg (by omega), if_neg (by omega), if_neg (by omega), if_neg (by omega), if_neg (by omega), if_pos c]
        rw [zx] at K1
        have hm1 : (znx (zpush (zdn T (e.1 5 nn 0)) 0)).1 1 0 0 = 0 := Tm
        have l3 := (K1.1.lr (Or.inl hm1)).2.2.2.2
        have l4 : zh (znx (zpush (zdn T (e.1 5 nn 0)) 0)) = zh (zdn T (e.1 5 nn 0)) + 1 := zi_e
        have l5 : zh (zdn T (e.1 5 nn 0)) = zh T - e.1 5 nn 0 := zdn_h
        exact ⟨by omega, by omega, by omega, ⟨by omega, by omega⟩, ⟨a0.1.1, a0.1.2, a0.2.1⟩, e174⟩
      · exact Or.inr (Or.inr (Or.inl ⟨c, p6 (by omega)⟩))
    · rw [t12 11 (by decide) (by decide) (by decide) (by decide)]; omega
    · rw [t12 11 (by decide) (by decide) (by decide) (by decide)]; omega
    · rw [t12 14 (by decide) (by decide) (by decide) (by decide)]; omega
  · -- a LOCAL is read
    subst c
    have zx : zex e T 1 nn = znx (zpush T (T.2 0 n nn)) := by rw [← Tf]; rfl
    obtain ⟨n1, n2⟩ := hho.1 rfl
    rw [sf] at n2
    have b10 := (Tl.2.1 n hn.2.1 (by omega)).2.2.2.1
    have l3 := (by rw [zx] at K1; exact (K1.1.lr (Or.inl (show (znx (zpush T (T.2 0 n nn))).1 1 0 0 = 0 from Tm))).2.2.2.2 : zh (znx (zpush T (T.2 0 n nn))) ≤ 200)
    have l4 : zh (znx (zpush T (T.2 0 n nn))) = zh T + 1 := zi_e
    obtain ⟨M2, q1, q2, q3⟩ := rq1 (d := d) (v := T.2 0 n nn) (by omega) h Tl (by omega)
    have e214 : M1.1 214 (10 * n + nn).toNat = T.2 0 n nn := (h.2.1 n hn.2.1 (by omega)).1 nn n1 (by rw [e16]; exact n2)
    obtain ⟨r, M', x1, x2⟩ := mid _ M2 zx Tm (T0.trans hn.1) (fun i p q => by
      have := (zSa.px (s := T) (v := T.2 0 n nn)).2.1 i p (by omega)
      exact this) e5 e6 (q2.at _) q3
    refine ⟨r, M', ?_, x2⟩
    have ep : zpc (znx (zpush T (T.2 0 n nn))) = zpc s + 1 := by rw [← Tp]; exact znx_pc
    have e4' : (znx (zpush T (T.2 0 n nn))).1 4 n 0 = s.1 4 n 0 := e4
    rw [ep, e4'] at x1
    rw [g352_1, gtP_q k (rf_74 h.1.1), alI_q (n := 120) (z := 10 * n + nn) (rk_214 h.1.1) (show (10 : Int32) * iI n + iI nn = iI (10 * n + nn) from adI (mlI (x := 10) rfl rfl) rfl) (by omega) e214, vC_e k, cV_e q1]
    exact x1
  · -- a LOCAL is set
    subst c
    obtain ⟨n1, n2, n3, n4⟩ := hho.2.1 rfl
    rw [sf] at n3
    have b10 := (Tl.2.1 n hn.2.1 (by omega)).2.2.2.1
    obtain ⟨M2, q1, q2, q3⟩ := rq2 (d := d) (by omega) h Tl (by omega)
    have l1 := Tl.dn (c := 1) (by omega)
    obtain ⟨c1, f1⟩ := q2.loc (n := nn) (v := ztop T 1) l1 ⟨n1, n2, by show nn ≤ T.1 16 (zf T) 0; rw [Tf, e16]; exact n3⟩
    have Tf' : zf (zdn T 1) = n := Tf
    rw [Tf'] at c1 f1
    have zx : zex e T 2 nn = znx (zi (zw (zdn T 1) 0 n nn (ztop T 1)) 16 n 0 (if nn < (zdn T 1).1 16 n 0 then (zdn T 1).1 16 n 0 else nn + 1)) := by rw [← Tf]; rfl
    obtain ⟨r, M', x1, x2⟩ := mid _ _ zx Tm (T0.trans hn.1) (fun i p q => ⟨fun kk z => by
      rcases z with z | z | z | z | z | z <;> subst z
      · exact zi_i (by show i ≠ zf T; omega)
      · exact zi_i (s := T) (by omega)
      · rfl
      · rfl
      · rfl
      · exact zi_i (show i ≠ n by omega), fun _ => rfl, fun x => ⟨zw_i (by omega), rfl⟩⟩) e5 e6 (c1.at _) (q3.tr f1)
    refine ⟨r, M', ?_, x2⟩
    have ep : zpc (znx (zi (zw (zdn T 1) 0 n nn (ztop T 1)) 16 n 0 (if nn < (zdn T 1).1 16 n 0 then (zdn T 1).1 16 n 0 else nn + 1))) = zpc s + 1 := by rw [← Tp]; exact znx_pc
    have e4' : (znx (zi (zw (zdn T 1) 0 n nn (ztop T 1)) 16 n 0 (if nn < (zdn T 1).1 16 n 0 then (zdn T 1).1 16 n 0 else nn + 1))).1 4 n 0 = s.1 4 n 0 := e4
    rw [ep, e4'] at x1
    rw [g352_2, gtP_q k (rf_74 h.1.1), vC_e k, cI_e q1, show (10 : Int32) * iI n + iI nn = iI (10 * n + nn) from adI (mlI (x := 10) rfl rfl) rfl, asI_e (rk_214 q2.1.1) (by omega) (by omega) (by omega)]
    exact x1
  · -- RETURN
    have hh := hho.2.2.2.2.2.2.2.1 c
    obtain ⟨M2, r, q1, q2, q3, q4, q5, q6, q7, q8, q9⟩ := rj685_e (d := d) (o := o) (v := iI o) (B := B) (n := n) (by omega) h Tl (by omega) (by omega) (by omega) rfl c
    have zx : zex e T o nn = zi (zi (zw T 6 0 0 r) 0 0 0 (zf T)) 1 0 0 2 := by
      unfold zex
      rcases c with c | c
      · rw [if_neg (by omega), if_neg (by omega), if_neg (by omega), if_neg (by omega), if_pos c, q3, if_neg (by omega)]
      · rw [if_neg (by omega), if_neg (by omega), if_neg (by omega), if_neg (by omega), if_neg (by omega), if_pos c, q3, if_pos c]
    rw [zx] at gS
    refine ⟨r, M2, ?_, _, gS, (f.tr q2).q, Or.inl ⟨⟨?_, fun i p q => ?_, e5, e6⟩, q4, q5, ⟨q6, by rw [q7, hB], q8⟩, Or.inl ⟨zi_e, q9, ?_⟩⟩⟩
    · rcases c with c | c
      · subst c; rw [g352_8]; exact q1
      · subst c; rw [g352_34]; exact q1
    · show (zi (zw T 6 0 0 r) 0 0 0 (zf T)).1 0 0 0 = n
      rw [← Tf]; exact zi_e
    · exact (Tbe i).tr ⟨fun kk w => by rcases w with w | w | w | w | w | w <;> subst w <;> rfl, fun _ => rfl, fun _ => ⟨rfl, rfl⟩⟩
    · exact (zw_e (s := T) (k := 6) (i := 0) (j := 0) (w := r)).symm
  · -- JUMPZ
    subst c
    have hh := hho.2.2.2.2.2.2.2.2.1 (Or.inl rfl)
    obtain ⟨M2, q1, q2, q3⟩ := rq2 (d := d) (by omega) h Tl (by omega)
    have zx : zex e T 24 nn = zgo (zdn T 1) (if ztop T 1 = 0 then nn + zoff (zpc s) else zpc s + 1) := by rw [← Tp]; rfl
    obtain ⟨r, M', x1, x2⟩ := mid _ M2 zx Tm (T0.trans hn.1) (fun i p q => ⟨fun kk z => by
      rcases z with z | z | z | z | z | z <;> subst z
      · exact zi_i (by show i ≠ zf T; omega)
      · exact zi_i (s := T) (show i ≠ zf T by omega)
      · rfl
      · rfl
      · rfl
      · rfl, fun _ => rfl, fun _ => ⟨rfl, rfl⟩⟩) e5 e6 (q2.at _) q3
    refine ⟨r, M', ?_, x2⟩
    have ep : zpc (zgo (zdn T 1) (if ztop T 1 = 0 then nn + zoff (zpc s) else zpc s + 1)) = (if ztop T 1 = 0 then nn + zoff (zpc s) else zpc s + 1) := zi_e
    have e4' : (zgo (zdn T 1) (if ztop T 1 = 0 then nn + zoff (zpc s) else zpc s + 1)).1 4 n 0 = s.1 4 n 0 := e4
    rw [ep, e4'] at x1
    rw [g352_24, vC_e k, cI_e q1, jn_v]
    by_cases y : ztop T 1 = 0
    · rw [if_pos y] at x1
      rw [if_pos y, jn_v, zoff_if (f := jv _) pb, jv_e, jv_e, show iI nn + iI (zoff (zpc s)) = iI (nn + zoff (zpc s)) from adI rfl rfl]
      exact x1
    · rw [if_neg y] at x1
      rw [if_neg y, jv_e]
      exact x1
  · -- JUMPN
    subst c
    have hh := hho.2.2.2.2.2.2.2.2.1 (Or.inr rfl)
    obtain ⟨M2, q1, q2, q3⟩ := rq2 (d := d) (by omega) h Tl (by omega)
    have zx : zex e T 31 nn = zgo (zdn T 1) (if ztop T 1 = 0 then zpc s + 1 else nn + zoff (zpc s)) := by rw [← Tp]; rfl
    obtain ⟨r, M', x1, x2⟩ := mid _ M2 zx Tm (T0.trans hn.1) (fun i p q => ⟨fun kk z => by
      rcases z with z | z | z | z | z | z <;> subst z
      · exact zi_i (by show i ≠ zf T; omega)
      · exact zi_i (s := T) (show i ≠ zf T by omega)
      · rfl
      · rfl
      · rfl
      · rfl, fun _ => rfl, fun _ => ⟨rfl, rfl⟩⟩) e5 e6 (q2.at _) q3
    refine ⟨r, M', ?_, x2⟩
    have ep : zpc (zgo (zdn T 1) (if ztop T 1 = 0 then zpc s + 1 else nn + zoff (zpc s))) = (if ztop T 1 = 0 then zpc s + 1 else nn + zoff (zpc s)) := zi_e
    have e4' : (zgo (zdn T 1) (if ztop T 1 = 0 then zpc s + 1 else nn + zoff (zpc s))).1 4 n 0 = s.1 4 n 0 := e4
    rw [ep, e4'] at x1
    rw [g352_31, vC_e k, cI_e q1, jn_v]
    by_cases y : ztop T 1 = 0
    · rw [if_pos y] at x1
      rw [if_pos y, jv_e]
      exact x1
    · rw [if_neg y] at x1
      rw [if_neg y, jn_v, zoff_if (f := jv _) pb, jv_e, jv_e, show iI nn + iI (zoff (zpc s)) = iI (nn + zoff (zpc s)) from adI rfl rfl]
      exact x1
  · -- JUMP
    subst c
    have zx : zex e T 25 nn = zgo T (nn + zoff (zpc s)) := by rw [← Tp]; rfl
    obtain ⟨r, M', x1, x2⟩ := mid _ M1 zx Tm (T0.trans hn.1) (fun i p q => ⟨fun kk z => by
      rcases z with z | z | z | z | z | z <;> subst z
      · exact zi_i (by show i ≠ zf T; omega)
      · rfl
      · rfl
      · rfl
      · rfl
      · rfl, fun _ => rfl, fun _ => ⟨rfl, rfl⟩⟩) e5 e6 (h.at _) zRo.r
    refine ⟨r, M', ?_, x2⟩
    have ep : zpc (zgo T (nn + zoff (zpc s))) = nn + zoff (zpc s) := zi_e
    have e4' : (zgo T (nn + zoff (zpc s))).1 4 n 0 = s.1 4 n 0 := e4
    rw [ep, e4'] at x1
    rw [g352_25, jn_v, zoff_if (f := jv _) pb, jv_e, ltI_q (adI rfl rfl)]
    exact x1
  · -- TRY
    subst c
    have zx : zex e T 26 nn = znx (zi (zi T 7 n (s.1 4 n 0) (nn + zoff (zpc s))) 4 n 0 (s.1 4 n 0 + 1)) := by rw [← Tp, ← e4, ← Tf]; rfl
    have l3 := (by rw [zx] at K1; exact (K1.1.lr (Or.inl (show (znx (zi (zi T 7 n (s.1 4 n 0) (nn + zoff (zpc s))) 4 n 0 (s.1 4 n 0 + 1))).1 1 0 0 = 0 from Tm))).2.1 n hn.2.1 (show n < T.1 0 0 0 by omega) : _)
    have e4' : (znx (zi (zi T 7 n (s.1 4 n 0) (nn + zoff (zpc s))) 4 n 0 (s.1 4 n 0 + 1))).1 4 n 0 = s.1 4 n 0 + 1 := zi_e (s := zi T 7 n (s.1 4 n 0) (nn + zoff (zpc s))) (k := 4) (i := n) (j := 0) (v := s.1 4 n 0 + 1)
    rw [e4'] at l3
    have b4 := (Tl.2.1 n hn.2.1 (by omega)).2.2.2.2
    obtain ⟨c1, f1⟩ := h.tryb (c := nn + zoff (zpc s)) Tl (by rw [Tf]; omega)
    rw [Tf, e4] at c1 f1
    obtain ⟨r, M', x1, x2⟩ := mid _ _ zx Tm (T0.trans hn.1) (fun i p q => ⟨fun kk z => by
      rcases z with z | z | z | z | z | z <;> subst z
      · exact zi_i (by show i ≠ zf T; omega)
      · rfl
      · exact zi_i (s := zi T 7 n (s.1 4 n 0) (nn + zoff (zpc s))) (k := 4) (k' := 4) (j := 0) (j' := 0) (v := s.1 4 n 0 + 1) (by omega)
      · rfl
      · rfl
      · rfl, fun x => zi_i (s := T) (k := 7) (k' := 7) (by omega), fun _ => ⟨rfl, rfl⟩⟩) e5 e6 (c1.at _) f1
    refine ⟨r, M', ?_, x2⟩
    have ep : zpc (znx (zi (zi T 7 n (s.1 4 n 0) (nn + zoff (zpc s))) 4 n 0 (s.1 4 n 0 + 1))) = zpc s + 1 := by rw [← Tp]; exact znx_pc
    rw [ep, e4'] at x1
    rw [g352_26, gtP_q k (rf_75 h.1.1), jn_v, zoff_if (f := jv _) pb, jv_e, show (25 : Int32) * iI n + iI (s.1 4 n 0) = iI (25 * n + s.1 4 n 0) from adI (mlI (x := 25) rfl rfl) rfl, show iI nn + iI (zoff (zpc s)) = iI (nn + zoff (zpc s)) from adI rfl rfl, asI_e (rk_215 h.1.1) (by omega) (by omega) (by omega), ltI_q (adI rfl li_1)]
    exact x1
  · -- ENDTRY
    subst c
    have zx : zex e T 27 nn = znx (zi T 4 n 0 (s.1 4 n 0 - 1)) := by rw [← e4, ← Tf]; rfl
    have p27 := hho.2.2.2.2.2.2.2.2.2 rfl
    rw [sf] at p27
    have c1 := h.trye (by rw [Tf, e4]; exact p27)
    rw [Tf, e4] at c1
    obtain ⟨r, M', x1, x2⟩ := mid _ M1 zx Tm (T0.trans hn.1) (fun i p q => ⟨fun kk z => by
      rcases z with z | z | z | z | z | z <;> subst z
      · exact zi_i (by show i ≠ zf T; omega)
      · rfl
      · exact zi_i (s := T) (k := 4) (k' := 4) (j := 0) (j' := 0) (v := s.1 4 n 0 - 1) (by omega)
      · rfl
      · rfl
      · rfl, fun x => rfl, fun _ => ⟨rfl, rfl⟩⟩) e5 e6 (c1.at _) zRo.r
    refine ⟨r, M', ?_, x2⟩
    have ep : zpc (znx (zi T 4 n 0 (s.1 4 n 0 - 1))) = zpc s + 1 := by rw [← Tp]; exact znx_pc
    have e4' : (znx (zi T 4 n 0 (s.1 4 n 0 - 1))).1 4 n 0 = s.1 4 n 0 - 1 := zi_e (s := T) (k := 4) (i := n) (j := 0) (v := s.1 4 n 0 - 1)
    rw [ep, e4'] at x1
    rw [g352_27, ltI_q (v := iI (s.1 4 n 0) + (-1 : Int32)) (z := s.1 4 n 0 - 1) (cvI (adI (y := -1) rfl rfl) (by omega))]
    exact x1
end S9bf
