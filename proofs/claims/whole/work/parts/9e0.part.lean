/-! luck: all rows, both -/
def lkZ (LL : Nat) (xs : Nat → Int32) (o : HO) (sl : Int) (Mc Mr : Mem) : Prop := (hoC LL xs o Mc ∧ hoR o Mr) ∧ (∃ hs2, hdC hs2 Mc ∧ hdR hs2 Mr ∧ ∀ D, 0 ≤ hs2.1 17 D 0 ∧ hs2.1 17 D 0 ≤ 34000) ∧ Mr.1 160 77 = iI sl ∧ Mr.1 160 90 = iI (-1) ∧ Mr.1 160 91 = iI 0 ∧ Mr.1 160 92 = iI 0
def Zlz (o : HO) (a j : Nat) : Prop := ZM o 0 0 a j ∨ Zlc a j
section S9e0
variable {d dl : Nat} {o : HO} {q : QN} {s u hs : ZS} {M M' Mc Mr Mc' Mr' M1 M2 : Mem} {LL a j : Nat} {xs : Nat → Int32} {c p i n b nc sl lu : Int} {w sd : Int32}
theorem lkZ.of (hP : hoP o) (h : KI LL xs o p sl lu b hs Mc Mr) (h90 : Mr.1 160 90 = iI (-1)) (f : FG Zlc Mc Mc') (g : Fz (fun a j => Zlq a j ∨ (a = 160 ∧ j = 84)) Mr Mr') : lkZ LL xs o sl Mc' Mr' := by
  obtain ⟨⟨h1, h2⟩, h3, ⟨h4, h5, h6, h7⟩, h8, ⟨h9, h10, h11, h12⟩, h13, h14, h15⟩ := h
  have fc : ∀ a j, a < 143 → Mc'.1 a j = Mc.1 a j := fun a j z => nm h1 f (by omega) (by unfold Zlc; omega)
  have gr : ∀ a j, ¬ (Zlq a j ∨ (a = 160 ∧ j = 84)) → Mr'.1 a j = Mr.1 a j := g.2
  refine ⟨⟨h1.fg hP f fun a j z => Zlc_ho hP z, h2.fg (g.fg h2.1.2) fun a j z => ?_⟩, ⟨hs, h13.fz fun a j z => fc a j (by omega), h14.fz fun a j z => gr a j (by unfold Zlq; omega), h15⟩, (gr _ _ (by unfold Zlq; omega)).trans h4, (gr _ _ (by unfold Zlq; omega)).trans h90, (gr _ _ (by unfold Zlq; omega)).trans h5, (gr _ _ (by unfold Zlq; omega)).trans h6⟩
  rcases z with z | z
  · exact Zlq_hr z
  · exact ZR_hr (p := 0) (k := 0) (Or.inl ⟨z.1, by omega⟩)
theorem lkZ.ks (h : KSx LL xs o p sl lu Mc Mr) (g : Fz (fun a j => Zlq a j ∨ (a = 160 ∧ j = 84)) Mr Mr') : lkZ LL xs o sl Mc Mr' := by
  obtain ⟨⟨⟨h1, h2⟩, ⟨h4, h5, h6, h7⟩, h8, ⟨h9, h10⟩, hu, h13, h14, h15⟩, h90⟩ := h
  have gr : ∀ a j, ¬ (Zlq a j ∨ (a = 160 ∧ j = 84)) → Mr'.1 a j = Mr.1 a j := g.2
  refine ⟨⟨h1, h2.fg (g.fg h2.1.2) fun a j z => ?_⟩, ⟨hu, h13, h14.fz fun a j z => gr a j (by unfold Zlq; omega), h15⟩, (gr _ _ (by unfold Zlq; omega)).trans h4, (gr _ _ (by unfold Zlq; omega)).trans h90, (gr _ _ (by unfold Zlq; omega)).trans h5, (gr _ _ (by unfold Zlq; omega)).trans h6⟩
  rcases z with z | z
  · exact Zlq_hr z
  · exact ZR_hr (p := 0) (k := 0) (Or.inl ⟨z.1, by omega⟩)
theorem Fz.lz (h : Fz (ZM o 0 0) M M') : Fz (Zlz o) M M' := h.m fun _ _ z => Or.inl z
theorem luck_loop {j48 j90 : Mem → XA} {j82 : Int32 × Mem → XA} {J' : Int32 × Int64 × Int64 × Int32 × Mem → XA} (hdl : 14 ≤ dl) (hd : 65 ≤ d) (hP : hoP o) (hp : 0 ≤ p ∧ p < oN o) (hsl : 1 ≤ sl ∧ sl ≤ 1000) (hc : 0 ≤ c ∧ c < (gR (oP o p)).1 3 0 0) (hq : q = (sl, -1, 0, 0, 1)) : ∀ (m : Nat) (k b : Int) (t A B : Nat) (D N : Int → Int32) (f : Int) (Mc Mr : Mem) (Nf Nf' : Nat), k + (m : Int) = 400 → 0 ≤ k → 0 < m → m + 2 < Nf → m + 2 < Nf' → KI LL xs o p sl 1 b hs Mc Mr → Mc.1 88 3 = iI (-2) → Mr.1 160 90 = iI (-1) → t ≤ 1000 → lkC t D N Mc → lkR t D N Mr → Mc.1 143 2 = iI f → Mc.2.1 143 0 = iL A → Mc.2.1 143 1 = iL B → (f = 0 ∨ f = 1) → lkD D N t → (f = 0 → lkI A B D N t) → lkP (rE o (v1p p) (pf q 0 34000)) (rE o (v1p p) (pf q 0 0)) (kK (oP o p) c) (kF (oP o p) c) (Mc.1 88 2) hs t D → ∃ (Mc' Mr' : Mem) (rows f' : Int) (A' B' : Nat), FG (Zlz o) Mc Mc' ∧ Mc'.2.2 = Mc.2.2 ∧ (∀ a j, a ≠ 143 → Mc'.2.1 a j = Mc.2.1 a j) ∧ Fz (ZR 0 0) Mr Mr' ∧ lkZ LL xs o sl Mc' Mr' ∧ lp (c301_47 (runX d) (some 160) (iI p) (iI c) J') Nf' (iI k, iL A, iL B, iI f, iI 1, Mr) = J' (iI rows, iL A', iL B', iI f', Mr') ∧ ((lp (c362_9 (runX dl) (some 64) (some (hEC (gH (oP o p)) 3 c)) j48 j82 j90) Nf (iI (k + 1), Mc) = j82 (iI rows, Mc') ∧ Mr'.1 160 84 = iI 0 ∧ (f' = 0 ∨ f' = 1) ∧ Mc'.1 143 2 = iI f' ∧ Mc'.2.1 143 0 = iL A' ∧ Mc'.2.1 143 1 = iL B' ∧ (f' = 0 → A' ≤ B' ∧ 1 ≤ B' ∧ B' ≤ 1000000000) ∧ 1 ≤ rows ∧ rows ≤ 400) ∨ ((lp (c362_9 (runX dl) (some 64) (some (hEC (gH (oP o p)) 3 c)) j48 j82 j90) Nf (iI (k + 1), Mc) = j90 Mc' ∨ lp (c362_9 (runX dl) (some 64) (some (hEC (gH (oP o p)) 3 c)) j48 j82 j90) Nf (iI (k + 1), Mc) = j48 Mc') ∧ Mr'.1 160 84 = iI 1)) := by
  intro m
  induction m with
  | zero =>
    intro k b t A B D N f Mc Mr Nf Nf' _ _ h
    omega
  | succ m ih =>
    intro k b t A B D N f Mc Mr Nf Nf' hk k0 _ hN hN' h h3 h90 ht hA hB h2 h0 h1 hf hD hI hpv
    obtain ⟨Nf, rfl⟩ : ∃ e, Nf = e + 1 := ⟨Nf - 1, by omega⟩
    obtain ⟨Nf', rfl⟩ : ∃ e, Nf' = e + 1 := ⟨Nf' - 1, by omega⟩
    have hC := h.1.1.1.1
    have hR := h.1.2.1.1
    have h84 := h.2.2.2.2.1.2.2.1
    have nz1 : ¬ iI 1 = (0 : Int32) := by decide
    -- the place of the DRAWS begins
    obtain ⟨M1, hM1⟩ : ∃ X, X = sI Mc 143 6 0 := ⟨_, rfl⟩
    have f1 : FG Zlc Mc M1 := by
      rw [hM1]
      exact (FG.r h.1.1.1.2.2).sI (Or.inl ⟨rfl, by decide, by decide⟩)
    have f12 : M1.2 = Mc.2 := by rw [hM1]; rfl
    have n1 : ∀ a j, ¬ (a = 143 ∧ j = 6) → M1.1 a j = Mc.1 a j := fun a j z => by
      rw [hM1]
      by_cases y : a = 143
      · exact sI_nej fun w => z ⟨y, w⟩
      · exact sI_ne y
    have K1 : KI LL xs o p sl 1 b hs M1 Mr := h.lk hP f1 (congrArg (fun z => z.2) f12) Fz.r
    have hA1 : lkC t D N M1 := ⟨(n1 _ _ (by decide)).trans hA.1, fun z a b => ⟨(n1 _ _ (by omega)).trans (hA.2 z a b).1, (n1 _ _ (by omega)).trans (hA.2 z a b).2⟩⟩
    have sd1 : M1.1 88 2 = Mc.1 88 2 := n1 _ _ (by decide)
    obtain ⟨Mg, M3, Rg, R3, x1, x2, x3, x4, x5, x6, x7, x8, x9⟩ := luck_row (dl := dl) (d := d) (t := t) (D := D) (N := N) (by omega) (by omega) hP hp hsl hc K1 ((n1 _ _ (by decide)).trans h3) h90 (by rw [hM1]; exact sI_eq.trans li_0) (by omega) hA1 hB hq (by rw [sd1]; exact hpv)
    rw [sd1] at x9
    have C1 : CT M1 := hC.keep f12
    have C3 : CT M3 := C1.keep x7.1
    have R3' : RT R3 := hR.keep x8.1
    have F13 : FG (Zlz o) Mc M3 := (f1.m fun _ _ z => Or.inr z).tr (x7.lz.fg K1.1.1.1.2.2)
    have k13 : M3.2.2 = Mc.2.2 := (congrArg (fun z => z.2) x7.1).trans (congrArg (fun z => z.2) f12)
    have l13 : M3.2.1 = Mc.2.1 := (congrArg (fun z => z.1) x7.1).trans (congrArg (fun z => z.1) f12)
    have m2 : M3.1 143 2 = iI f := (x7.2 _ _ fun y => by unfold ZM at y; omega).trans ((n1 _ _ (by decide)).trans h2)
    have m0 : M3.2.1 143 0 = iL A := by rw [l13]; exact h0
    have m1 : M3.2.1 143 1 = iL B := by rw [l13]; exact h1
    have sd3 : M3.1 88 2 = Mc.1 88 2 := (x7.2 _ _ fun y => by unfold ZM at y; omega).trans sd1
    -- the reference
    have eR := r301_b (d := d) (J := J') (A := A) (B := B) (f := f) (k := k) (p := p) (c := c) (Nf := Nf') hR h84 x5 x4 x6 R3'
    -- the class, up to isSpent()
    have eC : ∀ n : Int, M3.1 88 10 = iI n → (-1 ≤ n ∧ n ≤ 2147483647) → lp (c362_9 (runX dl) (some 64) (some (hEC (gH (oP o p)) 3 c)) j48 j82 j90) (Nf + 1) (iI (k + 1), Mc) = if iI (if n < 0 then 1 else 0) = 0 then (gtI (5, 5) M3 (some 89) 0 fun x18 => jn (fun (s19 : Mem) => gtP (12, 19) s19 (some 64) 8 fun x20 => vC (3, 7) s19 x20 <| cI (runX dl 15 [va_rf x20] s19) fun x22 M21 => if x22 = 0 then ( j82 (iI (k + 1), M21)) else ( lt (iI (k + 1) + (1 : Int32)) fun (x23 : Int32) => lp (c362_9 (runX dl) (some 64) (some (hEC (gH (oP o p)) 3 c)) j48 j82 j90) Nf (x23, M21))) fun j72 => if x18 = ((1 : Int32)) then ( gtP (12, 19) M3 (some 64) 8 fun x24 => vC (3, 7) M3 x24 <| cV (runX dl 16 [va_rf x24] M3) fun M25 => j72 M25) else ( j72 M3)) else j48 M3 := fun n e1 e2 => by
      rw [lp_e]; unfold c362_9
      dsimp only
      rw [if_neg (show ¬ (400 : Int32) < iI (k + 1) from lsI_n (x := 400) rfl rfl (by omega)), gtP_q (ck_64 hC) (cf_64_8 hC), vC_e (ck_143 hC), cV_e (zc13 (by omega) hC), ← hM1, gtP_q (ck_64 C1) (cf_64_2 C1), vC_e (ck_88 C1), cV_e x1, gtP_q (ck_64 x2) (cf_64_2 x2), vC_e (ck_88 x2), cV_e x3, gtP_q (ck_64 C3) (cf_64_2 C3), vC_e (ck_88 C3), cI_e (zc22 (by omega) C3 e1 e2), gtP_q (ck_64 C3) (cf_64_2 C3), gtP_q (ck_88 C3) (cf_88_0 C3)]
    rcases x9 with ⟨T, D', N', V, b', y1, y2, y3, ⟨y4, y5⟩, y6, y7, y8, y9, y10, y11, y12, y13, y14⟩ | ⟨y1, T, y2, y3⟩
    · obtain ⟨T, rfl⟩ : ∃ e : Nat, T = (e : Int) := ⟨T.toNat, by omega⟩
      have hT : T ≤ 1000 := by omega
      have hD' : lkD D' N' T := by
        have hd0 : lkD D' N' t := hD.cg fun k a => (y8 k (by omega)).1 (by omega)
        refine hd0.up fun k a b => ?_
        obtain ⟨w1, w2⟩ := (y8 k (by omega)).2 (by omega) (by omega)
        refine ⟨w1, ?_⟩
        have w3 : (1 : Int32).toInt ≤ (N' (k : Int)).toInt := Int32.le_iff_toInt_le.mp w2
        exact w3
      have hI' : f = 0 → lkI A B D' N' T := fun f0 => by
        have h1 : lkI A B D' N' t := (hI f0).cg fun k a => (y8 k (by omega)).1 (by omega)
        have h2 := h1.up (T - t) fun k a b => ((y8 k (by omega)).2 (by omega) (by omega)).1
        rw [show t + (T - t) = T by omega] at h2
        exact h2
      have hb : f = 0 → A ≤ B ∧ 1 ≤ B ∧ B ≤ 1000000000 := fun f0 => ⟨(hI' f0).ab hD', (hI' f0).1⟩
      obtain ⟨S, hS⟩ : ∃ S : Nat × Nat × Int, S = if V = 1 then lkS A B f (lzC N' T) else (A, B, f) := ⟨_, rfl⟩
      have eR2 := zj301_e (d := d) (j242 := zj242 d p c J' Nf' (k + 1)) (by omega) R3' hT y7 hD' y12 y13 hf hb y9 S hS
      have hS2 : (S.2.2 = 0 ∨ S.2.2 = 1) ∧ (S.2.2 = 0 → lkJ S.1 S.2.1 D' N' T) := by
        by_cases v1 : V = 1
        · rw [if_pos v1] at hS
          rw [hS]
          unfold lkS
          by_cases z : f = 1 ∨ 1000000000 < lzC N' T
          · rw [if_pos z]
            exact ⟨Or.inr rfl, fun w => absurd (show (1 : Int) = 0 from w) (by decide)⟩
          · rw [if_neg z]
            have f0 : f = 0 := by omega
            obtain ⟨b1, b2, b3⟩ := hb f0
            have pp := lzP_pos T hD'
            have eP := lzC_le (N := N') T (by omega)
            obtain ⟨a1, a2⟩ := lkJ.add (A := A) (B := B) (P := lzP N' T) (Q := lzQ D' N' T) b2 (hI' f0).2 pp
            rw [← eP] at a1 a2
            refine ⟨?_, fun w => ⟨⟨a1, ?_⟩, by rw [← eP]; exact a2⟩⟩
            · dsimp only
              split <;> omega
            · dsimp only at w ⊢
              by_cases z2 : 1000000000 < B * lzC N' T / Nat.gcd (A * lzC N' T + B) (B * lzC N' T)
              · rw [if_pos z2] at w
                exact absurd w (by decide)
              · omega
        · rw [if_neg v1] at hS
          rw [hS]
          exact ⟨hf, fun w => (hI' w).j⟩
      -- the class: the share
      have ec := eC b' y1.2.2.2.2.1.1 (by have := y1.2.2.2.2.1.2.2.2; omega)
      have b0 := y1.2.2.2.2.1.2.2.2
      rw [if_neg (show ¬ b' < 0 by omega), if_pos (show iI 0 = 0 from rfl), gtI_q (ck_89 C3) y10, jn_v] at ec
      obtain ⟨M5, z1, z2, z3, z4, z5, z6, z7⟩ : ∃ M5, (if iI V = ((1 : Int32)) then ( gtP (12, 19) M3 (some 64) 8 fun x24 => vC (3, 7) M3 x24 <| cV (runX dl 16 [va_rf x24] M3) fun M25 => jv (fun (s19 : Mem) => gtP (12, 19) s19 (some 64) 8 fun x20 => vC (3, 7) s19 x20 <| cI (runX dl 15 [va_rf x20] s19) fun x22 M21 => if x22 = 0 then ( j82 (iI (k + 1), M21)) else ( lt (iI (k + 1) + (1 : Int32)) fun (x23 : Int32) => lp (c362_9 (runX dl) (some 64) (some (hEC (gH (oP o p)) 3 c)) j48 j82 j90) Nf (x23, M21))) M25) else jv (fun (s19 : Mem) => gtP (12, 19) s19 (some 64) 8 fun x20 => vC (3, 7) s19 x20 <| cI (runX dl 15 [va_rf x20] s19) fun x22 M21 => if x22 = 0 then ( j82 (iI (k + 1), M21)) else ( lt (iI (k + 1) + (1 : Int32)) fun (x23 : Int32) => lp (c362_9 (runX dl) (some 64) (some (hEC (gH (oP o p)) 3 c)) j48 j82 j90) Nf (x23, M21))) M3 : XA) = jv (fun (s19 : Mem) => gtP (12, 19) s19 (some 64) 8 fun x20 => vC (3, 7) s19 x20 <| cI (runX dl 15 [va_rf x20] s19) fun x22 M21 => if x22 = 0 then ( j82 (iI (k + 1), M21)) else ( lt (iI (k + 1) + (1 : Int32)) fun (x23 : Int32) => lp (c362_9 (runX dl) (some 64) (some (hEC (gH (oP o p)) 3 c)) j48 j82 j90) Nf (x23, M21))) M5 ∧ M5.2.2 = M3.2.2 ∧ (∀ a j, ¬ (a = 143 ∧ j = 2) → M5.1 a j = M3.1 a j) ∧ (∀ a j, ¬ (a = 143 ∧ j < 2) → M5.2.1 a j = M3.2.1 a j) ∧ M5.2.1 143 0 = iL S.1 ∧ M5.2.1 143 1 = iL S.2.1 ∧ M5.1 143 2 = iI S.2.2 := by
        by_cases v1 : V = 1
        · rw [if_pos v1] at hS
          obtain ⟨M5, w1, w2⟩ := zc16 (d := dl) (by omega) C3 hT y6 hD' m0 m1 m2 hf hb
          rw [← hS] at w2
          refine ⟨M5, ?_, w2⟩
          rw [if_pos (show iI V = (1 : Int32) by rw [v1]; rfl), gtP_q (ck_64 C3) (cf_64_8 C3), vC_e (ck_143 C3), cV_e w1]
        · rw [if_neg v1] at hS
          refine ⟨M3, ?_, rfl, fun _ _ _ => rfl, fun _ _ _ => rfl, by rw [hS]; exact m0, by rw [hS]; exact m1, by rw [hS]; exact m2⟩
          rw [if_neg (show ¬ iI V = (1 : Int32) from eqI_n (y := 1) rfl rfl (by omega))]
      rw [z1] at ec
      have C5 : CT M5 := ⟨fun q e => by rw [congrArg (fun z => z.2) z2]; exact C3.1 q e, fun q e => by rw [congrArg (fun z => z.1) z2]; exact C3.2 q e⟩
      have A5 : lkC T D' N' M5 := ⟨(z3 _ _ (by decide)).trans y6.1, fun z a b => ⟨(z3 _ _ (by omega)).trans (y6.2 z a b).1, (z3 _ _ (by omega)).trans (y6.2 z a b).2⟩⟩
      obtain ⟨M7, u1, u2, u3⟩ := zc15 (d := dl) (by omega) C5 hT A5 hD'
      obtain ⟨T2, hT2⟩ : ∃ T2, T2 = lkT D' N' T := ⟨_, rfl⟩
      rw [← hT2] at u1 u3
      have T2le : T2 ≤ T := by rw [hT2]; exact lkT_le T
      rw [jv_e, gtP_q (ck_64 C5) (cf_64_8 C5), vC_e (ck_143 C5), cI_e u1] at ec
      have l35 : ln M5 = ln M3 := congrArg List.length (congrArg (fun z => z.2) z2)
      have F35 : FG Zlc M3 M5 := ⟨y1.1.1.1.2.2, fun a q e => by rw [congrArg (fun z => z.2) z2]; exact e, fun a j l z => ⟨z3 a j fun w => z (Or.inl ⟨w.1, by omega, by omega⟩), z4 a j fun w => z (Or.inl ⟨w.1, by omega, by omega⟩), by rw [congrArg (fun z => z.1) z2]⟩⟩
      have F57 : FG Zlc M5 M7 := (u2.m fun a j z => by unfold Zlc; omega).fg (by rw [l35]; exact y1.1.1.1.2.2)
      have F37 : FG Zlc M3 M7 := F35.tr F57
      have k37 : M7.2.2 = M3.2.2 := (congrArg (fun z => z.2) u2.1).trans z2
      have k17 : M7.2.2 = Mc.2.2 := k37.trans k13
      have l17 : ∀ a j, a ≠ 143 → M7.2.1 a j = Mc.2.1 a j := fun a j z => by
        rw [congrArg (fun z => z.1) u2.1, z4 a j fun w => z w.1, l13]
      have F17 : FG (Zlz o) Mc M7 := F13.tr (F37.m fun _ _ z => Or.inr z)
      have v2 : M7.1 143 2 = iI S.2.2 := (u2.2 _ _ (by decide)).trans z7
      have v0 : M7.2.1 143 0 = iL S.1 := by rw [congrArg (fun z => z.1) u2.1]; exact z5
      have v1' : M7.2.1 143 1 = iL S.2.1 := by rw [congrArg (fun z => z.1) u2.1]; exact z6
      have sd7 : M7.1 88 2 = Mc.1 88 2 := (u2.2 _ _ (by omega)).trans ((z3 _ _ (by decide)).trans sd3)
      -- the reference: the next row
      obtain ⟨R7, T3, r1, r2, r3, r4, r5, r6⟩ := zj242_e (d := d) (p := p) (c := c) (J := J') (Nf := Nf') (k := k + 1) (a := iL S.1) (b := iL S.2.1) (w := iI S.2.2) R3' hT y7 y13 (Or.inl rfl) (by omega)
      have e23 : T3 = T2 := by rw [hT2]; exact r6 hD'
      subst e23
      have eR3 := (eR.trans (by rw [y11]; exact eR2)).trans r1
      have G37 : Fz (fun a j => Zlq a j ∨ (a = 160 ∧ j = 84)) R3 R7 := r3.m fun a j z => by unfold Zlq; omega
      have G17 : Fz (ZR 0 0) Mr R7 := x8.tr (r3.m fun a j z => by unfold ZR; omega)
      have lz : lkZ LL xs o sl M7 R7 := lkZ.of hP y1 y3 F37 G37
      have hJ2 : S.2.2 = 0 → lkJ S.1 S.2.1 D' N' T3 := fun w => by
        rw [hT2]
        exact (hS2.2 w).pop T hD'
      by_cases t0 : T3 = 0
      · refine ⟨M7, R7, k + 1, S.2.2, S.1, S.2.1, F17, k17, l17, G17, lz, ?_, Or.inl ⟨?_, ?_, hS2.1, v2, v0, v1', fun w => ?_, by omega, by omega⟩⟩
        · rw [eR3, if_pos t0]
          obtain ⟨N2, rfl⟩ : ∃ e, Nf' = e + 1 := ⟨Nf' - 1, by omega⟩
          rw [lp_e]; unfold c301_47
          dsimp only
          rw [if_pos (show iI 0 = 0 from rfl)]
        · rw [ec, if_pos t0, if_pos (show iI 0 = 0 from rfl)]
        · rw [r5, if_pos t0]
        · have hj := hS2.2 w
          have h1 := lzP_pos T hD'
          have h2 := lzQ_lt T hD'
          have h3 : S.2.1 * (lzQ D' N' T + 1) ≤ S.2.1 * lzP N' T := Nat.mul_le_mul_left _ h2
          exact ⟨Nat.le_of_mul_le_mul_right (Nat.le_trans hj.2 h3) h1, hj.1⟩
      · rw [if_neg t0] at ec eR3 r5
        rw [if_neg nz1, ltI_q (z := k + 1 + 1) (adI rfl li_1)] at ec
        by_cases last : k + 1 = 400
        · refine ⟨M7, R7, k + 1, S.2.2, S.1, S.2.1, F17, k17, l17, G17, lz, ?_, Or.inr ⟨Or.inl ?_, ?_⟩⟩
          · rw [eR3]
            obtain ⟨N2, rfl⟩ : ∃ e, Nf' = e + 1 := ⟨Nf' - 1, by omega⟩
            rw [lp_e]; unfold c301_47
            dsimp only
            have R7' : RT R7 := R3'.keep r3.1
            rw [if_neg nz1, gtI_q (rk_160 R7') r5, if_neg (show ¬ (iI (if (0 : Int) = 0 ∧ k + 1 ≠ 400 then 0 else 1) = 0) by rw [if_neg (by omega)]; decide)]
          · rw [ec]
            obtain ⟨N2, rfl⟩ : ∃ e, Nf = e + 1 := ⟨Nf - 1, by omega⟩
            rw [lp_e]; unfold c362_9
            dsimp only
            rw [if_pos (show (400 : Int32) < iI (k + 1 + 1) from lsI_p (x := 400) rfl rfl (by omega))]
          · rw [r5, if_neg (by omega)]
        · rw [if_pos ⟨rfl, last⟩] at r5
          have G : Fz Zlq R3 R7 := ⟨r3.1, fun a j z => by
            by_cases y : a = 160 ∧ j = 84
            · rw [y.1, y.2, r5, y13]
            · exact r3.2 a j (by unfold Zlq at z; omega)⟩
          have K7 : KI LL xs o p sl 1 b' hs M7 R7 := y1.lk hP F37 k37 G
          have lt7 := lkT_l (D := D') (N := N') T (by rw [← hT2]; omega)
          rw [← hT2] at lt7
          have hDT : lkD D' N' T3 := hD'.lo T2le
          obtain ⟨Mc', Mr', rows, f', A', B', w1, w2, w2b, w3, w4, w5, w6⟩ := ih (k + 1) b' T3 S.1 S.2.1 (lkU D' T3) N' S.2.2 M7 R7 Nf Nf' (by omega) (by omega) (by omega) (by omega) (by omega) K7 ((u2.2 _ _ (by omega)).trans ((z3 _ _ (by decide)).trans y2)) ((r3.2 _ _ (by omega)).trans y3) (by omega) u3 r4 v2 v0 v1' hS2.1 (hDT.inc (by omega) lt7) (fun w => (hJ2 w).inc (by omega) hDT lt7) (by
            rw [sd7]
            exact y14 T3 _ (by omega) (by omega) fun i a b => by
              unfold lkU
              rw [if_neg (by omega)])
          exact ⟨Mc', Mr', rows, f', A', B', F17.tr w1, w2.trans k17, fun a j z => (w2b a j z).trans (l17 a j z), G17.tr w3, w4, eR3.trans w5, by rw [ec]; exact w6⟩
    · have ks84 := y1.1.2.2.2.1.2
      have ec := eC (-1) y1.1.2.2.2.1.1 (by decide)
      rw [if_pos (show (-1 : Int) < 0 by decide), if_neg nz1] at ec
      have eR2 := zj301_s (d := d) (A := A) (B := B) (f := f) (j242 := zj242 d p c J' Nf' (k + 1)) (v := R3.1 160 101) R3' ks84
      have hBr : lkR T (fun z => R3.1 219 z.toNat) (fun z => R3.1 220 z.toNat) R3 := ⟨y3, fun z _ _ => ⟨rfl, rfl⟩⟩
      obtain ⟨R7, T3, r1, r2, r3, r4, r5, -⟩ := zj242_e (d := d) (p := p) (c := c) (J := J') (Nf := Nf') (k := k + 1) (a := iL A) (b := iL B) (w := iI f) R3' y2 hBr ks84 (Or.inr rfl) (by omega)
      have eR3 := (eR.trans eR2).trans r1
      have r84 : R7.1 160 84 = iI 1 := by
        rw [r5]
        by_cases t0 : T3 = 0
        · rw [if_pos t0]
        · rw [if_neg t0, if_neg (by omega)]
      refine ⟨M3, R7, k + 1, f, A, B, F13, k13, fun a j _ => by rw [l13], x8.tr (r3.m fun a j z => by unfold ZR; omega), lkZ.ks y1 (r3.m fun a j z => by unfold Zlq; omega), ?_, Or.inr ⟨Or.inr ec, r84⟩⟩
      rw [eR3]
      obtain ⟨N2, rfl⟩ : ∃ e, Nf' = e + 1 := ⟨Nf' - 1, by omega⟩
      rw [lp_e]; unfold c301_47
      dsimp only
      have R7' : RT R7 := R3'.keep r3.1
      by_cases t0 : T3 = 0
      · rw [if_pos t0, if_pos (show iI 0 = 0 from rfl)]
      · rw [if_neg t0, if_neg nz1, gtI_q (rk_160 R7') r84, if_neg nz1]
end S9e0
