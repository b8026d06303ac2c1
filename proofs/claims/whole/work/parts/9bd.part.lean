/-! the reference's machine: what fails in a code -/
def rj142 (x1 x7 : Int32) (s8 : Mem) : XA :=
 ptI (13, 157) s8 (some 160) 76 x1 fun M9 =>
 ptI (13, 157) M9 (some 160) 73 x7 fun M10 =>
 some (.int ((0 : Int32)), M10)
def rj778 (x1 : Int32) (s14 : Mem) : XA :=
 ptI (13, 157) s14 (some 160) 76 x1 fun M15 =>
 some (.int ((0 : Int32)), M15)
def rj685 (d : Nat) (x1 x7 : Int32) (s16 : Int32 × Mem) : XA :=
 vC (13, 157) s16.2 (some 160) <|
 cI (runX d 242 [va_rf (some 160)] s16.2) fun x18 M17 =>
 ptI (13, 157) M17 (some 160) 76 x1 fun M19 =>
 ptI (13, 157) M19 (some 160) 73 x7 fun M20 =>
 jn (fun (s21 : Int32) =>
 some (.int s21, M20)) fun j715 =>
 if s16.1 = ((34 : Int32)) then (
 j715 ((0 : Int32))) else (
 j715 x18)
section S9bd
variable {d : Nat} {e s s' t u A : ZS} {M M' M1 M2 : Mem} {a b j N x y : Nat} {v v1 v2 v3 w : Int32} {c k i n m p o q id key par NN D r B : Int} {R : Int → RG} {G : RG} {L : Int → Int} {Y : Nat → Int → Int}
/-- no STEP or no WORK is left: the way out -/
theorem rend (h : zRZ e t M) : ∃ M', rj142 (iI n) (iI B) M = some (.int 0, M') ∧ zRZ e t M' ∧ zRo e M M' := by
  obtain ⟨h1, h2, h3, h4, h5⟩ := h
  have k := rk_160 h1.1
  have f : zRw M (sI (sI M 160 76 (iI n)) 160 73 (iI B)) := (zRw.sI (zRw.sI zRw.r (by decide)) (by decide))
  have o : ∀ j, j ≠ 76 → j ≠ 73 → (sI (sI M 160 76 (iI n)) 160 73 (iI B)).1 160 j = M.1 160 j := fun j p q => (sI_nej q).trans (sI_nej p)
  refine ⟨_, ?_, ⟨h1.ff f ⟨fun _ _ => rfl, fun _ _ _ _ => rfl⟩, by rw [o _ (by decide) (by decide)]; exact h2, by rw [o _ (by decide) (by decide)]; exact h3, fun z => by rw [o _ (by decide) (by decide), o _ (by decide) (by decide)]; exact h4 z, fun z => by rw [o _ (by decide) (by decide)]; exact h5 z⟩, f.ro⟩
  unfold rj142
  rw [ptI_e k, ptI_e (M := sI M 160 76 (iI n)) k]
/-- a TRY is there -/
theorem g726_c {x39 : Int32} {j733 j778 : Mem → XA} {j89 : Int32 × Int32 × Mem → XA} (hd : 1 ≤ d) (h : zRX e t M) (hm : t.1 1 0 0 = 3) (hn : t.1 0 0 0 = n + 1 ∧ 0 ≤ n ∧ n < 12) (ht : 0 < t.1 4 n 0 ∧ t.1 4 n 0 ≤ 20) (hB : B = t.1 6 n 0) (hl : zLr (zi (zi t 3 n 0 0) 1 0 0 0)) : ∃ M', g726 d (iI n) (iI B) j733 j778 j89 (iI (t.1 4 n 0), x39, M) = j89 (iI (t.1 4 n 0 - 1), iI (t.1 7 n (t.1 4 n 0 - 1)), M') ∧ zRM e (zthr t 3) M' ∧ zRo e M M' := by
  obtain ⟨hG, hF, h85, h86, h87, h88, h89⟩ := h
  have k := rk_160 hG.1
  rw [hm] at h87
  have zfn : zf t = n := by unfold zf; omega
  obtain ⟨A, hA⟩ : ∃ A, A = zi (zi t 3 n 0 0) 1 0 0 0 := ⟨_, rfl⟩
  rw [← hA] at hl
  have Ak : ∀ kk, kk ≠ 1 → kk ≠ 3 → A.1 kk = t.1 kk := fun kk z1 z2 => by rw [hA]; funext x y; exact (zi_k z1).trans (zi_k z2)
  have A0 : A.1 0 0 0 = n + 1 := by rw [Ak 0 (by decide) (by decide)]; exact hn.1
  have Af : zf A = n := by unfold zf; omega
  have A3 : A.1 3 n 0 = 0 := by rw [hA]; exact zi_e (s := t) (k := 3) (i := n) (j := 0) (v := 0)
  have A3' : ∀ i, i ≠ n → A.1 3 i 0 = t.1 3 i 0 := fun i z => by rw [hA]; exact zi_i (s := t) z
  have Aw : A.2 = t.2 := by rw [hA]; rfl
  have Ah : zh A = 0 := by unfold zh; rw [Af]; exact A3
  obtain ⟨Mc, hMc⟩ : ∃ X, X = sI (sI (sI M 160 73 (iI B)) 160 76 (iI (n + 1))) 160 86 (iI 0) := ⟨_, rfl⟩
  have f : zRw M Mc := by rw [hMc]; exact ((zRw.r.sI (by decide)).sI (by decide)).sI (by decide)
  have o : ∀ j, j ≠ 73 → j ≠ 76 → j ≠ 86 → Mc.1 160 j = M.1 160 j := fun j p q r => by rw [hMc]; exact (sI_nej r).trans ((sI_nej q).trans (sI_nej p))
  have o2 : ∀ a j, a ≠ 160 → Mc.1 a j = M.1 a j := fun a j p => by rw [hMc]; exact (sI_ne p).trans ((sI_ne p).trans (sI_ne p))
  have hA1 : zRM e A Mc := by
    refine ⟨hG.ff f ⟨fun kk p => Ak kk (by omega) (by omega), fun kk _ _ _ => by rw [Aw]⟩, fun i p q => ?_, ?_, ?_, ?_, ?_⟩
    · rw [A0] at q
      obtain ⟨a1, a2, a3⟩ := hF i p (by omega)
      refine ⟨fun k u w => ?_, fun k u w => ?_, fun k u w => ?_⟩
      · rw [o2 _ _ (by decide), Aw]; rw [Ak 16 (by decide) (by decide)] at w; exact a1 k u w
      · rw [o2 _ _ (by decide), Ak 7 (by decide) (by decide)]; rw [Ak 4 (by decide) (by decide)] at w; exact a2 k u w
      · by_cases y : i = n
        · rw [y, A3] at w; omega
        · rw [A3' i y] at w
          rw [o2 _ _ (by decide), Aw, Ak 6 (by decide) (by decide)]; exact a3 k u w
    · rw [A0, hMc]; exact (sI_nej (by decide)).trans sI_eq
    · have : zsp A = B := by unfold zsp; rw [Ah, Af, Ak 6 (by decide) (by decide), hB]; omega
      rw [this, hMc]; exact (sI_nej (by decide)).trans ((sI_nej (by decide)).trans sI_eq)
    · rw [o _ (by decide) (by decide) (by decide)]; exact h85
    · rw [hMc]; exact sI_eq
  obtain ⟨Md, q1, q2, q3⟩ := rq1 (d := d) (v := t.2 5 0 0) hd hA1 hl (by omega)
  obtain ⟨V, hV⟩ : ∃ V, V = zpush A (t.2 5 0 0) := ⟨_, rfl⟩
  rw [← hV] at q2
  have Vk : ∀ kk, kk ≠ 3 → V.1 kk = A.1 kk := fun kk z => by rw [hV]; funext x y; exact zi_k z
  have Vf : zf V = n := by rw [hV]; exact Af
  have e7 : Md.1 215 (25 * n + (t.1 4 n 0 - 1)).toNat = iI (t.1 7 n (t.1 4 n 0 - 1)) := by
    have := (q2.2.1 n hn.2.1 (by rw [Vk 0 (by decide), A0]; omega)).2.1 (t.1 4 n 0 - 1) (by omega) (by rw [Vk 4 (by decide), Ak 4 (by decide) (by decide)]; omega)
    rw [this, Vk 7 (by decide), Ak 7 (by decide) (by decide)]
  have kd := rk_160 q2.1.1
  refine ⟨Md, ?_, ?_, f.ro.tr q3⟩
  · have g88 : Mc.1 160 88 = t.2 5 0 0 := (o _ (by decide) (by decide) (by decide)).trans h88
    have kc : Mc.2.2.2[160]? = some (13, 157) := rk_160 hA1.1.1
    have g87 : (sI (sI M 160 73 (iI B)) 160 76 (iI (n + 1))).1 160 87 = iI 0 := (sI_nej (by decide)).trans ((sI_nej (by decide)).trans (by rw [h87]; rfl))
    unfold g726
    dsimp only
    rw [gtI_q k h85, if_pos (show iI 0 = 0 from rfl), gtI_q k h86, jn_v, if_neg (show ¬ iI 1 = 0 by decide), ptI_e k, ptI_q (M := sI M 160 73 (iI B)) (z := n + 1) k (adI rfl li_1), gtI_q (M := sI (sI M 160 73 (iI B)) 160 76 (iI (n + 1))) k g87, if_pos (show iI 0 = 0 from rfl), if_neg (show ¬ iI (t.1 4 n 0) = 0 from eqI_n rfl li_0 (by omega)), ptZ_q (M := sI (sI M 160 73 (iI B)) 160 76 (iI (n + 1))) (z := 0) k li_0 (by omega), ← hMc, ltI_q (v := iI (t.1 4 n 0) + (-1 : Int32)) (z := t.1 4 n 0 - 1) (cvI (adI (y := -1) rfl rfl) (by omega)), gtI_q kc g88, vC_e kc, cV_e q1, gtP_q kd (rf_75 q2.1.1), alI_q (n := 300) (z := 25 * n + (t.1 4 n 0 - 1)) (rk_215 q2.1.1) (show (25 : Int32) * iI n + iI (t.1 4 n 0 - 1) = iI (25 * n + (t.1 4 n 0 - 1)) from adI (mlI (x := 25) rfl rfl) rfl) (by omega) e7, jv_e]
  · have q4 := q2.trye (by rw [Vf, Vk 4 (by decide), Ak 4 (by decide) (by decide)]; omega)
    rw [Vf, Vk 4 (by decide), Ak 4 (by decide) (by decide)] at q4
    have zt : zthr t 3 = zi (zi (zi (zi (zw t 1 n 0 (t.2 5 0 0)) 3 n 0 1) 2 n 0 (t.1 7 n (t.1 4 n 0 - 1))) 4 n 0 (t.1 4 n 0 - 1)) 1 0 0 0 := by
      unfold zthr
      rw [zfn, if_pos ⟨rfl, ht.1⟩]
    rw [zt]
    have Vw : ∀ kk, V.2 kk = if kk = 1 then (zw A 1 n 0 (t.2 5 0 0)).2 1 else A.2 kk := fun kk => by
      rw [hV]
      show (zw A 1 (zf A) (zh A) (t.2 5 0 0)).2 kk = _
      rw [Af, Ah]
      by_cases y : kk = 1
      · rw [if_pos y, y]
      · rw [if_neg y]; funext x y'; exact zw_k y
    have V3 : ∀ i j, V.1 3 i j = if i = n ∧ j = 0 then 1 else t.1 3 i j := fun i j => by
      rw [hV]
      show (zi (zw A 1 (zf A) (zh A) (t.2 5 0 0)) 3 (zf A) 0 (zh A + 1)).1 3 i j = _
      rw [Af, Ah]
      by_cases y : i = n ∧ j = 0
      · rw [if_pos y, y.1, y.2]; exact zi_e
      · rw [if_neg y]
        have a1 : (zi (zw A 1 n 0 (t.2 5 0 0)) 3 n 0 (0 + 1)).1 3 i j = A.1 3 i j := if_neg fun z => y z.2
        have a2 : A.1 3 i j = t.1 3 i j := by rw [hA]; exact if_neg fun z => y z.2
        rw [a1, a2]
    have G := q4.1
    refine q4.glob (G.ff zRw.r ⟨fun kk p => ?_, fun kk p1 p2 p3 => ?_⟩) (fun _ _ _ => rfl) (fun kk p => ?_) ⟨?_, ?_⟩
    · have c1 : (zi V 4 n 0 (t.1 4 n 0 - 1)).1 kk = t.1 kk := by
        funext x y
        refine (zi_k (by omega)).trans ?_
        rw [Vk kk (by omega), Ak kk (by omega) (by omega)]
      rw [c1]
      funext x y
      exact (zi_k (by omega)).trans ((zi_k (by omega)).trans ((zi_k (by omega)).trans (zi_k (by omega))))
    · show (zw t 1 n 0 (t.2 5 0 0)).2 kk = V.2 kk
      rw [Vw, if_neg (by omega), Aw]
      funext x y
      exact zw_k (by omega)
    · funext x y
      rcases p with p | p | p | p | p | p <;> subst p
      · show t.1 0 x y = V.1 0 x y
        rw [Vk 0 (by decide), Ak 0 (by decide) (by decide)]
      · show (zi (zw t 1 n 0 (t.2 5 0 0)) 3 n 0 1).1 3 x y = V.1 3 x y
        rw [V3]
        by_cases yy : x = n ∧ y = 0
        · rw [if_pos yy]; exact if_pos ⟨rfl, yy⟩
        · rw [if_neg yy]; exact if_neg fun z => yy z.2
      · show (if 4 = 4 ∧ x = n ∧ y = 0 then t.1 4 n 0 - 1 else t.1 4 x y) = (if 4 = 4 ∧ x = n ∧ y = 0 then t.1 4 n 0 - 1 else V.1 4 x y)
        rw [Vk 4 (by decide), Ak 4 (by decide) (by decide)]
      · show t.1 6 x y = V.1 6 x y
        rw [Vk 6 (by decide), Ak 6 (by decide) (by decide)]
      · show t.1 7 x y = V.1 7 x y
        rw [Vk 7 (by decide), Ak 7 (by decide) (by decide)]
      · show t.1 16 x y = V.1 16 x y
        rw [Vk 16 (by decide), Ak 16 (by decide) (by decide)]
    · show (zw t 1 n 0 (t.2 5 0 0)).2 0 = V.2 0
      rw [Vw, if_neg (by decide), Aw]
      funext x y
      exact zw_k (by decide)
    · show (zw t 1 n 0 (t.2 5 0 0)).2 1 = V.2 1
      rw [Vw, if_pos rfl]
      funext x y
      show (if 1 = 1 ∧ x = n ∧ y = 0 then _ else t.2 1 x y) = (if 1 = 1 ∧ x = n ∧ y = 0 then _ else A.2 1 x y)
      rw [Aw]
/-- nothing catches it -/
theorem g726_u {x39 tr : Int32} {j733 : Mem → XA} {j89 : Int32 × Int32 × Mem → XA} (h : zRX e t M) (hm : t.1 1 0 0 = 3 ∨ t.1 1 0 0 = 7) (hn : t.1 0 0 0 = n + 1 ∧ 0 ≤ n ∧ n < 12) (ht : t.1 1 0 0 = 7 ∨ t.1 4 n 0 = 0) (hB : B = t.1 6 n 0) (htr : tr = iI (t.1 4 n 0)) : ∃ M', g726 d (iI n) (iI B) j733 (rj778 (iI n)) j89 (tr, x39, M) = some (.int 0, M') ∧ zRo e M M' ∧ zRG e (zi (zi t 0 0 0 (zf t)) 1 0 0 (t.1 1 0 0 + 1)) M' ∧ (∀ i, 0 ≤ i → i < n → zRf (zi (zi t 0 0 0 (zf t)) 1 0 0 (t.1 1 0 0 + 1)) M' i) ∧ M'.1 160 76 = iI n ∧ M'.1 160 73 = iI B ∧ M'.1 160 85 = iI 0 ∧ M'.1 160 86 = iI 1 ∧ M'.1 160 87 = iI (if t.1 1 0 0 + 1 = 8 then 1 else 0) ∧ M'.1 160 88 = t.2 5 0 0 ∧ M'.1 160 89 = iI (t.1 13 0 0) := by
  subst htr
  obtain ⟨hG, hF, h85, h86, h87, h88, h89⟩ := h
  have k := rk_160 hG.1
  obtain ⟨Mc, hMc⟩ : ∃ X, X = sI (sI (sI M 160 73 (iI B)) 160 76 (iI (n + 1))) 160 76 (iI n) := ⟨_, rfl⟩
  have f : zRw M Mc := by rw [hMc]; exact ((zRw.r.sI (by decide)).sI (by decide)).sI (by decide)
  have o : ∀ j, j ≠ 73 → j ≠ 76 → Mc.1 160 j = M.1 160 j := fun j p q => by rw [hMc]; exact (sI_nej q).trans ((sI_nej q).trans (sI_nej p))
  have o2 : ∀ a j, a ≠ 160 → Mc.1 a j = M.1 a j := fun a j p => by rw [hMc]; exact (sI_ne p).trans ((sI_ne p).trans (sI_ne p))
  refine ⟨Mc, ?_, f.ro, hG.ff f ⟨fun kk p => ?_, fun _ _ _ _ => rfl⟩, fun i p q => ?_, ?_, ?_, ?_, ?_, ?_, ?_, ?_⟩
  · have g87 : (sI (sI M 160 73 (iI B)) 160 76 (iI (n + 1))).1 160 87 = iI (if t.1 1 0 0 = 7 then 1 else 0) := (sI_nej (by decide)).trans ((sI_nej (by decide)).trans h87)
    have last : rj778 (iI n) (sI (sI M 160 73 (iI B)) 160 76 (iI (n + 1))) = some (.int 0, Mc) := by
      unfold rj778
      rw [ptI_e (M := sI (sI M 160 73 (iI B)) 160 76 (iI (n + 1))) k, ← hMc]
    unfold g726
    rw [gtI_q k h85, if_pos (show iI 0 = 0 from rfl), gtI_q k h86, jn_v, if_neg (show ¬ iI 1 = 0 by decide), ptI_e k, ptI_q (M := sI M 160 73 (iI B)) (z := n + 1) k (adI rfl li_1), gtI_q (M := sI (sI M 160 73 (iI B)) 160 76 (iI (n + 1))) k g87]
    by_cases y : t.1 1 0 0 = 7
    · rw [if_pos y, if_neg (show ¬ iI 1 = 0 by decide)]; exact last
    · rw [if_neg y, if_pos (show iI 0 = 0 from rfl), if_pos (show iI (t.1 4 n 0) = 0 from eqI_p rfl li_0 (by omega))]; exact last
  · funext x y
    refine (zi_k (by omega)).trans (zi_k (by omega))
  · exact (hF i p (by omega)).lo (fun _ _ _ => o2 _ _ (by decide)) (fun _ _ _ => o2 _ _ (by decide)) (fun _ _ _ => o2 _ _ (by decide)) rfl rfl rfl rfl (fun _ => rfl) (fun _ => rfl) (fun _ => rfl)
  · rw [hMc]; exact sI_eq
  · rw [hMc]; exact (sI_nej (by decide)).trans ((sI_nej (by decide)).trans sI_eq)
  · rw [o _ (by decide) (by decide)]; exact h85
  · rw [o _ (by decide) (by decide)]; exact h86
  · rw [o _ (by decide) (by decide), h87]
    by_cases y : t.1 1 0 0 = 7
    · rw [if_pos y, if_pos (by omega)]
    · rw [if_neg y, if_neg (by omega)]
  · rw [o _ (by decide) (by decide)]; exact h88
  · rw [o _ (by decide) (by decide)]; exact h89
/-- a code answers -/
theorem rj685_e (hd : 1 ≤ d) (h : zRM e s M) (hl : zLr s) (hh : 1 ≤ zh s) (hn : s.1 0 0 0 = n + 1) (hB : B = s.1 6 n 0) (ho : v = iI o) (ho2 : o = 8 ∨ o = 34) : ∃ M' r, rj685 d (iI n) (iI B) (v, M) = some (.int r, M') ∧ zRo e M M' ∧ r = (if o = 34 then 0 else ztop s 1) ∧ zRG e (zi (zi (zw s 6 0 0 r) 0 0 0 (zf s)) 1 0 0 2) M' ∧ (∀ i, 0 ≤ i → i < n → zRf (zi (zi (zw s 6 0 0 r) 0 0 0 (zf s)) 1 0 0 2) M' i) ∧ M'.1 160 76 = iI n ∧ M'.1 160 73 = iI B ∧ M'.1 160 85 = iI 0 ∧ M'.1 160 86 = iI 0 := by
  subst ho
  obtain ⟨M1, q1, c1, f1⟩ := rq2 (d := d) hd h hl hh
  have k := rk_160 h.1.1
  have k1 := rk_160 c1.1.1
  obtain ⟨Mc, hMc⟩ : ∃ X, X = sI (sI M1 160 76 (iI n)) 160 73 (iI B) := ⟨_, rfl⟩
  have f : zRw M1 Mc := by rw [hMc]; exact (zRw.r.sI (by decide)).sI (by decide)
  have o' : ∀ j, j ≠ 73 → j ≠ 76 → Mc.1 160 j = M1.1 160 j := fun j p q => by rw [hMc]; exact (sI_nej p).trans (sI_nej q)
  have o2 : ∀ a j, a ≠ 160 → Mc.1 a j = M1.1 a j := fun a j p => by rw [hMc]; exact (sI_ne p).trans (sI_ne p)
  obtain ⟨r, hr⟩ : ∃ r, r = (if o = 34 then 0 else ztop s 1) := ⟨_, rfl⟩
  refine ⟨Mc, r, ?_, f1.tr f.ro, hr, c1.1.ff f ⟨fun kk p => ?_, fun kk p1 p2 p3 => ?_⟩, fun i p q => ?_, ?_, ?_, ?_, ?_⟩
  · unfold rj685
    rw [vC_e k, cI_e q1, ptI_e k1, ptI_e (M := sI M1 160 76 (iI n)) k1, ← hMc, jn_v]
    by_cases y : o = 34
    · rw [if_pos y] at hr
      rw [if_pos (show iI o = 34 from eqI_p (y := 34) rfl rfl y), jv_e, hr]
    · rw [if_neg y] at hr
      rw [if_neg (show ¬ iI o = 34 from eqI_n (y := 34) rfl rfl (by omega)), jv_e, hr]
  · rcases p with p | p | p | p | p | p | p | p <;> subst p <;> rfl
  · funext x y
    exact zw_k (s := s) p3
  · have zfe : zf s = n := by unfold zf; omega
    refine (c1.2.1 i p (by show i < s.1 0 0 0; omega)).lo (fun _ _ _ => o2 _ _ (by decide)) (fun _ _ _ => o2 _ _ (by decide)) (fun _ _ _ => o2 _ _ (by decide)) ?_ rfl rfl rfl (fun _ => rfl) (fun _ => rfl) (fun _ => rfl)
    show s.1 3 i 0 = (zdn s 1).1 3 i 0
    exact (zi_i (by omega)).symm
  · rw [hMc]; exact (sI_nej (by decide)).trans sI_eq
  · rw [hMc]; exact sI_eq
  · rw [o' _ (by decide) (by decide)]; exact c1.2.2.2.2.1
  · rw [o' _ (by decide) (by decide)]; exact c1.2.2.2.2.2
end S9bd
