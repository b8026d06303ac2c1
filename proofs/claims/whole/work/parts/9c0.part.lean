/-! a run is prepared: small ones -/
def Zpr (a j : Nat) : Prop := (a = 88 ∧ (j = 3 ∨ j = 4 ∨ j = 6 ∨ j = 9 ∨ j = 10)) ∨ (a = 91 ∧ j < 2)
def Zwa (a j : Nat) : Prop := (a = 88 ∧ j = 6) ∨ (108 ≤ a ∧ a < 140 ∧ a % 4 = 0 ∧ j = 4)
def Zli (a j : Nat) : Prop := (a = 160 ∧ j = 92) ∨ (a = 235 ∧ j < 8)
section S9c0
variable {d : Nat} {M M' M1 M2 : Mem} {a b j N x y : Nat} {v v1 v2 v3 w : Int32} {c k i n m p o q : Int} {Z : Nat → Nat → Prop}
theorem asOK_p (h : M.2.2.2[x]? = some (6, 18)) : asOK 111 M (some x) = true := by
  unfold asOK
  dsimp only
  rw [h]
  rfl
/-- prepare() -/
theorem zc19 (hd : 1 ≤ d) (hl : 259 ≤ ln M) (hC : CT M) (hx : M.2.2.2[x]? = some (6, 18)) : ∃ M', runX d 19 [va_rf (some 88), va_rf (some x), .int v] M = some (.null, M') ∧ FG Zpr M M' ∧ CT M' ∧ (M'.2.2.2 = M.2.2.2 ∧ M'.2.1 = M.2.1) ∧ (M'.2.2.1 91 0 = some x ∧ M'.2.2.1 91 1 = none ∧ M'.2.2.1 88 9 = none ∧ M'.2.2.1 88 4 = none) ∧ M'.1 88 10 = v ∧ M'.1 88 3 = -2 ∧ M'.1 88 6 = 0 := by
  obtain ⟨d, rfl⟩ : ∃ e, d = e + 1 := ⟨d - 1, by omega⟩
  have k88 := ck_88 hC
  have k91 := ck_91 hC
  obtain ⟨M', hM⟩ : ∃ z, z = sI (sP (sI (sI (sP (sP (sP M 91 0 (some x)) 91 1 none) 88 9 none) 88 10 v) 88 3 (-2)) 88 4 none) 88 6 0 := ⟨_, rfl⟩
  have f : FG Zpr M M' := by
    rw [hM]
    exact ((((((((FG.r hl).sP (show Zpr 91 0 from Or.inr ⟨rfl, by decide⟩)).sP (show Zpr 91 1 from Or.inr ⟨rfl, by decide⟩)).sP (show Zpr 88 9 from Or.inl ⟨rfl, by decide⟩)).sI (show Zpr 88 10 from Or.inl ⟨rfl, by decide⟩)).sI (show Zpr 88 3 from Or.inl ⟨rfl, by decide⟩)).sP (show Zpr 88 4 from Or.inl ⟨rfl, by decide⟩)).sI (show Zpr 88 6 from Or.inl ⟨rfl, by decide⟩))
  have g : ∀ q, q ∈ CFd → ¬ ((q.1 = 88 ∧ (q.2.1 = 3 ∨ q.2.1 = 4 ∨ q.2.1 = 6 ∨ q.2.1 = 9 ∨ q.2.1 = 10)) ∨ (q.1 = 91 ∧ q.2.1 < 2)) := by decide
  refine ⟨M', ?_, f, hC.fg f fun a j _ ⟨q, hq⟩ z => g _ hq z, ?_, ?_, ?_⟩
  · rw [r19]; unfold b19; rw [aR_e, aR_e, aI_e, aZ_e]; unfold c19
    rw [gtP_q k88 (cf_88_8 hC), show (0 : Int32) = iI 0 from li_0, asP_e k91 (by decide) (by decide) (by decide) (asOK_p hx)]
    rw [show ((0 : Int).toNat) = 0 from rfl]
    rw [gtP_q (M := sP M 91 0 (some x)) k88 ((sP_ne (by decide)).trans (cf_88_8 hC)), show (1 : Int32) = iI 1 from li_1, asP_e (M := sP M 91 0 (some x)) k91 (by decide) (by decide) (by decide) rfl]
    rw [show ((1 : Int).toNat) = 1 from rfl]
    rw [ptP_e (M := sP (sP M 91 0 (some x)) 91 1 none) k88, ptI_e (M := sP (sP (sP M 91 0 (some x)) 91 1 none) 88 9 none) k88, ptI_e (M := sI (sP (sP (sP M 91 0 (some x)) 91 1 none) 88 9 none) 88 10 v) k88, ptP_e (M := sI (sI (sP (sP (sP M 91 0 (some x)) 91 1 none) 88 9 none) 88 10 v) 88 3 (-2)) k88, ptI_e (M := sP (sI (sI (sP (sP (sP M 91 0 (some x)) 91 1 none) 88 9 none) 88 10 v) 88 3 (-2)) 88 4 none) k88, hM, show (0 : Int32) = iI 0 from li_0]
  · rw [hM]; exact ⟨rfl, rfl⟩
  · rw [hM]
    refine ⟨?_, ?_, ?_, ?_⟩
    · exact (sP_ne (by decide)).trans ((sP_ne (M := (sP (sP M 91 0 (some x)) 91 1 none)) (by decide)).trans ((sP_nej (by decide)).trans sP_eq))
    · exact (sP_ne (by decide)).trans ((sP_ne (M := (sP (sP M 91 0 (some x)) 91 1 none)) (by decide)).trans sP_eq)
    · exact (sP_nej (by decide)).trans sP_eq
    · exact sP_eq
  · rw [hM]
    refine ⟨?_, ?_, sI_eq⟩
    · exact (sI_nej (by decide)).trans (show (sI (sI (sP (sP (sP M 91 0 (some x)) 91 1 none) 88 9 none) 88 10 v) 88 3 (-2)).1 88 10 = v from (sI_nej (by decide)).trans sI_eq)
    · exact (sI_nej (by decide)).trans (show (sI (sI (sP (sP (sP M 91 0 (some x)) 91 1 none) 88 9 none) 88 10 v) 88 3 (-2)).1 88 3 = -2 from sI_eq)
/-- watch() -/
theorem zc21 (hd : 1 ≤ d) (hl : 259 ≤ ln M) (hC : CT M) : ∃ M', runX d 21 [va_rf (some 88), .int v] M = some (.null, M') ∧ M'.2 = M.2 ∧ (∀ a j, ¬ Zwa a j → M'.1 a j = M.1 a j) ∧ M'.1 88 6 = v ∧ ∀ q, 0 ≤ q → q < 8 → M'.1 (zTw q) 4 = iI 0 := by
  obtain ⟨d, rfl⟩ : ∃ e, d = e + 1 := ⟨d - 1, by omega⟩
  have k88 := ck_88 hC
  rw [r21]; unfold b21; rw [aR_e, aI_e, aZ_e]; unfold c21
  rw [ptI_e k88, jn_v]
  refine lp_use (body := c21_7 (runX d) (some 88) (jv fun s2 => some (.null, s2))) (R := fun s => some (.null, s.2)) 8 (fun k s => s.1 = iI (k : Int) ∧ s.2.2 = M.2 ∧ (∀ a j, ¬ Zwa a j → s.2.1 a j = M.1 a j) ∧ s.2.1 88 6 = v ∧ ∀ q : Int, 8 - (k : Int) ≤ q → q < 8 → s.2.1 (zTw q) 4 = iI 0) ((0 : Int32), sI M 88 6 v) 4294967296 (by omega) ⟨li_0, rfl, fun a j z => ?_, sI_eq, fun q a b => by omega⟩ (fun s' g1 g2 => ?_) (fun k s hk' hI => ?_) (fun s hI go => ?_)
  · by_cases y : a = 88
    · subst y; exact sI_nej fun w => z (Or.inl ⟨rfl, w⟩)
    · exact sI_ne y
  · exact ⟨s'.2, g2, g1.2.1, g1.2.2.1, g1.2.2.2.1, fun q a b => g1.2.2.2.2 q (by omega) b⟩
  · obtain ⟨i1, Mk⟩ := s
    obtain ⟨u1, u2, u3, u4, u5⟩ := hI
    dsimp only at u1 u2 u3 u4 u5
    subst u1
    have Ck : CT Mk := ⟨fun q z => by rw [congrArg (fun z => z.2.2) u2]; exact hC.1 q z, fun q z => by rw [congrArg (fun z => z.2.1) u2]; exact hC.2 q z⟩
    have tz : zTw (7 - (k : Int)) = 108 + 4 * k := by unfold zTw; omega
    have kt : Mk.2.2.2[108 + 4 * k]? = some (10, 9) := by
      have c : k = 0 ∨ k = 1 ∨ k = 2 ∨ k = 3 ∨ k = 4 ∨ k = 5 ∨ k = 6 ∨ k = 7 := by omega
      rcases c with c | c | c | c | c | c | c | c <;> subst c
      · exact ck_108 Ck
      · exact ck_112 Ck
      · exact ck_116 Ck
      · exact ck_120 Ck
      · exact ck_124 Ck
      · exact ck_128 Ck
      · exact ck_132 Ck
      · exact ck_136 Ck
    have pt : Mk.2.2.1 90 ((k : Int)).toNat = some (108 + 4 * k) := by
      have c : k = 0 ∨ k = 1 ∨ k = 2 ∨ k = 3 ∨ k = 4 ∨ k = 5 ∨ k = 6 ∨ k = 7 := by omega
      rcases c with c | c | c | c | c | c | c | c <;> subst c
      · exact cf_90_0 Ck
      · exact cf_90_1 Ck
      · exact cf_90_2 Ck
      · exact cf_90_3 Ck
      · exact cf_90_4 Ck
      · exact cf_90_5 Ck
      · exact cf_90_6 Ck
      · exact cf_90_7 Ck
    refine ⟨(iI ((k + 1 : Nat) : Int), sI Mk (108 + 4 * k) 4 0), ⟨rfl, u2, fun a j z => ?_, (sI_ne (by omega)).trans u4, fun q a b => ?_⟩, fun go => ?_⟩
    · refine Eq.trans ?_ (u3 a j z)
      by_cases y : a = 108 + 4 * k
      · subst y; exact sI_nej fun w => z (Or.inr ⟨by omega, by omega, by omega, w⟩)
      · exact sI_ne y
    · dsimp only
      by_cases y : q = 7 - (k : Int)
      · rw [y, tz]; exact sI_eq.trans li_0
      · have : zTw q ≠ 108 + 4 * k := by unfold zTw; omega
        exact (sI_ne this).trans (u5 q (by omega) b)
    · unfold c21_7
      dsimp only
      rw [if_neg (leI_n (y := (k : Int)) lit_8 rfl (by omega)), gtP_q (ck_88 Ck) (cf_88_7 Ck), alP_q (ck_90 Ck) rfl (by omega) pt, ptI_e kt]
      exact ltI_q (z := ((k + 1 : Nat) : Int)) (cvI (adI rfl li_1) (by omega))
  · obtain ⟨i1, Mk⟩ := s
    obtain ⟨u1, -⟩ := hI
    dsimp only at u1
    subst u1
    unfold c21_7
    dsimp only
    rw [if_pos (leI_p (y := ((8 : Nat) : Int)) lit_8 rfl (by omega))]
    rfl
/-- isSpent() -/
theorem zc22 (hd : 1 ≤ d) (hC : CT M) (h : M.1 88 10 = iI n) (hn : -1 ≤ n ∧ n ≤ 2147483647) : runX d 22 [va_rf (some 88)] M = some (.int (iI (if n < 0 then 1 else 0)), M) := by
  obtain ⟨d, rfl⟩ : ∃ e, d = e + 1 := ⟨d - 1, by omega⟩
  rw [r22]; unfold b22; rw [aR_e, aZ_e]; unfold c22
  rw [gtI_q (ck_88 hC) h, jn_v]
  by_cases y : n < 0
  · rw [if_neg (leI_n li_0 rfl (by omega)), if_pos y, jv_e, rtZ_e (Or.inr rfl)]; rfl
  · rw [if_pos (leI_p li_0 rfl (by omega)), if_neg y, jv_e, rtZ_e (Or.inl rfl)]; rfl
/-- listen() -/
theorem zr278 (hd : 1 ≤ d) (hR : RT M) : ∃ M', runX d 278 [va_rf (some 160)] M = some (.null, M') ∧ M'.2 = M.2 ∧ (∀ a j, ¬ Zli a j → M'.1 a j = M.1 a j) ∧ M'.1 160 92 = 1 ∧ ∀ q : Int, 0 ≤ q → q < 8 → M'.1 235 q.toNat = iI 0 := by
  obtain ⟨d, rfl⟩ : ∃ e, d = e + 1 := ⟨d - 1, by omega⟩
  have k160 := rk_160 hR
  rw [r278]; unfold b278; rw [aR_e, aZ_e]; unfold c278
  rw [ptZ_e k160 (Or.inr rfl), jn_v]
  refine lp_use (body := c278_7 (runX d) (some 160) (jv fun s2 => some (.null, s2))) (R := fun s => some (.null, s.2)) 8 (fun k s => s.1 = iI (k : Int) ∧ s.2.2 = M.2 ∧ (∀ a j, ¬ Zli a j → s.2.1 a j = M.1 a j) ∧ s.2.1 160 92 = 1 ∧ ∀ q : Int, 0 ≤ q → q < k → s.2.1 235 q.toNat = iI 0) ((0 : Int32), sI M 160 92 1) 4294967296 (by omega) ⟨li_0, rfl, fun a j z => ?_, sI_eq, fun q a b => by omega⟩ (fun s' g1 g2 => ?_) (fun k s hk' hI => ?_) (fun s hI go => ?_)
  · by_cases y : a = 160
    · subst y; exact sI_nej fun w => z (Or.inl ⟨rfl, w⟩)
    · exact sI_ne y
  · exact ⟨s'.2, g2, g1.2.1, g1.2.2.1, g1.2.2.2.1, fun q a b => g1.2.2.2.2 q a (by omega)⟩
  · obtain ⟨i1, Mk⟩ := s
    obtain ⟨u1, u2, u3, u4, u5⟩ := hI
    dsimp only at u1 u2 u3 u4 u5
    subst u1
    have Rk : RT Mk := ⟨fun q z => by rw [congrArg (fun z => z.2.2) u2]; exact hR.1 q z, fun q z => by rw [congrArg (fun z => z.2.1) u2]; exact hR.2 q z⟩
    refine ⟨(iI ((k + 1 : Nat) : Int), sI Mk 235 k 0), ⟨rfl, u2, fun a j z => ?_, (sI_ne (by omega)).trans u4, fun q a b => ?_⟩, fun go => ?_⟩
    · refine Eq.trans ?_ (u3 a j z)
      by_cases y : a = 235
      · subst y; exact sI_nej fun w => z (Or.inr ⟨rfl, by omega⟩)
      · exact sI_ne y
    · dsimp only
      by_cases y : q = (k : Int)
      · rw [y]; exact sI_eq.trans li_0
      · exact (sI_nej (by omega)).trans (u5 q a (by omega))
    · unfold c278_7
      dsimp only
      rw [if_neg (leI_n (y := (k : Int)) lit_8 rfl (by omega)), gtP_q (rk_160 Rk) (rf_120 Rk), asI_e (rk_235 Rk) (by omega) (by omega) (by omega)]
      exact ltI_q (z := ((k + 1 : Nat) : Int)) (cvI (adI rfl li_1) (by omega))
  · obtain ⟨i1, Mk⟩ := s
    obtain ⟨u1, -⟩ := hI
    dsimp only at u1
    subst u1
    unfold c278_7
    dsimp only
    rw [if_pos (leI_p (y := ((8 : Nat) : Int)) lit_8 rfl (by omega))]
    rfl
end S9c0
