/-! a parcel of the first object: its constructor -/
/-- an array of whole numbers -/
def Ar (M : Mem) (c n : Nat) (f : Nat → Int32) : Prop := M.2.2.2[c]? = some (100, n) ∧ ∀ j, j < n → M.1 c j = f j
/-- fields of a parcel -/
def ObF (M : Mem) (x : Nat) (V : Nat → Int32) (F : Nat → Option Nat) : Prop := M.2.2.2[x]? = some (6, 18) ∧ (∀ f, M.1 x f = V f) ∧ ∀ f, M.2.2.1 x f = F f
def up0 {α : Type} (g : Nat → α) (k : Nat) (v : α) : Nat → α := fun i => if i = k then v else g i
section S89
variable {d a N n x : Nat} {M M' : Mem} {v : Int32} {V : Nat → Int32} {F : Nat → Option Nat} {Z : Nat → Prop} {c t : Nat} {f : Nat → Int32} {G : Nat → Int → Int} {e : Int} {L : Nat} {xs : Nat → Int32}
theorem Ar.fo (h : Ar M a n f) (g : Fo Z c t M M') (hz : ¬ Z a) : Ar M' a n f := ⟨g.kd h.1, fun j p => (g.i (ln_lt h.1) hz j).trans (h.2 j p)⟩
theorem ObF.fo (h : ObF M x V F) (g : Fo Z c t M M') (hz : ¬ Z x) : ObF M' x V F := ⟨g.kd h.1, fun j => (g.i (ln_lt h.1) hz j).trans (h.2.1 j), fun j => (g.p (ln_lt h.1) hz j).trans (h.2.2 j)⟩
theorem ObF.sI {k : Nat} (h : ObF M x V F) : ObF (sI M x k v) x (up0 V k v) F := ⟨h.1, fun j => by
  unfold up0
  by_cases c : j = k
  · rw [if_pos c, c]; exact sI_eq
  · rw [if_neg c]; exact (sI_nej c).trans (h.2.1 j), h.2.2⟩
theorem ObF.sP {k : Nat} {w : Option Nat} (h : ObF M x V F) : ObF (sP M x k w) x V (up0 F k w) := ⟨h.1, h.2.1, fun j => by
  unfold up0
  by_cases c : j = k
  · rw [if_pos c, c]; exact sP_eq
  · rw [if_neg c]; exact (sP_nej c).trans (h.2.2 j)⟩
theorem aln_q' {k : Int32 → XA} (h : M.2.2.2[a]? = some (100, n)) : aln M (some a) k = k (iI n) := aln_q h (by decide)
theorem acI_e {a0 m N2 : Nat} {k : Mem → XA} {i j w : Int32} (hi : i = iI 0) (hj : j = iI 0) (hw : w = iI m) (h1 : M.2.2.2[a0]? = some (100, N)) (h2 : M.2.2.2[a]? = some (100, N2)) (hm : m ≤ N ∧ m ≤ N2 ∧ m ≤ 100000) : acI M (some a0) i (some a) j w k = k (cpI M a0 0 a 0 m) := by
  have e0 : i.toNatClampNeg = 0 := by rw [hi]; rfl
  have e1 : j.toNatClampNeg = 0 := by rw [hj]; rfl
  have e2 : w.toNatClampNeg = m := by rw [hw, iI_nat (by omega) (by omega)]; rfl
  have n0 : ¬ i < 0 := lsI_n hi li_0 (by omega)
  have n1 : ¬ j < 0 := lsI_n hj li_0 (by omega)
  have n2 : ¬ w < 0 := lsI_n hw li_0 (by omega)
  unfold acI
  have g : acOK 100 M a0 i a j w = true := by
    unfold acOK
    rw [h1, h2, e0, e1, e2]
    dsimp only
    rw [decide_eq_false n0, decide_eq_false n1, decide_eq_false n2, decide_eq_true (show 0 + m ≤ N by omega), decide_eq_true (show 0 + m ≤ N2 by omega)]
    rfl
  dsimp only
  rw [e0, e1, e2, if_pos g]
theorem cpI_new {m : Nat} : ∀ j, j < m → (cpI M x 0 a 0 m).1 a j = M.1 x j := fun j h => by
  show (if a = a then va_cpy _ _ 0 0 m j else _) = _
  rw [if_pos rfl]
  unfold va_cpy
  rw [if_pos (by omega), show 0 + (j - 0) = j by omega]
theorem Fo.cpI {a0 sp dp m : Nat} (ha : Z a) : Fo Z 0 0 M (cpI M a0 sp a dp m) := ⟨⟨Nat.le_refl _, Nat.le_refl _, Nat.le_refl _, fun _ _ => rfl⟩, fun b _ z i => ⟨if_neg fun (e : b = a) => z (e ▸ ha), rfl, rfl⟩⟩
/-- the first n of an array -/
theorem kp356 (hd : 1 ≤ d) (hk : M.2.2.2[a]? = some (100, N)) (hn : n ≤ N ∧ N ≤ 5000) (hv : v = iI n) : ∃ M', runX d 356 [va_rf (some a), .int v] M = some (va_rf (some (ln M)), M') ∧ Fo (fun _ => False) 1 n M M' ∧ ln M' = ln M + 1 ∧ Ar M' (ln M) n (fun j => M.1 a j) := by
  obtain ⟨d, rfl⟩ : ∃ e, d = e + 1 := ⟨d - 1, by omega⟩
  have la := ln_lt hk
  rw [r356]; unfold b356; rw [aR_e, aI_e, aZ_e]; unfold c356
  rw [aln_q' hk]
  by_cases c : n = N
  · subst c
    rw [if_pos (eqI_p hv rfl rfl)]
    have e1 : ∀ k : Option Nat → Mem → XA, clI M (some a) k = k (some (ln M)) (fun b j => if b = ln M then M.1 a j else M.1 b j, clr M.2.1 (ln M) 0, clr M.2.2.1 (ln M) none, M.2.2.2 ++ [(100, n)]) := fun k => by
      unfold clI
      dsimp only
      rw [hk]
      dsimp only
      rw [if_pos rfl]
      rfl
    have k1 : (M.2.2.2 ++ [(100, n)])[ln M]? = some (100, n) := by
      show (M.2.2.2 ++ [(100, n)])[M.2.2.2.length]? = _
      rw [List.getElem?_append_right (Nat.le_refl _), Nat.sub_self]
      rfl
    have e2 : ∀ z : XA, cstA 100 (fun b j => if b = ln M then M.1 a j else M.1 b j, clr M.2.1 (ln M) 0, clr M.2.2.1 (ln M) none, M.2.2.2 ++ [(100, n)]) (some (ln M)) z = z := fun z => by
      unfold cstA
      dsimp only
      rw [k1]
      dsimp only
      rw [if_pos rfl]
    rw [e1, e2]
    refine ⟨_, rfl, ⟨⟨?_, ?_, ?_, fun b p => List.getElem?_append_left p⟩, fun b p _ j => ?_⟩, ?_, k1, fun j p => if_pos rfl⟩
    · show M.2.2.2.length ≤ (M.2.2.2 ++ [(100, n)]).length
      rw [List.length_append]; omega
    · show (M.2.2.2 ++ [(100, n)]).length ≤ M.2.2.2.length + 1
      rw [List.length_append]; exact Nat.le_refl _
    · show tot (M.2.2.2 ++ [(100, n)]) ≤ _
      rw [tot_ap1]; exact Nat.le_refl _
    · have q : b ≠ ln M := Nat.ne_of_lt p
      exact ⟨if_neg q, if_neg q, if_neg q⟩
    · show (M.2.2.2 ++ [(100, n)]).length = M.2.2.2.length + 1
      rw [List.length_append]; rfl
  · have f1 : Fo (fun b => b = ln M) 1 n M (nw M 100 n) := Fo.nw
    have kl : (nw M 100 n).2.2.2[ln M]? = some (100, n) := nw_kd
    have ka := f1.kd hk
    rw [if_neg (eqI_n hv rfl (by omega)), hv, nA_e (by omega) (by omega), show ((n : Int).toNat) = n by omega]
    rw [aln_q' ka, lt_e, if_pos (lsI_p rfl rfl (by omega))]
    rw [show M.2.2.2.length = ln M from rfl, acI_e (M := nw M 100 n) (a := ln M) (a0 := a) (m := n) li_0 li_0 rfl ka kl (by omega)]
    have f2 : Fo (fun b => b = ln M) 1 n M (cpI (nw M 100 n) a 0 (ln M) 0 n) := (f1.tr (Fo.cpI rfl)).m (fun _ _ z => z) (by omega) (by omega)
    refine ⟨_, rfl, f2.m (fun b p z => by omega) (Nat.le_refl _) (Nat.le_refl _), nw_ln, kl, fun j p => ?_⟩
    rw [cpI_new j p]
    exact f1.i la (by omega) j
/-- the altered places -/
theorem kp51 (hd : 2 ≤ d) (hC : CT M) (hO : OldOK L xs M) (he : 0 ≤ e ∧ e ≤ 1000) (hG : OpB G e) (h259 : 259 ≤ ln M) (h9 : M.1 65 9 = iI e) (hA : ∀ j, 0 ≤ j → j < e → M.1 72 j.toNat = iI (G 0 j) ∧ M.1 75 j.toNat = iI (G 5 j)) : ∃ M', runX d 51 [va_rf (some 65)] M = some (va_rf (some (ln M + 1)), M') ∧ Fo (fun _ => False) 2 (e.toNat + (mcn G e.toNat).toNat) M M' ∧ ln M' = ln M + 2 ∧ Ar M' (ln M + 1) (mcn G e.toNat).toNat (fun j => iI (mtf G e.toNat j)) := by
  obtain ⟨d, rfl⟩ : ∃ e, d = e + 1 := ⟨d - 1, by omega⟩
  have mbe := mcn_b G e.toNat
  have f1 : Fo (fun b => b = ln M) 1 e.toNat M (nw M 100 e.toNat) := Fo.nw
  have kl : (nw M 100 e.toNat).2.2.2[ln M]? = some (100, e.toNat) := nw_kd
  have k1 : ∀ {M1 : Mem}, OldOK L xs M1 → M1.2.2.2[1]? = some (200, 30) := fun h => h.1 1 (by decide)
  rw [r51]; unfold b51; rw [aR_e, aZ_e]; unfold c51
  rw [gtI_q (ck_65 hC) h9, nA_e he.1 (by omega), jn_v]
  refine lp_use (body := c51_11 (runX d) (some 65) (jv fun s4 => cP (runX d 356 [va_rf (some (ln M)), .int s4.1] s4.2) fun x6 M5 => some (va_rf x6, M5)) (some (ln M))) (R := fun s => (jv fun (s4 : Int32 × Mem) => cP (runX d 356 [va_rf (some (ln M)), .int s4.1] s4.2) fun x6 M5 => some (va_rf x6, M5)) (s.1, s.2.2)) e.toNat (fun k s => s.1 = iI (mcn G k) ∧ s.2.1 = iI k ∧ Fo (fun b => b = ln M) 0 0 (nw M 100 e.toNat) s.2.2 ∧ ∀ j : Int, 0 ≤ j → j < mcn G k → s.2.2.1 (ln M) j.toNat = iI (mtf G k j)) ((0 : Int32), (0 : Int32), nw M 100 e.toNat) 4294967296 (by omega) ⟨li_0, li_0, Fo.z, fun j a b => by unfold mcn at b; omega⟩ (fun s' h1 h2 => ?_) (fun k s hk hI => ?_) (fun s hI go => ?_)
  · obtain ⟨i1, i2, M1⟩ := s'
    obtain ⟨g1, g2, g3, g4⟩ := h1
    dsimp only at g1 g2 g3 g4
    have h2' := h2
    dsimp only at h2'
    obtain ⟨M2, e2, f2, l2, a2⟩ := kp356 (d := d) (a := ln M) (N := e.toNat) (n := (mcn G e.toNat).toNat) (v := i1) (M := M1) (by omega) (g3.kd kl) (by omega) (by rw [g1]; congr 1; omega)
    have l1 : ln M1 = ln M + 1 := by
      have := g3.1.1; have := g3.1.2.1; have := nw_ln (M := M) (u := 100) (m := e.toNat); omega
    have ft : Fo (fun b => b = ln M) 2 (e.toNat + (mcn G e.toNat).toNat) M M2 := ((f1.tr g3).tr (f2.m (Z' := fun b => b = ln M) (fun _ _ z => z.elim) (Nat.le_refl _) (Nat.le_refl _))).m (fun _ _ z => z) (by omega) (by omega)
    refine ⟨M2, ?_, ft.m (fun b p z => by omega) (Nat.le_refl _) (Nat.le_refl _), by omega, by rw [← l1]; exact ⟨a2.1, fun j p => (a2.2 j p).trans (by
      have := g4 j (by omega) (by omega)
      exact this)⟩⟩
    refine h2'.trans ?_
    show (cP (runX d 356 [va_rf (some (ln M)), .int i1] M1) fun x6 M5 => some (va_rf x6, M5)) = _
    rw [cP_e e2, l1]
  · obtain ⟨i1, i2, M1⟩ := s
    obtain ⟨g1, g2, g3, g4⟩ := hI
    dsimp only at g1 g2 g3 g4
    subst g1; subst g2
    obtain ⟨o1, o2, o3, o4, o5, o6⟩ := hG k (by omega) (by omega)
    obtain ⟨b1, b2⟩ := hA k (by omega) (by omega)
    have ft : Fo (fun b => b = ln M) 1 e.toNat M M1 := (f1.tr g3).m (fun _ _ z => z) (by omega) (by omega)
    have C1 : CT M1 := ⟨fun q e => ft.kd (hC.1 q e), fun q e => by
      have w : ∀ q, q ∈ CFd → q.1 < 259 := by decide
      have := w q e
      exact (ft.p (by omega) (by omega) _).trans (hC.2 q e)⟩
    have O1 : OldOK L xs M1 := ⟨fun a p => ft.kd (hO.1 a p), fun a j p => (ft.i (by omega) (by omega) j).trans (hO.2 a j p)⟩
    have x9 : M1.1 65 9 = iI e := (ft.i (by omega) (by omega) _).trans h9
    have x72 : M1.1 72 (k : Int).toNat = iI (G 0 k) := (ft.i (by omega) (by omega) _).trans b1
    have x75 : M1.1 75 (k : Int).toNat = iI (G 5 k) := (ft.i (by omega) (by omega) _).trans b2
    have mb := mcn_b G k
    have ib := iw_b (G 0 k)
    have head : ∀ go : Int32 × Int32 × Mem → XA, c51_11 (runX d) (some 65) (jv fun s4 => cP (runX d 356 [va_rf (some (ln M)), .int s4.1] s4.2) fun x6 M5 => some (va_rf x6, M5)) (some (ln M)) (iI (mcn G k), iI k, M1) go = (jn (fun (s13 : Int32 × Mem) => lt (iI k + (1 : Int32)) fun (x14 : Int32) => go (s13.1, x14, s13.2)) fun j61 => if iI (G 5 k) = 0 then (j61 (iI (mcn G k), M1)) else (aln M1 ((some 1)) fun x15 => if x15 ≤ iI (G 0 k) then (j61 (iI (mcn G k), M1)) else (alI 100 M1 ((some 1)) (iI (G 0 k)) fun x16 => if x16 < 0 then (j61 (iI (mcn G k), M1)) else (asI 100 M1 (some (ln M)) (iI (mcn G k)) (iI k) fun M17 => lt (iI (mcn G k) + (1 : Int32)) fun (x18 : Int32) => j61 (x18, M17)))) : XA) := fun go => by
      unfold c51_11
      refine (gtI_q (ck_65 C1) x9).trans ?_
      refine (if_neg (leI_n rfl rfl (by omega))).trans ?_
      refine (gtP_q (ck_65 C1) (cf_65_5 C1)).trans ?_
      refine (alI_q (n := 4096) (z := k) (ck_72 C1) rfl (by omega) x72).trans ?_
      refine (gtP_q (ck_65 C1) (cf_65_8 C1)).trans ?_
      exact (alX_q (n := 4096) (z := k) (ck_75 C1) rfl (by omega) x75)
    have i1 := ins1 O1 (z := G 0 k) (by omega)
    by_cases c : G 5 k = 1
    · by_cases c2 : iw (G 0 k) = -1
      · have e1 : mcn G (k + 1) = mcn G k := if_neg fun z => z.2 c2
        have e2 : mtf G (k + 1) = mtf G k := if_neg fun z => z.2 c2
        refine ⟨(iI (mcn G (k + 1)), iI ((k + 1 : Nat) : Int), M1), ⟨rfl, rfl, g3, by rw [e1, e2]; exact g4⟩, fun go => (head go).trans ?_⟩
        refine (jn_v).trans ?_
        refine (if_neg (eqI_n (x := G 5 k) rfl li_0 (by omega))).trans ?_
        refine (aln_q (k1 O1) (by decide)).trans ?_
        refine (if_neg (leI_n (x := 30) (y := G 0 k) rfl rfl (by omega))).trans ?_
        refine (alO_q (n := 30) (z := G 0 k) (k1 O1) rfl (by omega) i1).trans ?_
        rw [if_pos c2, if_pos (lsI_p (x := -2) (y := 0) rfl li_0 (by omega)), e1]
        refine (jv_e).trans ?_
        exact (ltI_q (z := ((k + 1 : Nat) : Int)) (cvI (adI rfl li_1) (by omega)))
      · have e1 : mcn G (k + 1) = mcn G k + 1 := if_pos ⟨c, c2⟩
        have e2 : mtf G (k + 1) = up1 (mtf G k) (mcn G k) k := if_pos ⟨c, c2⟩
        refine ⟨(iI (mcn G (k + 1)), iI ((k + 1 : Nat) : Int), sI M1 (ln M) (mcn G k).toNat (iI k)), ⟨rfl, rfl, (g3.tr (Fo.sI rfl)).m (fun _ _ z => z) (by omega) (by omega), fun j a b => ?_⟩, fun go => (head go).trans ?_⟩
        · rw [e2]
          by_cases y : j = mcn G k
          · rw [up1_e y, y]; exact sI_eq
          · rw [up1_n y]; exact (sI_nej (by omega)).trans (g4 j a (by rw [e1] at b; omega))
        refine (jn_v).trans ?_
        refine (if_neg (eqI_n (x := G 5 k) rfl li_0 (by omega))).trans ?_
        refine (aln_q (k1 O1) (by decide)).trans ?_
        refine (if_neg (leI_n (x := 30) (y := G 0 k) rfl rfl (by omega))).trans ?_
        refine (alO_q (n := 30) (z := G 0 k) (k1 O1) rfl (by omega) i1).trans ?_
        rw [if_neg c2, if_neg (lsI_n (x := iw (G 0 k)) (y := 0) rfl li_0 (by omega)), e1]
        refine (asI_q (n := e.toNat) (z := mcn G k) (y := k) (g3.kd kl) rfl (by omega) rfl).trans ?_
        refine (ltI_q (z := mcn G k + 1) (adI rfl li_1)).trans ?_
        refine (jv_e).trans ?_
        exact (ltI_q (z := ((k + 1 : Nat) : Int)) (cvI (adI rfl li_1) (by omega)))
    · have e1 : mcn G (k + 1) = mcn G k := if_neg fun z => c z.1
      have e2 : mtf G (k + 1) = mtf G k := if_neg fun z => c z.1
      refine ⟨(iI (mcn G (k + 1)), iI ((k + 1 : Nat) : Int), M1), ⟨rfl, rfl, g3, by rw [e1, e2]; exact g4⟩, fun go => (head go).trans ?_⟩
      refine (jn_v).trans ?_
      refine (if_pos (eqI_p (x := G 5 k) (y := 0) rfl li_0 (by omega))).trans ?_
      rw [e1]
      refine (jv_e).trans ?_
      exact (ltI_q (z := ((k + 1 : Nat) : Int)) (cvI (adI rfl li_1) (by omega)))
  · obtain ⟨i1, i2, M1⟩ := s
    obtain ⟨g1, g2, g3, g4⟩ := hI
    dsimp only at g1 g2 g3
    subst g2
    have ft : Fo (fun b => b = ln M) 1 e.toNat M M1 := (f1.tr g3).m (fun _ _ z => z) (by omega) (by omega)
    unfold c51_11
    refine (gtI_q (ft.kd (ck_65 hC)) ((ft.i (by omega) (by omega) _).trans h9)).trans ?_
    exact (if_pos (leI_p rfl rfl (by omega)))
end S89
