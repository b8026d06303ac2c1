/-! what the words of a text stand for: the first object -/
def KdU (u k v a : Int) : Prop := (u = 1 ∧ k ≤ 2) ∨ (u = 2 ∧ 1 ≤ k ∧ k ≤ 2) ∨ (u = 3 ∧ k = 3) ∨ (u = 4 ∧ k = 4 ∧ iI v = iI a)
/-- the unit that is meant: u6, or the one of the name -/
def UnF (X1 : Int → Int64) (n u6 : Int) (w : Int64) (un : Int) : Prop := (w = 0 ∧ un = u6) ∨ (w ≠ 0 ∧ LcF X1 n w un)
/-- what is meant may stand there -/
def OkU (lo k v un u6 u a r : Int) : Prop := 0 ≤ r ∧ (lo = 0 ∨ un = u6) ∧ KdU u k v a
section S79
variable {d : Nat} {r u c x u6 u9 u10 u4 ki : Int} {M M2 : Mem} {N TT ex : Nat} {H : HG} {v2 : Int32} {w0 w1 : Int64}
theorem a109 (hd : 1 ≤ d) (hC : CT M) (h : HS N TT ex M H) (hr : 0 ≤ r ∧ r < hEN H 2) (hx : v2 = iI x) (bx : 0 ≤ x ∧ x < 1500) (h78 : M.1 78 x.toNat = iI u) (h80 : M.1 80 x.toNat = iI u9) (bu : 1 ≤ u ∧ u ≤ 4) (bk : 0 ≤ hEF H 2 2 r ∧ hEF H 2 2 r ≤ 4) : ∃ z, runX d 109 [va_rf (some 65), va_rf (some (hEC H 2 r)), .int v2] M = some (.int (iI z), M) ∧ ((z = 1 ∧ KdU u (hEF H 2 2 r) (hEF H 2 4 r) u9) ∨ (z = 0 ∧ ¬ KdU u (hEF H 2 2 r) (hEF H 2 4 r) u9)) := by
  obtain ⟨d, rfl⟩ : ∃ e, d = e + 1 := ⟨d - 1, by omega⟩
  obtain ⟨⟨k1, k2, k3⟩, kf, kx⟩ := h.2.2.1 2 (by omega) (by omega) r hr.1 hr.2
  refine ⟨if (u = 1 ∧ hEF H 2 2 r ≤ 2) ∨ (u = 2 ∧ 1 ≤ hEF H 2 2 r ∧ hEF H 2 2 r ≤ 2) ∨ (u = 3 ∧ hEF H 2 2 r = 3) ∨ (u = 4 ∧ hEF H 2 2 r = 4 ∧ iI (hEF H 2 4 r) = iI u9) then 1 else 0, Rt.e ?_, ?_⟩
  · rw [r109]; unfold b109; rw [aR_e, aR_e, aI_e, aZ_e]; unfold c109
    refine rs1 (gtP_q (w := some 77) (ck_65 hC) (cf_65_17 hC)) ?_
    refine rs1 (alP_q (n := 6) (z := 0) (w := some 78) (ck_77 hC) li_0 (by omega) (cf_77_0 hC)) ?_
    refine rs1 (alI_q (n := 1500) (z := x) (w := iI u) (ck_78 hC) hx (by omega) h78) ?_
    refine rs1 (swI_c) ?_
    by_cases c1 : u = 1
    · refine rs1 (if_pos (eqI_p rfl li_1 c1)) ?_
      refine rs1 (gtI_q k1 (kf 2 (by omega) (by omega))) ?_
      refine rs1 (jn_v) ?_
      by_cases c2 : 2 < hEF H 2 2 r
      · refine rs1 (if_pos (lsI_p li_2 rfl (by omega))) ?_
        refine rs1 (jv_e) ?_
        refine rs1 (rtZ_q (z := 0) li_0 (by omega)) ?_
        rw [if_neg (by omega)]
        exact Rt.ok ⟨rfl, rfl⟩
      · refine rs1 (if_neg (lsI_n li_2 rfl (by omega))) ?_
        refine rs1 (jv_e) ?_
        refine rs1 (rtZ_q (z := 1) li_1 (by omega)) ?_
        rw [if_pos (by omega)]
        exact Rt.ok ⟨rfl, rfl⟩
    refine rs1 (if_neg (eqI_n rfl li_1 (by omega))) ?_
    refine rs1 (swI_c) ?_
    by_cases c2 : u = 2
    · refine rs1 (if_pos (eqI_p rfl li_2 c2)) ?_
      refine rs1 (gtI_q k1 (kf 2 (by omega) (by omega))) ?_
      refine rs1 (jn_v) ?_
      refine rs1 (jn_v) ?_
      by_cases c3 : hEF H 2 2 r = 1
      · refine rs1 (if_pos (eqI_p rfl li_1 c3)) ?_
        refine rs1 (jv_e) ?_
        refine rs1 (jv_e) ?_
        refine rs1 (rtZ_q (z := 1) li_1 (by omega)) ?_
        rw [if_pos (by omega)]
        exact Rt.ok ⟨rfl, rfl⟩
      · refine rs1 (if_neg (eqI_n rfl li_1 (by omega))) ?_
        refine rs1 (gtI_q k1 (kf 2 (by omega) (by omega))) ?_
        by_cases c4 : hEF H 2 2 r = 2
        · refine rs1 (if_pos (eqI_p rfl li_2 c4)) ?_
          refine rs1 (jv_e) ?_
          refine rs1 (jv_e) ?_
          refine rs1 (rtZ_q (z := 1) li_1 (by omega)) ?_
          rw [if_pos (by omega)]
          exact Rt.ok ⟨rfl, rfl⟩
        · refine rs1 (if_neg (eqI_n rfl li_2 (by omega))) ?_
          refine rs1 (jv_e) ?_
          refine rs1 (rtZ_q (z := 0) li_0 (by omega)) ?_
          rw [if_neg (by omega)]
          exact Rt.ok ⟨rfl, rfl⟩
    refine rs1 (if_neg (eqI_n rfl li_2 (by omega))) ?_
    refine rs1 (swI_c) ?_
    by_cases c3 : u = 3
    · refine rs1 (if_pos (eqI_p rfl li_3 c3)) ?_
      refine rs1 (gtI_q k1 (kf 2 (by omega) (by omega))) ?_
      refine rs1 (jn_v) ?_
      by_cases c4 : hEF H 2 2 r = 3
      · refine rs1 (if_pos (eqI_p rfl li_3 c4)) ?_
        refine rs1 (jv_e) ?_
        refine rs1 (rtZ_q (z := 1) li_1 (by omega)) ?_
        rw [if_pos (by omega)]
        exact Rt.ok ⟨rfl, rfl⟩
      · refine rs1 (if_neg (eqI_n rfl li_3 (by omega))) ?_
        refine rs1 (jv_e) ?_
        refine rs1 (rtZ_q (z := 0) li_0 (by omega)) ?_
        rw [if_neg (by omega)]
        exact Rt.ok ⟨rfl, rfl⟩
    refine rs1 (if_neg (eqI_n rfl li_3 (by omega))) ?_
    refine rs1 (swI_n) ?_
    refine rs1 (gtI_q k1 (kf 2 (by omega) (by omega))) ?_
    refine rs1 (jn_v) ?_
    refine rs1 (jn_v) ?_
    by_cases c4 : hEF H 2 2 r = 4
    · refine rs1 (if_pos (eqI_p rfl li_4 c4)) ?_
      refine rs1 (gtI_q k1 (kf 4 (by omega) (by omega))) ?_
      refine rs1 (gtP_q (w := some 77) (ck_65 hC) (cf_65_17 hC)) ?_
      refine rs1 (alP_q (n := 6) (z := 2) (w := some 80) (ck_77 hC) li_2 (by omega) (cf_77_2 hC)) ?_
      refine rs1 (alI_q (n := 1500) (z := x) (w := iI u9) (ck_80 hC) hx (by omega) h80) ?_
      by_cases c5 : iI (hEF H 2 4 r) = iI u9
      · refine rs1 (if_pos c5) ?_
        refine rs1 (jv_e) ?_
        refine rs1 (rtZ_q (z := 1) li_1 (by omega)) ?_
        rw [if_pos (Or.inr (Or.inr (Or.inr ⟨by omega, c4, c5⟩)))]
        exact Rt.ok ⟨rfl, rfl⟩
      · refine rs1 (if_neg c5) ?_
        refine rs1 (jv_e) ?_
        refine rs1 (jv_e) ?_
        refine rs1 (rtZ_q (z := 0) li_0 (by omega)) ?_
        rw [if_neg (by rintro (w | w | w | w); omega; omega; omega; exact c5 w.2.2)]
        exact Rt.ok ⟨rfl, rfl⟩
    · refine rs1 (if_neg (eqI_n rfl li_4 (by omega))) ?_
      refine rs1 (jv_e) ?_
      refine rs1 (jv_e) ?_
      refine rs1 (rtZ_q (z := 0) li_0 (by omega)) ?_
      rw [if_neg (by omega)]
      exact Rt.ok ⟨rfl, rfl⟩
  · by_cases z : KdU u (hEF H 2 2 r) (hEF H 2 4 r) u9
    · exact Or.inl ⟨if_pos z, z⟩
    · exact Or.inr ⟨if_neg z, z⟩
/-- one use -/
theorem a108 (hd : 8 ≤ d) (hC : CT M) (h : HS N TT ex M H) (hx : v2 = iI x) (bx : 0 ≤ x ∧ x < 1500) (h78 : M.1 78 x.toNat = iI u) (h79 : M.1 79 x.toNat = iI c) (h80 : M.1 80 x.toNat = iI u9) (h81 : M.1 81 x.toNat = iI u6) (h82 : M.1 82 x.toNat = iI u10) (h83 : M.1 83 x.toNat = iI u4) (h85 : M.2.1 85 x.toNat = w0) (h86 : M.2.1 86 x.toNat = w1) (bu : 1 ≤ u ∧ u ≤ 4) (bc : 0 ≤ c ∧ c < 4096) (b6 : 0 ≤ u6 ∧ u6 ≤ 7) (hb : ∀ r, 0 ≤ r → r < hEN H 2 → (0 ≤ hEF H 2 2 r ∧ hEF H 2 2 r ≤ 4) ∧ (0 ≤ hEF H 2 3 r ∧ hEF H 2 3 r ≤ 1)) : Rt (runX d 108 [va_rf (some 65), .int v2] M) (fun _ M2 => ∃ un r, UnF (hEX H 1) (hEN H 1) u6 w0 un ∧ MbF (hEF H 2 1) (hEX H 2) (hEN H 2) (if un = -1 then -2 else un) w1 r ∧ ((¬ OkU (hEF H 2 3 r) (hEF H 2 2 r) (hEF H 2 4 r) un u6 u u9 r ∧ M2 = sI (sI M 65 10 (iI 4)) 65 11 (iI (if 0 ≤ un then u4 else u10))) ∨ (OkU (hEF H 2 3 r) (hEF H 2 2 r) (hEF H 2 4 r) un u6 u u9 r ∧ ((hEF H 2 2 r = 0 ∧ M2 = sI (sI M 72 c.toNat (iI 0)) 73 c.toNat (iI (hEF H 2 4 r))) ∨ (hEF H 2 2 r ≠ 0 ∧ M2 = sI M 73 c.toNat (iI r)))))) := by
  obtain ⟨d, rfl⟩ : ∃ e, d = e + 1 := ⟨d - 1, by omega⟩
  have n1 := h.n109 (k := 1) (by omega) (by omega)
  have n2 := h.n109 (k := 2) (by omega) (by omega)
  rw [r108]; unfold b108; rw [aR_e, aI_e, aZ_e]; unfold c108
  refine rs1 (gtP_q (w := some 77) (ck_65 hC) (cf_65_17 hC)) ?_
  refine rs1 (alP_q (n := 6) (z := 3) (w := some 81) (ck_77 hC) li_3 (by omega) (cf_77_3 hC)) ?_
  refine rs1 (alI_q (n := 1500) (z := x) (w := iI u6) (ck_81 hC) hx (by omega) h81) ?_
  refine rs1 (gtP_q (w := some 84) (ck_65 hC) (cf_65_18 hC)) ?_
  refine rs1 (alP_q (n := 2) (z := 0) (w := some 85) (ck_84 hC) li_0 (by omega) (cf_84_0 hC)) ?_
  refine rs1 (alL_q (n := 1500) (z := x) (w := w0) (ck_85 hC) hx (by omega) h85) ?_
  refine Rt.jn (fun s => ∃ un, s = (iI (if un = -1 then -2 else un), M) ∧ UnF (hEX H 1) (hEN H 1) u6 w0 un ∧ -1 ≤ un ∧ un ≤ 200) (fun s hs => ?_) (fun j hj => ?_)
  · obtain ⟨un, rfl, hun, bun⟩ := hs
    refine rs1 (gtP_q (w := some 84) (ck_65 hC) (cf_65_18 hC)) ?_
    refine rs1 (alP_q (n := 2) (z := 1) (w := some 86) (ck_84 hC) li_1 (by omega) (cf_84_1 hC)) ?_
    refine rs1 (alL_q (n := 1500) (z := x) (w := w1) (ck_86 hC) hx (by omega) h86) ?_
    refine rs1 (vC_e (ck_65 hC)) ?_
    refine Rc_I (a71 (y := w1) (by omega) hC h rfl) fun v Ma ⟨r, hv, hMa, hr⟩ => ?_
    subst hv
    rw [hMa]
    refine rs1 (cI_e rfl) ?_
    have hrb : (0 ≤ r ∧ r < hEN H 2) ∨ r = -1 := by rcases hr with z | z <;> omega
    -- no
    have no : ¬ OkU (hEF H 2 3 r) (hEF H 2 2 r) (hEF H 2 4 r) un u6 u u9 r → Rt (ptI (7, 20) M (some 65) 10 ((4 : Int32)) fun M15 => gtP (7, 20) M15 (some 65) 17 fun x16 => jn (fun (s17 : Int32) => alP 113 M15 x16 s17 fun x18 => alI 100 M15 x18 v2 fun x19 => ptI (7, 20) M15 (some 65) 11 x19 fun M20 => some (.null, M20)) fun j135 => if 0 ≤ (iI (if un = -1 then -2 else un)) then (j135 ((5 : Int32))) else (j135 ((4 : Int32)))) (fun _ M2 => ∃ un r, UnF (hEX H 1) (hEN H 1) u6 w0 un ∧ MbF (hEF H 2 1) (hEX H 2) (hEN H 2) (if un = -1 then -2 else un) w1 r ∧ ((¬ OkU (hEF H 2 3 r) (hEF H 2 2 r) (hEF H 2 4 r) un u6 u u9 r ∧ M2 = sI (sI M 65 10 (iI 4)) 65 11 (iI (if 0 ≤ un then u4 else u10))) ∨ (OkU (hEF H 2 3 r) (hEF H 2 2 r) (hEF H 2 4 r) un u6 u u9 r ∧ ((hEF H 2 2 r = 0 ∧ M2 = sI (sI M 72 c.toNat (iI 0)) 73 c.toNat (iI (hEF H 2 4 r))) ∨ (hEF H 2 2 r ≠ 0 ∧ M2 = sI M 73 c.toNat (iI r)))))) := fun z => by
      have f1 : Fr [(65, 10)] M (sI M 65 10 (iI 4)) := Fr.sI (by decide) Fr.r
      have C1 := hC.fr f1
      refine rs1 (ptI_q (z := 4) (ck_65 hC) li_4) ?_
      refine rs1 (gtP_q (w := some 77) (ck_65 C1) (cf_65_17 C1)) ?_
      refine rs1 (jn_v) ?_
      by_cases cu : 0 ≤ un
      · refine rs1 (if_pos (leI_p li_0 (y := un) (by rw [if_neg (by omega)]) (by omega))) ?_
        refine rs1 (jv_e) ?_
        refine rs1 (alP_q (n := 6) (z := 5) (w := some 83) (ck_77 C1) li_5 (by omega) (cf_77_5 C1)) ?_
        refine rs1 (alI_q (n := 1500) (z := x) (w := iI u4) (ck_83 C1) hx (by omega) ((f1.c 83 (by decide) _).trans h83)) ?_
        refine rs1 (ptI_q (z := u4) (ck_65 C1) rfl) ?_
        exact Rt.ok ⟨un, r, hun, hr, Or.inl ⟨z, by rw [if_pos cu]⟩⟩
      · refine rs1 (if_neg (leI_n li_0 (y := -2) (by rw [if_pos (by omega)]) (by omega))) ?_
        refine rs1 (jv_e) ?_
        refine rs1 (alP_q (n := 6) (z := 4) (w := some 82) (ck_77 C1) li_4 (by omega) (cf_77_4 C1)) ?_
        refine rs1 (alI_q (n := 1500) (z := x) (w := iI u10) (ck_82 C1) hx (by omega) ((f1.c 82 (by decide) _).trans h82)) ?_
        refine rs1 (ptI_q (z := u10) (ck_65 C1) rfl) ?_
        exact Rt.ok ⟨un, r, hun, hr, Or.inl ⟨z, by rw [if_neg cu]⟩⟩
    refine Rt.jn (fun s => (s = (none, M) ∧ r = -1) ∨ (s = (some (hEC H 2 r), M) ∧ 0 ≤ r)) (fun s hs => ?_) (fun j hj => ?_)
    · refine Rt.jn (fun q => (q = (iI 0, M) ∧ ¬ OkU (hEF H 2 3 r) (hEF H 2 2 r) (hEF H 2 4 r) un u6 u u9 r) ∨ (q = (iI 1, M) ∧ s = (some (hEC H 2 r), M) ∧ OkU (hEF H 2 3 r) (hEF H 2 2 r) (hEF H 2 4 r) un u6 u u9 r)) (fun q hq => ?_) (fun j2 hj2 => ?_)
      · rcases hq with ⟨rfl, z⟩ | ⟨rfl, rfl, z⟩
        · refine rs1 (if_pos (eqI_p rfl li_0 rfl)) ?_
          exact no z
        · have hr0 := z.1
          obtain ⟨⟨k1, k2, k3⟩, kf, kx⟩ := h.2.2.1 2 (by omega) (by omega) r hr0 (by omega)
          have hbr := hb r hr0 (by omega)
          refine rs1 (if_neg (eqI_n (x := 1) (y := 0) rfl li_0 (by omega))) ?_
          refine rs1 (gtP_q (w := some 77) (ck_65 hC) (cf_65_17 hC)) ?_
          refine rs1 (alP_q (n := 6) (z := 1) (w := some 79) (ck_77 hC) li_1 (by omega) (cf_77_1 hC)) ?_
          refine rs1 (alI_q (n := 1500) (z := x) (w := iI c) (ck_79 hC) hx (by omega) h79) ?_
          refine rs1 (gtI_q k1 (kf 2 (by omega) (by omega))) ?_
          refine rs1 (jn_v) ?_
          by_cases ck : hEF H 2 2 r = 0
          · refine rs1 (if_pos (eqI_p rfl li_0 ck)) ?_
            refine rs1 (gtP_q (w := some 72) (ck_65 hC) (cf_65_5 hC)) ?_
            refine rs1 (asI_q (u := 100) (n := 4096) (z := c) (y := 0) (ck_72 hC) rfl (by omega) li_0) ?_
            have f1 : Fr [(72, 9999)] M (sI M 72 c.toNat (iI 0)) := frone
            have C1 := hC.fr f1
            have h1 := h.fr f1 (by decide)
            obtain ⟨⟨m1, m2, m3⟩, mf, mx⟩ := h1.2.2.1 2 (by omega) (by omega) r hr0 (by omega)
            refine rs1 (gtP_q (w := some 73) (ck_65 C1) (cf_65_6 C1)) ?_
            refine rs1 (gtI_q m1 (mf 4 (by omega) (by omega))) ?_
            refine rs1 (asI_q (u := 100) (n := 4096) (z := c) (y := hEF H 2 4 r) (ck_73 C1) rfl (by omega) rfl) ?_
            refine rs1 (jv_e) ?_
            exact Rt.ok ⟨un, r, hun, hr, Or.inr ⟨z, Or.inl ⟨ck, rfl⟩⟩⟩
          · refine rs1 (if_neg (eqI_n rfl li_0 (by omega))) ?_
            refine rs1 (gtP_q (w := some 73) (ck_65 hC) (cf_65_6 hC)) ?_
            refine rs1 (asI_q (u := 100) (n := 4096) (z := c) (y := r) (ck_73 hC) rfl (by omega) (by rw [if_neg (by omega)])) ?_
            refine rs1 (jv_e) ?_
            exact Rt.ok ⟨un, r, hun, hr, Or.inr ⟨z, Or.inr ⟨ck, rfl⟩⟩⟩
      · refine rs1 (jn_v) ?_
        rcases hs with ⟨rfl, z⟩ | ⟨rfl, z⟩
        · refine rs1 (if_pos rfl) ?_
          refine rs1 (jv_e) ?_
          rw [li_0]
          exact hj2 _ (Or.inl ⟨rfl, fun w => by have := w.1; omega⟩)
        · obtain ⟨⟨k1, k2, k3⟩, kf, kx⟩ := h.2.2.1 2 (by omega) (by omega) r z (by omega)
          have hbr := hb r z (by omega)
          have chk : (hEF H 2 3 r = 0 ∨ un = u6) → Rt (vC (7, 20) M (some 65) <| cI (runX d 109 [va_rf (some 65), va_rf (some (hEC H 2 r)), .int v2] M) fun x37 M36 => if x37 = 0 then (j2 ((0 : Int32), M36)) else (j2 ((1 : Int32), M36))) (fun _ M2 => ∃ un r, UnF (hEX H 1) (hEN H 1) u6 w0 un ∧ MbF (hEF H 2 1) (hEX H 2) (hEN H 2) (if un = -1 then -2 else un) w1 r ∧ ((¬ OkU (hEF H 2 3 r) (hEF H 2 2 r) (hEF H 2 4 r) un u6 u u9 r ∧ M2 = sI (sI M 65 10 (iI 4)) 65 11 (iI (if 0 ≤ un then u4 else u10))) ∨ (OkU (hEF H 2 3 r) (hEF H 2 2 r) (hEF H 2 4 r) un u6 u u9 r ∧ ((hEF H 2 2 r = 0 ∧ M2 = sI (sI M 72 c.toNat (iI 0)) 73 c.toNat (iI (hEF H 2 4 r))) ∨ (hEF H 2 2 r ≠ 0 ∧ M2 = sI M 73 c.toNat (iI r)))))) := fun own => by
            refine rs1 (vC_e (ck_65 hC)) ?_
            obtain ⟨y, ey, hy⟩ := a109 (d := d) (by omega) hC h ⟨z, by omega⟩ hx bx h78 h80 bu hbr.1
            refine rs1 (cI_e ey) ?_
            rcases hy with ⟨rfl, ky⟩ | ⟨rfl, ky⟩
            · refine rs1 (if_neg (eqI_n (x := 1) (y := 0) rfl li_0 (by omega))) ?_
              rw [li_1]
              exact hj2 _ (Or.inr ⟨rfl, rfl, z, own, ky⟩)
            · refine rs1 (if_pos (eqI_p rfl li_0 rfl)) ?_
              rw [li_0]
              exact hj2 _ (Or.inl ⟨rfl, fun w => ky w.2.2⟩)
          refine rs1 (if_neg (by intro w; cases w)) ?_
          refine rs1 (gtI_q k1 (kf 3 (by omega) (by omega))) ?_
          refine Rt.jn (fun _ => hEF H 2 3 r = 0 ∨ un = u6) (fun _ own => ?_) (fun j3 hj3 => ?_)
          · have := chk own
            refine Rt.mono ?_ (fun _ _ w => w)
            exact this
          · by_cases c3 : hEF H 2 3 r = 0
            · refine rs1 (if_pos (eqI_p rfl li_0 c3)) ?_
              exact hj3 _ (Or.inl c3)
            · refine rs1 (if_neg (eqI_n rfl li_0 (by omega))) ?_
              by_cases c6 : un = u6
              · refine rs1 (if_pos (eqI_p (x := un) (by rw [if_neg (by omega)]) rfl c6)) ?_
                exact hj3 _ (Or.inr c6)
              · refine rs1 (if_neg (eqI_n (x := if un = -1 then -2 else un) rfl rfl (by split <;> omega))) ?_
                refine rs1 (jv_e) ?_
                rw [li_0]
                exact hj2 _ (Or.inl ⟨rfl, fun w => by have := w.2.1; omega⟩)
    · rcases hrb with z | z
      · refine rs1 (if_pos (leI_p li_0 (y := r) (by rw [if_neg (by omega)]) (by omega))) ?_
        refine rs1 (gtP_q (ck_65 hC) (h.1.2.2.1 2 (by omega) (by omega))) ?_
        refine rs1 (vC_e (h.2.1 2 (by omega) (by omega)).1.2.1) ?_
        refine rs1 (cP_e (ls_get (j := r) (by omega) (h.2.1 2 (by omega) (by omega)) (by rw [if_neg (by omega)]) (by omega))) ?_
        refine rs1 (cst_e (h.2.2.1 2 (by omega) (by omega) r z.1 z.2).1.1) ?_
        exact hj _ (Or.inr ⟨rfl, z.1⟩)
      · refine rs1 (if_neg (leI_n li_0 (y := -2) (by rw [if_pos z]) (by omega))) ?_
        exact hj _ (Or.inl ⟨rfl, z⟩)
  · by_cases cw : w0 = 0
    · refine rs1 (if_pos (lgc_p rfl rfl cw)) ?_
      refine hj _ ⟨u6, ?_, Or.inl ⟨cw, rfl⟩, by omega, by omega⟩
      rw [if_neg (by omega)]
    · refine rs1 (if_neg (lgc_n rfl rfl cw)) ?_
      refine rs1 (vC_e (ck_65 hC)) ?_
      refine Rc_I (a70 (y := w0) (by omega) hC h) fun v Ma ⟨r, hv, hMa, lc⟩ => ?_
      subst hv
      rw [hMa]
      refine rs1 (cI_e rfl) ?_
      have := lc.bd
      exact hj _ ⟨r, rfl, Or.inr ⟨cw, lc⟩, by omega, by omega⟩
end S79
