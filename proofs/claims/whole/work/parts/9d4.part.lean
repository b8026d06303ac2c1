/-! what small() is told, both -/
def smB (Mc Mr : Mem) : Prop := (Mc.1 64 13 = iI (-2) ∧ Mr.1 160 129 = iI 0) ∨ (Mr.1 160 129 = iI 1 ∧ ∃ c : Int, (0 ≤ c ∧ c ≤ 4) ∧ Mc.1 64 13 = iI c ∧ ((Mr.1 160 130 = iI 0 ∧ Mr.1 160 131 = iI c ∧ ∀ j : Int, 0 ≤ j → j < c → Mc.1 147 j.toNat = Mr.1 244 j.toNat) ∨ (Mr.1 160 130 = iI 1 ∧ c = 0)) ∧ Mc.1 147 5 = Mr.1 160 132 ∧ Mc.1 147 4 = Mr.1 160 133)
section S9d4
variable {d dl : Nat} {M M' M1 M2 Mc Mr Mc' Mr' : Mem} {a j : Nat} {c p i nc k t b par x z : Int} {w v1 v2 v : Int32}
theorem r289_398e (hR : RT M) (hpar : 0 ≤ par ∧ par ≤ 4) : ∃ M', (∀ J : Mem → XA, lp (c289_398 (runX d) (some 160) J (iI par)) 4294967296 ((0 : Int32), M) = J M') ∧ Fz (fun a j => a = 244 ∧ (j : Int) < par) M M' ∧ ∀ j : Int, 0 ≤ j → j < par → M'.1 244 j.toNat = M.1 245 j.toNat := by
  refine lp_usej (b := fun J => c289_398 (runX d) (some 160) J (iI par)) (R := fun J s => J s.2) par.toNat (fun k s => s.1 = iI (k : Int) ∧ Fz (fun a j => a = 244 ∧ (j : Int) < par) M s.2 ∧ ∀ j : Int, 0 ≤ j → j < k → s.2.1 244 j.toNat = M.1 245 j.toNat) ((0 : Int32), M) 4294967296 (by omega) ⟨li_0, Fz.r, fun q a b => by omega⟩ (fun s' g1 g2 => ?_) (fun k s hk' hI => ?_) (fun s hI J go => ?_)
  · exact ⟨s'.2, g2, g1.2.1, fun q a b => g1.2.2 q a (by omega)⟩
  · obtain ⟨i1, Mk⟩ := s
    obtain ⟨u1, u2, u3⟩ := hI
    dsimp only at u1 u2 u3
    subst u1
    have Rk : RT Mk := hR.keep u2.1
    refine ⟨(iI ((k + 1 : Nat) : Int), sI Mk 244 ((k : Int)).toNat (M.1 245 (k : Int).toNat)), ⟨rfl, u2.si ⟨rfl, by omega⟩, fun q a b => ?_⟩, fun J go => ?_⟩
    · dsimp only
      by_cases y : q = (k : Int)
      · rw [y]; exact sI_eq
      · exact (sI_nej (by omega)).trans (u3 q a (by omega))
    · unfold c289_398
      dsimp only
      rw [if_neg (leI_n (y := (k : Int)) rfl rfl (by omega)), gtP_q (rk_160 Rk) (rf_134 Rk), gtP_q (rk_160 Rk) (rf_135 Rk), alI_q (n := 4) (z := (k : Int)) (rk_245 Rk) rfl (by omega) (u2.2 _ _ (by omega)), asI_e (z := (k : Int)) (n := 4) (rk_244 Rk) (by omega) (by omega) (by omega)]
      exact ltI_q (z := ((k + 1 : Nat) : Int)) (cvI (adI rfl li_1) (by omega))
  · obtain ⟨i1, Mk⟩ := s
    obtain ⟨u1, u2, u3⟩ := hI
    dsimp only at u1 u2 u3
    subst u1
    unfold c289_398
    dsimp only
    rw [if_pos (leI_p (y := (par.toNat : Int)) rfl rfl (by omega))]
/-- small() -/
theorem small_pair (hdl : 1 ≤ dl) (hd : 1 ≤ d) (hC : CT Mc) (hR : RT Mr) (h : smB Mc Mr) (hv : v = iI x) (hx : -2147483648 ≤ x ∧ x ≤ 2147483647) : ∃ r, runX dl 154 [va_rf (some 64), .int v] Mc = some (.int r, Mc) ∧ runX d 290 [va_rf (some 160), .int v] Mr = some (.int r, Mr) := by
  obtain ⟨dl, rfl⟩ : ∃ e, dl = e + 1 := ⟨dl - 1, by omega⟩
  obtain ⟨d, rfl⟩ : ∃ e, d = e + 1 := ⟨d - 1, by omega⟩
  subst hv
  have kr := rk_160 hR
  have kc := ck_64 hC
  have m2 : (-2 : Int32) = iI (-2) := rfl
  have m1 : (-1 : Int32) = iI (-1) := rfl
  have l5 : (5 : Int32) = iI 5 := rfl
  have l4 : (4 : Int32) = iI 4 := rfl
  rcases h with ⟨h1, h2⟩ | ⟨h1, c, hc, h2, h3, h4, h5⟩
  · refine ⟨-1, ?_, ?_⟩
    · rw [r154]; unfold b154; rw [aR_e, aI_e, aZ_e]; unfold c154
      rw [gtI_q kc h1, jn_v, if_pos m2.symm, jv_e]
    · rw [r290]; unfold b290; rw [aR_e, aI_e, aZ_e]; unfold c290
      rw [gtI_q kr h2, jn_v, if_pos (show iI 0 = 0 from rfl), jv_e]
  · have n13 : ¬ iI c = (-2 : Int32) := eqI_n (y := -2) rfl rfl (by omega)
    have n1 : ¬ iI 1 = (0 : Int32) := by decide
    by_cases y : x < -2
    · refine ⟨-1, ?_, ?_⟩
      · rw [r154]; unfold b154; rw [aR_e, aI_e, aZ_e]; unfold c154
        rw [gtI_q kc h2, jn_v, if_neg n13, if_pos (show iI x < (-2 : Int32) from lsI_p (y := -2) rfl rfl (by omega)), jv_e]
      · rw [r290]; unfold b290; rw [aR_e, aI_e, aZ_e]; unfold c290
        rw [gtI_q kr h1, jn_v, if_neg n1, if_neg (show ¬ (-2 : Int32) ≤ iI x from leI_n (x := -2) rfl rfl (by omega)), jv_e]
    · have y1 : ¬ iI x < (-2 : Int32) := lsI_n (y := -2) rfl rfl (by omega)
      have y2 : (-2 : Int32) ≤ iI x := leI_p (x := -2) rfl rfl (by omega)
      by_cases y3 : 0 ≤ x
      · have y3' : 0 ≤ iI x := leI_p (x := 0) li_0 rfl (by omega)
        have x2 : ¬ iI x = (-2 : Int32) := eqI_n (y := -2) rfl rfl (by omega)
        have x1 : ¬ iI x = (-1 : Int32) := eqI_n (y := -1) rfl rfl (by omega)
        by_cases y4 : x < c
        · rcases h3 with ⟨z1, z2, z3⟩ | ⟨z1, z2⟩
          · refine ⟨Mr.1 244 x.toNat, ?_, ?_⟩
            · rw [r154]; unfold b154; rw [aR_e, aI_e, aZ_e]; unfold c154
              rw [gtI_q kc h2, jn_v, if_neg n13, if_neg y1, gtI_q kc h2, if_pos (lsI_p rfl rfl (by omega)), jn_v, if_neg x2, if_neg x1, gtP_q kc (cf_64_12 hC), alI_q (n := 6) (z := x) (ck_147 hC) rfl (by omega) (z3 x y3 y4), jv_e]
            · rw [r290]; unfold b290; rw [aR_e, aI_e, aZ_e]; unfold c290
              rw [gtI_q kr h1, jn_v, if_neg n1, if_pos y2, if_pos y3', gtI_q kr z1, jn_v, jn_v, if_pos (show iI 0 = 0 from rfl), gtI_q kr z2, if_pos (lsI_p rfl rfl (by omega)), gtP_q kr (rf_134 hR), alI_q (n := 4) (z := x) (rk_244 hR) rfl (by omega) rfl, jv_e]
          · omega
        · refine ⟨-1, ?_, ?_⟩
          · rw [r154]; unfold b154; rw [aR_e, aI_e, aZ_e]; unfold c154
            rw [gtI_q kc h2, jn_v, if_neg n13, if_neg y1, gtI_q kc h2, if_neg (lsI_n rfl rfl (by omega)), jv_e]
          · rw [r290]; unfold b290; rw [aR_e, aI_e, aZ_e]; unfold c290
            rcases h3 with ⟨z1, z2, z3⟩ | ⟨z1, z2⟩
            · rw [gtI_q kr h1, jn_v, if_neg n1, if_pos y2, if_pos y3', gtI_q kr z1, jn_v, jn_v, if_pos (show iI 0 = 0 from rfl), gtI_q kr z2, if_neg (lsI_n rfl rfl (by omega)), jv_e, jv_e]
            · rw [gtI_q kr h1, jn_v, if_neg n1, if_pos y2, if_pos y3', gtI_q kr z1, jn_v, jn_v, if_neg n1, jv_e, jv_e]
      · have y3' : ¬ 0 ≤ iI x := leI_n (x := 0) li_0 rfl (by omega)
        by_cases y4 : x = -1
        · subst y4
          refine ⟨Mr.1 160 133, ?_, ?_⟩
          · rw [r154]; unfold b154; rw [aR_e, aI_e, aZ_e]; unfold c154
            rw [gtI_q kc h2, jn_v, if_neg n13, if_neg y1, gtI_q kc h2, if_pos (lsI_p rfl rfl (by omega)), jn_v, if_neg (show ¬ iI (-1) = (-2 : Int32) by decide), if_pos m1.symm, gtP_q kc (cf_64_12 hC), l4, alI_q (n := 6) (z := 4) (ck_147 hC) rfl (by omega) h5, jv_e]
          · rw [r290]; unfold b290; rw [aR_e, aI_e, aZ_e]; unfold c290
            rw [gtI_q kr h1, jn_v, if_neg n1, if_pos y2, if_neg y3', jn_v, if_pos m1.symm, gtI_q kr rfl, jv_e]
        · obtain rfl : x = -2 := by omega
          refine ⟨Mr.1 160 132, ?_, ?_⟩
          · rw [r154]; unfold b154; rw [aR_e, aI_e, aZ_e]; unfold c154
            rw [gtI_q kc h2, jn_v, if_neg n13, if_neg y1, gtI_q kc h2, if_pos (lsI_p rfl rfl (by omega)), jn_v, if_pos m2.symm, gtP_q kc (cf_64_12 hC), l5, alI_q (n := 6) (z := 5) (ck_147 hC) rfl (by omega) h4, jv_e]
          · rw [r290]; unfold b290; rw [aR_e, aI_e, aZ_e]; unfold c290
            rw [gtI_q kr h1, jn_v, if_neg n1, if_pos y2, if_neg y3', jn_v, if_neg (show ¬ iI (-2) = (-1 : Int32) by decide), gtI_q kr rfl, jv_e]
end S9d4
