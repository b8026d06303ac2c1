/-! a reading that ends with a FAULT -/
section S78
variable {d : Nat} {T : Int → Int} {n m p i e s uc F P ut : Int} {kd pl E : Int → Int} {tx : Int → Int64} {M0 M1 M M2 M0c M0r : Mem} {N TT ex : Nat} {H : HG} {t : TS}
theorem a107f (hd : 1 ≤ d) (h : CQ m kd pl tx N TT ex M0 M1 e s uc M H t) (h1 : 1 ≤ t.2.1) : runX d 107 [va_rf (some 65)] M = some (.null, M) := by
  obtain ⟨d, rfl⟩ : ∃ e, d = e + 1 := ⟨d - 1, by omega⟩
  rcases h.2.2.2.2 with z | ⟨-, i, sz, sn, u2, b1, b2, b3, b4, b5, b6, b7, b8⟩
  · exact absurd z.1 (by omega)
  refine Rt.e ?_
  rw [r107]; unfold b107; rw [aR_e, aZ_e]; unfold c107
  refine rs1 (jn_v) ?_
  rw [show (4294967296 : Nat) = 4294967295 + 1 from rfl, lp_e]
  unfold c107_2
  refine rs1 (gtI_q (ck_65 h.1.1) b7) ?_
  by_cases c : u2 ≤ 0
  · refine rs1 (if_pos (leI_p rfl li_0 (by omega))) ?_
    refine rs1 (jv_e) ?_
    exact Rt.ok ⟨rfl, rfl⟩
  · refine rs1 (if_neg (leI_n rfl li_0 (by omega))) ?_
    refine rs1 (gtI_q (ck_65 h.1.1) b2) ?_
    refine rs1 (if_neg (eqI_n rfl li_0 (by omega))) ?_
    refine rs1 (jv_e) ?_
    exact Rt.ok ⟨rfl, rfl⟩
theorem jl_any (hd : 2 ≤ d) (hS : TkS T n m kd pl E tx) (h : CQ m kd pl tx N TT ex M0 M1 e s uc M H t) (hB : CB m e s uc) (h0 : t.2.1 = 0 → kd t.1 ≠ 0 ∧ 0 ≤ kd t.1 ∧ kd t.1 < 300) : Rt ((jv fun s27 => gtI (7, 20) s27 (some 65) 13 fun x28 => jn (fun (s29 : Mem) => vC (7, 20) s29 (some 65) <| cV (runX d 107 [va_rf (some 65)] s29) fun M30 => some (.null, M30)) fun j210 => if x28 = 0 then ( j210 s27) else ( vC (7, 20) s27 (some 65) <| cV (runX d 62 [va_rf (some 65), .int ((2 : Int32))] s27) fun M31 => j210 M31)) M) (fun v M2 => v = .null ∧ CQ m kd pl tx N TT ex M0 M1 e s uc M2 H (tX kd pl 2 t)) := by
  obtain ⟨s5, b9, k5, m16, m9, m13, mb1, mb2, mok, mft⟩ := h.2.2.2.2.nm hB
  have hk : k5 ≠ 0 ∧ 0 ≤ k5 ∧ k5 < 300 := by
    by_cases c : t.2.1 = 0
    · rw [(mok c).2.2]; exact h0 c
    · rw [mft (h.pos c)]; omega
  refine rs1 (jv_e) ?_
  refine rs1 (gtI_q (ck_65 h.1.1) m13) ?_
  refine rs1 (jn_v) ?_
  refine rs1 (if_neg (eqI_n rfl li_0 (by omega))) ?_
  refine rs1 (vC_e (ck_65 h.1.1)) ?_
  refine Rc_V (cq62 (by omega) hS h.1.1 h.1.2 h.2.2.2.2 hB li_2 (by omega)) fun v M3 p3 => ?_
  have g := h.cp p3 tX_s
  refine rs1 (cV_e rfl) ?_
  refine rs1 (jv_e) ?_
  refine rs1 (vC_e (ck_65 g.1.1)) ?_
  refine rs1 (cV_e (a107f (by omega) g (g.pos (tX_n (by omega))))) ?_
  exact Rt.ok ⟨rfl, g⟩
/-- the reference, behind a FAULT -/
def RFo (n p : Int) (M0r : Mem) (F P : Int) (M : Mem) : Prop := RT M ∧ (∀ i, 0 ≤ i → i < 28 → M.2.1 194 i.toNat = WR i) ∧ Fr (W_mr ++ [(160, 1), (160, 65)]) M0r M ∧ KP p M0r M ∧ M.1 160 1 = iI 0 ∧ M.1 160 65 = iI F ∧ FTr 2510 F P M
theorem jr_ft (h : RFt T n p M0r F P M) (hF : 1 ≤ F ∧ F ≤ 6) : Rt ((jv fun s16 => gtI (13, 157) s16 (some 160) 41 fun x17 => jn (fun (s18 : Mem) => ptI (13, 157) s18 (some 160) 1 ((0 : Int32)) fun M19 => gtI (13, 157) M19 (some 160) 41 fun x20 => ptI (13, 157) M19 (some 160) 65 x20 fun M21 => gtI (13, 157) M21 (some 160) 41 fun x22 => if x22 = 0 then ( vC (13, 157) M21 (some 160) <| cV (runX d 232 [va_rf (some 160), .int (iI p)] M21) fun M23 => gtI (13, 157) M23 (some 160) 2 fun x24 => ptI (13, 157) M23 (some 160) 2 (x24 + ((1 : Int32))) fun M25 => some (.int (iI p), M25)) else ( gtI (13, 157) M21 (some 160) 42 fun x26 => some (.int (((-10 : Int32)) - x26), M21))) fun j144 => if x17 = 0 then ( vC (13, 157) s16 (some 160) <| cV (runX d 230 [va_rf (some 160), .int (iI p)] s16) fun M27 => j144 M27) else ( j144 s16)) M) (fun v M2 => v = .int (iI (-10 - P)) ∧ RFo n p M0r F P M2) := by
  obtain ⟨x1, x2, x3, em, sn, us, mu, ut', y1, y2, y3, y4, y5, y6, y7, y8⟩ := h
  have k := rk_160 x1.1
  have f1 : Fr [(160, 1), (160, 65)] M (sI M 160 1 (iI 0)) := Fr.sI (by decide) Fr.r
  have f2 : Fr [(160, 1), (160, 65)] M (sI (sI M 160 1 (iI 0)) 160 65 (iI F)) := Fr.sI (by decide) f1
  have R1 := x1.1.fr f1
  have R2 := x1.1.fr f2
  refine rs1 (jv_e) ?_
  refine rs1 (gtI_q k y1) ?_
  refine rs1 (jn_v) ?_
  refine rs1 (if_neg (eqI_n rfl li_0 (by omega))) ?_
  refine rs1 (jv_e) ?_
  refine rs1 (ptI_q (z := 0) k li_0) ?_
  refine rs1 (gtI_q (rk_160 R1) ((f1.i _ _ (by decide)).trans y1)) ?_
  refine rs1 (ptI_q (z := F) (rk_160 R1) rfl) ?_
  refine rs1 (gtI_q (rk_160 R2) ((f2.i _ _ (by decide)).trans y1)) ?_
  refine rs1 (if_neg (eqI_n rfl li_0 (by omega))) ?_
  refine rs1 (gtI_q (rk_160 R2) ((f2.i _ _ (by decide)).trans y2)) ?_
  refine Rt.ok ⟨congrArg Value.int (sbI li_m10 rfl), R2, fun i a b => (f2.lc 194 (by decide) _).trans (x1.2.2 i a b), Fr.t (Fr.m x2 (fun _ z => List.mem_append_left _ z)) (Fr.m f2 (fun _ z => List.mem_append_right _ z)), x3.fr f2 (by decide), (sI_nej (by decide)).trans sI_eq, sI_eq, em, sn, us, mu, ut', (f2.i _ _ (by decide)).trans y1, (f2.i _ _ (by decide)).trans y2, (f2.i _ _ (by decide)).trans y3, (f2.i _ _ (by decide)).trans y4, (f2.i _ _ (by decide)).trans y5, (f2.i _ _ (by decide)).trans y6, (f2.i _ _ (by decide)).trans y7, y8⟩
end S78
