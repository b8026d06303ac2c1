/-! what a member is linked to, in the class -/
/-- a link of the class and of the reference -/
def lkB (R0 R1 : RG) (m u r : Int) : Prop := ∃ x, MbF (R1.1 2 1) (R1.2 2) (R1.1 2 0 0) u (R0.2 2 m) x ∧ (-1 ≤ x ∧ x < R1.1 2 0 0) ∧ ((0 ≤ r ∧ r = x ∧ zLk R0 R1 m x = 96 + x) ∨ (-13 ≤ r ∧ r ≤ -10 ∧ zLk R0 R1 m x = r))
section S9dg
variable {d : Nat} {g : PG} {M : Mem} {a j x N cc : Nat} {p k u i m c z : Int} {y y0 : Int64} {v : Int32} {R0 : RG}
theorem bc2 (hd : 5 ≤ d) (hP : PkP g) (hC : PkC p g M) (hu : 0 ≤ u ∧ u < (gR g).1 1 0 0) (hcc : M.2.2.2[cc]? = some (8, 9) ∧ M.2.1 cc 0 = R0.2 2 m ∧ M.1 cc 2 = iI (R0.1 2 2 m) ∧ M.1 cc 4 = iI (R0.1 2 4 m)) (h0 : (0 ≤ R0.1 2 2 m ∧ R0.1 2 2 m ≤ 4) ∧ -999999999 ≤ R0.1 2 4 m ∧ R0.1 2 4 m ≤ 999999999) (hv : v = iI u) : ∃ r, lkB R0 (gR g) m u r ∧ runX d 2 [va_rf (some (gX g)), .int v, va_rf (some cc)] M = some (.int (iI r), M) := by
  obtain ⟨d, rfl⟩ : ∃ e, d = e + 1 := ⟨d - 1, by omega⟩
  subst hv
  have n2 := hP.1.n2
  obtain ⟨⟨⟨o1, o2, o3⟩, o4, -⟩, -, -, hL, hT, hU⟩ := id hC
  have l := hL 1 (by decide) (by decide)
  obtain ⟨⟨w1, w2, w3⟩, w4, w5, w6⟩ := hU u hu.1 (by omega)
  obtain ⟨-, -, -, -, ⟨q1, q2, q3, -⟩, q7, -⟩ := hP.1.1.2.2.1 u hu.1 (by omega)
  rw [enU_n (by omega)] at q2 q3 q7
  obtain ⟨x, h1, h2⟩ := bc2_l (d := d) (y := R0.2 2 m) (by omega) hP hC hu ⟨hcc.1, hcc.2.1⟩ (hEF (gH g) 1 2 u - hEF (gH g) 1 1 u).toNat (hEF (gH g) 1 1 u) 4294967296 (by omega) (by omega) (by omega) (fun j a b => by omega)
  have xb : -1 ≤ x ∧ x < (gR g).1 2 0 0 := by
    rcases h1 with ⟨a, b, -⟩ | ⟨a, -⟩
    · omega
    · omega
  have base : ∀ r, (r = if x < 0 then -10 else if ¬ (gR g).1 2 2 x = R0.1 2 2 m then -11 else if ¬ (gR g).1 2 3 x = 0 then -12 else if (gR g).1 2 2 x = 4 ∧ ¬ (gR g).1 2 4 x = R0.1 2 4 m then -13 else x) → lkB R0 (gR g) m u r := fun r hr => by
    refine ⟨x, h1, xb, ?_⟩
    unfold zLk
    by_cases y1 : x < 0
    · rw [if_pos y1] at hr; rw [if_pos y1]; right; omega
    · rw [if_neg y1] at hr; rw [if_neg y1]
      by_cases y2 : (gR g).1 2 2 x = R0.1 2 2 m
      · rw [if_neg (fun z => z y2)] at hr; rw [if_neg (fun z => z y2)]
        by_cases y3 : (gR g).1 2 3 x = 0
        · rw [if_neg (fun z => z y3)] at hr; rw [if_neg (fun z => z y3)]
          by_cases y4 : (gR g).1 2 2 x = 4 ∧ ¬ (gR g).1 2 4 x = R0.1 2 4 m
          · rw [if_pos y4] at hr; rw [if_pos y4]; right; omega
          · rw [if_neg y4] at hr; rw [if_neg y4]; left; omega
        · rw [if_pos y3] at hr; rw [if_pos y3]; right; omega
      · rw [if_pos y2] at hr; rw [if_pos y2]; right; omega
  have w1' := w4 1 (by decide) (by decide) (by decide) (by decide)
  by_cases y1 : x < 0
  · refine ⟨-10, base _ (by rw [if_pos y1]), ?_⟩
    rw [r2]; unfold b2; rw [aR_e, aI_e, aR_e, aZ_e]; unfold c2
    rw [gtP_q o1 (o4 1 (by decide) (by decide)), vC_e l.1.2.1, cP_e (ls_get (by omega) l rfl (by omega)), cst_e w1, gtI_q w1 w1', jn_v, jn_v, h2, if_pos y1, jv_e]
    rfl
  · obtain ⟨⟨t1, t2, t3⟩, t4, t5⟩ := hT 2 (by decide) (by decide) x (by omega) (by omega)
    obtain ⟨e1, e2, e3, e4, e5, e6, e7, -⟩ := hP.1.1.2.2.2.1 x (by omega) (by omega)
    have t2' : M.1 (hEC (gH g) 2 x) 2 = iI ((gR g).1 2 2 x) := (t4 2 (by decide) (by decide)).trans (congrArg iI (e2 2 (by decide) (by decide)))
    have t3' : M.1 (hEC (gH g) 2 x) 3 = iI ((gR g).1 2 3 x) := (t4 3 (by decide) (by decide)).trans (congrArg iI (e2 3 (by decide) (by decide)))
    have t4' : M.1 (hEC (gH g) 2 x) 4 = iI ((gR g).1 2 4 x) := (t4 4 (by decide) (by decide)).trans (congrArg iI (e2 4 (by decide) (by decide)))
    have lx4 : (4 : Int32) = iI 4 := rfl
    refine ⟨_, base _ rfl, ?_⟩
    rw [if_neg y1]
    rw [r2]; unfold b2; rw [aR_e, aI_e, aR_e, aZ_e]; unfold c2
    rw [gtP_q o1 (o4 1 (by decide) (by decide)), vC_e l.1.2.1, cP_e (ls_get (by omega) l rfl (by omega)), cst_e w1, gtI_q w1 w1', jn_v, jn_v, h2, if_neg y1, jv_e]
    dsimp only
    rw [gtI_q t1 t2', jn_v, jn_v]
    have fin : ∀ s7 : Int32, (s7 = if (gR g).1 2 2 x = 4 ∧ ¬ (gR g).1 2 4 x = R0.1 2 4 m then 0 else 1) → (jv (fun (s7 : Int32) => gtI (8, 9) M (some (hEC (gH g) 2 x)) 2 fun x8 => gtI (8, 9) M (some cc) 2 fun x9 => jn (fun (s10 : Int32) => some (.int s10, M)) fun j124 => if x8 = x9 then ( gtI (8, 9) M (some (hEC (gH g) 2 x)) 3 fun x11 => if x11 = 0 then ( if s7 = 0 then ( j124 ((-13 : Int32))) else ( j124 (iI x))) else ( j124 ((-12 : Int32)))) else ( j124 ((-11 : Int32)))) s7 : XA) = some (.int (iI (if ¬ (gR g).1 2 2 x = R0.1 2 2 m then -11 else if ¬ (gR g).1 2 3 x = 0 then -12 else if (gR g).1 2 2 x = 4 ∧ ¬ (gR g).1 2 4 x = R0.1 2 4 m then -13 else x)), M) := fun s7 hs => by
      rw [jv_e, gtI_q t1 t2', gtI_q hcc.1 hcc.2.2.1, jn_v]
      by_cases y2 : (gR g).1 2 2 x = R0.1 2 2 m
      · rw [if_pos (show iI ((gR g).1 2 2 x) = iI (R0.1 2 2 m) by rw [y2]), if_neg (show ¬ ¬ (gR g).1 2 2 x = R0.1 2 2 m from fun z => z y2), gtI_q t1 t3']
        by_cases y3 : (gR g).1 2 3 x = 0
        · rw [if_pos (show iI ((gR g).1 2 3 x) = 0 by rw [y3]; rfl), if_neg (show ¬ ¬ (gR g).1 2 3 x = 0 from fun z => z y3)]
          by_cases y4 : (gR g).1 2 2 x = 4 ∧ ¬ (gR g).1 2 4 x = R0.1 2 4 m
          · rw [if_pos y4] at hs
            rw [if_pos (show s7 = 0 from hs), if_pos y4, jv_e]; rfl
          · rw [if_neg y4] at hs
            rw [if_neg (show ¬ s7 = 0 by rw [hs]; decide), if_neg y4, jv_e]
        · rw [if_neg (show ¬ iI ((gR g).1 2 3 x) = 0 from eqI_n rfl li_0 (by omega)), if_pos y3, jv_e]; rfl
      · rw [if_neg (show ¬ iI ((gR g).1 2 2 x) = iI (R0.1 2 2 m) from eqI_n rfl rfl (by omega)), if_pos y2, jv_e]; rfl
    by_cases y4 : (gR g).1 2 2 x = 4
    · rw [if_pos (show iI ((gR g).1 2 2 x) = (4 : Int32) by rw [y4]; rfl), gtI_q t1 t4', gtI_q hcc.1 hcc.2.2.2]
      by_cases y5 : (gR g).1 2 4 x = R0.1 2 4 m
      · rw [if_pos (show iI ((gR g).1 2 4 x) = iI (R0.1 2 4 m) by rw [y5]), jv_e]
        exact fin 1 (by rw [if_neg (fun z => z.2 y5)])
      · rw [if_neg (show ¬ iI ((gR g).1 2 4 x) = iI (R0.1 2 4 m) from eqI_n rfl rfl (by omega))]
        exact fin 0 (by rw [if_pos ⟨y4, y5⟩])
    · rw [if_neg (show ¬ iI ((gR g).1 2 2 x) = (4 : Int32) from eqI_n (y := 4) rfl rfl (by omega)), jv_e]
      exact fin 1 (by rw [if_neg (fun z => y4 z.1)])
end S9dg
