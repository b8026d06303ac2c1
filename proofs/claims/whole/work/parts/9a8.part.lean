/-! the reference's machine: a run is made ready -/
section S9a8
variable {d : Nat} {M M' : Mem} {v : Int32}
theorem rr251 (hd : 1 ≤ d) (hR : RT M) : ∃ M', runX d 251 [va_rf (some 160)] M = some (.null, M') ∧ M'.2 = M.2 ∧ (∀ a j, a ≠ 210 → ¬ (a = 160 ∧ (j = 79 ∨ j = 80 ∨ j = 81 ∨ j = 82 ∨ j = 85)) → M'.1 a j = M.1 a j) ∧ (∀ k : Int, 0 ≤ k → k < 16 → M'.1 210 k.toNat = 0) ∧ M'.1 160 79 = M.1 160 78 ∧ M'.1 160 80 = M.1 160 77 ∧ M'.1 160 81 = iI 0 ∧ M'.1 160 82 = iI 0 ∧ M'.1 160 85 = iI 0 := by
  obtain ⟨d, rfl⟩ : ∃ e, d = e + 1 := ⟨d - 1, by omega⟩
  rw [r251]; unfold b251; rw [aR_e, aZ_e]; unfold c251
  rw [jn_v]
  refine lp_use (body := c251_2 (runX d) (some 160) (jv fun (s1 : Mem) => gtI (13, 157) s1 (some 160) 78 fun x2 => ptI (13, 157) s1 (some 160) 79 x2 fun M3 => gtI (13, 157) M3 (some 160) 77 fun x4 => ptI (13, 157) M3 (some 160) 80 x4 fun M5 => ptI (13, 157) M5 (some 160) 81 ((0 : Int32)) fun M6 => ptI (13, 157) M6 (some 160) 82 ((0 : Int32)) fun M7 => ptZ (13, 157) M7 (some 160) 85 ((0 : Int32)) fun M8 => some (.null, M8))) (R := fun s => (jv fun (s1 : Mem) => gtI (13, 157) s1 (some 160) 78 fun x2 => ptI (13, 157) s1 (some 160) 79 x2 fun M3 => gtI (13, 157) M3 (some 160) 77 fun x4 => ptI (13, 157) M3 (some 160) 80 x4 fun M5 => ptI (13, 157) M5 (some 160) 81 ((0 : Int32)) fun M6 => ptI (13, 157) M6 (some 160) 82 ((0 : Int32)) fun M7 => ptZ (13, 157) M7 (some 160) 85 ((0 : Int32)) fun M8 => some (.null, M8)) s.2) 16 (fun k s => s.1 = iI (k : Int) ∧ s.2.2 = M.2 ∧ (∀ a j, a ≠ 210 → s.2.1 a j = M.1 a j) ∧ ∀ i : Int, 0 ≤ i → i < k → s.2.1 210 i.toNat = 0) ((0 : Int32), M) 4294967296 (by omega) ⟨li_0, rfl, fun _ _ _ => rfl, fun i a b => by omega⟩ (fun s' g1 g2 => ?_) (fun k s hk hI => ?_) (fun s hI go => ?_)
  · obtain ⟨i1, Mk⟩ := s'
    obtain ⟨-, u2, u3, u4⟩ := g1
    dsimp only at u2 u3 u4 g2
    have k := rk_160 (hR.keep u2)
    have g78 : Mk.1 160 78 = M.1 160 78 := u3 _ _ (by decide)
    have g77 : (sI Mk 160 79 (M.1 160 78)).1 160 77 = M.1 160 77 := (sI_nej (by decide)).trans (u3 _ _ (by decide))
    refine ⟨sI (sI (sI (sI (sI Mk 160 79 (M.1 160 78)) 160 80 (M.1 160 77)) 160 81 (iI 0)) 160 82 (iI 0)) 160 85 (iI 0), ?_, u2, fun a j p q => ?_, fun i a b => ?_, ?_, ?_, ?_, ?_, sI_eq⟩
    · rw [g2, jv_e, gtI_q k g78, ptI_e k, gtI_q (M := sI Mk 160 79 (M.1 160 78)) k g77, ptI_e (M := sI Mk 160 79 (M.1 160 78)) k, ptI_q (M := sI (sI Mk 160 79 (M.1 160 78)) 160 80 (M.1 160 77)) (z := 0) k li_0, ptI_q (M := sI (sI (sI Mk 160 79 (M.1 160 78)) 160 80 (M.1 160 77)) 160 81 (iI 0)) (z := 0) k li_0, ptZ_q (M := sI (sI (sI (sI Mk 160 79 (M.1 160 78)) 160 80 (M.1 160 77)) 160 81 (iI 0)) 160 82 (iI 0)) (z := 0) k li_0 (by omega)]
    · by_cases y : a = 160
      · subst y
        exact (sI_nej (fun z => q ⟨rfl, by omega⟩)).trans ((sI_nej (fun z => q ⟨rfl, by omega⟩)).trans ((sI_nej (fun z => q ⟨rfl, by omega⟩)).trans ((sI_nej (fun z => q ⟨rfl, by omega⟩)).trans ((sI_nej (fun z => q ⟨rfl, by omega⟩)).trans (u3 _ _ p)))))
      · exact (sI_ne y).trans ((sI_ne y).trans ((sI_ne y).trans ((sI_ne y).trans ((sI_ne y).trans (u3 a j p)))))
    · exact (sI_ne (by decide)).trans ((sI_ne (by decide)).trans ((sI_ne (by decide)).trans ((sI_ne (by decide)).trans ((sI_ne (by decide)).trans (u4 i a (by omega))))))
    · exact (sI_nej (by decide)).trans ((sI_nej (by decide)).trans ((sI_nej (by decide)).trans ((sI_nej (by decide)).trans sI_eq)))
    · exact (sI_nej (by decide)).trans ((sI_nej (by decide)).trans ((sI_nej (by decide)).trans sI_eq))
    · exact (sI_nej (by decide)).trans ((sI_nej (by decide)).trans sI_eq)
    · exact (sI_nej (by decide)).trans sI_eq
  · obtain ⟨i1, Mk⟩ := s
    obtain ⟨u1, u2, u3, u4⟩ := hI
    dsimp only at u1 u2 u3 u4
    subst u1
    have Rk := hR.keep u2
    refine ⟨(iI ((k + 1 : Nat) : Int), sI Mk 210 k 0), ⟨rfl, u2, fun a j p => (sI_ne p).trans (u3 a j p), fun i a b => ?_⟩, fun go => ?_⟩
    · by_cases y : i = k
      · rw [y]; exact sI_eq
      · exact (sI_nej (by omega)).trans (u4 i a (by omega))
    · unfold c251_2
      dsimp only
      rw [if_neg (show ¬ (16 : Int32) ≤ iI (k : Int) from leI_n (x := 16) rfl rfl (by omega)), gtP_q (rk_160 Rk) (rf_69 Rk), asI_e (rk_210 Rk) (by omega) (by omega) (by omega)]
      exact ltI_q (z := ((k + 1 : Nat) : Int)) (cvI (adI rfl li_1) (by omega))
  · obtain ⟨i1, Mk⟩ := s
    obtain ⟨u1, -⟩ := hI
    dsimp only at u1
    subst u1
    unfold c251_2
    dsimp only
    rw [if_pos (show (16 : Int32) ≤ iI ((16 : Nat) : Int) from leI_p (x := 16) rfl rfl (by omega))]
end S9a8
