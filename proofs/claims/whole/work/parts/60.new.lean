/-! a new member in what both know -/
section S60
variable {d d' : Nat} {T : Int → Int} {n m b b2 a e s s0 u uc dp dq i i0 K c lo ki r v j p ut cnt cn0 j0 z z4 z5 F P mu cb : Int} {kd pl E : Int → Int} {tx : Int → Int64} {M0 M1 M M2 M0c M0r Mc Mr Mc1 Mr1 : Mem} {R R' R0 : RG} {t t2 : TS} {L L0 : Int → Int64} {k k' f : Nat} {W : List (Nat × Nat)} {N TT ex x : Nat} {H H0 : HG} {G U : Nat → Int → Int} {X : Nat → Int → Int64} {ow : Nat → Int} {Fi : Nat → Int} {Xi : Int64}
theorem aP_fn (h : ¬ (k' = k ∧ j = hEN H k)) : hEF (aP H ow k x Fi Xi) k' f j = hEF H k' f j := if_neg h
theorem aP_fp : hEF (aP H ow k x Fi Xi) k f (hEN H k) = Fi f := if_pos ⟨rfl, rfl⟩
theorem aP_xn (h : ¬ (k' = k ∧ j = hEN H k)) : hEX (aP H ow k x Fi Xi) k' j = hEX H k' j := if_neg h
theorem aP_xp : hEX (aP H ow k x Fi Xi) k (hEN H k) = Xi := if_pos ⟨rfl, rfl⟩
theorem aP_nn (h : k' ≠ k) : hEN (aP H ow k x Fi Xi) k' = hEN H k' := if_neg h
theorem RW.mv (hw : RW Mc Mr G U L0 X e s0 u uc) (fc : FN N W_c9 Mc Mc1) (fr : Fr W_mk Mr Mr1) (hl : LA 76 Mc1 L s) (hr : LA 199 Mr1 L s) : RW Mc1 Mr1 G U L X e s u uc := by
  obtain ⟨r1, r2, r3, r4, r5, r6⟩ := hw
  exact ⟨r1.fn fc (by decide), r2.fr fr (by decide), hl, hr, r5.fn fc (by decide), r6.fr fr (by decide)⟩
/-- one of const, var, shared, row -/
theorem HRK.nm0 (h : HRK G e H R ut cnt) (hc : cnt < 12) (hki : 0 ≤ ki ∧ ki ≤ 3) (hlo : 0 ≤ lo ∧ lo ≤ 1) (hz : -999999999 ≤ z4 ∧ z4 ≤ 999999999) (h3 : ki = 3 → 1 ≤ z4 ∧ z4 ≤ 50) : HRK G e (sF (aP H ow 2 x (pF lo (hEN H 1 - 1) ki) Xi) 2 4 (hEN H 2) z4) (rsF (rM R Xi ut ki lo) 2 4 (R.1 2 0 0) z4) ut (cnt + 1) := by
  have a1 := h.1.1
  have a3 := h.1.2.2.1
  have b1 := h.2.1
  unfold rM
  refine h.mb hc ⟨(aP_nn (by omega) : hEN (aP H ow 2 x (pF lo (hEN H 1 - 1) ki) Xi) 1 = hEN H 1), (aP_n : hEN (aP H ow 2 x (pF lo (hEN H 1 - 1) ki) Xi) 2 = hEN H 2 + 1), (aP_nn (by omega) : hEN (aP H ow 2 x (pF lo (hEN H 1 - 1) ki) Xi) 3 = hEN H 3), (aP_nn (by omega) : hEN (aP H ow 2 x (pF lo (hEN H 1 - 1) ki) Xi) 4 = hEN H 4)⟩ (fun k f j _ _ q => (sF_n (by omega)).trans (aP_fn q)) (fun k j _ _ q => (aP_xn q : hEX (aP H ow 2 x (pF lo (hEN H 1 - 1) ki) Xi) k j = hEX H k j)) (fun _ _ _ => rfl) ?_ (fun k f j q1 q2 => ?_) (fun k j q => ?_) ?_ ?_
  · exact (rsF_n (by omega)).trans ((rsF_n (by omega)).trans ((rsF_n (by omega)).trans ((rsF_n (by omega)).trans ((rsF_n (by omega)).trans (rsF_p : (rsF R 2 0 0 (R.1 2 0 0 + 1)).1 2 0 0 = _)))))
  · exact (rsF_n (by omega)).trans ((rsF_n (by omega)).trans ((rsF_n (by omega)).trans ((rsF_n (by omega)).trans ((rsF_n (by omega)).trans (rsF_n (by omega))))))
  · exact rsX_n (by omega)
  · rw [a3]
    exact (rsF_n (by omega)).trans ((rsF_n (by omega)).trans ((rsF_n (by omega)).trans ((rsF_n (by omega)).trans rsF_p)))
  · rw [← a3]
    have f1 : (rsF (rsF (rsF (rsF (rsF (rsX (rsF R 2 0 0 (hEN H 2 + 1)) 2 (hEN H 2) Xi) 2 1 (hEN H 2) ut) 2 2 (hEN H 2) ki) 2 3 (hEN H 2) lo) 2 5 (hEN H 2) (-2)) 2 4 (hEN H 2) z4).1 2 1 (hEN H 2) = ut := (rsF_n (by omega)).trans ((rsF_n (by omega)).trans ((rsF_n (by omega)).trans ((rsF_n (by omega)).trans rsF_p)))
    have f2 : (rsF (rsF (rsF (rsF (rsF (rsX (rsF R 2 0 0 (hEN H 2 + 1)) 2 (hEN H 2) Xi) 2 1 (hEN H 2) ut) 2 2 (hEN H 2) ki) 2 3 (hEN H 2) lo) 2 5 (hEN H 2) (-2)) 2 4 (hEN H 2) z4).1 2 2 (hEN H 2) = ki := (rsF_n (by omega)).trans ((rsF_n (by omega)).trans ((rsF_n (by omega)).trans rsF_p))
    have f3 : (rsF (rsF (rsF (rsF (rsF (rsX (rsF R 2 0 0 (hEN H 2 + 1)) 2 (hEN H 2) Xi) 2 1 (hEN H 2) ut) 2 2 (hEN H 2) ki) 2 3 (hEN H 2) lo) 2 5 (hEN H 2) (-2)) 2 4 (hEN H 2) z4).1 2 3 (hEN H 2) = lo := (rsF_n (by omega)).trans ((rsF_n (by omega)).trans rsF_p)
    have f4 : (rsF (rsF (rsF (rsF (rsF (rsX (rsF R 2 0 0 (hEN H 2 + 1)) 2 (hEN H 2) Xi) 2 1 (hEN H 2) ut) 2 2 (hEN H 2) ki) 2 3 (hEN H 2) lo) 2 5 (hEN H 2) (-2)) 2 4 (hEN H 2) z4).1 2 4 (hEN H 2) = z4 := rsF_p
    have f5 : (rsF (rsF (rsF (rsF (rsF (rsX (rsF R 2 0 0 (hEN H 2 + 1)) 2 (hEN H 2) Xi) 2 1 (hEN H 2) ut) 2 2 (hEN H 2) ki) 2 3 (hEN H 2) lo) 2 5 (hEN H 2) (-2)) 2 4 (hEN H 2) z4).1 2 5 (hEN H 2) = -2 := (rsF_n (by omega)).trans rsF_p
    unfold MbK
    rw [f1, f2, f3, f4, f5]
    refine ⟨(aP_xp : hEX (aP H ow 2 x (pF lo (hEN H 1 - 1) ki) Xi) 2 (hEN H 2) = Xi).trans rsX_p.symm, fun f p q => ?_, by omega, by omega, by omega, by omega, h3, Or.inr ⟨by omega, rfl⟩⟩
    have : f = 1 ∨ f = 2 ∨ f = 3 ∨ f = 4 ∨ f = 5 := by omega
    rcases this with y | y | y | y | y <;> subst y
    · rw [f1]; exact (sF_n (by omega)).trans (aP_fp.trans (show hEN H 1 - 1 = ut by omega))
    · rw [f2]; exact (sF_n (by omega)).trans aP_fp
    · rw [f3]; exact (sF_n (by omega)).trans aP_fp
    · rw [f4]; exact sF_p
    · rw [f5]; exact (sF_n (by omega)).trans aP_fp
/-- a fun -/
theorem HRK.nm5 (h : HRK G e H R ut cnt) (hc : cnt < 12) (hlo : 0 ≤ lo ∧ lo ≤ 1) (hz : 0 ≤ z4 ∧ z4 ≤ 4) (he : EnT G e z5 z4) : HRK G e (sF (sF (aP H ow 2 x (pF lo (hEN H 1 - 1) 4) Xi) 2 4 (hEN H 2) z4) 2 5 (hEN H 2) z5) (rsF (rsF (rM R Xi ut 4 lo) 2 4 (R.1 2 0 0) z4) 2 5 (R.1 2 0 0) z5) ut (cnt + 1) := by
  have a1 := h.1.1
  have a3 := h.1.2.2.1
  have b1 := h.2.1
  unfold rM
  refine h.mb hc ⟨(aP_nn (by omega) : hEN (aP H ow 2 x (pF lo (hEN H 1 - 1) 4) Xi) 1 = hEN H 1), (aP_n : hEN (aP H ow 2 x (pF lo (hEN H 1 - 1) 4) Xi) 2 = hEN H 2 + 1), (aP_nn (by omega) : hEN (aP H ow 2 x (pF lo (hEN H 1 - 1) 4) Xi) 3 = hEN H 3), (aP_nn (by omega) : hEN (aP H ow 2 x (pF lo (hEN H 1 - 1) 4) Xi) 4 = hEN H 4)⟩ (fun k f j _ _ q => (sF_n (by omega)).trans ((sF_n (by omega)).trans (aP_fn q))) (fun k j _ _ q => (aP_xn q : hEX (aP H ow 2 x (pF lo (hEN H 1 - 1) 4) Xi) k j = hEX H k j)) (fun _ _ _ => rfl) ?_ (fun k f j q1 q2 => ?_) (fun k j q => ?_) ?_ ?_
  · exact (rsF_n (by omega)).trans ((rsF_n (by omega)).trans ((rsF_n (by omega)).trans ((rsF_n (by omega)).trans ((rsF_n (by omega)).trans ((rsF_n (by omega)).trans (rsF_p : (rsF R 2 0 0 (R.1 2 0 0 + 1)).1 2 0 0 = _))))))
  · exact (rsF_n (by omega)).trans ((rsF_n (by omega)).trans ((rsF_n (by omega)).trans ((rsF_n (by omega)).trans ((rsF_n (by omega)).trans ((rsF_n (by omega)).trans (rsF_n (by omega)))))))
  · exact rsX_n (by omega)
  · rw [a3]
    exact (rsF_n (by omega)).trans ((rsF_n (by omega)).trans ((rsF_n (by omega)).trans ((rsF_n (by omega)).trans ((rsF_n (by omega)).trans rsF_p))))
  · rw [← a3]
    obtain ⟨RR', hRR⟩ : ∃ z, z = rsF (rsF (rsF (rsF (rsF (rsF (rsX (rsF R 2 0 0 (hEN H 2 + 1)) 2 (hEN H 2) Xi) 2 1 (hEN H 2) ut) 2 2 (hEN H 2) 4) 2 3 (hEN H 2) lo) 2 5 (hEN H 2) (-2)) 2 4 (hEN H 2) z4) 2 5 (hEN H 2) z5 := ⟨_, rfl⟩
    rw [← hRR]
    have f1 : RR'.1 2 1 (hEN H 2) = ut := by rw [hRR]; exact (rsF_n (by omega)).trans ((rsF_n (by omega)).trans ((rsF_n (by omega)).trans ((rsF_n (by omega)).trans ((rsF_n (by omega)).trans rsF_p))))
    have f2 : RR'.1 2 2 (hEN H 2) = 4 := by rw [hRR]; exact (rsF_n (by omega)).trans ((rsF_n (by omega)).trans ((rsF_n (by omega)).trans ((rsF_n (by omega)).trans rsF_p)))
    have f3 : RR'.1 2 3 (hEN H 2) = lo := by rw [hRR]; exact (rsF_n (by omega)).trans ((rsF_n (by omega)).trans ((rsF_n (by omega)).trans rsF_p))
    have f4 : RR'.1 2 4 (hEN H 2) = z4 := by rw [hRR]; exact (rsF_n (by omega)).trans rsF_p
    have f5 : RR'.1 2 5 (hEN H 2) = z5 := by rw [hRR]; exact rsF_p
    have fx : RR'.2 2 (hEN H 2) = Xi := by rw [hRR]; exact rsX_p
    unfold MbK
    rw [f1, f2, f3, f4, f5, fx]
    refine ⟨(aP_xp : hEX (aP H ow 2 x (pF lo (hEN H 1 - 1) 4) Xi) 2 (hEN H 2) = Xi), fun f p q => ?_, by omega, by omega, by omega, by omega, fun z => by omega, Or.inl ⟨rfl, hz.2, he⟩⟩
    have : f = 1 ∨ f = 2 ∨ f = 3 ∨ f = 4 ∨ f = 5 := by omega
    rcases this with y | y | y | y | y <;> subst y
    · rw [f1]; exact (sF_n (by omega)).trans ((sF_n (by omega)).trans (aP_fp.trans (show hEN H 1 - 1 = ut by omega)))
    · rw [f2]; exact (sF_n (by omega)).trans ((sF_n (by omega)).trans aP_fp)
    · rw [f3]; exact (sF_n (by omega)).trans ((sF_n (by omega)).trans aP_fp)
    · rw [f4]; exact (sF_n (by omega)).trans sF_p
    · rw [f5]; exact sF_p
theorem RQ.n51 (h : RQ T n b m kd pl E tx M0 M1 p ut cnt e s u dp M R t) : ∃ s2 : Int, M.1 160 51 = iI s2 ∧ (t.2.1 = 0 → s2 = s) := by
  rcases h.2.2.2.2.1 with ⟨h0, a, -⟩ | ⟨h1, h6, em, sn, us, mu, ut, b1, b2, b3, b4, -⟩
  · exact ⟨s, a.2.2.2.2.2.1, fun _ => rfl⟩
  · exact ⟨sn, b4, fun z => absurd z (by omega)⟩
theorem tQ_f (h : 1 ≤ t.2.1) : tQ kd pl tx t L = (t, 0, L) := (if_neg fun z => by omega).trans (tPar_f h)
theorem RQ.s2 {s2 : Int} (h : RQ T n b m kd pl E tx M0 M1 p ut cnt e s u dp M R t) (h1 : 1 ≤ t.2.1) : RQ T n b m kd pl E tx M0 M1 p ut cnt e s2 u dp M R t := by
  obtain ⟨a1, a2, a3, a4, a5, a6⟩ := h
  exact ⟨a1, a2, a3, a4, a5.elim (fun z => absurd z.1 (by omega)) Or.inr, a6⟩
end S60
