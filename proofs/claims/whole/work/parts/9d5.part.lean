/-! property(), both -/
def Zpc (o : HO) (a j : Nat) : Prop := ZM o 0 0 a j ∨ a = 146 ∨ a = 147 ∨ (a = 64 ∧ j = 13)
def Zpq (a j : Nat) : Prop := ZR 0 0 a j ∨ (a = 160 ∧ ((129 ≤ j ∧ j ≤ 133) ∨ j = 136 ∨ j = 137)) ∨ a = 244 ∨ a = 245
/-- what a call leaves of the rest -/
def afO (LL : Nat) (xs : Nat → Int32) (o : HO) (Mc Mc' Mr' : Mem) : Prop := (Mc'.2.2.2 = Mc.2.2.2 ∧ Mc'.2.1 = Mc.2.1) ∧ (hoC LL xs o Mc' ∧ hoR o Mr') ∧ (∃ hs2, hdC hs2 Mc' ∧ hdR hs2 Mr' ∧ ∀ D, 0 ≤ hs2.1 17 D 0 ∧ hs2.1 17 D 0 ≤ 34000) ∧ (Mr'.1 160 90 = iI (-1) ∧ Mr'.1 160 91 = iI 0 ∧ Mr'.1 160 92 = iI 0 ∧ Mr'.1 160 97 = iI 0)
/-- the ends of both -/
def pJc (dl pc : Nat) (rc : Int) : Mem → XA := jv fun (s10 : Mem) => gtP (12, 19) s10 (some 64) 2 fun x11 => vC (4, 22) s10 x11 <| cI (runX dl 22 [va_rf x11] s10) fun x13 M12 => if x13 = 0 then ( gtP (12, 19) M12 (some 64) 11 fun x14 => gtP (12, 19) M12 (some 64) 12 fun x15 => acI M12 x14 ((0 : Int32)) x15 ((0 : Int32)) ((6 : Int32)) fun M16 => jn (fun (s17 : Int32) => ptI (12, 19) M16 (some 64) 13 s17 fun M18 => jn (fun (s19 : Int32) => some (.int s19, M18)) fun j175 => if iI rc = 0 then ( j175 ((0 : Int32))) else ( j175 ((1 : Int32)))) fun j162 => if iI rc = 0 then ( gtI (8, 9) M16 (some pc) 4 fun x20 => j162 x20) else ( j162 ((0 : Int32)))) else ( some (.int ((-4 : Int32)), M12))
def pJr (d : Nat) (par rc : Int) : Int32 × Mem → XA := jv fun (s19 : Int32 × Mem) => gtI (13, 157) s19.2 (some 160) 84 fun x20 => if x20 = 0 then ( ptZ (13, 157) s19.2 (some 160) 129 ((1 : Int32)) fun M21 => ptZ (13, 157) M21 (some 160) 130 (iI rc) fun M22 => ptI (13, 157) M22 (some 160) 131 (iI par) fun M23 => gtI (13, 157) M23 (some 160) 136 fun x24 => ptI (13, 157) M23 (some 160) 132 x24 fun M25 => jn (fun (s26 : Int32) => ptI (13, 157) M25 (some 160) 133 s26 fun M27 => jn (fun (s28 : Mem) => cI (runX d 245 [.int (iI rc)] s28) fun x30 M29 => some (.int x30, M29)) fun j425 => lp (c289_398 (runX d) (some 160) j425 (iI par)) 4294967296 ((0 : Int32), M27)) fun j392 => if iI rc = 0 then ( j392 s19.1) else ( j392 ((0 : Int32)))) else ( ptZ (13, 157) s19.2 (some 160) 84 ((0 : Int32)) fun M37 => some (.int ((-4 : Int32)), M37))
section S9d5
variable {d dl : Nat} {o : HO} {hs : ZS} {M M' M1 M2 Mc Mr Mc' Mr' Mh Rh : Mem} {LL a j pc : Nat} {xs : Nat → Int32} {ow : Nat → Int} {c p i nc k t b sl par x tm rc nT : Int} {w v1 v2 v3 sd f : Int32} {Z Z' : Nat → Nat → Prop} {tv : Int → Int32}
theorem Zpc_ho (hP : hoP o) (hp : 0 ≤ p ∧ p < oN o) (h : Zpc o a j) : hoZ o a j := by
  rcases h with h | h | h | h
  · exact ZM_ho hP hp (ZM_0 (n := p) (k := 0) h)
  · exact ho_14 hP (Or.inl h)
  · exact ho_14 hP (Or.inr h)
  · rw [h.1, h.2]
    exact ⟨by decide, fun q hq => by
      have g : ∀ q, q ∈ CFd → ¬ (q.1 = 64 ∧ q.2.1 = 13) := by decide
      exact g _ hq ⟨rfl, rfl⟩, fun p x y u z => by have := (hP.2.2.1 p x y).2.2; omega, fun x => absurd x (by decide)⟩
theorem Zpq_ho (h : Zpq a j) : hrZ a j := by
  rcases h with h | h | h
  · exact ZR_hr (p := 0) (k := 0) h
  · exact ⟨fun _ q hq => by
      have g : ∀ q, q ∈ RFd → ¬ (129 ≤ q.1 ∧ q.1 ≤ 133) ∧ q.1 ≠ 136 ∧ q.1 ≠ 137 := by decide
      have := g _ hq
      dsimp only at this
      omega, by omega, by omega, by omega⟩
  · exact ⟨fun y => by omega, by omega, by omega, by omega⟩
theorem pJc_ks (hdl : 1 ≤ dl) (hC : CT M) (h10 : M.1 88 10 = iI (-1)) : pJc dl pc rc M = some (.int (-4), M) := by
  have z22 := zc22 (d := dl) hdl hC h10 (by decide)
  rw [if_pos (by decide)] at z22
  unfold pJc
  rw [jv_e, gtP_q (ck_64 hC) (cf_64_2 hC), vC_e (ck_88 hC), cI_e z22, if_neg (show ¬ iI 1 = 0 by decide)]
theorem pJr_ks (hR : RT M) (h84 : M.1 160 84 = iI 1) : pJr d par rc (f, M) = some (.int (-4), sI M 160 84 0) := by
  unfold pJr
  rw [jv_e]
  dsimp only
  rw [gtI_q (rk_160 hR) h84, if_neg (show ¬ iI 1 = 0 by decide), ptZ_e (rk_160 hR) (Or.inl rfl)]
theorem zr245 (hd : 1 ≤ d) (hrc : rc = 0 ∨ rc = 1) : runX d 245 [.int (iI rc)] M = some (.int (iI rc), M) := by
  obtain ⟨d, rfl⟩ : ∃ e, d = e + 1 := ⟨d - 1, by omega⟩
  rw [r245]; unfold b245; rw [aI_e, aZ_e]; unfold c245
  rw [jn_v]
  rcases hrc with z | z
  · rw [z, if_pos (show iI 0 = 0 from rfl), jv_e]; rfl
  · rw [z, if_neg (show ¬ iI 1 = 0 by decide), jv_e]; rfl
theorem pJ_ki (hdl : 1 ≤ dl) (hd : 1 ≤ d) (hP : hoP o) (hp : 0 ≤ p ∧ p < oN o) (h : KI LL xs o p sl 0 b hs Mh Rh) (hpar : 0 ≤ par ∧ par ≤ 4) (hpc : Mh.2.2.2[pc]? = some (8, 9) ∧ Mh.1 pc 4 = iI par ∧ 259 ≤ pc) (h5 : Mh.1 146 5 = iI nT) (h136 : Rh.1 160 136 = iI nT) (hrc : rc = 0 ∨ rc = 1) (h0 : rc = 0 → Mh.1 146 4 = f ∧ ∀ j : Int, 0 ≤ j → j < par → Mh.1 146 j.toNat = Rh.1 245 j.toNat) (h1 : rc = 1 → Mh.1 146 4 = iI 0) : ∃ Mc' Mr', pJc dl pc rc Mh = some (.int (iI rc), Mc') ∧ pJr d par rc (f, Rh) = some (.int (iI rc), Mr') ∧ Fz (Zpc o) Mh Mc' ∧ Fz Zpq Rh Mr' ∧ smB Mc' Mr' ∧ KI LL xs o p sl 0 b hs Mc' Mr' ∧ Mr'.1 160 90 = Rh.1 160 90 := by
  have hC := h.1.1.1.1
  have hR := h.1.2.1.1
  have bb := h.2.2.2.2.1.2.2.2
  have z22 := zc22 (d := dl) hdl hC h.2.2.2.2.1.1 (by omega)
  rw [if_neg (by omega)] at z22
  obtain ⟨M16, hM16⟩ : ∃ X, X = cpI Mh 146 0 147 0 6 := ⟨_, rfl⟩
  have o16 : ∀ a j, a ≠ 147 → M16.1 a j = Mh.1 a j := fun a j z => by rw [hM16]; exact if_neg z
  have n16 : ∀ j, j < 6 → M16.1 147 j = Mh.1 146 j := fun j z => by rw [hM16]; exact cpI_new j z
  have C16 : CT M16 := hC.keep (by rw [hM16]; rfl)
  obtain ⟨sz, hsz⟩ : ∃ sz : Int, sz = if rc = 0 then par else 0 := ⟨_, rfl⟩
  obtain ⟨M18, hM18⟩ : ∃ X, X = sI M16 64 13 (iI sz) := ⟨_, rfl⟩
  have f18 : Fz (Zpc o) Mh M18 := by
    have : Fz (Zpc o) Mh M16 := ⟨by rw [hM16]; rfl, fun a j z => o16 a j fun y => z (Or.inr (Or.inr (Or.inl y)))⟩
    rw [hM18]
    exact this.si (Or.inr (Or.inr (Or.inr ⟨rfl, rfl⟩)))
  have n18 : ∀ j, j < 6 → M18.1 147 j = Mh.1 146 j := fun j z => by rw [hM18]; exact (sI_ne (by decide)).trans (n16 j z)
  have cl : pJc dl pc rc Mh = some (.int (iI rc), M18) := by
    unfold pJc
    rw [jv_e, gtP_q (ck_64 hC) (cf_64_2 hC), vC_e (ck_88 hC), cI_e z22, if_pos (show iI 0 = 0 from rfl), gtP_q (ck_64 hC) (cf_64_11 hC), gtP_q (ck_64 hC) (cf_64_12 hC), acI_e (N := 6) (m := 6) (N2 := 6) (show (0 : Int32) = iI 0 from rfl) (show (0 : Int32) = iI 0 from rfl) (show (6 : Int32) = iI ((6 : Nat) : Int) from rfl) (ck_146 hC) (ck_147 hC) (by omega), ← hM16, jn_v]
    have kp : M16.2.2.2[pc]? = some (8, 9) := by rw [hM16]; exact hpc.1
    rcases hrc with z | z
    · subst z
      rw [if_pos rfl] at hsz
      rw [if_pos (show iI 0 = 0 from rfl), gtI_q kp ((o16 _ _ (by omega)).trans hpc.2.1), jv_e, ptI_q (z := sz) (ck_64 C16) (congrArg iI hsz.symm), ← hM18, jn_v, if_pos (show iI 0 = 0 from rfl)]
      rfl
    · subst z
      rw [if_neg (by decide)] at hsz
      rw [if_neg (show ¬ iI 1 = 0 by decide), jv_e, ptI_q (z := sz) (ck_64 C16) (by rw [hsz]; rfl), ← hM18, jn_v, if_neg (show ¬ iI 1 = 0 by decide)]
      rfl
  obtain ⟨fl, hfl⟩ : ∃ fl : Int32, fl = if rc = 0 then f else 0 := ⟨_, rfl⟩
  obtain ⟨R27, hR27⟩ : ∃ X, X = sI (sI (sI (sI (sI Rh 160 129 1) 160 130 (iI rc)) 160 131 (iI par)) 160 132 (iI nT)) 160 133 fl := ⟨_, rfl⟩
  have k27 : R27.2 = Rh.2 := by rw [hR27]; rfl
  have hR27' : RT R27 := hR.keep k27
  obtain ⟨R9, a1, a2, a3⟩ := r289_398e (d := d) (par := par) hR27' hpar
  have o27 : ∀ a j, ¬ (a = 160 ∧ 129 ≤ j ∧ j ≤ 133) → R27.1 a j = Rh.1 a j := fun a j z => by
    rw [hR27]
    by_cases y : a = 160
    · exact (sI_nej (by omega)).trans ((sI_nej (by omega)).trans ((sI_nej (by omega)).trans ((sI_nej (by omega)).trans (sI_nej (by omega)))))
    · exact (sI_ne y).trans ((sI_ne y).trans ((sI_ne y).trans ((sI_ne y).trans (sI_ne y))))
  have rl : pJr d par rc (f, Rh) = some (.int (iI rc), R9) := by
    unfold pJr
    rw [jv_e]
    dsimp only
    have kr := rk_160 hR
    rw [gtI_q kr h.2.2.2.2.1.2.2.1, if_pos (show iI 0 = 0 from rfl), ptZ_e kr (Or.inr rfl), ptZ_e (M := sI Rh 160 129 1) kr (by rcases hrc with z | z <;> subst z <;> decide), ptI_e (M := sI (sI Rh 160 129 1) 160 130 (iI rc)) kr, gtI_q (M := sI (sI (sI Rh 160 129 1) 160 130 (iI rc)) 160 131 (iI par)) kr (((sI_nej (by decide)).trans ((sI_nej (by decide)).trans (sI_nej (by decide)))).trans h136), ptI_e (M := sI (sI (sI Rh 160 129 1) 160 130 (iI rc)) 160 131 (iI par)) kr, jn_v]
    rcases hrc with z | z
    · subst z
      rw [if_pos rfl] at hfl
      rw [if_pos (show iI 0 = 0 from rfl), jv_e, ptI_e (M := sI (sI (sI (sI Rh 160 129 1) 160 130 (iI 0)) 160 131 (iI par)) 160 132 (iI nT)) kr, ← hfl, ← hR27, jn_v, a1, jv_e, cI_e (zr245 hd (Or.inl rfl))]
    · subst z
      rw [if_neg (by decide)] at hfl
      rw [if_neg (show ¬ iI 1 = 0 by decide), jv_e, ptI_e (M := sI (sI (sI (sI Rh 160 129 1) 160 130 (iI 1)) 160 131 (iI par)) 160 132 (iI nT)) kr, show sI (sI (sI (sI (sI Rh 160 129 1) 160 130 (iI 1)) 160 131 (iI par)) 160 132 (iI nT)) 160 133 0 = R27 from by rw [hR27, hfl], jn_v, a1, jv_e, cI_e (zr245 hd (Or.inr rfl))]
  have f9 : Fz (fun a j => (a = 160 ∧ 129 ≤ j ∧ j ≤ 133) ∨ a = 244) Rh R9 := Fz.tr (M' := R27) ⟨k27, fun a j z => o27 a j fun y => z (Or.inl y)⟩ (a2.m fun a j z => Or.inr z.1)
  have f9' : Fz Zpq Rh R9 := f9.m fun a j z => by
    rcases z with z | z
    · exact Or.inr (Or.inl ⟨z.1, Or.inl z.2⟩)
    · exact Or.inr (Or.inr (Or.inl z))
  have n9 : ∀ j, R9.1 160 j = R27.1 160 j := fun j => a2.2 _ _ (by omega)
  have f18' : Fz (fun a j => a = 147 ∨ (a = 64 ∧ j = 13)) Mh M18 := by
    have : Fz (fun a j => a = 147 ∨ (a = 64 ∧ j = 13)) Mh M16 := ⟨by rw [hM16]; rfl, fun a j z => o16 a j fun y => z (Or.inl y)⟩
    rw [hM18]
    exact this.si (Or.inr ⟨rfl, rfl⟩)
  refine ⟨M18, R9, cl, rl, f18, f9', Or.inr ⟨?_, sz, ?_, ?_, ?_, ?_, ?_⟩, h.sub hP f18' (fun a j z => ⟨Zpc_ho hP hp (Or.inr (Or.inr z)), by omega, by omega⟩) f9 (fun a j z => ⟨Zpq_ho (z.elim (fun z => Or.inr (Or.inl ⟨z.1, Or.inl z.2⟩)) fun z => Or.inr (Or.inr (Or.inl z))), by omega, by omega⟩), f9.2 _ _ (by omega)⟩
  · rw [n9, hR27]
    exact (sI_nej (by decide)).trans ((sI_nej (by decide)).trans ((sI_nej (by decide)).trans ((sI_nej (by decide)).trans sI_eq)))
  · rcases hrc with z | z
    · rw [if_pos z] at hsz; omega
    · rw [if_neg (by omega)] at hsz; omega
  · rw [hM18]; exact sI_eq
  · have e130 : R9.1 160 130 = iI rc := by
      rw [n9, hR27]
      exact (sI_nej (by decide)).trans ((sI_nej (by decide)).trans ((sI_nej (by decide)).trans sI_eq))
    have e131 : R9.1 160 131 = iI par := by
      rw [n9, hR27]
      exact (sI_nej (by decide)).trans ((sI_nej (by decide)).trans sI_eq)
    rcases hrc with z | z
    · rw [if_pos z] at hsz
      refine Or.inl ⟨by rw [e130, z], by rw [e131, hsz], fun j q1 q2 => ?_⟩
      rw [n18 _ (by omega), (h0 z).2 j q1 (by omega), a3 j q1 (by omega), o27 _ _ (by omega)]
    · rw [if_neg (by omega)] at hsz
      exact Or.inr ⟨by rw [e130, z], hsz⟩
  · rw [n18 _ (by decide), h5, n9, hR27]
    exact ((sI_nej (by decide)).trans sI_eq).symm
  · rw [n18 _ (by decide), n9, hR27, sI_eq, hfl]
    rcases hrc with z | z
    · rw [if_pos z]; exact (h0 z).1
    · rw [if_neg (by omega)]; exact h1 z
end S9d5
