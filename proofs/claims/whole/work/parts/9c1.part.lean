/-! a run begins -/
section S9c1
variable {d : Nat} {e s s' u : ZS} {κ : ZK} {M M' M1 M2 : Mem} {a b j N x y : Nat} {v v1 v2 w : Int32} {c t k i n p o q id p0 p1 fr : Int} {R0 R1 : RG} {L : Int → Int}
theorem zCA.fo (h : zCA e κ M) (f : zFo κ M M') : zCA e κ M' := ⟨h.1.fo f, h.2.1.fo f, h.2.2.1.fo f, h.2.2.2.1, h.2.2.2.2⟩
theorem zCE.ca (h : zCE e κ M) : zCA e κ M := ⟨h.1, h.2.1, h.2.2.1, h.2.2.2.1, h.2.2.2.2.1.k8⟩
theorem zCA.i106 (hE : zCA e κ M) (h2 : M'.2 = M.2) (h : ∀ a j, a ≠ 106 → M'.1 a j = M.1 a j) : zCA e κ M' := hE.fo ⟨h2, fun a j p _ _ _ => h a j fun z => by rw [z, inW_c (by decide)] at p; cases p⟩
/-- one side -/
theorem zc23_16 (hd : 4 ≤ d) (hC : CT M) (hE : zCA e κ M) (hq : zSd e q) {z : Int32} (hz : z = iI q) {K : Mem → XA} : ∃ M', lp (c23_16 (runX d) (some 88) K (z, M) (some (κ 0 q))) 4294967296 ((0 : Int32), M) = K M' ∧ M'.2 = M.2 ∧ (∀ a j, a ≠ 106 → M'.1 a j = M.1 a j) ∧ (∀ id, zId e id → (96 * q ≤ id ∧ id < 96 * q + 96) → e.1 4 id 0 = 2 → M'.1 106 (e.1 23 id 0).toNat = iI (e.1 5 id 0)) ∧ ∀ id, zId e id → ¬ (96 * q ≤ id ∧ id < 96 * q + 96) → M'.1 106 (e.1 23 id 0).toNat = M.1 106 (e.1 23 id 0).toNat := by
  subst hz
  obtain ⟨b24, p2, s2, ow, ls⟩ := hE.2.1.1 q hq
  obtain ⟨-, k0, s0, -⟩ := (hE.1.2.2 q hq).1
  have q01 : 0 ≤ q ∧ q ≤ 1 := by rcases hq with z | ⟨z, -⟩ <;> omega
  refine lp_use (body := c23_16 (runX d) (some 88) K (iI q, M) (some (κ 0 q))) (R := fun s => K s.2) (e.1 24 q 0).toNat (fun m s => s.1 = iI (m : Int) ∧ s.2.2 = M.2 ∧ (∀ a j, a ≠ 106 → s.2.1 a j = M.1 a j) ∧ (∀ id, zId e id → (96 * q ≤ id ∧ id < 96 * q + m) → e.1 4 id 0 = 2 → s.2.1 106 (e.1 23 id 0).toNat = iI (e.1 5 id 0)) ∧ ∀ id, zId e id → ¬ (96 * q ≤ id ∧ id < 96 * q + m) → s.2.1 106 (e.1 23 id 0).toNat = M.1 106 (e.1 23 id 0).toNat) ((0 : Int32), M) 4294967296 (by omega) ⟨li_0, rfl, fun _ _ _ => rfl, fun id a b => by omega, fun _ _ _ => rfl⟩ (fun s' h1 h2 => ?_) (fun m s hk' hI => ?_) (fun s hI go => ?_)
  · obtain ⟨g1, g2, g3, g4, g5⟩ := h1
    have sid : ∀ id, zId e id → (96 * q ≤ id ∧ id < 96 * q + 96) → 96 * q ≤ id ∧ id < 96 * q + ((e.1 24 q 0).toNat : Int) := fun id a b => by
      have b0 := (hE.2.1.1 0 (Or.inl rfl)).1
      rcases hq with z | ⟨z, -⟩ <;> subst z <;> rcases a with a | a <;> omega
    exact ⟨s'.2, h2, g2, g3, fun id a b => g4 id a (sid id a b), fun id a b => g5 id a fun z => b ⟨z.1, by omega⟩⟩
  · obtain ⟨i1, M1⟩ := s
    obtain ⟨g1, g2, g3, g4, g5⟩ := hI
    dsimp only at g1 g2 g3 g4 g5
    subst g1
    have E1 : zCA e κ M1 := hE.i106 g2 g3
    have C1 : CT M1 := ⟨fun q z => by rw [congrArg (fun z => z.2.2) g2]; exact hC.1 q z, fun q z => by rw [congrArg (fun z => z.2.1) g2]; exact hC.2 q z⟩
    obtain ⟨-, p2', s2', ow', ls'⟩ := E1.2.1.1 q hq
    obtain ⟨-, k0', -, -⟩ := (E1.1.2.2 q hq).1
    obtain ⟨hid, hlt, -⟩ := zId.of E1.2.1 hq (n := m) (by omega)
    obtain ⟨⟨a1, a2⟩, a3, a4, a5, a6, a7, a8, a9⟩ := E1.2.1.2 _ hid
    have hc4 := E1.2.2.2.1.1 _ hid
    have hln : zlen e (96 * q + m) = if e.1 4 (96 * q + m) 0 = 3 then e.1 5 (96 * q + m) 0 else 1 := rfl
    have m96 : m < 96 := by omega
    have cell : iI q * (4800 : Int32) + iI (e.1 23 (96 * q + (m : Int)) 0 - (if 96 * q + (m : Int) < 96 then 0 else 4800)) = iI (e.1 23 (96 * q + (m : Int)) 0) := by
      rw [show iI q * (4800 : Int32) + iI (e.1 23 (96 * q + (m : Int)) 0 - (if 96 * q + (m : Int) < 96 then 0 else 4800)) = iI (q * 4800 + (e.1 23 (96 * q + (m : Int)) 0 - (if 96 * q + (m : Int) < 96 then 0 else 4800))) from adI (mlI (y := 4800) rfl rfl) rfl]
      refine congrArg iI ?_
      rcases hq with z | ⟨z, -⟩ <;> subst z
      · rw [if_pos (by omega)]; omega
      · rw [if_neg (by omega)]; omega
    have kc : (κ 0 q : Nat) = κ 0 q := rfl
    by_cases y2 : e.1 4 (96 * q + m) 0 = 2
    · rw [if_neg (by omega)] at hln
      have bnd : 0 ≤ e.1 23 (96 * q + m) 0 ∧ e.1 23 (96 * q + m) 0 < 9600 := by
        rw [hln] at hc4
        by_cases y : 96 * q + (m : Int) < 96
        · rw [if_pos y, if_pos y] at hc4; omega
        · rw [if_neg y, if_neg y] at hc4; omega
      refine ⟨(iI ((m + 1 : Nat) : Int), sI M1 106 (e.1 23 (96 * q + m) 0).toNat (iI (e.1 5 (96 * q + m) 0))), ⟨rfl, g2, fun a j z => (sI_ne z).trans (g3 a j z), fun id h1 h2 h3 => ?_, fun id h1 h2 => ?_⟩, fun go => ?_⟩
      · dsimp only
        by_cases y : id = 96 * q + m
        · rw [y]; exact sI_eq
        · have dj := E1.2.2.2.1.2 id _ h1 hid y
          have h0 := E1.2.2.2.1.1 id h1
          have hl1 : zlen e id = if e.1 4 id 0 = 3 then e.1 5 id 0 else 1 := rfl
          rw [if_neg (by omega)] at hl1
          have h0' : 0 ≤ e.1 23 id 0 := by
            by_cases y : id < 96
            · rw [if_pos y] at h0; omega
            · rw [if_neg y] at h0; omega
          exact (sI_nej (by omega)).trans (g4 id h1 (by omega) h3)
      · dsimp only
        have y : id ≠ 96 * q + m := fun z => h2 (by omega)
        have dj := E1.2.2.2.1.2 id _ h1 hid y
        have h0 := E1.2.2.2.1.1 id h1
        obtain ⟨-, -, -, -, -, -, -, u1, u2, u3, -⟩ := E1.2.1.2 _ h1
        have hl1 : 1 ≤ zlen e id := by
          unfold zlen
          by_cases w : e.1 4 id 0 = 3
          · rw [if_pos w]; exact (u3 w).1
          · rw [if_neg w]; decide
        have h0' : 0 ≤ e.1 23 id 0 := by
          by_cases y : id < 96
          · rw [if_pos y] at h0; omega
          · rw [if_neg y] at h0; omega
        exact (sI_nej (by omega)).trans (g5 id h1 fun z => h2 ⟨z.1, by omega⟩)
      · unfold c23_16
        dsimp only
        rw [if_neg (by intro z; cases z), gtP_q k0' p2', vC_e ls'.1.2.1, cI_e (ls_size (by omega) ls'), if_neg (leI_n rfl rfl (by omega)), gtP_q k0' p2', vC_e ls'.1.2.1, cP_e (ls_get (j := m) (by omega) ls' rfl (by omega)), cst_e a2, gtI_q a2 a4, jn_v, if_pos (eqI_p rfl (show (2 : Int32) = iI 2 from rfl) y2), gtP_q (ck_88 C1) (cf_88_16 C1), gtI_q a2 a8, gtI_q a2 a5, cell, asI_e (ck_106 C1) bnd.1 bnd.2 (by omega), jv_e]
        exact ltI_q (z := ((m + 1 : Nat) : Int)) (cvI (adI rfl li_1) (by omega))
    · refine ⟨(iI ((m + 1 : Nat) : Int), M1), ⟨rfl, g2, g3, fun id h1 h2 h3 => g4 id h1 ⟨h2.1, ?_⟩ h3, fun id h1 h2 => g5 id h1 fun z => h2 ⟨z.1, by omega⟩⟩, fun go => ?_⟩
      · have : id ≠ 96 * q + m := fun z => y2 (by rw [← z]; exact h3)
        omega
      · unfold c23_16
        dsimp only
        rw [if_neg (by intro z; cases z), gtP_q k0' p2', vC_e ls'.1.2.1, cI_e (ls_size (by omega) ls'), if_neg (leI_n rfl rfl (by omega)), gtP_q k0' p2', vC_e ls'.1.2.1, cP_e (ls_get (j := m) (by omega) ls' rfl (by omega)), cst_e a2, gtI_q a2 a4, jn_v, if_neg (eqI_n rfl (show (2 : Int32) = iI 2 from rfl) (by omega)), jv_e]
        exact ltI_q (z := ((m + 1 : Nat) : Int)) (cvI (adI rfl li_1) (by omega))
  · obtain ⟨i1, M1⟩ := s
    obtain ⟨g1, g2, g3, -⟩ := hI
    dsimp only at g1 g2 g3
    subst g1
    have E1 : zCA e κ M1 := hE.i106 g2 g3
    obtain ⟨-, p2', s2', ow', ls'⟩ := E1.2.1.1 q hq
    obtain ⟨-, k0', -, -⟩ := (E1.1.2.2 q hq).1
    unfold c23_16
    dsimp only
    rw [if_neg (by intro z; cases z), gtP_q k0' p2', vC_e ls'.1.2.1, cI_e (ls_size (by omega) ls'), if_pos (leI_p rfl rfl (by omega))]
theorem zc23 (hd : 5 ≤ d) (hC : CT M) (hE : zCA e κ M) (h91 : e.1 22 0 0 ≠ 1 → M.2.2.1 91 1 = none) : ∃ M', runX d 23 [va_rf (some 88)] M = some (.null, M') ∧ M'.2 = M.2 ∧ (∀ a j, a ≠ 106 → M'.1 a j = M.1 a j) ∧ ∀ id, zId e id → e.1 4 id 0 = 2 → M'.1 106 (e.1 23 id 0).toNat = iI (e.1 5 id 0) := by
  obtain ⟨d, rfl⟩ : ∃ e, d = e + 1 := ⟨d - 1, by omega⟩
  have k91 := ck_91 hC
  have p0 := (hE.1.2.2 0 (Or.inl rfl)).1.1
  obtain ⟨Ma, m1, m2, m3, m4, m5⟩ := zc23_16 (d := d) (M := M) (q := 0) (z := (0 : Int32)) (K := jv fun s5 => lt ((0 : Int32) + (1 : Int32)) fun (x6 : Int32) => lp (c23_2 (runX d) (some 88) (jv fun s1 => some (.null, s1))) 4294967295 (x6, s5)) (by omega) hC hE (Or.inl rfl) li_0
  have Ea : zCA e κ Ma := hE.i106 m2 m3
  have Ca : CT Ma := ⟨fun q z => by rw [congrArg (fun z => z.2.2) m2]; exact hC.1 q z, fun q z => by rw [congrArg (fun z => z.2.1) m2]; exact hC.2 q z⟩
  have go0 : runX (d + 1) 23 [va_rf (some 88)] M = lp (c23_2 (runX d) (some 88) (jv fun s1 => some (.null, s1))) 4294967295 ((1 : Int32), Ma) := by
    rw [r23]; unfold b23; rw [aR_e, aZ_e]; unfold c23
    rw [jn_v, show (4294967296 : Nat) = 4294967295 + 1 from rfl, lp_e]
    generalize hK : lp (c23_2 (runX d) (some 88) (jv fun s1 => some (.null, s1))) 4294967295 = K at m1 ⊢
    unfold c23_2
    dsimp only
    rw [if_neg (by decide), gtP_q (ck_88 hC) (cf_88_8 hC), alP_q k91 li_0 (by decide) p0, jn_v, m1, jv_e]
    exact ltI_q (z := 1) (adI li_0 li_1)
  have go2 : ∀ N Mx, lp (c23_2 (runX d) (some 88) (jv fun s1 => some (.null, s1))) (N + 1) ((2 : Int32), Mx) = some (.null, Mx) := fun N Mx => by
    rw [lp_e]
    unfold c23_2
    dsimp only
    rw [if_pos (by decide), jv_e]
  rw [go0]
  by_cases hf : e.1 22 0 0 = 1
  · have hq : zSd e 1 := Or.inr ⟨rfl, hf⟩
    have p1 := (Ea.1.2.2 1 hq).1.1
    obtain ⟨Mb, n1, n2, n3, n4, n5⟩ := zc23_16 (d := d) (M := Ma) (q := 1) (z := (1 : Int32)) (K := jv fun s5 => lt ((1 : Int32) + (1 : Int32)) fun (x6 : Int32) => lp (c23_2 (runX d) (some 88) (jv fun s1 => some (.null, s1))) 4294967294 (x6, s5)) (by omega) Ca Ea hq li_1
    refine ⟨Mb, ?_, n2.trans m2, fun a j z => (n3 a j z).trans (m3 a j z), fun id h1 h2 => ?_⟩
    · rw [show (4294967295 : Nat) = 4294967294 + 1 from rfl, lp_e]
      generalize hK : lp (c23_2 (runX d) (some 88) (jv fun s1 => some (.null, s1))) 4294967294 = K at n1 ⊢
      unfold c23_2
      dsimp only
      rw [if_neg (by decide), gtP_q (ck_88 Ca) (cf_88_8 Ca), alP_q (ck_91 Ca) li_1 (by decide) p1, jn_v, n1, jv_e, show (1 : Int32) + 1 = 2 from rfl, lt_e, ← hK]
      exact go2 _ _
    · by_cases y : 96 * (1 : Int) ≤ id ∧ id < 96 * 1 + 96
      · exact n4 id h1 y h2
      · have hlt : 0 ≤ id ∧ id < 96 := by
          have b0 := (hE.2.1.1 0 (Or.inl rfl)).1
          have b1 := (hE.2.1.1 1 hq).1
          rcases h1 with h1 | h1 <;> omega
        exact (n5 id h1 y).trans (m4 id h1 (by omega) h2)
  · have np : Ma.2.2.1 91 1 = none := by rw [congrArg (fun z => z.2.1) m2]; exact h91 hf
    refine ⟨Ma, ?_, m2, m3, fun id h1 h2 => ?_⟩
    · rw [show (4294967295 : Nat) = 4294967294 + 1 from rfl, lp_e]
      generalize hK : lp (c23_2 (runX d) (some 88) (jv fun s1 => some (.null, s1))) 4294967294 = K
      unfold c23_2
      dsimp only
      rw [if_neg (by decide), gtP_q (ck_88 Ca) (cf_88_8 Ca), alP_q (ck_91 Ca) li_1 (by decide) np, jn_v]
      have e : ∀ (J : Mem → XA) N, lp (c23_16 (runX d) (some 88) J ((1 : Int32), Ma) none) (N + 1) ((0 : Int32), Ma) = J Ma := fun J N => by
        rw [lp_e]; unfold c23_16; dsimp only; rw [if_pos rfl]
      rw [show (4294967296 : Nat) = 4294967295 + 1 from rfl, e, jv_e, show (1 : Int32) + 1 = 2 from rfl, lt_e, ← hK]
      exact go2 _ _
    · have hlt : 0 ≤ id ∧ id < 96 := by
        have b0 := (hE.2.1.1 0 (Or.inl rfl)).1
        have e1 := hE.1.1
        rcases h1 with h1 | h1
        · omega
        · rcases e1 with z | ⟨z, z2, z3⟩ <;> omega
      exact m4 id h1 (by omega) h2
end S9c1
