/-! the first object's machine: which member -/
section S99n
variable {d : Nat} {e s s' u : ZS} {κ : ZK} {M M' M1 M2 : Mem} {a b j N x y T : Nat} {v v1 v2 v3 w : Int32} {c t k i n m p o q id fl ar st key par r B h D : Int} {Y : Nat → Int → Int} {DT : Option Nat}
theorem zc42 (hd : 8 ≤ d) (h : zCM e κ s M) (hE : zCE e κ M) (hw : ∀ k, s.1 8 k 0 = 0 ∨ s.1 8 k 0 = 1 ∨ s.1 8 k 0 = 2) (hm : s.1 1 0 0 = 0) (hl : zLy s) (hin : zIn e (zpc s)) (ho : o = zop e (zpc s) ∧ 3 ≤ o ∧ o ≤ 7) (hu : 0 ≤ e.1 2 (zpc s) 0 → zUs e s o (e.1 2 (zpc s) 0)) (hb : ∀ D, 0 ≤ D → D < 8 → 0 ≤ s.1 17 D 0 ∧ s.1 17 D 0 ≤ 100000) (h27 : zop e (zpc s) ≠ 27) (hs : zpc s + 1 < 1000 ↔ zpc s < 1000) (hv : v1 = iI o) (hv2 : v2 = iI (e.1 1 (zpc s) 0)) (hw' : zWT e (zuse e s o (e.1 2 (zpc s) 0) (e.1 3 (e.1 2 (zpc s) 0) 0))) : ∃ M', runX d 42 [va_rf (some 88), .int v1, .int v2, va_rf (some (94 + (zf s).toNat))] M = some (.null, M') ∧ zOb e κ (zuse e s o (e.1 2 (zpc s) 0) (e.1 3 (e.1 2 (zpc s) 0) 0)) M M' := by
  obtain ⟨d, rfl⟩ : ∃ e, d = e + 1 := ⟨d - 1, by omega⟩
  subst hv; subst hv2
  have C := h.1
  have kk := ck_88 C
  have n12 := hl.1
  have zfe : zf s = s.1 0 0 0 - 1 := rfl
  have kf : M.2.2.2[94 + (zf s).toNat]? = some (100, 4) := ck94n C (by omega)
  have f2 : M.1 (94 + (zf s).toNat) 2 = iI (if zpc s < 1000 then 0 else 1) := (h.2.2.1 (zf s) (by omega) (by omega)).1.2.2.1
  obtain ⟨n, hn⟩ : ∃ n, n = e.1 1 (zpc s) 0 := ⟨_, rfl⟩
  obtain ⟨id, hid⟩ : ∃ id, id = e.1 2 (zpc s) 0 := ⟨_, rfl⟩
  obtain ⟨E1, E2, E3⟩ := hE.2.2.2.2.2.1
  obtain ⟨e3, e4⟩ := E3 (zpc s) hin (by omega) (by omega)
  rw [← hn, ← hid] at e3 e4
  rw [← hid] at hu hw' ⊢
  rw [← hn]
  have b24 := (hE.2.1.1 0 (Or.inl rfl)).1
  rw [r42]; unfold b42; rw [aR_e, aI_e, aI_e, aR_e, aZ_e]; unfold c42
  rw [alI_q (n := 4) (z := 2) (c := 2) kf li_2 (by omega) f2, gtP_q kk E1, jn_v, jn_v]
  have go : ∀ q m, zSd e q → id = 96 * q + m → 0 ≤ m → m < e.1 24 q 0 → zId e id → ∃ M', (fc42 d (iI o) (some (94 + (zf s).toNat)) M (iI q, iI m)) = some (.null, M') ∧ zOb e κ (zuse e s o id (e.1 3 id 0)) M M' := fun q m z1 z2 z3 z4 z5 =>
    fc42_e (by omega) h hE hw hm hl z5 z1 z2 ⟨z3, z4⟩ (hu (by unfold zId at z5; omega)) hb h27 hs hw'
  by_cases cp : zpc s < 1000
  · obtain ⟨e5, e6, e7⟩ := e3 cp
    rw [if_pos cp]
    have zn : zId e n := Or.inl e5
    have h22 : e.1 22 0 0 = 0 ∨ e.1 22 0 0 = 1 := by
      rcases hE.1.1 with z | z
      · exact Or.inr z
      · exact Or.inl z.1
    rcases h22 with h22 | h22
    · have e8 := e6 h22
      obtain ⟨M', z1, z2⟩ := go 0 n (Or.inl rfl) (by omega) e5.1 e5.2 (by rw [e8]; exact zn)
      refine ⟨M', ?_, z2⟩
      rw [if_neg (show ¬ e.1 22 0 0 = 1 by omega), if_pos (show (none : Option Nat) = none from rfl), jv_e, jv_e, jn_v]
      dsimp only
      rw [if_pos (show (-2 : Int32) < 0 by decide), if_pos (show (-2 : Int32) = -2 from rfl)]
      exact z1
    · have e8 := e7 h22
      obtain ⟨k1, k2, k3, k4, k5⟩ := E2 h22
      have lk := zc4 (d := d) (v := iI n) (by omega) ⟨E1, E2, E3⟩ h22 rfl ⟨e5.1, e5.2, b24.2⟩
      rw [if_pos h22]
      rw [if_pos h22] at E1
      have nn : ¬ some (κ 10 0) = none := fun z => nomatch z
      rw [if_neg nn, if_pos (show iI 0 = (0 : Int32) from li_0.symm), gtP_q kk E1, vC_e k1, cI_e lk, jv_e, jn_v]
      dsimp only
      obtain ⟨L, hL⟩ : ∃ L, L = e.1 28 n 0 := ⟨_, rfl⟩
      rw [← hL] at e8 ⊢
      rcases e8 with ⟨l1, l2⟩ | ⟨l1, l2, l3⟩ | ⟨l1, l2, l3⟩
      · obtain ⟨M', z1, z2⟩ := go 0 n (Or.inl rfl) (by omega) e5.1 e5.2 (by rw [l2]; exact zn)
        refine ⟨M', ?_, z2⟩
        rw [l1, if_pos (show iI (-2) < 0 by decide), if_pos (show iI (-2) = -2 from rfl)]
        exact z1
      · obtain ⟨M', z1, z2⟩ := go 1 L (Or.inr ⟨rfl, h22⟩) (by omega) l1 l2 (Or.inr ⟨by omega, by omega⟩)
        refine ⟨M', ?_, z2⟩
        have b241 := (hE.2.1.1 1 (Or.inr ⟨rfl, h22⟩)).1
        rw [if_neg (lsI_n rfl li_0 (by omega)), li_1]
        exact z1
      · have zu : zuse e s o id (e.1 3 id 0) = zerr s (iI (-id)) 3 := if_pos (by omega)
        rw [zu] at hw' ⊢
        obtain ⟨M', z1, z2⟩ := mC41 (d := d) (s := s) (M := M) (v1 := iI (-id)) (v2 := 1) (fl := 1) (m := 3) (by omega) h hE li_1 (Or.inl ⟨rfl, rfl⟩) hw' h27 (by omega)
        refine ⟨M', ?_, z2.ob⟩
        rw [if_pos (lsI_p rfl li_0 (by omega)), if_neg (show ¬ iI L = -2 from eqI_n (y := -2) rfl rfl (by omega)), vC_e kk, show -(iI L) = iI (-id) from cvI (ngI rfl) (by omega), cV_e z1]
  · obtain ⟨e5, e6⟩ := e4 (by omega)
    rw [if_neg cp]
    have s1 := hin.sd hE.1
    have z1 : zsd (zpc s) = 1 := if_neg cp
    rw [z1] at s1
    obtain ⟨M', z1, z2⟩ := go 1 n s1.1 (by omega) e5.1 e5.2 (Or.inr ⟨by omega, by omega⟩)
    refine ⟨M', ?_, z2⟩
    have tl : (jv (fun (_ : Unit) => (jv (fun (s3 : Int32 × Mem) => jn (fun (s4 : Int32 × Int32) => fc42 d (iI o) (some (94 + (zf s).toNat)) s3.2 s4) fun j66 => if s3.1 < 0 then (if s3.1 = ((-2 : Int32)) then (j66 (iI 1, iI n)) else (vC (4, 22) s3.2 (some 88) <| cV (runX d 41 [va_rf (some 88), .int (-s3.1), .int ((1 : Int32))] s3.2) fun M31 => some (.null, M31))) else (j66 ((1 : Int32), s3.1))) : Int32 × Mem → XA) ((-2 : Int32), M)) () : XA) = some (.null, M') := by
      rw [jv_e, jv_e, jn_v]
      dsimp only
      rw [if_pos (show (-2 : Int32) < 0 by decide), if_pos (show (-2 : Int32) = -2 from rfl)]
      exact z1
    by_cases y : e.1 22 0 0 = 1
    · rw [if_pos y, if_neg (show ¬ some (κ 10 0) = none from fun z => nomatch z), if_neg (show ¬ iI 1 = (0 : Int32) by decide)]
      exact tl
    · rw [if_neg y, if_pos rfl]
      exact tl
end S99n
