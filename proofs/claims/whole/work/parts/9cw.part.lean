/-! kill(), both -/
/-- kills of a parcel, both: wk 1 when told; sw: which row the class has them in; its suite -/
def klC (o : HO) (p wk : Int) (sw : Nat) (km : Int → Nat) (M : Mem) : Prop := (M.1 (gX (oP o p)) 16 = iI wk ∧ (wk = 0 ∨ wk = 1) ∧ sw < 2 ∧ M.2.2.1 (gX (oP o p)) 14 = some (gX (oP o p) + 16 + sw) ∧ M.2.2.1 (gX (oP o p)) 15 = some (gX (oP o p) + 17 - sw)) ∧ (wk = 1 → (∀ j, 0 ≤ j → j < gmc (oP o p) → M.1 (gX (oP o p) + 16 + sw) j.toNat = iI (km j : Int) ∧ km j < 2 ^ ((gR (oP o p)).1 3 0 0).toNat) ∧ (M.1 (gX (oP o p)) 17 = iI (-2) ∨ ∃ m, M.1 (gX (oP o p)) 17 = iI ((m : Nat) : Int) ∧ lsS km (gmc (oP o p)).toNat m))
def klR (o : HO) (p wk : Int) (km : Int → Nat) (M : Mem) : Prop := M.1 238 p.toNat = iI wk ∧ (wk = 1 → (∀ j, 0 ≤ j → j < gmc (oP o p) → M.1 239 (1000 * p + j).toNat = iI (km j : Int) ∧ km j < 2 ^ ((gR (oP o p)).1 3 0 0).toNat) ∧ ∃ m, M.1 241 p.toNat = iI ((m : Nat) : Int) ∧ lsR km (gmc (oP o p)).toNat ((gR (oP o p)).1 3 0 0).toNat m)
def Zki (o : HO) (p : Int) (a j : Nat) : Prop := ZM o 0 0 a j ∨ (151 ≤ a ∧ a ≤ 159) ∨ (a = gX (oP o p) ∧ 14 ≤ j ∧ j ≤ 17) ∨ a = gX (oP o p) + 16 ∨ a = gX (oP o p) + 17
def Zkq (p : Int) (a j : Nat) : Prop := ZR 0 0 a j ∨ a = 240 ∨ a = 242 ∨ a = 243 ∨ ((a = 238 ∨ a = 241) ∧ j = p.toNat) ∨ (a = 239 ∧ 1000 * p ≤ j ∧ (j : Int) < 1000 * p + 1000)
section S9cw
variable {d dl : Nat} {o : HO} {v : VR} {q : QN} {s s' u hs : ZS} {M M' M1 M2 Mc Mr Mc' Mr' : Mem} {LL a j x N bs n kd sw : Nat} {xs : Nat → Int32} {ow : Nat → Int} {c p i nc k t b sl al lu mc wk : Int} {w v1 v2 : Int32} {Z Z' : Nat → Nat → Prop} {Od : Int → Int} {T U : Nat → Int → Int32} {km : Int → Nat}
/-- a parcel is prepared, with so much WORK -/
theorem prep_KI (hdl : 1 ≤ dl) (hP : hoP o) (hp : 0 ≤ p ∧ p < oN o) (hC : HC LL xs o ow sl Mc) (hR : HR o sl Mr) (h78 : Mc.1 88 2 = Mr.1 160 78) (hdc : hdC hs Mc) (hdr : hdR hs Mr) (hD : ∀ D, 0 ≤ hs.1 17 D 0 ∧ hs.1 17 D 0 ≤ 34000) (hb : 0 ≤ b ∧ b ≤ 40000) (hw : w = iI b) (hMr : Mr' = sI (sI Mr 160 83 (iI b)) 160 84 0) : ∃ Ma, runX dl 19 [va_rf (some 88), va_rf (some (gX (oP o p))), .int w] Mc = some (.null, Ma) ∧ FG Zpr Mc Ma ∧ (Ma.2.2.2 = Mc.2.2.2 ∧ Ma.2.1 = Mc.2.1) ∧ KI LL xs o p sl 0 b hs Ma Mr' := by
  obtain ⟨hC1, hC2, hC3⟩ := hC
  obtain ⟨hR1, hR2, hR3, hR4, hR5, hR6, hR7⟩ := hR
  obtain ⟨Ma, a1, a2, a3, a4, a5, a6, a7, a8⟩ := zc19 (d := dl) (M := Mc) (x := gX (oP o p)) (v := w) hdl hC1.1.2.2 hC1.1.1 (hC1.ob p hp.1 hp.2)
  have r1 : ∀ a j, ¬ (a = 160 ∧ (j = 83 ∨ j = 84)) → Mr'.1 a j = Mr.1 a j := fun a j z => by
    rw [hMr]
    by_cases y : a = 160
    · exact (sI_nej (by omega)).trans (sI_nej (by omega))
    · exact (sI_ne y).trans (sI_ne y)
  have c1 : Ma.1 88 1 = iI sl := (nm hC1 a2 (by decide) (by unfold Zpr; omega)).trans hC3
  have c2 : Ma.1 88 2 = Mc.1 88 2 := nm hC1 a2 (by decide) (by unfold Zpr; omega)
  refine ⟨Ma, a1, a2, a4, ⟨hC1.fg hP a2 fun a j z => ZM_ho (k := 0) hP hp (Zpr_M z), ?_⟩, fun al => ⟨⟨a5.1, fun z => absurd z v1F, fun _ => a5.2.1⟩, ⟨(sI_nej (by decide)).trans c1, sI_eq, (sI_nej (by decide)).trans a8, a5.2.2.2⟩, ?_, fun z => absurd z v1F⟩, ⟨(r1 _ _ (by omega)).trans hR3, (r1 _ _ (by omega)).trans hR5, (r1 _ _ (by omega)).trans hR6, (r1 _ _ (by omega)).trans hR7⟩, c2.trans (h78.trans (r1 _ _ (by omega)).symm), ⟨a6.trans hw, ?_, ?_, hb⟩, hdc.fz fun a j z => nm hC1 a2 (by omega) (by unfold Zpr; omega), hdr.fz fun a j z => r1 a j (by omega), hD⟩
  · rw [hMr]
    exact (hR1.si (ZR_hr (p := 0) (k := 0) (Or.inl ⟨rfl, by decide⟩))).si (ZR_hr (p := 0) (k := 0) (Or.inl ⟨rfl, by decide⟩))
  · rw [if_neg v1F]; exact a5.2.2.1
  · rw [hMr]; exact (sI_nej (by decide)).trans sI_eq
  · rw [hMr]; exact sI_eq
/-- takeKills() -/
theorem zc56 (hd : 1 ≤ d) {ka kb : Nat} (hx : M.2.2.2[x]? = some (6, 18) ∧ M.2.2.1 x 14 = some ka ∧ M.2.2.1 x 15 = some kb) (hk : M.2.2.2[kb]? = some (100, n) ∧ n ≤ 1000 ∧ kb ≠ x) (hm : ∀ j : Int, 0 ≤ j → j < n → M.1 kb j.toNat = iI (km j : Int) ∧ km j < 65536) (hM' : M' = sI (sI (sP (sP M x 14 (some kb)) x 15 (some ka)) x 16 1) x 17 (-2)) : runX d 56 [va_rf (some x)] M = some (.int (iI (psum (fun j => if km j = 0 then 0 else 1) n)), M') := by
  obtain ⟨d, rfl⟩ : ∃ e, d = e + 1 := ⟨d - 1, by omega⟩
  have k1 : M'.2.2.2[x]? = some (6, 18) := by rw [hM']; exact hx.1
  have k2 : M'.2.2.1 x 14 = some kb := by rw [hM']; exact (sP_nej (by decide)).trans sP_eq
  have k3 : M'.2.2.2[kb]? = some (100, n) := by rw [hM']; exact hk.1
  rw [r56]; unfold b56; rw [aR_e, aZ_e]; unfold c56
  rw [gtP_q hx.1 hx.2.1, gtP_q hx.1 hx.2.2, ptP_e hx.1, ptP_e (M := sP M x 14 (some kb)) hx.1, ptZ_e (M := sP (sP M x 14 (some kb)) x 15 (some ka)) hx.1 (Or.inr rfl), ptI_e (M := sI (sP (sP M x 14 (some kb)) x 15 (some ka)) x 16 1) hx.1, ← hM', jn_v]
  refine lp_use (body := c56_33 (runX d) (some x) M' (jv fun s7 => some (.int s7, M'))) (R := fun s => some (.int s.1, M')) n (fun k s => s.1 = iI (psum (fun j => if km j = 0 then 0 else 1) k) ∧ s.2 = iI (k : Int)) ((0 : Int32), (0 : Int32)) 4294967296 (by omega) ⟨li_0, li_0⟩ (fun s' g1 g2 => ?_) (fun k s hk' hI => ?_) (fun s hI go => ?_)
  · rw [g2, g1.1]
  · obtain ⟨i1, i2⟩ := s
    obtain ⟨u1, u2⟩ := hI
    dsimp only at u1 u2
    subst u1; subst u2
    refine ⟨(iI (psum (fun j => if km j = 0 then 0 else 1) (k + 1)), iI ((k + 1 : Nat) : Int)), ⟨rfl, rfl⟩, fun go => ?_⟩
    obtain ⟨g1, g2⟩ := hm k (by omega) (by omega)
    have v : M'.1 kb (k : Int).toNat = iI (km k : Int) := by
      rw [hM']
      exact (sI_ne hk.2.2).trans ((sI_ne hk.2.2).trans g1)
    have e : psum (fun j => if km j = 0 then 0 else 1) (k + 1) = psum (fun j => if km j = 0 then 0 else 1) k + (if km (k : Int) = 0 then 0 else 1) := rfl
    unfold c56_33
    dsimp only
    rw [gtP_q k1 k2, aln_q' k3, if_neg (leI_n rfl rfl (by omega)), gtP_q k1 k2, alI_q k3 rfl (by omega) v, jn_v, e]
    by_cases y : km (k : Int) = 0
    · rw [if_pos ((bz g2).2 y), if_pos y, jv_e, Int.add_zero]
      exact ltI_q (z := ((k + 1 : Nat) : Int)) (cvI (adI rfl li_1) (by omega))
    · rw [if_neg (fun z => y ((bz g2).1 z)), if_neg y, ltI_q (adI rfl li_1), jv_e]
      exact ltI_q (z := ((k + 1 : Nat) : Int)) (cvI (adI rfl li_1) (by omega))
  · obtain ⟨i1, i2⟩ := s
    obtain ⟨u1, u2⟩ := hI
    dsimp only at u1 u2
    subst u2
    unfold c56_33
    dsimp only
    rw [gtP_q k1 k2, aln_q' k3, if_pos (leI_p rfl rfl (by omega)), jv_e]
/-- the reference takes what was found -/
theorem zr283_96 {J : Int32 × Mem → XA} (hR : RT M) (hp : 0 ≤ p ∧ p ≤ 7) (h : M.1 192 p.toNat = iI n) (hn : n ≤ 1000) (hm : ∀ j : Int, 0 ≤ j → j < n → M.1 240 j.toNat = iI (km j : Int) ∧ km j < 65536) (hv : v1 = iI p) : ∃ M', lp (c283_96 (runX d) (some 160) v1 J) 4294967296 ((0 : Int32), (0 : Int32), M) = J (iI (psum (fun j => if km j = 0 then 0 else 1) n), M') ∧ M'.2 = M.2 ∧ (∀ a j : Nat, ¬ (a = 239 ∧ 1000 * p ≤ j ∧ (j : Int) < 1000 * p + 1000) → M'.1 a j = M.1 a j) ∧ ∀ j : Int, 0 ≤ j → j < n → M'.1 239 (1000 * p + j).toNat = iI (km j : Int) := by
  subst hv
  refine lp_use (body := c283_96 (runX d) (some 160) (iI p) J) (R := fun s => J (s.1, s.2.2)) n (fun k s => s.1 = iI (psum (fun j => if km j = 0 then 0 else 1) k) ∧ s.2.1 = iI (k : Int) ∧ s.2.2.2 = M.2 ∧ (∀ a j : Nat, ¬ (a = 239 ∧ 1000 * p ≤ j ∧ (j : Int) < 1000 * p + 1000) → s.2.2.1 a j = M.1 a j) ∧ ∀ j : Int, 0 ≤ j → j < k → s.2.2.1 239 (1000 * p + j).toNat = iI (km j : Int)) ((0 : Int32), (0 : Int32), M) 4294967296 (by omega) ⟨li_0, li_0, rfl, fun _ _ _ => rfl, fun j a b => by omega⟩ (fun s' g1 g2 => ?_) (fun k s hk' hI => ?_) (fun s hI go => ?_)
  · exact ⟨s'.2.2, by rw [g2, g1.1], g1.2.2⟩
  · obtain ⟨i1, i2, Mk⟩ := s
    obtain ⟨u1, u2, u3, u4, u5⟩ := hI
    dsimp only at u1 u2 u3 u4 u5
    subst u1; subst u2
    have Rk : RT Mk := hR.keep u3
    have kk := rk_160 Rk
    obtain ⟨g1, g2⟩ := hm k (by omega) (by omega)
    have v : Mk.1 240 (k : Int).toNat = iI (km k : Int) := (u4 _ _ (by omega)).trans g1
    obtain ⟨Mn, hMn⟩ : ∃ X, X = sI Mk 239 (1000 * p + k).toNat (iI (km k : Int)) := ⟨_, rfl⟩
    refine ⟨(iI (psum (fun j => if km j = 0 then 0 else 1) (k + 1)), iI ((k + 1 : Nat) : Int), Mn), ⟨rfl, rfl, by rw [hMn]; exact u3, fun a j z => ?_, fun j a b => ?_⟩, fun go => ?_⟩
    · dsimp only
      rw [hMn]
      refine Eq.trans ?_ (u4 a j z)
      by_cases y : a = 239
      · rw [y]; exact sI_nej fun t => z ⟨y, by omega, by omega⟩
      · exact sI_ne y
    · dsimp only
      rw [hMn]
      by_cases y : j = k
      · rw [y]; exact sI_eq
      · exact (sI_nej (by omega)).trans (u5 j a (by omega))
    · have e : psum (fun j => if km j = 0 then 0 else 1) (k + 1) = psum (fun j => if km j = 0 then 0 else 1) k + (if km (k : Int) = 0 then 0 else 1) := rfl
      have vn : Mn.1 240 (k : Int).toNat = iI (km k : Int) := by rw [hMn]; exact (sI_ne (by decide)).trans v
      have Rn : RT Mn := Rk.keep (by rw [hMn]; rfl)
      unfold c283_96
      dsimp only
      rw [gtP_q kk (rf_33 Rk), alI_q (rk_192 Rk) rfl (by omega) ((u4 _ _ (by omega)).trans h), if_neg (leI_n rfl rfl (by omega)), gtP_q kk (rf_124 Rk), gtP_q kk (rf_125 Rk), alI_q (rk_240 Rk) rfl (by omega) v, show (1000 : Int32) * iI p + iI (k : Int) = iI (1000 * p + k) from adI (mlI li_1000 rfl) rfl, asI_e (rk_239 Rk) (by omega) (by omega) (by omega), ← hMn, gtP_q (rk_160 Rn) (rf_125 Rn), alI_q (rk_240 Rn) rfl (by omega) vn, jn_v, e]
      by_cases y : km (k : Int) = 0
      · rw [if_pos ((bz g2).2 y), if_pos y, jv_e, ltI_q (adI rfl li_0)]
        exact ltI_q (z := ((k + 1 : Nat) : Int)) (cvI (adI rfl li_1) (by omega))
      · rw [if_neg (fun z => y ((bz g2).1 z)), if_neg y, jv_e, ltI_q (adI rfl li_1)]
        exact ltI_q (z := ((k + 1 : Nat) : Int)) (cvI (adI rfl li_1) (by omega))
  · obtain ⟨i1, i2, Mk⟩ := s
    obtain ⟨u1, u2, u3, u4, u5⟩ := hI
    dsimp only at u1 u2 u3 u4
    subst u2
    have Rk : RT Mk := hR.keep u3
    unfold c283_96
    dsimp only
    rw [gtP_q (rk_160 Rk) (rf_33 Rk), alI_q (rk_192 Rk) rfl (by omega) ((u4 _ _ (by omega)).trans h), if_pos (leI_p rfl rfl (by omega))]
end S9cw
