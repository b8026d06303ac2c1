/-! killed(), both -/
section S9dq
variable {d dl : Nat} {o : HO} {Mc Mr : Mem} {LL sw : Nat} {xs : Nat → Int32} {ow : Nat → Int} {p m c sl wk : Int} {v1 v2 v3 : Int32} {km : Int → Nat}
theorem killed_pair (hdl : 8 ≤ dl) (hd : 6 ≤ d) (hP : hoP o) (hC : HC LL xs o ow sl Mc) (hR : HR o sl Mr) (hk : 0 ≤ p → p < oN o → klC o p wk sw km Mc ∧ klR o p wk km Mr) (hv : v1 = iI p) (hv2 : v2 = iI m) (hv3 : v3 = iI c) (bp : -2147483648 ≤ p ∧ p ≤ 2147483647) (bm : -2147483648 ≤ m ∧ m ≤ 2147483647) (bc : -2147483648 ≤ c ∧ c ≤ 2147483647) : ∃ r, runX dl 151 [va_rf (some 64), .int v1, .int v2, .int v3] Mc = some (.int r, Mc) ∧ runX d 286 [va_rf (some 160), .int v1, .int v2, .int v3] Mr = some (.int r, Mr) := by
  obtain ⟨dl, rfl⟩ : ∃ e, dl = e + 1 := ⟨dl - 1, by omega⟩
  obtain ⟨d, rfl⟩ : ∃ e, d = e + 1 := ⟨d - 1, by omega⟩
  subst hv; subst hv2; subst hv3
  have cM := hC.1.1.1
  have rM := hR.1.1.1
  have kr := rk_160 rM
  have p8 := hP.1
  have n10 : ¬ iI 1 = (0 : Int32) := by decide
  have lk1000 : (1000 : Int32) = iI 1000 := rfl
  have e167 := zc167 (d := dl) (M := Mc) (v := iI p) (p := p) (by omega) cM hC.2.1 hC.1.ob rfl bp
  have e256 := zr256 (d := d) (M := Mr) (v := iI p) (p := p) (w := iI c) (c := c) (n := oN o) (b := if 0 ≤ p ∧ p < oN o then (gR (oP o p)).1 3 0 0 else 0) (by omega) rM hR.2.1 (by omega) rfl bp rfl bc (fun a b => by
    rw [if_pos ⟨a, b⟩]
    have := pk_lo hP ⟨a, b⟩
    exact ⟨hoR.ncs hR.1 ⟨a, b⟩, by omega⟩)
  by_cases hpc : (0 ≤ p ∧ p < oN o) ∧ 0 ≤ c ∧ c < (gR (oP o p)).1 3 0 0
  · obtain ⟨hp, hc⟩ := hpc
    rw [if_pos hp] at e167 e256
    rw [if_pos ⟨hp, hc⟩] at e256
    have e169 := zc169 (d := dl) (v := iI c) (c := c) (by omega) hP hC.1 hp rfl bc
    rw [if_pos hc] at e169
    obtain ⟨⟨⟨k1, k2, k3, k4, k5⟩, k6⟩, k7, k8⟩ := hk hp.1 hp.2
    have lo := pk_lo hP hp
    have n2 := (hP.2.2.1 p hp.1 hp.2).1.n2
    have mb := mcn_b (gG (oP o p)) (gE (oP o p)).toNat
    have emc : gmc (oP o p) = mcn (gG (oP o p)) (gE (oP o p)).toNat := rfl
    obtain ⟨⟨⟨o1, -⟩, -, -, o9, -⟩, ⟨-, -, -, a5, -⟩, ⟨-, c1, c2⟩, -⟩ := hC.1.2.1 p hp.1 hp.2
    obtain ⟨-, ⟨-, r192⟩, -⟩ := hR.1.2.1 p hp.1 hp.2
    have ck : Mc.2.2.2[gX (oP o p) + 16 + sw]? = some (100, (gmc (oP o p)).toNat) := by
      have : sw = 0 ∨ sw = 1 := by omega
      rcases this with z | z
      · rw [z]; exact c1
      · rw [z]; exact c2
    have q2 := rr184 (d := d) (M := Mr) (v1 := iI m) (v2 := 0) (v3 := iI (gmc (oP o p) - 1)) (i := m) (b := 0) (c := gmc (oP o p) - 1) (by omega) rfl rfl rfl bm (by omega) (by omega)
    by_cases hm : 0 ≤ m ∧ m < gmc (oP o p)
    · rw [if_pos (by omega)] at q2
      refine ⟨if wk = 0 then -2 else ((iI (km m : Int)) >>> ((iI c) &&& 31)) &&& (1 : Int32), ?_, ?_⟩
      · rw [r151]; unfold b151; rw [aR_e, aI_e, aI_e, aI_e, aZ_e]; unfold c151
        rw [vC_e (ck_64 cM), cP_e e167, cP_e e169, jn_v, if_neg (show ¬ some (hEC (gH (oP o p)) 3 c) = none by simp), if_neg (show ¬ iI m < 0 from lsI_n (y := 0) rfl li_0 (by omega)), gtP_q o1 o9, aln_q' a5.1, if_pos (lsI_p rfl rfl (by omega)), gtI_q o1 k1, jn_v]
        rcases k2 with z | z
        · rw [z, if_pos (show iI 0 = 0 from rfl), jv_e, if_pos rfl]
        · rw [if_neg (show ¬ iI wk = 0 by rw [z]; decide), gtP_q o1 k4, alI_q (z := m) ck rfl (by omega) ((k6 z).1 m hm.1 hm.2).1, jv_e, if_neg (by omega)]
      · rw [r286]; unfold b286; rw [aR_e, aI_e, aI_e, aI_e, aZ_e]; unfold c286
        rw [vC_e kr, cI_e e256, jn_v, if_neg n10, gtP_q kr (rf_33 rM), alI_q (n := 8) (z := p) (rk_192 rM) rfl (by omega) r192, show iI (gmc (oP o p)) - (1 : Int32) = iI (gmc (oP o p) - 1) from sbI rfl li_1, cI_e q2, if_neg n10, gtP_q kr (rf_123 rM), alX_q (n := 8) (z := p) (rk_238 rM) rfl (by omega) k7, jn_v]
        rcases k2 with z | z
        · rw [z, if_pos (show iI 0 = 0 from rfl), jv_e, if_pos rfl]
        · rw [if_neg (show ¬ iI wk = 0 by rw [z]; decide), gtP_q kr (rf_124 rM), alI_q (n := 8000) (z := 1000 * p + m) (rk_239 rM) (adI (mlI lk1000 rfl) rfl) (by omega) ((k8 z).1 m hm.1 hm.2).1, jv_e, if_neg (by omega)]
    · rw [if_neg (by omega)] at q2
      refine ⟨-1, ?_, ?_⟩
      · rw [r151]; unfold b151; rw [aR_e, aI_e, aI_e, aI_e, aZ_e]; unfold c151
        rw [vC_e (ck_64 cM), cP_e e167, cP_e e169, jn_v, if_neg (show ¬ some (hEC (gH (oP o p)) 3 c) = none by simp)]
        by_cases y : m < 0
        · rw [if_pos (show iI m < 0 from lsI_p (y := 0) rfl li_0 (by omega)), jv_e]
        · rw [if_neg (show ¬ iI m < 0 from lsI_n (y := 0) rfl li_0 (by omega)), gtP_q o1 o9, aln_q' a5.1, if_neg (lsI_n rfl rfl (by omega)), jv_e]
      · rw [r286]; unfold b286; rw [aR_e, aI_e, aI_e, aI_e, aZ_e]; unfold c286
        rw [vC_e kr, cI_e e256, jn_v, if_neg n10, gtP_q kr (rf_33 rM), alI_q (n := 8) (z := p) (rk_192 rM) rfl (by omega) r192, show iI (gmc (oP o p)) - (1 : Int32) = iI (gmc (oP o p) - 1) from sbI rfl li_1, cI_e q2, if_pos (show iI 0 = 0 from rfl), jv_e]
  · have e0 : ¬ ((0 ≤ p ∧ p < oN o) ∧ 0 ≤ c ∧ c < (if 0 ≤ p ∧ p < oN o then (gR (oP o p)).1 3 0 0 else 0)) := fun z => by
      rw [if_pos z.1] at z
      exact hpc z
    rw [if_neg e0] at e256
    refine ⟨-1, ?_, ?_⟩
    · rw [r151]; unfold b151; rw [aR_e, aI_e, aI_e, aI_e, aZ_e]; unfold c151
      rw [vC_e (ck_64 cM), cP_e e167]
      by_cases hp : 0 ≤ p ∧ p < oN o
      · have e169 := zc169 (d := dl) (v := iI c) (c := c) (by omega) hP hC.1 hp rfl bc
        rw [if_neg (fun z => hpc ⟨hp, z⟩)] at e169
        rw [if_pos hp, cP_e e169, jn_v, if_pos rfl, jv_e]
      · rw [if_neg hp, cP_e (zc169n (by omega)), jn_v, if_pos rfl, jv_e]
    · rw [r286]; unfold b286; rw [aR_e, aI_e, aI_e, aI_e, aZ_e]; unfold c286
      rw [vC_e kr, cI_e e256, jn_v, if_pos (show iI 0 = 0 from rfl), jv_e]
end S9dq
