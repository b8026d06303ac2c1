/-! least(), both -/
section S9ds
variable {d dl : Nat} {o : HO} {M Mc Mr : Mem} {LL sw x ka n : Nat} {xs : Nat → Int32} {ow : Nat → Int} {p z sl wk : Int} {v1 v2 : Int32} {km : Int → Nat}
theorem zc57a (hd : 3 ≤ d) (h : kiC x ka n km M) (h17 : M.1 x 17 = iI (-2) ∨ ∃ m, M.1 x 17 = iI ((m : Nat) : Int) ∧ lsS km n m) : ∃ (m : Nat) (M' : Mem), lsS km n m ∧ runX d 57 [va_rf (some x)] M = some (.int (iI (m : Int)), M') ∧ M' = sI M x 17 (iI (m : Int)) := by
  rcases h17 with h17 | ⟨m, h17, h2⟩
  · obtain ⟨m, y1, y2⟩ := zc57 hd h h17
    exact ⟨m, _, y1, y2, rfl⟩
  · obtain ⟨d, rfl⟩ : ∃ e, d = e + 1 := ⟨d - 1, by omega⟩
    have mb := h2.1
    refine ⟨m, M, h2, ?_, (sI_id h17).symm⟩
    rw [r57]; unfold b57; rw [aR_e, aZ_e]; unfold c57
    rw [gtI_q h.1.1 h17, if_neg (show ¬ iI (m : Int) = (-2 : Int32) from eqI_n (y := -2) rfl rfl (by omega)), gtI_q h.1.1 h17]
theorem least_pair (hdl : 8 ≤ dl) (hd : 6 ≤ d) (hP : hoP o) (hC : HC LL xs o ow sl Mc) (hR : HR o sl Mr) (hk : 0 ≤ p → p < oN o → klC o p wk sw km Mc ∧ klR o p wk km Mr) (hv : v1 = iI p) (hv2 : v2 = iI z) (bp : -2147483648 ≤ p ∧ p ≤ 2147483647) (bz : -2147483648 ≤ z ∧ z ≤ 2147483647) : ∃ Mc' r, runX dl 152 [va_rf (some 64), .int v1, .int v2] Mc = some (.int r, Mc') ∧ runX d 287 [va_rf (some 160), .int v1, .int v2] Mr = some (.int r, Mr) ∧ (Mc' = Mc ∨ ((0 ≤ p ∧ p < oN o) ∧ ∃ m : Nat, Mc' = sI Mc (gX (oP o p)) 17 (iI (m : Int)) ∧ klC o p wk sw km Mc')) := by
  obtain ⟨dl, rfl⟩ : ∃ e, dl = e + 1 := ⟨dl - 1, by omega⟩
  obtain ⟨d, rfl⟩ : ∃ e, d = e + 1 := ⟨d - 1, by omega⟩
  subst hv; subst hv2
  have cM := hC.1.1.1
  have rM := hR.1.1.1
  have kr := rk_160 rM
  have p8 := hP.1
  have n10 : ¬ iI 1 = (0 : Int32) := by decide
  have e167 := zc167 (d := dl) (M := Mc) (v := iI p) (p := p) (by omega) cM hC.2.1 hC.1.ob rfl bp
  have e255 := zr255 (d := d) (M := Mr) (v := iI p) (p := p) (by omega) rM hR.2.1 (by omega) rfl bp
  by_cases hp : 0 ≤ p ∧ p < oN o
  · rw [if_pos hp] at e167 e255
    obtain ⟨⟨⟨k1, k2, k3, k4, k5⟩, k6⟩, k7, k8⟩ := hk hp.1 hp.2
    have lo := pk_lo hP hp
    have n2 := (hP.2.2.1 p hp.1 hp.2).1.n2
    have mb := mcn_b (gG (oP o p)) (gE (oP o p)).toNat
    have emc : gmc (oP o p) = mcn (gG (oP o p)) (gE (oP o p)).toNat := rfl
    obtain ⟨⟨⟨o1, -⟩, -⟩, -, ⟨-, c1, c2⟩, -⟩ := hC.1.2.1 p hp.1 hp.2
    by_cases hz : -1 ≤ z
    · rcases k2 with w | w
      · subst w
        refine ⟨Mc, -2, ?_, ?_, Or.inl rfl⟩
        · rw [r152]; unfold b152; rw [aR_e, aI_e, aI_e, aZ_e]; unfold c152
          rw [vC_e (ck_64 cM), cP_e e167, jn_v, if_neg (show ¬ some (gX (oP o p)) = none by simp), if_pos (show (-1 : Int32) ≤ iI z from leI_p (x := -1) rfl rfl (by omega)), gtI_q o1 k1, if_pos (show iI 0 = 0 from rfl)]
        · rw [r287]; unfold b287; rw [aR_e, aI_e, aI_e, aZ_e]; unfold c287
          rw [vC_e kr, cI_e e255, jn_v, if_neg n10, if_pos (show (-1 : Int32) ≤ iI z from leI_p (x := -1) rfl rfl (by omega)), gtP_q kr (rf_123 rM), alX_q (n := 8) (z := p) (rk_238 rM) rfl (by omega) k7, if_pos (show iI 0 = 0 from rfl)]
      · subst w
        obtain ⟨q1, q2⟩ := k6 rfl
        obtain ⟨q3, mr, q4, q5⟩ := k8 rfl
        have pN : 2 ^ ((gR (oP o p)).1 3 0 0).toNat ≤ 2 ^ 16 := Nat.pow_le_pow_right (by decide) (show ((gR (oP o p)).1 3 0 0).toNat ≤ 16 by omega)
        have ck : Mc.2.2.2[gX (oP o p) + 16 + sw]? = some (100, (gmc (oP o p)).toNat) := by
          have : sw = 0 ∨ sw = 1 := by omega
          rcases this with z | z
          · rw [z]; exact c1
          · rw [z]; exact c2
        obtain ⟨m, M', y1, y2, y3⟩ := zc57a (d := dl) (x := gX (oP o p)) (ka := gX (oP o p) + 16 + sw) (n := (gmc (oP o p)).toNat) (km := km) (by omega) ⟨⟨o1, k4, ck, by omega⟩, fun k a b => ⟨(q1 k a (by omega)).1, by have := (q1 k a (by omega)).2; omega⟩⟩ q2
        have em := ls_one (N := ((gR (oP o p)).1 3 0 0).toNat) (by omega) (fun k a b => (q1 k a (by omega)).2) y1 q5
        subst em
        have kl : klC o p 1 sw km M' := by
          rw [y3]
          exact ⟨⟨(sI_nej (by decide)).trans k1, Or.inr rfl, k3, k4, k5⟩, fun _ => ⟨fun j a b => ⟨(sI_ne (by omega)).trans (q1 j a b).1, (q1 j a b).2⟩, Or.inr ⟨m, sI_eq, y1⟩⟩⟩
        have x315c := zr315 (d := dl) (M := M') (w := iI (m : Int)) (by omega)
        have x315r := zr315 (d := d) (M := Mr) (w := iI (m : Int)) (by omega)
        have cpre : ∀ r : Int32, (z = -1 → r = bcx (iI (m : Int))) → (0 ≤ z → runX dl 177 [.int (iI (m : Int)), .int (iI z)] M' = some (.int r, M')) → runX (dl + 1) 152 [va_rf (some 64), .int (iI p), .int (iI z)] Mc = some (.int r, M') := fun r h1 h2 => by
          rw [r152]; unfold b152; rw [aR_e, aI_e, aI_e, aZ_e]; unfold c152
          rw [vC_e (ck_64 cM), cP_e e167, jn_v, if_neg (show ¬ some (gX (oP o p)) = none by simp), if_pos (show (-1 : Int32) ≤ iI z from leI_p (x := -1) rfl rfl (by omega)), gtI_q o1 k1, if_neg n10, vC_e o1, cI_e y2, jn_v]
          by_cases w : z = -1
          · rw [if_pos (show iI z = (-1 : Int32) by rw [w]; rfl), cI_e x315c, jv_e, h1 w]
          · rw [if_neg (show ¬ iI z = (-1 : Int32) from eqI_n (y := -1) rfl rfl (by omega)), cI_e (h2 (by omega)), jv_e]
        have rpre : ∀ r : Int32, (z = -1 → r = bcx (iI (m : Int))) → (0 ≤ z → lp (c287_49 (runX d) (some 160) (iI p) Mr (jv fun (s10 : Int32) => some (.int s10, Mr)) (jv fun (s11 : Unit) => some (.int ((-1 : Int32)), Mr))) 4294967296 (iI z, (0 : Int32)) = some (.int r, Mr)) → runX (d + 1) 287 [va_rf (some 160), .int (iI p), .int (iI z)] Mr = some (.int r, Mr) := fun r h1 h2 => by
          rw [r287]; unfold b287; rw [aR_e, aI_e, aI_e, aZ_e]; unfold c287
          rw [vC_e kr, cI_e e255, jn_v, if_neg n10, if_pos (show (-1 : Int32) ≤ iI z from leI_p (x := -1) rfl rfl (by omega)), gtP_q kr (rf_123 rM), alX_q (n := 8) (z := p) (rk_238 rM) rfl (by omega) k7, if_neg n10, gtP_q kr (rf_126 rM), alI_q (n := 8) (z := p) (rk_241 rM) rfl (by omega) q4, cI_e x315r]
          by_cases w : z = -1
          · rw [if_neg (show ¬ 0 ≤ iI z from leI_n (x := 0) li_0 rfl (by omega)), h1 w]
          · rw [if_pos (show 0 ≤ iI z from leI_p (x := 0) li_0 rfl (by omega)), jn_v, jn_v, h2 (by omega)]
        by_cases w : z = -1
        · exact ⟨M', bcx (iI (m : Int)), cpre _ (fun _ => rfl) (fun y => by omega), rpre _ (fun _ => rfl) (fun y => by omega), Or.inr ⟨hp, m, y3, kl⟩⟩
        · obtain ⟨dl, rfl⟩ : ∃ e, dl = e + 1 := ⟨dl - 1, by omega⟩
          have lc := ls_loop (d := dl) (M := Mr) (w := iI (m : Int)) (p := p) (z := z) (J24 := jv fun (s1 : Int32) => some (.int s1, M')) (J35 := jv fun (s2 : Unit) => some (.int ((-1 : Int32)), M')) (j76 := jv fun (s10 : Int32) => some (.int s10, Mr)) (j88 := jv fun (s11 : Unit) => some (.int ((-1 : Int32)), Mr)) rM (by omega) q4 (by omega) 16 0 0 4294967296 (by omega) (by omega) (by omega) (by omega) (by omega) (by omega)
          rw [Int.sub_zero, ← li_0] at lc
          rcases lc with ⟨r, a1, a2⟩ | ⟨a1, a2⟩
          · refine ⟨M', r, cpre r (fun y => absurd y w) (fun _ => ?_), rpre r (fun y => absurd y w) (fun _ => ?_), Or.inr ⟨hp, m, y3, kl⟩⟩
            · rw [r177]; unfold b177; rw [aI_e, aI_e, aZ_e]; unfold c177
              rw [jn_v, jn_v]
              exact a1
            · exact a2
          · refine ⟨M', -1, cpre _ (fun y => absurd y w) (fun _ => ?_), rpre _ (fun y => absurd y w) (fun _ => ?_), Or.inr ⟨hp, m, y3, kl⟩⟩
            · rw [r177]; unfold b177; rw [aI_e, aI_e, aZ_e]; unfold c177
              rw [jn_v, jn_v]
              exact a1
            · exact a2
    · refine ⟨Mc, -1, ?_, ?_, Or.inl rfl⟩
      · rw [r152]; unfold b152; rw [aR_e, aI_e, aI_e, aZ_e]; unfold c152
        rw [vC_e (ck_64 cM), cP_e e167, jn_v, if_neg (show ¬ some (gX (oP o p)) = none by simp), if_neg (show ¬ (-1 : Int32) ≤ iI z from leI_n (x := -1) rfl rfl (by omega)), jv_e]
      · rw [r287]; unfold b287; rw [aR_e, aI_e, aI_e, aZ_e]; unfold c287
        rw [vC_e kr, cI_e e255, jn_v, if_neg n10, if_neg (show ¬ (-1 : Int32) ≤ iI z from leI_n (x := -1) rfl rfl (by omega)), jv_e]
  · rw [if_neg hp] at e167 e255
    refine ⟨Mc, -1, ?_, ?_, Or.inl rfl⟩
    · rw [r152]; unfold b152; rw [aR_e, aI_e, aI_e, aZ_e]; unfold c152
      rw [vC_e (ck_64 cM), cP_e e167, jn_v, if_pos rfl, jv_e]
    · rw [r287]; unfold b287; rw [aR_e, aI_e, aI_e, aZ_e]; unfold c287
      rw [vC_e kr, cI_e e255, jn_v, if_pos (show iI 0 = 0 from rfl), jv_e]
end S9ds
