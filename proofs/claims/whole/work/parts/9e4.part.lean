/-! histories: the reference looks for a row -/
/-- HISTORY H -/
def hyR (h : HY) (H : Int) (M : Mem) : Prop := RT M ∧ (0 ≤ H ∧ H ≤ 7) ∧ (M.1 246 H.toNat = iI (hyK h) ∧ M.1 247 H.toNat = iI (hyN h)) ∧ ∀ k : Int, 0 ≤ k → k < hyN h → M.1 248 (8 * H + k).toNat = iI (hyW h k) ∧ M.1 249 (8 * H + k).toNat = hyV h k ∧ M.1 250 (8 * H + k).toNat = hyA h k ∧ M.1 251 (8 * H + k).toNat = iI (hyF h k) ∧ M.1 252 (8 * H + k).toNat = iI (hyT h k)
def hyRZ (a : Nat) (_ : Nat) : Prop := a = 253 ∨ a = 254
section S9e4
variable {h : HY} {d L m N : Nat} {M M' M1 M2 : Mem} {r : Int → Int} {o H : Int} {rec : Nat → List Value → Mem → XA}
theorem hyR.fz (y : hyR h H M) (f : Fz hyRZ M M') : hyR h H M' := by
  obtain ⟨h1, h2, ⟨h3, h4⟩, h5⟩ := y
  have e3 : ∀ a j, a ≠ 253 → a ≠ 254 → M'.1 a j = M.1 a j := fun a j y z => f.2 a j (by unfold hyRZ; omega)
  refine ⟨h1.keep f.1, h2, ⟨(e3 _ _ (by omega) (by omega)).trans h3, (e3 _ _ (by omega) (by omega)).trans h4⟩, fun k a b => ?_⟩
  obtain ⟨t1, t2, t3, t4, t5⟩ := h5 k a b
  exact ⟨(e3 _ _ (by omega) (by omega)).trans t1, (e3 _ _ (by omega) (by omega)).trans t2, (e3 _ _ (by omega) (by omega)).trans t3, (e3 _ _ (by omega) (by omega)).trans t4, (e3 _ _ (by omega) (by omega)).trans t5⟩
/-- what OPS in a row answer -/
theorem hr295_14 {J : Int32 × Mem → XA} (hO : hyO h) : ∀ (m i : Nat) (M : Mem) (Nf : Nat), i + m = L → L ≤ 8 → m < Nf → hyR h H M → (∀ j : Nat, j < L → M.1 253 j = iI (r (j : Int)) ∧ 0 ≤ r (j : Int) ∧ r (j : Int) < hyN h) → (∀ j : Int, 0 ≤ j → j < (hf h r i).2.2.1 → M.1 254 j.toNat = (hf h r i).2.2.2.1 j) → ∃ M', lp (c295_14 rec (some 160) (iI H) (iI (L : Int)) J) Nf ((hf h r i).1, iI (hf h r i).2.1, iI (hf h r i).2.2.1, iI (hf h r i).2.2.2.2, iI (i : Int), M) = J (iI (hf h r L).2.2.2.2, M') ∧ Fz (fun a _ => a = 254) M M'
  | 0, i, M, Nf, e, l8, hN, hR, hr, hq => by
    obtain ⟨Nf, rfl⟩ : ∃ e, Nf = e + 1 := ⟨Nf - 1, by omega⟩
    refine ⟨M, ?_, Fz.r⟩
    rw [lp_e]; unfold c295_14
    dsimp only
    rw [if_pos (leI_p rfl rfl (by omega)), show i = L by omega]
  | m + 1, i, M, Nf, e, l8, hN, hR, hr, hq => by
    obtain ⟨Nf, rfl⟩ : ∃ e, Nf = e + 1 := ⟨Nf - 1, by omega⟩
    obtain ⟨h1, h2, ⟨h3, h4⟩, h5⟩ := id hR
    have k := rk_160 h1
    have n8 := hO.2.1
    have kb := hO.1
    obtain ⟨x1, x2, x3⟩ := hr i (by omega)
    obtain ⟨o, ho⟩ : ∃ o, o = r (i : Int) := ⟨_, rfl⟩
    rw [← ho] at x1 x2 x3
    obtain ⟨t1, t2, t3, t4, t5⟩ := h5 o x2 x3
    obtain ⟨w1, -⟩ := hO.2.2 o x2 x3
    obtain ⟨b1, b2, b3, b4⟩ := hf_b (h := h) (r := r) i
    have es : hf h r (i + 1) = hst h o (hf h r i) := by
      show hst h (r (i : Int)) (hf h r i) = _
      rw [← ho]
    have l8' : (8 : Int32) = iI 8 := rfl
    -- behind an OP
    have go : ∀ (M2 : Mem) (is : Int32) (s : HQ), Fz (fun a _ => a = 254) M M2 → hf h r (i + 1) = (s.1, s.2.1, s.2.2.1, s.2.2.2.1, if hyA h o = is then (hf h r i).2.2.2.2 else 0) → (∀ j : Int, 0 ≤ j → j < s.2.2.1 → M2.1 254 j.toNat = s.2.2.2.1 j) → ∃ M', (jn (fun (s9 : Int32) => lt (iI (i : Int) + (1 : Int32)) fun (x10 : Int32) => lp (c295_14 rec (some 160) (iI H) (iI (L : Int)) J) Nf (s.1, iI s.2.1, iI s.2.2.1, s9, x10, M2)) fun j203 => jn (fun (s11 : Unit) => j203 ((0 : Int32))) fun j202 => if iI (hf h r i).2.2.2.2 = 0 then ( j202 ()) else ( gtP (13, 157) M2 (some 160) 143 fun x12 => alI 100 M2 x12 (iI (8 * H + o)) fun x13 => if is = x13 then ( j203 ((1 : Int32))) else ( j202 ())) : XA) = J (iI (hf h r L).2.2.2.2, M') ∧ Fz (fun a _ => a = 254) M M' := fun M2 is s f2 e2 q2 => by
      have R2 : hyR h H M2 := hR.fz (f2.m fun _ _ z => Or.inr z)
      obtain ⟨y1, y2, -, y5⟩ := R2
      obtain ⟨-, -, u3, -⟩ := y5 o x2 x3
      obtain ⟨M', z1, z2⟩ := hr295_14 (J := J) hO m (i + 1) M2 Nf (by omega) l8 (by omega) (hR.fz (f2.m fun _ _ z => Or.inr z)) (fun j z => ⟨(f2.2 _ _ (show ¬ (253 : Nat) = 254 by decide)).trans (hr j z).1, (hr j z).2⟩) (by rw [e2]; exact q2)
      rw [e2] at z1
      dsimp only at z1
      refine ⟨M', ?_, f2.tr z2⟩
      rw [jn_v, jn_v]
      have ei : iI (i : Int) + (1 : Int32) = iI ((i + 1 : Nat) : Int) := cvI (adI rfl li_1) (by omega)
      rcases b4 with w0 | w0
      · rw [if_pos (show iI (hf h r i).2.2.2.2 = 0 by rw [w0]; rfl), jv_e, jv_e, ei, lt_e]
        rw [← z1, w0, show (if hyA h o = is then (0 : Int) else 0) = 0 by split <;> rfl]
        rfl
      · rw [if_neg (show ¬ iI (hf h r i).2.2.2.2 = 0 by rw [w0]; decide), gtP_q (rk_160 y1) (rf_143 y1), alI_q (n := 64) (z := 8 * H + o) (rk_250 y1) rfl (by omega) u3]
        by_cases ca : hyA h o = is
        · rw [if_pos ca.symm, jv_e, ei, lt_e]
          rw [← z1, if_pos ca, w0]
          rfl
        · rw [if_neg (fun z => ca z.symm), jv_e, jv_e, ei, lt_e]
          rw [← z1, if_neg ca]
          rfl
    rw [lp_e]; unfold c295_14
    dsimp only
    rw [if_neg (leI_n rfl rfl (by omega)), gtP_q k (rf_146 h1), alI_q (n := 8) (z := (i : Int)) (rk_253 h1) rfl (by omega) x1, ltI_q (z := 8 * H + o) (adI (mlI l8' rfl) rfl), gtP_q k (rf_139 h1), alI_q (n := 8) (z := H) (rk_246 h1) rfl (by omega) h3, jn_v]
    by_cases cK : hyK h = 2
    · rw [if_pos (show iI (hyK h) = (2 : Int32) by rw [cK]; rfl), gtP_q k (rf_141 h1), alI_q (n := 64) (z := 8 * H + o) (rk_248 h1) rfl (by omega) t1]
      by_cases cW : hyW h o = 0
      · rw [if_pos (show iI (hyW h o) = 0 by rw [cW]; rfl), gtP_q k (rf_147 h1), gtP_q k (rf_142 h1), alI_q (n := 64) (z := 8 * H + o) (rk_249 h1) rfl (by omega) t2, asI_e (z := (hf h r i).2.2.1) (n := 9) (rk_254 h1) (by omega) (by omega) (by omega), ltI_q (z := (hf h r i).2.2.1 + 1) (adI rfl li_1), jv_e]
        refine go (sI M 254 (hf h r i).2.2.1.toNat (hyV h o)) 0 ((hf h r i).1, (hf h r i).2.1, (hf h r i).2.2.1 + 1, (fun j => if j = (hf h r i).2.2.1 then hyV h o else (hf h r i).2.2.2.1 j), 0) ((Fz.r).si rfl) (by rw [es]; unfold hst; rw [if_pos cK, if_pos cW]) fun j y z => ?_
        dsimp only at z ⊢
        by_cases u : j = (hf h r i).2.2.1
        · rw [if_pos u, u]; exact sI_eq
        · rw [if_neg u]; exact (sI_nej (by omega)).trans (hq j y (by omega))
      · rw [if_neg (show ¬ iI (hyW h o) = 0 from eqI_n (y := 0) rfl li_0 (by omega)), jn_v]
        by_cases cE : (hf h r i).2.1 = (hf h r i).2.2.1
        · rw [if_pos (show iI (hf h r i).2.1 = iI (hf h r i).2.2.1 by rw [cE]), jv_e, jn_v, if_pos (show iI (hf h r i).2.1 = iI (hf h r i).2.2.1 by rw [cE]), jv_e, ltI_q (z := (hf h r i).2.1) (cvI (adI rfl li_0) (by omega)), jv_e]
          exact go M (-1) ((hf h r i).1, (hf h r i).2.1, (hf h r i).2.2.1, (hf h r i).2.2.2.1, 0) Fz.r (by rw [es]; unfold hst; rw [if_pos cK, if_neg cW, if_pos cE]) hq
        · rw [if_neg (show ¬ iI (hf h r i).2.1 = iI (hf h r i).2.2.1 from eqI_n rfl rfl (by omega)), gtP_q k (rf_147 h1), alI_q (n := 9) (z := (hf h r i).2.1) (rk_254 h1) rfl (by omega) (hq _ b1 (by omega)), jv_e, jn_v, if_neg (show ¬ iI (hf h r i).2.1 = iI (hf h r i).2.2.1 from eqI_n rfl rfl (by omega)), jv_e, ltI_q (z := (hf h r i).2.1 + 1) (adI rfl li_1), jv_e]
          exact go M ((hf h r i).2.2.2.1 (hf h r i).2.1) ((hf h r i).1, (hf h r i).2.1 + 1, (hf h r i).2.2.1, (hf h r i).2.2.2.1, 0) Fz.r (by rw [es]; unfold hst; rw [if_pos cK, if_neg cW, if_neg cE]) hq
    · rw [if_neg (show ¬ iI (hyK h) = (2 : Int32) from eqI_n (y := 2) rfl rfl (by omega)), gtP_q k (rf_141 h1), alI_q (n := 64) (z := 8 * H + o) (rk_248 h1) rfl (by omega) t1]
      by_cases cW : hyW h o = 1
      · rw [if_pos (show iI (hyW h o) = (1 : Int32) by rw [cW]; rfl), jv_e]
        exact go M (hf h r i).1 ((hf h r i).1, (hf h r i).2.1, (hf h r i).2.2.1, (hf h r i).2.2.2.1, 0) Fz.r (by rw [es]; unfold hst; rw [if_neg cK, if_pos cW]) hq
      · rw [if_neg (show ¬ iI (hyW h o) = (1 : Int32) from eqI_n (y := 1) rfl rfl (by omega)), gtP_q k (rf_139 h1), alI_q (n := 8) (z := H) (rk_246 h1) rfl (by omega) h3, jn_v]
        by_cases cO : hyK h = 1
        · rw [if_pos (show iI (hyK h) = (1 : Int32) by rw [cO]; rfl), gtP_q k (rf_142 h1), alI_q (n := 64) (z := 8 * H + o) (rk_249 h1) rfl (by omega) t2, jv_e, gtP_q k (rf_139 h1), alI_q (n := 8) (z := H) (rk_246 h1) rfl (by omega) h3, jn_v, if_pos (show iI (hyK h) = (1 : Int32) by rw [cO]; rfl), jv_e, jv_e]
          exact go M ((hf h r i).1 + hyV h o) ((hf h r i).1 + hyV h o, (hf h r i).2.1, (hf h r i).2.2.1, (hf h r i).2.2.2.1, 0) Fz.r (by rw [es]; unfold hst; rw [if_neg cK, if_neg cW, if_pos cO]) hq
        · rw [if_neg (show ¬ iI (hyK h) = (1 : Int32) from eqI_n (y := 1) rfl rfl (by omega)), gtP_q k (rf_142 h1), alI_q (n := 64) (z := 8 * H + o) (rk_249 h1) rfl (by omega) t2, jv_e, gtP_q k (rf_139 h1), alI_q (n := 8) (z := H) (rk_246 h1) rfl (by omega) h3, jn_v, if_neg (show ¬ iI (hyK h) = (1 : Int32) from eqI_n (y := 1) rfl rfl (by omega)), jv_e, jv_e]
          exact go M 0 (hyV h o, (hf h r i).2.1, (hf h r i).2.2.1, (hf h r i).2.2.2.1, 0) Fz.r (by rw [es]; unfold hst; rw [if_neg cK, if_neg cW, if_neg cO]) hq
theorem hr295 (hd : 1 ≤ d) (hO : hyO h) (l8 : L ≤ 8) (hR : hyR h H M) (hr : ∀ j : Nat, j < L → M.1 253 j = iI (r (j : Int)) ∧ 0 ≤ r (j : Int) ∧ r (j : Int) < hyN h) : ∃ M', runX d 295 [va_rf (some 160), .int (iI H), .int (iI (L : Int))] M = some (.int (iI (hf h r L).2.2.2.2), M') ∧ Fz (fun a _ => a = 254) M M' := by
  obtain ⟨d, rfl⟩ : ∃ e, d = e + 1 := ⟨d - 1, by omega⟩
  obtain ⟨M', y1, y2⟩ := hr295_14 (rec := runX d) (J := jv fun (s1 : Int32 × Mem) => rtZ s1.1 s1.2) (r := r) hO L 0 M 4294967296 (by omega) l8 (by omega) hR hr (fun j a b => by
    have : (hf h r 0).2.2.1 = 0 := rfl
    omega)
  refine ⟨M', ?_, y2⟩
  rw [r295]; unfold b295; rw [aR_e, aI_e, aI_e, aZ_e]; unfold c295
  rw [jn_v]
  have e0 : ((hf h r 0).1, iI (hf h r 0).2.1, iI (hf h r 0).2.2.1, iI (hf h r 0).2.2.2.2, iI ((0 : Nat) : Int), M) = ((0 : Int32), (0 : Int32), (0 : Int32), (1 : Int32), (0 : Int32), M) := by
    rw [li_0, li_1]; rfl
  rw [← e0, y1, jv_e, rtZ_e (by rcases (hf_b (h := h) (r := r) L).2.2.2 with z | z <;> rw [z]; exact Or.inl rfl; exact Or.inr rfl)]
/-- whether an OP may stand next -/
theorem hr296_6 {J : Int32 → XA} (hR : RT M) (hl : L ≤ 8) (hr : ∀ j : Nat, j < L → M.1 253 j = iI (r (j : Int)) ∧ 0 ≤ r (j : Int) ∧ r (j : Int) < 8) (ho : 0 ≤ o ∧ o < 8) : ∀ (m i : Nat) (Nf : Nat) (b : Int), i + m = L → m < Nf → ((b = 1 ∧ ∀ j : Nat, j < i → r (j : Int) ≠ o) ∨ (b = 0 ∧ ∃ j : Nat, j < L ∧ r (j : Int) = o)) → (lp (c296_6 rec (some 160) (iI (L : Int)) (iI o) M J) Nf (iI b, iI (i : Int)) = J (iI 1) ∧ ∀ j : Nat, j < L → r (j : Int) ≠ o) ∨ (lp (c296_6 rec (some 160) (iI (L : Int)) (iI o) M J) Nf (iI b, iI (i : Int)) = J (iI 0) ∧ ∃ j : Nat, j < L ∧ r (j : Int) = o)
  | 0, i, Nf, b, e, hN, hb => by
    obtain ⟨Nf, rfl⟩ : ∃ e, Nf = e + 1 := ⟨Nf - 1, by omega⟩
    have e1 : lp (c296_6 rec (some 160) (iI (L : Int)) (iI o) M J) (Nf + 1) (iI b, iI (i : Int)) = J (iI b) := by
      rw [lp_e]; unfold c296_6
      dsimp only
      rw [if_pos (leI_p rfl rfl (by omega))]
    rw [e1]
    rcases hb with ⟨b1, b2⟩ | ⟨b1, b2⟩
    · exact Or.inl ⟨by rw [b1], fun j z => b2 j (by omega)⟩
    · exact Or.inr ⟨by rw [b1], b2⟩
  | m + 1, i, Nf, b, e, hN, hb => by
    obtain ⟨Nf, rfl⟩ : ∃ e, Nf = e + 1 := ⟨Nf - 1, by omega⟩
    have ei : iI (i : Int) + (1 : Int32) = iI ((i + 1 : Nat) : Int) := cvI (adI rfl li_1) (by omega)
    obtain ⟨x1, x2, x3⟩ := hr i (by omega)
    have e1 : ∃ b', lp (c296_6 rec (some 160) (iI (L : Int)) (iI o) M J) (Nf + 1) (iI b, iI (i : Int)) = lp (c296_6 rec (some 160) (iI (L : Int)) (iI o) M J) Nf (iI b', iI ((i + 1 : Nat) : Int)) ∧ ((b' = 1 ∧ ∀ j : Nat, j < i + 1 → r (j : Int) ≠ o) ∨ (b' = 0 ∧ ∃ j : Nat, j < L ∧ r (j : Int) = o)) := by
      rw [lp_e]; unfold c296_6
      dsimp only
      rw [if_neg (leI_n rfl rfl (by omega)), jn_v, jn_v]
      rcases hb with ⟨b1, b2⟩ | ⟨b1, b2⟩
      · rw [b1, if_neg (show ¬ iI 1 = 0 by decide), gtP_q (rk_160 hR) (rf_146 hR), alI_q (n := 8) (z := (i : Int)) (rk_253 hR) rfl (by omega) x1]
        by_cases c : r (i : Int) = o
        · rw [if_pos (show iI (r (i : Int)) = iI o by rw [c]), jv_e, jv_e, ei]
          exact ⟨0, rfl, Or.inr ⟨rfl, i, by omega, c⟩⟩
        · rw [if_neg (show ¬ iI (r (i : Int)) = iI o from eqI_n rfl rfl (by omega)), jv_e, ei]
          refine ⟨1, rfl, Or.inl ⟨rfl, fun j z => ?_⟩⟩
          by_cases u : j = i
          · rw [u]; exact c
          · exact b2 j (by omega)
      · rw [b1, if_pos (show iI 0 = 0 from rfl), jv_e, jv_e, ei]
        exact ⟨0, rfl, Or.inr ⟨rfl, b2⟩⟩
    obtain ⟨b', e2, e3⟩ := e1
    rw [e2]
    exact hr296_6 hR hl hr ho m (i + 1) Nf b' (by omega) (by omega) e3
theorem hr296_66 {J : Int32 → XA} {s3 : Int32 × Int32} {a : Int} (hR : RT M) (hl : L ≤ 8) (hr : ∀ j : Nat, j < L → M.1 253 j = iI (r (j : Int)) ∧ 0 ≤ r (j : Int) ∧ r (j : Int) < 8) (ha : 0 ≤ a ∧ a < 8) (h3 : s3.2 = iI a) : ∀ (m i : Nat) (Nf : Nat) (b : Int), i + m = L → m < Nf → ((b = 0 ∧ ∀ j : Nat, j < i → r (j : Int) ≠ a) ∨ (b = 1 ∧ ∃ j : Nat, j < L ∧ r (j : Int) = a)) → (lp (c296_66 rec (some 160) (iI (L : Int)) M J s3) Nf (iI b, iI (i : Int)) = J (iI 0) ∧ ∀ j : Nat, j < L → r (j : Int) ≠ a) ∨ (lp (c296_66 rec (some 160) (iI (L : Int)) M J s3) Nf (iI b, iI (i : Int)) = J (iI 1) ∧ ∃ j : Nat, j < L ∧ r (j : Int) = a)
  | 0, i, Nf, b, e, hN, hb => by
    obtain ⟨Nf, rfl⟩ : ∃ e, Nf = e + 1 := ⟨Nf - 1, by omega⟩
    have e1 : lp (c296_66 rec (some 160) (iI (L : Int)) M J s3) (Nf + 1) (iI b, iI (i : Int)) = J (iI b) := by
      rw [lp_e]; unfold c296_66
      dsimp only
      rw [if_pos (leI_p rfl rfl (by omega))]
    rw [e1]
    rcases hb with ⟨b1, b2⟩ | ⟨b1, b2⟩
    · exact Or.inl ⟨by rw [b1], fun j z => b2 j (by omega)⟩
    · exact Or.inr ⟨by rw [b1], b2⟩
  | m + 1, i, Nf, b, e, hN, hb => by
    obtain ⟨Nf, rfl⟩ : ∃ e, Nf = e + 1 := ⟨Nf - 1, by omega⟩
    have ei : iI (i : Int) + (1 : Int32) = iI ((i + 1 : Nat) : Int) := cvI (adI rfl li_1) (by omega)
    obtain ⟨x1, x2, x3⟩ := hr i (by omega)
    have e1 : ∃ b', lp (c296_66 rec (some 160) (iI (L : Int)) M J s3) (Nf + 1) (iI b, iI (i : Int)) = lp (c296_66 rec (some 160) (iI (L : Int)) M J s3) Nf (iI b', iI ((i + 1 : Nat) : Int)) ∧ ((b' = 0 ∧ ∀ j : Nat, j < i + 1 → r (j : Int) ≠ a) ∨ (b' = 1 ∧ ∃ j : Nat, j < L ∧ r (j : Int) = a)) := by
      rw [lp_e]; unfold c296_66
      dsimp only
      rw [if_neg (leI_n rfl rfl (by omega)), jn_v, jn_v]
      rcases hb with ⟨b1, b2⟩ | ⟨b1, b2⟩
      · rw [b1, if_pos (show iI 0 = 0 from rfl), gtP_q (rk_160 hR) (rf_146 hR), alI_q (n := 8) (z := (i : Int)) (rk_253 hR) rfl (by omega) x1, h3]
        by_cases c : r (i : Int) = a
        · rw [if_pos (show iI (r (i : Int)) = iI a by rw [c]), jv_e, jv_e, ei]
          exact ⟨1, rfl, Or.inr ⟨rfl, i, by omega, c⟩⟩
        · rw [if_neg (show ¬ iI (r (i : Int)) = iI a from eqI_n rfl rfl (by omega)), jv_e, ei]
          refine ⟨0, rfl, Or.inl ⟨rfl, fun j z => ?_⟩⟩
          by_cases u : j = i
          · rw [u]; exact c
          · exact b2 j (by omega)
      · rw [b1, if_neg (show ¬ iI 1 = 0 by decide), jv_e, jv_e, ei]
        exact ⟨1, rfl, Or.inr ⟨rfl, b2⟩⟩
    obtain ⟨b', e2, e3⟩ := e1
    rw [e2]
    exact hr296_66 hR hl hr ha h3 m (i + 1) Nf b' (by omega) (by omega) e3
theorem hr296_44 {J : Int32 → XA} (hO : hyO h) (hR : hyR h H M) (hl : L ≤ 8) (hr : ∀ j : Nat, j < L → M.1 253 j = iI (r (j : Int)) ∧ 0 ≤ r (j : Int) ∧ r (j : Int) < 8) (ho : 0 ≤ o ∧ o < hyN h) : ∀ (m : Nat) (a : Int) (Nf : Nat), a + (m : Int) = hyN h → 0 ≤ a → m < Nf → (∀ c : Int, 0 ≤ c → c < a → (∃ i : Nat, i < L ∧ r (i : Int) = c) ∨ c = o ∨ hyF h o ≤ hyT h c) → (lp (c296_44 rec (some 160) (iI H) (iI (L : Int)) (iI o) M J) Nf (iI 1, iI a) = J (iI 1) ∧ ∀ c : Int, 0 ≤ c → c < hyN h → (∃ i : Nat, i < L ∧ r (i : Int) = c) ∨ c = o ∨ hyF h o ≤ hyT h c) ∨ (lp (c296_44 rec (some 160) (iI H) (iI (L : Int)) (iI o) M J) Nf (iI 1, iI a) = J (iI 0) ∧ ¬ ∀ c : Int, 0 ≤ c → c < hyN h → (∃ i : Nat, i < L ∧ r (i : Int) = c) ∨ c = o ∨ hyF h o ≤ hyT h c)
  | 0, a, Nf, e, a0, hN, hb => by
    obtain ⟨Nf, rfl⟩ : ∃ e, Nf = e + 1 := ⟨Nf - 1, by omega⟩
    obtain ⟨h1, h2, ⟨h3, h4⟩, h5⟩ := id hR
    have n8 := hO.2.1
    refine Or.inl ⟨?_, fun c y z => hb c y (by omega)⟩
    rw [lp_e]; unfold c296_44
    dsimp only
    rw [gtP_q (rk_160 h1) (rf_140 h1), alI_q (n := 8) (z := H) (rk_247 h1) rfl (by omega) h4, if_pos (leI_p rfl rfl (by omega))]
  | m + 1, a, Nf, e, a0, hN, hb => by
    obtain ⟨Nf, rfl⟩ : ∃ e, Nf = e + 1 := ⟨Nf - 1, by omega⟩
    obtain ⟨h1, h2, ⟨h3, h4⟩, h5⟩ := id hR
    have n8 := hO.2.1
    have k := rk_160 h1
    have l8' : (8 : Int32) = iI 8 := rfl
    obtain ⟨-, -, -, -, t5⟩ := h5 a a0 (by omega)
    obtain ⟨-, -, -, u4, -⟩ := h5 o ho.1 ho.2
    obtain ⟨-, o1, o2, o3⟩ := hO.2.2 a a0 (by omega)
    obtain ⟨-, p1, p2, p3⟩ := hO.2.2 o ho.1 ho.2
    have ea : iI a + (1 : Int32) = iI (a + 1) := adI rfl li_1
    have n10 : ¬ iI 1 = (0 : Int32) := by decide
    have next : ((∃ i : Nat, i < L ∧ r (i : Int) = a) ∨ a = o ∨ hyF h o ≤ hyT h a) → (lp (c296_44 rec (some 160) (iI H) (iI (L : Int)) (iI o) M J) Nf (iI 1, iI (a + 1)) = J (iI 1) ∧ ∀ c : Int, 0 ≤ c → c < hyN h → (∃ i : Nat, i < L ∧ r (i : Int) = c) ∨ c = o ∨ hyF h o ≤ hyT h c) ∨ (lp (c296_44 rec (some 160) (iI H) (iI (L : Int)) (iI o) M J) Nf (iI 1, iI (a + 1)) = J (iI 0) ∧ ¬ ∀ c : Int, 0 ≤ c → c < hyN h → (∃ i : Nat, i < L ∧ r (i : Int) = c) ∨ c = o ∨ hyF h o ≤ hyT h c) := fun q => hr296_44 hO hR hl hr ho m (a + 1) Nf (by omega) (by omega) (by omega) fun c y z => by
      by_cases w : c = a
      · rw [w]; exact q
      · exact hb c y (by omega)
    obtain ⟨G, hG⟩ : ∃ G : Int32 → XA, G = jv fun (s6 : Int32) => jn (fun (s7 : Int32) => lt (iI a + (1 : Int32)) fun (x8 : Int32) => lp (c296_44 rec (some 160) (iI H) (iI (L : Int)) (iI o) M J) Nf (s7, x8)) fun j144 => jn (fun (s9 : Unit) => j144 ((1 : Int32))) fun j139 => if s6 = 0 then ( if iI a = iI o then ( j139 ()) else ( gtP (13, 157) M (some 160) 145 fun x10 => alI 100 M x10 ((((8 : Int32)) * (iI H)) + (iI a)) fun x11 => gtP (13, 157) M (some 160) 144 fun x12 => alI 100 M x12 ((((8 : Int32)) * (iI H)) + (iI o)) fun x13 => if x11 < x13 then ( j144 ((0 : Int32))) else ( j139 ()))) else ( j139 ()) := ⟨_, rfl⟩
    have cl : ∀ go : Int32 × Int32 → XA, c296_44 rec (some 160) (iI H) (iI (L : Int)) (iI o) M J (iI 1, iI a) go = lp (c296_66 rec (some 160) (iI (L : Int)) M (jv fun (s6 : Int32) => jn (fun (s7 : Int32) => lt (iI a + (1 : Int32)) fun (x8 : Int32) => go (s7, x8)) fun j144 => jn (fun (s9 : Unit) => j144 ((1 : Int32))) fun j139 => if s6 = 0 then ( if iI a = iI o then ( j139 ()) else ( gtP (13, 157) M (some 160) 145 fun x10 => alI 100 M x10 ((((8 : Int32)) * (iI H)) + (iI a)) fun x11 => gtP (13, 157) M (some 160) 144 fun x12 => alI 100 M x12 ((((8 : Int32)) * (iI H)) + (iI o)) fun x13 => if x11 < x13 then ( j144 ((0 : Int32))) else ( j139 ()))) else ( j139 ())) (iI 1, iI a)) 4294967296 ((0 : Int32), (0 : Int32)) := fun go => by
      unfold c296_44
      dsimp only
      rw [gtP_q k (rf_140 h1), alI_q (n := 8) (z := H) (rk_247 h1) rfl (by omega) h4, if_neg (leI_n rfl rfl (by omega)), if_neg n10, jn_v]
    have pre : lp (c296_44 rec (some 160) (iI H) (iI (L : Int)) (iI o) M J) (Nf + 1) (iI 1, iI a) = lp (c296_66 rec (some 160) (iI (L : Int)) M G (iI 1, iI a)) 4294967296 (iI 0, iI ((0 : Nat) : Int)) := by
      rw [lp_e, cl, ← hG]
      rfl
    have one : G (iI 1) = lp (c296_44 rec (some 160) (iI H) (iI (L : Int)) (iI o) M J) Nf (iI 1, iI (a + 1)) := by
      rw [hG, jv_e, jn_v, jn_v, if_neg n10, jv_e, jv_e, ea, lt_e, li_1]
    rw [pre]
    rcases hr296_66 (rec := rec) (J := G) (s3 := (iI 1, iI a)) (a := a) h1 hl hr (by omega) rfl L 0 4294967296 0 (by omega) (by omega) (Or.inl ⟨rfl, fun j z => by omega⟩) with ⟨y1, y2⟩ | ⟨y1, y2⟩
    · rw [y1, hG, jv_e, jn_v, jn_v, if_pos (show iI 0 = 0 from rfl)]
      by_cases c1 : a = o
      · rw [if_pos (show iI a = iI o by rw [c1]), jv_e, jv_e, ea, lt_e, show (1 : Int32) = iI 1 from li_1]
        exact next (Or.inr (Or.inl c1))
      · rw [if_neg (show ¬ iI a = iI o from eqI_n rfl rfl (by omega)), gtP_q k (rf_145 h1), alI_q (n := 64) (z := 8 * H + a) (rk_252 h1) (adI (mlI l8' rfl) rfl) (by omega) t5, gtP_q k (rf_144 h1), alI_q (n := 64) (z := 8 * H + o) (rk_251 h1) (adI (mlI l8' rfl) rfl) (by omega) u4]
        by_cases c2 : hyF h o ≤ hyT h a
        · rw [if_neg (lsI_n rfl rfl (by omega)), jv_e, jv_e, ea, lt_e, show (1 : Int32) = iI 1 from li_1]
          exact next (Or.inr (Or.inr c2))
        · rw [if_pos (lsI_p rfl rfl (by omega)), jv_e, ea, lt_e, show (0 : Int32) = iI 0 from li_0]
          refine Or.inr ⟨?_, fun z => ?_⟩
          · obtain ⟨Nf, rfl⟩ : ∃ e, Nf = e + 1 := ⟨Nf - 1, by omega⟩
            rw [lp_e]; unfold c296_44
            dsimp only
            rw [gtP_q k (rf_140 h1), alI_q (n := 8) (z := H) (rk_247 h1) rfl (by omega) h4]
            by_cases w : iI (hyN h) ≤ iI (a + 1)
            · rw [if_pos w]
            · rw [if_neg w, if_pos (show iI 0 = 0 from rfl)]
          · rcases z a a0 (by omega) with ⟨j, w1, w2⟩ | w | w
            · exact y2 j w1 w2
            · exact c1 w
            · exact c2 w
    · rw [y1, one]
      exact next (Or.inl y2)
theorem hr296 (hd : 1 ≤ d) (hO : hyO h) (hR : hyR h H M) (hl : L ≤ 8) (hr : ∀ j : Nat, j < L → M.1 253 j = iI (r (j : Int)) ∧ 0 ≤ r (j : Int) ∧ r (j : Int) < 8) (ho : 0 ≤ o ∧ o < hyN h) : (runX d 296 [va_rf (some 160), .int (iI H), .int (iI (L : Int)), .int (iI o)] M = some (.int (iI 1), M) ∧ hmy h r L o) ∨ (runX d 296 [va_rf (some 160), .int (iI H), .int (iI (L : Int)), .int (iI o)] M = some (.int (iI 0), M) ∧ ¬ hmy h r L o) := by
  obtain ⟨d, rfl⟩ : ∃ e, d = e + 1 := ⟨d - 1, by omega⟩
  have n8 := hO.2.1
  obtain ⟨h1, h2, ⟨h3, h4⟩, h5⟩ := id hR
  obtain ⟨J, hJ⟩ : ∃ J : Int32 → XA, J = jv fun (s2 : Int32) => rtZ s2 M := ⟨_, rfl⟩
  obtain ⟨G, hG⟩ : ∃ G : Int32 → XA, G = jv fun (s1 : Int32) => jn (fun (s2 : Int32) => rtZ s2 M) fun j152 => lp (c296_44 (runX d) (some 160) (iI H) (iI (L : Int)) (iI o) M j152) 4294967296 (s1, (0 : Int32)) := ⟨_, rfl⟩
  have st : runX (d + 1) 296 [va_rf (some 160), .int (iI H), .int (iI (L : Int)), .int (iI o)] M = lp (c296_6 (runX d) (some 160) (iI (L : Int)) (iI o) M G) 4294967296 ((1 : Int32), (0 : Int32)) := by
    rw [r296]; unfold b296; rw [aR_e, aI_e, aI_e, aI_e, aZ_e]; unfold c296
    rw [jn_v, ← hG]
  have e10 : ((1 : Int32), (0 : Int32)) = (iI 1, iI ((0 : Nat) : Int)) := by
    rw [li_1, li_0]
    rfl
  rw [st, e10]
  rcases hr296_6 (rec := runX d) (J := G) (o := o) h1 hl hr (by omega) L 0 4294967296 1 (by omega) (by omega) (Or.inl ⟨rfl, fun j z => by omega⟩) with ⟨y1, y2⟩ | ⟨y1, y2⟩
  · rw [y1, hG, jv_e, jn_v, ← hJ, show (0 : Int32) = iI 0 from li_0]
    rcases hr296_44 (rec := runX d) (J := J) hO hR hl hr ho (hyN h).toNat 0 4294967296 (by omega) (by omega) (by omega) (fun c y z => by omega) with ⟨z1, z2⟩ | ⟨z1, z2⟩
    · refine Or.inl ⟨?_, y2, z2⟩
      rw [z1, hJ, jv_e, rtZ_q (z := 1) rfl (by decide)]
    · refine Or.inr ⟨?_, fun w => z2 w.2⟩
      rw [z1, hJ, jv_e, rtZ_q (z := 0) rfl (by decide)]
  · refine Or.inr ⟨?_, fun w => ?_⟩
    · rw [y1, hG, jv_e, jn_v, ← hJ, lp_e]
      unfold c296_44
      dsimp only
      rw [gtP_q (rk_160 h1) (rf_140 h1), alI_q (n := 8) (z := H) (rk_247 h1) rfl (by omega) h4]
      have q : J (iI 0) = some (.int (iI 0), M) := by rw [hJ, jv_e, rtZ_q (z := 0) rfl (by decide)]
      by_cases w : iI (hyN h) ≤ (0 : Int32)
      · rw [if_pos w, q]
      · rw [if_neg w, if_pos (show iI 0 = 0 from rfl), q]
    · obtain ⟨j, w1, w2⟩ := y2
      exact w.1 j w1 w2
/-- rows -/
theorem hr297 (hO : hyO h) : ∀ (m L : Nat) (r : Int → Int) (d : Nat) (M : Mem), L + m = (hyN h).toNat → m + 2 ≤ d → hyR h H M → hok h r L → (∀ j : Nat, j < L → M.1 253 j = iI (r (j : Int))) → ∃ (b : Int) (M' : Mem), runX d 297 [va_rf (some 160), .int (iI H), .int (iI (L : Int))] M = some (.int (iI b), M') ∧ Fz hyRZ M M' ∧ (∀ j : Nat, j < L → M'.1 253 j = M.1 253 j) ∧ hyX h 252 r L M' b
  | 0, L, r, d, M, e, hd, hR, hk, hr => by
    obtain ⟨d, rfl⟩ : ∃ e, d = e + 1 := ⟨d - 1, by omega⟩
    have n8 := hO.2.1
    have eL : L = (hyN h).toNat := by omega
    obtain ⟨h1, h2, ⟨h3, h4⟩, h5⟩ := id hR
    refine ⟨1, M, ?_, Fz.r, fun _ _ => rfl, Or.inl ⟨rfl, r, by rw [eL] at hk ⊢; exact hls.z hk, fun j z => hr j (by omega)⟩⟩
    rw [r297]; unfold b297; rw [aR_e, aI_e, aI_e, aZ_e]; unfold c297
    rw [gtP_q (rk_160 h1) (rf_140 h1), alI_q (n := 8) (z := H) (rk_247 h1) rfl (by omega) h4, if_pos (eqI_p rfl rfl (by omega)), rtZ_e (Or.inr rfl)]
    rfl
  | m + 1, L, r, d, M, e, hd, hR, hk, hr => by
    obtain ⟨d, rfl⟩ : ∃ e, d = e + 1 := ⟨d - 1, by omega⟩
    have n8 := hO.2.1
    have hL : L < (hyN h).toNat := by omega
    obtain ⟨h1, h2, ⟨h3, h4⟩, h5⟩ := id hR
    have st : runX (d + 1) 297 [va_rf (some 160), .int (iI H), .int (iI (L : Int))] M = lp (c297_14 (runX d) (some 160) (iI H) (iI (L : Int)) (jv fun (s3 : Mem) => rtZ ((1 : Int32)) s3) (jv fun (s4 : Mem) => rtZ ((0 : Int32)) s4)) 4294967296 (iI 0, M) := by
      rw [r297]; unfold b297; rw [aR_e, aI_e, aI_e, aZ_e]; unfold c297
      rw [gtP_q (rk_160 h1) (rf_140 h1), alI_q (n := 8) (z := H) (rk_247 h1) rfl (by omega) h4, if_neg (eqI_n rfl rfl (by omega)), jn_v, jn_v, li_0]
    rw [st]
    have turn : ∀ (k : Nat) (o : Int) (M2 : Mem) (Nf : Nat), o + (k : Int) = hyN h → 0 ≤ o → k < Nf → Fz hyRZ M M2 → (∀ j : Nat, j < L → M2.1 253 j = M.1 253 j) → hnb h r L o → ∃ (b : Int) (M' : Mem), lp (c297_14 (runX d) (some 160) (iI H) (iI (L : Int)) (jv fun (s3 : Mem) => rtZ ((1 : Int32)) s3) (jv fun (s4 : Mem) => rtZ ((0 : Int32)) s4)) Nf (iI o, M2) = some (.int (iI b), M') ∧ Fz hyRZ M M' ∧ (∀ j : Nat, j < L → M'.1 253 j = M.1 253 j) ∧ hyX h 252 r L M' b := by
      intro k
      induction k with
      | zero =>
        intro o M2 Nf ek o0 hN hE hE2 hB
        obtain ⟨Nf, rfl⟩ : ∃ e, Nf = e + 1 := ⟨Nf - 1, by omega⟩
        obtain ⟨y1, y2, ⟨y3, y4⟩, y5⟩ := hR.fz hE
        refine ⟨0, M2, ?_, hE, hE2, Or.inr ⟨rfl, ?_⟩⟩
        · rw [lp_e]; unfold c297_14
          dsimp only
          rw [gtP_q (rk_160 y1) (rf_140 y1), alI_q (n := 8) (z := H) (rk_247 y1) rfl (by omega) y4, if_pos (leI_p rfl rfl (by omega)), jv_e, rtZ_e (Or.inl rfl)]
          rfl
        · rw [show o = hyN h by omega] at hB
          exact hB.en hL
      | succ k ihk =>
        intro o M2 Nf ek o0 hN hE hE2 hB
        obtain ⟨Nf, rfl⟩ : ∃ e, Nf = e + 1 := ⟨Nf - 1, by omega⟩
        have R2 := hR.fz hE
        obtain ⟨y1, y2, ⟨y3, y4⟩, y5⟩ := id R2
        have ho : 0 ≤ o ∧ o < hyN h := ⟨o0, by omega⟩
        have hr2 : ∀ j : Nat, j < L → M2.1 253 j = iI (r (j : Int)) ∧ 0 ≤ r (j : Int) ∧ r (j : Int) < 8 := fun j z => ⟨(hE2 j z).trans (hr j z), by have := (hk j z).1; omega⟩
        have next : ∀ M3 : Mem, Fz hyRZ M M3 → (∀ j : Nat, j < L → M3.1 253 j = M.1 253 j) → (¬ (hmy h r L o ∧ (hf h (hup r L o) (L + 1)).2.2.2.2 = 1) ∨ hnn h (hup r L o) (L + 1)) → ∃ (b : Int) (M' : Mem), lp (c297_14 (runX d) (some 160) (iI H) (iI (L : Int)) (jv fun (s3 : Mem) => rtZ ((1 : Int32)) s3) (jv fun (s4 : Mem) => rtZ ((0 : Int32)) s4)) Nf (iI (o + 1), M3) = some (.int (iI b), M') ∧ Fz hyRZ M M' ∧ (∀ j : Nat, j < L → M'.1 253 j = M.1 253 j) ∧ hyX h 252 r L M' b := fun M3 z z2 w => ihk (o + 1) M3 Nf (by omega) (by omega) (by omega) z z2 (hB.st w hL)
        rw [lp_e]; unfold c297_14
        dsimp only
        rw [gtP_q (rk_160 y1) (rf_140 y1), alI_q (n := 8) (z := H) (rk_247 y1) rfl (by omega) y4, if_neg (leI_n rfl rfl (by omega)), vC_e (rk_160 y1)]
        rcases hr296 (d := d) (by omega) hO R2 (by omega) hr2 ho with ⟨w1, w2⟩ | ⟨w1, w2⟩
        · rw [cI_e w1, jn_v, if_neg (show ¬ iI 1 = 0 by decide), gtP_q (rk_160 y1) (rf_146 y1), asI_e (z := (L : Int)) (n := 8) (rk_253 y1) (by omega) (by omega) (by omega)]
          obtain ⟨M4, hM4⟩ : ∃ X, X = sI M2 253 (L : Int).toNat (iI o) := ⟨_, rfl⟩
          have tn : (L : Int).toNat = L := by omega
          have f4 : Fz hyRZ M2 M4 := by rw [hM4]; exact (Fz.r).si (Or.inl rfl)
          have e4 : ∀ j : Nat, j < L → M4.1 253 j = M.1 253 j := fun j z => by rw [hM4, tn]; exact (sI_nej (by omega)).trans (hE2 j z)
          have R4 := R2.fz f4
          have hr4 : ∀ j : Nat, j < L + 1 → M4.1 253 j = iI (hup r L o (j : Int)) ∧ 0 ≤ hup r L o (j : Int) ∧ hup r L o (j : Int) < hyN h := fun j z => by
            by_cases u : j = L
            · rw [u, hup_e]
              exact ⟨by rw [hM4, tn]; exact sI_eq, ho⟩
            · rw [hup_n (by omega)]
              exact ⟨(e4 j (by omega)).trans (hr j (by omega)), (hk j (by omega)).1⟩
          obtain ⟨M5, v1, v2⟩ := hr295 (d := d) (by omega) hO (by omega) R4 hr4
          have v1' : runX d 295 [va_rf (some 160), .int (iI H), .int (iI (L : Int) + (1 : Int32))] M4 = some (.int (iI (hf h (hup r L o) (L + 1)).2.2.2.2), M5) := by
            rw [show iI (L : Int) + (1 : Int32) = iI ((L + 1 : Nat) : Int) from cvI (adI rfl li_1) (by omega)]
            exact v1
          have f5 : Fz hyRZ M M5 := hE.tr (f4.tr (v2.m fun _ _ z => Or.inr z))
          have e5 : ∀ j : Nat, M5.1 253 j = M4.1 253 j := fun j => v2.2 _ _ (show ¬ (253 : Nat) = 254 by decide)
          have R5 := hR.fz f5
          rw [← hM4, vC_e (rk_160 R4.1), cI_e v1']
          rcases (hf_b (h := h) (r := hup r L o) (L + 1)).2.2.2 with z0 | z1
          · rw [z0, if_pos (show iI 0 = 0 from rfl), jv_e, ltI_q (z := o + 1) (adI rfl li_1)]
            exact next M5 f5 (fun j z => (e5 j).trans (e4 j z)) (Or.inl fun z => by omega)
          · rw [z1, if_neg (show ¬ iI 1 = 0 by decide), vC_e (rk_160 R5.1)]
            obtain ⟨b, M6, u1, u2, u3, u4⟩ := hr297 hO m (L + 1) (hup r L o) d M5 (by omega) (by omega) R5 (hk.up ho w2 z1) (fun j z => (e5 j).trans (hr4 j z).1)
            have u1' : runX d 297 [va_rf (some 160), .int (iI H), .int (iI (L : Int) + (1 : Int32))] M5 = some (.int (iI b), M6) := by
              rw [show iI (L : Int) + (1 : Int32) = iI ((L + 1 : Nat) : Int) from cvI (adI rfl li_1) (by omega)]
              exact u1
            have f6 := f5.tr u2
            have e6 : ∀ j : Nat, j < L → M6.1 253 j = M.1 253 j := fun j z => (u3 j (by omega)).trans ((e5 j).trans (e4 j z))
            rw [cI_e u1']
            rcases u4 with ⟨c1, r', c2, c3⟩ | ⟨c1, c2⟩
            · rw [c1, if_neg (show ¬ iI 1 = 0 by decide)]
              refine ⟨1, M6, ?_, f6, e6, Or.inl ⟨rfl, r', hB.fd c2, c3⟩⟩
              rw [jv_e, rtZ_e (Or.inr rfl)]
              rfl
            · rw [c1, if_pos (show iI 0 = 0 from rfl), jv_e, ltI_q (z := o + 1) (adI rfl li_1)]
              exact next M6 f6 e6 (Or.inr c2)
        · rw [cI_e w1, jn_v, if_pos (show iI 0 = 0 from rfl), jv_e, ltI_q (z := o + 1) (adI rfl li_1)]
          exact next M2 hE hE2 (Or.inl fun z => w2 z.1)
    exact turn (hyN h).toNat 0 M 4294967296 (by omega) (by omega) (by omega) Fz.r (fun _ _ => rfl) (hnb.z hL)
end S9e4
