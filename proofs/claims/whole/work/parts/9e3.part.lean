/-! histories: the class looks for a row -/
/-- a HISTORY at x -/
def hyC (h : HY) (x : Nat) (M : Mem) : Prop := (M.2.2.2[x]? = some (2, 7) ∧ M.2.2.1 x 0 = some (x + 1) ∧ M.2.2.1 x 3 = some (x + 2) ∧ M.2.2.1 x 4 = some (x + 8)) ∧ (M.2.2.2[x + 1]? = some (100, 8) ∧ M.2.2.2[x + 2]? = some (113, 5) ∧ M.2.2.2[x + 8]? = some (100, 8)) ∧ (∀ k : Nat, k < 5 → M.2.2.1 (x + 2) k = some (x + 3 + k) ∧ M.2.2.2[x + 3 + k]? = some (100, 8)) ∧ (M.1 x 1 = iI (hyN h) ∧ M.1 x 2 = iI (hyK h)) ∧ ∀ k : Int, 0 ≤ k → k < hyN h → M.1 (x + 3) k.toNat = iI (hyW h k) ∧ M.1 (x + 4) k.toNat = hyV h k ∧ M.1 (x + 5) k.toNat = hyA h k ∧ M.1 (x + 6) k.toNat = iI (hyF h k) ∧ M.1 (x + 7) k.toNat = iI (hyT h k)
def hyZ (x a : Nat) (_ : Nat) : Prop := a = x + 1 ∨ a = x + 8
/-- the row so far, the queue -/
def hyS (h : HY) (x : Nat) (r : Int → Int) (L : Nat) (M : Mem) : Prop := (∀ j : Nat, j < L → M.1 (x + 1) j = iI (r (j : Int))) ∧ ∀ j : Int, 0 ≤ j → j < (hf h r L).2.2.1 → M.1 (x + 8) j.toNat = (hf h r L).2.2.2.1 j
/-- what stays of them -/
def hyE (h : HY) (x : Nat) (r : Int → Int) (L L' : Nat) (M M' : Mem) : Prop := Fz (hyZ x) M M' ∧ (∀ j : Nat, j < L' → M'.1 (x + 1) j = M.1 (x + 1) j) ∧ ∀ j : Int, 0 ≤ j → j < (hf h r L).2.2.1 → M'.1 (x + 8) j.toNat = M.1 (x + 8) j.toNat
def hyX (h : HY) (x : Nat) (r : Int → Int) (L : Nat) (M' : Mem) (b : Int) : Prop := (b = 1 ∧ ∃ r', hls h r L r' ∧ ∀ j : Nat, j < (hyN h).toNat → M'.1 (x + 1) j = iI (r' (j : Int))) ∨ (b = 0 ∧ hnn h r L)
section S9e3
variable {h : HY} {x d L m N : Nat} {M M' M1 M2 : Mem} {r : Int → Int} {o : Int} {rec : Nat → List Value → Mem → XA}
theorem hyC.fz (H : hyC h x M) (f : Fz (hyZ x) M M') : hyC h x M' := by
  obtain ⟨⟨h1, h2, h3, h4⟩, ⟨h5, h6, h7⟩, h8, ⟨h9, h10⟩, h11⟩ := H
  have e1 : M'.2.2.2 = M.2.2.2 := congrArg (fun z => z.2.2) f.1
  have e2 : M'.2.2.1 = M.2.2.1 := congrArg (fun z => z.2.1) f.1
  have e3 : ∀ a j, a ≠ x + 1 → a ≠ x + 8 → M'.1 a j = M.1 a j := fun a j y z => f.2 a j (by unfold hyZ; omega)
  rw [hyC, e1, e2]
  refine ⟨⟨h1, h2, h3, h4⟩, ⟨h5, h6, h7⟩, h8, ⟨(e3 _ _ (by omega) (by omega)).trans h9, (e3 _ _ (by omega) (by omega)).trans h10⟩, fun k a b => ?_⟩
  obtain ⟨t1, t2, t3, t4, t5⟩ := h11 k a b
  exact ⟨(e3 _ _ (by omega) (by omega)).trans t1, (e3 _ _ (by omega) (by omega)).trans t2, (e3 _ _ (by omega) (by omega)).trans t3, (e3 _ _ (by omega) (by omega)).trans t4, (e3 _ _ (by omega) (by omega)).trans t5⟩
theorem hyE.rr (L' : Nat) : hyE h x r L L' M M := ⟨Fz.r, fun _ _ => rfl, fun _ _ _ => rfl⟩
theorem hyE.tr {L' : Nat} (a : hyE h x r L L' M M1) (b : hyE h x r L L' M1 M2) : hyE h x r L L' M M2 := ⟨a.1.tr b.1, fun j z => (b.2.1 j z).trans (a.2.1 j z), fun j y z => (b.2.2 j y z).trans (a.2.2 j y z)⟩
theorem hyS.e {L' : Nat} (S : hyS h x r L M) (a : hyE h x r L L' M M') (hl : L ≤ L') : hyS h x r L M' := ⟨fun j z => (a.2.1 j (by omega)).trans (S.1 j z), fun j y z => (a.2.2 j y z).trans (S.2 j y z)⟩
theorem hok.w (H : hok h r L) : (hf h r L).2.2.2.2 = 1 := by
  cases L with
  | zero => rfl
  | succ L => exact (H L (by omega)).2.2
theorem hbit (H : hok h r L) (hO : hyO h) (ho : 0 ≤ o ∧ o < hyN h) : (((iI (hmk r L : Nat) >>> (iI o &&& 31)) &&& ((1 : Int32))) = 0 ∧ ∀ i : Nat, i < L → r (i : Int) ≠ o) ∨ (¬ ((iI (hmk r L : Nat) >>> (iI o &&& 31)) &&& ((1 : Int32))) = 0 ∧ ∃ i : Nat, i < L ∧ r (i : Int) = o) := by
  have n8 := hO.2.1.2
  obtain ⟨g1, g2, g3⟩ := hmk_b L H n8
  obtain ⟨k, rfl⟩ : ∃ k : Nat, o = (k : Int) := ⟨o.toNat, by omega⟩
  have e := hb_2 _ g1 k (by omega)
  rw [e]
  by_cases c : hmk r L / 2 ^ k % 2 = 1
  · refine Or.inr ⟨?_, (g3 k (by omega)).mp c⟩
    rw [c]; decide
  · refine Or.inl ⟨?_, fun i a b => c ((g3 k (by omega)).mpr ⟨i, a, b⟩)⟩
    rw [show hmk r L / 2 ^ k % 2 = 0 by omega]
    decide
/-- whether an OP may come next -/
theorem hc10_2 {j37 j45 : Unit → XA} (H : hok h r L) (hO : hyO h) (hC : hyC h x M) (ho : 0 ≤ o ∧ o < hyN h) : ∀ (m : Nat) (a : Int) (Nf : Nat), a + (m : Int) = hyN h → 0 ≤ a → m < Nf → (∀ c : Int, 0 ≤ c → c < a → (∃ i : Nat, i < L ∧ r (i : Int) = c) ∨ hyF h o ≤ hyT h c) → (lp (c10_2 rec (some x) (iI o) (iI (hmk r L : Nat)) M j37 j45) Nf (iI a) = j45 () ∧ ∀ c : Int, 0 ≤ c → c < hyN h → (∃ i : Nat, i < L ∧ r (i : Int) = c) ∨ hyF h o ≤ hyT h c) ∨ (lp (c10_2 rec (some x) (iI o) (iI (hmk r L : Nat)) M j37 j45) Nf (iI a) = j37 () ∧ ¬ ∀ c : Int, 0 ≤ c → c < hyN h → (∃ i : Nat, i < L ∧ r (i : Int) = c) ∨ hyF h o ≤ hyT h c)
  | 0, a, Nf, e, a0, hN, hb => by
    obtain ⟨Nf, rfl⟩ : ∃ e, Nf = e + 1 := ⟨Nf - 1, by omega⟩
    refine Or.inl ⟨?_, fun c y z => hb c y (by omega)⟩
    rw [lp_e]; unfold c10_2
    have n8 := hO.2.1
    rw [gtI_q hC.1.1 hC.2.2.2.1.1, if_pos (leI_p rfl rfl (by omega))]
  | m + 1, a, Nf, e, a0, hN, hb => by
    obtain ⟨Nf, rfl⟩ : ∃ e, Nf = e + 1 := ⟨Nf - 1, by omega⟩
    have n8 := hO.2.1
    obtain ⟨⟨k1, k2, k3, k4⟩, ⟨k5, k6, k7⟩, k8, ⟨k9, k10⟩, k11⟩ := hC
    obtain ⟨-, -, -, -, t5⟩ := k11 a a0 (by omega)
    obtain ⟨-, -, -, u4, -⟩ := k11 o ho.1 ho.2
    obtain ⟨-, o1, o2, o3⟩ := hO.2.2 a a0 (by omega)
    obtain ⟨-, p1, p2, p3⟩ := hO.2.2 o ho.1 ho.2
    have next : (∃ i : Nat, i < L ∧ r (i : Int) = a) ∨ hyF h o ≤ hyT h a → (lp (c10_2 rec (some x) (iI o) (iI (hmk r L : Nat)) M j37 j45) Nf (iI (a + 1)) = j45 () ∧ ∀ c : Int, 0 ≤ c → c < hyN h → (∃ i : Nat, i < L ∧ r (i : Int) = c) ∨ hyF h o ≤ hyT h c) ∨ (lp (c10_2 rec (some x) (iI o) (iI (hmk r L : Nat)) M j37 j45) Nf (iI (a + 1)) = j37 () ∧ ¬ ∀ c : Int, 0 ≤ c → c < hyN h → (∃ i : Nat, i < L ∧ r (i : Int) = c) ∨ hyF h o ≤ hyT h c) := fun q => hc10_2 H hO ⟨⟨k1, k2, k3, k4⟩, ⟨k5, k6, k7⟩, k8, ⟨k9, k10⟩, k11⟩ ho m (a + 1) Nf (by omega) (by omega) (by omega) fun c y z => by
      by_cases w : c = a
      · rw [w]; exact q
      · exact hb c y (by omega)
    have pre : c10_2 rec (some x) (iI o) (iI (hmk r L : Nat)) M j37 j45 (iI a) (lp (c10_2 rec (some x) (iI o) (iI (hmk r L : Nat)) M j37 j45) Nf) = if ((iI (hmk r L : Nat) >>> (iI a &&& 31)) &&& ((1 : Int32))) = 0 then (if iI (hyF h o) ≤ iI (hyT h a) then lp (c10_2 rec (some x) (iI o) (iI (hmk r L : Nat)) M j37 j45) Nf (iI (a + 1)) else j37 ()) else lp (c10_2 rec (some x) (iI o) (iI (hmk r L : Nat)) M j37 j45) Nf (iI (a + 1)) := by
      unfold c10_2
      rw [gtI_q k1 k9, if_neg (leI_n rfl rfl (by omega)), jn_v, gtP_q k1 k3, alP_q (c := (4 : Int32)) (z := 4) k6 rfl (by decide) (k8 4 (by decide)).1, alI_q (n := 8) (z := a) (k8 4 (by decide)).2 rfl (by omega) t5, gtP_q k1 k3, alP_q (c := (3 : Int32)) (z := 3) k6 rfl (by decide) (k8 3 (by decide)).1, alI_q (n := 8) (z := o) (k8 3 (by decide)).2 rfl (by omega) u4, jv_e, ltI_q (z := a + 1) (adI rfl li_1)]
    rw [lp_e, pre]
    rcases hbit H hO ⟨a0, by omega⟩ with ⟨c1, c2⟩ | ⟨c1, c2⟩
    · rw [if_pos c1]
      by_cases c3 : hyF h o ≤ hyT h a
      · rw [if_pos (leI_p rfl rfl (by omega))]
        exact next (Or.inr c3)
      · rw [if_neg (leI_n rfl rfl (by omega))]
        refine Or.inr ⟨rfl, fun z => ?_⟩
        rcases z a a0 (by omega) with ⟨i, w1, w2⟩ | w
        · exact c2 i w1 w2
        · exact c3 w
    · rw [if_neg c1]
      exact next (Or.inl c2)
theorem hc10 (hd : 1 ≤ d) (H : hok h r L) (hO : hyO h) (hC : hyC h x M) (ho : 0 ≤ o ∧ o < hyN h) (hn : ∀ i : Nat, i < L → r (i : Int) ≠ o) : (runX d 10 [va_rf (some x), .int (iI o), .int (iI (hmk r L : Nat))] M = some (.int (iI 1), M) ∧ hmy h r L o) ∨ (runX d 10 [va_rf (some x), .int (iI o), .int (iI (hmk r L : Nat))] M = some (.int (iI 0), M) ∧ ¬ hmy h r L o) := by
  obtain ⟨d, rfl⟩ : ∃ e, d = e + 1 := ⟨d - 1, by omega⟩
  have n8 := hO.2.1
  have e : runX (d + 1) 10 [va_rf (some x), .int (iI o), .int (iI (hmk r L : Nat))] M = lp (c10_2 (runX d) (some x) (iI o) (iI (hmk r L : Nat)) M (jv fun (_ : Unit) => rtZ ((0 : Int32)) M) (jv fun (_ : Unit) => rtZ ((1 : Int32)) M)) 4294967296 (iI 0) := by
    rw [r10]; unfold b10; rw [aR_e, aI_e, aI_e, aZ_e]; unfold c10
    rw [jn_v, jn_v, li_0]
  rw [e]
  rcases hc10_2 (rec := runX d) (j37 := jv fun (_ : Unit) => rtZ ((0 : Int32)) M) (j45 := jv fun (_ : Unit) => rtZ ((1 : Int32)) M) H hO hC ho (hyN h).toNat 0 4294967296 (by omega) (by omega) (by omega) (fun c y z => by omega) with ⟨a, b⟩ | ⟨a, b⟩
  · refine Or.inl ⟨?_, hn, fun c y z => ?_⟩
    · rw [a, jv_e, rtZ_e (Or.inr rfl), li_1]
    · rcases b c y z with w | w
      · exact Or.inl w
      · exact Or.inr (Or.inr w)
  · refine Or.inr ⟨?_, fun z => b fun c y w => ?_⟩
    · rw [a, jv_e, rtZ_e (Or.inl rfl), li_0]
    · rcases z.2 c y w with v | v | v
      · exact Or.inl v
      · rw [v]; exact Or.inr (hO.2.2 o ho.1 ho.2).2.2.1
      · exact Or.inr v
/-- what is asked of completes() with one OP more -/
def hI8 (h : HY) (x d : Nat) (r : Int → Int) (L : Nat) : Prop := ∀ M : Mem, hyC h x M → hyS h x r L M → hok h r L → ∃ (b : Int) (M' : Mem), runX d 8 [va_rf (some x), .int (iI (L : Int)), .int (iI (hmk r L : Nat)), .int (hf h r L).1, .int (iI (hf h r L).2.1), .int (iI (hf h r L).2.2.1)] M = some (.int (iI b), M') ∧ hyE h x r L L M M' ∧ hyX h x r L M' b
/-- an OP is done, the row goes on behind it -/
theorem hc9 (hd : 2 ≤ d) (H : hok h r L) (hO : hyO h) (hC : hyC h x M) (hS : hyS h x r L M) (ho : 0 ≤ o ∧ o < hyN h) (hm : hmy h r L o) (hL : L < (hyN h).toNat) (hrow : M.1 (x + 1) L = iI o) (I : hI8 h x (d - 1) (hup r L o) (L + 1)) : ∃ (b : Int) (M' : Mem), runX d 9 [va_rf (some x), .int (iI o), .int (iI (hmk (hup r L o) (L + 1) : Nat)), .int (hf h r L).1, .int (iI (hf h r L).2.1), .int (iI (hf h r L).2.2.1)] M = some (.int (iI b), M') ∧ hyE h x r L (L + 1) M M' ∧ ((b = 1 ∧ ∃ r', hls h (hup r L o) (L + 1) r' ∧ ∀ j : Nat, j < (hyN h).toNat → M'.1 (x + 1) j = iI (r' (j : Int))) ∨ (b = 0 ∧ (¬ (hf h (hup r L o) (L + 1)).2.2.2.2 = 1 ∨ hnn h (hup r L o) (L + 1)))) := by
  obtain ⟨d, rfl⟩ : ∃ e, d = e + 1 := ⟨d - 1, by omega⟩
  rw [Nat.add_sub_cancel] at I
  have n8 := hO.2.1
  have hw := H.w
  have ef : hf h (hup r L o) (L + 1) = hst h o (hf h r L) := by
    show hst h (hup r L o (L : Int)) (hf h (hup r L o) L) = _
    rw [hup_e, hf_c L hup_x]
  obtain ⟨b1, b2, b3, -⟩ := hf_b (h := h) (r := r) L
  obtain ⟨-, -, -, -, tb, -⟩ := hst_b (h := h) (hf h r L) o (L : Int) (hf_b L)
  obtain ⟨⟨k1, k2, k3, k4⟩, ⟨k5, k6, k7⟩, k8, ⟨k9, k10⟩, k11⟩ := id hC
  obtain ⟨t1, t2, t3, t4, t5⟩ := k11 o ho.1 ho.2
  obtain ⟨w1, -⟩ := hO.2.2 o ho.1 ho.2
  -- how many OPS
  have pc : (hf h (hup r L o) (L + 1)).2.2.2.2 = 1 → popN 16 (hmk (hup r L o) (L + 1)) = L + 1 ∧ hmk (hup r L o) (L + 1) < 65536 := fun z => by
    obtain ⟨g1, g2, -⟩ := hmk_b (L + 1) (H.up ho hm z) n8.2
    exact ⟨g2, by omega⟩
  have hmk8 : hmk (hup r L o) (L + 1) < 65536 := by
    obtain ⟨g1, g2, g3⟩ := hmk_b L H n8.2
    obtain ⟨k, hk⟩ : ∃ k : Nat, o = (k : Int) := ⟨o.toNat, by omega⟩
    have c : hmk r L / 2 ^ k % 2 = 0 := by
      by_cases z : hmk r L / 2 ^ k % 2 = 1
      · obtain ⟨i, w1, w2⟩ := (g3 k (by omega)).mp z
        exact absurd (w2.trans hk.symm) (hm.1 i w1)
      · omega
    obtain ⟨c1, -⟩ := hb_1 _ g1 k (by omega) c
    have e : hmk (hup r L o) (L + 1) = hmk (hup r L o) L + 2 ^ k := by
      show hmk (hup r L o) L + 2 ^ (hup r L o (L : Int)).toNat = _
      rw [hup_e, hk]
      rfl
    have e2 : ∀ L' : Nat, L' ≤ L → hmk (hup r L o) L' = hmk r L' := fun L' => by
      induction L' with
      | zero => intro _; rfl
      | succ L' ih =>
        intro z
        show hmk (hup r L o) L' + 2 ^ (hup r L o (L' : Int)).toNat = hmk r L' + 2 ^ (r (L' : Int)).toNat
        rw [ih (by omega), hup_n (by omega)]
    rw [e, e2 L (Nat.le_refl _)]
    omega
  have e315 : runX d 315 [.int (iI (hmk (hup r L o) (L + 1) : Nat))] M = some (.int (iI (popN 16 (hmk (hup r L o) (L + 1)) : Nat)), M) := by
    rw [zr315 (by omega), bcx_e hmk8]
  obtain ⟨pn, hpn⟩ : ∃ pn, pn = popN 16 (hmk (hup r L o) (L + 1)) := ⟨_, rfl⟩
  rw [← hpn] at e315 pc
  -- the row goes on
  have go : ∀ (M1 : Mem) (v : Int32) (a b : Int), hyE h x r L (L + 1) M M1 → (hf h (hup r L o) (L + 1)).2.2.2.2 = 1 → (hf h (hup r L o) (L + 1)).1 = v → (hf h (hup r L o) (L + 1)).2.1 = a → (hf h (hup r L o) (L + 1)).2.2.1 = b → (∀ j : Int, 0 ≤ j → j < b → M1.1 (x + 8) j.toNat = (hf h (hup r L o) (L + 1)).2.2.2.1 j) → ∃ (bb : Int) (M' : Mem), runX d 8 [va_rf (some x), .int (iI (pn : Nat)), .int (iI (hmk (hup r L o) (L + 1) : Nat)), .int v, .int (iI a), .int (iI b)] M1 = some (.int (iI bb), M') ∧ hyE h x r L (L + 1) M M' ∧ (bb = 0 ∨ bb = 1) ∧ ((bb = 1 ∧ ∃ r', hls h (hup r L o) (L + 1) r' ∧ ∀ j : Nat, j < (hyN h).toNat → M'.1 (x + 1) j = iI (r' (j : Int))) ∨ (bb = 0 ∧ (¬ (hf h (hup r L o) (L + 1)).2.2.2.2 = 1 ∨ hnn h (hup r L o) (L + 1)))) := fun M1 v a b z1 z2 z3 z4 z5 z6 => by
    have q := I M1 (hC.fz z1.1) ⟨fun j y => (z1.2.1 j y).trans (by
      by_cases u : j = L
      · rw [u, hup_e]; exact hrow
      · rw [hup_n (by omega)]; exact hS.1 j (by omega)), fun j y w => z6 j y (by rw [← z5]; exact w)⟩ (H.up ho hm z2)
    rw [z3, z4, z5] at q
    obtain ⟨bb, M', q1, q2, q3⟩ := q
    rw [(pc z2).1]
    refine ⟨bb, M', q1, ⟨z1.1.tr q2.1, fun j y => (q2.2.1 j y).trans (z1.2.1 j y), fun j y w => (q2.2.2 j y ?_).trans (z1.2.2 j y w)⟩, ?_, ?_⟩
    · rw [ef]; omega
    · rcases q3 with q | q
      · exact Or.inr q.1
      · exact Or.inl q.1
    · rcases q3 with ⟨c1, c2⟩ | ⟨c1, c2⟩
      · exact Or.inl ⟨c1, c2⟩
      · exact Or.inr ⟨c1, Or.inr c2⟩
  have ret : ∀ (bb : Int) (M' : Mem), (bb = 0 ∨ bb = 1) → (if iI bb = 0 then rtZ ((0 : Int32)) M' else rtZ ((1 : Int32)) M' : XA) = some (.int (iI bb), M') := fun bb M' z => by
    rcases z with z | z <;> rw [z]
    · rw [if_pos (show iI 0 = 0 from rfl), rtZ_e (Or.inl rfl)]; rfl
    · rw [if_neg (show ¬ iI 1 = 0 by decide), rtZ_e (Or.inr rfl)]; rfl
  rw [r9]; unfold b9; rw [aR_e, aI_e, aI_e, aI_e, aI_e, aI_e, aZ_e]; unfold c9
  rw [cI_e e315, gtP_q k1 k3, alP_q (c := (1 : Int32)) (z := 1) k6 rfl (by decide) (k8 1 (by decide)).1, alI_q (n := 8) (z := o) (k8 1 (by decide)).2 rfl (by omega) t2, gtP_q k1 k3, alP_q (c := (2 : Int32)) (z := 2) k6 rfl (by decide) (k8 2 (by decide)).1, alI_q (n := 8) (z := o) (k8 2 (by decide)).2 rfl (by omega) t3, gtP_q k1 k3, alP_q (c := (0 : Int32)) (z := 0) k6 rfl (by decide) (k8 0 (by decide)).1, alI_q (n := 8) (z := o) (k8 0 (by decide)).2 rfl (by omega) t1, jn_v]
  by_cases cK : hyK h = 2
  · by_cases cW : hyW h o = 0
    · -- put
      have es : hst h o (hf h r L) = ((hf h r L).1, (hf h r L).2.1, (hf h r L).2.2.1 + 1, (fun j => if j = (hf h r L).2.2.1 then hyV h o else (hf h r L).2.2.2.1 j), if hyA h o = 0 then (hf h r L).2.2.2.2 else 0) := by
        unfold hst
        rw [if_pos cK, if_pos cW]
      rw [if_pos (show iI (hyW h o) = 0 by rw [cW]; rfl), jv_e, gtI_q k1 k10, jn_v, if_pos (show iI (hyK h) = (2 : Int32) by rw [cK]; rfl), if_neg (show ¬ (1 : Int32) = 0 by decide), gtP_q k1 k4, asI_e (z := (hf h r L).2.2.1) (n := 8) k7 (by omega) (by omega) (by omega)]
      obtain ⟨M5, hM5⟩ : ∃ X, X = sI M (x + 8) (hf h r L).2.2.1.toNat (hyV h o) := ⟨_, rfl⟩
      have E5 : hyE h x r L (L + 1) M M5 := by
        rw [hM5]
        exact ⟨(Fz.r).si (Or.inr rfl), fun j y => sI_ne (by omega), fun j y z => sI_nej (by omega)⟩
      have k15 : M5.2.2.2[x]? = some (2, 7) := by rw [hM5]; exact k1
      rw [← hM5, jn_v, jn_v]
      by_cases cA : hyA h o = 0
      · rw [if_pos cA, vC_e k15]
        have z2 : (hf h (hup r L o) (L + 1)).2.2.2.2 = 1 := by rw [ef, es, if_pos cA]; exact hw
        obtain ⟨bb, M', q1, q2, q3, q4⟩ := go M5 (hf h r L).1 (hf h r L).2.1 ((hf h r L).2.2.1 + 1) E5 z2 (by rw [ef, es]) (by rw [ef, es]) (by rw [ef, es]) (fun j y z => by
          rw [ef, es, hM5]
          dsimp only
          by_cases u : j = (hf h r L).2.2.1
          · rw [if_pos u, u]; exact sI_eq
          · rw [if_neg u]; exact (sI_nej (by omega)).trans (hS.2 j y (by omega)))
        refine ⟨bb, M', ?_, q2, q4⟩
        rw [show iI (hf h r L).2.2.1 + (1 : Int32) = iI ((hf h r L).2.2.1 + 1) from adI rfl li_1, cI_e q1]
        exact ret bb M' q3
      · rw [if_neg cA]
        refine ⟨0, M5, ?_, E5, Or.inr ⟨rfl, Or.inl ?_⟩⟩
        · rw [jv_e, jv_e, rtZ_e (Or.inl rfl)]; rfl
        · rw [ef, es, if_neg cA]
          show ¬ (0 : Int) = 1
          decide
    · -- take
      rw [if_neg (show ¬ iI (hyW h o) = 0 from eqI_n (y := 0) rfl li_0 (by omega)), jv_e, gtI_q k1 k10, jn_v, if_pos (show iI (hyK h) = (2 : Int32) by rw [cK]; rfl), if_pos rfl, jv_e, gtI_q k1 k10, if_pos (show iI (hyK h) = (2 : Int32) by rw [cK]; rfl), jn_v]
      by_cases cE : (hf h r L).2.1 = (hf h r L).2.2.1
      · have es : hst h o (hf h r L) = ((hf h r L).1, (hf h r L).2.1, (hf h r L).2.2.1, (hf h r L).2.2.2.1, if hyA h o = -1 then (hf h r L).2.2.2.2 else 0) := by
          unfold hst
          rw [if_pos cK, if_neg cW, if_pos cE]
        rw [if_neg (lsI_n rfl rfl (by omega)), jv_e, jn_v, if_neg (show ¬ (1 : Int32) = 0 by decide), jv_e, jn_v, jn_v]
        by_cases cA : hyA h o = -1
        · rw [if_pos (show hyA h o = (-1 : Int32) from cA), jn_v, if_neg (show ¬ (1 : Int32) = 0 by decide), jv_e, vC_e k1]
          have z2 : (hf h (hup r L o) (L + 1)).2.2.2.2 = 1 := by rw [ef, es, if_pos cA]; exact hw
          obtain ⟨bb, M', q1, q2, q3, q4⟩ := go M (hf h r L).1 (hf h r L).2.1 (hf h r L).2.2.1 (hyE.rr _) z2 (by rw [ef, es]) (by rw [ef, es]) (by rw [ef, es]) (fun j y z => by rw [ef, es]; exact hS.2 j y z)
          refine ⟨bb, M', ?_, q2, q4⟩
          rw [cI_e q1]
          exact ret bb M' q3
        · rw [if_neg (show ¬ hyA h o = (-1 : Int32) from cA)]
          refine ⟨0, M, ?_, hyE.rr _, Or.inr ⟨rfl, Or.inl ?_⟩⟩
          · rw [jv_e, jv_e, rtZ_e (Or.inl rfl)]; rfl
          · rw [ef, es, if_neg cA]
            show ¬ (0 : Int) = 1
            decide
      · have es : hst h o (hf h r L) = ((hf h r L).1, (hf h r L).2.1 + 1, (hf h r L).2.2.1, (hf h r L).2.2.2.1, if hyA h o = (hf h r L).2.2.2.1 (hf h r L).2.1 then (hf h r L).2.2.2.2 else 0) := by
          unfold hst
          rw [if_pos cK, if_neg cW, if_neg cE]
        rw [if_pos (lsI_p rfl rfl (by omega)), jv_e, jn_v, if_pos rfl, gtP_q k1 k4, alI_q (n := 8) (z := (hf h r L).2.1) k7 rfl (by omega) (hS.2 _ b1 (by omega)), jv_e, jn_v, jn_v]
        by_cases cA : hyA h o = (hf h r L).2.2.2.1 (hf h r L).2.1
        · rw [if_pos cA, jn_v, if_pos rfl, jv_e, vC_e k1]
          have z2 : (hf h (hup r L o) (L + 1)).2.2.2.2 = 1 := by rw [ef, es, if_pos cA]; exact hw
          obtain ⟨bb, M', q1, q2, q3, q4⟩ := go M (hf h r L).1 ((hf h r L).2.1 + 1) (hf h r L).2.2.1 (hyE.rr _) z2 (by rw [ef, es]) (by rw [ef, es]) (by rw [ef, es]) (fun j y z => by rw [ef, es]; exact hS.2 j y z)
          refine ⟨bb, M', ?_, q2, q4⟩
          rw [show iI (hf h r L).2.1 + (1 : Int32) = iI ((hf h r L).2.1 + 1) from adI rfl li_1, cI_e q1]
          exact ret bb M' q3
        · rw [if_neg cA]
          refine ⟨0, M, ?_, hyE.rr _, Or.inr ⟨rfl, Or.inl ?_⟩⟩
          · rw [jv_e, jv_e, rtZ_e (Or.inl rfl)]; rfl
          · rw [ef, es, if_neg cA]
            show ¬ (0 : Int) = 1
            decide
  · -- a number
    have kb := hO.1
    have n2 : ¬ iI (hyK h) = (2 : Int32) := eqI_n (y := 2) rfl rfl (by omega)
    -- what comes of it
    have num : ∀ (v dv : Int32), hst h o (hf h r L) = (v, (hf h r L).2.1, (hf h r L).2.2.1, (hf h r L).2.2.2.1, if hyA h o = dv then (hf h r L).2.2.2.2 else 0) → ∃ (b : Int) (M' : Mem), (jn (fun (s27 : Int32 × Mem) => rtZ s27.1 s27.2) fun j246 => jn (fun (s28 : Mem) => j246 ((0 : Int32), s28)) fun j245 => if hyA h o = dv then ( vC (2, 7) M (some x) <| cI (runX d 8 [va_rf (some x), .int (iI (pn : Nat)), .int (iI (hmk (hup r L o) (L + 1) : Nat)), .int v, .int (iI (hf h r L).2.1), .int (iI (hf h r L).2.2.1)] M) fun x30 M29 => if x30 = 0 then ( j245 M29) else ( j246 ((1 : Int32), M29))) else ( j245 M) : XA) = some (.int (iI b), M') ∧ hyE h x r L (L + 1) M M' ∧ ((b = 1 ∧ ∃ r', hls h (hup r L o) (L + 1) r' ∧ ∀ j : Nat, j < (hyN h).toNat → M'.1 (x + 1) j = iI (r' (j : Int))) ∨ (b = 0 ∧ (¬ (hf h (hup r L o) (L + 1)).2.2.2.2 = 1 ∨ hnn h (hup r L o) (L + 1)))) := fun v dv es => by
      rw [jn_v, jn_v]
      by_cases cA : hyA h o = dv
      · rw [if_pos cA, vC_e k1]
        have z2 : (hf h (hup r L o) (L + 1)).2.2.2.2 = 1 := by rw [ef, es, if_pos cA]; exact hw
        obtain ⟨bb, M', q1, q2, q3, q4⟩ := go M v (hf h r L).2.1 (hf h r L).2.2.1 (hyE.rr _) z2 (by rw [ef, es]) (by rw [ef, es]) (by rw [ef, es]) (fun j y z => by rw [ef, es]; exact hS.2 j y z)
        refine ⟨bb, M', ?_, q2, q4⟩
        rw [cI_e q1]
        exact ret bb M' q3
      · rw [if_neg cA]
        refine ⟨0, M, ?_, hyE.rr _, Or.inr ⟨rfl, Or.inl ?_⟩⟩
        · rw [jv_e, jv_e, rtZ_e (Or.inl rfl)]; rfl
        · rw [ef, es, if_neg cA]
          show ¬ (0 : Int) = 1
          decide
    by_cases cW : hyW h o = 0
    · rw [if_pos (show iI (hyW h o) = 0 by rw [cW]; rfl), jv_e, gtI_q k1 k10, jn_v, if_neg n2, jv_e, gtI_q k1 k10, if_neg n2, jn_v, if_neg (show ¬ (1 : Int32) = 0 by decide), gtI_q k1 k10]
      by_cases cO : hyK h = 1
      · rw [if_pos (show iI (hyK h) = (1 : Int32) by rw [cO]; rfl), jv_e, jn_v, jn_v, if_neg (show ¬ (1 : Int32) = 0 by decide), gtI_q k1 k10, if_neg (show ¬ iI (hyK h) = 0 from eqI_n (y := 0) rfl li_0 (by omega)), jv_e, jv_e]
        refine num ((hf h r L).1 + hyV h o) ((hf h r L).1 + hyV h o) ?_
        unfold hst
        rw [if_neg cK, if_neg (by omega), if_pos cO]
      · rw [if_neg (show ¬ iI (hyK h) = (1 : Int32) from eqI_n (y := 1) rfl rfl (by omega)), jv_e, jn_v, jn_v, if_neg (show ¬ (1 : Int32) = 0 by decide), gtI_q k1 k10, if_pos (show iI (hyK h) = 0 by rw [show hyK h = 0 by omega]; rfl), jv_e]
        refine num (hyV h o) 0 ?_
        unfold hst
        rw [if_neg cK, if_neg (by omega), if_neg cO]
    · rw [if_neg (show ¬ iI (hyW h o) = 0 from eqI_n (y := 0) rfl li_0 (by omega)), jv_e, gtI_q k1 k10, jn_v, if_neg n2, jv_e, gtI_q k1 k10, if_neg n2, jn_v, if_pos rfl, jv_e, jn_v, jn_v, if_pos rfl, jv_e, jv_e]
      refine num (hf h r L).1 (hf h r L).1 ?_
      unfold hst
      rw [if_neg cK, if_pos (by omega)]
/-- the row, from some OPS on -/
theorem hc8 (hO : hyO h) : ∀ (m L : Nat) (r : Int → Int) (d : Nat), L + m = (hyN h).toNat → 2 * m + 3 ≤ d → hI8 h x d r L
  | 0, L, r, d, e, hd => fun M hC hS H => by
    obtain ⟨d, rfl⟩ : ∃ e, d = e + 1 := ⟨d - 1, by omega⟩
    have n8 := hO.2.1
    have eL : L = (hyN h).toNat := by omega
    refine ⟨1, M, ?_, hyE.rr _, Or.inl ⟨rfl, r, by rw [eL] at H ⊢; exact hls.z H, fun j z => hS.1 j (by omega)⟩⟩
    rw [r8]; unfold b8; rw [aR_e, aI_e, aI_e, aI_e, aI_e, aI_e, aZ_e]; unfold c8
    rw [gtI_q hC.1.1 hC.2.2.2.1.1, if_neg (lsI_n rfl rfl (by omega)), rtZ_e (Or.inr rfl)]
    rfl
  | m + 1, L, r, d, e, hd => fun M hC hS H => by
    obtain ⟨d, rfl⟩ : ∃ e, d = e + 1 := ⟨d - 1, by omega⟩
    have n8 := hO.2.1
    have hL : L < (hyN h).toNat := by omega
    obtain ⟨b1, b2, b3, -⟩ := hf_b (h := h) (r := r) L
    have st : runX (d + 1) 8 [va_rf (some x), .int (iI (L : Int)), .int (iI (hmk r L : Nat)), .int (hf h r L).1, .int (iI (hf h r L).2.1), .int (iI (hf h r L).2.2.1)] M = lp (c8_13 (runX d) (some x) (iI (L : Int)) (iI (hmk r L : Nat)) (hf h r L).1 (iI (hf h r L).2.1) (iI (hf h r L).2.2.1) (jv fun (s2 : Mem) => rtZ ((1 : Int32)) s2) (jv fun (s3 : Mem) => rtZ ((0 : Int32)) s3)) 4294967296 (iI 0, M) := by
      rw [r8]; unfold b8; rw [aR_e, aI_e, aI_e, aI_e, aI_e, aI_e, aZ_e]; unfold c8
      rw [gtI_q hC.1.1 hC.2.2.2.1.1, if_pos (lsI_p rfl rfl (by omega)), jn_v, jn_v, li_0]
    rw [st]
    have turn : ∀ (k : Nat) (o : Int) (M2 : Mem) (Nf : Nat), o + (k : Int) = hyN h → 0 ≤ o → k < Nf → hyE h x r L L M M2 → hnb h r L o → ∃ (b : Int) (M' : Mem), lp (c8_13 (runX d) (some x) (iI (L : Int)) (iI (hmk r L : Nat)) (hf h r L).1 (iI (hf h r L).2.1) (iI (hf h r L).2.2.1) (jv fun (s2 : Mem) => rtZ ((1 : Int32)) s2) (jv fun (s3 : Mem) => rtZ ((0 : Int32)) s3)) Nf (iI o, M2) = some (.int (iI b), M') ∧ hyE h x r L L M M' ∧ hyX h x r L M' b := by
      intro k
      induction k with
      | zero =>
        intro o M2 Nf ek o0 hN hE hB
        obtain ⟨Nf, rfl⟩ : ∃ e, Nf = e + 1 := ⟨Nf - 1, by omega⟩
        have C2 := hC.fz hE.1
        refine ⟨0, M2, ?_, hE, Or.inr ⟨rfl, ?_⟩⟩
        · rw [lp_e]; unfold c8_13
          dsimp only
          rw [gtI_q C2.1.1 C2.2.2.2.1.1, if_pos (leI_p rfl rfl (by omega)), jv_e, rtZ_e (Or.inl rfl)]
          rfl
        · rw [show o = hyN h by omega] at hB
          exact hB.en hL
      | succ k ihk =>
        intro o M2 Nf ek o0 hN hE hB
        obtain ⟨Nf, rfl⟩ : ∃ e, Nf = e + 1 := ⟨Nf - 1, by omega⟩
        have C2 := hC.fz hE.1
        have S2 := hS.e hE (Nat.le_refl _)
        have ho : 0 ≤ o ∧ o < hyN h := ⟨o0, by omega⟩
        have next : ∀ M3 : Mem, hyE h x r L L M M3 → (¬ (hmy h r L o ∧ (hf h (hup r L o) (L + 1)).2.2.2.2 = 1) ∨ hnn h (hup r L o) (L + 1)) → ∃ (b : Int) (M' : Mem), lp (c8_13 (runX d) (some x) (iI (L : Int)) (iI (hmk r L : Nat)) (hf h r L).1 (iI (hf h r L).2.1) (iI (hf h r L).2.2.1) (jv fun (s2 : Mem) => rtZ ((1 : Int32)) s2) (jv fun (s3 : Mem) => rtZ ((0 : Int32)) s3)) Nf (iI (o + 1), M3) = some (.int (iI b), M') ∧ hyE h x r L L M M' ∧ hyX h x r L M' b := fun M3 z w => ihk (o + 1) M3 Nf (by omega) (by omega) (by omega) z (hB.st w hL)
        rw [lp_e]; unfold c8_13
        dsimp only
        rw [gtI_q C2.1.1 C2.2.2.2.1.1, if_neg (leI_n rfl rfl (by omega)), jn_v]
        rcases hbit H hO ho with ⟨c1, c2⟩ | ⟨c1, i, c2, c3⟩
        · rw [if_pos c1, vC_e C2.1.1]
          rcases hc10 (d := d) (by omega) H hO C2 ho c2 with ⟨y1, y2⟩ | ⟨y1, y2⟩
          · rw [cI_e y1, if_neg (show ¬ iI 1 = 0 by decide), gtP_q C2.1.1 C2.1.2.1, asI_e (z := (L : Int)) (n := 8) C2.2.1.1 (by omega) (by omega) (by omega)]
            obtain ⟨M4, hM4⟩ : ∃ X, X = sI M2 (x + 1) (L : Int).toNat (iI o) := ⟨_, rfl⟩
            have tn : (L : Int).toNat = L := by omega
            have E4 : hyE h x r L L M2 M4 := by
              rw [hM4, tn]
              exact ⟨(Fz.r).si (Or.inl rfl), fun j z => sI_nej (by omega), fun j y z => sI_ne (by omega)⟩
            have C4 := C2.fz E4.1
            have S4 := S2.e E4 (Nat.le_refl _)
            have g := hmk_b L H n8.2
            have em : (iI (hmk r L : Nat) ||| (((1 : Int32)) <<< (iI o &&& 31))) = iI (hmk (hup r L o) (L + 1) : Nat) := by
              obtain ⟨k, hk⟩ : ∃ k : Nat, o = (k : Int) := ⟨o.toNat, by omega⟩
              have c : hmk r L / 2 ^ k % 2 = 0 := by
                by_cases z : hmk r L / 2 ^ k % 2 = 1
                · obtain ⟨i, w1, w2⟩ := (g.2.2 k (by omega)).mp z
                  exact absurd (w2.trans hk.symm) (c2 i w1)
                · omega
              have e2 : ∀ L' : Nat, L' ≤ L → hmk (hup r L o) L' = hmk r L' := fun L' => by
                induction L' with
                | zero => intro _; rfl
                | succ L' ih =>
                  intro z
                  show hmk (hup r L o) L' + 2 ^ (hup r L o (L' : Int)).toNat = hmk r L' + 2 ^ (r (L' : Int)).toNat
                  rw [ih (by omega), hup_n (by omega)]
              have e3 : hmk (hup r L o) (L + 1) = hmk r L + 2 ^ k := by
                show hmk (hup r L o) L + 2 ^ (hup r L o (L : Int)).toNat = _
                rw [hup_e, hk, ← hk, e2 L (Nat.le_refl _)]
                rw [hk]
                rfl
              rw [e3, hk]
              exact hb_3 _ g.1 k (by omega) c
            rw [← hM4, em, lt_e, vC_e C4.1.1]
            obtain ⟨b, M5, w1, w2, w3⟩ := hc9 (d := d) (by omega) H hO C4 S4 ho y2 hL (by rw [hM4, tn]; exact sI_eq) (hc8 hO m (L + 1) (hup r L o) (d - 1) (by omega) (by omega))
            have E5 : hyE h x r L L M M5 := hE.tr (E4.tr ⟨w2.1, fun j z => w2.2.1 j (by omega), w2.2.2⟩)
            rw [cI_e w1]
            rcases w3 with ⟨v1, r', v2, v3⟩ | ⟨v1, v2⟩
            · rw [v1, if_neg (show ¬ iI 1 = 0 by decide)]
              refine ⟨1, M5, ?_, E5, Or.inl ⟨rfl, r', hB.fd v2, v3⟩⟩
              rw [jv_e, rtZ_e (Or.inr rfl)]
              rfl
            · rw [v1, if_pos (show iI 0 = 0 from rfl), jv_e, ltI_q (z := o + 1) (adI rfl li_1)]
              refine next M5 E5 ?_
              rcases v2 with v2 | v2
              · exact Or.inl fun z => v2 z.2
              · exact Or.inr v2
          · rw [cI_e y1, if_pos (show iI 0 = 0 from rfl), jv_e, ltI_q (z := o + 1) (adI rfl li_1)]
            exact next M2 hE (Or.inl fun z => y2 z.1)
        · rw [if_neg c1, jv_e, ltI_q (z := o + 1) (adI rfl li_1)]
          exact next M2 hE (Or.inl fun z => z.1.1 i c2 c3)
    exact turn (hyN h).toNat 0 M 4294967296 (by omega) (by omega) (by omega) (hyE.rr _) (hnb.z hL)
end S9e3
