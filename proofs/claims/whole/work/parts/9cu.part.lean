/-! the least suite in the reference -/
def kiR (p : Int) (n N : Nat) (km : Int → Nat) (M : Mem) : Prop := (RT M ∧ (0 ≤ p ∧ p ≤ 7) ∧ M.1 192 p.toNat = iI n ∧ M.1 176 p.toNat = iI N ∧ n ≤ 1000 ∧ N ≤ 16) ∧ ∀ k : Int, 0 ≤ k → k < n → M.1 239 (1000 * p + k).toNat = iI (km k : Int) ∧ km k < 2 ^ N
section S9cu
variable {d : Nat} {M : Mem} {w U s t n a b c e N F x ka : Nat} {k p : Int} {km : Int → Nat} {v1 v2 : Int32}
theorem c284_l {J : Int32 → XA} {s2 : Int32 × Int32 × Mem} {s5 : Int32 × Mem} (h : kiR p n N km M) (hs : s < 65536) (h2 : s2.2.1 = iI (s : Int)) (h5 : s5.2 = M) : ∀ (m : Nat) (k : Int) (F : Nat), k + m = n → 0 ≤ k → m + 1 < F → (klT km n s k → lp (c284_68 (runX d) (some 160) (iI p) J s2 s5) F ((1 : Int32), iI (1000 * p + k)) = J 1) ∧ (¬ klT km n s k → lp (c284_68 (runX d) (some 160) (iI p) J s2 s5) F ((1 : Int32), iI (1000 * p + k)) = J 0) := by
  obtain ⟨⟨hR, hp, h3, h4, hn, hN⟩, hk⟩ := h
  have kr := rk_160 hR
  have i1000 : (1000 : Int32) * iI p + iI n = iI (1000 * p + n) := adI (mlI li_1000 rfl) rfl
  have pN : 2 ^ N ≤ 65536 := Nat.pow_le_pow_right (n := 2) (by decide) hN
  intro m
  induction m with
  | zero =>
    intro k F e1 e2 e3
    obtain ⟨F, rfl⟩ : ∃ e, F = e + 1 := ⟨F - 1, by omega⟩
    have e : lp (c284_68 (runX d) (some 160) (iI p) J s2 s5) (F + 1) ((1 : Int32), iI (1000 * p + k)) = J 1 := by
      rw [lp_e]
      unfold c284_68
      dsimp only
      rw [h5, gtP_q kr (rf_33 hR), alI_q (rk_192 hR) rfl (by omega) h3, if_pos (leI_p i1000 rfl (by omega))]
    exact ⟨fun _ => e, fun z => absurd (fun j a b => by omega) z⟩
  | succ m ih =>
    intro k F e1 e2 e3
    obtain ⟨F, rfl⟩ : ∃ e, F = e + 1 := ⟨F - 1, by omega⟩
    obtain ⟨g1, g2⟩ := hk k e2 (by omega)
    have i := ih (k + 1) F (by omega) (by omega) (by omega)
    have st := klT.st (km := km) (n := n) (s := s) (k := k) ⟨e2, by omega⟩
    have nx : iI (1000 * p + k) + (1 : Int32) = iI (1000 * p + (k + 1)) := (adI rfl li_1).trans (congrArg iI (by omega))
    have g3 : km k < 65536 := by omega
    by_cases z : km k = 0 ∨ km k &&& s ≠ 0
    · have on : lp (c284_68 (runX d) (some 160) (iI p) J s2 s5) (F + 1) ((1 : Int32), iI (1000 * p + k)) = lp (c284_68 (runX d) (some 160) (iI p) J s2 s5) F ((1 : Int32), iI (1000 * p + (k + 1))) := by
        rw [lp_e]
        generalize lp (c284_68 (runX d) (some 160) (iI p) J s2 s5) F = go
        unfold c284_68
        dsimp only
        rw [h5, h2, gtP_q kr (rf_33 hR), alI_q (rk_192 hR) rfl (by omega) h3, if_neg (leI_n i1000 rfl (by omega)), if_neg (show ¬ (1 : Int32) = 0 by decide), gtP_q kr (rf_124 hR), alI_q (rk_239 hR) rfl (by omega) g1, jn_v, jn_v]
        by_cases y : km k = 0
        · rw [if_pos ((bz g3).2 y), jv_e, jv_e]
          exact ltI_q nx
        · rw [if_neg (fun y2 => y ((bz g3).1 y2)), gtP_q kr (rf_124 hR), alI_q (rk_239 hR) rfl (by omega) g1, iI_and, if_neg (fun y2 => (z.resolve_left y) ((bz (Nat.lt_of_le_of_lt Nat.and_le_right hs)).1 y2)), jv_e, jv_e]
          exact ltI_q nx
      rw [on]
      exact ⟨fun y => i.1 (st.1 y).2, fun y => i.2 fun y2 => y (st.2 ⟨z, y2⟩)⟩
    · refine ⟨fun y => absurd (st.1 y).1 z, fun _ => ?_⟩
      have z1 : km k ≠ 0 := fun y => z (Or.inl y)
      have z2 : km k &&& s = 0 := by
        by_cases y : km k &&& s = 0
        · exact y
        · exact absurd (Or.inr y) z
      obtain ⟨F, rfl⟩ : ∃ e, F = e + 1 := ⟨F - 1, by omega⟩
      have out : lp (c284_68 (runX d) (some 160) (iI p) J s2 s5) (F + 1) ((0 : Int32), iI (1000 * p + (k + 1))) = J 0 := by
        rw [lp_e]
        unfold c284_68
        dsimp only
        rw [h5, gtP_q kr (rf_33 hR), alI_q (rk_192 hR) rfl (by omega) h3]
        by_cases y : (1000 * p + n) ≤ 1000 * p + (k + 1)
        · rw [if_pos (leI_p i1000 rfl (by omega))]
        · rw [if_neg (leI_n i1000 rfl (by omega)), if_pos rfl]
      rw [lp_e]
      generalize hG : lp (c284_68 (runX d) (some 160) (iI p) J s2 s5) (F + 1) = go
      rw [hG] at out
      unfold c284_68
      dsimp only
      rw [h5, h2, gtP_q kr (rf_33 hR), alI_q (rk_192 hR) rfl (by omega) h3, if_neg (leI_n i1000 rfl (by omega)), if_neg (show ¬ (1 : Int32) = 0 by decide), gtP_q kr (rf_124 hR), alI_q (rk_239 hR) rfl (by omega) g1, jn_v, jn_v, if_neg (fun y2 => z1 ((bz g3).1 y2)), gtP_q kr (rf_124 hR), alI_q (rk_239 hR) rfl (by omega) g1, iI_and, if_pos ((bz (Nat.lt_of_le_of_lt Nat.and_le_right hs)).2 z2), jv_e, ltI_q nx]
      exact out
theorem sh_N (h : N ≤ 16) : (1 : Int32) <<< (iI (N : Int) &&& 31) = iI ((2 ^ N : Nat) : Int) := by
  have k : N = 0 ∨ N = 1 ∨ N = 2 ∨ N = 3 ∨ N = 4 ∨ N = 5 ∨ N = 6 ∨ N = 7 ∨ N = 8 ∨ N = 9 ∨ N = 10 ∨ N = 11 ∨ N = 12 ∨ N = 13 ∨ N = 14 ∨ N = 15 ∨ N = 16 := by omega
  rcases k with k | k | k | k | k | k | k | k | k | k | k | k | k | k | k | k | k <;> subst k <;> decide +kernel
/-- the best of the sets below s -/
def bsN (km : Int → Nat) (n s : Nat) (b : Int32) : Prop := (b = iI (-1) ∧ ∀ t, t < s → ¬ klA km n t) ∨ ∃ m : Nat, b = iI (m : Int) ∧ m < s ∧ klA km n m ∧ ∀ t, t < s → klA km n t → keyN m ≤ keyN t
theorem zr284 (hd : 4 ≤ d) (h : kiR p n N km M) (hv : v1 = iI p) : ∃ m, lsR km n N m ∧ runX d 284 [va_rf (some 160), .int v1] M = some (.int (iI (m : Int)), M) := by
  obtain ⟨d, rfl⟩ : ∃ e, d = e + 1 := ⟨d - 1, by omega⟩
  subst hv
  obtain ⟨⟨hR, hp, h3, h4, hn, hN⟩, hk⟩ := id h
  have kr := rk_160 hR
  have pN : 2 ^ N ≤ 65536 := Nat.pow_le_pow_right (n := 2) (by decide) hN
  have p0 : 0 < 2 ^ N := Nat.two_pow_pos N
  rw [r284]; unfold b284; rw [aR_e, aI_e, aZ_e]; unfold c284
  rw [jn_v]
  refine lp_use (body := c284_4 (runX d) (some 160) (iI p) (jv fun (s1 : Int32 × Mem) => some (.int s1.1, s1.2))) (R := fun s => some (.int s.1, s.2.2)) (2 ^ N) (fun s z => bsN km n s z.1 ∧ z.2.1 = iI (s : Int) ∧ z.2.2 = M) ((-1 : Int32), (0 : Int32), M) 4294967296 (by omega) ⟨Or.inl ⟨rfl, fun t a => by omega⟩, li_0, rfl⟩ (fun s' g1 g2 => ?_) (fun s z hs hI => ?_) (fun s hI go => ?_)
  · obtain ⟨b1, -, b3⟩ := g1
    rcases b1 with ⟨-, b1⟩ | ⟨m, b1, b2⟩
    · exact absurd klA.all (b1 _ (porN_b fun k a b => (hk k a b).2))
    · exact ⟨m, b2, by rw [g2, b1, b3]⟩
  · obtain ⟨bs, i2, Mx⟩ := z
    obtain ⟨u1, u2, u3⟩ := hI
    dsimp only at u1 u2 u3
    subst u2; subst u3
    have key : ∀ (b' : Int32), bsN km n (s + 1) b' → bsN km n (s + 1) b' := fun _ z => z
    -- fewer: then it is looked at
    have go1 : (bs = iI (-1) ∧ (∀ t, t < s → ¬ klA km n t) ∨ ∃ m : Nat, bs = iI (m : Int) ∧ m < s ∧ klA km n m ∧ (∀ t, t < s → klA km n t → keyN m ≤ keyN t) ∧ keyN s < keyN m) → ∃ b', bsN km n (s + 1) b' ∧ (klA km n s → b' = iI (s : Int)) ∧ (¬ klA km n s → b' = bs) := fun z => by
      by_cases y : klA km n s
      · refine ⟨iI (s : Int), Or.inr ⟨s, rfl, by omega, y, fun t a b => ?_⟩, fun _ => rfl, fun z2 => absurd y z2⟩
        by_cases y2 : t = s
        · rw [y2]; exact Nat.le_refl _
        · rcases z with ⟨-, z⟩ | ⟨m, -, -, -, z, z2⟩
          · exact absurd b (z t (by omega))
          · have := z t (by omega) b
            omega
      · refine ⟨bs, ?_, fun z2 => absurd z2 y, fun _ => rfl⟩
        rcases z with ⟨z0, z⟩ | ⟨m, z0, z1, z2, z, z3⟩
        · exact Or.inl ⟨z0, fun t a b => by
            by_cases y2 : t = s
            · rw [y2] at b; exact y b
            · exact z t (by omega) b⟩
        · exact Or.inr ⟨m, z0, by omega, z2, fun t a b => by
            by_cases y2 : t = s
            · rw [y2] at b; exact absurd b y
            · exact z t (by omega) b⟩
    have hs16 : s < 65536 := by omega
    have l68 : ∀ (J : Int32 → XA) (s5 : Int32 × Mem), s5 = ((1 : Int32), Mx) → (klA km n s → lp (c284_68 (runX d) (some 160) (iI p) J (bs, iI (s : Int), Mx) s5) 4294967296 (s5.1, iI (1000 * p)) = J 1) ∧ (¬ klA km n s → lp (c284_68 (runX d) (some 160) (iI p) J (bs, iI (s : Int), Mx) s5) 4294967296 (s5.1, iI (1000 * p)) = J 0) := fun J s5 e5 => by
      have := c284_l (d := d) (J := J) (s2 := (bs, iI (s : Int), Mx)) (s5 := s5) h hs16 rfl (by rw [e5]) n 0 4294967296 (by omega) (by omega) (by omega)
      rw [Int.add_zero] at this
      rw [e5] at this ⊢
      exact ⟨fun z => this.1 fun j a b => z j a b, fun z => this.2 fun y => z fun j a b => y j a b⟩
    have out68 : ∀ (J : Int32 → XA), lp (c284_68 (runX d) (some 160) (iI p) J (bs, iI (s : Int), Mx) ((0 : Int32), Mx)) 4294967296 ((0 : Int32), iI (1000 * p)) = J 0 := fun J => by
      have i1000 : (1000 : Int32) * iI p + iI n = iI (1000 * p + n) := adI (mlI li_1000 rfl) rfl
      rw [show (4294967296 : Nat) = 4294967295 + 1 from rfl, lp_e]
      unfold c284_68
      dsimp only
      rw [gtP_q kr (rf_33 hR), alI_q (rk_192 hR) rfl (by omega) h3]
      by_cases y : (1000 * p + n) ≤ 1000 * p
      · rw [if_pos (leI_p i1000 rfl (by omega))]
      · rw [if_neg (leI_n i1000 rfl (by omega)), if_pos rfl]
    have gd : ¬ ((1 : Int32) <<< (iI (N : Int) &&& 31)) ≤ iI (s : Int) := by
      rw [sh_N hN]
      exact leI_n rfl rfl (by omega)
    have nxs : iI (s : Int) + (1 : Int32) = iI ((s + 1 : Nat) : Int) := cvI (adI rfl li_1) (by omega)
    have m1000 : (1000 : Int32) * iI p = iI (1000 * p) := mlI li_1000 rfl
    have two : (bs = iI (-1) ∧ (∀ t, t < s → ¬ klA km n t) ∨ ∃ m : Nat, bs = iI (m : Int) ∧ m < s ∧ klA km n m ∧ (∀ t, t < s → klA km n t → keyN m ≤ keyN t) ∧ keyN s < keyN m) ∨ ∃ m : Nat, bs = iI (m : Int) ∧ m < s ∧ klA km n m ∧ (∀ t, t < s → klA km n t → keyN m ≤ keyN t) ∧ ¬ keyN s < keyN m := by
      rcases u1 with u1 | ⟨m, a1, a2, a3, a4⟩
      · exact Or.inl (Or.inl u1)
      · by_cases y : keyN s < keyN m
        · exact Or.inl (Or.inr ⟨m, a1, a2, a3, a4, y⟩)
        · exact Or.inr ⟨m, a1, a2, a3, a4, y⟩
    rcases two with z | ⟨m, a1, a2, a3, a4, a5⟩
    · obtain ⟨b', q1, q2, q3⟩ := go1 z
      refine ⟨(b', iI ((s + 1 : Nat) : Int), Mx), ⟨q1, rfl, rfl⟩, fun go => ?_⟩
      have fin : (jv (fun (s5 : Int32 × Mem) => lt (((1000 : Int32)) * iI p) fun (x6 : Int32) => jn (fun (s7 : Int32) => jn (fun (s8 : Int32) => lt (iI (s : Int) + (1 : Int32)) fun (x9 : Int32) => go (s8, x9, s5.2)) fun j135 => if s7 = 0 then ( j135 bs) else ( j135 (iI (s : Int)))) fun j125 => lp (c284_68 (runX d) (some 160) (iI p) j125 (bs, iI (s : Int), Mx) s5) 4294967296 (s5.1, x6)) ((1 : Int32), Mx) : XA) = go (b', iI ((s + 1 : Nat) : Int), Mx) := by
        rw [jv_e, ltI_q m1000, jn_v]
        by_cases y : klA km n s
        · rw [(l68 _ _ rfl).1 y, jv_e, jn_v, if_neg (show ¬ (1 : Int32) = 0 by decide), jv_e, ltI_q nxs, q2 y]
        · rw [(l68 _ _ rfl).2 y, jv_e, jn_v, if_pos rfl, jv_e, ltI_q nxs, q3 y]
      unfold c284_4
      dsimp only
      rw [gtP_q kr (rf_17 hR), alI_q (rk_176 hR) rfl (by omega) h4, if_neg gd, jn_v, jn_v]
      rcases z with ⟨z0, -⟩ | ⟨m, z0, z1, -, -, z3⟩
      · rw [if_pos (show bs < 0 from by rw [z0]; decide), jv_e]
        exact fin
      · have hm16 : m < 65536 := by omega
        have kl := key_l hs16 hm16
        have c1 := popN_b 16 s
        have c2 := popN_b 16 m
        have b285 := zr285 (d := d) (M := Mx) (s := s) (t := m) (by omega) hs16 hm16 rfl z0
        rw [z0] at fin
        rw [z0, if_neg (lsI_n rfl li_0 (by omega)), cI_e (zr315 (by omega)), cI_e (zr315 (by omega)), bcx_e hs16, bcx_e hm16]
        by_cases y : popN 16 s < popN 16 m
        · rw [if_pos (lsI_p rfl rfl (by omega)), jv_e]
          exact fin
        · have y2 := (kl.1 z3).resolve_left y
          rw [if_neg (lsI_n rfl rfl (by omega)), cI_e (zr315 (by omega)), cI_e (zr315 (by omega)), bcx_e hs16, bcx_e hm16, jn_v, if_pos (eqI_p rfl rfl (by omega)), ← z0, cI_e b285, if_pos y2.2, if_neg (show ¬ iI 1 = 0 by decide), jv_e, z0]
          exact fin
    · refine ⟨(bs, iI ((s + 1 : Nat) : Int), Mx), ⟨Or.inr ⟨m, a1, by omega, a3, fun t a b => ?_⟩, rfl, rfl⟩, fun go => ?_⟩
      · by_cases y : t = s
        · rw [y]; omega
        · exact a4 t (by omega) b
      have hm16 : m < 65536 := by omega
      have kl := key_l hs16 hm16
      have c1 := popN_b 16 s
      have c2 := popN_b 16 m
      have b285 := zr285 (d := d) (M := Mx) (s := s) (t := m) (by omega) hs16 hm16 rfl rfl
      have fin : (jv (fun (s5 : Int32 × Mem) => lt (((1000 : Int32)) * iI p) fun (x6 : Int32) => jn (fun (s7 : Int32) => jn (fun (s8 : Int32) => lt (iI (s : Int) + (1 : Int32)) fun (x9 : Int32) => go (s8, x9, s5.2)) fun j135 => if s7 = 0 then ( j135 bs) else ( j135 (iI (s : Int)))) fun j125 => lp (c284_68 (runX d) (some 160) (iI p) j125 (bs, iI (s : Int), Mx) s5) 4294967296 (s5.1, x6)) ((0 : Int32), Mx) : XA) = go (bs, iI ((s + 1 : Nat) : Int), Mx) := by
        rw [jv_e, ltI_q m1000, jn_v, out68, jv_e, jn_v, if_pos rfl, jv_e, ltI_q nxs]
      unfold c284_4
      dsimp only
      rw [a1] at fin
      rw [gtP_q kr (rf_17 hR), alI_q (rk_176 hR) rfl (by omega) h4, if_neg gd, jn_v, jn_v, a1, if_neg (lsI_n rfl li_0 (by omega)), cI_e (zr315 (by omega)), cI_e (zr315 (by omega)), bcx_e hs16, bcx_e hm16]
      rw [if_neg (lsI_n rfl rfl (by
        have : ¬ popN 16 s < popN 16 m := fun z => a5 (kl.2 (Or.inl z))
        omega)), cI_e (zr315 (by omega)), cI_e (zr315 (by omega)), bcx_e hs16, bcx_e hm16, jn_v]
      by_cases y : popN 16 s = popN 16 m
      · rw [if_pos (eqI_p rfl rfl (by omega)), cI_e b285, if_neg (fun z => a5 (kl.2 (Or.inr ⟨y, z⟩))), if_pos (show iI 0 = 0 from rfl), jv_e, jv_e]
        exact fin
      · rw [if_neg (eqI_n rfl rfl (by omega)), jv_e, jv_e]
        exact fin
  · obtain ⟨bs, i2, Mx⟩ := s
    obtain ⟨u1, u2, u3⟩ := hI
    dsimp only at u1 u2 u3
    subst u2; subst u3
    unfold c284_4
    dsimp only
    rw [gtP_q kr (rf_17 hR), alI_q (rk_176 hR) rfl (by omega) h4, if_pos (show ((1 : Int32) <<< (iI (N : Int) &&& 31)) ≤ iI ((2 ^ N : Nat) : Int) by rw [sh_N hN]; exact leI_p rfl rfl (by omega)), jv_e]
end S9cu
