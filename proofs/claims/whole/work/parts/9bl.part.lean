/-! both machines: the befores of a life -/
/-- a CASE: K 0 unit, 1 how many befores, 2 afters, 3 number, 4 raises, 5 skip, 6 code, 7 its own number; F 0 befores, 1 afters -/
def zKc (κ : ZK) (cp : Nat) (K : Nat → Int) (F : Nat → Int → Int) (M : Mem) : Prop := (M.2.2.2[cp]? = some (8, 9) ∧ stC κ cp) ∧ (M.1 cp 1 = iI (K 0) ∧ M.1 cp 4 = iI (K 3) ∧ M.1 cp 5 = iI (K 6) ∧ M.1 cp 6 = iI (K 4) ∧ M.1 cp 7 = iI (K 5)) ∧ ∃ ub ua : Nat, (M.2.2.1 (κ 7 (K 0)) 6 = some ub ∧ M.2.2.2[ub]? = some (100, 3) ∧ stC κ ub) ∧ (M.2.2.1 (κ 7 (K 0)) 8 = some ua ∧ M.2.2.2[ua]? = some (100, 3) ∧ stC κ ua) ∧ (M.1 (κ 7 (K 0)) 7 = iI (K 1) ∧ M.1 (κ 7 (K 0)) 9 = iI (K 2)) ∧ (∀ i, 0 ≤ i → i < K 1 → M.1 ub i.toNat = iI (F 0 i)) ∧ ∀ i, 0 ≤ i → i < K 2 → M.1 ua i.toNat = iI (F 1 i)
def zKr (e : ZS) (K : Nat → Int) (F : Nat → Int → Int) (M : Mem) : Prop := (M.1 178 (16 * e.1 29 0 0 + K 7).toNat = iI (K 0) ∧ M.1 179 (16 * e.1 29 0 0 + K 7).toNat = iI (K 3) ∧ M.1 180 (16 * e.1 29 0 0 + K 7).toNat = iI (K 4) ∧ M.1 181 (16 * e.1 29 0 0 + K 7).toNat = iI (K 5) ∧ M.1 182 (16 * e.1 29 0 0 + K 7).toNat = iI (K 6)) ∧ (M.1 165 (8 * e.1 29 0 0 + K 0).toNat = iI (K 1) ∧ M.1 167 (8 * e.1 29 0 0 + K 0).toNat = iI (K 2)) ∧ (∀ i, 0 ≤ i → i < K 1 → M.1 166 (3 * (8 * e.1 29 0 0 + K 0) + i).toNat = iI (F 0 i)) ∧ ∀ i, 0 ≤ i → i < K 2 → M.1 168 (3 * (8 * e.1 29 0 0 + K 0) + i).toNat = iI (F 1 i)
def zKb (e : ZS) (K : Nat → Int) (F : Nat → Int → Int) : Prop := (0 ≤ K 7 ∧ K 7 < 16) ∧ (0 ≤ K 0 ∧ K 0 < e.1 25 0 0) ∧ (0 ≤ K 1 ∧ K 1 ≤ 3 ∧ 0 ≤ K 2 ∧ K 2 ≤ 3) ∧ (0 ≤ K 4 ∧ K 4 ≤ 999999999) ∧ (K 5 = 0 ∨ K 5 = 1) ∧ (zEn e (K 6) 1 ∧ K 6 < 1000) ∧ (∀ i, 0 ≤ i → i < K 1 → zEn e (F 0 i) 0 ∧ F 0 i < 1000) ∧ ∀ i, 0 ≤ i → i < K 2 → zEn e (F 1 i) 0 ∧ F 1 i < 1000
/-- how the latest code failed, in both: ov = 1 no STEP was left -/
def zFg (ov : Int) (Mc Mr : Mem) : Prop := (ov = 1 ∧ Mc.1 88 19 = iI 3 ∧ Mr.1 160 85 = iI 1) ∨ (ov = 0 ∧ (Mc.1 88 19 = iI 0 ∨ Mc.1 88 19 = iI 1 ∨ Mc.1 88 19 = iI 2) ∧ Mr.1 160 85 = iI 0)
def zov (u : ZS) : Int := if u.1 1 0 0 = 5 then 1 else 0
/-- the befores: sd = 1 all answer; else by what one failed -/
def zBf (e : ZS) (F : Nat → Int → Int) : Nat → Int → ZS → Int → Int32 → Int32 → Int → ZS → Prop
  | 0, _, s, sd, _, _, _, s' => sd = 1 ∧ s' = s
  | m + 1, i, s, sd, Fa, Wh, ov, s' => ∃ u, zEx e s (F 0 i) 0 u ∧ u.1 1 0 0 ≠ 6 ∧ ((u.1 1 0 0 = 2 ∧ zBf e F m (i + 1) (znb u) sd Fa Wh ov s') ∨ (u.1 1 0 0 ≠ 2 ∧ sd = 0 ∧ s' = znb u ∧ Fa = u.2 5 0 0 ∧ Wh = iI (u.1 13 0 0) ∧ ov = zov u))
section S9bl
variable {d dl : Nat} {e s s' t u : ZS} {κ : ZK} {M M' M1 M2 Mc Mr Mc' Mr' : Mem} {a b j N x y LL cp : Nat} {xs : Nat → Int32} {v v1 v2 v3 w sd : Int32} {c k i n m p o q id par en B D r rc rr : Int} {R : Int → RG} {G : RG} {L : Int → Int} {Y : Nat → Int → Int} {K : Nat → Int} {F : Nat → Int → Int}
theorem zKc.fl (h : zKc κ cp K F M) (f : zFl κ M M') (hu : stC κ (κ 7 (K 0))) : zKc κ cp K F M' := by
  obtain ⟨⟨h1, h2⟩, h3, ub, ua, ⟨b1, b2, b3⟩, ⟨a1, a2, a3⟩, c1, c2, c3⟩ := h
  have p2 : M'.2.2.1 = M.2.2.1 := congrArg (fun z => z.2.1) f.1
  have k2 : M'.2.2.2 = M.2.2.2 := congrArg (fun z => z.2.2) f.1
  refine ⟨⟨by rw [k2]; exact h1, h2⟩, ?_, ub, ua, ⟨by rw [p2]; exact b1, by rw [k2]; exact b2, b3⟩, ⟨by rw [p2]; exact a1, by rw [k2]; exact a2, a3⟩, ?_, fun i x y => ?_, fun i x y => ?_⟩
  · rw [f.st h2, f.st h2, f.st h2, f.st h2, f.st h2]; exact h3
  · rw [f.st hu, f.st hu]; exact c1
  · rw [f.st b3]; exact c2 i x y
  · rw [f.st a3]; exact c3 i x y
theorem zKr.rl (h : zKr e K F M) (f : zRl e M M') : zKr e K F M' := by
  have o : ∀ a j, 161 ≤ a ∧ a < 210 → M'.1 a j = M.1 a j := fun a j z => f.2.1 a j (W_lf (by omega))
  obtain ⟨h1, h2, h3, h4⟩ := h
  refine ⟨?_, ?_, fun i x y => ?_, fun i x y => ?_⟩
  · rw [o _ _ (by omega), o _ _ (by omega), o _ _ (by omega), o _ _ (by omega), o _ _ (by omega)]; exact h1
  · rw [o _ _ (by omega), o _ _ (by omega)]; exact h2
  · rw [o _ _ (by omega)]; exact h3 i x y
  · rw [o _ _ (by omega)]; exact h4 i x y
/-- what comes of a code, once more -/
theorem zCo.out (h : zCo LL xs e κ R L s en par Mc Mr Mc' Mr' rc rr) (hE : zRE e R L Mr) : zFl κ Mc Mc' ∧ zRl e Mr Mr' ∧ ((∃ u, zEx e s en par u ∧ u.1 1 0 0 ≠ 6 ∧ zPr LL xs e κ R L (znb u) Mc' Mr' ∧ zRo e Mr Mr' ∧ zFo κ Mc Mc' ∧ zFg (zov u) Mc' Mr' ∧ ((u.1 1 0 0 = 2 ∧ rc = 1 ∧ rr = 0 ∧ Mr'.1 160 85 = iI 0) ∨ (u.1 1 0 0 ≠ 2 ∧ rc = 0 ∧ rr = 1 ∧ (Mc'.1 88 20 = u.2 5 0 0 ∧ Mr'.1 160 88 = u.2 5 0 0) ∧ (Mc'.1 88 21 = iI (u.1 13 0 0) ∧ Mr'.1 160 89 = iI (u.1 13 0 0))))) ∨ (rc = 0 ∧ rr = 1 ∧ zSp LL xs e κ R L s Mc' Mr')) := by
  rcases h with ⟨u, h0, h00, h1, h2, h3, h4⟩ | ⟨h1, h2, hu, h3, h4, h5, h6, h7, h8, h9, h10, h11, h12, h13, h14⟩
  · refine ⟨h2.l, h3.l, Or.inl ⟨u, h0, h00, h1, h3, h2, ?_, ?_⟩⟩
    · unfold zov
      rcases h4 with ⟨y, -, -, z1, z2⟩ | ⟨-, -, -, -, -, z⟩
      · rw [if_neg (by omega)]; exact Or.inr ⟨rfl, Or.inl z1, z2⟩
      · rcases z with ⟨y, z1, z2⟩ | ⟨y, z1, z2⟩
        · rw [if_pos y]; exact Or.inl ⟨rfl, z1, z2⟩
        · rw [if_neg y]; exact Or.inr ⟨rfl, Or.inr z1, z2⟩
    · rcases h4 with ⟨y, z1, z2, -, z4⟩ | ⟨y, z1, z2, z3, z4, -⟩
      · exact Or.inl ⟨y, z1, z2, z4⟩
      · exact Or.inr ⟨y, z1, z2, z3, z4⟩
  · have f : zRl e Mr Mr' := ⟨h12, fun a j p => h13 a j (inW_m (L := W_r) (L' := W_l) (fun q z => List.mem_cons_of_mem _ (List.mem_cons_of_mem _ (List.mem_cons_of_mem _ (List.mem_cons_of_mem _ z)))) p) (fun z => by rw [z.1, z.2] at p; exact absurd p (by decide)), h14⟩
    exact ⟨h11.l, f, Or.inr ⟨h1, h2, h3, h4, h5, h6, h7, h8, h9, h10, hE.rl f, hu⟩⟩
/-- all that is told after what fails -/
theorem zr253_f (f : zRl e M M1) (h : M' = sI (sI (sI M1 160 101 v) 160 102 v1) 160 103 v2) : zRl e M M' := by
  rw [h]
  exact ((f.sI (by decide) (by decide)).sI (by decide) (by decide)).sI (by decide) (by decide)
theorem zSp.mr (h : zSp LL xs e κ R L s Mc Mr) (f : zRl e Mr Mr') (g : ∀ a j : Nat, ¬ (a = 160 ∧ (j = 101 ∨ j = 102 ∨ j = 103)) → Mr'.1 a j = Mr.1 a j) : zSp LL xs e κ R L s Mc Mr' := by
  obtain ⟨h1, h2, h3, h4, h5, h6, h7, h8, h9, u, w1, w2, w3, w4, w5⟩ := h
  exact ⟨h1, h2, h3, h4, h5, h6.keep f.1, (g _ _ (by omega)).trans h7, (g _ _ (by omega)).trans h8, h9.rl f, u, w1, w2, w3, w4.sub f.1 g, w5⟩
theorem zSp.fx (h : zSp LL xs e κ R L s Mc Mr) (f : zFx e t s) : zSp LL xs e κ R L t Mc Mr := by
  obtain ⟨h1, h2, h3, h4, h5, h6, h7, h8, h9, u, w1, w2⟩ := h
  exact ⟨h1, h2, h3, h4, h5, h6, h7, h8, h9, u, f.tr w1, w2⟩
theorem zEx.fx (h : zEx e s en par u) : zFx e s (znb u) := zFx.tr (t := zbeg s en par) (zFx.eq rfl rfl rfl rfl ⟨rfl, rfl⟩) (h.1.fx.tr (zFx.eq rfl rfl rfl rfl ⟨rfl, rfl⟩))
theorem zBf.fx : ∀ {m : Nat} {i : Int} {s : ZS} {sd : Int} {Fa Wh : Int32} {ov : Int} {s' : ZS}, zBf e F m i s sd Fa Wh ov s' → zFx e s s'
  | 0, _, _, _, _, _, _, _, ⟨_, h⟩ => by rw [h]; exact zFx.r
  | m + 1, i, s, sd, Fa, Wh, ov, s', ⟨u, h1, h2, h3⟩ => by
    rcases h3 with ⟨-, h3⟩ | ⟨-, -, h3, -⟩
    · exact h1.fx.tr (zBf.fx h3)
    · rw [h3]; exact h1.fx
theorem bef_pair {J : Int32 × Mem → XA} {J' : Mem → XA} {P : Int} (hdl : 10 ≤ dl) (hd : 62 ≤ d) (hV : zEv e) (hb : zKb e K F) (hP : P = e.1 29 0 0) : ∀ (m : Nat) (i : Int) (s : ZS) (Mc Mr : Mem) (N N' : Nat), i + m = K 1 → 0 ≤ i → m + 1 < N → m + 1 < N' → zPr LL xs e κ R L s Mc Mr → zKc κ cp K F Mc → zKr e K F Mr → Mr.1 160 85 = iI 0 → Mr.1 160 101 = iI 1 → ∃ Mc' Mr' sd, lp (c25_76 (runX dl) (some 88) J (some (κ 7 (K 0)))) N (iI 1, iI i, Mc) = J (iI sd, Mc') ∧ lp (c254_63 (runX d) (some 160) J' (iI (8 * P + K 0))) N' (iI i, Mr) = J' Mr' ∧ zFl κ Mc Mc' ∧ zRl e Mr Mr' ∧ ((∃ s' Fa Wh ov, zPr LL xs e κ R L s' Mc' Mr' ∧ zBf e F m i s sd Fa Wh ov s' ∧ Mr'.1 160 84 = Mr.1 160 84 ∧ ((sd = 1 ∧ Mr'.1 160 85 = iI 0 ∧ Mr'.1 160 101 = iI 1 ∧ Mr'.1 160 102 = Mr.1 160 102 ∧ Mr'.1 160 103 = Mr.1 160 103) ∨ (sd = 0 ∧ zFg ov Mc' Mr' ∧ Mr'.1 160 101 = iI 3 ∧ (Mr'.1 160 102 = Fa ∧ Mc'.1 88 20 = Fa) ∧ (Mr'.1 160 103 = Wh ∧ Mc'.1 88 21 = Wh)))) ∨ (sd = 0 ∧ zSp LL xs e κ R L s Mc' Mr' ∧ Mr'.1 160 101 = iI 3)) := by
  subst hP
  obtain ⟨b1, b2, b3, b4, b5, b6, b7, b8⟩ := hb
  intro m
  induction m with
  | zero =>
    intro i s Mc Mr N N' h1 h2 h3 h4 hp hc hr h85 h101
    obtain ⟨N, rfl⟩ : ∃ e, N = e + 1 := ⟨N - 1, by omega⟩
    obtain ⟨N', rfl⟩ : ∃ e, N' = e + 1 := ⟨N' - 1, by omega⟩
    have hE3 := hp.2.1.2.2.1.2.2.1
    obtain ⟨-, -, -, -, z5⟩ := hE3.1 0 (Or.inl rfl)
    obtain ⟨⟨u1, u2⟩, -⟩ := z5 (K 0) b2.1 b2.2
    rw [show 8 * (0 : Int) + K 0 = K 0 by omega] at u1 u2
    obtain ⟨-, -, ub, ua, -, -, c1, -, -⟩ := hc
    have hR := hp.2.2.1.1
    have a0 := (hp.2.2.2.1 0 (Or.inl rfl))
    have P0 := a0.1
    have b25 := a0.2.2.2.2.1
    refine ⟨Mc, Mr, 1, ?_, ?_, zFl.rf, zRl.rf, Or.inl ⟨s, 0, 0, 0, hp, ⟨rfl, rfl⟩, rfl, Or.inl ⟨rfl, h85, h101, rfl, rfl⟩⟩⟩
    · rw [lp_e]; unfold c25_76
      dsimp only
      rw [gtI_q u2 c1.1, if_pos (leI_p rfl rfl (by omega))]
    · rw [lp_e]; unfold c254_63
      dsimp only
      rw [gtP_q (rk_160 hR) (rf_6 hR), alI_q (n := 64) (z := 8 * e.1 29 0 0 + K 0) (rk_165 hR) rfl (by omega) hr.2.1.1, if_pos (leI_p rfl rfl (by omega))]
  | succ m ih =>
    intro i s Mc Mr N N' h1 h2 h3 h4 hp hc hr h85 h101
    obtain ⟨N, rfl⟩ : ∃ e, N = e + 1 := ⟨N - 1, by omega⟩
    obtain ⟨N', rfl⟩ : ∃ e, N' = e + 1 := ⟨N' - 1, by omega⟩
    have hE3 := hp.2.1.2.2.1.2.2.1
    obtain ⟨-, -, -, -, z5⟩ := hE3.1 0 (Or.inl rfl)
    obtain ⟨⟨u1, u2⟩, -⟩ := z5 (K 0) b2.1 b2.2
    rw [show 8 * (0 : Int) + K 0 = K 0 by omega] at u1 u2
    have hc' := hc
    obtain ⟨-, -, ub, ua, ⟨f1, f2, f3⟩, -, c1, c2, -⟩ := hc'
    have hR := hp.2.2.1.1
    have kr := rk_160 hR
    have a0 := (hp.2.2.2.1 0 (Or.inl rfl))
    have P0 := a0.1
    have b25 := a0.2.2.2.2.1
    obtain ⟨e1, e2⟩ := b7 i h2 (by omega)
    obtain ⟨Mr1, hMr1⟩ : ∃ X, X = sI Mr 160 73 (iI 0) := ⟨_, rfl⟩
    have o1 : ∀ a j, ¬ (a = 160 ∧ j = 73) → Mr1.1 a j = Mr.1 a j := fun a j z => by
      rw [hMr1]
      by_cases y : a = 160
      · exact sI_nej fun w => z ⟨y, w⟩
      · exact sI_ne y
    have f01 : zRl e Mr Mr1 := by rw [hMr1]; exact zRl.rf.sI (by decide) (by decide)
    have hp1 : zPr LL xs e κ R L s Mc Mr1 := hp.mr (by rw [hMr1]; rfl) (fun a j z _ => o1 a j (by omega))
    have R1 := hp1.2.2.1.1
    obtain ⟨Mc', Mr', rc, rr, q1, q2, q3⟩ := code_pair (dl := dl) (d := d) (v := iI (F 0 i)) (v1 := iI (F 0 i)) (v2 := (0 : Int32)) (c := 0) (par := 0) (en := F 0 i) hdl (by omega) hV hp1 e1 (by omega) e2 (by rw [hMr1]; exact sI_eq) ((o1 _ _ (by omega)).trans h85) (fun k x y => by omega) rfl rfl li_0
    obtain ⟨g1, g2, g3⟩ := q3.out hp1.2.2.2
    have ii : iI i + (1 : Int32) = iI (i + 1) := adI rfl li_1
    have headc : lp (c25_76 (runX dl) (some 88) J (some (κ 7 (K 0)))) (N + 1) (iI 1, iI i, Mc) = lp (c25_76 (runX dl) (some 88) J (some (κ 7 (K 0)))) N (iI rc, iI (i + 1), Mc') := by
      rw [lp_e]
      generalize lp (c25_76 (runX dl) (some 88) J (some (κ 7 (K 0)))) N = go
      unfold c25_76
      dsimp only
      rw [gtI_q u2 c1.1, if_neg (leI_n rfl rfl (by omega)), if_neg (show ¬ iI 1 = 0 by decide), gtP_q u2 f1, alI_q (n := 3) (z := i) f2 rfl (by omega) (c2 i h2 (by omega)), vC_e (ck_88 hp.2.1.1), cI_e q1, ltI_q ii]
    have e165 : Mr.1 165 (8 * e.1 29 0 0 + K 0).toNat = iI (K 1) := hr.2.1.1
    have e166 : Mr1.1 166 (3 * (8 * e.1 29 0 0 + K 0) + i).toNat = iI (F 0 i) := (o1 _ _ (by omega)).trans (hr.2.2.1 i h2 (by omega))
    have k1 := rk_160 R1
    have headr : lp (c254_63 (runX d) (some 160) J' (iI (8 * e.1 29 0 0 + K 0))) (N' + 1) (iI i, Mr) = (if iI rr = 0 then lp (c254_63 (runX d) (some 160) J' (iI (8 * e.1 29 0 0 + K 0))) N' (iI (i + 1), Mr') else (vC (13, 157) Mr' (some 160) <| cV (runX d 253 [va_rf (some 160), .int ((3 : Int32))] Mr') fun M62 => lp (c254_63 (runX d) (some 160) J' (iI (8 * e.1 29 0 0 + K 0))) N' (iI (i + 1), M62)) : XA) := by
      rw [lp_e]
      generalize lp (c254_63 (runX d) (some 160) J' (iI (8 * e.1 29 0 0 + K 0))) N' = go
      unfold c254_63
      dsimp only
      rw [gtP_q kr (rf_6 hR), alI_q (n := 64) (z := 8 * e.1 29 0 0 + K 0) (rk_165 hR) rfl (by omega) e165, if_neg (leI_n rfl rfl (by omega)), gtI_q kr h101, if_pos (show iI 1 = 1 from li_1.symm), ptI_q (z := 0) kr li_0, ← hMr1, gtP_q k1 (rf_7 R1), alI_q (n := 192) (z := 3 * (8 * e.1 29 0 0 + K 0) + i) (rk_166 R1) (show (3 : Int32) * iI (8 * e.1 29 0 0 + K 0) + iI i = iI (3 * (8 * e.1 29 0 0 + K 0) + i) from adI (mlI (x := 3) rfl rfl) rfl) (by omega) e166, vC_e k1, cI_e q2, jn_v]
      by_cases y : iI rr = 0
      · rw [if_pos y, if_pos y, jv_e, ltI_q ii]
      · rw [if_neg y, if_neg y]
        simp only [jv_e, ltI_q ii]
    rw [headc, headr]
    have hu := u1
    rcases g3 with ⟨u, z0, z00, z1, z2, z3, z4, ⟨r0, r1, r2, r3⟩ | ⟨r0, r1, r2, r3, r4⟩⟩ | ⟨r1, r2, z1⟩
    · -- it answers
      rw [r1, r2, if_pos (show iI 0 = 0 from rfl)]
      have o2 : ∀ j, j = 84 ∨ j = 101 ∨ j = 102 ∨ j = 103 → Mr'.1 160 j = Mr.1 160 j := fun j z => (z2.2.1 160 j (by rcases z with z | z | z | z <;> subst z <;> decide)).trans (o1 _ _ (by omega))
      obtain ⟨Mc2, Mr2, sd, y1, y2, y3, y4, y5⟩ := ih (i + 1) (znb u) Mc' Mr' N N' (by omega) (by omega) (by omega) (by omega) z1 (hc.fl g1 hu) (hr.rl (f01.tr g2)) r3 ((o2 101 (by omega)).trans h101)
      refine ⟨Mc2, Mr2, sd, y1, y2, g1.tr y3, f01.tr (g2.tr y4), ?_⟩
      rcases y5 with ⟨s2, Fa, Wh, ov, w1, w0, w2, w3⟩ | w
      · refine Or.inl ⟨s2, Fa, Wh, ov, w1, ⟨u, z0, z00, Or.inl ⟨r0, w0⟩⟩, w2.trans (o2 84 (by omega)), ?_⟩
        rcases w3 with ⟨w3, w4, w5, w6, w7⟩ | w3
        · exact Or.inl ⟨w3, w4, w5, w6.trans (o2 102 (by omega)), w7.trans (o2 103 (by omega))⟩
        · exact Or.inr w3
      · exact Or.inr ⟨w.1, w.2.1.fx z0.fx, w.2.2⟩
    · -- it fails
      obtain ⟨Mr3, x1, x2⟩ := zr253 (d := d) (v := 3) (by omega) z1.2.2.1.1
      have f3 := zr253_f (g2) x2
      obtain ⟨N, rfl⟩ : ∃ e, N = e + 1 := ⟨N - 1, by omega⟩
      obtain ⟨N', rfl⟩ : ∃ e, N' = e + 1 := ⟨N' - 1, by omega⟩
      rw [r1, r2, if_neg (show ¬ iI 1 = 0 by decide), vC_e (rk_160 z1.2.2.1.1), cV_e x1]
      have hc2 := hc.fl g1 hu
      obtain ⟨-, -, ub2, ua2, -, -, d1, -, -⟩ := hc2
      have R3 : RT Mr3 := z1.2.2.1.1.keep (by rw [x2]; rfl)
      have k3 := rk_160 R3
      have hr3 := hr.rl (f01.tr f3)
      have n101 : Mr3.1 160 101 = iI 3 := by rw [x2]; exact (sI_nej (by decide)).trans ((sI_nej (by decide)).trans (sI_eq.trans li_3))
      have n102 : Mr3.1 160 102 = Mr'.1 160 88 := by rw [x2]; exact (sI_nej (by decide)).trans sI_eq
      have n103 : Mr3.1 160 103 = Mr'.1 160 89 := by rw [x2]; exact sI_eq
      have o3 : ∀ j, j ≠ 101 → j ≠ 102 → j ≠ 103 → Mr3.1 160 j = Mr'.1 160 j := fun j p q r => by rw [x2]; exact (sI_nej r).trans ((sI_nej q).trans (sI_nej p))
      have kc2 : Mc'.2.2.2[κ 7 (K 0)]? = some (11, 10) := by rw [congrArg (fun z => z.2.2) g1.1]; exact u2
      refine ⟨Mc', Mr3, 0, ?_, ?_, g1, f01.tr f3, Or.inl ⟨znb u, u.2 5 0 0, iI (u.1 13 0 0), zov u, z1.mr (by rw [x2]; rfl) (fun a j p q => ?_), ⟨u, z0, z00, Or.inr ⟨r0, rfl, rfl, rfl, rfl, rfl⟩⟩, ?_, Or.inr ⟨rfl, ?_, n101, ⟨n102.trans r3.2, r3.1⟩, ⟨n103.trans r4.2, r4.1⟩⟩⟩⟩
      · rw [lp_e]; unfold c25_76
        dsimp only
        rw [gtI_q kc2 d1.1]
        by_cases y : K 1 ≤ i + 1
        · rw [if_pos (leI_p rfl rfl (by omega))]
        · rw [if_neg (leI_n rfl rfl (by omega)), if_pos (show iI 0 = 0 from rfl)]
      · rw [lp_e]; unfold c254_63
        dsimp only
        rw [gtP_q k3 (rf_6 R3), alI_q (n := 64) (z := 8 * e.1 29 0 0 + K 0) (rk_165 R3) rfl (by omega) hr3.2.1.1]
        by_cases y : K 1 ≤ i + 1
        · rw [if_pos (leI_p rfl rfl (by omega))]
        · rw [if_neg (leI_n rfl rfl (by omega)), gtI_q k3 n101, if_neg (show ¬ iI 3 = 1 by decide)]
      · rw [x2]
        by_cases y : a = 160
        · exact (sI_nej (by omega)).trans ((sI_nej (by omega)).trans (sI_nej (by omega)))
        · exact (sI_ne y).trans ((sI_ne y).trans (sI_ne y))
      · exact (o3 84 (by decide) (by decide) (by decide)).trans ((z2.2.1 160 84 (by decide)).trans (o1 _ _ (by omega)))
      · unfold zFg
        rw [o3 85 (by decide) (by decide) (by decide)]; exact z4
    · -- no WORK is left
      obtain ⟨Mr3, x1, x2⟩ := zr253 (d := d) (v := 3) (by omega) z1.2.2.2.2.2.1
      have f3 := zr253_f (g2) x2
      obtain ⟨N, rfl⟩ : ∃ e, N = e + 1 := ⟨N - 1, by omega⟩
      obtain ⟨N', rfl⟩ : ∃ e, N' = e + 1 := ⟨N' - 1, by omega⟩
      rw [r1, r2, if_neg (show ¬ iI 1 = 0 by decide), vC_e (rk_160 z1.2.2.2.2.2.1), cV_e x1]
      have hc2 := hc.fl g1 hu
      obtain ⟨-, -, ub2, ua2, -, -, d1, -, -⟩ := hc2
      have R3 : RT Mr3 := z1.2.2.2.2.2.1.keep (by rw [x2]; rfl)
      have k3 := rk_160 R3
      have hr3 := hr.rl (f01.tr f3)
      have n101 : Mr3.1 160 101 = iI 3 := by rw [x2]; exact (sI_nej (by decide)).trans ((sI_nej (by decide)).trans (sI_eq.trans li_3))
      have o3 : ∀ j, j ≠ 101 → j ≠ 102 → j ≠ 103 → Mr3.1 160 j = Mr'.1 160 j := fun j p q r => by rw [x2]; exact (sI_nej r).trans ((sI_nej q).trans (sI_nej p))
      have kc2 : Mc'.2.2.2[κ 7 (K 0)]? = some (11, 10) := by rw [congrArg (fun z => z.2.2) g1.1]; exact u2
      have f13 : zRl e Mr' Mr3 := zr253_f zRl.rf x2
      refine ⟨Mc', Mr3, 0, ?_, ?_, g1, f01.tr f3, Or.inr ⟨rfl, z1.mr f13 (fun a j z => by
        rw [x2]
        by_cases y : a = 160
        · exact (sI_nej (by omega)).trans ((sI_nej (by omega)).trans (sI_nej (by omega)))
        · exact (sI_ne y).trans ((sI_ne y).trans (sI_ne y))), n101⟩⟩
      · rw [lp_e]; unfold c25_76
        dsimp only
        rw [gtI_q kc2 d1.1]
        by_cases y : K 1 ≤ i + 1
        · rw [if_pos (leI_p rfl rfl (by omega))]
        · rw [if_neg (leI_n rfl rfl (by omega)), if_pos (show iI 0 = 0 from rfl)]
      · rw [lp_e]; unfold c254_63
        dsimp only
        rw [gtP_q k3 (rf_6 R3), alI_q (n := 64) (z := 8 * e.1 29 0 0 + K 0) (rk_165 R3) rfl (by omega) hr3.2.1.1]
        by_cases y : K 1 ≤ i + 1
        · rw [if_pos (leI_p rfl rfl (by omega))]
        · rw [if_neg (leI_n rfl rfl (by omega)), gtI_q k3 n101, if_neg (show ¬ iI 3 = 1 by decide)]
end S9bl
