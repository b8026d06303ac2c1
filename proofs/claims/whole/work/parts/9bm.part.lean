/-! both machines: the afters of a life -/
/-- what is told of a CASE -/
def zLv (V : Int) (F W : Int32) (Mc Mr : Mem) : Prop := (Mc.1 89 0 = iI V ∧ Mc.1 89 1 = F ∧ Mc.1 89 2 = W) ∧ (Mr.1 160 101 = iI V ∧ Mr.1 160 102 = F ∧ Mr.1 160 103 = W) ∧ 1 ≤ V ∧ V ≤ 5
/-- the afters, the last one first -/
def zAf (e : ZS) (F : Nat → Int → Int) : Nat → ZS → Int → Int → Int32 → Int32 → Int → Int32 → Int32 → ZS → Prop
  | 0, s, _, V, Fa, Wh, V', Fa', Wh', s' => s' = s ∧ V' = V ∧ Fa' = Fa ∧ Wh' = Wh
  | m + 1, s, ov, V, Fa, Wh, V', Fa', Wh', s' => (ov = 1 ∧ s' = s ∧ V' = V ∧ Fa' = Fa ∧ Wh' = Wh) ∨ (ov = 0 ∧ ∃ u, zEx e s (F 1 m) 0 u ∧ u.1 1 0 0 ≠ 6 ∧ ((u.1 1 0 0 ≠ 2 ∧ V = 1 ∧ zAf e F m (znb u) (zov u) 4 (u.2 5 0 0) (iI (u.1 13 0 0)) V' Fa' Wh' s') ∨ (¬ (u.1 1 0 0 ≠ 2 ∧ V = 1) ∧ zAf e F m (znb u) (zov u) V Fa Wh V' Fa' Wh' s')))
section S9bm
variable {d dl : Nat} {e s s' t u : ZS} {κ : ZK} {M M' M1 M2 Mc Mr Mc' Mr' : Mem} {a b j N x y LL cp : Nat} {xs : Nat → Int32} {v v1 v2 v3 w sd : Int32} {c k i n m p o q id par en B D r rc rr V : Int} {R : Int → RG} {G : RG} {L : Int → Int} {Y : Nat → Int → Int} {K : Nat → Int} {F : Nat → Int → Int} {Fa Wh : Int32}
theorem zSp.mc (h : zSp LL xs e κ R L s Mc Mr) (f : zFl κ Mc Mc') (g : ∀ a j : Nat, ¬ (a = 89 ∧ j < 3) → Mc'.1 a j = Mc.1 a j) : zSp LL xs e κ R L s Mc' Mr := by
  obtain ⟨h1, h2, h3, h4, h5, h6, h7, h8, h9, u, w1, w2, w3, w4, w5⟩ := h
  exact ⟨h1.keep f.1, h2.fl f h3.2.2.2.2.1.k8, h3.fl f, (g _ _ (by omega)).trans h4, (g _ _ (by omega)).trans h5, h6, h7, h8, h9, u, w1, w2, w3, w4, w5.sub h3.2.2.2.2.1.k8 g⟩
theorem zAf.fx : ∀ {m : Nat} {s : ZS} {ov V : Int} {Fa Wh : Int32} {V' : Int} {Fa' Wh' : Int32} {s' : ZS}, zAf e F m s ov V Fa Wh V' Fa' Wh' s' → zFx e s s'
  | 0, _, _, _, _, _, _, _, _, _, ⟨h, _⟩ => by rw [h]; exact zFx.r
  | m + 1, s, ov, V, Fa, Wh, V', Fa', Wh', s', h => by
    rcases h with ⟨-, h, -⟩ | ⟨-, u, h1, h2, h3⟩
    · rw [h]; exact zFx.r
    · rcases h3 with ⟨-, -, h3⟩ | ⟨-, h3⟩
      · exact h1.fx.tr (zAf.fx h3)
      · exact h1.fx.tr (zAf.fx h3)
theorem zFl_48 (h : M' = sI (sI (sI M 89 0 v1) 89 1 v2) 89 2 v3) : zFl κ M M' ∧ ∀ a j, ¬ (a = 89 ∧ j < 3) → M'.1 a j = M.1 a j := by
  rw [h]
  refine ⟨((zFl.rf.sI (by decide)).sI (by decide)).sI (by decide), fun a j z => ?_⟩
  by_cases y : a = 89
  · exact (sI_nej (by omega)).trans ((sI_nej (by omega)).trans (sI_nej (by omega)))
  · exact (sI_ne y).trans ((sI_ne y).trans (sI_ne y))
theorem zRl_253 (h : M' = sI (sI (sI M 160 101 v) 160 102 v1) 160 103 v2) : zRl e M M' ∧ ∀ a j, ¬ (a = 160 ∧ (j = 101 ∨ j = 102 ∨ j = 103)) → M'.1 a j = M.1 a j := by
  refine ⟨zr253_f zRl.rf h, fun a j z => ?_⟩
  rw [h]
  by_cases y : a = 160
  · exact (sI_nej (by omega)).trans ((sI_nej (by omega)).trans (sI_nej (by omega)))
  · exact (sI_ne y).trans ((sI_ne y).trans (sI_ne y))
/-- the way out when all is over -/
theorem aft_x {J : Mem → XA} (hC : CT Mc) (e19 : Mc.1 88 19 = iI 3) (hi : -1 ≤ i ∧ i ≤ 3) (hN : 0 < N) : lp (c25_163 (runX dl) (some 88) J (some y)) N (iI i, Mc) = J Mc := by
  obtain ⟨N, rfl⟩ : ∃ e, N = e + 1 := ⟨N - 1, by omega⟩
  rw [lp_e]; unfold c25_163
  dsimp only
  by_cases y : i < 0
  · rw [if_pos (lsI_p rfl li_0 (by omega))]
  · rw [if_neg (lsI_n rfl li_0 (by omega)), gtI_q (ck_88 hC) e19, if_pos (show iI 3 = 3 from rfl)]
theorem aft_y {J' : Mem → XA} (hR : RT Mr) (e85 : Mr.1 160 85 = iI 1) (hi : -1 ≤ i ∧ i ≤ 3) (hN : 0 < N) : lp (c254_222 (runX d) (some 160) J' v) N (iI i, Mr) = J' Mr := by
  obtain ⟨N, rfl⟩ : ∃ e, N = e + 1 := ⟨N - 1, by omega⟩
  rw [lp_e]; unfold c254_222
  dsimp only
  by_cases y : i < 0
  · rw [if_pos (lsI_p rfl li_0 (by omega))]
  · rw [if_neg (lsI_n rfl li_0 (by omega)), gtI_q (rk_160 hR) e85, if_neg (show ¬ iI 1 = 0 by decide)]
theorem aft_pair {J J' : Mem → XA} {P : Int} (hdl : 10 ≤ dl) (hd : 62 ≤ d) (hV : zEv e) (hb : zKb e K F) (hP : P = e.1 29 0 0) : ∀ (m : Nat) (i : Int) (s : ZS) (Mc Mr : Mem) (N N' : Nat) (V : Int) (Fa Wh : Int32) (ov : Int), i + 1 = m → i < K 2 → m < N → m < N' → ((zPr LL xs e κ R L s Mc Mr ∧ zFg ov Mc Mr ∧ zLv V Fa Wh Mc Mr) ∨ zSp LL xs e κ R L s Mc Mr) → zKc κ cp K F Mc → zKr e K F Mr → ∃ Mc' Mr', lp (c25_163 (runX dl) (some 88) J (some (κ 7 (K 0)))) N (iI i, Mc) = J Mc' ∧ lp (c254_222 (runX d) (some 160) J' (iI (8 * P + K 0))) N' (iI i, Mr) = J' Mr' ∧ zFl κ Mc Mc' ∧ zRl e Mr Mr' ∧ ((∃ s' V' Fa' Wh', zPr LL xs e κ R L s' Mc' Mr' ∧ zAf e F m s ov V Fa Wh V' Fa' Wh' s' ∧ zLv V' Fa' Wh' Mc' Mr' ∧ Mr'.1 160 84 = Mr.1 160 84) ∨ zSp LL xs e κ R L s Mc' Mr') := by
  subst hP
  have hb' := hb
  obtain ⟨b1, b2, b3, b4, b5, b6, b7, b8⟩ := hb'
  intro m
  induction m with
  | zero =>
    intro i s Mc Mr N N' V Fa Wh ov h1 h2 h3 h4 hp hc hr
    obtain ⟨N, rfl⟩ : ∃ e, N = e + 1 := ⟨N - 1, by omega⟩
    obtain ⟨N', rfl⟩ : ∃ e, N' = e + 1 := ⟨N' - 1, by omega⟩
    refine ⟨Mc, Mr, ?_, ?_, zFl.rf, zRl.rf, ?_⟩
    · rw [lp_e]; unfold c25_163
      dsimp only
      rw [if_pos (lsI_p rfl li_0 (by omega))]
    · rw [lp_e]; unfold c254_222
      dsimp only
      rw [if_pos (lsI_p rfl li_0 (by omega))]
    · rcases hp with ⟨z1, -, z3⟩ | z
      · exact Or.inl ⟨s, V, Fa, Wh, z1, ⟨rfl, rfl, rfl, rfl⟩, z3, rfl⟩
      · exact Or.inr z
  | succ m ih =>
    intro i s Mc Mr N N' V Fa Wh ov h1 h2 h3 h4 hp hc hr
    obtain ⟨N, rfl⟩ : ∃ e, N = e + 1 := ⟨N - 1, by omega⟩
    obtain ⟨N', rfl⟩ : ∃ e, N' = e + 1 := ⟨N' - 1, by omega⟩
    rcases hp with ⟨hp, hg, hv⟩ | hs
    · rcases hg with ⟨ov1, e19, e85⟩ | ⟨ov0, e19, e85⟩
      · exact ⟨Mc, Mr, aft_x hp.2.1.1 e19 (by omega) (by omega), aft_y hp.2.2.1.1 e85 (by omega) (by omega), zFl.rf, zRl.rf, Or.inl ⟨s, V, Fa, Wh, hp, Or.inl ⟨ov1, rfl, rfl, rfl, rfl⟩, hv, rfl⟩⟩
      · have hE3 := hp.2.1.2.2.1.2.2.1
        obtain ⟨-, -, -, -, z5⟩ := hE3.1 0 (Or.inl rfl)
        obtain ⟨⟨u1, u2⟩, -⟩ := z5 (K 0) b2.1 b2.2
        rw [show 8 * (0 : Int) + K 0 = K 0 by omega] at u1 u2
        have hc' := hc
        obtain ⟨-, -, ub, ua, -, ⟨f1, f2, f3⟩, c1, -, c3⟩ := hc'
        have hR := hp.2.2.1.1
        have kr := rk_160 hR
        have a0 := (hp.2.2.2.1 0 (Or.inl rfl))
        have P0 := a0.1
        have b25 := a0.2.2.2.2.1
        obtain ⟨e1, e2⟩ := b8 i (by omega) h2
        obtain ⟨Mr1, hMr1⟩ : ∃ X, X = sI Mr 160 73 (iI 0) := ⟨_, rfl⟩
        have o1 : ∀ a j, ¬ (a = 160 ∧ j = 73) → Mr1.1 a j = Mr.1 a j := fun a j z => by
          rw [hMr1]
          by_cases y : a = 160
          · exact sI_nej fun w => z ⟨y, w⟩
          · exact sI_ne y
        have f01 : zRl e Mr Mr1 := by rw [hMr1]; exact zRl.rf.sI (by decide) (by decide)
        have hp1 : zPr LL xs e κ R L s Mc Mr1 := hp.mr (by rw [hMr1]; rfl) (fun a j z _ => o1 a j (by omega))
        have R1 := hp1.2.2.1.1
        obtain ⟨Mc', Mr', rc, rr, q1, q2, q3⟩ := code_pair (dl := dl) (d := d) (v := iI (F 1 i)) (v1 := iI (F 1 i)) (v2 := (0 : Int32)) (c := 0) (par := 0) (en := F 1 i) hdl (by omega) hV hp1 e1 (by omega) e2 (by rw [hMr1]; exact sI_eq) ((o1 _ _ (by omega)).trans e85) (fun k x y => by omega) rfl rfl li_0
        obtain ⟨g1, g2, g3⟩ := q3.out hp1.2.2.2
        have ii : iI i + (-1 : Int32) = iI (i - 1) := cvI (adI (y := -1) rfl rfl) (by omega)
        have e88 : ¬ Mc.1 88 19 = 3 := by rcases e19 with z | z | z <;> rw [z] <;> decide
        have headc : lp (c25_163 (runX dl) (some 88) J (some (κ 7 (K 0)))) (N + 1) (iI i, Mc) = (if iI rc = 0 then (gtP (4, 22) Mc' (some 88) 0 fun x33 => gtI (5, 5) Mc' x33 0 fun x34 => if x34 = ((1 : Int32)) then (gtP (4, 22) Mc' (some 88) 0 fun x35 => gtI (4, 22) Mc' (some 88) 20 fun x36 => gtI (4, 22) Mc' (some 88) 21 fun x37 => vC (5, 5) Mc' x35 <| cV (runX dl 48 [va_rf x35, .int ((4 : Int32)), .int x36, .int x37] Mc') fun M38 => lp (c25_163 (runX dl) (some 88) J (some (κ 7 (K 0)))) N (iI (i - 1), M38)) else lp (c25_163 (runX dl) (some 88) J (some (κ 7 (K 0)))) N (iI (i - 1), Mc')) else lp (c25_163 (runX dl) (some 88) J (some (κ 7 (K 0)))) N (iI (i - 1), Mc') : XA) := by
          rw [lp_e]
          generalize lp (c25_163 (runX dl) (some 88) J (some (κ 7 (K 0)))) N = go
          unfold c25_163
          dsimp only
          rw [if_neg (lsI_n rfl li_0 (by omega)), gtI_q (ck_88 hp.2.1.1) rfl, if_neg e88, gtP_q u2 f1, alI_q (n := 3) (z := i) f2 rfl (by omega) (c3 i (by omega) h2), vC_e (ck_88 hp.2.1.1), cI_e q1, jn_v]
          simp only [jv_e, ltI_q ii]
        have e168 : Mr1.1 168 (3 * (8 * e.1 29 0 0 + K 0) + i).toNat = iI (F 1 i) := (o1 _ _ (by omega)).trans (hr.2.2.2 i (by omega) h2)
        have k1 := rk_160 R1
        have headr : lp (c254_222 (runX d) (some 160) J' (iI (8 * e.1 29 0 0 + K 0))) (N' + 1) (iI i, Mr) = (if iI rr = 0 then lp (c254_222 (runX d) (some 160) J' (iI (8 * e.1 29 0 0 + K 0))) N' (iI (i - 1), Mr') else (gtI (13, 157) Mr' (some 160) 101 fun x29 => if x29 = ((1 : Int32)) then (vC (13, 157) Mr' (some 160) <| cV (runX d 253 [va_rf (some 160), .int ((4 : Int32))] Mr') fun M30 => lp (c254_222 (runX d) (some 160) J' (iI (8 * e.1 29 0 0 + K 0))) N' (iI (i - 1), M30)) else lp (c254_222 (runX d) (some 160) J' (iI (8 * e.1 29 0 0 + K 0))) N' (iI (i - 1), Mr')) : XA) := by
          rw [lp_e]
          generalize lp (c254_222 (runX d) (some 160) J' (iI (8 * e.1 29 0 0 + K 0))) N' = go
          unfold c254_222
          dsimp only
          rw [if_neg (lsI_n rfl li_0 (by omega)), gtI_q kr e85, if_pos (show iI 0 = 0 from rfl), ptI_q (z := 0) kr li_0, ← hMr1, gtP_q k1 (rf_9 R1), alI_q (n := 192) (z := 3 * (8 * e.1 29 0 0 + K 0) + i) (rk_168 R1) (show (3 : Int32) * iI (8 * e.1 29 0 0 + K 0) + iI i = iI (3 * (8 * e.1 29 0 0 + K 0) + i) from adI (mlI (x := 3) rfl rfl) rfl) (by omega) e168, vC_e k1, cI_e q2, jn_v]
          simp only [jv_e, ltI_q ii]
        rw [headc, headr]
        have hu := u1
        have im : ((m : Nat) : Int) = i := by omega
        rcases g3 with ⟨u, z0, z00, z1, z2, z3, z4, zz⟩ | ⟨r1, r2, z1⟩
        · have w89 : ∀ j, j < 3 → Mc'.1 89 j = Mc.1 89 j := fun j z => z3.f hp.2.1.2.2.1.2.2.2.2.1.k8 (by
            have : j = 0 ∨ j = 1 ∨ j = 2 := by omega
            rcases this with y | y | y <;> subst y <;> decide) (by decide)
          have o2 : ∀ j, j = 84 ∨ j = 101 ∨ j = 102 ∨ j = 103 → Mr'.1 160 j = Mr.1 160 j := fun j z => (z2.2.1 160 j (by rcases z with z | z | z | z <;> subst z <;> decide)).trans (o1 _ _ (by omega))
          have hv' : zLv V Fa Wh Mc' Mr' := by
            obtain ⟨⟨x1, x2, x3⟩, ⟨x4, x5, x6⟩, x7⟩ := hv
            exact ⟨⟨(w89 0 (by omega)).trans x1, (w89 1 (by omega)).trans x2, (w89 2 (by omega)).trans x3⟩, ⟨(o2 101 (by omega)).trans x4, (o2 102 (by omega)).trans x5, (o2 103 (by omega)).trans x6⟩, x7⟩
          -- on, from here
          have on : ∀ (s2 : ZS) (M2 M3 : Mem) (V2 : Int) (Fb Wb : Int32) (o2' : Int), (∀ V' Fa' Wh' s', zAf e F m s2 o2' V2 Fb Wb V' Fa' Wh' s' → zAf e F (m + 1) s ov V Fa Wh V' Fa' Wh' s') → zPr LL xs e κ R L s2 M2 M3 → zFg o2' M2 M3 → zLv V2 Fb Wb M2 M3 → zFl κ Mc' M2 → zRl e Mr' M3 → M3.1 160 84 = Mr'.1 160 84 → zFx e s s2 → ∃ Mc2 Mr2, lp (c25_163 (runX dl) (some 88) J (some (κ 7 (K 0)))) N (iI (i - 1), M2) = J Mc2 ∧ lp (c254_222 (runX d) (some 160) J' (iI (8 * e.1 29 0 0 + K 0))) N' (iI (i - 1), M3) = J' Mr2 ∧ zFl κ Mc Mc2 ∧ zRl e Mr Mr2 ∧ ((∃ s' V' Fa' Wh', zPr LL xs e κ R L s' Mc2 Mr2 ∧ zAf e F (m + 1) s ov V Fa Wh V' Fa' Wh' s' ∧ zLv V' Fa' Wh' Mc2 Mr2 ∧ Mr2.1 160 84 = Mr.1 160 84) ∨ zSp LL xs e κ R L s Mc2 Mr2) := fun s2 M2 M3 V2 Fb Wb o2' a0' a1 a2 a3 a4 a5 a6 a7 => by
            obtain ⟨Mc2, Mr2, y1, y2, y3, y4, y5⟩ := ih (i - 1) s2 M2 M3 N N' V2 Fb Wb o2' (by omega) (by omega) (by omega) (by omega) (Or.inl ⟨a1, a2, a3⟩) (hc.fl (g1.tr a4) hu) (hr.rl (f01.tr (g2.tr a5)))
            refine ⟨Mc2, Mr2, y1, y2, g1.tr (a4.tr y3), f01.tr (g2.tr (a5.tr y4)), y5.imp (fun ⟨s3, V3, F3, W3, w1, w0, w2, w3⟩ => ⟨s3, V3, F3, W3, w1, a0' _ _ _ _ w0, w2, w3.trans (a6.trans (o2 84 (by omega)))⟩) fun q => q.fx a7⟩
          have z0' : zEx e s (F 1 m) 0 u := by rw [im]; exact z0
          rcases zz with ⟨r0, r1, r2, r3⟩ | ⟨r0, r1, r2, r3, r4⟩
          · rw [r1, r2, if_neg (show ¬ iI 1 = 0 by decide), if_pos (show iI 0 = 0 from rfl)]
            exact on (znb u) Mc' Mr' V Fa Wh (zov u) (fun _ _ _ _ w => Or.inr ⟨ov0, u, z0', z00, Or.inr ⟨fun q => q.1 r0, w⟩⟩) z1 z4 hv' zFl.rf zRl.rf rfl z0'.fx
          · have kc' := ck_88 z1.2.1.1
            rw [r1, r2, if_pos (show iI 0 = 0 from rfl), if_neg (show ¬ iI 1 = 0 by decide), gtP_q kc' (cf_88_0 z1.2.1.1), gtI_q (ck_89 z1.2.1.1) hv'.1.1, gtI_q (rk_160 z1.2.2.1.1) hv'.2.1.1]
            by_cases y : V = 1
            · obtain ⟨M2, x1, x2⟩ := zc48 (d := dl) (M := Mc') (v1 := 4) (v2 := Mc'.1 88 20) (v3 := Mc'.1 88 21) (by omega) z1.2.1.1
              obtain ⟨M3, x3, x4⟩ := zr253 (d := d) (v := 4) (by omega) z1.2.2.1.1
              obtain ⟨fc, oc⟩ := zFl_48 (κ := κ) x2
              obtain ⟨fr, or⟩ := zRl_253 (e := e) x4
              rw [if_pos (show iI V = 1 from eqI_p rfl li_1 y), if_pos (show iI V = 1 from eqI_p rfl li_1 y), gtP_q kc' (cf_88_0 z1.2.1.1), gtI_q kc' rfl, gtI_q kc' rfl, vC_e (ck_89 z1.2.1.1), cV_e x1, vC_e (rk_160 z1.2.2.1.1), cV_e x3]
              refine on (znb u) M2 M3 4 (u.2 5 0 0) (iI (u.1 13 0 0)) (zov u) (fun _ _ _ _ w => Or.inr ⟨ov0, u, z0', z00, Or.inl ⟨r0, y, w⟩⟩) ((z1.mc fc (fun a j p q => oc a j q)).mr fr.1 (fun a j p _ => or a j (by omega))) ?_ ⟨⟨?_, ?_, ?_⟩, ⟨?_, ?_, ?_⟩, by omega, by omega⟩ fc fr (or _ _ (by omega)) z0'.fx
              · unfold zFg
                rw [oc _ _ (by omega), or _ _ (by omega)]; exact z4
              · rw [x2]; exact (sI_nej (by decide)).trans ((sI_nej (by decide)).trans (sI_eq.trans li_4))
              · rw [x2]; exact ((sI_nej (by decide)).trans sI_eq).trans r3.1
              · rw [x2]; exact sI_eq.trans r4.1
              · rw [x4]; exact (sI_nej (by decide)).trans ((sI_nej (by decide)).trans (sI_eq.trans li_4))
              · rw [x4]; exact ((sI_nej (by decide)).trans sI_eq).trans r3.2
              · rw [x4]; exact sI_eq.trans r4.2
            · have vb := hv'.2.2
              rw [if_neg (show ¬ iI V = 1 from eqI_n rfl li_1 (by omega)), if_neg (show ¬ iI V = 1 from eqI_n rfl li_1 (by omega))]
              exact on (znb u) Mc' Mr' V Fa Wh (zov u) (fun _ _ _ _ w => Or.inr ⟨ov0, u, z0', z00, Or.inr ⟨fun q => y q.2, w⟩⟩) z1 z4 hv' zFl.rf zRl.rf rfl z0'.fx
        · -- no WORK is left
          have kc' := ck_88 z1.1
          have kr' := rk_160 z1.2.2.2.2.2.1
          rw [r1, r2, if_pos (show iI 0 = 0 from rfl), if_neg (show ¬ iI 1 = 0 by decide), gtP_q kc' (cf_88_0 z1.1), gtI_q (ck_89 z1.1) rfl, gtI_q kr' rfl]
          obtain ⟨Mc2, y1, y2, y3⟩ : ∃ Mc2, (if Mc'.1 89 0 = ((1 : Int32)) then (gtP (4, 22) Mc' (some 88) 0 fun x35 => gtI (4, 22) Mc' (some 88) 20 fun x36 => gtI (4, 22) Mc' (some 88) 21 fun x37 => vC (5, 5) Mc' x35 <| cV (runX dl 48 [va_rf x35, .int ((4 : Int32)), .int x36, .int x37] Mc') fun M38 => lp (c25_163 (runX dl) (some 88) J (some (κ 7 (K 0)))) N (iI (i - 1), M38)) else lp (c25_163 (runX dl) (some 88) J (some (κ 7 (K 0)))) N (iI (i - 1), Mc') : XA) = J Mc2 ∧ zFl κ Mc' Mc2 ∧ zSp LL xs e κ R L s Mc2 Mr' := by
            by_cases y : Mc'.1 89 0 = 1
            · obtain ⟨M2, x1, x2⟩ := zc48 (d := dl) (M := Mc') (v1 := 4) (v2 := Mc'.1 88 20) (v3 := Mc'.1 88 21) (by omega) z1.1
              obtain ⟨fc, oc⟩ := zFl_48 (κ := κ) x2
              have z2 := z1.mc fc oc
              refine ⟨M2, ?_, fc, z2⟩
              rw [if_pos y, gtP_q kc' (cf_88_0 z1.1), gtI_q kc' rfl, gtI_q kc' rfl, vC_e (ck_89 z1.1), cV_e x1]
              exact aft_x z2.1 z2.2.2.2.1 (by omega) (by omega)
            · exact ⟨Mc', by rw [if_neg y]; exact aft_x z1.1 z1.2.2.2.1 (by omega) (by omega), zFl.rf, z1⟩
          obtain ⟨Mr2, w1, w2, w3⟩ : ∃ Mr2, (if Mr'.1 160 101 = ((1 : Int32)) then (vC (13, 157) Mr' (some 160) <| cV (runX d 253 [va_rf (some 160), .int ((4 : Int32))] Mr') fun M30 => lp (c254_222 (runX d) (some 160) J' (iI (8 * e.1 29 0 0 + K 0))) N' (iI (i - 1), M30)) else lp (c254_222 (runX d) (some 160) J' (iI (8 * e.1 29 0 0 + K 0))) N' (iI (i - 1), Mr') : XA) = J' Mr2 ∧ zRl e Mr' Mr2 ∧ zSp LL xs e κ R L s Mc2 Mr2 := by
            by_cases y : Mr'.1 160 101 = 1
            · obtain ⟨M3, x3, x4⟩ := zr253 (d := d) (v := 4) (by omega) z1.2.2.2.2.2.1
              obtain ⟨fr, or⟩ := zRl_253 (e := e) x4
              have z2 := y3.mr fr or
              refine ⟨M3, ?_, fr, z2⟩
              rw [if_pos y, vC_e kr', cV_e x3]
              exact aft_y z2.2.2.2.2.2.1 z2.2.2.2.2.2.2.1 (by omega) (by omega)
            · exact ⟨Mr', by rw [if_neg y]; exact aft_y z1.2.2.2.2.2.1 z1.2.2.2.2.2.2.1 (by omega) (by omega), zRl.rf, y3⟩
          exact ⟨Mc2, Mr2, y1, w1, g1.tr y2, f01.tr (g2.tr w2), Or.inr w3⟩
    · exact ⟨Mc, Mr, aft_x hs.1 hs.2.2.2.1 (by omega) (by omega), aft_y hs.2.2.2.2.2.1 hs.2.2.2.2.2.2.1 (by omega) (by omega), zFl.rf, zRl.rf, Or.inr hs⟩
end S9bm
