/-! a reading, both: what is known behind it -/
def W_pr : List (Nat × Nat) := W_mr ++ [(160, 1), (160, 65), (160, 2)] ++ W_kp
def kcs (c : Nat) : Prop := c = 183 ∨ (188 ≤ c ∧ c ≤ 193) ∨ c = 221 ∨ c = 238
def rdQ (Mc Mr : Mem) (p : Int) (M : Mem) (w : Value) (M2 : Mem) : Prop := (CT M ∧ FG Zrd Mc M ∧ ∃ s0 : Int, M.1 65 16 = iI s0 ∧ 0 ≤ s0 ∧ s0 ≤ 10) ∧ (Fr W_pr Mr M2 ∧ RM M2 ∧ M2.1 160 1 = iI 0 ∧ KP p Mr M2 ∧ KPc p Mr M2) ∧ ((∃ (F P : Int) (H : HG), (1 ≤ F ∧ F ≤ 6) ∧ M.1 65 10 = iI F ∧ M.1 65 11 = iI P ∧ HS (ln Mc) (tot Mc.2.2.2) 0 M H ∧ w = .int (iI (-10 - P)) ∧ M2.1 160 65 = iI F ∧ M2.1 160 2 = iI p) ∨ (∃ (Gs : Nat → Int → Int) (e : Int) (H : HG) (R : RG), M.1 65 10 = iI 0 ∧ M.1 65 9 = iI e ∧ HS (ln Mc) (tot Mc.2.2.2) 0 M H ∧ CA1 M Gs e ∧ CMK M Gs e ∧ zPK Gs R H e ∧ w = .int (iI p) ∧ M2.1 160 65 = iI 0 ∧ M2.1 160 2 = iI (p + 1) ∧ RR M2 p R ∧ RKp M2 Gs e p (mcn Gs e.toNat) (mtf Gs e.toNat) ∧ (∀ j : Int, 0 ≤ j → j < 16 → M2.1 183 (16 * p + j).toNat = iI j) ∧ M2.1 221 p.toNat = iI 0 ∧ M2.1 238 p.toNat = iI 0))
section S9ek
variable {dl d LL : Nat} {T : Int → Int} {n p i e s u ut cnt dq s0 m : Int} {kd pl E : Int → Int} {tx : Int → Int64} {M M' M0 M2 M0r Mc Mr : Mem} {xs : Nat → Int32} {G : Nat → Int → Int} {R : RG} {H : HG}
theorem KPc.eq (h : KPc p M M') (e1 : ∀ c j, kcs c → M.1 c j = M0.1 c j) (e2 : ∀ c j, kcs c → M2.1 c j = M'.1 c j) : KPc p M0 M2 := fun c => by
  obtain ⟨h1, h2, h3⟩ := h c
  exact ⟨fun z x a b => (e2 c _ (by unfold kcs; omega)).trans ((h1 z x a b).trans (e1 c _ (by unfold kcs; omega))), fun z x a b => (e2 c _ (by unfold kcs; omega)).trans ((h2 z x a b).trans (e1 c _ (by unfold kcs; omega))), fun z x a b => (e2 c _ (by unfold kcs; omega)).trans ((h3 z x a b).trans (e1 c _ (by unfold kcs; omega)))⟩
theorem kcs_mr (f : Fr (W_mr ++ [(160, 1), (160, 65)]) M M') : ∀ c j, kcs c → M'.1 c j = M.1 c j := fun c j h => by
  have g : ∀ q, q ∈ W_mr ++ [(160, 1), (160, 65)] → ¬ kcs q.1 := by unfold kcs; decide +kernel
  exact f.c c (fun q hq z => g q hq (by rw [z]; exact h)) j
theorem zPK.ob (h : zPK G R H e) : OpB G e := fun j a b => by
  obtain ⟨-, -, h3, -⟩ := h
  obtain ⟨t1, t2, t3, -⟩ := h3 j a b
  omega
theorem rest_ok (hd : 2 ≤ d) (hp : 0 ≤ p ∧ p ≤ 7) (q : RQ T n 2500 m kd pl E tx M0r M p ut cnt e s u dq M R (i, 0, 0)) (hA : RA1 M G e) (hz : zPK G R H e) (hf : Fr W_mr Mr M0r) (hk : KP p Mr M0r) (hr2 : Mr.1 160 2 = iI p) : ∃ D, rest231 d p M = some (.int (iI p), D) ∧ (Fr W_pr Mr D ∧ RM D ∧ D.1 160 1 = iI 0 ∧ KP p Mr D ∧ KPc p Mr D) ∧ D.1 160 65 = iI 0 ∧ D.1 160 2 = iI (p + 1) ∧ RR D p R ∧ RKp D G e p (mcn G e.toNat) (mtf G e.toNat) ∧ (∀ j : Int, 0 ≤ j → j < 16 → D.1 183 (16 * p + j).toNat = iI j) ∧ D.1 221 p.toNat = iI 0 ∧ D.1 238 p.toNat = iI 0 := by
  obtain ⟨hs, ⟨mu, ut9, m1, m2, m3⟩, -⟩ := q.sr rfl
  obtain ⟨-, -, -, h41, h43, -⟩ := hs
  have rM := q.1.1
  have fM : Fr W_mr Mr M := Fr.t hf q.2.1
  obtain ⟨A, hA1⟩ : ∃ A, A = sI M 160 1 (iI 0) := ⟨_, rfl⟩
  obtain ⟨B, hB⟩ : ∃ B, B = sI A 160 65 (iI 0) := ⟨_, rfl⟩
  have rA : RT A := by rw [hA1]; exact rM
  have rB : RT B := by rw [hB]; exact rA
  have fB : Fr [(160, 1), (160, 65)] M B := by
    rw [hB, hA1]
    exact Fr.sI (by decide) (Fr.sI (by decide) Fr.r)
  have a41 : A.1 160 41 = iI 0 := by rw [hA1, sI_nej (by decide)]; exact h41
  have b41 : B.1 160 41 = iI 0 := by rw [hB, sI_nej (by decide)]; exact a41
  have he : 0 ≤ e ∧ e ≤ 1000 := by have := hz.2.1; omega
  obtain ⟨C, c1, c2, c3, c4, c5, c6, c7⟩ := kp232 (d := d) (M := B) (e := e) (v := iI p) hd hp he hz.ob rB ((fB.i _ _ (by decide)).trans h43) (fun j a b => by
    obtain ⟨t1, t2, t3, t4⟩ := hA j a b
    exact ⟨(fB.c 195 (by decide) _).trans t1, (fB.c 196 (by decide) _).trans t2, (fB.c 197 (by decide) _).trans t3, (fB.c 198 (by decide) _).trans t4⟩) rfl
  have rC : RT C := rB.fr c2
  have r2 : C.1 160 2 = iI p := (c2.i _ _ (by decide)).trans ((fB.i _ _ (by decide)).trans ((fM.i _ _ (by decide)).trans hr2))
  obtain ⟨D, hD⟩ : ∃ D, D = sI C 160 2 (iI (p + 1)) := ⟨_, rfl⟩
  have fD : Fr [(160, 2)] C D := by rw [hD]; exact Fr.sI (by decide) Fr.r
  have fr1 : Fr (W_mr ++ [(160, 1), (160, 65)]) Mr B := Fr.t (Fr.m fM (fun _ z => List.mem_append_left _ z)) (Fr.m fB (fun _ z => List.mem_append_right _ z))
  have n160 : ∀ c, kcs c → c ≠ 160 := fun c h z => by unfold kcs at h; omega
  refine ⟨D, ?_, ⟨?_, ⟨mu, ut9, ?_, ?_, m3⟩, ?_, ?_, ?_⟩, ?_, by rw [hD, sI_eq], ?_, ?_, fun j a b => (fD.c 183 (by decide) _).trans (c5 j a b), (fD.c 221 (by decide) _).trans c6, (fD.c 238 (by decide) _).trans c7⟩
  · unfold rest231
    rw [ptI_q (z := 0) (rk_160 rM) li_0, ← hA1, gtI_q (rk_160 rA) a41, ptI_q (z := 0) (rk_160 rA) rfl, ← hB, gtI_q (rk_160 rB) b41, if_pos (show iI 0 = 0 from rfl), vC_e (rk_160 rB), cV_e c1, gtI_q (rk_160 rC) r2, ptI_q (rk_160 rC) (adI rfl li_1), ← hD]
  · exact Fr.t (Fr.m fr1 (by decide +kernel)) (Fr.t (Fr.m c2 (by decide +kernel)) (Fr.m fD (by decide +kernel)))
  · exact (fD.i _ _ (by decide)).trans ((c2.i _ _ (by decide)).trans ((fB.i _ _ (by decide)).trans m1))
  · exact (fD.i _ _ (by decide)).trans ((c2.i _ _ (by decide)).trans ((fB.i _ _ (by decide)).trans m2))
  · refine (fD.i _ _ (by decide)).trans ((c2.i _ _ (by decide)).trans ?_)
    rw [hB, sI_nej (by decide), hA1, sI_eq]
  · exact (((hk.tr q.2.2.2.1.2).fr fB (by decide +kernel)).fr c2 (by decide +kernel)).fr fD (by decide +kernel)
  · exact c3.eq (fun c j h => kcs_mr fr1 c j h) (fun c j h => by rw [hD]; exact sI_ne (n160 c h))
  · refine (fD.i _ _ (by decide)).trans ((c2.i _ _ (by decide)).trans ?_)
    rw [hB, sI_eq]
  · exact ((q.2.2.2.1.1.fr fB (by decide +kernel)).fr c2 (by decide +kernel)).fr fD (by decide +kernel)
  · obtain ⟨⟨t1, t2⟩, t3, t4⟩ := c4
    refine ⟨⟨(fD.c 188 (by decide) _).trans t1, (fD.c 192 (by decide) _).trans t2⟩, fun j a b => ?_, fun k a b => (fD.c 193 (by decide) _).trans (t4 k a b)⟩
    obtain ⟨u1, u2, u3⟩ := t3 j a b
    exact ⟨(fD.c 189 (by decide) _).trans u1, (fD.c 190 (by decide) _).trans u2, (fD.c 191 (by decide) _).trans u3⟩
theorem sub_of {k' : Int} {G U Gs : Nat → Int → Int} {X : Nat → Int → Int64} (hH : HRC G e H R k') (hD : DGK G U X e u) (hu : 0 ≤ u) (hS : SetU (R.2 1) (R.2 2) (R.1 1 0 0) (R.1 2 0 0) (R.1 2) U X G u.toNat Gs) : Sub G Gs := by
  obtain ⟨d1, d2⟩ := hD
  have hG : ∀ q, 0 ≤ q → q < u → (0 ≤ U 1 q ∧ U 1 q ≤ 4) ∧ (U 1 q < 3 ∧ U 7 q = U 1 q + 1 ∨ 3 ≤ U 1 q ∧ U 7 q = U 1 q) ∧ G 0 (U 2 q) = U 1 q + 3 := fun q a b => by
    obtain ⟨⟨z1, z2, z3, z4, z5, z6⟩, -⟩ := d1 q a b
    exact ⟨z1, z2, z5⟩
  have hm : ∀ r, 0 ≤ r → r < R.1 2 0 0 → 0 ≤ R.1 2 2 r := fun r a b => (hH.2.2.2.1 r a (by rw [hH.1.2.2.1]; exact b)).2.2.2.1.1
  exact (SetU.sub hG hm (k := u.toNat) (by omega) hS).1
theorem read_both (hdl : 960 ≤ dl) (hd : 960 ≤ d) (hO : OldOK LL xs Mc) (hC : CT Mc) (h259 : 259 ≤ ln Mc) (h2 : Mc.2.2.2[2]? = some (210, 0)) (hT : Tp 66 1 67 T n Mc) (hn : n ≤ 1399) (hW : ∀ i, 0 ≤ i → i < 28 → Mc.2.1 71 i.toNat = WC i) (h16 : Mc.1 65 16 = iI s0) (hs0 : 0 ≤ s0 ∧ s0 ≤ 10) (hX : RX T n Mr) (hr2 : Mr.1 160 2 = iI p) (hp : 0 ≤ p ∧ p ≤ 7) (hm : RM Mr) : Rs (runX (dl + 1) 61 [va_rf (some 65)] Mc) (runX (d + 1) 231 [va_rf (some 160)] Mr) (fun v M w M2 => v = .null ∧ rdQ Mc Mr p M w M2) := by
  obtain ⟨mu, ut, h48, h49, hb⟩ := hm
  obtain ⟨dq, -, -, h50⟩ := iI_ex (Mr.1 160 50)
  obtain ⟨s, -, -, h51⟩ := iI_ex (Mr.1 160 51)
  obtain ⟨cnt, -, -, h64⟩ := iI_ex (Mr.1 160 64)
  refine read_pairp hdl hd hO hC h259 h2 hT hn hW h16 hs0 hX hr2 hp h48 h49 (by omega) h50 h51 h64 ?_ ?_
  · intro m kd pl E tx M0c M0r M4 hS nl f4 f2 k2 i' Mc' Mr' G' U' X' H' R' e' s' u' uc' k' ut' cnt' dq' Gs hk1 hk0 hsu hH hG he hM hSe hA g hRA q
    obtain ⟨sr, q⟩ := q
    have hu := hsu.2
    have zk := zPK_of hk1 hH hG he hu hSe
    obtain ⟨D, d1, d2, d3, d4, d5, d6, d7, d8, d9⟩ := rest_ok (d := d) (by omega) hp q hRA zk f2 k2 hr2
    rw [d1]
    obtain ⟨⟨t1, t2, t3, t4, t5, t6⟩, -⟩ := g.sc rfl
    have cm : CMK Mc' Gs e' := fun j a b => by
      have := ((sub_of hH hG hu hSe) j).2.2 5 (by decide)
      rw [this]
      exact hM j a b
    exact Rs.ok ⟨rfl, ⟨g.1.1, rd_fg h259 nl f4 g.2.1.1, s', t5, hsu.1⟩, d2, Or.inr ⟨Gs, e', H', R', t3, t4, g.2.2.2.1, hA, cm, zk, rfl, d3, d4, d5, d6, d7, d8, d9⟩⟩
  · intro M0c M0r M4 nl f4 f2 k2 F P Mc' Mr' c r
    obtain ⟨c1, c2, ⟨H, c3⟩, c4, c5, c6, s, c7, c8⟩ := c
    obtain ⟨r1, r2, r3, r4, r5, r6, em, sn, us, mu, ut', y1, y2, y3, y4, y5, y6, y7, y8⟩ := r
    have fr1 : Fr (W_mr ++ [(160, 1), (160, 65)]) Mr Mr' := Fr.t (Fr.m f2 (fun _ z => List.mem_append_left _ z)) r3
    refine ⟨rfl, ⟨c1, rd_fg h259 nl f4 c2, s, c7, c8⟩, ⟨Fr.m fr1 (by decide +kernel), ⟨mu, ut', y6, y7, by omega⟩, r5, k2.tr r4, KPc.r.eq (fun c j h => rfl) (kcs_mr fr1)⟩, Or.inl ⟨F, P, H, c6, c4, c5, c3, rfl, r6, (fr1.i _ _ (by decide)).trans hr2⟩⟩
end S9ek
