/-! the first object's machine: a unit is seen to -/
section S99g
variable {d : Nat} {e s s' u : ZS} {κ : ZK} {M M' M1 M2 : Mem} {a b j N x y : Nat} {v v1 v2 w : Int32} {c t k i n p o q id fl ar st key par : Int} {Y : Nat → Int → Int}
/-- a new code: what it is -/
theorem zent_n : (zent s t st k c).1 0 0 0 = s.1 0 0 0 + 1 ∧ (zent s t st k c).1 2 (s.1 0 0 0) 0 = t ∧ (zent s t st k c).1 3 (s.1 0 0 0) 0 = 0 ∧ (zent s t st k c).1 5 (s.1 0 0 0) 0 = st ∧ (zent s t st k c).1 6 (s.1 0 0 0) 0 = k ∧ (zent s t st k c).1 16 (s.1 0 0 0) 0 = c ∧ ∀ kk, kk = 2 ∨ kk = 3 ∨ kk = 5 ∨ kk = 6 ∨ kk = 16 → ∀ i, i ≠ s.1 0 0 0 → (zent s t st k c).1 kk i 0 = s.1 kk i 0 := by
  refine ⟨zi_e, (zi_k (by decide)).trans ((zi_k (by decide)).trans ((zi_k (by decide)).trans ((zi_k (by decide)).trans ((zi_k (by decide)).trans ((zi_k (by decide)).trans zi_e))))), (zi_k (by decide)).trans ((zi_k (by decide)).trans ((zi_k (by decide)).trans ((zi_k (by decide)).trans ((zi_k (by decide)).trans zi_e)))), (zi_k (by decide)).trans ((zi_k (by decide)).trans ((zi_k (by decide)).trans zi_e)), (zi_k (by decide)).trans ((zi_k (by decide)).trans zi_e), (zi_k (by decide)).trans zi_e, fun kk p i q => ?_⟩
  rcases p with p | p | p | p | p <;> subst p
  · exact (zi_k (by decide)).trans ((zi_k (by decide)).trans ((zi_k (by decide)).trans ((zi_k (by decide)).trans ((zi_k (by decide)).trans ((zi_k (by decide)).trans (zi_i q))))))
  · exact (zi_k (by decide)).trans ((zi_k (by decide)).trans ((zi_k (by decide)).trans ((zi_k (by decide)).trans ((zi_k (by decide)).trans (zi_i q)))))
  · exact (zi_k (by decide)).trans ((zi_k (by decide)).trans ((zi_k (by decide)).trans (zi_i q)))
  · exact (zi_k (by decide)).trans ((zi_k (by decide)).trans (zi_i q))
  · exact (zi_k (by decide)).trans (zi_i q)
/-- enter(), beside a new code -/
theorem zc29 (hd : 1 ≤ d) (h : zCM e κ s M) (hl : zLy s) (hk : zK8 κ) (hn : s.1 0 0 0 < 12) (hp : 0 ≤ par ∧ par ≤ zh s ∧ par ≤ 10) {v3 v4 : Int32} (h1 : v1 = iI (t - zoff t)) (h2 : v2 = iI (ztp s - par)) (h3 : v3 = iI (if t < 1000 then 0 else 1)) (h4 : v4 = iI (if st < 0 then -2 else st)) (g : zGs s s') (e0 : s'.1 0 0 0 = s.1 0 0 0 + 1) (hs : ∀ i, i ≠ s.1 0 0 0 → (∀ k, k = 2 ∨ k = 5 ∨ k = 6 ∨ k = 16 → s'.1 k i 0 = s.1 k i 0) ∧ (i ≠ zf s → s'.1 3 i 0 = s.1 3 i 0) ∧ ∀ k, s'.2 0 i k = s.2 0 i k ∧ s'.2 1 i k = s.2 1 i k) (e3 : s'.1 3 (zf s) 0 = zh s - par) (n2 : s'.1 2 (s.1 0 0 0) 0 = t) (n3 : s'.1 3 (s.1 0 0 0) 0 = 0) (n5 : s'.1 5 (s.1 0 0 0) 0 = st) (n6 : s'.1 6 (s.1 0 0 0) 0 = s.1 6 (zf s) 0 + (zh s - par)) (n16 : s'.1 16 (s.1 0 0 0) 0 = par) (nl : ∀ k, 0 ≤ k → k < par → s'.2 0 (s.1 0 0 0) k = s.2 1 (zf s) (zh s - par + k)) : ∃ M', runX d 29 [va_rf (some 88), .int v1, .int v2, .int v3, .int v4] M = some (.null, M') ∧ zFo κ M M' ∧ zCM e κ s' M' := by
  have n1 := hl.1
  have c := h.ent hl hk hn hp g e0 hs e3 n2 n3 n5 n6 n16 nl
  refine ⟨_, mC29 hd h.1 h.2.2.2.1 (by omega), ?_, ?_⟩
  · refine (zFf.sI (zFf.sI (zFf.sI (zFf.sI (zFf.sI (zFf.sI zFf.r ?_) ?_) ?_) ?_) (by decide)) (by decide)).fo <;> exact (inW_fx (by omega) _).2
  · have : v2 + 10 = iI (ztp s - par + 10) := cvI (adI h2 rfl) rfl
    rw [this, h1, h2, h3, h4]
    exact c
theorem zc44 (hd : 6 ≤ d) (h : zCM e κ s M) (hE : zCE e κ M) (hm : s.1 1 0 0 = 0) (hl : zLy s) (h8 : s.1 8 key 0 = 0 ∨ s.1 8 key 0 = 1 ∨ s.1 8 key 0 = 2) (hq : zSd e q) (hkk : 0 ≤ k ∧ k < e.1 25 q 0) (hkey : key = 8 * q + k) (hv : v1 = iI q) (hv2 : v2 = iI k) (h27 : zop e (zpc s) ≠ 27) (hid : 0 ≤ id) (hw' : zWT e (zuse e s o id key)) : ∃ M' r, runX d 44 [va_rf (some 88), .int v1, .int v2] M = some (.int r, M') ∧ ((r = 0 ∧ zOb e κ (zuse e s o id key) M M') ∨ (r = 1 ∧ zFo κ M M' ∧ ∃ s1, zuse e s o id key = zmem e s1 o id ∧ zCM e κ s1 M' ∧ s1.1 8 key 0 = 1 ∧ (∀ k, k ≠ 8 → s1.1 k = s.1 k) ∧ s1.2 0 = s.2 0 ∧ s1.2 1 = s.2 1 ∧ ∀ k, 7 ≤ k → s1.2 k = s.2 k)) := by
  obtain ⟨d, rfl⟩ : ∃ e, d = e + 1 := ⟨d - 1, by omega⟩
  subst hv; subst hv2
  have hk := hE.2.2.2.2.1.k8
  have hC := h.1
  have kk := ck_88 hC
  have u3 := hE.2.2.1.1 q hq
  obtain ⟨⟨w1, w2⟩, w3, w4, ⟨ow, w5⟩, w6⟩ := u3
  obtain ⟨⟨a1, a2⟩, a3, a4, a5, a6, a7, a8⟩ := w6 k hkk.1 hkk.2
  rw [← hkey] at a1 a2 a5 a7 a8
  obtain ⟨⟨x1, x2, -, -, -⟩, -⟩ := hE.1.2.2 q hq
  have q01 : 0 ≤ q ∧ q ≤ 1 := by rcases hq with q0 | ⟨q0, -⟩ <;> omega
  have kb : 0 ≤ key ∧ key < 16 := by omega
  have us := h.2.1.2.2.1 key kb.1 kb.2
  have ek : iI q * 8 + iI k = iI key := cvI (adI (mlI (y := 8) rfl rfl) rfl) (by omega)
  rw [r44]; unfold b44; rw [aR_e, aI_e, aI_e, aZ_e]; unfold c44
  rw [ltI_q (z := key) ek, gtP_q kk (cf_88_17 hC), alI_q (n := 16) (z := key) (ck_107 hC) rfl (by omega) us]
  obtain ⟨U, hU⟩ : ∃ U, U = zuse e s o id key := ⟨_, rfl⟩
  rw [← hU] at hw' ⊢
  unfold zuse at hU
  rw [if_neg (show ¬ id < 0 by omega)] at hU
  by_cases c1 : s.1 8 key 0 = 1
  · rw [if_pos c1] at hU
    rw [if_pos (eqI_p rfl li_1 c1)]
    exact ⟨M, 1, rfl, Or.inr ⟨rfl, zFo.r, s, hU, h, c1, fun _ _ => rfl, rfl, rfl, fun _ _ => rfl⟩⟩
  rw [if_neg c1] at hU
  rw [if_neg (eqI_n rfl li_1 (by omega)), gtP_q kk (cf_88_17 hC), alI_q (n := 16) (z := key) (ck_107 hC) rfl (by omega) us]
  by_cases c2 : s.1 8 key 0 = 2
  · rw [if_pos c2] at hU
    rw [hU] at hw' ⊢
    rw [if_pos (show iI (s.1 8 key 0) = 2 from eqI_p (y := 2) rfl rfl c2), vC_e kk]
    obtain ⟨M', r1, r2⟩ := mC41 (d := d) (s := s) (M := M) (v1 := 9) (v2 := 1) (fl := 1) (m := 3) (by omega) h hE li_1 (Or.inl ⟨rfl, rfl⟩) hw' h27 (by omega)
    exact ⟨M', 0, by rw [cV_e r1]; rfl, Or.inl ⟨rfl, r2.ob⟩⟩
  rw [if_neg c2] at hU
  have c0 : s.1 8 key 0 = 0 := by omega
  have get := ls_get (d := d) (v := iI k) (j := k) (by omega) w5 rfl hkk
  rw [← hkey] at get
  rw [if_neg (show ¬ iI (s.1 8 key 0) = 2 from eqI_n (y := 2) rfl rfl (by omega)), gtP_q kk (cf_88_8 hC), alP_q (z := q) (ck_91 hC) rfl (by omega) x1, gtP_q x2 w3, vC_e w5.1.2.1, cP_e get, cst_e a2, gtP_q kk (cf_88_17 hC), asI_q (n := 16) (z := key) (y := 1) (ck_107 hC) rfl (by omega) li_1]
  obtain ⟨M1, hM1⟩ : ∃ z, z = sI M 107 key.toNat (iI 1) := ⟨_, rfl⟩
  rw [← hM1]
  have f1 : zFo κ M M1 := by rw [hM1]; exact zFo.sI (inW_c (by decide) _)
  have C1 : CT M1 := by rw [hM1]; exact hC
  have E1 := hE.fo f1
  obtain ⟨M2, r2, p2, p3, p4, p5⟩ := kp45 (d := d) (v := iI q) (by omega) C1 E1 hq hkk rfl
  rw [← hkey] at r2 p4 p5
  have f2 : zFo κ M1 M2 := ⟨p2, fun a j p _ _ _ => p3 a j fun z => by rw [z] at p; rw [inW_c (by decide)] at p; cases p⟩
  have f12 := f1.tr f2
  have E2 := hE.fo f12
  have C2 : CT M2 := ⟨fun q y => by rw [congrArg (fun z => z.2.2) p2]; exact C1.1 q y, fun q y => by rw [congrArg (fun z => z.2.1) p2]; exact C1.2 q y⟩
  have kk2 := ck_88 C2
  rw [vC_e (ck_88 C1), cV_e r2]
  have b2 : M2.2.2.2[κ 7 key]? = some (11, 10) := by rw [f12.kd]; exact a2
  have b5 : M2.1 (κ 7 key) 5 = iI (if e.1 7 key 0 < 0 then -2 else e.1 7 key 0 - 1000 * q) := (f12.st a1 _).trans a5
  rw [gtI_q b2 b5]
  obtain ⟨s1, hs1⟩ : ∃ s1, s1 = zinit e (zi s 8 key 0 1) key := ⟨_, rfl⟩
  rw [← hs1] at hU
  have fld : ∀ kk, kk ≠ 8 → s1.1 kk = s.1 kk := fun kk p => by rw [hs1]; funext x y; exact zi_k p
  have u8 : ∀ x, s1.1 8 x 0 = if x = key then 1 else s.1 8 x 0 := fun x => by
    rw [hs1]
    by_cases y : x = key
    · rw [if_pos y, y]; exact zi_e
    · rw [if_neg y]; exact zi_i y
  have W01 : s1.2 0 = s.2 0 ∧ s1.2 1 = s.2 1 := by
    rw [hs1]
    exact ⟨funext fun x => funext fun y => rfl, funext fun x => funext fun y => rfl⟩
  have Wo : ∀ k, k = 4 ∨ k = 5 ∨ 7 ≤ k → s1.2 k = s.2 k := fun k p => by
    rw [hs1]
    funext x y
    show (if k = 2 ∧ _ then _ else if k = 3 ∧ _ then _ else _) = _
    rw [if_neg fun q => by omega, if_neg fun q => by omega]
    rfl
  have W2 : ∀ id, s1.2 2 id 0 = if e.1 3 id 0 = key ∧ e.1 4 id 0 = 1 then e.2 0 id 0 else s.2 2 id 0 := fun id => by
    rw [hs1]
    show (if (2 : Nat) = 2 ∧ e.1 3 id 0 = key ∧ e.1 4 id 0 = 1 then e.2 0 id 0 else if (2 : Nat) = 3 ∧ e.1 3 id 0 = key ∧ e.1 4 id 0 = 3 then 0 else s.2 2 id 0) = _
    by_cases y : e.1 3 id 0 = key ∧ e.1 4 id 0 = 1
    · rw [if_pos y, if_pos ⟨rfl, y⟩]
    · rw [if_neg y, if_neg fun q => y q.2, if_neg fun q => absurd q.1 (by decide)]
  have W3 : ∀ id i, s1.2 3 id i = if e.1 3 id 0 = key ∧ e.1 4 id 0 = 3 then 0 else s.2 3 id i := fun id i => by
    rw [hs1]
    show (if (3 : Nat) = 2 ∧ e.1 3 id 0 = key ∧ e.1 4 id 0 = 1 then e.2 0 id 0 else if (3 : Nat) = 3 ∧ e.1 3 id 0 = key ∧ e.1 4 id 0 = 3 then 0 else s.2 3 id i) = _
    rw [if_neg fun q => absurd q.1 (by decide)]
    by_cases y : e.1 3 id 0 = key ∧ e.1 4 id 0 = 3
    · rw [if_pos y, if_pos ⟨rfl, y⟩]
    · rw [if_neg y, if_neg fun q => y q.2]
  have o106 : ∀ a j, a ≠ 106 → a ≠ 107 → M2.1 a j = M.1 a j := fun a j p q => (p3 a j p).trans (by rw [hM1]; exact sI_ne q)
  have G1 : zCG e κ s1 M2 := by
    refine h.2.1.oth hk o106 (fun k p => fld k (by omega)) (fun k p => Wo k (by omega)) (by rw [fld 1 (by decide)]) (fun id z1 z2 => ?_) (fun id z1 z2 z3 i z4 z5 => ?_) (fun x z1 z2 => ?_)
    · rw [W2]
      have zl : e.1 4 id 0 ≠ 3 := by omega
      have zl1 : zlen e id = 1 := by unfold zlen; rw [if_neg zl]
      by_cases y : e.1 3 id 0 = key ∧ e.1 4 id 0 = 1
      · rw [if_pos y]; exact (p4 id z1 y.1).1 y.2
      · rw [if_neg y]
        have := p5 id z1 (fun z => by
          rcases z.2 with z' | z'
          · exact y ⟨z.1, z'⟩
          · exact zl z') 0 (by omega) (by omega)
        rw [Int.add_zero] at this
        rw [this, hM1]
        refine (sI_ne (by decide)).trans (h.2.1.1 id z1 ?_)
        rcases z2 with z2 | z2
        · exact Or.inl z2
        · have z3 := z2.2
          rw [u8, if_neg fun q => y ⟨q, z2.1⟩] at z3
          exact Or.inr ⟨z2.1, z3⟩
    · rw [W3]
      have zl1 : zlen e id = e.1 5 id 0 := by unfold zlen; rw [if_pos z2]
      by_cases y : e.1 3 id 0 = key ∧ e.1 4 id 0 = 3
      · rw [if_pos y]; exact (p4 id z1 y.1).2 y.2 i z4 z5
      · rw [if_neg y]
        have yk : e.1 3 id 0 ≠ key := fun q => y ⟨q, z2⟩
        rw [p5 id z1 (fun z => yk z.1) i z4 (by omega), hM1]
        rw [u8, if_neg yk] at z3
        exact (sI_ne (by decide)).trans (h.2.1.2.1 id z1 z2 z3 i z4 z5)
    · rw [u8, p3 _ _ (by decide), hM1]
      by_cases y : x = key
      · rw [if_pos y, y]; exact sI_eq
      · rw [if_neg y]; exact (sI_nej (by omega)).trans (h.2.1.2.2.1 x z1 z2)
  have n12 := hl.1.2
  have c3 := h.glob G1 f12.1 (fun a j p => o106 a j (by omega) (by omega)) (fun k p => fld k (by omega)) W01 n12
  have zf1 : zf s1 = zf s := by unfold zf; rw [fld 0 (by decide)]
  have zh1 : zh s1 = zh s := by unfold zh; rw [zf1, fld 3 (by decide)]
  have zp1 : zpc s1 = zpc s := by unfold zpc; rw [zf1, fld 2 (by decide)]
  have l1 : zLy s1 := by
    unfold zLy at hl ⊢
    rw [zf1, zh1, fld 0 (by decide), fld 3 (by decide), fld 6 (by decide), fld 16 (by decide)]
    exact hl
  have m1 : s1.1 1 0 0 = 0 := by rw [fld 1 (by decide)]; exact hm
  have n1 : s1.1 0 0 0 = s.1 0 0 0 := by rw [fld 0 (by decide)]
  by_cases c4 : e.1 7 key 0 < 0
  · rw [if_pos c4] at hU
    rw [if_pos c4, if_neg (show ¬ (0 : Int32) ≤ iI (-2) from leI_n li_0 rfl (by omega))]
    exact ⟨M2, 1, rfl, Or.inr ⟨rfl, f12, s1, hU, c3, by rw [u8, if_pos rfl], fld, W01.1, W01.2, fun k p => Wo k (by omega)⟩⟩
  rw [if_neg c4] at hU b5
  obtain ⟨a81, a82⟩ := a8 (by omega)
  have tb : 0 ≤ e.1 7 key 0 - 1000 * q ∧ e.1 7 key 0 - 1000 * q < 1000 := by
    unfold zIn at a81
    have := hE.1.2.1
    omega
  rw [if_neg c4, if_pos (leI_p li_0 rfl (by omega)), gtI_q kk2 c3.2.2.2.1, jn_v]
  by_cases c5 : s.1 0 0 0 < 12
  · rw [if_pos c5] at hU
    rw [hU] at hw' ⊢
    have l11 := l1.1.1
    have g3 : (zent s1 (e.1 7 key 0) key (s.1 6 (zf s) 0 + zh s) 0).1 3 (zf s1) 0 = zh s1 - 0 := by
      rw [zent_n.2.2.2.2.2.2 3 (by omega) (zf s1) (by unfold zf; omega)]
      show zh s1 = _
      omega
    have g6 : (zent s1 (e.1 7 key 0) key (s.1 6 (zf s) 0 + zh s) 0).1 6 (s1.1 0 0 0) 0 = s1.1 6 (zf s1) 0 + (zh s1 - 0) := by
      rw [zent_n.2.2.2.2.1, zf1, zh1, fld 6 (by decide)]; omega
    obtain ⟨M3, r3, f3, c3'⟩ := zc29 (d := d) (s := s1) (s' := zent s1 (e.1 7 key 0) key (s.1 6 (zf s) 0 + zh s) 0) (v1 := iI (e.1 7 key 0 - 1000 * q)) (v2 := iI (ztp s1)) (v3 := iI q) (v4 := iI key) (t := e.1 7 key 0) (st := key) (par := 0) (by omega) c3 l1 hk (by omega) (by have := l1.2.2.2; omega) (congrArg iI (by
        unfold zoff
        by_cases y : e.1 7 key 0 < 1000
        · rw [if_pos y]; omega
        · rw [if_neg y]; omega)) (congrArg iI (by omega)) (congrArg iI (by
        by_cases y : e.1 7 key 0 < 1000
        · rw [if_pos y]; omega
        · rw [if_neg y]; omega)) (congrArg iI (by rw [if_neg (by omega)])) ⟨fun k p => by rcases p with p | p | p | p | p | p | p <;> subst p <;> rfl, fun k p q r => rfl, Iff.rfl⟩ zent_n.1 (fun i p => ⟨fun k r => zent_n.2.2.2.2.2.2 k (by omega) i p, fun _ => zent_n.2.2.2.2.2.2 3 (by omega) i p, fun k => ⟨rfl, rfl⟩⟩) g3 zent_n.2.1 zent_n.2.2.1 zent_n.2.2.2.1 g6 zent_n.2.2.2.2.2.1 (fun k p q => by omega)
    · refine ⟨M3, 0, ?_, Or.inl ⟨rfl, c3'.ob m1 hw' (f12.tr f3) hE⟩⟩
      rw [if_pos (show iI (s1.1 0 0 0) < 12 from lsI_p (y := 12) rfl rfl (by omega)), gtI_q b2 b5, gtI_q kk2 c3.2.2.2.2.1, vC_e kk2, cV_e r3]
      rfl
  · rw [if_neg c5] at hU
    rw [hU] at hw' ⊢
    rw [if_neg (show ¬ iI (s1.1 0 0 0) < 12 from lsI_n (y := 12) rfl rfl (by omega)), gtP_q kk2 (cf_88_17 C2), asI_q (n := 16) (z := key) (y := 2) (ck_107 C2) rfl (by omega) li_2]
    obtain ⟨M3, hM3⟩ : ∃ z, z = sI M2 107 key.toNat (iI 2) := ⟨_, rfl⟩
    rw [← hM3]
    have f3 : zFo κ M2 M3 := by rw [hM3]; exact zFo.sI (inW_c (by decide) _)
    have G3 : zCG e κ (zi s1 8 key 0 2) M3 := by
      rw [hM3]
      refine G1.lost hk kb (fun x => ?_) (fun k p => ?_) (fun k p => rfl) Iff.rfl
      · by_cases z : x = key
        · rw [if_pos z, z]; exact zi_e
        · rw [if_neg z]; exact zi_i z
      · rcases p with p | p | p | p | p | p <;> subst p <;> rfl
    have c6 : zCM e κ (zi s1 8 key 0 2) M3 := by
      refine c3.glob G3 (by rw [hM3]; rfl) (fun a j p => by rw [hM3]; exact sI_ne (by omega)) (fun k p => ?_) ⟨rfl, rfl⟩ (by omega)
      rcases p with p | p | p | p | p | p <;> subst p <;> rfl
    have E3 := E2.fo f3
    obtain ⟨M', z1, z2⟩ := mC41 (d := d) (s := zi s1 8 key 0 2) (M := M3) (v1 := 8) (v2 := 1) (fl := 1) (m := 3) (by omega) c6 E3 li_1 (Or.inl ⟨rfl, rfl⟩) hw' (by rw [show zpc (zi s1 8 key 0 2) = zpc s1 from rfl, zp1]; exact h27) (by show s1.1 1 0 0 ≠ 6; omega)
    refine ⟨M', 0, ?_, Or.inl ⟨rfl, (z2.fo (f12.tr f3)).ob⟩⟩
    rw [vC_e (ck_88 c6.1), cV_e z1]
    rfl
end S99g
