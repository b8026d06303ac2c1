/-! the first object's machine: fail, all of it -/
section S98d
variable {d : Nat} {e s s' u : ZS} {κ : ZK} {M M' M1 M2 : Mem} {a j : Nat} {v : Int32} {c t k i n p fl ar : Int} {Y : Nat → Int → Int}
/-- not caught: the code on top is left -/
theorem f41_un (hC1 : CT M1) (h14 : M1.1 88 14 = iI n) (hn : 1 ≤ n ∧ n ≤ 12) (h3 : M1.1 (94 + (n - 1).toNat) 3 = iI t) (ht : -2 ≤ t ∧ t < 16) (h19 : M1.1 88 19 = iI fl) (hfl : fl = 1 ∨ fl = 2) {kc base : Int32} (hx : fl = 1 → ¬ ¬ kc < 0) (go : Int32 × Mem → XA) : fb41 d (n - 1).toNat kc base M1 go = if t < 0 then go (0, sI M1 88 14 (iI (n - 1))) else go (1, sI (sI (sI (sI M1 88 14 (iI (n - 1))) 107 t.toNat (iI 2)) 88 19 (iI 1)) 88 20 (iI 8)) := by
  have k := ck_88 hC1
  have kf : M1.2.2.2[94 + (n - 1).toNat]? = some (100, 4) := ck94n hC1 (by omega)
  have tl : (jv (fun (_ : Unit) => gtI (4, 22) M1 (some 88) 14 fun x27 => ptI (4, 22) M1 (some 88) 14 (x27 - ((1 : Int32))) fun M28 => alI 100 M28 (some (94 + (n - 1).toNat)) ((3 : Int32)) fun x29 => jn (fun (s30 : Int32) => jn (fun (s31 : Mem) => go (s30, s31)) fun j183 => if s30 = 0 then (j183 M28) else (gtP (4, 22) M28 (some 88) 17 fun x32 => alI 100 M28 (some (94 + (n - 1).toNat)) ((3 : Int32)) fun x33 => asI 100 M28 x32 x33 (((2 : Int32))) fun M34 => ptI (4, 22) M34 (some 88) 19 ((1 : Int32)) fun M35 => ptI (4, 22) M35 (some 88) 20 ((8 : Int32)) fun M36 => j183 M36)) fun j157 => if x29 < 0 then (j157 ((0 : Int32))) else (j157 ((1 : Int32)))) () : XA) = if t < 0 then go (0, sI M1 88 14 (iI (n - 1))) else go (1, sI (sI (sI (sI M1 88 14 (iI (n - 1))) 107 t.toNat (iI 2)) 88 19 (iI 1)) 88 20 (iI 8)) := by
    have k2 : (sI M1 88 14 (iI (n - 1))).2.2.2[88]? = some (4, 22) := k
    have kf2 : (sI M1 88 14 (iI (n - 1))).2.2.2[94 + (n - 1).toNat]? = some (100, 4) := kf
    have e3 : (sI M1 88 14 (iI (n - 1))).1 (94 + (n - 1).toNat) 3 = iI t := (sI_ne (by omega)).trans h3
    refine (jv_e).trans ?_
    refine (gtI_q k h14).trans ?_
    refine (ptI_q (z := n - 1) k (sbI rfl li_1)).trans ?_
    refine (alI_q (n := 4) (z := 3) kf2 rfl (by omega) e3).trans ?_
    refine (jn_v).trans ?_
    by_cases c : t < 0
    · rw [if_pos c]
      refine (if_pos (lsI_p rfl li_0 (by omega))).trans ?_
      rfl
    · rw [if_neg c]
      refine (if_neg (lsI_n rfl li_0 (by omega))).trans ?_
      refine (jv_e).trans ?_
      refine (jn_v).trans ?_
      refine (if_neg (by decide)).trans ?_
      refine (gtP_q k2 (cf_88_17 hC1)).trans ?_
      refine (alI_q (n := 4) (z := 3) kf2 rfl (by omega) e3).trans ?_
      refine (asI_q (n := 16) (z := t) (y := 2) (M := sI M1 88 14 (iI (n - 1))) (ck_107 hC1) rfl (by omega) li_2).trans ?_
      refine (ptI_q (M := sI (sI M1 88 14 (iI (n - 1))) 107 t.toNat (iI 2)) (z := 1) k li_1).trans ?_
      refine (ptI_q (M := sI (sI (sI M1 88 14 (iI (n - 1))) 107 t.toNat (iI 2)) 88 19 (iI 1)) (z := 8) k rfl).trans ?_
      rfl
  unfold fb41
  refine (gtI_q k h19).trans ?_
  refine (jn_v).trans ?_
  by_cases c : fl = 1
  · refine (if_pos (eqI_p (x := fl) rfl li_1 c)).trans ?_
    refine (if_pos (Classical.byContradiction (hx c))).trans ?_
    exact tl
  · refine (if_neg (eqI_n (x := fl) rfl li_1 (by omega))).trans ?_
    exact tl
/-- what fails, from code to code -/
theorem fail_lp : ∀ (m : Nat) (u : ZS) (M : Mem) (fl ar : Int) (N : Nat), u.1 0 0 0 = m → m < N → zWT e u → (u.1 1 0 0 = 3 ∧ fl = 1 ∨ u.1 1 0 0 = 7 ∧ fl = 2) → zop e (zpc u) ≠ 27 → (ar = 0 ∨ ar = 1) → zCE e κ M → zCL e κ u M fl ar → ∃ M', lp (c41_12 (runX d) (some 88) (fj104 d) fj186) N (iI ar, M) = some (.null, M') ∧ zFin e κ u M M'
  | 0, u, M, fl, ar, N, e0, hN, hw, hm, ho, har, hE, hL => by
    have := (hw.m3 (by omega)).1
    omega
  | m + 1, u, M, fl, ar, N, e0, hN, hw, hm, ho, har, hE, hL => by
    obtain ⟨N, rfl⟩ : ∃ e, N = e + 1 := ⟨N - 1, by omega⟩
    obtain ⟨h1, Y, a, c, w⟩ := hw.m3 (by omega)
    have hb : zBs e u := hw.1
    have hb12 := hb.1.2.1
    have zfe : zf u = u.1 0 0 0 - 1 := rfl
    have hk := hE.2.2.2.2.1.k8
    have hin : zIn e (zpc u) := w.1.in _ w.2.1.1 w.2.1.2
    rw [lp_e, f41_head hL hE ⟨h1, hb12⟩ har hin]
    have hL0 := hL
    obtain ⟨hC, hG, hF, h14, h15, h19, h20, h21, h22⟩ := hL
    by_cases ct : 0 ≤ e.1 19 (zpc u) 0 ∧ fl = 1
    · have tr : 0 < u.1 4 (zf u) 0 := by
        rcases w.ct ho with ⟨-, z⟩ | ⟨z, -⟩
        · have : e.1 19 (zpc u) 0 = -2 := z
          omega
        · exact z
      exact f41_ct hL0 hE hw (by omega) ct.2 ho ct.1 tr _ har
    · -- the code is left
      have nct : ¬ (u.1 1 0 0 = 3 ∧ 0 < u.1 4 (zf u) 0) := fun q => by
        rcases w.ct ho with ⟨z, -⟩ | ⟨-, z, -⟩
        · omega
        · have z' : 0 ≤ e.1 19 (zpc u) 0 := z
          omega
      have kn : fl = 1 → ¬ ¬ iI (e.1 19 (zpc u) 0) < 0 := fun q => by
        rcases w.ct ho with ⟨-, z⟩ | ⟨-, z, -⟩
        · have z' : e.1 19 (zpc u) 0 = -2 := z
          rw [z']; decide
        · have z' : 0 ≤ e.1 19 (zpc u) 0 := z
          omega
      have f21 := M21_f (u := u) (M := M) (ar := ar)
      have C1 := hC.f f21
      have g14 := (M21_i (u := u) (M := M) (ar := ar) (a := 88) (j := 14) (by omega)).trans h14
      have g15 := (M21_i (u := u) (M := M) (ar := ar) (a := 88) (j := 15) (by omega)).trans h15
      have g19 := (M21_i (u := u) (M := M) (ar := ar) (a := 88) (j := 19) (by omega)).trans h19
      have g20 := (M21_i (u := u) (M := M) (ar := ar) (a := 88) (j := 20) (by omega)).trans h20
      have g21 := M21_21 hL0 har
      obtain ⟨T, hT⟩ : ∃ T, T = (if u.1 5 (zf u) 0 < 0 then (-2 : Int) else u.1 5 (zf u) 0) := ⟨_, rfl⟩
      have g3 : (M21 u M ar).1 (94 + (zf u).toNat) 3 = iI T := by
        rw [hT]
        exact (M21_i (by omega)).trans (hF (zf u) (by omega) (by omega)).1.2.2.2
      -- the state behind
      obtain ⟨u1, hu1⟩ : ∃ z, z = zthr u (u.1 1 0 0) := ⟨_, rfl⟩
      have wt1 : zWT e u1 := by rw [hu1]; exact zWT_thr hw (by omega) ho
      have to1 : zto e u u1 := zto.st (by rw [zst_thr (by omega), hu1]; exact zto.r)
      have hu1' : u1 = zi (zi u 0 0 0 (zf u)) 1 0 0 (u.1 1 0 0 + 1) := by rw [hu1]; exact if_neg nct
      have m1 : u1.1 1 0 0 = u.1 1 0 0 + 1 := by rw [hu1']; exact zi_e
      have n1 : u1.1 0 0 0 = zf u := by rw [hu1']; exact (zi_k (by decide)).trans zi_e
      have s5 : ∀ i, u1.1 5 i 0 = u.1 5 i 0 := fun i => by rw [hu1']; rfl
      have tb : -2 ≤ T ∧ T < 16 := by
        rw [hT]
        by_cases y : u.1 5 (zf u) 0 < 0
        · rw [if_pos y]; omega
        · rw [if_neg y]
          by_cases y2 : zf u = 0
          · have := hb.1.2.2.1
            rw [y2]; omega
          · obtain ⟨Y2, a2, c2, w2, g⟩ := (hb.2.1 (zf u - 1) (by omega) (by omega)).1
            rw [show zf u - 1 + 1 = zf u by omega] at g
            rcases g with g | g <;> omega
      rw [zfe]
      rw [f41_un (d := d) (n := u.1 0 0 0) (t := T) C1 g14 ⟨h1, hb12⟩ (by rw [← zfe]; exact g3) tb g19 (by omega) kn]
      by_cases cT : T < 0
      · rw [if_pos cT]
        have c5 : u.1 5 (zf u) 0 < 0 := by
          rw [hT] at cT
          by_cases y : u.1 5 (zf u) 0 < 0
          · exact y
          · rw [if_neg y] at cT; exact cT
        obtain ⟨Ma, hMa⟩ : ∃ z, z = sI (M21 u M ar) 88 14 (iI (u.1 0 0 0 - 1)) := ⟨_, rfl⟩
        rw [← hMa]
        have fa : zFf M Ma := by rw [hMa]; exact zFf.sI f21 (by decide)
        have Ca := hC.f fa
        have a14 : Ma.1 88 14 = iI (u.1 0 0 0 - 1) := by rw [hMa]; exact sI_eq
        have a15 : Ma.1 88 15 = iI 0 := by rw [hMa]; exact (sI_nej (by decide)).trans g15
        have a19 : Ma.1 88 19 = iI fl := by rw [hMa]; exact (sI_nej (by decide)).trans g19
        have a20 : Ma.1 88 20 = u.2 5 0 0 := by rw [hMa]; exact (sI_nej (by decide)).trans g20
        have a21 : Ma.1 88 21 = iI (u.1 13 0 0) := by rw [hMa]; exact (sI_nej (by decide)).trans g21
        have ao : ∀ a j, a ≠ 88 → Ma.1 a j = M.1 a j := fun a j q => by rw [hMa]; exact (sI_ne q).trans (M21_i fun z => q z.1)
        have Ga : zCG e κ u1 Ma := hG.ff fa ⟨fun k p => by
          rw [hu1']
          rcases p with p | p | p | p | p | p | p <;> subst p <;> rfl, fun k p q r => by rw [hu1']; rfl, by rw [m1]; omega⟩ hk
        by_cases y : zf u = 0
        · -- all have been left
          have e14 : Ma.1 88 14 = iI 0 := by rw [a14, show u.1 0 0 0 - 1 = 0 by omega]
          obtain ⟨N, rfl⟩ : ∃ e, N = e + 1 := ⟨N - 1, by omega⟩
          refine ⟨Ma, ?_, u1, to1, fa.fo, hE.fo fa.fo, wt1, by rw [hu1']; exact ⟨rfl, rfl⟩, Or.inr ⟨Or.inr (Or.inr ⟨by omega, by rw [s5]; have := hb.1.2.2.1; omega, by omega⟩), Ca, Ga, e14, ?_⟩⟩
          · rw [lp_e]
            unfold c41_12
            refine (gtI_q (ck_88 Ca) e14).trans ?_
            refine (if_pos (leI_p rfl li_0 (by omega))).trans ?_
            exact jv_e
          · rw [m1]
            have x5 : u1.2 5 0 0 = u.2 5 0 0 := by rw [hu1']; rfl
            have x13 : u1.1 13 0 0 = u.1 13 0 0 := by rw [hu1']; rfl
            rcases hm with ⟨q1, q2⟩ | ⟨q1, q2⟩
            · exact Or.inr (Or.inl ⟨by omega, by rw [a19, q2], by rw [a20, x5], by rw [a21, x13]⟩)
            · exact Or.inr (Or.inr (Or.inl ⟨by omega, by rw [a19, q2], by rw [a20, x5], by rw [a21, x13]⟩))
        · -- the code below goes on failing
          obtain ⟨wt2, ho2, ho3⟩ := zWT_unw wt1 (by omega) (by omega)
          obtain ⟨u2, hu2⟩ : ∃ z, z = zunw u1 (u1.1 1 0 0) := ⟨_, rfl⟩
          rw [← hu2] at wt2
          have to2 : zto e u u2 := to1.tr (zto.st (by rw [zst_unw (by omega), hu2]; exact zto.r))
          have hu2' : u2 = zi u1 1 0 0 (u1.1 1 0 0 - 1) := by
            rw [hu2]; unfold zunw
            rw [n1, s5, if_neg (by omega), if_neg y]
          have m2 : u2.1 1 0 0 = u.1 1 0 0 := by rw [hu2', m1]; exact zi_e.trans (by omega)
          have n2 : u2.1 0 0 0 = zf u := by rw [hu2']; exact (zi_k (by decide)).trans n1
          have p2 : zpc u2 = zpc u1 := by rw [hu2']; rfl
          have Lb : zCL e κ u2 Ma fl 0 := by
            refine ⟨Ca, ?_, fun i p q => ?_, ?_, a15, a19, ?_, fun _ => ?_, fun z => by omega⟩
            · refine Ga.ff zFf.r ⟨fun k p => ?_, fun k p q r => by rw [hu2']; rfl, by rw [m2, m1]; omega⟩ hk
              rw [hu2']
              rcases p with p | p | p | p | p | p | p <;> subst p <;> rfl
            · rw [n2] at q
              exact (hF i p (by omega)).lo ⟨p, by omega⟩ (fun j => ao _ _ (by omega)) (fun k x y => ao _ _ (by decide)) (fun k x y => ao _ _ (by decide)) (by rw [hu2', hu1']; rfl) (by rw [hu2', hu1']; rfl) (by rw [hu2', hu1']; rfl) (by rw [hu2', hu1']; rfl) (by rw [hu2', hu1']; rfl) (fun k => by rw [hu2', hu1']; rfl) (fun k => by rw [hu2', hu1']; rfl)
            · rw [n2, a14, zfe]
            · rw [a20, hu2', hu1']; rfl
            · rw [a21, hu2', hu1']; rfl
          obtain ⟨M', r1, r2⟩ := fail_lp m u2 Ma fl 0 N (by omega) (by omega) wt2 (by omega) (by rw [p2]; omega) (Or.inl rfl) (hE.fo fa.fo) Lb
          rw [← li_0] at r1
          exact ⟨M', r1, r2.st fa.fo to2 (by rw [hu2', hu1']; exact ⟨rfl, rfl⟩)⟩
      · rw [if_neg cT]
        have c5 : 0 ≤ u.1 5 (zf u) 0 ∧ T = u.1 5 (zf u) 0 := by
          rw [hT] at cT ⊢
          by_cases y : u.1 5 (zf u) 0 < 0
          · rw [if_pos y] at cT; omega
          · rw [if_neg y]; omega
        have y : zf u ≠ 0 := fun q => by
          have := hb.1.2.2.1
          rw [q] at c5; omega
        obtain ⟨Ma, hMa⟩ : ∃ z, z = sI (sI (sI (sI (M21 u M ar) 88 14 (iI (u.1 0 0 0 - 1))) 107 T.toNat (iI 2)) 88 19 (iI 1)) 88 20 (iI 8) := ⟨_, rfl⟩
        rw [← hMa]
        have fx : zFf M (sI (M21 u M ar) 88 14 (iI (u.1 0 0 0 - 1))) := zFf.sI f21 (by decide)
        have fo : zFo κ M Ma := by
          rw [hMa]
          exact fx.fo.tr ((zFo.sI (inW_c (by decide) _)).tr ((zFo.sI (by decide)).tr (zFo.sI (by decide))))
        have Ca : CT Ma := by rw [hMa]; exact (show CT (sI (M21 u M ar) 88 14 (iI (u.1 0 0 0 - 1))) from hC.f fx)
        have a14 : Ma.1 88 14 = iI (u.1 0 0 0 - 1) := by rw [hMa]; exact (sI_nej (by decide)).trans ((sI_nej (by decide)).trans ((sI_ne (by decide)).trans sI_eq))
        have a15 : Ma.1 88 15 = iI 0 := by rw [hMa]; exact (sI_nej (by decide)).trans ((sI_nej (by decide)).trans ((sI_ne (by decide)).trans ((sI_nej (by decide)).trans g15)))
        have a19 : Ma.1 88 19 = iI 1 := by rw [hMa]; exact (sI_nej (by decide)).trans sI_eq
        have a20 : Ma.1 88 20 = iI 8 := by rw [hMa]; exact sI_eq
        have ao : ∀ a j, a ≠ 88 → a ≠ 107 → Ma.1 a j = M.1 a j := fun a j q r => by rw [hMa]; exact (sI_ne q).trans ((sI_ne q).trans ((sI_ne r).trans ((sI_ne q).trans (M21_i fun z => q z.1))))
        obtain ⟨wt2, ho2, ho3⟩ := zWT_unw wt1 (by omega) (by omega)
        obtain ⟨u2, hu2⟩ : ∃ z, z = zunw u1 (u1.1 1 0 0) := ⟨_, rfl⟩
        rw [← hu2] at wt2
        have to2 : zto e u u2 := to1.tr (zto.st (by rw [zst_unw (by omega), hu2]; exact zto.r))
        have hu2' : u2 = zi (zerr u1 8 3) 8 T 0 2 := by
          rw [hu2]; unfold zunw
          rw [n1, s5, if_pos c5.1, c5.2]
        have m2 : u2.1 1 0 0 = 3 := by rw [hu2']; exact (zi_k (by decide)).trans zi_e
        have n2 : u2.1 0 0 0 = zf u := by rw [hu2']; exact (zi_k (by decide)).trans ((zi_k (by decide)).trans n1)
        have p2 : zpc u2 = zpc u1 := by rw [hu2']; rfl
        have Lb : zCL e κ u2 Ma 1 1 := by
          refine ⟨Ca, ?_, fun i p q => ?_, ?_, a15, a19, ?_, fun z => by omega, fun _ => ?_⟩
          · have G1 : zCG e κ u1 (sI (M21 u M ar) 88 14 (iI (u.1 0 0 0 - 1))) := hG.ff fx ⟨fun k p => by
              rw [hu1']
              rcases p with p | p | p | p | p | p | p <;> subst p <;> rfl, fun k p q r => by rw [hu1']; rfl, by rw [m1]; omega⟩ hk
            have G2 : zCG e κ u2 (sI (sI (M21 u M ar) 88 14 (iI (u.1 0 0 0 - 1))) 107 T.toNat (iI 2)) := by
              refine G1.lost hk ⟨by omega, tb.2⟩ (fun x => ?_) (fun k p => ?_) (fun k p => ?_) (by rw [m2, m1]; omega)
              · rw [hu2']
                by_cases z : x = T
                · rw [if_pos z, z]; exact zi_e
                · rw [if_neg z]; exact zi_i z
              · rw [hu2']
                rcases p with p | p | p | p | p | p <;> subst p <;> rfl
              · rw [hu2']
                funext x y
                exact zw_k (by omega)
            rw [hMa]
            exact G2.ff (zFf.sI (zFf.sI zFf.r (by decide)) (by decide)) ⟨fun _ _ => rfl, fun _ _ _ _ => rfl, Iff.rfl⟩ hk
          · rw [n2] at q
            exact (hF i p (by omega)).lo ⟨p, by omega⟩ (fun j => ao _ _ (by omega) (by omega)) (fun k x y => ao _ _ (by decide) (by decide)) (fun k x y => ao _ _ (by decide) (by decide)) (by rw [hu2', hu1']; rfl) (by rw [hu2', hu1']; rfl) (by rw [hu2', hu1']; rfl) (by rw [hu2', hu1']; rfl) (by rw [hu2', hu1']; rfl) (fun k => by rw [hu2', hu1']; rfl) (fun k => by rw [hu2', hu1']; rfl)
          · rw [n2, a14, zfe]
          · rw [a20, hu2']; exact (zw_e (s := u1) (k := 5) (i := 0) (j := 0) (w := 8)).symm
          · rw [p2, hu2']
            exact (zi_k (by decide)).trans ((zi_k (by decide)).trans zi_e)
        obtain ⟨M', r1, r2⟩ := fail_lp m u2 Ma 1 1 N (by omega) (by omega) wt2 (by omega) (by rw [p2]; omega) (Or.inr rfl) (hE.fo fo) Lb
        rw [← li_1] at r1
        exact ⟨M', r1, r2.st fo to2 (by rw [hu2', hu1']; exact ⟨rfl, rfl⟩)⟩
/-- what an instruction fails by -/
theorem mC41 {v1 v2 : Int32} {m : Int} (hd : 1 ≤ d) (h : zCM e κ s M) (hE : zCE e κ M) (hv : v2 = iI fl) (hm : m = 3 ∧ fl = 1 ∨ m = 7 ∧ fl = 2) (hw : zWT e (zerr s v1 m)) (ho : zop e (zpc s) ≠ 27) (h6 : s.1 1 0 0 ≠ 6) : ∃ M', runX d 41 [va_rf (some 88), .int v1, .int v2] M = some (.null, M') ∧ zFin e κ (zerr s v1 m) M M' := by
  obtain ⟨d, rfl⟩ : ∃ e, d = e + 1 := ⟨d - 1, by omega⟩
  obtain ⟨hC, hG, hF, h14, h12, h15, h19⟩ := h
  have hk := hE.2.2.2.2.1.k8
  have k := ck_88 hC
  have em : (zerr s v1 m).1 1 0 0 = m := zi_e
  have e0 : (zerr s v1 m).1 0 0 0 = s.1 0 0 0 := rfl
  have hn := hw.m3 (by rw [em]; omega)
  have hb12 : (zerr s v1 m).1 0 0 0 ≤ 12 := hw.1.1.2.1
  obtain ⟨n, hn2⟩ : ∃ n : Nat, (zerr s v1 m).1 0 0 0 = n := ⟨((zerr s v1 m).1 0 0 0).toNat, by omega⟩
  obtain ⟨Ma, hMa⟩ : ∃ z, z = sI (sI M 88 19 (iI fl)) 88 20 v1 := ⟨_, rfl⟩
  have fa : zFf M Ma := by rw [hMa]; exact zFf.sI (zFf.sI zFf.r (by decide)) (by decide)
  have L : zCL e κ (zerr s v1 m) Ma fl 1 := by
    refine ⟨hC.f fa, hG.ff fa ⟨fun k p => ?_, fun k p q r => ?_, by rw [em]; omega⟩ hk, fun i p q => ?_, ?_, ?_, ?_, ?_, fun z => by omega, fun _ => ?_⟩
    · rcases p with p | p | p | p | p | p | p <;> subst p <;> rfl
    · funext x y; exact zw_k (by omega)
    · refine (hF i p q).lo ⟨p, by omega⟩ (fun j => ?_) (fun k x y => ?_) (fun k x y => ?_) rfl rfl rfl rfl rfl (fun _ => rfl) (fun _ => rfl)
      · rw [hMa]; exact (sI_ne (by omega)).trans (sI_ne (by omega))
      · rw [hMa]; exact (sI_ne (by decide)).trans (sI_ne (by decide))
      · rw [hMa]; exact (sI_ne (by decide)).trans (sI_ne (by decide))
    · rw [hMa]; exact (sI_nej (by decide)).trans ((sI_nej (by decide)).trans h14)
    · rw [hMa]; exact (sI_nej (by decide)).trans ((sI_nej (by decide)).trans h15)
    · rw [hMa]; exact (sI_nej (by decide)).trans sI_eq
    · rw [hMa]; exact sI_eq.trans (zw_e (s := s) (k := 5) (i := 0) (j := 0) (w := v1)).symm
    · exact (zi_k (by decide)).trans zi_e
  obtain ⟨M', r1, r2⟩ := fail_lp (d := d) n (zerr s v1 m) Ma fl 1 4294967296 hn2 (by omega) hw (by rw [em]; exact hm) ho (Or.inr rfl) (hE.fo fa.fo) L
  refine ⟨M', ?_, r2.st fa.fo zto.r ⟨rfl, rfl⟩⟩
  rw [r41]; unfold b41; rw [aR_e, aI_e, aI_e, aZ_e]; unfold c41
  refine (ptI_q k hv).trans ?_
  refine (ptI_e (M := sI M 88 19 (iI fl)) k).trans ?_
  rw [← hMa]
  refine (jn_v).trans ?_
  refine (jn_v).trans ?_
  rw [← li_1] at r1
  exact r1
end S98d
