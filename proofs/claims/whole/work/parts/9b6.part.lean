/-! the reference's machine: a unit is seen to, and begins if it has not -/
/-- a unit has begun: the instruction goes on from s1 -/
def zUR (e s u : ZS) (o id key : Int) (M' : Mem) : Prop := ∃ s1, zto e u (zmem e s1 o id) ∧ zSa s s1 ∧ zpc s1 = zpc s ∧ zh s1 = zh s ∧ s1.1 1 0 0 = 0 ∧ zRM e s1 M' ∧ zLr s1 ∧ s1.1 8 key 0 = 1 ∧ (∀ D, 0 ≤ s1.1 17 D 0 ∧ s1.1 17 D 0 ≤ 100000) ∧ s1.1 9 0 0 ≤ s.1 9 0 0
/-- it failed -/
def zUF (e s u : ZS) (M M' : Mem) : Prop := ∃ t, zto e u t ∧ zRq e t M M' ∧ (((t.1 1 0 0 = 3 ∨ t.1 1 0 0 = 7) ∧ zSa s t ∧ zpc t = zpc s ∧ zRX e t M') ∨ ((t.1 1 0 0 = 5 ∨ t.1 1 0 0 = 6) ∧ zRZ e t M'))
section S9b6
variable {d : Nat} {e s s' t u A : ZS} {M M' M1 M2 : Mem} {a b j N x y : Nat} {v v1 v2 v3 w : Int32} {c k i n m p o q id key par NN : Int} {R : Int → RG} {G : RG} {L : Int → Int} {Y : Nat → Int → Int}
theorem rr240 (hd : 4 * (12 - s.1 0 0 0) + 13 ≤ d ∧ 13 ≤ d) (hT : zET e) (hl : zEl e) (hD : zRD e R L NN) (hE : zRE e R L M) (h : zRM e s M) (hm : s.1 1 0 0 = 0) (hw : zWT e s) (ho : o = zop e (zpc s) ∧ 3 ≤ o ∧ o ≤ 7) (hi : zId e id) (hid : id = e.1 2 (zpc s) 0) (hk : key = e.1 3 id 0) (hK : zKn e (zuse e s o id key)) (hN : s.1 9 0 0 ≤ NN) (h17 : ∀ D, 0 ≤ s.1 17 D 0 ∧ s.1 17 D 0 ≤ 100000) (hv : v1 = iI id) (hv2 : v2 = iI (zpc s)) : ∃ r M', runX d 240 [va_rf (some 160), .int v1, .int v2] M = some (.int (iI r), M') ∧ ((r = 1 ∧ zRo e M M' ∧ zUR e s (zuse e s o id key) o id key M') ∨ (r = 0 ∧ zUF e s (zuse e s o id key) M M')) := by
  obtain ⟨d, rfl⟩ : ∃ e, d = e + 1 := ⟨d - 1, by omega⟩
  subst hv; subst hv2
  have hR := h.1.1
  have k := rk_160 hR
  have hlr := hw.lr (Or.inl hm)
  have l1 := hlr.1
  have zfe : zf s = s.1 0 0 0 - 1 := rfl
  obtain ⟨b1, b2, m171, m172, m174, m175⟩ := hE.mb hi
  obtain ⟨w1, w2, w3, w4, w5, w6, w7, w8⟩ := hE.un hi
  obtain ⟨g1, g2, g3, g4, g5⟩ := hE.sd hi
  have kb : 0 ≤ key ∧ key < 16 := by omega
  have n0 : ¬ id < 0 := by omega
  have e210 : M.1 210 key.toNat = iI (s.1 8 key 0) := h.1.2.2.2.1 key kb.1 kb.2
  have c8 := hw.1.1.2.2.2.2.2 key
  have li1 : (1 : Int32) = iI 1 := li_1
  rw [r240]; unfold b240; rw [aR_e, aI_e, aI_e, aZ_e]; unfold c240
  rw [vC_e k, cI_e (hE.r236 (d := d) (by omega) hR hi rfl), gtP_q k (rf_12 hR), alI_q (n := 768) (z := zrm e id) (rk_171 hR) rfl (by omega) m171, jn_v, zq_if (f := jv _) (x := 8) (y := 0) (a := 8) rfl li_0 b1, jv_e, ltI_q (cvI (adI rfl rfl) (show e.1 3 id 0 - 8 * zq id + 8 * zq id = key by omega)), gtP_q k (rf_69 hR), alI_q (n := 16) (z := key) (rk_210 hR) rfl (by omega) e210]
  by_cases y1 : s.1 8 key 0 = 1
  · -- it has begun
    refine ⟨1, M, ?_, Or.inl ⟨rfl, zRo.r, s, ?_, zSa.r, rfl, rfl, hm, h, hlr, y1, h17, Int.le_refl _⟩⟩
    · rw [if_pos (eqI_p rfl li_1 y1)]
      exact rtZ_q li_1 (by omega)
    · have z : zuse e s o id key = zmem e s o id := by unfold zuse; rw [if_neg n0, if_pos y1]
      rw [z]; exact zto.r
  rw [if_neg (show ¬ iI (s.1 8 key 0) = 1 from eqI_n rfl li_1 (by omega)), gtP_q k (rf_69 hR), alI_q (n := 16) (z := key) (rk_210 hR) rfl (by omega) e210]
  by_cases y2 : s.1 8 key 0 = 2
  · -- it is lost
    obtain ⟨M', z1, z2, z3⟩ := rfl9 (d := d) (e := e) (s := s) (M := M) (v1 := 9) (v2 := iI (zpc s)) (v3 := 0) (m := 3) (by omega) h rfl (Or.inl ⟨rfl, rfl⟩)
    refine ⟨0, M', ?_, Or.inr ⟨rfl, zerr s 9 3, ?_, z3.q, Or.inl ⟨Or.inl zi_e, ?_, rfl, z2⟩⟩⟩
    · rw [if_pos (show iI (s.1 8 key 0) = 2 from eqI_p rfl li_2 y2), vC_e k, cV_e z1]
      exact rtZ_q li_0 (by omega)
    · have z : zuse e s o id key = zerr s 9 3 := by unfold zuse; rw [if_neg n0, if_neg y1, if_pos y2]
      rw [z]; exact zto.r
    · have := zSa.er (s := s) (c := 0) (v := 9) (m := 3)
      rw [zdn_0] at this
      exact this
  -- it begins
  rw [if_neg (show ¬ iI (s.1 8 key 0) = 2 from eqI_n rfl li_2 (by omega)), gtP_q k (rf_69 hR), asI_e (v := 1) (rk_210 hR) kb.1 (by omega) (by omega)]
  obtain ⟨Ma, hMa⟩ : ∃ z, z = sI M 210 key.toNat 1 := ⟨_, rfl⟩
  rw [← hMa]
  have fa : zRo e M Ma := by rw [hMa]; exact ⟨rfl, fun a j p => sI_ne (fun z => by rw [z, inW_c (by decide)] at p; cases p), fun a j p _ => sI_ne (by omega)⟩
  have Ra : RT Ma := by rw [hMa]; exact hR.keep rfl
  have Ea := hE.ro fa
  have ka := rk_160 Ra
  obtain ⟨a1, a2, a3, a4, a5, a6, a7, a8⟩ := Ea.1 _ g1
  have er : zrm e id = 96 * e.1 29 (zq id) 0 + (id - 96 * zq id) := by
    unfold zrm
    rcases g5 with ⟨y, z⟩ | ⟨y, z⟩
    · rw [if_pos y, z]; omega
    · rw [if_neg (by omega), z]; omega
  rw [jn_v, Ea.q_if Ra hi, jv_e, jn_v, zq_if (f := jv _) (x := 96) (y := 0) (a := 96) rfl li_0 b1, jv_e, jn_v]
  obtain ⟨M1, q1, q2, q3, q4, q5, q6⟩ := r240_out (rec := runX d) (j242 := jv fun (s16 : Mem) => gtP (13, 157) s16 (some 160) 5 fun x17 => gtP (13, 157) s16 (some 160) 12 fun x18 => alI 100 s16 x18 (iI (zrm e id)) fun x19 => alI 100 s16 x17 ((((8 : Int32)) * iI (e.1 29 (zq id) 0)) + x19) fun x20 => if 0 ≤ x20 then (gtI (13, 157) s16 (some 160) 76 fun x21 => jn (fun (s22 : Mem) => gtP (13, 157) s22 (some 160) 69 fun x23 => asI 100 s22 x23 (iI key) (((2 : Int32))) fun M24 => vC (13, 157) M24 (some 160) <| cV (runX d 239 [va_rf (some 160), .int ((8 : Int32)), .int (iI (zpc s)), .int ((0 : Int32))] M24) fun M25 => rtZ ((0 : Int32)) M25) fun j327 => if ((12 : Int32)) ≤ x21 then (j327 s16) else (jn (fun (s26 : Int32) => vC (13, 157) s16 (some 160) <| cI (runX d 243 [va_rf (some 160), .int (x20 + s26), .int ((0 : Int32))] s16) fun x28 M27 => gtI (13, 157) M27 (some 160) 85 fun x29 => jn (fun (s30 : Unit) => gtI (13, 157) M27 (some 160) 85 fun x31 => jn (fun (s32 : Int32) => rtZ s32 M27) fun j326 => if x31 = 0 then (j326 ((1 : Int32))) else (j326 ((0 : Int32)))) fun j314 => if x29 = 0 then (gtI (13, 157) M27 (some 160) 86 fun x33 => if x33 = 0 then (j314 ()) else (j327 M27)) else (j314 ())) fun j293 => if ((96 : Int32)) ≤ iI id then (j293 ((1000 : Int32))) else (j293 ((0 : Int32))))) else (rtZ ((1 : Int32)) s16)) (M := Ma) (R := R (zq id)) (p := e.1 29 (zq id) 0) (m0 := id - 96 * zq id) (bs := 96 * zq id) Ra a3 (by omega) (by rw [a4.1]; exact a4.2) (by rw [a4.1]; exact ⟨g3, g4⟩) (by omega) (fun m x1 x2 => by
    rw [a4.1] at x2
    obtain ⟨y1', -, -, -, -, y6, -⟩ := a7 m x1 x2
    have := (a6 m x1 (by rw [a4.1]; exact x2)).1
    exact ⟨⟨y1'.1, by omega⟩, this, y6⟩)
  rw [← er] at q1
  refine (show ∃ r M', (lp (c240_105 (runX d) (some 160) _ (iI (e.1 29 (zq id) 0)) (iI (96 * zq id)) (iI (zrm e id))) 4294967296 ((0 : Int32), Ma) : XA) = some (.int (iI r), M') ∧ _ from ?_)
  rw [q1, jv_e]
  rw [a4.1] at q4 q5 q6
  obtain ⟨h1, f1⟩ := h.init (M' := M1) hE hi hk (q2.trans (by rw [hMa]; rfl)) (fun a j p1 p2 p3 => (q3 a j p2 p3).trans (by rw [hMa]; exact sI_ne p1)) (fun k' x1 x2 => by
    rw [q3 _ _ (by decide) (by decide), hMa]
    by_cases y : k' = key
    · rw [if_pos y, y]; exact sI_eq.trans li_1
    · rw [if_neg y]; exact sI_nej (by omega)) q4 (fun x x1 x2 => (q5 x x1 x2).trans (by rw [hMa]; exact sI_ne (by decide))) (fun x x1 x2 => (q6 x x1 x2).trans (by rw [hMa]; exact sI_ne (by decide)))
  obtain ⟨s0, hs0⟩ : ∃ z, z = zinit e (zi s 8 key 0 1) key := ⟨_, rfl⟩
  rw [← hs0] at h1
  have R1 := h1.1.1
  have k1 := rk_160 R1
  have E1 := hE.ro f1
  have s0k : ∀ kk, kk ≠ 8 → s0.1 kk = s.1 kk := fun kk z => by rw [hs0]; funext x y; exact zi_k z
  have s0n : s0.1 0 0 0 = s.1 0 0 0 := by rw [s0k 0 (by decide)]
  have s0f : zf s0 = zf s := by unfold zf; rw [s0n]
  have s0w : s0.2 0 = s.2 0 ∧ s0.2 1 = s.2 1 := by rw [hs0]; exact ⟨rfl, rfl⟩
  have s0m : s0.1 1 0 0 = 0 := by rw [s0k 1 (by decide)]; exact hm
  have s0l : zLr s0 := hlr.cg s0n fun i _ _ k z => by rw [s0k k (by omega)]
  have s0p : zpc s0 = zpc s := by unfold zpc; rw [s0f, s0k 2 (by decide)]
  have s0h : zh s0 = zh s := by unfold zh; rw [s0f, s0k 3 (by decide)]
  have s0a : zSa s s0 := (zSa.r (s := s)).as (fun k z => s0k k (by omega)) s0w
  have s08 : s0.1 8 key 0 = 1 := by rw [hs0]; exact zi_e
  obtain ⟨a1, a2, a3, a4, a5, a6, a7, a8⟩ := E1.1 _ g1
  obtain ⟨U, hU⟩ : ∃ U, U = e.1 3 id 0 - 8 * zq id := ⟨_, rfl⟩
  obtain ⟨⟨u1, u2⟩, u3⟩ := a8 U (by omega) (by omega)
  have ek : 8 * zq id + U = key := by omega
  rw [ek] at u3
  obtain ⟨S, hS⟩ : ∃ S, S = (R (zq id)).1 1 5 U := ⟨_, rfl⟩
  rw [← hS] at u1 u2 u3
  have m171' : M1.1 171 (zrm e id).toNat = iI U := by rw [hU]; exact (E1.mb hi).2.2.1
  have e164 : M1.1 164 (8 * e.1 29 (zq id) 0 + U).toNat = iI S := by rw [hS]; exact a3.gi (c := 164) (st := 8) (k := 1) (f := 5) (by decide) (by omega) rfl
  rw [gtP_q k1 (rf_5 R1), gtP_q k1 (rf_12 R1), alI_q (n := 768) (z := zrm e id) (rk_171 R1) rfl (by omega) m171', alI_q (n := 64) (z := 8 * e.1 29 (zq id) 0 + U) (rk_164 R1) (show (8 : Int32) * iI (e.1 29 (zq id) 0) + iI U = iI (8 * e.1 29 (zq id) 0 + U) from adI (mlI (x := 8) rfl rfl) rfl) (by omega) e164]
  have us : zuse e s o id key = if e.1 7 key 0 < 0 then zmem e s0 o id else if s.1 0 0 0 < 12 then zent s0 (e.1 7 key 0) key (s0.1 6 (zf s0) 0 + zh s0) 0 else zerr (zi s0 8 key 0 2) 8 3 := by
    unfold zuse
    rw [if_neg n0, if_neg y1, if_neg y2, s0f, s0h, s0k 6 (by decide), hs0]
  by_cases y3 : S < 0
  · -- it has no START
    rw [if_pos y3] at u3
    refine ⟨1, M1, ?_, Or.inl ⟨rfl, f1, s0, ?_, s0a, s0p, s0h, s0m, h1, s0l, s08, fun D => by rw [s0k 17 (by decide)]; exact h17 D, by rw [s0k 9 (by decide)]; exact Int.le_refl _⟩⟩
    · rw [if_neg (leI_n li_0 rfl (by omega))]
      exact rtZ_q li_1 (by omega)
    · rw [us, if_pos (by omega)]; exact zto.r
  rw [if_neg y3] at u3
  have y4 : ¬ e.1 7 key 0 < 0 := by omega
  rw [if_neg y4] at us
  have e76 : M1.1 160 76 = iI (s.1 0 0 0) := by rw [h1.2.2.1, s0n]
  rw [if_pos (leI_p li_0 rfl (by omega)), gtI_q k1 e76, jn_v]
  -- what a START that failed leaves
  have lost : ∀ (A : ZS) (M2 : Mem), zRG e A M2 → (∀ i, 0 ≤ i → i < A.1 0 0 0 → zRf A M2 i) → M2.1 160 85 = iI 0 → zSa s A → zpc A = zpc s → zRo e M M2 → zto e (zuse e s o id key) (zerr (zi A 8 key 0 2) 8 3) → ∃ M', (jv (fun (s22 : Mem) => gtP (13, 157) s22 (some 160) 69 fun x23 => asI 100 s22 x23 (iI key) (((2 : Int32))) fun M24 => vC (13, 157) M24 (some 160) <| cV (runX d 239 [va_rf (some 160), .int ((8 : Int32)), .int (iI (zpc s)), .int ((0 : Int32))] M24) fun M25 => rtZ ((0 : Int32)) M25) M2 : XA) = some (.int (iI 0), M') ∧ zUF e s (zuse e s o id key) M M' := fun A M2 c1 c2 c3 c4 c5 c6 c7 => by
    obtain ⟨p1, p2⟩ := c1.lost (key := key) kb
    have R2 := c1.1
    obtain ⟨M', z1, z2, z3⟩ := rfl9g (d := d) (e := e) (s := zi A 8 key 0 2) (M := sI M2 210 key.toNat (iI 2)) (v1 := 8) (v2 := iI (zpc s)) (v3 := 0) (m := 3) (by omega) p1 (fun i x1 x2 => (c2 i x1 x2).lo (fun _ _ _ => sI_ne (by decide)) (fun _ _ _ => sI_ne (by decide)) (fun _ _ _ => sI_ne (by decide)) rfl rfl rfl rfl (fun _ => rfl) (fun _ => rfl) (fun _ => rfl)) ((sI_ne (by decide)).trans c3) (by rw [← c5]; rfl) (Or.inl ⟨rfl, rfl⟩)
    refine ⟨M', ?_, zerr (zi A 8 key 0 2) 8 3, c7, (c6.tr (p2.tr z3)).q, Or.inl ⟨Or.inl zi_e, c4.as (fun k z => by rcases z with z | z | z | z | z | z | z | z <;> subst z <;> rfl) ⟨rfl, rfl⟩, c5, z2⟩⟩
    rw [jv_e, gtP_q (rk_160 R2) (rf_69 R2), asI_q (n := 16) (z := key) (y := 2) (rk_210 R2) rfl (by omega) li_2, vC_e (rk_160 p1.1), cV_e z1]
    exact rtZ_q li_0 (by omega)
  by_cases y5 : s.1 0 0 0 < 12
  · -- its START is done
    rw [if_pos y5] at us
    rw [if_neg (show ¬ (12 : Int32) ≤ iI (s.1 0 0 0) from leI_n (x := 12) rfl rfl (by omega)), jn_v, zq_if (f := jv _) (x := 1000) (y := 0) (a := 1000) rfl li_0 b1, jv_e, vC_e k1]
    obtain ⟨v0, v1', v2', v3', v4', v5', v6', v7'⟩ := zent_v (s := s0) (c := e.1 7 key 0) (m := 0) (st := key) (sb := s0.1 6 (zf s0) 0 + zh s0)
    rw [s0n] at v0 v2' v3' v4' v5' v6' v7'
    obtain ⟨u, hu⟩ : ∃ u, u = zent s0 (e.1 7 key 0) key (s0.1 6 (zf s0) 0 + zh s0) 0 := ⟨_, rfl⟩
    have hI := h1.ist (c := e.1 7 key 0) (k := key) s0m s0l
    rw [us] at hK
    rw [← hu] at v0 v1' v2' v3' v4' v5' v6' v7' us hI hK
    rw [s0n] at hI
    have u9 : u.1 9 0 0 = s.1 9 0 0 := by rw [hu]; show s0.1 9 0 0 = _; rw [s0k 9 (by decide)]
    obtain ⟨r, M2, z1, t, z2, z3, z4⟩ := hD d u M1 (s.1 0 0 0) 0 (iI S + iI (1000 * zq id)) 0 (by omega) y5 (by omega) (by rw [u9]; exact hN) E1 hK hI (by rw [v2', u3]; exact adI rfl rfl) li_0
    have f2 := z3.pre f1
    have R2 : RT M2 := R1.keep z3.1
    have k2 := rk_160 R2
    have B : ∀ i, 0 ≤ i → i < s.1 0 0 0 → zBe s u i := fun i x1 x2 => by
      rw [hu]
      have := zent_be (s := s0) (c := e.1 7 key 0) (m := 0) (st := key) (sb := s0.1 6 (zf s0) 0 + zh s0) (i := i) (by omega)
      refine zBe.tr ?_ this
      exact ⟨fun k z => by rw [s0k k (by omega)], fun x => by rw [s0k 7 (by decide)], fun x => by rw [s0w.1, s0w.2]; exact ⟨rfl, rfl⟩⟩
    rw [us]
    rcases z4 with ⟨c1, c2, c3, ⟨c4, c5, c6⟩, c7⟩ | ⟨c1, c2⟩
    · obtain ⟨sa, sp, sh, sf⟩ := c1.sa B rfl (by omega)
      have t5 : t.1 5 (t.1 0 0 0) 0 = key := by rw [c1.1, c1.2.2.1, v5']
      have tl : zLr t := hlr.cg c1.1 fun i x1 x2 kk x3 => ((c1.2.1 i x1 x2).1 kk (by omega)).trans ((B i x1 x2).1 kk (by omega))
      rcases c7 with ⟨d1, d2, d3⟩ | ⟨d1, d2, d3, d4, d5⟩
      · -- it has answered
        refine ⟨1, M2, ?_, Or.inl ⟨rfl, f2.o (by omega), ?_⟩⟩
        · rw [cI_e z1, gtI_q k2 c6, jn_v, if_pos (show iI 0 = 0 from rfl), gtI_q k2 d2, if_pos (show iI 0 = 0 from rfl), jv_e, gtI_q k2 c6, jn_v, if_pos (show iI 0 = 0 from rfl), jv_e]
          exact rtZ_q li_1 (by omega)
        · -- the instruction once more
          have t1 : zstep e t = zi t 1 0 0 1 := by
            unfold zstep
            rw [if_neg (by omega), if_neg (by omega), if_pos d1]
            unfold zret
            rw [t5, if_pos kb.1]
          have to1 : zto e u (zi t 1 0 0 1) := z2.tr (zto.st (by rw [t1]; exact zto.r))
          have K1 := zto_kn hT hl hK to1
          have e1m : (zi t 1 0 0 1).1 1 0 0 = 1 := zi_e
          obtain ⟨t', ht'⟩ : ∃ z, z = zi (zi t 1 0 0 1) 1 0 0 0 := ⟨_, rfl⟩
          have t'k : ∀ kk, kk ≠ 1 → t'.1 kk = t.1 kk := fun kk z => by rw [ht']; funext x y; exact (zi_k z).trans (zi_k z)
          have t'w : t'.2 = t.2 := by rw [ht']; rfl
          have t'p : zpc t' = zpc s := by rw [← sp, ht']; rfl
          have t'm : t'.1 1 0 0 = 0 := by rw [ht']; exact zi_e
          have d8 : t'.1 8 key 0 = 1 := by
            rw [t'k 8 (by decide)]
            rcases K1.1.2 with ⟨-, -, -, hh⟩ | ⟨z, -⟩ | ⟨z, -⟩ | z | z
            · have := (hh e1m).2.2.2
              have e2 : zpc (zi t 1 0 0 1) = zpc s := sp
              rw [e2, ← hid, ← hk] at this
              exact this
            all_goals omega
          have t2 : zstep e (zi t 1 0 0 1) = zmem e t' o id := by
            unfold zstep
            rw [if_neg (by omega), if_pos e1m]
            have e2 : zpc (zi t 1 0 0 1) = zpc s := sp
            rw [e2, ← ht', ← ho.1]
            unfold zex
            rw [if_neg (by omega), if_neg (by omega), if_neg (by omega), if_pos ho.2.2, t'p, ← hid, ← hk]
            unfold zuse
            rw [if_neg n0, if_pos d8]
          have iv := K1.2.1
          have le9 : (zi t 1 0 0 1).1 9 0 0 ≤ s.1 9 0 0 := by
            have i1 := hK.2.1.1
            have i2 := iv.1
            have um : u.1 1 0 0 = 0 := v1'.trans s0m
            rcases zto_12 (m0 := u.1 10 0 0) (by omega) rfl to1 with z | z <;> omega
          refine ⟨t', to1.tr (zto.st (by rw [t2]; exact zto.r)), sa.as (fun kk z => t'k kk (by omega)) (by rw [t'w]; exact ⟨rfl, rfl⟩), t'p, ?_, t'm, ?_, ?_, d8, fun D => ?_, ?_⟩
          · rw [← sh, ht']; rfl
          · refine ⟨c2.ff zRw.r ⟨fun kk z => t'k kk (by omega), fun kk _ _ _ => by rw [t'w]⟩, fun i x1 x2 => ?_, ?_, ?_, c6, d2⟩
            · have e0 : t'.1 0 0 0 = s.1 0 0 0 := by rw [t'k 0 (by decide)]; exact c1.1
              rw [e0] at x2
              exact (c3 i x1 x2).lo (fun _ _ _ => rfl) (fun _ _ _ => rfl) (fun _ _ _ => rfl) (by rw [t'k 3 (by decide)]) (by rw [t'k 4 (by decide)]) (by rw [t'k 6 (by decide)]) (by rw [t'k 16 (by decide)]) (fun _ => by rw [t'k 7 (by decide)]) (fun _ => by rw [t'w]) (fun _ => by rw [t'w])
            · rw [c4, t'k 0 (by decide), c1.1]
            · rw [c5, v6', s0f, s0h, s0k 6 (by decide)]
              have : zsp t' = zsp s := by
                have ef : zf t' = zf s := by rw [← sf, ht']; rfl
                have e6 := ((c1.2.1 (zf s) (by omega) (by omega)).1 6 (by omega)).trans ((B (zf s) (by omega) (by omega)).1 6 (by omega))
                have e3 := ((c1.2.1 (zf s) (by omega) (by omega)).1 3 (by omega)).trans ((B (zf s) (by omega) (by omega)).1 3 (by omega))
                unfold zsp zh
                rw [ef, t'k 6 (by decide), t'k 3 (by decide), e6, e3]
              rw [this]; rfl
          · exact tl.cg (by rw [t'k 0 (by decide)]) fun i _ _ kk z => by rw [t'k kk (by omega)]
          · have i4 := iv.2.2.2.1 D
            have i1 := iv.1
            have l20 := hl.1
            have l30 := hl.2.2
            have h9' := K1.1.1.1.2.2.2.2.1
            rw [if_pos (Or.inl e1m)] at i4
            rw [t'k 17 (by decide)]
            have x1 : (zi t 1 0 0 1).1 17 D 0 = t.1 17 D 0 := rfl
            omega
          · rw [t'k 9 (by decide)]; exact le9
      · -- it has failed
        have t1 : zstep e t = zerr (zi t 8 key 0 2) 8 3 := by
          have : zstep e t = zunw t (t.1 1 0 0) := by
            unfold zstep
            rw [if_neg (by omega), if_neg (by omega), if_neg (by omega), if_neg (by omega), if_pos (by omega)]
          rw [this]
          unfold zunw
          rw [t5, if_pos kb.1]
          unfold zerr
          rw [zi_cm (k1 := 1) (k2 := 8) (by decide), zi_cm (k1 := 13) (k2 := 8) (by decide)]
          rfl
        obtain ⟨M', x1, x3⟩ := lost t M2 c2 (by rw [c1.1]; exact c3) c6 sa sp (f2.o (by omega)) (by rw [us]; exact z2.tr (zto.st (by rw [t1]; exact zto.r)))
        refine ⟨0, M', ?_, Or.inr ⟨rfl, by rw [us] at x3; exact x3⟩⟩
        rw [cI_e z1, gtI_q k2 c6, jn_v, if_pos (show iI 0 = 0 from rfl), gtI_q k2 d2, if_neg (show ¬ iI 1 = 0 by decide)]
        exact x1
    · -- no STEP is left
      refine ⟨0, M2, ?_, Or.inr ⟨rfl, t, z2, f2, Or.inr ⟨c1, c2⟩⟩⟩
      rw [cI_e z1, gtI_q k2 c2.2.1, jn_v, if_neg (show ¬ iI 1 = 0 by decide), jv_e, gtI_q k2 c2.2.1, jn_v, if_neg (show ¬ iI 1 = 0 by decide), jv_e]
      exact rtZ_q li_0 (by omega)
  · rw [if_neg y5] at us
    obtain ⟨M', x1, x3⟩ := lost s0 M1 h1.1 h1.2.1 h1.2.2.2.2.1 s0a s0p f1 (by rw [us]; exact zto.r)
    refine ⟨0, M', ?_, Or.inr ⟨rfl, x3⟩⟩
    rw [if_pos (show (12 : Int32) ≤ iI (s.1 0 0 0) from leI_p (x := 12) rfl rfl (by omega))]
    exact x1
end S9b6
