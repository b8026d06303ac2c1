/-! a reading with the room that a FAULT takes: as 84 and 85 -/
/-- the first object behind a FAULT -/
def CFp (N TT ex : Nat) (M0c : Mem) (F P : Int) (M : Mem) : Prop := CT M ∧ FN N W_cm M0c M ∧ (∃ H, HS N TT ex M H) ∧ M.1 65 10 = iI F ∧ M.1 65 11 = iI P ∧ (1 ≤ F ∧ F ≤ 6) ∧ ∃ s, M.1 65 16 = iI s ∧ 0 ≤ s ∧ s ≤ 10
section S9ei
variable {dl d : Nat} {T : Int → Int} {n m p i e s uc u F P ut cnt dq k9 s0 : Int} {kd pl E : Int → Int} {tx : Int → Int64} {M0 M1 M M2 M0c M0r Mc Mr : Mem} {N TT ex : Nat} {H : HG} {R : RG} {G U : Nat → Int → Int} {X : Nat → Int → Int64} {L : Int → Int64} {t : TS} {Q : Value → Mem → Value → Mem → Prop}
theorem CQ.fp (h : CQ m kd pl tx N TT ex M0 M1 e s uc M H t) (h1 : 1 ≤ t.2.1) : CFp N TT ex M0 t.2.1 t.2.2 M := by
  rcases h.2.2.2.2 with z | ⟨-, i, sz, sn, u2, b1, b2, b3, b4, b5, b6, b7, b8⟩
  · exact absurd z.1 (by omega)
  · exact ⟨h.1.1, h.2.1.1, ⟨H, h.2.2.2.1⟩, b2, b3, by omega, sn, b6, by omega⟩
/-- behind the units, both -/
theorem tailp {jl jr : Mem → XA} (hjl : jl = (jv fun s27 => gtI (7, 20) s27 (some 65) 13 fun x28 => jn (fun (s29 : Mem) => vC (7, 20) s29 (some 65) <| cV (runX dl 107 [va_rf (some 65)] s29) fun M30 => some (.null, M30)) fun j210 => if x28 = 0 then ( j210 s27) else ( vC (7, 20) s27 (some 65) <| cV (runX dl 62 [va_rf (some 65), .int ((2 : Int32))] s27) fun M31 => j210 M31))) (hjr : jr = (jv fun s16 => gtI (13, 157) s16 (some 160) 41 fun x17 => jn (fun (s18 : Mem) => ptI (13, 157) s18 (some 160) 1 ((0 : Int32)) fun M19 => gtI (13, 157) M19 (some 160) 41 fun x20 => ptI (13, 157) M19 (some 160) 65 x20 fun M21 => gtI (13, 157) M21 (some 160) 41 fun x22 => if x22 = 0 then ( vC (13, 157) M21 (some 160) <| cV (runX d 232 [va_rf (some 160), .int (iI p)] M21) fun M23 => gtI (13, 157) M23 (some 160) 2 fun x24 => ptI (13, 157) M23 (some 160) 2 (x24 + ((1 : Int32))) fun M25 => some (.int (iI p), M25)) else ( gtI (13, 157) M21 (some 160) 42 fun x26 => some (.int (((-10 : Int32)) - x26), M21))) fun j144 => if x17 = 0 then ( vC (13, 157) s16 (some 160) <| cV (runX d 230 [va_rf (some 160), .int (iI p)] s16) fun M27 => j144 M27) else ( j144 s16))) (hdl : 960 ≤ dl) (hd : 960 ≤ d) (hS : TkS T n m kd pl E tx) (uo : UO T n m kd pl E tx N TT ex M0c M0r p i Mc Mr G U X L H R e s u uc 0 ut cnt dq) (hp : 0 ≤ p ∧ p ≤ 7) (hok : ∀ i' Mc' Mr' G' U' X' H' R' e' s' u' uc' k' ut' cnt' dq' Gs, 1 ≤ k' → kd i' = 0 → ((0 ≤ s' ∧ s' ≤ 10) ∧ 0 ≤ u') → HRC G' e' H' R' k' → DGK G' U' X' e' u' → (0 ≤ e' ∧ e' ≤ 1000) → CMK Mc' G' e' → SetU (R'.2 1) (R'.2 2) (R'.1 1 0 0) (R'.1 2 0 0) (R'.1 2) U' X' G' u'.toNat Gs → CA1 Mc' Gs e' → CQ m kd pl tx N TT ex M0c Mc' e' s' uc' Mc' H' (i', 0, 0) → RA1 Mr' Gs e' → (∃ sr, RQ T n 2500 m kd pl E tx M0r Mr' p ut' cnt' e' sr u' dq' Mr' R' (i', 0, 0)) → Rs (some (.null, Mc')) (rest231 d p Mr') Q) (hft : ∀ F P Mc' Mr', CFp N TT ex M0c F P Mc' → RFo n p M0r F P Mr' → Q .null Mc' (.int (iI (-10 - P))) Mr') : Rs (lp (c61_86 (runX dl) (some 65) jl) 4294967296 ((0 : Int32), Mc)) (lp (c231_71 (runX d) (some 160) jr (iI p)) 4294967296 ((1 : Int32), Mr)) Q := by
  subst hjl hjr
  refine units hdl hd hS uo hp rfl (fun i' Mc' Mr' G' U' X' L' H' R' e' s' u' uc' k' ut' cnt' dq' hk1 hk0 uo' => ?_) (fun i' Mc' Mr' H' e' s' uc' k0 hB g rf => ?_) (fun Mc' Mr' uf => ?_)
  · obtain ⟨Ms, Mt, ec, er, hs⟩ := settle (dl := dl) (d := d) (by omega) (by omega) hS uo' hp (v1 := iI p) rfl
    have uo0 := uo'
    obtain ⟨g, ⟨sr, q⟩, hw, hbd, hE, hH, hG, hM⟩ := uo'
    have hbd' := hbd
    unfold BD at hbd'
    obtain ⟨hc, -⟩ := g.sc rfl
    obtain ⟨hr, hm, -⟩ := q.sr rfl
    dsimp only at hc hr
    refine rsl (jv_e) ?_
    refine rsl (gtI_q (ck_65 g.1.1) hc.2.1) ?_
    refine rsl (jn_v) ?_
    refine rsl (if_pos (eqI_p rfl li_0 hk0)) ?_
    refine rsl (jv_e) ?_
    refine rsl (vC_e (ck_65 g.1.1)) ?_
    refine rsl (cV_e ec) ?_
    refine rsr (jv_e) ?_
    refine rsr (gtI_q (rk_160 q.1.1) hr.2.2.2.1) ?_
    refine rsr (jn_v) ?_
    refine rsr (if_pos (eqI_p rfl li_0 rfl)) ?_
    refine rsr (vC_e (rk_160 q.1.1)) ?_
    refine rsr (cV_e er) ?_
    refine rsr (jv_e) ?_
    rcases hs with ⟨Gs, s1, s2, s3, s4, s5, sf⟩ | ⟨P, s1, s2, s3, s4, s5, s6⟩
    · have hM' : CMK Ms G' e' := fun j a b => (sf.c 75 (by decide) _).trans (hM j a b)
      exact hok i' Ms Mt G' U' X' H' R' e' s' u' uc' k' ut' cnt' dq' Gs hk1 hk0 (by omega) hH hG ⟨by omega, hE⟩ hM' s1 s2 s3 s4 s5
    · have fo : CFp N TT ex M0c 4 P Ms := ⟨g.1.1.fr s5, g.2.1.1.tr ((s5.n g.nn (by decide)).m (by decide)), ⟨H', g.2.2.2.1.fr s5 (by decide)⟩, s1, s2, by omega, s', (s5.i _ _ (by decide)).trans hc.2.2.2.2.1, by omega⟩
      obtain ⟨mu, ut9, m1, m2, m3⟩ := hm
      have ft : FTr 2510 4 P Mt := ⟨e', sr, u', mu, ut9, s3, s4, (s6.i _ _ (by decide)).trans hr.2.2.2.2.1, (s6.i _ _ (by decide)).trans hr.2.2.2.2.2.1, (s6.i _ _ (by decide)).trans hr.2.2.2.2.2.2.1, (s6.i _ _ (by decide)).trans m1, (s6.i _ _ (by decide)).trans m2, by omega⟩
      have rt := rest_ft (d := d) (n := n) (p := p) (M0r := M0r) (q.1.1.fr s6) (fun i a b => (s6.lc 194 (by decide) _).trans (q.1.2.2 i a b)) (Fr.t q.2.1 (Fr.m s6 (by decide))) (q.2.2.2.1.2.fr s6 (by decide)) ⟨by omega, by omega⟩ ft
      exact Rs.seq (Rt.ok (rt.mono fun w M9 ⟨w1, w2⟩ => by rw [w1]; exact hft 4 P Ms M9 fo w2))
  · have hok' : KdOK (kd i') := hS.ok i' (g.sc rfl).2.1 (g.sc rfl).2.2
    have hkb : 0 ≤ kd i' ∧ kd i' < 300 := by have := hok'; unfold KdOK sgk at this; omega
    have tf : 1 ≤ (if kd i' = 1 then (1 : Int) else 2) ∧ (if kd i' = 1 then (1 : Int) else 2) ≤ 6 := by split <;> omega
    refine Rs.seq ((jl_any (d := dl) (by omega) hS g hB (fun _ => ⟨k0, hkb⟩)).mono fun v M3 ⟨hv, g3⟩ => ?_)
    refine (jr_ft (d := d) rf tf).mono fun w M4 ⟨hw, rfo⟩ => ?_
    rw [hv, hw]
    rw [show tX kd pl 2 ((i', 0, 0) : TS) = (i', if kd i' = 1 then 1 else 2, pl i') from if_pos rfl] at g3
    exact hft _ _ _ _ (g3.fp tf.1) rfo
  · obtain ⟨F, P, ut0, y1, ⟨H2, t2, e2, s2, uc2, ⟨w1, w2, w3⟩, w4, g2⟩, rf⟩ := uf
    have h1 : 1 ≤ t2.2.1 := by omega
    have hF := (g2.hF h1).1
    have hm14 := hS.2.2.1
    refine Rs.seq ((jl_any (d := dl) (by omega) hS (g2.z0 h1) (by unfold CB; omega) (fun z => absurd z (by omega))).mono fun v M3 ⟨hv, g3⟩ => ?_)
    refine (jr_ft (d := d) rf ⟨by omega, by omega⟩).mono fun w M4 ⟨hw, rfo⟩ => ?_
    rw [hv, hw]
    rw [tX_f h1] at g3
    have fo := g3.fp h1
    rw [w1, w2] at fo
    exact hft _ _ _ _ fo rfo
end S9ei
section S9eiB
variable {dl d LL : Nat} {T : Int → Int} {n p ut cnt dq mu s s0 : Int} {Mc Mr : Mem} {xs : Nat → Int32} {Q : Value → Mem → Value → Mem → Prop}
theorem read_pairp (hdl : 960 ≤ dl) (hd : 960 ≤ d) (hO : OldOK LL xs Mc) (hC : CT Mc) (h259 : 259 ≤ ln Mc) (h2 : Mc.2.2.2[2]? = some (210, 0)) (hT : Tp 66 1 67 T n Mc) (hn : n ≤ 1399) (hW : ∀ i, 0 ≤ i → i < 28 → Mc.2.1 71 i.toNat = WC i) (h16 : Mc.1 65 16 = iI s0) (hs0 : 0 ≤ s0 ∧ s0 ≤ 10) (hX : RX T n Mr) (hr2 : Mr.1 160 2 = iI p) (hp : 0 ≤ p ∧ p ≤ 7) (h48 : Mr.1 160 48 = iI mu) (h49 : Mr.1 160 49 = iI ut) (hb : 0 ≤ mu ∧ mu ≤ 1 ∧ 0 ≤ ut ∧ ut ≤ 8) (h50 : Mr.1 160 50 = iI dq) (h51 : Mr.1 160 51 = iI s) (h64 : Mr.1 160 64 = iI cnt) (hok : ∀ m kd pl E tx M0c M0r M4, TkS T n m kd pl E tx → NLs Mc 4 M4 → Fr [(65, 9), (65, 10), (65, 12), (65, 13), (65, 19), (66, 6), (66, 7), (68, 9999), (69, 9999), (70, 9999)] M4 M0c → Fr W_mr Mr M0r → KP p Mr M0r → ∀ i' Mc' Mr' G' U' X' H' R' e' s' u' uc' k' ut' cnt' dq' Gs, 1 ≤ k' → kd i' = 0 → ((0 ≤ s' ∧ s' ≤ 10) ∧ 0 ≤ u') → HRC G' e' H' R' k' → DGK G' U' X' e' u' → (0 ≤ e' ∧ e' ≤ 1000) → CMK Mc' G' e' → SetU (R'.2 1) (R'.2 2) (R'.1 1 0 0) (R'.1 2 0 0) (R'.1 2) U' X' G' u'.toNat Gs → CA1 Mc' Gs e' → CQ m kd pl tx (ln Mc) (tot Mc.2.2.2) 0 M0c Mc' e' s' uc' Mc' H' (i', 0, 0) → RA1 Mr' Gs e' → (∃ sr, RQ T n 2500 m kd pl E tx M0r Mr' p ut' cnt' e' sr u' dq' Mr' R' (i', 0, 0)) → Rs (some (.null, Mc')) (rest231 d p Mr') Q) (hft : ∀ M0c M0r M4, NLs Mc 4 M4 → Fr [(65, 9), (65, 10), (65, 12), (65, 13), (65, 19), (66, 6), (66, 7), (68, 9999), (69, 9999), (70, 9999)] M4 M0c → Fr W_mr Mr M0r → KP p Mr M0r → ∀ F P Mc' Mr', CFp (ln Mc) (tot Mc.2.2.2) 0 M0c F P Mc' → RFo n p M0r F P Mr' → Q .null Mc' (.int (iI (-10 - P))) Mr') : Rs (runX (dl + 1) 61 [va_rf (some 65)] Mc) (runX (d + 1) 231 [va_rf (some 160)] Mr) Q := by
  obtain ⟨m, kd, pl, E, tx, M1, e1, hS, g, M4, nl, f4⟩ := mc61 (d := dl) (by omega) hO hC h259 h2 hT hn hW h16
  obtain ⟨M2, R, e2, q, ⟨z1, z2, z3, z4⟩, f2, k2⟩ := mr231 (d := d) (by omega) hS hX hr2 hp h48 h49 hb h50 h51 h64
  rw [e1, e2]
  have hm := hS.2.1.1
  have hm14 := hS.2.2.1
  refine tailp (G := fun _ _ => 0) (U := fun _ _ => 0) (X := fun _ _ => 0) (L := fun _ => 0) (R := R) (ut := ut) (cnt := cnt) (dq := dq) (s := s0) (e := 0) (u := 0) (uc := 0) rfl rfl hdl hd hS ⟨g, ⟨s, q⟩, ⟨?_, ?_, ?_, ?_, ⟨?_, ?_, ?_⟩, ?_⟩, ?_, by omega, ⟨⟨rfl, z1, z2.symm, z3.symm, z4.symm⟩, ?_, ?_, ?_, ?_, ?_, ?_⟩, ⟨?_, ?_⟩, ?_⟩ hp (hok m kd pl E tx M1 M2 M4 hS nl f4 f2 k2) (hft M1 M2 M4 nl f4 f2 k2)
  · exact fun j a b => absurd b (by omega)
  · exact fun j a b => absurd b (by omega)
  · exact fun j a b => absurd b (by omega)
  · exact fun j a b => absurd b (by omega)
  · exact fun j a b => absurd b (by omega)
  · exact fun a b p q w => absurd w (by omega)
  · exact fun x a b => absurd b (by omega)
  · exact fun j a b => absurd b (by omega)
  · unfold BD; omega
  · show (0 : Int) ≤ 0 ∧ (0 : Int) ≤ 8 ∧ (0 : Int) ≤ 0 ∧ (0 : Int) ≤ 12 * 0 ∧ (0 : Int) ≤ 0 ∧ (0 : Int) ≤ 16 ∧ (0 : Int) ≤ 0 ∧ (0 : Int) ≤ 6 ∧ (0 : Int) ≤ 0
    omega
  · exact fun j a b => absurd b (by omega)
  · exact fun j a b => absurd (show j < 0 from b) (by omega)
  · exact fun j a b => absurd (show j < 0 from b) (by omega)
  · exact fun j a b => absurd (show j < 0 from b) (by omega)
  · exact fun j a b => absurd b (by omega)
  · exact fun j a b => absurd b (by omega)
  · exact fun j a b => absurd b (by omega)
  · exact fun j a b => absurd b (by omega)
end S9eiB
