/-! a reading: both, up to its tails -/
/-- the reference's tail -/
def rest231 (d : Nat) (p : Int) (M : Mem) : XA := ptI (13, 157) M (some 160) 1 ((0 : Int32)) fun M19 => gtI (13, 157) M19 (some 160) 41 fun x20 => ptI (13, 157) M19 (some 160) 65 x20 fun M21 => gtI (13, 157) M21 (some 160) 41 fun x22 => if x22 = 0 then ( vC (13, 157) M21 (some 160) <| cV (runX d 232 [va_rf (some 160), .int (iI p)] M21) fun M23 => gtI (13, 157) M23 (some 160) 2 fun x24 => ptI (13, 157) M23 (some 160) 2 (x24 + ((1 : Int32))) fun M25 => some (.int (iI p), M25)) else ( gtI (13, 157) M21 (some 160) 42 fun x26 => some (.int (((-10 : Int32)) - x26), M21))
/-- the first object behind a FAULT -/
def CFo (N TT : Nat) (M0c : Mem) (F P : Int) (M : Mem) : Prop := CT M ∧ FN N W_cm M0c M ∧ (∃ ex H, HS N TT ex M H) ∧ M.1 65 10 = iI F ∧ M.1 65 11 = iI P ∧ (1 ≤ F ∧ F ≤ 6) ∧ ∃ s, M.1 65 16 = iI s ∧ 0 ≤ s ∧ s ≤ 10
section S84
variable {dl d : Nat} {T : Int → Int} {n m p i e s uc u F P ut cnt dq k9 s0 : Int} {kd pl E : Int → Int} {tx : Int → Int64} {M0 M1 M M2 M0c M0r Mc Mr : Mem} {N TT ex : Nat} {H : HG} {R : RG} {G U : Nat → Int → Int} {X : Nat → Int → Int64} {L : Int → Int64} {t : TS} {Q : Value → Mem → Value → Mem → Prop}
theorem CQ.fo (h : CQ m kd pl tx N TT ex M0 M1 e s uc M H t) (h1 : 1 ≤ t.2.1) : CFo N TT M0 t.2.1 t.2.2 M := by
  rcases h.2.2.2.2 with z | ⟨-, i, sz, sn, u2, b1, b2, b3, b4, b5, b6, b7, b8⟩
  · exact absurd z.1 (by omega)
  · exact ⟨h.1.1, h.2.1.1, ⟨ex, H, h.2.2.2.1⟩, b2, b3, by omega, sn, b6, by omega⟩
/-- the reference's tail behind a FAULT -/
theorem rest_ft (hX : RT M) (hW : ∀ i, 0 ≤ i → i < 28 → M.2.1 194 i.toNat = WR i) (hfr : Fr W_mr M0r M) (hK : KP p M0r M) (hF : 1 ≤ F ∧ F ≤ 6) (hft : FTr 2510 F P M) : Rt (rest231 d p M) (fun v M2 => v = .int (iI (-10 - P)) ∧ RFo n p M0r F P M2) := by
  obtain ⟨em, sn, us, mu, ut', y1, y2, y3, y4, y5, y6, y7, y8⟩ := hft
  have k := rk_160 hX
  have f1 : Fr [(160, 1), (160, 65)] M (sI M 160 1 (iI 0)) := Fr.sI (by decide) Fr.r
  have f2 : Fr [(160, 1), (160, 65)] M (sI (sI M 160 1 (iI 0)) 160 65 (iI F)) := Fr.sI (by decide) f1
  have R1 := hX.fr f1
  have R2 := hX.fr f2
  unfold rest231
  refine rs1 (ptI_q (z := 0) k li_0) ?_
  refine rs1 (gtI_q (rk_160 R1) ((f1.i _ _ (by decide)).trans y1)) ?_
  refine rs1 (ptI_q (z := F) (rk_160 R1) rfl) ?_
  refine rs1 (gtI_q (rk_160 R2) ((f2.i _ _ (by decide)).trans y1)) ?_
  refine rs1 (if_neg (eqI_n rfl li_0 (by omega))) ?_
  refine rs1 (gtI_q (rk_160 R2) ((f2.i _ _ (by decide)).trans y2)) ?_
  exact Rt.ok ⟨congrArg Value.int (sbI li_m10 rfl), R2, fun i a b => (f2.lc 194 (by decide) _).trans (hW i a b), Fr.t (Fr.m hfr (fun _ z => List.mem_append_left _ z)) (Fr.m f2 (fun _ z => List.mem_append_right _ z)), hK.fr f2 (by decide), (sI_nej (by decide)).trans sI_eq, sI_eq, em, sn, us, mu, ut', (f2.i _ _ (by decide)).trans y1, (f2.i _ _ (by decide)).trans y2, (f2.i _ _ (by decide)).trans y3, (f2.i _ _ (by decide)).trans y4, (f2.i _ _ (by decide)).trans y5, (f2.i _ _ (by decide)).trans y6, (f2.i _ _ (by decide)).trans y7, y8⟩
/-- behind the units, both -/
theorem tails {jl jr : Mem → XA} (hjl : jl = (jv fun s27 => gtI (7, 20) s27 (some 65) 13 fun x28 => jn (fun (s29 : Mem) => vC (7, 20) s29 (some 65) <| cV (runX dl 107 [va_rf (some 65)] s29) fun M30 => some (.null, M30)) fun j210 => if x28 = 0 then ( j210 s27) else ( vC (7, 20) s27 (some 65) <| cV (runX dl 62 [va_rf (some 65), .int ((2 : Int32))] s27) fun M31 => j210 M31))) (hjr : jr = (jv fun s16 => gtI (13, 157) s16 (some 160) 41 fun x17 => jn (fun (s18 : Mem) => ptI (13, 157) s18 (some 160) 1 ((0 : Int32)) fun M19 => gtI (13, 157) M19 (some 160) 41 fun x20 => ptI (13, 157) M19 (some 160) 65 x20 fun M21 => gtI (13, 157) M21 (some 160) 41 fun x22 => if x22 = 0 then ( vC (13, 157) M21 (some 160) <| cV (runX d 232 [va_rf (some 160), .int (iI p)] M21) fun M23 => gtI (13, 157) M23 (some 160) 2 fun x24 => ptI (13, 157) M23 (some 160) 2 (x24 + ((1 : Int32))) fun M25 => some (.int (iI p), M25)) else ( gtI (13, 157) M21 (some 160) 42 fun x26 => some (.int (((-10 : Int32)) - x26), M21))) fun j144 => if x17 = 0 then ( vC (13, 157) s16 (some 160) <| cV (runX d 230 [va_rf (some 160), .int (iI p)] s16) fun M27 => j144 M27) else ( j144 s16))) (hdl : 960 ≤ dl) (hd : 960 ≤ d) (hS : TkS T n m kd pl E tx) (uo : UO T n m kd pl E tx N TT ex M0c M0r p i Mc Mr G U X L H R e s u uc 0 ut cnt dq) (hp : 0 ≤ p ∧ p ≤ 7) (hok : ∀ i' Mc' Mr' G' U' X' H' R' e' s' u' uc' k' ut' cnt' dq' Gs, 1 ≤ k' → kd i' = 0 → HRC G' e' H' R' k' → DGK G' U' X' e' u' → (0 ≤ e' ∧ e' ≤ 1000) → CMK Mc' G' e' → SetU (R'.2 1) (R'.2 2) (R'.1 1 0 0) (R'.1 2 0 0) (R'.1 2) U' X' G' u'.toNat Gs → CA1 Mc' Gs e' → CQ m kd pl tx N TT ex M0c Mc' e' s' uc' Mc' H' (i', 0, 0) → RA1 Mr' Gs e' → (∃ sr, RQ T n 2500 m kd pl E tx M0r Mr' p ut' cnt' e' sr u' dq' Mr' R' (i', 0, 0)) → Rs (some (.null, Mc')) (rest231 d p Mr') Q) (hft : ∀ F P Mc' Mr', CFo N TT M0c F P Mc' → RFo n p M0r F P Mr' → Q .null Mc' (.int (iI (-10 - P))) Mr') : Rs (lp (c61_86 (runX dl) (some 65) jl) 4294967296 ((0 : Int32), Mc)) (lp (c231_71 (runX d) (some 160) jr (iI p)) 4294967296 ((1 : Int32), Mr)) Q := by
  subst hjl hjr
  refine units hdl hd hS uo hp rfl (fun i' Mc' Mr' G' U' X' L' H' R' e' s' u' uc' k' ut' cnt' dq' hk1 hk0 uo' => ?_) (fun i' Mc' Mr' H' e' s' uc' k0 hB g rf => ?_) (fun Mc' Mr' uf => ?_)
  · obtain ⟨Ms, Mt, ec, er, hs⟩ := settle (dl := dl) (d := d) (by omega) (by omega) hS uo' hp (v1 := iI p) rfl
    have uo0 := uo'
    obtain ⟨g, ⟨sr, q⟩, hw, hbd, hE, hH, hG, hM⟩ := uo'
    have hbd' := hbd
    unfold BD at hbd'
    obtain ⟨hc, -⟩ := g.sc rfl
    obtain ⟨hr, hm, -⟩ := q.sr rfl
    dsimp only at hc hr
    refine rsl (jv_e) ?_
    refine rsl (gtI_q (ck_65 g.1.1) hc.2.1) ?_
    refine rsl (jn_v) ?_
    refine rsl (if_pos (eqI_p rfl li_0 hk0)) ?_
    refine rsl (jv_e) ?_
    refine rsl (vC_e (ck_65 g.1.1)) ?_
    refine rsl (cV_e ec) ?_
    refine rsr (jv_e) ?_
    refine rsr (gtI_q (rk_160 q.1.1) hr.2.2.2.1) ?_
    refine rsr (jn_v) ?_
    refine rsr (if_pos (eqI_p rfl li_0 rfl)) ?_
    refine rsr (vC_e (rk_160 q.1.1)) ?_
    refine rsr (cV_e er) ?_
    refine rsr (jv_e) ?_
    rcases hs with ⟨Gs, s1, s2, s3, s4, s5, sf⟩ | ⟨P, s1, s2, s3, s4, s5, s6⟩
    · have hM' : CMK Ms G' e' := fun j a b => (sf.c 75 (by decide) _).trans (hM j a b)
      exact hok i' Ms Mt G' U' X' H' R' e' s' u' uc' k' ut' cnt' dq' Gs hk1 hk0 hH hG ⟨by omega, hE⟩ hM' s1 s2 s3 s4 s5
    · have fo : CFo N TT M0c 4 P Ms := ⟨g.1.1.fr s5, g.2.1.1.tr ((s5.n g.nn (by decide)).m (by decide)), ⟨ex, H', g.2.2.2.1.fr s5 (by decide)⟩, s1, s2, by omega, s', (s5.i _ _ (by decide)).trans hc.2.2.2.2.1, by omega⟩
      obtain ⟨mu, ut9, m1, m2, m3⟩ := hm
      have ft : FTr 2510 4 P Mt := ⟨e', sr, u', mu, ut9, s3, s4, (s6.i _ _ (by decide)).trans hr.2.2.2.2.1, (s6.i _ _ (by decide)).trans hr.2.2.2.2.2.1, (s6.i _ _ (by decide)).trans hr.2.2.2.2.2.2.1, (s6.i _ _ (by decide)).trans m1, (s6.i _ _ (by decide)).trans m2, by omega⟩
      have rt := rest_ft (d := d) (n := n) (p := p) (M0r := M0r) (q.1.1.fr s6) (fun i a b => (s6.lc 194 (by decide) _).trans (q.1.2.2 i a b)) (Fr.t q.2.1 (Fr.m s6 (by decide))) (q.2.2.2.1.2.fr s6 (by decide)) ⟨by omega, by omega⟩ ft
      exact Rs.seq (Rt.ok (rt.mono fun w M9 ⟨w1, w2⟩ => by rw [w1]; exact hft 4 P Ms M9 fo w2))
  · have hok' : KdOK (kd i') := hS.ok i' (g.sc rfl).2.1 (g.sc rfl).2.2
    have hkb : 0 ≤ kd i' ∧ kd i' < 300 := by have := hok'; unfold KdOK sgk at this; omega
    have tf : 1 ≤ (if kd i' = 1 then (1 : Int) else 2) ∧ (if kd i' = 1 then (1 : Int) else 2) ≤ 6 := by split <;> omega
    refine Rs.seq ((jl_any (d := dl) (by omega) hS g hB (fun _ => ⟨k0, hkb⟩)).mono fun v M3 ⟨hv, g3⟩ => ?_)
    refine (jr_ft (d := d) rf tf).mono fun w M4 ⟨hw, rfo⟩ => ?_
    rw [hv, hw]
    rw [show tX kd pl 2 ((i', 0, 0) : TS) = (i', if kd i' = 1 then 1 else 2, pl i') from if_pos rfl] at g3
    exact hft _ _ _ _ (g3.fo tf.1) rfo
  · obtain ⟨F, P, ut0, y1, ⟨H2, t2, e2, s2, uc2, ⟨w1, w2, w3⟩, w4, g2⟩, rf⟩ := uf
    have h1 : 1 ≤ t2.2.1 := by omega
    have hF := (g2.hF h1).1
    have hm14 := hS.2.2.1
    refine Rs.seq ((jl_any (d := dl) (by omega) hS (g2.z0 h1) (by unfold CB; omega) (fun z => absurd z (by omega))).mono fun v M3 ⟨hv, g3⟩ => ?_)
    refine (jr_ft (d := d) rf ⟨by omega, by omega⟩).mono fun w M4 ⟨hw, rfo⟩ => ?_
    rw [hv, hw]
    rw [tX_f h1] at g3
    have fo := g3.fo h1
    rw [w1, w2] at fo
    exact hft _ _ _ _ fo rfo
end S84
