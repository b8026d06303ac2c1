/-! all units: both -/
section S74
variable {dl d : Nat} {T : Int → Int} {n m i b e s u uc dq dp p r ut cnt c F P k s' e' : Int} {kd pl E : Int → Int} {tx : Int → Int64} {M0c M0r Mc Mr M0 M1 M M2 : Mem} {R : RG} {L : Int → Int64} {N TT ex : Nat} {H : HG} {G U : Nat → Int → Int} {X : Nat → Int → Int64} {v : Int32} {t : TS} {Q : Value → Mem → Value → Mem → Prop} {K K' : Mem → XA} {y : XA}
/-- loops of both, turn by turn; the left may end first -/
theorem Rb_lpx {σ τ : Type} {bl : σ → (σ → XA) → XA} {br : τ → (τ → XA) → XA} (A : Nat → σ → τ → Prop) (B : Nat → XA → τ → Prop) (hb : ∀ m s t (gl : σ → XA) (gr : τ → XA), A m s t → (∀ m' s' t', m' < m → A m' s' t' → Rs (gl s') (gr t') Q) → (∀ m' x t', m' < m → B m' x t' → Rs x (gr t') Q) → Rs (bl s gl) (br t gr) Q) (hb2 : ∀ m x t (gr : τ → XA), B m x t → (∀ m' x' t', m' < m → B m' x' t' → Rs x' (gr t') Q) → Rs x (br t gr) Q) : ∀ m s t n n', m < n → m < n' → A m s t → Rs (lp bl n s) (lp br n' t) Q := by
  have h2 : ∀ m x t n', m < n' → B m x t → Rs x (lp br n' t) Q := by
    intro m
    induction m using Nat.strongRecOn with
    | _ m ih =>
      intro x t n' hn' hB
      obtain ⟨n', rfl⟩ : ∃ e, n' = e + 1 := ⟨n' - 1, by omega⟩
      rw [lp_e]
      exact hb2 m x t _ hB fun m' x' t' h1 h2 => ih m' h1 x' t' n' (by omega) h2
  intro m
  induction m using Nat.strongRecOn with
  | _ m ih =>
    intro s t n n' hn hn' hA
    obtain ⟨n, rfl⟩ : ∃ e, n = e + 1 := ⟨n - 1, by omega⟩
    obtain ⟨n', rfl⟩ : ∃ e, n' = e + 1 := ⟨n' - 1, by omega⟩
    rw [lp_e, lp_e]
    exact hb m s t _ _ hA (fun m' s' t' h1 h2 => ih m' h1 s' t' n n' (by omega) (by omega) h2) fun m' x t' h1 hB => h2 m' x t' n' (by omega) hB
/-- what the reference does behind a unit -/
theorem after229 {x : XA} {j71 : Int32 × Mem → XA} {g : Int} (hR : RT M) (h41 : M.1 160 41 = iI F) (hF : 0 ≤ F ∧ F ≤ 6) (h36 : F = 0 → M.1 160 36 = iI (kr g) ∧ KdOK g) (hk : Rs x (j71 (iI (if F = 0 ∧ g ≠ 0 then 1 else 0), M)) Q) : Rs x (gtI (13, 157) M (some 160) 41 fun x31 => jn (fun (s32 : Int32) => j71 (s32, M)) fun j128 => jn (fun (s33 : Unit) => j128 ((0 : Int32))) fun j127 => if x31 = 0 then (gtI (13, 157) M (some 160) 36 fun x34 => if x34 = 0 then (j127 ()) else (j128 ((1 : Int32)))) else (j127 ())) Q := by
  refine rsr (gtI_q (rk_160 hR) h41) ?_
  refine rsr (jn_v) ?_
  refine rsr (jn_v) ?_
  by_cases c : F = 0
  · obtain ⟨h1, h2⟩ := h36 c
    refine rsr (if_pos (eqI_p rfl li_0 c)) ?_
    refine rsr (gtI_q (rk_160 hR) h1) ?_
    by_cases c2 : g = 0
    · refine rsr (if_pos (krI_p (k := 0) rfl li_0 c2 (by decide +kernel))) ?_
      refine rsr (jv_e) ?_
      refine rsr (jv_e) ?_
      rw [li_0]
      rw [if_neg (by omega)] at hk
      exact hk
    · refine rsr (if_neg (krI_n (k := 0) rfl li_0 h2 (by unfold KdOK; omega) (by decide +kernel) c2 (by omega))) ?_
      refine rsr (jv_e) ?_
      rw [li_1]
      rw [if_pos ⟨c, c2⟩] at hk
      exact hk
  · refine rsr (if_neg (eqI_n rfl li_0 (by omega))) ?_
    refine rsr (jv_e) ?_
    refine rsr (jv_e) ?_
    rw [li_0]
    rw [if_neg (by omega)] at hk
    exact hk
theorem units {jl jr : Mem → XA} (hdl : 960 ≤ dl) (hd : 960 ≤ d) (hS : TkS T n m kd pl E tx) (uo : UO T n m kd pl E tx N TT ex M0c M0r p i Mc Mr G U X L H R e s u uc 0 ut cnt dq) (hp : 0 ≤ p ∧ p ≤ 7) (hv : v = iI p) (hj : ∀ i' Mc' Mr' G' U' X' L' H' R' e' s' u' uc' k' ut' cnt' dq', 1 ≤ k' → kd i' = 0 → UO T n m kd pl E tx N TT ex M0c M0r p i' Mc' Mr' G' U' X' L' H' R' e' s' u' uc' k' ut' cnt' dq' → Rs (jl Mc') (jr Mr') Q) (hm : ∀ i' Mc' Mr' H' e' s' uc', kd i' ≠ 0 → CB m e' s' uc' → CQ m kd pl tx N TT ex M0c Mc' e' s' uc' Mc' H' (i', 0, 0) → RFt T n p M0r (if kd i' = 1 then 1 else 2) (pl i') Mr' → Rs (jl Mc') (jr Mr') Q) (hf : ∀ Mc' Mr', UFt T n m kd pl tx N TT ex M0c M0r p Mc' Mr' → Rs (jl Mc') (jr Mr') Q) : Rs (lp (c61_86 (runX dl) (some 65) jl) 4294967296 ((0 : Int32), Mc)) (lp (c231_71 (runX d) (some 160) jr v) 4294967296 ((1 : Int32), Mr)) Q := by
  have hbd0 := uo.2.2.2.1
  unfold BD at hbd0
  refine Rb_lpx (fun mm q q2 => ∃ c : Int, q.1 = iI c ∧ ((∃ i' G' U' X' L' H' R' e' s' u' uc' k' ut' cnt' dq', ((k' = 0 ∧ c = 0) ∨ (1 ≤ k' ∧ 1 ≤ c)) ∧ c ≤ i' ∧ UO T n m kd pl E tx N TT ex M0c M0r p i' q.2 q2.2 G' U' X' L' H' R' e' s' u' uc' k' ut' cnt' dq' ∧ q2.1 = iI (if kd i' = 0 ∧ 1 ≤ c then 0 else 1) ∧ mm = (m - i').toNat + 2) ∨ (UFt T n m kd pl tx N TT ex M0c M0r p q.2 q2.2 ∧ q2.1 = iI 0 ∧ 1 ≤ c ∧ c ≤ 1401 ∧ mm = 0))) (fun mm x q2 => q2.1 = iI 0 ∧ ∃ i' Mc' H' e' s' uc', x = jl Mc' ∧ kd i' ≠ 0 ∧ CB m e' s' uc' ∧ CQ m kd pl tx N TT ex M0c Mc' e' s' uc' Mc' H' (i', 0, 0) ∧ RFt T n p M0r (if kd i' = 1 then 1 else 2) (pl i') q2.2 ∧ mm = 0) (fun mm q q2 gl gr hq hgo hgo2 => ?_) (fun mm x q2 gr hq _ => ?_) ((m - i).toNat + 2) _ _ _ _ (by omega) (by omega) ⟨0, li_0, Or.inl ⟨i, G, U, X, L, H, R, e, s, u, uc, 0, ut, cnt, dq, by omega, by omega, uo, by rw [if_neg (by omega)]; exact li_1, rfl⟩⟩
  · obtain ⟨q1, M3⟩ := q
    obtain ⟨f1, M4⟩ := q2
    obtain ⟨c, hc, hq⟩ := hq
    dsimp only at hc hq
    unfold c61_86 c231_71
    dsimp only
    rcases hq with ⟨i', G', U', X', L', H', R', e', s', u', uc', k', ut', cnt', dq', kc, ci, uo', hf1, hmm⟩ | ⟨uf, hf1, c1, c2, hmm⟩
    · have uo0 := uo'
      obtain ⟨g, ⟨sr, q⟩, hw, hbd, hE, hH, hG, hM⟩ := uo'
      have hbd' := hbd
      unfold BD at hbd'
      have hB : CB m e' s' uc' := by unfold CB; omega
      obtain ⟨hc', -⟩ := g.sc rfl
      obtain ⟨hr', hm', hi'⟩ := q.sr rfl
      dsimp only at hc' hr' hi'
      have hok : KdOK (kd i') := hS.ok i' (by omega) (by omega)
      have hkb : 0 ≤ kd i' ∧ kd i' < 300 ∧ kd i' ≠ 2 := by have := hok; unfold KdOK sgk at this; omega
      obtain ⟨a1, a2, a3, a4, a5⟩ := hH.1
      have b1 := hH.2.1
      refine rsl (if_neg (leI_n li_3000 hc (by omega))) ?_
      refine rsl (jn_v) ?_
      -- the reference, up to its unit
      have rgo : kd i' ≠ 0 ∨ c = 0 → ∀ {x : XA} {K1 : Mem → XA} {Q1 : Value → Mem → Value → Mem → Prop} {A1 : XA}, (kd i' = 200 → Rs x (cV (runX d 229 [va_rf (some 160), .int v] M4) K1) Q1) → (kd i' ≠ 200 → ∀ Mf, RQ T n 2500 m kd pl E tx M0r M4 p ut' cnt' e' sr u' dq' Mf R' (i', if kd i' = 1 then 1 else 2, pl i') → Rs x (K1 Mf) Q1) → Rs x (if f1 = 0 then A1 else (gtI (13, 157) M4 (some 160) 41 fun x29 => jn K1 fun j109 => if x29 = 0 then (gtI (13, 157) M4 (some 160) 36 fun x35 => jn (fun (s36 : Int32) => vC (13, 157) M4 (some 160) <| cI (runX d 193 [va_rf (some 160), .int s36] M4) fun x38 M37 => if x38 = 0 then (j109 M37) else (vC (13, 157) M37 (some 160) <| cV (runX d 229 [va_rf (some 160), .int v] M37) fun M39 => j109 M39)) fun j98 => if x35 = ((401 : Int32)) then (j98 ((1 : Int32))) else (j98 ((0 : Int32)))) else (j109 M4))) Q1 := fun z {x K1 Q1 A1} hu hn => by
        rw [if_neg (by omega)] at hf1
        refine rsr (if_neg (eqI_n hf1 li_0 (by omega))) ?_
        refine rsr (gtI_q (rk_160 q.1.1) hr'.2.2.2.1) ?_
        refine rsr (jn_v) ?_
        refine rsr (if_pos (eqI_p rfl li_0 rfl)) ?_
        refine rsr (gtI_q (rk_160 q.1.1) hr'.1) ?_
        refine rsr (jn_v) ?_
        by_cases k200 : kd i' = 200
        · refine rsr (if_pos (krI_p (k := 200) rfl li_401 k200 (by decide +kernel))) ?_
          refine rsr (jv_e) ?_
          refine rsr (vC_e (rk_160 q.1.1)) ?_
          refine rsr (cI_e (ar193_p (by omega) hS q.1.1 hr'.1 hr'.2.1 hr'.2.2.2.1 li_1 ⟨hi'.1, hi'.2, by omega, rfl⟩)) ?_
          refine rsr (if_neg (eqI_n (x := 1) (y := 0) rfl li_0 (by omega))) ?_
          refine rsr (vC_e (rk_160 q.1.1)) ?_
          exact hu k200
        · refine rsr (if_neg (krI_n (k := 200) rfl li_401 hok (by unfold KdOK; omega) (by decide +kernel) k200 (by omega))) ?_
          refine rsr (jv_e) ?_
          refine rsr (vC_e (rk_160 q.1.1)) ?_
          obtain ⟨Mq, q1, q2⟩ := q193n (d := d) (b := 2500) (by omega) hS q.1.1 hr' hm' (by omega) hi' li_0
          refine rsr (cI_e q1) ?_
          refine rsr (if_pos (eqI_p rfl li_0 rfl)) ?_
          refine rsr (jv_e) ?_
          exact hn k200 Mq (q.rp q2 (fun _ => rfl))
      -- behind a unit
      have unit : kd i' = 200 ∨ c = 0 → Rs (cV (runX dl 76 [va_rf (some 65)] M3) fun M34 => jn (tail61 (runX dl) (fun M48 => lt (q1 + (1 : Int32)) fun (x49 : Int32) => gl (x49, M48))) fun j147 => lp (c61_113 (runX dl) (some 65) j147) 4294967296 ((0 : Int32), M34)) (if f1 = 0 then jr M4 else (gtI (13, 157) M4 (some 160) 41 fun x29 => jn (fun (s30 : Mem) => gtI (13, 157) s30 (some 160) 41 fun x31 => jn (fun (s32 : Int32) => gr (s32, s30)) fun j128 => jn (fun (s33 : Unit) => j128 ((0 : Int32))) fun j127 => if x31 = 0 then (gtI (13, 157) s30 (some 160) 36 fun x34 => if x34 = 0 then (j127 ()) else (j128 ((1 : Int32)))) else (j127 ())) fun j109 => if x29 = 0 then (gtI (13, 157) M4 (some 160) 36 fun x35 => jn (fun (s36 : Int32) => vC (13, 157) M4 (some 160) <| cI (runX d 193 [va_rf (some 160), .int s36] M4) fun x38 M37 => if x38 = 0 then (j109 M37) else (vC (13, 157) M37 (some 160) <| cV (runX d 229 [va_rf (some 160), .int v] M37) fun M39 => j109 M39)) fun j98 => if x35 = ((401 : Int32)) then (j98 ((1 : Int32))) else (j98 ((0 : Int32)))) else (j109 M4))) Q := fun z => by
        refine rgo (by omega) (fun k200 => ?_) (fun k200 Mf qf => ?_)
        · refine unit_pair hdl hd hS uo0 hp hv k200 (fun i2 Mc2 Mr2 G2 U2 X2 L2 H2 R2 e2 s2 u2 uc2 ut2 cnt2 dq2 z1 z2 => ?_) (fun Mc2 Mr2 z1 => ?_)
          · have z20 := z2
            obtain ⟨g2, ⟨sr2, q2⟩, -, bd2, -⟩ := z2
            unfold BD at bd2
            obtain ⟨hr2, -, -⟩ := q2.sr rfl
            dsimp only at hr2
            refine rsl (ltI_q (z := c + 1) (cvI (adI hc li_1) (by omega))) ?_
            refine after229 (F := 0) (g := kd i2) q2.1.1 hr2.2.2.2.1 (by omega) (fun _ => ⟨hr2.1, hS.ok i2 (by omega) (by omega)⟩) ?_
            refine hgo ((m - i2).toNat + 2) _ _ (by omega) ⟨c + 1, rfl, Or.inl ⟨i2, G2, U2, X2, L2, H2, R2, e2, s2, u2, uc2, k' + 1, ut2, cnt2, dq2, by omega, by omega, z20, ?_, rfl⟩⟩
            by_cases w : kd i2 = 0
            · rw [if_neg (by omega), if_pos (by omega)]
            · rw [if_pos (by omega), if_neg (by omega)]
          · have z10 := z1
            obtain ⟨F, P, ut0, y1, ⟨H2, t2, e2, s2, uc2, ⟨w1, w2, w3⟩, w4, g2⟩, ⟨x1, x2, x3, em, sn, us, mu, ut9, y3, y4⟩⟩ := z1
            have hF := (g2.hF (by omega)).1
            refine rsl (ltI_q (z := c + 1) (cvI (adI hc li_1) (by omega))) ?_
            refine after229 (F := F) (g := 0) x1.1 y3 (by omega) (fun w => absurd w (by omega)) ?_
            rw [if_neg (by omega)]
            exact hgo 0 _ _ (by omega) ⟨c + 1, rfl, Or.inr ⟨z10, rfl, by omega, by omega, rfl⟩⟩
        · obtain ⟨vl, M34, e34, rr, a, b, b9, xx, yy, ow, X9, -, -, ha, hb, g1⟩ := mc76 (d := dl) (by omega) hS g rfl hB (by omega) (by omega)
          obtain ⟨HN, hHN⟩ : ∃ z, z = aU H' ow xx yy (uF (hEN H' 2) b9) X9 := ⟨_, rfl⟩
          rw [← hHN] at g1
          have hu1 : hEN HN 1 = k' + 1 := by rw [hHN]; show (if (1 : Nat) = 1 then hEN H' 1 + 1 else hEN H' 1) = _; rw [if_pos rfl, a1]
          have tf : 1 ≤ ((i', if kd i' = 1 then 1 else 2, pl i') : TS).2.1 := by dsimp only; split <;> omega
          rw [show tE kd pl 200 ((i', 0, 0) : TS) = (i', if kd i' = 1 then 1 else 2, pl i') from (if_neg fun z => k200 z.2).trans (if_pos rfl), show tN kd pl a b (i', if kd i' = 1 then 1 else 2, pl i') = (i', if kd i' = 1 then 1 else 2, pl i') from (if_neg fun z => absurd z.1 (by omega)).trans (tX_f tf), tE_f tf] at g1
          refine rsl (cV_e e34) ?_
          refine rsl (jn_v) ?_
          refine left_ft (by omega) hS g1 tf (by omega) (by omega) fun M2 ut0 y1 y2 => ?_
          have rf := qf.fl tf (by omega)
          have rf0 := rf
          obtain ⟨x1, x2, x3, em, sn, us, mu, ut9, y3, y4⟩ := rf
          refine rsl (ltI_q (z := c + 1) (cvI (adI hc li_1) (by omega))) ?_
          refine after229 (g := 0) x1.1 y3 (by dsimp only; split <;> omega) (fun w => absurd w (by omega)) ?_
          rw [if_neg (by omega)]
          exact hgo 0 _ _ (by omega) ⟨c + 1, rfl, Or.inr ⟨⟨_, _, ut0, y1, y2, rf0⟩, rfl, by omega, by omega, rfl⟩⟩
      by_cases c0 : c = 0
      · refine rsl (if_pos (eqI_p hc li_0 c0)) ?_
        refine rsl (jv_e) ?_
        refine rsl (vC_e (ck_65 g.1.1)) ?_
        exact unit (Or.inr c0)
      · refine rsl (if_neg (eqI_n hc li_0 (by omega))) ?_
        refine rsl (gtI_q (ck_65 g.1.1) hc'.2.1) ?_
        by_cases k200 : kd i' = 200
        · refine rsl (if_pos (eqI_p rfl li_200 k200)) ?_
          refine rsl (jv_e) ?_
          refine rsl (vC_e (ck_65 g.1.1)) ?_
          exact unit (Or.inl k200)
        · refine rsl (if_neg (eqI_n rfl li_200 (by omega))) ?_
          by_cases k0 : kd i' = 0
          · rw [if_pos (by omega)] at hf1
            refine rsr (if_pos (eqI_p hf1 li_0 rfl)) ?_
            exact hj i' _ _ _ _ _ _ _ _ _ _ _ _ k' _ _ _ (by omega) k0 uo0
          · refine rgo (Or.inl k0) (fun w => absurd w k200) (fun _ Mf qf => ?_)
            have tf : 1 ≤ ((i', if kd i' = 1 then 1 else 2, pl i') : TS).2.1 := by dsimp only; split <;> omega
            have rf := qf.fl tf (by omega)
            have rf0 := rf
            obtain ⟨x1, x2, x3, em, sn, us, mu, ut9, y3, y4⟩ := rf
            refine after229 (g := 0) x1.1 y3 (by dsimp only; split <;> omega) (fun w => absurd w (by omega)) ?_
            rw [if_neg (by omega)]
            exact hgo2 0 _ _ (by omega) ⟨rfl, i', M3, H', e', s', uc', rfl, k0, hB, g, rf0, rfl⟩
    · have uf0 := uf
      obtain ⟨F, P, ut0, y1, ⟨H2, t2, e2, s2, uc2, ⟨w1, w2, w3⟩, w4, g2⟩, -⟩ := uf
      have h13 := (g2.hF (by omega)).2
      refine rsl (if_neg (leI_n li_3000 hc (by omega))) ?_
      refine rsl (jn_v) ?_
      refine rsl (if_neg (eqI_n hc li_0 (by omega))) ?_
      refine rsl (gtI_q (ck_65 g2.1.1) h13) ?_
      refine rsl (if_neg (eqI_n rfl li_200 (by omega))) ?_
      refine rsr (if_pos (eqI_p hf1 li_0 rfl)) ?_
      exact hf _ _ uf0
  · obtain ⟨hf1, i', Mc', H', e', s', uc', rfl, k0, hB, g, rf, -⟩ := hq
    unfold c231_71
    refine rsr (if_pos (eqI_p hf1 li_0 rfl)) ?_
    exact hm i' Mc' _ H' e' s' uc' k0 hB g rf
end S74
