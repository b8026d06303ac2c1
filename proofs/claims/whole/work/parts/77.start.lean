/-! the start of a reading: the reference -/
section S77
variable {d : Nat} {T : Int → Int} {n m p ut cnt s dq mu : Int} {kd pl E : Int → Int} {tx : Int → Int64} {M M2 : Mem}
theorem mr231 (hd : 5 ≤ d) (hS : TkS T n m kd pl E tx) (hX : RX T n M) (h2 : M.1 160 2 = iI p) (hp : 0 ≤ p ∧ p ≤ 7) (h48 : M.1 160 48 = iI mu) (h49 : M.1 160 49 = iI ut) (hb : 0 ≤ mu ∧ mu ≤ 1 ∧ 0 ≤ ut ∧ ut ≤ 8) (h50 : M.1 160 50 = iI dq) (h51 : M.1 160 51 = iI s) (h64 : M.1 160 64 = iI cnt) : ∃ M2 R, runX (d + 1) 231 [va_rf (some 160)] M = lp (c231_71 (runX d) (some 160) (jv fun s16 => gtI (13, 157) s16 (some 160) 41 fun x17 => jn (fun (s18 : Mem) => ptI (13, 157) s18 (some 160) 1 ((0 : Int32)) fun M19 => gtI (13, 157) M19 (some 160) 41 fun x20 => ptI (13, 157) M19 (some 160) 65 x20 fun M21 => gtI (13, 157) M21 (some 160) 41 fun x22 => if x22 = 0 then ( vC (13, 157) M21 (some 160) <| cV (runX d 232 [va_rf (some 160), .int (iI p)] M21) fun M23 => gtI (13, 157) M23 (some 160) 2 fun x24 => ptI (13, 157) M23 (some 160) 2 (x24 + ((1 : Int32))) fun M25 => some (.int (iI p), M25)) else ( gtI (13, 157) M21 (some 160) 42 fun x26 => some (.int (((-10 : Int32)) - x26), M21))) fun j144 => if x17 = 0 then ( vC (13, 157) s16 (some 160) <| cV (runX d 230 [va_rf (some 160), .int (iI p)] s16) fun M27 => j144 M27) else ( j144 s16)) (iI p)) 4294967296 ((1 : Int32), M2) ∧ RQ T n 2500 m kd pl E tx M2 M2 p ut cnt 0 s 0 dq M2 R (0, 0, 0) ∧ (R.1 1 0 0 = 0 ∧ R.1 2 0 0 = 0 ∧ R.1 3 0 0 = 0 ∧ R.1 4 0 0 = 0) ∧ Fr W_mr M M2 ∧ KP p M M2 := by
  have hm := hS.2.1.1
  obtain ⟨R0, hR0⟩ := RR.ex (M := M) (p := p)
  have st : ∀ {c k : Nat} {M : Mem} {R : RG}, (c, ((1 : Nat) : Int), k, 0) ∈ rTI → (c, 9999) ∈ W_mr → RX T n M → RR M p R → RX T n (sI M c p.toNat (iI 0)) ∧ RR (sI M c p.toNat (iI 0)) p (rsF R k 0 0 0) ∧ KP p M (sI M c p.toNat (iI 0)) ∧ Fr W_mr M (sI M c p.toNat (iI 0)) := fun {c k M R} w w2 a b => by
    have q := rTI_w _ w
    dsimp only at q
    exact ⟨a.one frone ⟨q.1, q.2.1, q.2.2.1⟩, b.sI hp.1 w (by omega) (by omega), KP.sI (j0 := 0) (i := p) (fun _ _ _ _ z => z) hp.1 w (by omega) (by omega), Fr.sI (inW_c w2 _) Fr.r⟩
  obtain ⟨x4, r4, p4, f4⟩ := st (c := 162) (k := 1) (by decide) (by decide) hX hR0
  obtain ⟨x6, r6, p6, f6⟩ := st (c := 169) (k := 2) (by decide) (by decide) x4 r4
  obtain ⟨x8, r8, p8, f8⟩ := st (c := 176) (k := 3) (by decide) (by decide) x6 r6
  obtain ⟨xa, ra, pa, fa⟩ := st (c := 184) (k := 4) (by decide) (by decide) x8 r8
  obtain ⟨Ma, hMa⟩ : ∃ z, z = sI (sI (sI (sI M 162 p.toNat (iI 0)) 169 p.toNat (iI 0)) 176 p.toNat (iI 0)) 184 p.toNat (iI 0) := ⟨_, rfl⟩
  have fA : Fr W_mr M Ma := by rw [hMa]; exact Fr.t (Fr.t (Fr.t f4 f6) f8) fa
  have pA : KP p M Ma := by rw [hMa]; exact fun p' R a b z => pa p' R a b (p8 p' R a b (p6 p' R a b (p4 p' R a b z)))
  rw [← hMa] at xa ra
  obtain ⟨Mb, hMb⟩ : ∃ z, z = sI (sI (sI (sI Ma 160 43 (iI 0)) 160 53 (iI 0)) 160 41 (iI 0)) 160 38 (iI 0) := ⟨_, rfl⟩
  have fB : Fr [(160, 43), (160, 53), (160, 41), (160, 38)] Ma Mb := by rw [hMb]; exact Fr.sI (by decide) (Fr.sI (by decide) (Fr.sI (by decide) (Fr.sI (by decide) Fr.r)))
  have xb := xa.fr fB (by decide)
  have rb := ra.fr fB (by decide)
  obtain ⟨v, M2, e2, fn, n36, n37, n38, nm⟩ := nx_0 (d := d) (by omega) hS xb.1 xb.2.1 xb.2.2 (by rw [hMb]; exact (sI_nej (by decide)).trans sI_eq) (by rw [hMb]; exact sI_eq)
  have x2 := xb.fr fn (by decide)
  have r2 := rb.fr fn (by decide)
  have fC : Fr W_mr M M2 := Fr.t (Fr.t fA (Fr.m fB (by decide))) (Fr.m fn (by decide))
  have g2 : ∀ j, inW W_mr 160 j = false → M2.1 160 j = M.1 160 j := fun j w => fC.i _ _ w
  have gA : ∀ j, Ma.1 160 j = M.1 160 j := fun j => by rw [hMa]; exact (sI_ne (by decide)).trans ((sI_ne (by decide)).trans ((sI_ne (by decide)).trans (sI_ne (by decide))))
  have gB : ∀ j, inW [(160, 43), (160, 53), (160, 41), (160, 38)] 160 j = false → inW W_nx 160 j = false → M2.1 160 j = M.1 160 j := fun j w1 w2 => (fn.i _ _ w2).trans ((fB.i _ _ w1).trans (gA j))
  refine ⟨M2, _, ?_, ⟨x2, Fr.r, fun _ => Fr.r, ⟨r2, fun _ _ _ _ z => z⟩, Or.inl ⟨rfl, ⟨n36, n37, n38, ?_, ?_, ?_, ?_, ?_, nm⟩, ⟨mu, ut, ?_, ?_, by omega⟩, Int.le_refl _, by show (0 : Int) < m; omega⟩, ?_, ?_⟩, ⟨?_, ?_, ?_, ?_⟩, fC, (pA.fr fB (by decide)).fr fn (by decide)⟩
  · rw [r231]; unfold b231; rw [aR_e, aZ_e]; unfold c231
    have k0 := hX.1
    refine (gtI_q (rk_160 k0) h2).trans ?_
    refine (if_neg (eqI_n rfl li_8 (by omega))).trans ?_
    refine (gtI_q (rk_160 k0) h2).trans ?_
    refine (gtP_q (w := some 162) (rk_160 k0) (rf_3 k0)).trans ?_
    refine (asI_q (u := 100) (n := 8) (z := p) (y := 0) (rk_162 k0) rfl (by omega) li_0).trans ?_
    refine (gtP_q (w := some 169) (rk_160 x4.1) (rf_10 x4.1)).trans ?_
    refine (asI_q (u := 100) (n := 8) (z := p) (y := 0) (rk_169 x4.1) rfl (by omega) li_0).trans ?_
    refine (gtP_q (w := some 176) (rk_160 x6.1) (rf_17 x6.1)).trans ?_
    refine (asI_q (u := 100) (n := 8) (z := p) (y := 0) (rk_176 x6.1) rfl (by omega) li_0).trans ?_
    refine (gtP_q (w := some 184) (rk_160 x8.1) (rf_25 x8.1)).trans ?_
    refine (asI_q (u := 100) (n := 8) (z := p) (y := 0) (rk_184 x8.1) rfl (by omega) li_0).trans ?_
    rw [← hMa]
    have kA := rk_160 xa.1
    have k1 : (sI Ma 160 43 (iI 0)).2.2.2[160]? = _ := kA
    have k3 : (sI (sI Ma 160 43 (iI 0)) 160 53 (iI 0)).2.2.2[160]? = _ := kA
    have k4 : (sI (sI (sI Ma 160 43 (iI 0)) 160 53 (iI 0)) 160 41 (iI 0)).2.2.2[160]? = _ := kA
    refine (ptI_q (z := 0) kA li_0).trans ?_
    refine (ptI_q (z := 0) k1 li_0).trans ?_
    refine (ptI_q (z := 0) k3 li_0).trans ?_
    refine (ptI_q (z := 0) k4 li_0).trans ?_
    rw [← hMb]
    refine (vC_e (rk_160 xb.1)).trans ?_
    refine (cV_e e2).trans ?_
    exact jn_v
  · exact (fn.i _ _ (by decide)).trans (by rw [hMb]; exact (sI_nej (by decide)).trans sI_eq)
  · exact (fn.i _ _ (by decide)).trans (by rw [hMb]; exact (sI_nej (by decide)).trans ((sI_nej (by decide)).trans ((sI_nej (by decide)).trans sI_eq)))
  · exact (gB 51 (by decide) (by decide)).trans h51
  · exact (fn.i _ _ (by decide)).trans (by rw [hMb]; exact (sI_nej (by decide)).trans ((sI_nej (by decide)).trans sI_eq))
  · exact (gB 50 (by decide) (by decide)).trans h50
  · exact (gB 48 (by decide) (by decide)).trans h48
  · exact (gB 49 (by decide) (by decide)).trans h49
  · exact (gB 49 (by decide) (by decide)).trans h49
  · exact (gB 64 (by decide) (by decide)).trans h64
  · exact (rsF_n (by omega)).trans ((rsF_n (by omega)).trans ((rsF_n (by omega)).trans rsF_p))
  · exact (rsF_n (by omega)).trans ((rsF_n (by omega)).trans rsF_p)
  · exact (rsF_n (by omega)).trans rsF_p
  · exact rsF_p
end S77
