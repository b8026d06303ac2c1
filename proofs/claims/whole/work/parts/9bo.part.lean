/-! both machines: the life of a CASE -/
/-- both, between lives -/
def zPL (LL : Nat) (xs : Nat → Int32) (e : ZS) (κ : ZK) (R : Int → RG) (L : Int → Int) (s : ZS) (Mc Mr : Mem) : Prop := zPs e s ∧ (CT Mc ∧ zCH e κ s Mc ∧ zCE e κ Mc ∧ OldOK LL xs Mc) ∧ (zRH e s Mr ∧ zRE e R L Mr) ∧ Mc.1 88 2 = Mr.1 160 78 ∧ Mr.1 160 77 = iI (e.1 20 0 0) ∧ (e.1 10 2 0 = 1 → Mc.1 143 6 = iI 0 ∧ 0 ≤ s.1 14 0 0)
/-- a life: from s to s', what is told of it -/
def zLf (e : ZS) (K : Nat → Int) (F : Nat → Int → Int) (s : ZS) (V : Int) (Fa Wh : Int32) (s' : ZS) : Prop := ∃ sd Fb Wb ob sb, zBf e F (K 1).toNat 0 s sd Fb Wb ob sb ∧ ∃ V1 F1 W1 o1 s1, ((sd = 0 ∧ s1 = sb ∧ o1 = ob ∧ V1 = 3 ∧ F1 = Fb ∧ W1 = Wb) ∨ (sd = 1 ∧ ∃ u, zEx e (zw sb 0 0 0 (iI (K 3))) (K 6) 1 u ∧ u.1 1 0 0 ≠ 6 ∧ s1 = znb u ∧ o1 = zov u ∧ zJu (K 4) u V1 F1 W1)) ∧ zAf e F (K 2).toNat s1 o1 V1 F1 W1 V Fa Wh s'
section S9bo
variable {d dl : Nat} {e s s' t u : ZS} {κ : ZK} {M M' M1 M2 Mc Mr Mc' Mr' : Mem} {a b j N x y LL cp : Nat} {xs : Nat → Int32} {v v1 v2 v3 w : Int32} {c k i n m p o q id par en B D r rc rr V sd : Int} {R : Int → RG} {G : RG} {L : Int → Int} {Y : Nat → Int → Int} {K : Nat → Int} {F : Nat → Int → Int} {Fa Wh : Int32}
/-- what comes of a life, for both -/
def zLO (LL : Nat) (xs : Nat → Int32) (e : ZS) (κ : ZK) (R : Int → RG) (L : Int → Int) (s : ZS) (K : Nat → Int) (F : Nat → Int → Int) (sd : Int32) (Mr Mc' Mr' : Mem) : Prop := (∃ s' V Fa Wh, zPr LL xs e κ R L s' Mc' Mr' ∧ zLv V Fa Wh Mc' Mr' ∧ Mr'.1 160 84 = Mr.1 160 84 ∧ ((K 5 = 0 ∧ zLf e K F (zrs e s sd) V Fa Wh s') ∨ (K 5 = 1 ∧ s' = zrs e s sd ∧ V = 5 ∧ Fa = 0 ∧ Wh = -2))) ∨ (K 5 = 0 ∧ zSp LL xs e κ R L (zrs e s sd) Mc' Mr')
theorem life_pair (hdl : 12 ≤ dl) (hd : 63 ≤ d) (hV : zEv e) (hb : zKb e K F) (hp : zPL LL xs e κ R L s Mc Mr) (hc : zKc κ cp K F Mc) (hr : zKr e K F Mr) (hv : v = iI (K 7)) : ∃ Mc' Mr', runX dl 25 [va_rf (some 88), va_rf (some cp)] Mc = some (.null, Mc') ∧ runX d 254 [va_rf (some 160), .int v] Mr = some (.null, Mr') ∧ zFl κ Mc Mc' ∧ zRl e Mr Mr' ∧ zLO LL xs e κ R L s K F (Mc.1 88 2) Mr Mc' Mr' := by
  obtain ⟨dl, rfl⟩ : ∃ e, dl = e + 1 := ⟨dl - 1, by omega⟩
  obtain ⟨d, rfl⟩ : ∃ e, d = e + 1 := ⟨d - 1, by omega⟩
  subst hv
  have hb' := hb
  obtain ⟨b1, b2, b3, b4, b5, b6, b7, b8⟩ := hb'
  obtain ⟨hS, ⟨hC, hG, hE, hO⟩, ⟨hRG, hRE⟩, hsd, h77, hlu⟩ := hp
  have hk := hE.2.2.2.2.1.k8
  have hR := hRG.1
  have kr := rk_160 hR
  have a0 := hRE.1 0 (Or.inl rfl)
  have P0 := a0.1
  have h25 := a0.2.2.2.2.1
  have e66 : Mr.1 160 66 = iI (e.1 29 0 0) := a0.2.1
  obtain ⟨-, -, -, -, z5⟩ := hE.2.2.1.1 0 (Or.inl rfl)
  obtain ⟨⟨u1, u2⟩, -⟩ := z5 (K 0) b2.1 b2.2
  rw [show 8 * (0 : Int) + K 0 = K 0 by omega] at u1 u2
  -- the class begins
  obtain ⟨Mc1, x1, x2, x3, x4, x5, x6, x7⟩ := zc24 (d := dl) (M := Mc) (sd := Mc.1 88 2) (by omega) hC hG hk hS.1.2 rfl hlu
  have E1 : zCE e κ Mc1 := hE.fo x2
  have O1 : OldOK LL xs Mc1 := hO.zfo x2 hk
  obtain ⟨Mc2, y1, y2⟩ := zc48 (d := dl) (M := Mc1) (v1 := 5) (v2 := 0) (v3 := -2) (by omega) x3
  obtain ⟨fc, oc⟩ := zFl_48 (κ := κ) y2
  have f02 : zFl κ Mc Mc2 := x2.l.tr fc
  have hc2 := hc.fl f02 u1
  obtain ⟨⟨k1, k2⟩, ⟨p1, p4, p5, p6, p7⟩, -⟩ := hc2
  -- the reference begins
  obtain ⟨Mra, hMra⟩ : ∃ X, X = sI (sI (sI Mr 160 101 (iI 1)) 160 102 (iI 0)) 160 103 (iI (-2)) := ⟨_, rfl⟩
  have oa : ∀ a j, ¬ (a = 160 ∧ (j = 101 ∨ j = 102 ∨ j = 103)) → Mra.1 a j = Mr.1 a j := fun a j z => (zRl_253 (e := e) (M := Mr) (M' := Mra) (v := iI 1) (v1 := iI 0) (v2 := iI (-2)) hMra).2 a j z
  have fa : zRl e Mr Mra := (zRl_253 (e := e) (M := Mr) (M' := Mra) (v := iI 1) (v1 := iI 0) (v2 := iI (-2)) hMra).1
  have Ga : zRH e s Mra := hRG.sub fa.1 oa
  have ka : Mra.2.2.2[160]? = some (13, 157) := rk_160 Ga.1
  obtain ⟨Mrb, w1, w2, w3, w4, w5, w6, w7⟩ := zr251 (d := d) (e := e) (s := s) (M := Mra) (sd := Mc.1 88 2) (by omega) Ga ((oa _ _ (by omega)).trans hsd.symm) ((oa _ _ (by omega)).trans h77) (fun z => (hlu z).2)
  have frb : zRl e Mr Mrb := fa.tr w2.l
  have hrb := hr.rl frb
  have REb : zRE e R L Mrb := hRE.rl frb
  have kb := rk_160 w3.1
  have q5 := hrb.1.2.2.2.1
  have n101 : Mrb.1 160 101 = iI 1 := by rw [w7 _ _ (by decide) (by decide), hMra]; exact (sI_nej (by decide)).trans ((sI_nej (by decide)).trans sI_eq)
  have n102 : Mrb.1 160 102 = iI 0 := by rw [w7 _ _ (by decide) (by decide), hMra]; exact (sI_nej (by decide)).trans sI_eq
  have n103 : Mrb.1 160 103 = iI (-2) := by rw [w7 _ _ (by decide) (by decide), hMra]; exact sI_eq
  have n84 : Mrb.1 160 84 = Mr.1 160 84 := (w7 _ _ (by decide) (by decide)).trans (oa _ _ (by omega))
  have hBt := hS.bt (sd := Mc.1 88 2) hV.2.1
  have G2 : zCG e κ (zrs e s (Mc.1 88 2)) Mc2 := x4.sub hk (fun a j _ z => oc a j z)
  have hp2 : zPr LL xs e κ R L (zrs e s (Mc.1 88 2)) Mc2 Mrb := ⟨hBt, ⟨x3.keep fc.1, G2, E1.fl fc, O1.fl fc hk⟩, w3, REb⟩
  have C2 := hp2.2.1.1
  have k2c := ck_88 C2
  have q0 : Mr.1 178 (16 * e.1 29 0 0 + K 7).toNat = iI (K 0) := hr.1.1
  have i16 : (16 : Int32) * iI (e.1 29 0 0) + iI (K 7) = iI (16 * e.1 29 0 0 + K 7) := adI (mlI (x := 16) rfl rfl) rfl
  have i8 : (8 : Int32) * iI (e.1 29 0 0) + iI (K 0) = iI (8 * e.1 29 0 0 + K 0) := adI (mlI (x := 8) rfl rfl) rfl
  -- the heads
  have headc : ∀ X : XA, (gtI (8, 9) Mc2 (some cp) 7 fun x4 => jn (fun (s5 : Mem) => some (.null, s5)) fun j50 => if x4 = 0 then ( gtP (4, 22) Mc2 (some 88) 8 fun x6 => alP 111 Mc2 x6 ((0 : Int32)) fun x7 => if x7 = none then ( j50 Mc2) else ( gtI (8, 9) Mc2 (some cp) 1 fun x8 => gtP (4, 22) Mc2 (some 88) 8 fun x9 => alP 111 Mc2 x9 ((0 : Int32)) fun x10 => gtP (6, 18) Mc2 x10 1 fun x11 => vC (0, 3) Mc2 x11 <| cI (runX dl 346 [va_rf x11] Mc2) fun x13 M12 => if x8 < x13 then ( gtP (4, 22) M12 (some 88) 8 fun x14 => alP 111 M12 x14 ((0 : Int32)) fun x15 => gtP (6, 18) M12 x15 1 fun x16 => gtI (8, 9) M12 (some cp) 1 fun x17 => vC (0, 3) M12 x16 <| cP (runX dl 348 [va_rf x16, .int x17] M12) fun x19 M18 => cst (11, 10) M18 x19 <| jn (fun (s20 : Int32 × Mem) => jn (fun (s21 : Mem) => gtI (11, 10) s21 x19 9 fun x22 => lt (x22 - ((1 : Int32))) fun (x23 : Int32) => jn (fun (s24 : Mem) => some (.null, s24)) fun j225 => lp (c25_163 (runX dl) (some 88) j225 x19) 4294967296 (x23, s21)) fun j155 => if s20.1 = 0 then ( gtP (4, 22) s20.2 (some 88) 0 fun x39 => gtI (4, 22) s20.2 (some 88) 20 fun x40 => gtI (4, 22) s20.2 (some 88) 21 fun x41 => vC (5, 5) s20.2 x39 <| cV (runX dl 48 [va_rf x39, .int ((3 : Int32)), .int x40, .int x41] s20.2) fun M42 => j155 M42) else ( gtP (4, 22) s20.2 (some 88) 11 fun x43 => gtI (8, 9) s20.2 (some cp) 4 fun x44 => asI 100 s20.2 x43 ((0 : Int32)) x44 fun M45 => gtI (8, 9) M45 (some cp) 5 fun x46 => vC (4, 22) M45 (some 88) <| cI (runX dl 28 [va_rf (some 88), .int x46] M45) fun x48 M47 => vC (4, 22) M47 (some 88) <| cV (runX dl 26 [va_rf (some 88), va_rf (some cp), .int x48] M47) fun M49 => j155 M49)) fun j107 => lp (c25_76 (runX dl) (some 88) j107 x19) 4294967296 ((1 : Int32), (0 : Int32), M18)) else ( j50 M12))) else ( j50 Mc2) : XA) = X → runX (dl + 1) 25 [va_rf (some 88), va_rf (some cp)] Mc = X := fun X hX => by
    rw [r25]; unfold b25; rw [aR_e, aR_e, aZ_e]; unfold c25
    rw [vC_e (ck_88 hC), cV_e x1, gtP_q (ck_88 x3) (cf_88_0 x3), vC_e (ck_89 x3), cV_e y1]
    exact hX
  have hheadr : ∀ X : XA, (gtP (13, 157) Mrb (some 160) 22 fun x11 => alX 102 Mrb x11 (iI (16 * e.1 29 0 0 + K 7)) fun x12 => if x12 = 0 then ( jn (fun (s13 : Mem) => gtI (13, 157) s13 (some 160) 101 fun x14 => jn (fun (s15 : Mem) => gtP (13, 157) s15 (some 160) 8 fun x16 => alI 100 s15 x16 (iI (8 * e.1 29 0 0 + K 0)) fun x17 => lt (x17 - ((1 : Int32))) fun (x18 : Int32) => jn (fun (s19 : Mem) => some (.null, s19)) fun j277 => lp (c254_222 (runX d) (some 160) j277 (iI (8 * e.1 29 0 0 + K 0))) 4294967296 (x18, s15)) fun j212 => if x14 = ((1 : Int32)) then ( ptI (13, 157) s13 (some 160) 73 ((0 : Int32)) fun M31 => gtP (13, 157) M31 (some 160) 20 fun x32 => alI 100 M31 x32 (iI (16 * e.1 29 0 0 + K 7)) fun x33 => vC (13, 157) M31 (some 160) <| cV (runX d 241 [va_rf (some 160), .int x33] M31) fun M34 => gtP (13, 157) M34 (some 160) 23 fun x35 => alI 100 M34 x35 (iI (16 * e.1 29 0 0 + K 7)) fun x36 => vC (13, 157) M34 (some 160) <| cI (runX d 252 [va_rf (some 160), .int x36, .int ((1 : Int32))] M34) fun x38 M37 => jn (fun (s39 : Unit) => if x38 = 0 then ( gtP (13, 157) M37 (some 160) 21 fun x40 => alI 100 M37 x40 (iI (16 * e.1 29 0 0 + K 7)) fun x41 => if x41 ≤ 0 then ( j212 M37) else ( ptI (13, 157) M37 (some 160) 101 ((2 : Int32)) fun M42 => ptI (13, 157) M42 (some 160) 102 ((4 : Int32)) fun M43 => j212 M43)) else ( j212 M37)) fun j188 => if x38 = 0 then ( j188 ()) else ( gtP (13, 157) M37 (some 160) 21 fun x44 => alI 100 M37 x44 (iI (16 * e.1 29 0 0 + K 7)) fun x45 => jn (fun (s46 : Unit) => vC (13, 157) M37 (some 160) <| cV (runX d 253 [va_rf (some 160), .int ((2 : Int32))] M37) fun M47 => j212 M47) fun j180 => if x45 = 0 then ( j180 ()) else ( gtP (13, 157) M37 (some 160) 21 fun x48 => alI 100 M37 x48 (iI (16 * e.1 29 0 0 + K 7)) fun x49 => gtI (13, 157) M37 (some 160) 88 fun x50 => if x49 = x50 then ( j188 ()) else ( j180 ())))) else ( j212 s13)) fun j117 => lp (c254_63 (runX d) (some 160) j117 (iI (8 * e.1 29 0 0 + K 0))) 4294967296 ((0 : Int32), Mrb)) else ( ptI (13, 157) Mrb (some 160) 101 ((5 : Int32)) fun M63 => some (.null, M63)) : XA) = X → runX (d + 1) 254 [va_rf (some 160), .int (iI (K 7))] Mr = X := fun X hX => by
    rw [r254]; unfold b254; rw [aR_e, aI_e, aZ_e]; unfold c254
    rw [gtI_q kr e66, i16, lt_e, gtI_q kr e66, gtP_q kr (rf_19 hR), alI_q (n := 128) (z := 16 * e.1 29 0 0 + K 7) (rk_178 hR) rfl (by omega) q0, i8, lt_e, ptI_q (z := 1) kr li_1, ptI_q (M := sI Mr 160 101 (iI 1)) (z := 0) kr li_0, ptI_q (M := sI (sI Mr 160 101 (iI 1)) 160 102 (iI 0)) (z := -2) kr (by decide), ← hMra, vC_e ka, cV_e w1]
    exact hX
  rcases b5 with sk | sk
  · -- it is done
    obtain ⟨⟨c1, c2, c3, c4, c5⟩, -⟩ := E1.1.2.2 0 (Or.inl rfl)
    have p91 : Mc2.2.2.1 91 0 = some (κ 0 0) := by rw [congrArg (fun z => z.2.1) fc.1]; exact c1
    have k0 : Mc2.2.2.2[κ 0 0]? = some (6, 18) := by rw [congrArg (fun z => z.2.2) fc.1]; exact c2
    obtain ⟨l1, l2, l3, ⟨ow, l4⟩, -⟩ := hp2.2.1.2.2.1.2.2.1.1 0 (Or.inl rfl)
    have l4' : Ls Mc2 ow (κ 5 0) (fun j => κ 7 j) (e.1 25 0 0) 1 := by
      have : (fun j : Int => κ 7 (8 * 0 + j)) = fun j => κ 7 j := by funext j; congr 1; omega
      rw [← this]; exact l4
    have kls : Mc2.2.2.2[κ 5 0]? = some (0, 3) := l4.1.2.1
    have ku : Mc2.2.2.2[κ 7 (K 0)]? = some (11, 10) := by rw [congrArg (fun z => z.2.2) f02.1]; exact u2
    -- the befores
    obtain ⟨Mc3, Mr3, sd, g1, g2, g3, g4, g5⟩ := bef_pair (LL := LL) (xs := xs) (R := R) (L := L) (cp := cp) (J := jv fun (s20 : Int32 × Mem) => jn (fun (s21 : Mem) => gtI (11, 10) s21 (some (κ 7 (K 0))) 9 fun x22 => lt (x22 - ((1 : Int32))) fun (x23 : Int32) => jn (fun (s24 : Mem) => some (.null, s24)) fun j225 => lp (c25_163 (runX dl) (some 88) j225 (some (κ 7 (K 0)))) 4294967296 (x23, s21)) fun j155 => if s20.1 = 0 then ( gtP (4, 22) s20.2 (some 88) 0 fun x39 => gtI (4, 22) s20.2 (some 88) 20 fun x40 => gtI (4, 22) s20.2 (some 88) 21 fun x41 => vC (5, 5) s20.2 x39 <| cV (runX dl 48 [va_rf x39, .int ((3 : Int32)), .int x40, .int x41] s20.2) fun M42 => j155 M42) else ( gtP (4, 22) s20.2 (some 88) 11 fun x43 => gtI (8, 9) s20.2 (some cp) 4 fun x44 => asI 100 s20.2 x43 ((0 : Int32)) x44 fun M45 => gtI (8, 9) M45 (some cp) 5 fun x46 => vC (4, 22) M45 (some 88) <| cI (runX dl 28 [va_rf (some 88), .int x46] M45) fun x48 M47 => vC (4, 22) M47 (some 88) <| cV (runX dl 26 [va_rf (some 88), va_rf (some cp), .int x48] M47) fun M49 => j155 M49)) (J' := jv fun (s13 : Mem) => gtI (13, 157) s13 (some 160) 101 fun x14 => jn (fun (s15 : Mem) => gtP (13, 157) s15 (some 160) 8 fun x16 => alI 100 s15 x16 (iI (8 * e.1 29 0 0 + K 0)) fun x17 => lt (x17 - ((1 : Int32))) fun (x18 : Int32) => jn (fun (s19 : Mem) => some (.null, s19)) fun j277 => lp (c254_222 (runX d) (some 160) j277 (iI (8 * e.1 29 0 0 + K 0))) 4294967296 (x18, s15)) fun j212 => if x14 = ((1 : Int32)) then ( ptI (13, 157) s13 (some 160) 73 ((0 : Int32)) fun M31 => gtP (13, 157) M31 (some 160) 20 fun x32 => alI 100 M31 x32 (iI (16 * e.1 29 0 0 + K 7)) fun x33 => vC (13, 157) M31 (some 160) <| cV (runX d 241 [va_rf (some 160), .int x33] M31) fun M34 => gtP (13, 157) M34 (some 160) 23 fun x35 => alI 100 M34 x35 (iI (16 * e.1 29 0 0 + K 7)) fun x36 => vC (13, 157) M34 (some 160) <| cI (runX d 252 [va_rf (some 160), .int x36, .int ((1 : Int32))] M34) fun x38 M37 => jn (fun (s39 : Unit) => if x38 = 0 then ( gtP (13, 157) M37 (some 160) 21 fun x40 => alI 100 M37 x40 (iI (16 * e.1 29 0 0 + K 7)) fun x41 => if x41 ≤ 0 then ( j212 M37) else ( ptI (13, 157) M37 (some 160) 101 ((2 : Int32)) fun M42 => ptI (13, 157) M42 (some 160) 102 ((4 : Int32)) fun M43 => j212 M43)) else ( j212 M37)) fun j188 => if x38 = 0 then ( j188 ()) else ( gtP (13, 157) M37 (some 160) 21 fun x44 => alI 100 M37 x44 (iI (16 * e.1 29 0 0 + K 7)) fun x45 => jn (fun (s46 : Unit) => vC (13, 157) M37 (some 160) <| cV (runX d 253 [va_rf (some 160), .int ((2 : Int32))] M37) fun M47 => j212 M47) fun j180 => if x45 = 0 then ( j180 ()) else ( gtP (13, 157) M37 (some 160) 21 fun x48 => alI 100 M37 x48 (iI (16 * e.1 29 0 0 + K 7)) fun x49 => gtI (13, 157) M37 (some 160) 88 fun x50 => if x49 = x50 then ( j188 ()) else ( j180 ())))) else ( j212 s13)) (dl := dl) (d := d) (by omega) (by omega) hV hb rfl (K 1).toNat 0 (zrs e s (Mc.1 88 2)) Mc2 Mrb 4294967296 4294967296 (by omega) (by omega) (by omega) (by omega) hp2 (hc.fl f02 u1) hrb w4 n101
    have f03 := f02.tr g3
    have fr3 := frb.tr g4
    have hc3 := hc.fl f03 u1
    have hr3 := hr.rl fr3
    -- the afters, from here
    have tail : ∀ (M3 M4 : Mem) (s1 : ZS) (o1 V1 : Int) (F1 W1 : Int32), zFl κ Mc M3 → zRl e Mr M4 → ((zPr LL xs e κ R L s1 M3 M4 ∧ zFg o1 M3 M4 ∧ zLv V1 F1 W1 M3 M4 ∧ M4.1 160 84 = Mr.1 160 84 ∧ zFx e (zrs e s (Mc.1 88 2)) s1 ∧ ∀ V Fa Wh s', zAf e F (K 2).toNat s1 o1 V1 F1 W1 V Fa Wh s' → zLf e K F (zrs e s (Mc.1 88 2)) V Fa Wh s') ∨ zSp LL xs e κ R L (zrs e s (Mc.1 88 2)) M3 M4) → ∃ Mc' Mr', (jv (fun (s21 : Mem) => gtI (11, 10) s21 (some (κ 7 (K 0))) 9 fun x22 => lt (x22 - ((1 : Int32))) fun (x23 : Int32) => jn (fun (s24 : Mem) => some (.null, s24)) fun j225 => lp (c25_163 (runX dl) (some 88) j225 (some (κ 7 (K 0)))) 4294967296 (x23, s21)) M3 : XA) = some (.null, Mc') ∧ (jv (fun (s15 : Mem) => gtP (13, 157) s15 (some 160) 8 fun x16 => alI 100 s15 x16 (iI (8 * e.1 29 0 0 + K 0)) fun x17 => lt (x17 - ((1 : Int32))) fun (x18 : Int32) => jn (fun (s19 : Mem) => some (.null, s19)) fun j277 => lp (c254_222 (runX d) (some 160) j277 (iI (8 * e.1 29 0 0 + K 0))) 4294967296 (x18, s15)) M4 : XA) = some (.null, Mr') ∧ zFl κ Mc Mc' ∧ zRl e Mr Mr' ∧ zLO LL xs e κ R L s K F (Mc.1 88 2) Mr Mc' Mr' := fun M3 M4 s1 o1 V1 F1 W1 h1 h2 h3 => by
      have hc4 := hc.fl h1 u1
      have hr4 := hr.rl h2
      have R4 : RT M4 := hR.keep h2.1
      obtain ⟨-, -, ub, ua, -, -, d1, -, -⟩ := hc4
      have ku4 : M3.2.2.2[κ 7 (K 0)]? = some (11, 10) := by rw [congrArg (fun z => z.2.2) h1.1]; exact u2
      have iK : iI (K 2) - (1 : Int32) = iI (K 2 - 1) := sbI rfl li_1
      rcases h3 with h3 | h3
      · obtain ⟨Mc', Mr', y1, y2, y3, y4, y5⟩ := aft_pair (LL := LL) (xs := xs) (R := R) (L := L) (cp := cp) (J := jv fun (s24 : Mem) => some (.null, s24)) (J' := jv fun (s19 : Mem) => some (.null, s19)) (dl := dl) (d := d) (by omega) (by omega) hV hb rfl (K 2).toNat (K 2 - 1) s1 M3 M4 4294967296 4294967296 V1 F1 W1 o1 (by omega) (by omega) (by omega) (by omega) (Or.inl ⟨h3.1, h3.2.1, h3.2.2.1⟩) (hc.fl h1 u1) hr4
        refine ⟨Mc', Mr', ?_, ?_, h1.tr y3, h2.tr y4, ?_⟩
        · rw [jv_e, gtI_q ku4 d1.2, iK, lt_e, jn_v]
          exact y1
        · rw [jv_e, gtP_q (rk_160 R4) (rf_8 R4), alI_q (n := 64) (z := 8 * e.1 29 0 0 + K 0) (rk_167 R4) rfl (by omega) hr4.2.1.2, iK, lt_e, jn_v]
          exact y2
        · rcases y5 with ⟨s', V', Fa', Wh', v1, v2, v3, v4⟩ | y5
          · exact Or.inl ⟨s', V', Fa', Wh', v1, v3, v4.trans h3.2.2.2.1, Or.inl ⟨sk, h3.2.2.2.2.2 _ _ _ _ v2⟩⟩
          · exact Or.inr ⟨sk, y5.fx h3.2.2.2.2.1⟩
      · refine ⟨M3, M4, ?_, ?_, h1, h2, Or.inr ⟨sk, h3⟩⟩
        · rw [jv_e, gtI_q ku4 d1.2, iK, lt_e, jn_v]
          exact aft_x h3.1 h3.2.2.2.1 (by omega) (by omega)
        · rw [jv_e, gtP_q (rk_160 R4) (rf_8 R4), alI_q (n := 64) (z := 8 * e.1 29 0 0 + K 0) (rk_167 R4) rfl (by omega) hr4.2.1.2, iK, lt_e, jn_v]
          exact aft_y h3.2.2.2.2.2.1 h3.2.2.2.2.2.2.1 (by omega) (by omega)
    have C3 : CT Mc3 := C2.keep g3.1
    have R3 : RT Mr3 := w3.1.keep g4.1
    have q181 : Mrb.1 181 (16 * e.1 29 0 0 + K 7).toNat = iI (K 5) := q5
    have HC : ∀ X : XA, _ = X → runX (dl + 1) 25 [va_rf (some 88), va_rf (some cp)] Mc = X := fun X hX => headc X (by
      rw [gtI_q k1 p7, jn_v, if_pos (show iI (K 5) = 0 from eqI_p rfl li_0 sk), gtP_q k2c (cf_88_8 C2), show (0 : Int32) = iI 0 from li_0, alP_e (ck_91 C2) (by omega) (by omega) (by omega), show (0 : Int).toNat = 0 from rfl, p91, if_neg (by simp), gtI_q k1 p1, gtP_q k2c (cf_88_8 C2), alP_e (ck_91 C2) (by omega) (by omega) (by omega), show (0 : Int).toNat = 0 from rfl, p91, gtP_q k0 l2, vC_e kls, cI_e (ls_size (by omega) l4'), if_pos (lsI_p rfl rfl (by omega)), gtP_q k2c (cf_88_8 C2), alP_e (ck_91 C2) (by omega) (by omega) (by omega), show (0 : Int).toNat = 0 from rfl, p91, gtP_q k0 l2, gtI_q k1 p1, vC_e kls, cP_e (ls_get (by omega) l4' rfl ⟨b2.1, b2.2⟩), cst_e ku, jn_v, show (1 : Int32) = iI 1 from li_1]
      exact g1.trans hX)
    have HR : ∀ X : XA, _ = X → runX (d + 1) 254 [va_rf (some 160), .int (iI (K 7))] Mr = X := fun X hX => hheadr X (by
      rw [gtP_q kb (rf_22 w3.1), alX_q (n := 128) (z := 16 * e.1 29 0 0 + K 7) (rk_181 w3.1) rfl (by omega) q181, if_pos (show iI (K 5) = 0 from eqI_p rfl li_0 sk), jn_v, show (0 : Int32) = iI 0 from li_0]
      exact g2.trans hX)
    rcases g5 with ⟨s3, F3, W3, o3, v1, v2, v3, ⟨t1, t2, t3, t4, t5⟩ | ⟨t1, t2, t3, t4, t5⟩⟩ | ⟨t1, t2, t3⟩
    · -- the test
      subst t1
      obtain ⟨Mc4, Mr4, y1, y2, y3, y4, y5⟩ := test_both (LL := LL) (xs := xs) (R := R) (L := L) (cp := cp) (dl := dl) (d := d) (J := jv fun (s21 : Mem) => gtI (11, 10) s21 (some (κ 7 (K 0))) 9 fun x22 => lt (x22 - ((1 : Int32))) fun (x23 : Int32) => jn (fun (s24 : Mem) => some (.null, s24)) fun j225 => lp (c25_163 (runX dl) (some 88) j225 (some (κ 7 (K 0)))) 4294967296 (x23, s21)) (J' := jv fun (s15 : Mem) => gtP (13, 157) s15 (some 160) 8 fun x16 => alI 100 s15 x16 (iI (8 * e.1 29 0 0 + K 0)) fun x17 => lt (x17 - ((1 : Int32))) fun (x18 : Int32) => jn (fun (s19 : Mem) => some (.null, s19)) fun j277 => lp (c254_222 (runX d) (some 160) j277 (iI (8 * e.1 29 0 0 + K 0))) 4294967296 (x18, s15)) (by omega) (by omega) hV hb rfl v1 hc3 hr3 t2 ⟨t3, t4.trans (n102.trans li_0.symm), t5.trans (n103.trans (by decide))⟩
      rcases y5 with ⟨u, V, Fa, Wh, r1, r2, r3, r4, r5, r6, r7⟩ | y5
      · obtain ⟨Mc', Mr', z1, z2, z3, z4, z5⟩ := tail Mc4 Mr4 (znb u) (zov u) V Fa Wh (f03.tr y3) (fr3.tr y4) (Or.inl ⟨r4, r5, r6, r7.trans (v3.trans n84), v2.fx.tr (zFx.tr (t := zw s3 0 0 0 (iI (K 3))) (zFx.eq rfl rfl rfl rfl ⟨rfl, rfl⟩) r1.fx), fun V' Fa' Wh' s' hA => ⟨1, F3, W3, o3, s3, v2, V, Fa, Wh, zov u, znb u, Or.inr ⟨rfl, u, r1, r2, rfl, rfl, r3⟩, hA⟩⟩)
        refine ⟨Mc', Mr', HC _ ?_, HR _ ?_, z3, z4, z5⟩
        · rw [jv_e, jn_v]
          refine (if_neg (show ¬ iI 1 = 0 by decide)).trans (y1.trans z1)
        · rw [jv_e, gtI_q (rk_160 R3) t3, jn_v]
          refine (if_pos (show iI 1 = 1 from li_1.symm)).trans (y2.trans z2)
      · obtain ⟨Mc', Mr', z1, z2, z3, z4, z5⟩ := tail Mc4 Mr4 s 0 0 0 0 (f03.tr y3) (fr3.tr y4) (Or.inr (y5.fx v2.fx))
        refine ⟨Mc', Mr', HC _ ?_, HR _ ?_, z3, z4, z5⟩
        · rw [jv_e, jn_v]
          refine (if_neg (show ¬ iI 1 = 0 by decide)).trans (y1.trans z1)
        · rw [jv_e, gtI_q (rk_160 R3) t3, jn_v]
          refine (if_pos (show iI 1 = 1 from li_1.symm)).trans (y2.trans z2)
    · -- a before failed
      subst t1
      obtain ⟨Mc4, y1, y2⟩ := zc48 (d := dl) (M := Mc3) (v1 := 3) (v2 := Mc3.1 88 20) (v3 := Mc3.1 88 21) (by omega) C3
      obtain ⟨fd, od⟩ := zFl_48 (κ := κ) y2
      obtain ⟨Mc', Mr', z1, z2, z3, z4, z5⟩ := tail Mc4 Mr3 s3 o3 3 F3 W3 (f03.tr fd) fr3 (Or.inl ⟨v1.mc fd (fun a j _ z => od a j z), by unfold zFg; rw [od _ _ (by omega)]; exact t2, ⟨⟨by rw [y2]; exact (sI_nej (by decide)).trans ((sI_nej (by decide)).trans (sI_eq.trans li_3)), by rw [y2]; exact ((sI_nej (by decide)).trans sI_eq).trans t4.2, by rw [y2]; exact sI_eq.trans t5.2⟩, ⟨t3, t4.1, t5.1⟩, by omega⟩, v3.trans n84, v2.fx, fun V' Fa' Wh' s' hA => ⟨0, F3, W3, o3, s3, v2, 3, F3, W3, o3, s3, Or.inl ⟨rfl, rfl, rfl, rfl, rfl, rfl⟩, hA⟩⟩)
      refine ⟨Mc', Mr', HC _ ?_, HR _ ?_, z3, z4, z5⟩
      · rw [jv_e, jn_v]
        refine (if_pos (show iI 0 = 0 from rfl)).trans ?_
        rw [gtP_q (ck_88 C3) (cf_88_0 C3), gtI_q (ck_88 C3) rfl, gtI_q (ck_88 C3) rfl, vC_e (ck_89 C3), cV_e y1]
        exact z1
      · rw [jv_e, gtI_q (rk_160 R3) t3, jn_v]
        refine (if_neg (show ¬ iI 3 = 1 by decide)).trans z2
    · -- no WORK is left
      subst t1
      obtain ⟨Mc4, y1, y2⟩ := zc48 (d := dl) (M := Mc3) (v1 := 3) (v2 := Mc3.1 88 20) (v3 := Mc3.1 88 21) (by omega) C3
      obtain ⟨fd, od⟩ := zFl_48 (κ := κ) y2
      obtain ⟨Mc', Mr', z1, z2, z3, z4, z5⟩ := tail Mc4 Mr3 s 0 0 0 0 (f03.tr fd) fr3 (Or.inr (t2.mc fd od))
      refine ⟨Mc', Mr', HC _ ?_, HR _ ?_, z3, z4, z5⟩
      · rw [jv_e, jn_v]
        refine (if_pos (show iI 0 = 0 from rfl)).trans ?_
        rw [gtP_q (ck_88 C3) (cf_88_0 C3), gtI_q (ck_88 C3) rfl, gtI_q (ck_88 C3) rfl, vC_e (ck_89 C3), cV_e y1]
        exact z1
      · rw [jv_e, gtI_q (rk_160 R3) t3, jn_v]
        refine (if_neg (show ¬ iI 3 = 1 by decide)).trans z2
  · -- it is skipped
    refine ⟨Mc2, sI Mrb 160 101 (iI 5), headc _ ?_, hheadr _ ?_, f02, frb.sI (by decide) (by decide), Or.inl ⟨zrs e s (Mc.1 88 2), 5, 0, -2, hp2.mr rfl (fun a j p q => ?_), ⟨⟨?_, ?_, ?_⟩, ⟨?_, ?_, ?_⟩, by omega⟩, ?_, Or.inr ⟨sk, rfl, rfl, rfl, rfl⟩⟩⟩
    · rw [gtI_q k1 p7, jn_v, if_neg (show ¬ iI (K 5) = 0 from eqI_n rfl li_0 (by omega))]; rfl
    · rw [gtP_q kb (rf_22 w3.1), alX_q (n := 128) (z := 16 * e.1 29 0 0 + K 7) (rk_181 w3.1) rfl (by omega) q5, if_neg (show ¬ iI (K 5) = 0 from eqI_n rfl li_0 (by omega)), ptI_q (z := 5) kb li_5]
    · by_cases y : a = 160
      · exact sI_nej (by omega)
      · exact sI_ne y
    · rw [y2]; exact (sI_nej (by decide)).trans ((sI_nej (by decide)).trans (sI_eq.trans li_5))
    · rw [y2]; exact (sI_nej (by decide)).trans sI_eq
    · rw [y2]; exact sI_eq
    · exact sI_eq
    · exact (sI_nej (by decide)).trans (n102.trans li_0.symm)
    · exact (sI_nej (by decide)).trans (n103.trans (by decide))
    · exact (sI_nej (by decide)).trans n84
end S9bo
