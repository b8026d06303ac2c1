/-! the first object's machine: an instruction that uses a member -/
section S99m
variable {d : Nat} {e s s' u : ZS} {κ : ZK} {M M' M1 M2 : Mem} {a b j N x y T : Nat} {v v1 v2 v3 w : Int32} {c t k i n m p o q id fl ar st key par r B h D : Int} {Y : Nat → Int → Int} {DT : Option Nat}
def fc42 (d : Nat) (a1 : Int32) (a3 : Option Nat) (M3 : Mem) : Int32 × Int32 → XA := fun (s4 : Int32 × Int32) =>
 gtP (4, 22) M3 (some 88) 8 fun x5 =>
 alP 111 M3 x5 s4.1 fun x6 =>
 gtP (6, 18) M3 x6 2 fun x7 =>
 cP (runX d 168 [va_rf x7, .int s4.2] M3) fun x9 M8 =>
 jn (fun (s10 : Mem) =>
 some (.null, s10)) fun j102 =>
 if x9 = none then (
 j102 M8) else (
 gtI (8, 9) M8 x9 1 fun x11 =>
 vC (4, 22) M8 (some 88) <|
 cI (runX d 44 [va_rf (some 88), .int s4.1, .int x11] M8) fun x13 M12 =>
 if x13 = 0 then (
 j102 M12) else (
 gtI (8, 9) M12 x9 8 fun x14 =>
 lt ((s4.1 * ((4800 : Int32))) + x14) fun (x15 : Int32) =>
 jn (fun (s16 : Mem) =>
 some (.null, s16)) fun j200 =>
 if a1 = ((7 : Int32)) then (
 vC (4, 22) M12 (some 88) <|
 cV (runX d 46 [va_rf (some 88), .int s4.1, .int s4.2, va_rf x9] M12) fun M17 =>
 j200 M17) else (
 if a1 = ((3 : Int32)) then (
 gtP (4, 22) M12 (some 88) 16 fun x18 =>
 alI 100 M12 x18 x15 fun x19 =>
 vC (4, 22) M12 (some 88) <|
 cV (runX d 32 [va_rf (some 88), .int x19] M12) fun M20 =>
 alI 100 M20 a3 ((0 : Int32)) fun x21 =>
 asI 100 M20 a3 ((0 : Int32)) ((x21 + ((1 : Int32)))) fun M22 =>
 j200 M22) else (
 if a1 = ((4 : Int32)) then (
 gtP (4, 22) M12 (some 88) 16 fun x23 =>
 vC (4, 22) M12 (some 88) <|
 cI (runX d 33 [va_rf (some 88)] M12) fun x25 M24 =>
 asI 100 M24 x23 x15 x25 fun M26 =>
 alI 100 M26 a3 ((0 : Int32)) fun x27 =>
 asI 100 M26 a3 ((0 : Int32)) ((x27 + ((1 : Int32)))) fun M28 =>
 j200 M28) else (
 gtI (8, 9) M12 x9 4 fun x29 =>
 vC (4, 22) M12 (some 88) <|
 cV (runX d 43 [va_rf (some 88), .int a1, .int x15, .int x29] M12) fun M30 =>
 j200 M30)))))
/-- what a use asks of the heights and of what it uses -/
def zUs (e s : ZS) (o id : Int) : Prop := (o = 3 ∧ zh s < 200 ∧ (e.1 4 id 0 = 1 ∨ e.1 4 id 0 = 2)) ∨ (o = 4 ∧ 1 ≤ zh s ∧ (e.1 4 id 0 = 1 ∨ e.1 4 id 0 = 2)) ∨ ((o = 5 ∨ o = 6) ∧ (1 ≤ zh s ∧ (o = 6 → 2 ≤ zh s)) ∧ e.1 4 id 0 = 3 ∧ 1 ≤ e.1 5 id 0 ∧ e.1 5 id 0 ≤ 50) ∨ (o = 7 ∧ e.1 4 id 0 = 4 ∧ e.1 5 id 0 ≤ zh s ∧ zh s - e.1 5 id 0 < 200)
theorem zmem_c (hd : 5 ≤ d) (h : zCM e κ s M) (hE : zCE e κ M) (hm : s.1 1 0 0 = 0) (hl : zLy s) (hi : zId e id) (hq : zSd e q) (hid : id = 96 * q + m) (hmb : 0 ≤ m ∧ m < e.1 24 q 0) (hu : zUs e s o id) (h8 : s.1 8 (e.1 3 id 0) 0 = 1) (hb : ∀ D, 0 ≤ D → D < 8 → 0 ≤ s.1 17 D 0 ∧ s.1 17 D 0 ≤ 100000) (h27 : zop e (zpc s) ≠ 27) (hs : zpc s + 1 < 1000 ↔ zpc s < 1000) (hw' : zWT e (zmem e s o id)) : ∃ M', (gtI (8, 9) M (some (κ 6 id)) 8 fun x14 =>
 lt ((iI q * ((4800 : Int32))) + x14) fun (x15 : Int32) =>
 jn (fun (s16 : Mem) =>
 some (.null, s16)) fun j200 =>
 if iI o = ((7 : Int32)) then (
 vC (4, 22) M (some 88) <|
 cV (runX d 46 [va_rf (some 88), .int (iI q), .int (iI m), va_rf (some (κ 6 id))] M) fun M17 =>
 j200 M17) else (
 if iI o = ((3 : Int32)) then (
 gtP (4, 22) M (some 88) 16 fun x18 =>
 alI 100 M x18 x15 fun x19 =>
 vC (4, 22) M (some 88) <|
 cV (runX d 32 [va_rf (some 88), .int x19] M) fun M20 =>
 alI 100 M20 (some (94 + (zf s).toNat)) ((0 : Int32)) fun x21 =>
 asI 100 M20 (some (94 + (zf s).toNat)) ((0 : Int32)) ((x21 + ((1 : Int32)))) fun M22 =>
 j200 M22) else (
 if iI o = ((4 : Int32)) then (
 gtP (4, 22) M (some 88) 16 fun x23 =>
 vC (4, 22) M (some 88) <|
 cI (runX d 33 [va_rf (some 88)] M) fun x25 M24 =>
 asI 100 M24 x23 x15 x25 fun M26 =>
 alI 100 M26 (some (94 + (zf s).toNat)) ((0 : Int32)) fun x27 =>
 asI 100 M26 (some (94 + (zf s).toNat)) ((0 : Int32)) ((x27 + ((1 : Int32)))) fun M28 =>
 j200 M28) else (
 gtI (8, 9) M (some (κ 6 id)) 4 fun x29 =>
 vC (4, 22) M (some 88) <|
 cV (runX d 43 [va_rf (some 88), .int (iI o), .int x15, .int x29] M) fun M30 =>
 j200 M30))) : XA) = some (.null, M') ∧ zOb e κ (zmem e s o id) M M' := by
  have hk := hE.2.2.2.2.1.k8
  have C := h.1
  have kk := ck_88 C
  have h45 := hl.2.2.2
  obtain ⟨⟨b1, b2⟩, -, -, b5, -, -, b8, -⟩ := hE.2.1.2 id hi
  have q01 : 0 ≤ q ∧ q ≤ 1 := by rcases hq with q0 | ⟨q0, -⟩ <;> omega
  have b24 := (hE.2.1.1 q hq).1
  have bd := zE4.bd hE.2.2.2.1 hi
  have ec : iI q * 4800 + iI (e.1 23 id 0 - (if id < 96 then 0 else 4800)) = iI (e.1 23 id 0) := by
    refine cvI (adI (mlI (y := 4800) rfl rfl) rfl) ?_
    by_cases y0 : id < 96
    · rw [if_pos y0]; omega
    · rw [if_neg y0]; omega
  rw [gtI_q b2 b8, ltI_q ec, jn_v]
  have n7 : ¬ o = 7 → ¬ iI o = (7 : Int32) := fun z => by
    have : 3 ≤ o ∧ o ≤ 7 := by unfold zUs at hu; omega
    exact eqI_n (y := 7) rfl rfl (by omega)
  have n3 : ¬ o = 3 → ¬ iI o = (3 : Int32) := fun z => by
    have : 3 ≤ o ∧ o ≤ 7 := by unfold zUs at hu; omega
    exact eqI_n (y := 3) rfl rfl (by omega)
  have n4 : ¬ o = 4 → ¬ iI o = (4 : Int32) := fun z => by
    have : 3 ≤ o ∧ o ≤ 7 := by unfold zUs at hu; omega
    exact eqI_n (y := 4) rfl rfl (by omega)
  rcases hu with ⟨o3, u1, u2⟩ | ⟨o4, u1, u2⟩ | ⟨o5, u1, u2, u3⟩ | ⟨o7, u1, u2, u3⟩
  · have zl : zlen e id = 1 := by unfold zlen; rw [if_neg (by omega)]
    have z : zmem e s o id = znx (zpush s (s.2 2 id 0)) := if_pos o3
    rw [z] at hw' ⊢
    have rd : M.1 106 (e.1 23 id 0).toNat = s.2 2 id 0 := h.2.1.1 id hi (u2.elim (fun z => Or.inr ⟨z, h8⟩) Or.inl)
    obtain ⟨M2, r2, c2, f2⟩ := zp32 (d := d) (v := s.2 2 id 0) (by omega) h hl hk u1
    obtain ⟨M3, r3, c3, f3⟩ := zpat c2 (hl.push u1) hk hs
    refine ⟨M3, ?_, c3.ob hm hw' (f2.tr f3) hE⟩
    rw [if_neg (n7 (by omega)), if_pos (show iI o = 3 from eqI_p (y := 3) rfl rfl o3), gtP_q kk (cf_88_16 C), alI_q (n := 9600) (z := e.1 23 id 0) (ck_106 C) rfl (by omega) rd, vC_e kk, cV_e r2]
    exact r3 _
  · have zl : zlen e id = 1 := by unfold zlen; rw [if_neg (by omega)]
    have z : zmem e s o id = zw (znx (zdn s 1)) 2 id 0 (ztop s 1) := (if_neg (by omega)).trans (if_pos o4)
    rw [z] at hw' ⊢
    obtain ⟨p1, c1⟩ := zp33 (d := d) (by omega) h hl hk u1
    obtain ⟨M1, hM1⟩ : ∃ z, z = sI M 88 12 (iI (ztp s - 1)) := ⟨_, rfl⟩
    rw [← hM1] at p1 c1
    have f1 : zFo κ M M1 := by rw [hM1]; exact zFo.sI (by decide)
    have l1 := hl.dn (c := 1) (by omega)
    have c2 := c1.cell (s' := zw (zdn s 1) 2 id 0 (ztop s 1)) (v := ztop s 1) l1 hk hE.2.2.2.1 hi (i := 0) (by omega) (Or.inl ⟨rfl, by omega, rfl⟩)
    rw [Int.add_zero] at c2
    have l2 : zLy (zw (zdn s 1) 2 id 0 (ztop s 1)) := l1
    obtain ⟨M3, r3, c3, f3⟩ := zpat c2 l2 hk hs
    have f2 : zFo κ M1 (sI M1 106 (e.1 23 id 0).toNat (ztop s 1)) := zFo.sI (inW_c (by decide) _)
    refine ⟨M3, ?_, c3.ob hm hw' (f1.tr (f2.tr f3)) hE⟩
    rw [if_neg (n7 (by omega)), if_neg (n3 (by omega)), if_pos (show iI o = 4 from eqI_p (y := 4) rfl rfl o4), gtP_q kk (cf_88_16 C), vC_e kk, cI_e p1, asI_e (ck_106 c1.1) (by omega) (by omega) (by omega)]
    exact r3 _
  · obtain ⟨M', z1, z2⟩ := zc43 (d := d) (v1 := iI o) (v2 := iI (e.1 23 id 0)) (v3 := iI (e.1 5 id 0)) (by omega) h hE hm hl o5 hi ⟨u2, u3⟩ h8 u1 rfl rfl rfl h27 hs hw'
    refine ⟨M', ?_, z2⟩
    rw [if_neg (n7 (by omega)), if_neg (n3 (by omega)), if_neg (n4 (by omega)), gtI_q b2 b5, vC_e kk, cV_e z1]
    rfl
  · subst o7
    obtain ⟨M', z1, z2⟩ := zc46 (d := d) (v1 := iI q) (v2 := iI m) (by omega) h hE hm hl hi u1 hq hid hmb ⟨u2, u3⟩ (fun z => hb _ z (by
      rcases hE.2.2.2.2.2.2.2.2 id hi u1 with w | w
      · have := w.1; omega
      · exact w.2.1)) rfl rfl h27 hs hw'
    refine ⟨M', ?_, z2⟩
    rw [if_pos (show iI 7 = (7 : Int32) from rfl), vC_e kk, cV_e z1]
    rfl
theorem fc42_e (hd : 7 ≤ d) (h : zCM e κ s M) (hE : zCE e κ M) (hw : ∀ k, s.1 8 k 0 = 0 ∨ s.1 8 k 0 = 1 ∨ s.1 8 k 0 = 2) (hm : s.1 1 0 0 = 0) (hl : zLy s) (hi : zId e id) (hq : zSd e q) (hid : id = 96 * q + m) (hmb : 0 ≤ m ∧ m < e.1 24 q 0) (hu : zUs e s o id) (hb : ∀ D, 0 ≤ D → D < 8 → 0 ≤ s.1 17 D 0 ∧ s.1 17 D 0 ≤ 100000) (h27 : zop e (zpc s) ≠ 27) (hs : zpc s + 1 < 1000 ↔ zpc s < 1000) (hw' : zWT e (zuse e s o id (e.1 3 id 0))) : ∃ M', fc42 d (iI o) (some (94 + (zf s).toNat)) M (iI q, iI m) = some (.null, M') ∧ zOb e κ (zuse e s o id (e.1 3 id 0)) M M' := by
  have C := h.1
  have kk := ck_88 C
  obtain ⟨⟨x1, x2, -, -, x5⟩, -⟩ := hE.1.2.2 q hq
  obtain ⟨b24, c2, c3, ow, c4⟩ := hE.2.1.1 q hq
  obtain ⟨⟨b1, b2⟩, b3, -⟩ := hE.2.1.2 id hi
  have q01 : 0 ≤ q ∧ q ≤ 1 := by rcases hq with q0 | ⟨q0, -⟩ <;> omega
  have un := hE.2.2.1.2 id hi
  obtain ⟨key, hkey⟩ : ∃ key, key = e.1 3 id 0 := ⟨_, rfl⟩
  rw [← hkey] at b3 un hw' ⊢
  obtain ⟨k, hk⟩ : ∃ k, k = key - 8 * q := ⟨_, rfl⟩
  have ek : iI (key - (if id < 96 then 0 else 8)) = iI k := congrArg iI (by
    by_cases y : id < 96
    · rw [if_pos y]; omega
    · rw [if_neg y]; omega)
  have kb : 0 ≤ k ∧ k < e.1 25 q 0 := by
    by_cases y : id < 96
    · rw [if_pos y] at un
      have : q = 0 := by omega
      subst this; omega
    · rw [if_neg y] at un
      have : q = 1 := by omega
      subst this; omega
  have part := zpart (d := d) (v := iI m) (n := m) (by omega) c4 rfl hmb (by rw [← hid]; exact b2)
  rw [← hid] at part
  obtain ⟨M1, r, z1, z2⟩ := zc44 (d := d) (v1 := iI q) (v2 := iI k) (key := key) (k := k) (q := q) (o := o) (id := id) (by omega) h hE hm hl (hw key) hq kb (by omega) rfl rfl h27 (by omega) hw'
  have head : fc42 d (iI o) (some (94 + (zf s).toNat)) M (iI q, iI m) = (if r = 0 then some (.null, M1) else (gtI (8, 9) M1 (some (κ 6 id)) 8 fun x14 =>
 lt ((iI q * ((4800 : Int32))) + x14) fun (x15 : Int32) =>
 jn (fun (s16 : Mem) =>
 some (.null, s16)) fun j200 =>
 if iI o = ((7 : Int32)) then (
 vC (4, 22) M1 (some 88) <|
 cV (runX d 46 [va_rf (some 88), .int (iI q), .int (iI m), va_rf (some (κ 6 id))] M1) fun M17 =>
 j200 M17) else (
 if iI o = ((3 : Int32)) then (
 gtP (4, 22) M1 (some 88) 16 fun x18 =>
 alI 100 M1 x18 x15 fun x19 =>
 vC (4, 22) M1 (some 88) <|
 cV (runX d 32 [va_rf (some 88), .int x19] M1) fun M20 =>
 alI 100 M20 (some (94 + (zf s).toNat)) ((0 : Int32)) fun x21 =>
 asI 100 M20 (some (94 + (zf s).toNat)) ((0 : Int32)) ((x21 + ((1 : Int32)))) fun M22 =>
 j200 M22) else (
 if iI o = ((4 : Int32)) then (
 gtP (4, 22) M1 (some 88) 16 fun x23 =>
 vC (4, 22) M1 (some 88) <|
 cI (runX d 33 [va_rf (some 88)] M1) fun x25 M24 =>
 asI 100 M24 x23 x15 x25 fun M26 =>
 alI 100 M26 (some (94 + (zf s).toNat)) ((0 : Int32)) fun x27 =>
 asI 100 M26 (some (94 + (zf s).toNat)) ((0 : Int32)) ((x27 + ((1 : Int32)))) fun M28 =>
 j200 M28) else (
 gtI (8, 9) M1 (some (κ 6 id)) 4 fun x29 =>
 vC (4, 22) M1 (some 88) <|
 cV (runX d 43 [va_rf (some 88), .int (iI o), .int x15, .int x29] M1) fun M30 =>
 j200 M30))) : XA)) := by
    unfold fc42
    refine (gtP_q kk (cf_88_8 C)).trans ?_
    refine (alP_q (z := q) (ck_91 C) rfl (by omega) x1).trans ?_
    refine (gtP_q x2 c2).trans ?_
    refine (cP_e part).trans ?_
    refine (jn_v).trans ?_
    refine (if_neg (fun z => nomatch z)).trans ?_
    refine (gtI_q b2 (b3.trans ek)).trans ?_
    refine (vC_e kk).trans ?_
    exact cI_e z1
  rw [head]
  rcases z2 with ⟨r0, ob⟩ | ⟨r1, f1, s1, e1, c1, s8, sf, sw0, sw1, sw7⟩
  · rw [if_pos r0]
    exact ⟨M1, rfl, ob⟩
  · rw [if_neg (by rw [r1]; decide)]
    have E1 := hE.fo f1
    have zf1 : zf s1 = zf s := by unfold zf; rw [sf 0 (by decide)]
    have zh1 : zh s1 = zh s := by unfold zh; rw [zf1, sf 3 (by decide)]
    have zp1 : zpc s1 = zpc s := by unfold zpc; rw [zf1, sf 2 (by decide)]
    have l1 : zLy s1 := by
      unfold zLy at hl ⊢
      rw [zf1, zh1, sf 0 (by decide), sf 3 (by decide), sf 6 (by decide), sf 16 (by decide)]
      exact hl
    rw [e1] at hw' ⊢
    have hu1 : zUs e s1 o id := by unfold zUs at hu ⊢; rw [zh1]; exact hu
    obtain ⟨M', y1, y2⟩ := zmem_c (d := d) (by omega) c1 E1 (by rw [sf 1 (by decide)]; exact hm) l1 hi hq hid hmb hu1 (by rw [← hkey]; exact s8) (fun D p q => by rw [sf 17 (by decide)]; exact hb D p q) (by rw [zp1]; exact h27) (by rw [zp1]; exact hs) hw'
    rw [zf1] at y1
    exact ⟨M', y1, y2.fo f1⟩
end S99m
