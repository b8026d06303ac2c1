/-! the first object's machine: numbers, places, calculations -/
/-- a code goes on behind a START -/
def zCR (e : ZS) (κ : ZK) (s : ZS) (M : Mem) : Prop := CT M ∧ zCG e κ s M ∧ (∀ i, 0 ≤ i → i < s.1 0 0 0 → zCi s M i) ∧ M.1 88 14 = iI (s.1 0 0 0) ∧ M.1 88 12 = iI (ztp s) ∧ M.1 88 15 = iI 1 ∧ M.1 88 19 = iI 0
/-- an instruction has been done -/
def zOb (e : ZS) (κ : ZK) (u : ZS) (M M' : Mem) : Prop := ∃ t, zto e u t ∧ zFo κ M M' ∧ zCE e κ M' ∧ zWT e t ∧ (t.1 9 0 0 = u.1 9 0 0 ∧ t.1 10 0 0 = u.1 10 0 0) ∧ ((zCM e κ t M' ∧ t.1 1 0 0 = 0) ∨ (zCR e κ t M' ∧ t.1 1 0 0 = 1) ∨ (zend t ∧ zCN e κ t M'))
section S99a
variable {d : Nat} {e s s' u : ZS} {κ : ZK} {M M' M1 M2 : Mem} {a b j : Nat} {v v1 v2 : Int32} {c t k i i' j' w n p o fl ar : Int} {k1 k2 : Nat} {Y : Nat → Int → Int}
theorem zFin.ob (h : zFin e κ u M M') : zOb e κ u M M' := by
  obtain ⟨t, h1, h2, h3, h4, h5, h6⟩ := h
  exact ⟨t, h1, h2, h3, h4, h5, h6.imp id Or.inr⟩
theorem zFin.fo (h : zFin e κ u M1 M') (f : zFo κ M M1) : zFin e κ u M M' := h.st f zto.r ⟨rfl, rfl⟩
theorem zi_zi : zi (zi s k1 i k t) k1 i k c = zi s k1 i k c := by
  refine Prod.ext (funext fun x => funext fun y => funext fun z => ?_) rfl
  show (if x = k1 ∧ y = i ∧ z = k then c else if x = k1 ∧ y = i ∧ z = k then t else s.1 x y z) = if x = k1 ∧ y = i ∧ z = k then c else s.1 x y z
  split <;> rfl
theorem zi_cm (h : k1 ≠ k2) : zi (zi s k1 i k t) k2 i' j' c = zi (zi s k2 i' j' c) k1 i k t := by
  refine Prod.ext (funext fun x => funext fun y => funext fun z => ?_) rfl
  show (if x = k2 ∧ y = i' ∧ z = j' then c else if x = k1 ∧ y = i ∧ z = k then t else s.1 x y z) = if x = k1 ∧ y = i ∧ z = k then t else if x = k2 ∧ y = i' ∧ z = j' then c else s.1 x y z
  by_cases p : x = k1
  · rw [if_neg fun q => h (p.symm.trans q.1)]
    by_cases q : x = k1 ∧ y = i ∧ z = k
    · rw [if_pos q, if_pos q]
    · rw [if_neg q, if_neg q, if_neg fun q => h (p.symm.trans q.1)]
  · rw [if_neg fun q : x = k1 ∧ y = i ∧ z = k => p q.1, if_neg fun q : x = k1 ∧ y = i ∧ z = k => p q.1]
theorem zdn_dn : zdn (zdn s c) t = zdn s (c + t) := by
  show zi (zi s 3 (zf s) 0 (zh s - c)) 3 (zf s) 0 (zh (zdn s c) - t) = zi s 3 (zf s) 0 (zh s - (c + t))
  rw [zi_zi, zdn_h, show zh s - c - t = zh s - (c + t) by omega]
theorem zdn_top : ztop (zdn s c) t = ztop s (c + t) := by
  show s.2 1 (zf s) (zh (zdn s c) - t) = s.2 1 (zf s) (zh s - (c + t))
  rw [zdn_h, show zh s - c - t = zh s - (c + t) by omega]
theorem znx_push : zpush (znx s) v = znx (zpush s v) := by
  show zi (zi (zw s 1 (zf s) (zh s) v) 2 (zf s) 0 (zpc s + 1)) 3 (zf s) 0 (zh s + 1) = zi (zi (zw s 1 (zf s) (zh s) v) 3 (zf s) 0 (zh s + 1)) 2 (zf s) 0 (zpc s + 1)
  exact zi_cm (by decide)
theorem znx_dn : zdn (znx s) c = znx (zdn s c) := zi_cm (by decide)
theorem znx_top : ztop (znx s) c = ztop s c := rfl
theorem zLy.dn (h : zLy s) (hc : 0 ≤ c ∧ c ≤ zh s) : zLy (zdn s c) := by
  obtain ⟨h1, h2, h3, h4, h5⟩ := h
  refine ⟨h1, h2, fun i p q => ?_, ?_, ?_⟩
  · have q' : i < zf s := q
    rw [show (zdn s c).1 3 i 0 = s.1 3 i 0 from zi_i (by omega)]
    exact h3 i p q
  · rw [zdn_h]; omega
  · rw [zdn_h]; omega
theorem zpush_h : zh (zpush s v) = zh s + 1 := zi_e
theorem zLy.push (h : zLy s) (hc : zh s < 200) : zLy (zpush s v) := by
  obtain ⟨h1, h2, h3, h4, h5⟩ := h
  refine ⟨h1, h2, fun i p q => ?_, ?_, ?_⟩
  · have q' : i < zf s := q
    rw [show (zpush s v).1 3 i 0 = s.1 3 i 0 from zi_i (by omega)]
    exact h3 i p q
  · rw [zpush_h]; omega
  · rw [zpush_h]; omega
theorem zLy.go (h : zLy s) : zLy (zgo s t) := h
theorem zLy.tp (h : zLy s) : 0 ≤ ztp s - zh s ∧ 10 ≤ ztp s - zh s ∧ ztp s ≤ 2320 + zh s ∧ 0 ≤ zf s ∧ zf s < 12 := by
  obtain ⟨⟨h1, h1'⟩, h2, h3, h4, h5⟩ := h
  have zfe : zf s = s.1 0 0 0 - 1 := rfl
  have := h2 (zf s) (by omega) (by omega)
  unfold ztp
  omega
/-- the number on top goes -/
theorem zp33 (hd : 1 ≤ d) (h : zCM e κ s M) (hl : zLy s) (hk : zK8 κ) (hh : 1 ≤ zh s) : runX d 33 [va_rf (some 88)] M = some (.int (ztop s 1), sI M 88 12 (iI (ztp s - 1))) ∧ zCM e κ (zdn s 1) (sI M 88 12 (iI (ztp s - 1))) := by
  have tp := hl.tp
  have h45 := hl.2.2.2
  have zfe : zf s = s.1 0 0 0 - 1 := rfl
  refine ⟨?_, h.dn hl hk ⟨by omega, hh⟩⟩
  rw [mC33 hd h.1 h.2.2.2.2.1 (by omega)]
  have := (h.2.2.1 (zf s) (by omega) (by omega)).2.2 (zh s - 1) (by omega) (by show zh s - 1 < zh s; omega)
  have e : ztop s 1 = M.1 92 (ztp s - 1).toNat := by
    show s.2 1 (zf s) (zh s - 1) = _
    rw [← this]
    exact congrArg (fun z : Int => M.1 92 z.toNat) (by unfold ztp; omega)
  rw [e]
/-- a number comes on top -/
theorem zp32 (hd : 1 ≤ d) (h : zCM e κ s M) (hl : zLy s) (hk : zK8 κ) (hh : zh s < 200) : ∃ M', runX d 32 [va_rf (some 88), .int v] M = some (.null, M') ∧ zCM e κ (zpush s v) M' ∧ zFo κ M M' := by
  have tp := hl.tp
  have h45 := hl.2.2.2
  exact ⟨_, mC32 hd h.1 h.2.2.2.2.1 (by omega), h.push hl hh hk, (zFf.sI (zFf.sI zFf.r (inW_c (by decide) _)) (by decide)).fo⟩
/-- the next instruction -/
theorem zpat (h : zCM e κ s M) (hl : zLy s) (hk : zK8 κ) (hs : zpc s + 1 < 1000 ↔ zpc s < 1000) : ∃ M', (∀ K : Mem → XA, (alI 100 M (some (94 + (zf s).toNat)) ((0 : Int32)) fun x1 => asI 100 M (some (94 + (zf s).toNat)) ((0 : Int32)) (x1 + ((1 : Int32))) K) = K M') ∧ zCM e κ (znx s) M' ∧ zFo κ M M' := by
  have tp := hl.tp
  have zfe : zf s = s.1 0 0 0 - 1 := rfl
  have kf : M.2.2.2[94 + (zf s).toNat]? = some (100, 4) := ck94n h.1 (by omega)
  have f0 := (h.2.2.1 (zf s) (by omega) (by omega)).1.1
  have zo : zoff (zpc s + 1) = zoff (zpc s) := by
    unfold zoff
    by_cases y : zpc s < 1000
    · rw [if_pos y, if_pos (hs.2 y)]
    · rw [if_neg y, if_neg fun q => y (hs.1 q)]
  have zpe : s.1 2 (zf s) 0 = zpc s := rfl
  rw [zpe] at f0
  refine ⟨sI M (94 + (zf s).toNat) 0 (iI (zpc s + 1 - zoff (zpc s + 1))), fun K => ?_, h.go hl hk hs, (zFf.sI zFf.r (inW_fx (by omega) _).2).fo⟩
  refine (alI_q (n := 4) (z := 0) kf li_0 (by omega) f0).trans ?_
  refine (asI_q (n := 4) (z := 0) (y := zpc s + 1 - zoff (zpc s + 1)) kf li_0 (by omega) (cvI (adI rfl li_1) (by omega))).trans ?_
  rfl
theorem zc38 (hd : 1 ≤ d) (hv : v = iI o) (ho : 10 ≤ o ∧ o ≤ 20) (hb : ¬ (v2 = 0 ∧ (o = 13 ∨ o = 14))) : runX d 38 [.int v, .int v1, .int v2] M = some (.int (ztwo o v1 v2), M) := by
  obtain ⟨d, rfl⟩ : ∃ e, d = e + 1 := ⟨d - 1, by omega⟩
  subst hv
  rw [r38]; unfold b38; rw [aI_e, aI_e, aI_e, aZ_e]; unfold c38
  rcases two_c ho with c | c | c | c | c | c | c | c | c | c | c <;> subst c
  · rfl
  · rfl
  · rfl
  · have n : ¬ v2 = 0 := fun q => hb ⟨q, Or.inl rfl⟩
    show (if v2 = 0 then _ else if v2 = 0 then none else _ : XA) = _
    rw [if_neg n, if_neg n]; rfl
  · have n : ¬ v2 = 0 := fun q => hb ⟨q, Or.inr rfl⟩
    show (if v2 = 0 then _ else if v2 = 0 then none else _ : XA) = _
    rw [if_neg n, if_neg n]; rfl
  · show (if v2 ≤ v1 then _ else _ : XA) = some (.int (if v2 ≤ v1 then 0 else 1), M)
    split <;> rfl
  · show (if v2 < v1 then _ else _ : XA) = some (.int (if v2 < v1 then 0 else 1), M)
    split <;> rfl
  · show (if v1 = v2 then _ else _ : XA) = some (.int (if v1 = v2 then 1 else 0), M)
    split <;> rfl
  · show (if v1 = v2 then _ else _ : XA) = some (.int (if v1 = v2 then 0 else 1), M)
    split <;> rfl
  · show (if v1 = 0 then _ else if v2 = 0 then _ else _ : XA) = some (.int (if v1 = 0 then 0 else if v2 = 0 then 0 else 1), M)
    split
    · rfl
    · split <;> rfl
  · show (if v1 = 0 then (if v2 = 0 then _ else _) else _ : XA) = some (.int (if v1 = 0 then (if v2 = 0 then 0 else 1) else 1), M)
    split
    · split <;> rfl
    · rfl
/-- what fails ahead of the machine's own -/
theorem zerr_wt (hw : zWT e s) (hm : s.1 1 0 0 = 0) {m : Int} (h37 : m = 3 ∨ m = 7) : zWT e (zerr (zdn s c) v m) := by
  obtain ⟨hb, hc⟩ := hw
  have hb' : zBs e s := hb
  have q : ∃ Y a c, 1 ≤ s.1 0 0 0 ∧ zwf e s (zf s) Y a c := by
    rcases hc with ⟨-, h1, ⟨Y, a, c, w, -⟩, -⟩ | ⟨z, -⟩ | ⟨z, -⟩ | z | z
    · exact ⟨Y, a, c, h1, w⟩
    all_goals omega
  clear hc
  obtain ⟨Y, a, c', h1, w⟩ := q
  exact zWT_er hb' h1 w ⟨rfl, fun i hi => ⟨rfl, zi_i hi, rfl, rfl, rfl⟩, fun i => ⟨rfl, rfl⟩, fun k => ⟨hb'.1.2.2.2.2.2 k, id⟩, hb'.1.2.2.2.2.1⟩ (by rw [show (zerr (zdn s c) v m).1 1 0 0 = m from zi_e]; exact h37) rfl rfl rfl rfl
theorem zdn_0 : zdn s 0 = s := by
  refine Prod.ext (funext fun x => funext fun y => funext fun z => ?_) rfl
  show (if x = 3 ∧ y = zf s ∧ z = 0 then zh s - 0 else s.1 x y z) = s.1 x y z
  split
  · rename_i q
    rw [q.1, q.2.1, q.2.2]
    show zh s - 0 = zh s
    omega
  · rfl
/-- operations 10 to 20 -/
theorem zc37 (hd : 3 ≤ d) (h : zCM e κ s M) (hE : zCE e κ M) (hw : zWT e s) (hm : s.1 1 0 0 = 0) (hl : zLy s) (hv : v = iI o) (ho : 10 ≤ o ∧ o ≤ 20) (hh : 2 ≤ zh s) (h27 : zop e (zpc s) ≠ 27) (hs : zpc s + 1 < 1000 ↔ zpc s < 1000) (hw' : ¬ (ztop s 1 = 0 ∧ (o = 13 ∨ o = 14)) → zWT e (znx (zpush (zdn s 2) (ztwo o (ztop s 2) (ztop s 1))))) : ∃ M', runX d 37 [va_rf (some 88), .int v, va_rf (some (94 + (zf s).toNat))] M = some (.null, M') ∧ zOb e κ (if ztop s 1 = 0 ∧ (o = 13 ∨ o = 14) then zerr (zdn s 2) 1 3 else znx (zpush (zdn s 2) (ztwo o (ztop s 2) (ztop s 1)))) M M' := by
  obtain ⟨d, rfl⟩ : ∃ e, d = e + 1 := ⟨d - 1, by omega⟩
  subst hv
  have hk := hE.2.2.2.2.1.k8
  have h45 := hl.2.2.2
  obtain ⟨p1, c1⟩ := zp33 (d := d) (by omega) h hl hk (by omega)
  obtain ⟨M1, hM1⟩ : ∃ z, z = sI M 88 12 (iI (ztp s - 1)) := ⟨_, rfl⟩
  rw [← hM1] at p1 c1
  have l1 := hl.dn (c := 1) (by omega)
  obtain ⟨p2, c2⟩ := zp33 (d := d) (by omega) c1 l1 hk (by rw [zdn_h]; omega)
  obtain ⟨M2, hM2⟩ : ∃ z, z = sI M1 88 12 (iI (ztp (zdn s 1) - 1)) := ⟨_, rfl⟩
  rw [← hM2] at p2 c2
  rw [zdn_top] at p2
  rw [zdn_dn] at c2
  have l2 := hl.dn (c := 2) (by omega)
  have f2 : zFo κ M M2 := by rw [hM2, hM1]; exact (zFf.sI (zFf.sI zFf.r (by decide)) (by decide)).fo
  have E2 := hE.fo f2
  have k := ck_88 h.1
  have head : ∀ X : Mem, runX (d + 1) 37 [va_rf (some 88), .int (iI o), va_rf (some (94 + (zf s).toNat))] M = (jn (fun (s5 : Unit) => cI (runX d 38 [.int (iI o), .int (ztop s 2), .int (ztop s 1)] M2) fun x7 M6 => vC (4, 22) M6 (some 88) <| cV (runX d 32 [va_rf (some 88), .int x7] M6) fun M8 => alI 100 M8 (some (94 + (zf s).toNat)) ((0 : Int32)) fun x9 => asI 100 M8 (some (94 + (zf s).toNat)) ((0 : Int32)) ((x9 + ((1 : Int32)))) fun M10 => some (.null, M10)) fun j34 => if ztop s 1 = 0 then (jn (fun (s11 : Unit) => vC (4, 22) M2 (some 88) <| cV (runX d 41 [va_rf (some 88), .int ((1 : Int32)), .int ((1 : Int32))] M2) fun M12 => some (.null, M12)) fun j27 => if iI o = ((13 : Int32)) then (j27 ()) else (if iI o = ((14 : Int32)) then (j27 ()) else (j34 ()))) else (j34 ())) := fun _ => by
    rw [r37]; unfold b37; rw [aR_e, aI_e, aR_e, aZ_e]; unfold c37
    rw [vC_e k, cI_e p1, vC_e (ck_88 c1.1), cI_e p2]
    rfl
  rw [head M]
  by_cases y : ztop s 1 = 0 ∧ (o = 13 ∨ o = 14)
  · rw [if_pos y]
    obtain ⟨M', r1, r2⟩ := mC41 (d := d) (s := zdn s 2) (M := M2) (v1 := 1) (v2 := 1) (fl := 1) (m := 3) (by omega) c2 E2 li_1 (Or.inl ⟨rfl, rfl⟩) (zerr_wt hw hm (Or.inl rfl)) h27 (by rw [show (zdn s 2).1 1 0 0 = s.1 1 0 0 from rfl]; omega)
    refine ⟨M', ?_, (r2.fo f2).ob⟩
    rw [jn_v, if_pos y.1, jn_v]
    have t : (jv (fun (_ : Unit) => vC (4, 22) M2 (some 88) <| cV (runX d 41 [va_rf (some 88), .int ((1 : Int32)), .int ((1 : Int32))] M2) fun M12 => some (.null, M12)) () : XA) = some (.null, M') := by
      rw [jv_e, vC_e (ck_88 c2.1), cV_e r1]
    by_cases z : o = 13
    · rw [if_pos (show iI o = 13 from eqI_p (y := 13) rfl rfl z)]; exact t
    · rw [if_neg (show ¬ iI o = 13 from eqI_n (y := 13) rfl rfl (by omega)), if_pos (show iI o = 14 from eqI_p (y := 14) rfl rfl (by omega))]; exact t
  · rw [if_neg y]
    obtain ⟨M3, r3, c3, f3⟩ := zp32 (d := d) (v := ztwo o (ztop s 2) (ztop s 1)) (by omega) c2 l2 hk (by rw [zdn_h]; omega)
    obtain ⟨M4, r4, c4, f4⟩ := zpat c3 (l2.push (by rw [zdn_h]; omega)) hk hs
    refine ⟨M4, ?_, _, zto.r, (f2.tr f3).tr f4, hE.fo ((f2.tr f3).tr f4), hw' y, ⟨rfl, rfl⟩, Or.inl ⟨c4, hm⟩⟩
    have t : (jv (fun (s5 : Unit) => cI (runX d 38 [.int (iI o), .int (ztop s 2), .int (ztop s 1)] M2) fun x7 M6 => vC (4, 22) M6 (some 88) <| cV (runX d 32 [va_rf (some 88), .int x7] M6) fun M8 => alI 100 M8 (some (94 + (zf s).toNat)) ((0 : Int32)) fun x9 => asI 100 M8 (some (94 + (zf s).toNat)) ((0 : Int32)) ((x9 + ((1 : Int32)))) fun M10 => some (.null, M10)) () : XA) = some (.null, M4) := by
      rw [jv_e, cI_e (zc38 (by omega) rfl ho y), vC_e (ck_88 c2.1), cV_e r3]
      exact r4 _
    rw [jn_v]
    by_cases z : ztop s 1 = 0
    · rw [if_pos z, jn_v, if_neg (show ¬ iI o = 13 from eqI_n (y := 13) rfl rfl ⟨by omega, by omega, by omega, by omega, fun q => y ⟨z, Or.inl q⟩⟩), if_neg (show ¬ iI o = 14 from eqI_n (y := 14) rfl rfl ⟨by omega, by omega, by omega, by omega, fun q => y ⟨z, Or.inr q⟩⟩)]
      exact t
    · rw [if_neg z]; exact t
end S99a
